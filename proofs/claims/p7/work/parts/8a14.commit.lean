def rmX6_commitf : Room := { frames := 7, cells := 0, slots := 0, locals := 214 }
set_option maxHeartbeats 4000000 in
set_option maxRecDepth 100000 in
/-- commit -/
theorem c_X6_commitf (l : Launch) (g : gG) (gh : gGh) (pA bA nA : Nat) (nb nr : Nat) (cc : Nat → LC) (cl : Nat → Int) (I : gI) (R : gR) (J : gJ) (AI : gI) (AJ : gJ) (AR : gR) (x : Nat) (hv : gInv g gh R AR I AI) (hx : xS g gh R AR x pA bA nA) (h37 : gh 42 0 ≠ 1) (hnb : (I (gh 37 0) 3).toInt = (nb : Int)) (hbt : btO (AI (gh 0 (gh 37 0))) nb) (hlen : (I pA 1).toInt = (nr : Int)) (htb2 : 0 ≤ (I pA 2).toInt ∧ (I pA 2).toInt ≤ (nr : Int) ∧ nr ≤ 16) (hln : ∀ r, r < nr → lnC (I (rob AR (gh 6 pA) r)) (AI (gh 3 (rob AR (gh 6 pA) r))) (cc r)) (hcK : ∀ r : Nat, r < nr → (I pA 2).toInt ≤ (r : Int) → cOK (cc r) r cl ∧ cZ (cc r) r cl) (hbg : ∀ r, r < nr → bgOK (rfC gh AR I AI bA) cl r) (hbz : btZ cl (AI (gh 0 (gh 37 0))) nb) (htb : ∀ i, i < nb → 0 ≤ ((AI (gh 0 (gh 37 0))) (6 * i)).toInt ∧ ((AI (gh 0 (gh 37 0))) (6 * i)).toInt < (I pA 2).toInt) (hD : xD gh AR bA nA) : gMet l g yX6_commit wsX6_commit rmX6_commitf [.ref x] (I, R, J, AI, AJ, AR) (gQi g (fun (z : Int) (w : gS) => J = w.2.2.1 ∧ AJ = w.2.2.2.2.1 ∧ AR = w.2.2.2.2.2 ∧ (gInv g gh (w.2.1) AR (w.1) (w.2.2.2.1)) ∧ (xF g x I (w.1)) ∧ (∃ b1 n1, xS g gh (w.2.1) AR x pA b1 n1) ∧ (∀ b k, b ≠ x ∨ (k ≠ 5 ∧ k ≠ 6) → (w.2.1) b k = R b k) ∧ (((w.1) (gh 37 0) 3).toInt = 0) ∧ (∃ (code : Int) (Fn : RF), rnP (I pA 2).toInt nr cc (∃ i, i < nb ∧ blw (AI (gh 0 (gh 37 0))) (rfC gh AR I AI bA) 1 i) (tbS (AI (gh 0 (gh 37 0))) nb (rfC gh AR I AI bA) 1) code Fn ∧ (code = 0 → stA (I pA 2).toInt cc (tbS (AI (gh 0 (gh 37 0))) nb (rfC gh AR I AI bA) 1) cl Fn nr) ∧ ((code ≠ 0 ∧ z = code ∧ xS g gh (w.2.1) AR x pA bA nA ∧ cmS gh AR x bA I AI (w.1) (w.2.2.2.1) ∧ (w.1) x 14 = I x 14 ∧ (w.1) x 15 = I x 15 ∧ (w.1) x 16 = I x 16 ∧ (w.1) x 17 = I x 17 + 1) ∨ (code = 0 ∧ xS g gh (w.2.1) AR x pA nA bA ∧ cmY gh AR x bA nA nr (I pA 2).toInt I AI nb Fn z (w.1) (w.2.2.2.1)))) ∧ ((w.1) (gh 38 0) 3 = I (gh 38 0) 3))) := by
  refine gStart (cc := cX6_commit) (maxL := 2) (ret := (some (.int))) (by decide) rfl (Nat.le_of_ble_eq_true rfl) ?_
  intro p e s m below meth c ls F hr hlk hH hz hS hl
  have hl : lv_has ls 2 [(0, .ref x)] := hl
  have hS : va_S (gA g) s.heap s.heap [] := hS
  obtain ⟨H, hHe⟩ : ∃ H : Heap, H = s.heap := ⟨_, rfl⟩
  obtain ⟨locs, hlo⟩ : ∃ k : List Loc, k = [] := ⟨_, rfl⟩
  have hH : gH g I R J AI AJ AR H := by rw [hHe]; exact hH
  have hS : va_S (gA g) s.heap H locs := by rw [hHe, hlo]; exact hS
  suffices hw : W p l e rmX6_commitf s m ([.ref x] : List Value).toArray below meth c H locs 0 0 (MQ below (gQi g (fun (z : Int) (w : gS) => J = w.2.2.1 ∧ AJ = w.2.2.2.2.1 ∧ AR = w.2.2.2.2.2 ∧ (gInv g gh (w.2.1) AR (w.1) (w.2.2.2.1)) ∧ (xF g x I (w.1)) ∧ (∃ b1 n1, xS g gh (w.2.1) AR x pA b1 n1) ∧ (∀ b k, b ≠ x ∨ (k ≠ 5 ∧ k ≠ 6) → (w.2.1) b k = R b k) ∧ (((w.1) (gh 37 0) 3).toInt = 0) ∧ (∃ (code : Int) (Fn : RF), rnP (I pA 2).toInt nr cc (∃ i, i < nb ∧ blw (AI (gh 0 (gh 37 0))) (rfC gh AR I AI bA) 1 i) (tbS (AI (gh 0 (gh 37 0))) nb (rfC gh AR I AI bA) 1) code Fn ∧ (code = 0 → stA (I pA 2).toInt cc (tbS (AI (gh 0 (gh 37 0))) nb (rfC gh AR I AI bA) 1) cl Fn nr) ∧ ((code ≠ 0 ∧ z = code ∧ xS g gh (w.2.1) AR x pA bA nA ∧ cmS gh AR x bA I AI (w.1) (w.2.2.2.1) ∧ (w.1) x 14 = I x 14 ∧ (w.1) x 15 = I x 15 ∧ (w.1) x 16 = I x 16 ∧ (w.1) x 17 = I x 17 + 1) ∨ (code = 0 ∧ xS g gh (w.2.1) AR x pA nA bA ∧ cmY gh AR x bA nA nr (I pA 2).toInt I AI nb Fn z (w.1) (w.2.2.2.1)))) ∧ ((w.1) (gh 38 0) 3 = I (gh 38 0) 3))) ([.ref x] : List Value).toArray s 0 0 (gA g)) (F0 m 0 ls []) by
    rw [hHe, hlo] at hw; exact hw
  clear hHe hlo
  have xf : xF g x I I := xF_r
  have h37g := gR_x8 hv hx.1
  have h39g := gR_x10 hv hx.1
  have h38g := gR_x9 hv hx.1
  have h16g := gI_x hv hx.1
  have hc39 : gh 37 0 ≠ gh 39 0 := fun e9 => by have q9 := h37g.2.2.2; rw [e9, h39g.2.2.2] at q9; exact absurd q9 (by decide)
  have hnn := hx.2.2.2.2.2.2
  have h35g := (gR_x7 hv hx.1).2
  have h36g := (gR_x13 hv hx.1).2
  have hx0 := hx
  have hv00 := hv
  have iX6 : ∀ w ∈ u_ws RX6 TX6 18, w ∈ wsX6_commit := (by decide +kernel)
  have iX4 : ∀ w ∈ u_ws RX4 TX4 4, w ∈ wsX6_commit := (by decide +kernel)
  have k53 : Cond.fieldLink RX6 53 (TX6 8).1 (TX6 8).2.1 (TX6 8).2.2.1 ∈ wsX6_commit := List.mem_of_getElem? (i := 1) rfl
  have k103 : Cond.fieldLink RX6 103 (TX6 16).1 (TX6 16).2.1 (TX6 16).2.2.1 ∈ wsX6_commit := List.mem_of_getElem? (i := 2) rfl
  have k106 : Cond.fieldLink RX6 106 (TX6 17).1 (TX6 17).2.1 (TX6 17).2.2.1 ∈ wsX6_commit := List.mem_of_getElem? (i := 3) rfl
  have k99 : Cond.fieldLink RX6 99 (TX4 3).1 (TX4 3).2.1 (TX4 3).2.2.1 ∈ wsX6_commit := List.mem_of_getElem? (i := 4) rfl
  refine lv_aload_n F.1 F.2.1 dX6_commit_0 rfl (lv_at hl 0 rfl) ?_
  refine lv_aload_n F.1 F.2.1 dX6_commit_1 rfl (lv_at hl 0 rfl) ?_
  obtain ⟨r_1a, r_1b, r_1c, r_1d⟩ := gR_x8 hv hx.1
  refine g_getR (ci := 6) (k := 8) F hH rfl (by decide) iX6 hx.1 (by decide) rfl (b := gh 37 0) r_1a k53 dX6_commit_2 ?_
  refine z_iconst F dX6_commit_5 ?_
  have b_2 := gI_x hv hx.1
  obtain ⟨b_3a, b_3b, b_3c, b_3d, b_3e, b_3f, b_3g, b_3h⟩ := gI_rows hv r_1b
  refine g_calli (g_runV (As := [.ref (gh 37 0), .int (iI 1)]) (rest := []) (ci := 6) F hl.1 hH hS hz (c_X6_reckonNextf l g gh pA bA nA nb nr cc cl I R J AI AJ AR x (gh 37 0) 1 ⟨by decide, by decide⟩ hv hx r_1b (by omega) hnb hbt hc39 h37g.2.2.1 (by omega) (by omega) hln hcK hbg hbz htb hD.2.1 hD.2.2.1 (fun r hr => isRA_37 hnn hr)) (cwV 2 F.2.2.2.2.1 gX6_commit_X6_reckonNext rfl rfl rfl hdX6_reckonNext ⟨Nat.le_of_ble_eq_true rfl, Nat.le_of_ble_eq_true rfl⟩) hx.1 (by decide) rfl rfl rfl (Nat.le_of_ble_eq_true rfl) dX6_commit_6 ⟨Nat.zero_le _, Nat.zero_le _⟩) hS (fun v_10 I_4 R_5 J_6 AI_7 AJ_8 AR_9 H locs zv_10 hp_11 hH hS => ?_)
  dsimp only at hp_11
  obtain ⟨rfl, rfl, rfl, rfl, hv, rfq, q_12, nIq, nAq, qrn, qst⟩ := hp_11
  have xf := xF_t xf (xF_rF hx.1 rfq)
  have u_13 : (I_4 x 1).toInt = (I x 1).toInt := by rw [xf.2]
  have u_13p : I_4 pA = I pA := xf.1 pA 2 hx.2.2.1 (by decide) (by decide)
  have u_13p1 : (I_4 pA 1).toInt = (I pA 1).toInt := by rw [u_13p]
  have u_13p2 : (I_4 pA 2).toInt = (I pA 2).toInt := by rw [u_13p]
  have e37I : I_4 (gh 37 0) = I (gh 37 0) := nIq _ hc39 (fun r hr => isRA_37 hnn hr)
  have e37A : AI_7 (gh 0 (gh 37 0)) = (AI (gh 0 (gh 37 0))) := nAf_o nAq hv hx.1 h37g.2.1 hnn hc39 (fun r hr => isRA_37 hnn hr)
  have eX : I_4 x = I x := nIq x (gO_ne hx.1 h39g.2.1 (by decide)) (fun r hr => (gO_ne hx.1 (isRA_o hnn hr).2.1 (by decide)).symm)
  have epA : I_4 pA = I pA := nIq pA (gO_ne hx.2.2.1 h39g.2.1 (by decide)) (fun r hr => (gO_ne hx.2.2.1 (isRA_o hnn hr).2.1 (by decide)).symm)
  have hnb1 : (I_4 (gh 37 0) 3).toInt = (nb : Int) := by rw [e37I]; exact hnb
  have hcs := cmS_n hv hx hD nIq nAq
  refine lv_istore_n (lv' := [(1, .int (iI v_10)), (0, .ref x)]) F.1 F.2.1 dX6_commit_9 rfl hl (by decide) rfl (fun ls hl => ?_)
  refine lv_iload_n F.1 F.2.1 dX6_commit_10 rfl (lv_at hl 0 rfl) ?_
  refine z_if_ne (tgt := 44) F dX6_commit_11 (by decide) zv_10 (fun c_14 => ?_) (fun c_14 => ?_)
  · refine lv_aload_n F.1 F.2.1 dX6_commit_44 rfl (lv_at hl 1 rfl) ?_
    refine lv_dup F.1 F.2.1 dX6_commit_45 rfl ?_
    refine g_getI (ci := 6) (k := 17) F hH rfl (by decide) iX6 hx.1 (by decide) rfl k106 dX6_commit_46 ?_
    refine z_iconst F dX6_commit_49 ?_
    refine z_iadd F dX6_commit_50 ?_
    refine z_norm (fun v_15 zv_15 ev_15 => ?_)
    refine g_putI (ci := 6) (k := 17) F hH hS rfl (by decide) iX6 hx.1 (by decide) tyX6 tyX6_ok nmX6 rfl rfl rfl k106 dX6_commit_51 (fun H locs hH hS => ?_)
    obtain ⟨I_16, eI_16⟩ : ∃ qQ, qQ = gup2 I_4 x 17 (iI (v_15)) := ⟨_, rfl⟩
    rw [← eI_16] at hH
    have kI_16 : ∀ b, b ≠ x → I_16 b = I_4 b := fun b hb => by rw [eI_16]; exact funext fun j => gup2_a _ _ hb
    have hv : gInv g gh R AR I_16 AI_7 := by rw [eI_16]; exact gInv_x17 hv hx.1
    have xf : xF g x I I_16 := xF_t xf (by rw [eI_16]; exact xF_k hx.1 (by decide))
    have w_17t : (I_16 x 1).toInt = (I x 1).toInt := by rw [xf.2]
    have w_17_14 : (I_16 x 14).toInt = (I_4 x 14).toInt := by rw [eI_16, gup2_k _ _ (by decide)]
    have w_17_15 : (I_16 x 15).toInt = (I_4 x 15).toInt := by rw [eI_16, gup2_k _ _ (by decide)]
    have f3 : ∀ b j, b ≠ x ∨ j ≠ 17 → I_16 b j = I_4 b j := fun b j h => by rw [eI_16]; rcases h with h | h; (· exact gup2_a _ _ h); (· exact gup2_k _ _ h)
    have f4 : I_16 x 17 = I_4 x 17 + 1 := by rw [eI_16, gup2_s, ev_15, ← iI_add, iI_self]; rfl
    refine lv_aload_n F.1 F.2.1 dX6_commit_54 rfl (lv_at hl 1 rfl) ?_
    refine g_getR (ci := 6) (k := 8) F hH rfl (by decide) iX6 hx.1 (by decide) rfl (b := gh 37 0) r_1a k53 dX6_commit_55 ?_
    refine z_iconst F dX6_commit_58 ?_
    refine g_putI (ci := 4) (k := 3) F hH hS rfl (by decide) iX4 r_1b (by decide) tyX4 tyX4_ok nmX4 rfl rfl rfl k99 dX6_commit_59 (fun H locs hH hS => ?_)
    obtain ⟨I_18, eI_18⟩ : ∃ qQ, qQ = gup2 I_16 (gh 37 0) 3 (iI (0)) := ⟨_, rfl⟩
    rw [← eI_18] at hH
    have kI_18 : ∀ b, b ≠ (gh 37 0) → I_18 b = I_16 b := fun b hb => by rw [eI_18]; exact funext fun j => gup2_a _ _ hb
    have w_19 : (I_18 (gh 37 0) 3).toInt = 0 := by rw [eI_18, gup2_s]; exact iI_val ⟨by omega, by omega⟩
    have hv : gInv g gh R AR I_18 AI_7 := by rw [eI_18]; exact gInv_len hv r_1b (by omega) (by omega) (by first | exact hfz | omega)
    have xf : xF g x I I_18 := xF_t xf (xF_rF hx.1 (rF_o r_1b kI_18))
    have w_20x : (I_18 x 1).toInt = (I x 1).toInt := by rw [xf.2]
    have b5 : ∀ b j, b ≠ gh 37 0 ∨ j ≠ 3 → I_18 b j = I_16 b j := fun b j h => by rw [eI_18]; rcases h with h | h; (· exact gup2_a _ _ h); (· exact gup2_k _ _ h)
    have hcm := cm_no hv00 hx0 hD nIq nAq f3 f4 b5
    refine lv_iload_n F.1 F.2.1 dX6_commit_62 rfl (lv_at hl 0 rfl) ?_
    exact g_iret F hr hlk hH hS hz zv_10 ⟨rfl, rfl, rfl, hv, xf, ⟨_, _, hx⟩, fun _ _ _ => rfl, by first | omega | rfl | (dsimp only; omega), ⟨_, (rfC gh AR I_4 AI_7 nA), qrn, qst, Or.inl ⟨by omega, rfl, hx, hcm⟩⟩, by (try dsimp only); rw [b5 _ 3 (Or.inl hD.2.2.2.2.2.2.1.symm), f3 _ 3 (Or.inl (gO_ne h38g.2.1 hx0.1 (by decide))), nIq _ (fun e9 => by have q9 := h38g.2.2.2; rw [e9, h39g.2.2.2] at q9; exact absurd q9 (by decide)) (fun r hr => ra_ne1 hnn h38g.2.2.1 h38g.2.2.2 (Or.inr (by decide)) hr)]⟩ dX6_commit_63
  · refine lv_aload_n F.1 F.2.1 dX6_commit_14 rfl (lv_at hl 1 rfl) ?_
    refine lv_aload_n F.1 F.2.1 dX6_commit_15 rfl (lv_at hl 1 rfl) ?_
    refine g_getR (ci := 6) (k := 8) F hH rfl (by decide) iX6 hx.1 (by decide) rfl (b := gh 37 0) r_1a k53 dX6_commit_16 ?_
    have b_21 := gI_x hv hx.1
    obtain ⟨b_22a, b_22b, b_22c, b_22d, b_22e, b_22f, b_22g, b_22h⟩ := gI_rows hv r_1b
    refine g_callv (g_runV (As := [.ref (gh 37 0)]) (rest := []) (ci := 6) F hl.1 hH hS hz (c_X6_rememberf l g gh pA bA nA nb I_4 R J AI_7 AJ AR x (gh 37 0) hv hx r_1b (by omega) hnb1 (by have q9 := (gI_rows hv h37g.2.1).2.2.2.1; rw [h37g.2.2.1, hnb1] at q9; omega)) (cwV 1 F.2.2.2.2.1 gX6_commit_X6_remember rfl rfl rfl hdX6_remember ⟨Nat.le_of_ble_eq_true rfl, Nat.le_of_ble_eq_true rfl⟩) hx.1 (by decide) rfl rfl rfl (Nat.le_of_ble_eq_true rfl) dX6_commit_19 ⟨Nat.zero_le _, Nat.zero_le _⟩) hS (fun I_23 R_24 J_25 AI_26 AJ_27 AR_28 H locs hp_29 hH hS => ?_)
    dsimp only at hp_29
    obtain ⟨rfl, rfl, rfl, rfl, hv, xfq, qR1, qR2, qR3, qR4⟩ := hp_29
    have xf := xF_t xf xfq
    have u_30 : (I_23 x 1).toInt = (I x 1).toInt := by rw [xf.2]
    have u_30p : I_23 pA = I pA := xf.1 pA 2 hx.2.2.1 (by decide) (by decide)
    have u_30p1 : (I_23 pA 1).toInt = (I pA 1).toInt := by rw [u_30p]
    have u_30p2 : (I_23 pA 2).toInt = (I pA 2).toInt := by rw [u_30p]
    refine lv_aload_n F.1 F.2.1 dX6_commit_22 rfl (lv_at hl 1 rfl) ?_
    refine lv_dup F.1 F.2.1 dX6_commit_23 rfl ?_
    refine g_getI (ci := 6) (k := 16) F hH rfl (by decide) iX6 hx.1 (by decide) rfl k103 dX6_commit_24 ?_
    refine z_iconst F dX6_commit_27 ?_
    refine z_iadd F dX6_commit_28 ?_
    refine z_norm (fun v_31 zv_31 ev_31 => ?_)
    refine g_putI (ci := 6) (k := 16) F hH hS rfl (by decide) iX6 hx.1 (by decide) tyX6 tyX6_ok nmX6 rfl rfl rfl k103 dX6_commit_29 (fun H locs hH hS => ?_)
    obtain ⟨I_32, eI_32⟩ : ∃ qQ, qQ = gup2 I_23 x 16 (iI (v_31)) := ⟨_, rfl⟩
    rw [← eI_32] at hH
    have kI_32 : ∀ b, b ≠ x → I_32 b = I_23 b := fun b hb => by rw [eI_32]; exact funext fun j => gup2_a _ _ hb
    have hv : gInv g gh R AR I_32 AI_26 := by rw [eI_32]; exact gInv_x16 hv hx.1
    have xf : xF g x I I_32 := xF_t xf (by rw [eI_32]; exact xF_k hx.1 (by decide))
    have w_33t : (I_32 x 1).toInt = (I x 1).toInt := by rw [xf.2]
    have w_33_14 : (I_32 x 14).toInt = (I_23 x 14).toInt := by rw [eI_32, gup2_k _ _ (by decide)]
    have w_33_15 : (I_32 x 15).toInt = (I_23 x 15).toInt := by rw [eI_32, gup2_k _ _ (by decide)]
    have d3 : ∀ b j, b ≠ x ∨ j ≠ 16 → I_32 b j = I_23 b j := fun b j h => by rw [eI_32]; rcases h with h | h; (· exact gup2_a _ _ h); (· exact gup2_k _ _ h)
    have d4 : I_32 x 16 = I_23 x 16 + 1 := by rw [eI_32, gup2_s, ev_31, ← iI_add, iI_self]; rfl
    have stb : ∀ r, r < 16 → rfC gh AR I_32 AI_26 bA r = rfC gh AR I_4 AI_7 bA r := fun r hr => by
      have o := isRA_o hx.2.2.2.2.1 hr
      have nh : rob AR bA r ≠ rob AR (gh 36 0) (I_4 x 14).toInt.toNat := ra_ne hx.2.2.2.2.1 h36g (Or.inr (by decide)) hr (by rw [eX]; omega)
      have nx : rob AR bA r ≠ x := gO_ne o.2.1 hx.1 (by decide)
      unfold rfC; rw [d3 _ 3 (Or.inl nx), qR1 _ 3 (Or.inl nx) nh, qR2 _ (cells_ne hv (isRA_o h36g (by rw [eX]; omega)).2.1 o.2.1 nh)]
    have stn : ∀ r, r < 16 → rfC gh AR I_32 AI_26 nA r = rfC gh AR I_4 AI_7 nA r := fun r hr => by
      have o := isRA_o hnn hr
      have nh : rob AR nA r ≠ rob AR (gh 36 0) (I_4 x 14).toInt.toNat := ra_ne hnn h36g (Or.inr (by decide)) hr (by rw [eX]; omega)
      have nx : rob AR nA r ≠ x := gO_ne o.2.1 hx.1 (by decide)
      unfold rfC; rw [d3 _ 3 (Or.inl nx), qR1 _ 3 (Or.inl nx) nh, qR2 _ (cells_ne hv (isRA_o h36g (by rw [eX]; omega)).2.1 o.2.1 nh)]
    have hst9 := qst (by omega)
    have hbg9 : ∀ r, r < nr → bgOK (rfC gh AR I_32 AI_26 bA) cl r := fun r hr => by have q9 := hbg r hr; unfold bgOK at q9 ⊢; rw [stb r (by omega), hcs.1 r (by omega)]; exact q9
    have hbn9 : ∀ r, r < nr → bgOK (rfC gh AR I_32 AI_26 nA) cl r := fun r hr => by have q9 := (hst9 r hr).2; unfold bgOK at q9 ⊢; rw [stn r (by omega)]; exact q9
    have hp3 : (I_32 pA 1).toInt = (nr : Int) := by
      rw [d3 pA 1 (Or.inl (gO_ne hx.2.2.1 hx.1 (by decide))), qR1 pA 1 (Or.inl (gO_ne hx.2.2.1 hx.1 (by decide))) (gO_ne hx.2.2.1 (isRA_o h36g (by rw [eX]; omega)).2.1 (by decide)), epA]; exact hlen
    refine lv_aload_n F.1 F.2.1 dX6_commit_32 rfl (lv_at hl 1 rfl) ?_
    have b_34 := gI_x hv hx.1
    refine g_callv (g_runV (As := []) (rest := []) (ci := 6) F hl.1 hH hS hz (c_X6_takeNextf l g gh pA bA nA nr cl I_32 R J AI_26 AJ AR x hv hx hp3 (by omega) hbg9 hbn9 hD.2.2.2.1) (cwV 0 F.2.2.2.2.1 gX6_commit_X6_takeNext rfl rfl rfl hdX6_takeNext ⟨Nat.le_of_ble_eq_true rfl, Nat.le_of_ble_eq_true rfl⟩) hx.1 (by decide) rfl rfl rfl (Nat.le_of_ble_eq_true rfl) dX6_commit_33 ⟨Nat.zero_le _, Nat.zero_le _⟩) hS (fun I_35 R_36 J_37 AI_38 AJ_39 AR_40 H locs hp_41 hH hS => ?_)
    dsimp only at hp_41
    obtain ⟨rfl, rfl, rfl, hv, rfq, xs2, rk, tIq, tAq, tMq⟩ := hp_41
    have xf := xF_t xf (xF_rF hx.1 rfq)
    have u_42 : (I_35 x 1).toInt = (I x 1).toInt := by rw [xf.2]
    have u_42p : I_35 pA = I pA := xf.1 pA 2 hx.2.2.1 (by decide) (by decide)
    have u_42p1 : (I_35 pA 1).toInt = (I pA 1).toInt := by rw [u_42p]
    have u_42p2 : (I_35 pA 2).toInt = (I pA 2).toInt := by rw [u_42p]
    have hx := xs2
    have epA4 : I_35 pA = I pA := by
      have o2 := hx0.2.2.1
      rw [tIq pA (fun r hr => gO_ne (isRA_o h35g hr).2.1 o2 (by decide))]
      funext j
      rw [d3 pA j (Or.inl (gO_ne o2 hx0.1 (by decide))), qR1 pA j (Or.inl (gO_ne o2 hx0.1 (by decide))) (gO_ne o2 (isRA_o h36g (by rw [eX]; omega)).2.1 (by decide)), epA]
    refine lv_aload_n F.1 F.2.1 dX6_commit_36 rfl (lv_at hl 1 rfl) ?_
    have b_43 := gI_x hv hx.1
    refine g_calli (g_runV (As := []) (rest := []) (ci := 6) F hl.1 hH hS hz (c_X6_movedInViewsf l g gh pA nA bA nr I_35 R_36 J AI_38 AJ AR x hv hx (by rw [epA4]; exact hlen) (by rw [epA4]; exact htb2)) (cwV 0 F.2.2.2.2.1 gX6_commit_X6_movedInViews rfl rfl rfl hdX6_movedInViews ⟨Nat.le_of_ble_eq_true rfl, Nat.le_of_ble_eq_true rfl⟩) hx.1 (by decide) rfl rfl rfl (Nat.le_of_ble_eq_true rfl) dX6_commit_37 ⟨Nat.zero_le _, Nat.zero_le _⟩) hS (fun v_50 I_44 R_45 J_46 AI_47 AJ_48 AR_49 H locs zv_50 hp_51 hH hS => ?_)
    dsimp only at hp_51
    obtain ⟨rfl, rfl, rfl, rfl, rfl, rfl, q_52, qsm⟩ := hp_51
    refine lv_istore_n (lv' := [(1, .int (iI v_50)), (0, .ref x)]) F.1 F.2.1 dX6_commit_40 rfl hl (by decide) rfl (fun ls hl => ?_)
    refine z_goto (tgt := 54) F dX6_commit_41 (by decide) ?_
    refine lv_aload_n F.1 F.2.1 dX6_commit_54 rfl (lv_at hl 1 rfl) ?_
    obtain ⟨r_53a, r_53b, r_53c, r_53d⟩ := gR_x8 hv hx.1
    refine g_getR (ci := 6) (k := 8) F hH rfl (by decide) iX6 hx.1 (by decide) rfl (b := gh 37 0) r_53a k53 dX6_commit_55 ?_
    refine z_iconst F dX6_commit_58 ?_
    refine g_putI (ci := 4) (k := 3) F hH hS rfl (by decide) iX4 r_53b (by decide) tyX4 tyX4_ok nmX4 rfl rfl rfl k99 dX6_commit_59 (fun H locs hH hS => ?_)
    obtain ⟨I_54, eI_54⟩ : ∃ qQ, qQ = gup2 I_35 (gh 37 0) 3 (iI (0)) := ⟨_, rfl⟩
    rw [← eI_54] at hH
    have kI_54 : ∀ b, b ≠ (gh 37 0) → I_54 b = I_35 b := fun b hb => by rw [eI_54]; exact funext fun j => gup2_a _ _ hb
    have w_55 : (I_54 (gh 37 0) 3).toInt = 0 := by rw [eI_54, gup2_s]; exact iI_val ⟨by omega, by omega⟩
    have hv : gInv g gh R_36 AR I_54 AI_38 := by rw [eI_54]; exact gInv_len hv r_53b (by omega) (by omega) (by first | exact hfz | omega)
    have xf : xF g x I I_54 := xF_t xf (xF_rF hx.1 (rF_o r_53b kI_54))
    have w_56x : (I_54 x 1).toInt = (I x 1).toInt := by rw [xf.2]
    have b5 : ∀ b j, b ≠ gh 37 0 ∨ j ≠ 3 → I_54 b j = I_35 b j := fun b j h => by rw [eI_54]; rcases h with h | h; (· exact gup2_a _ _ h); (· exact gup2_k _ _ h)
    have hcm := cm_yes (tbs := (I pA 2).toInt) (nr := nr) (nb := nb) (z := v_50) hv00 hx0 hD ⟨h16g.2.2.1, h16g.2.2.2.1⟩ (by omega) nIq nAq qR1 qR2 qR3 qR4 d3 d4 tIq tAq tMq b5 (by rw [qsm, epA4])
    refine lv_iload_n F.1 F.2.1 dX6_commit_62 rfl (lv_at hl 0 rfl) ?_
    exact g_iret F hr hlk hH hS hz zv_50 ⟨rfl, rfl, rfl, hv, xf, ⟨_, _, hx⟩, rk, by first | omega | rfl | (dsimp only; omega), ⟨0, (rfC gh AR I_4 AI_7 nA), by rw [← show v_10 = 0 by omega]; exact qrn, fun _ => hst9, Or.inr ⟨rfl, hx, hcm⟩⟩, by (try dsimp only); rw [b5 _ 3 (Or.inl hD.2.2.2.2.2.2.1.symm), tIq _ (fun r hr => ra_ne1 h35g h38g.2.2.1 h38g.2.2.2 (Or.inr (by decide)) hr), d3 _ 3 (Or.inl (gO_ne h38g.2.1 hx0.1 (by decide))), qR1 _ 3 (Or.inl (gO_ne h38g.2.1 hx0.1 (by decide))) (fun e9 => hD.2.2.2.2.2.1 _ (by rw [eX]; omega) e9.symm), nIq _ (fun e9 => by have q9 := h38g.2.2.2; rw [e9, h39g.2.2.2] at q9; exact absurd q9 (by decide)) (fun r hr => ra_ne1 hnn h38g.2.2.1 h38g.2.2.2 (Or.inr (by decide)) hr)]⟩ dX6_commit_63
