def rmX6_isRelationf : Room := { frames := 0, cells := 0, slots := 0, locals := 0 }
set_option maxHeartbeats 4000000 in
set_option maxRecDepth 100000 in
/-- a relation -/
theorem c_X6_isRelationf (l : Launch) (g : gG) (gh : gGh) (pA bA nA : Nat) (I : gI) (R : gR) (J : gJ) (AI : gI) (AJ : gJ) (AR : gR) (x : Nat) (rel : Int) (zrel : zr rel) (hv : gInv g gh R AR I AI) (hx : xS g gh R AR x pA bA nA) : gMet l g yX6_isRelation wsX6_isRelation rmX6_isRelationf [.ref x, .int (iI rel)] (I, R, J, AI, AJ, AR) (gQi g (fun (z : Int) (w : gS) => I = w.1 ∧ R = w.2.1 ∧ J = w.2.2.1 ∧ AI = w.2.2.2.1 ∧ AJ = w.2.2.2.2.1 ∧ AR = w.2.2.2.2.2 ∧ ((z = 0 ∨ z = 1) ∧ (z = 1 → 0 ≤ rel ∧ rel < (I pA 1).toInt ∧ rel ≤ 15)) ∧ (z = 0 → rel < 0 ∨ (I pA 1).toInt ≤ rel))) := by
  refine gStart (cc := cX6_isRelation) (maxL := 2) (ret := (some (.boolean))) (by decide) rfl (Nat.le_of_ble_eq_true rfl) ?_
  intro p e s m below meth c ls F hr hlk hH hz hS hl
  have hl : lv_has ls 2 [(0, .ref x), (1, .int (iI rel))] := hl
  have hS : va_S (gA g) s.heap s.heap [] := hS
  obtain ⟨H, hHe⟩ : ∃ H : Heap, H = s.heap := ⟨_, rfl⟩
  obtain ⟨locs, hlo⟩ : ∃ k : List Loc, k = [] := ⟨_, rfl⟩
  have hH : gH g I R J AI AJ AR H := by rw [hHe]; exact hH
  have hS : va_S (gA g) s.heap H locs := by rw [hHe, hlo]; exact hS
  suffices hw : W p l e rmX6_isRelationf s m ([.ref x, .int (iI rel)] : List Value).toArray below meth c H locs 0 0 (MQ below (gQi g (fun (z : Int) (w : gS) => I = w.1 ∧ R = w.2.1 ∧ J = w.2.2.1 ∧ AI = w.2.2.2.1 ∧ AJ = w.2.2.2.2.1 ∧ AR = w.2.2.2.2.2 ∧ ((z = 0 ∨ z = 1) ∧ (z = 1 → 0 ≤ rel ∧ rel < (I pA 1).toInt ∧ rel ≤ 15)) ∧ (z = 0 → rel < 0 ∨ (I pA 1).toInt ≤ rel))) ([.ref x, .int (iI rel)] : List Value).toArray s 0 0 (gA g)) (F0 m 0 ls []) by
    rw [hHe, hlo] at hw; exact hw
  clear hHe hlo
  have iX6 : ∀ w ∈ u_ws RX6 TX6 18, w ∈ wsX6_isRelation := (by decide +kernel)
  have iX2 : ∀ w ∈ u_ws RX2 TX2 3, w ∈ wsX6_isRelation := (by decide +kernel)
  have k23 : Cond.fieldLink RX6 23 (TX6 3).1 (TX6 3).2.1 (TX6 3).2.2.1 ∈ wsX6_isRelation := List.mem_of_getElem? (i := 1) rfl
  have k96 : Cond.fieldLink RX6 96 (TX2 1).1 (TX2 1).2.1 (TX2 1).2.2.1 ∈ wsX6_isRelation := List.mem_of_getElem? (i := 2) rfl
  refine lv_iload_n F.1 F.2.1 dX6_isRelation_0 rfl (lv_at hl 1 rfl) ?_
  refine z_if_lt (tgt := 19) F dX6_isRelation_1 (by decide) zrel (fun c_1 => ?_) (fun c_1 => ?_)
  · refine z_iconst F dX6_isRelation_19 ?_
    exact g_zret F hr hlk hH hS hz (by omega) ⟨rfl, rfl, rfl, rfl, rfl, rfl, ⟨by omega, fun _ => by omega⟩, fun h9 => by omega⟩ dX6_isRelation_20
  · refine lv_iload_n F.1 F.2.1 dX6_isRelation_4 rfl (lv_at hl 1 rfl) ?_
    refine lv_aload_n F.1 F.2.1 dX6_isRelation_5 rfl (lv_at hl 0 rfl) ?_
    refine g_getR (ci := 6) (k := 3) F hH rfl (by decide) iX6 hx.1 (by decide) rfl (b := pA) hx.2.1 k23 dX6_isRelation_6 ?_
    refine g_getI (ci := 2) (k := 1) F hH rfl (by decide) iX2 hx.2.2.1 (by decide) rfl k96 dX6_isRelation_9 ?_
    have b_2 := gI_plan hv hx.2.2.1
    refine z_icmp_ge (tgt := 19) F dX6_isRelation_12 (by decide) zrel (zr_t _) (fun c_3 => ?_) (fun c_3 => ?_)
    · refine z_iconst F dX6_isRelation_19 ?_
      exact g_zret F hr hlk hH hS hz (by omega) ⟨rfl, rfl, rfl, rfl, rfl, rfl, ⟨by omega, fun _ => by omega⟩, fun h9 => by omega⟩ dX6_isRelation_20
    · refine z_iconst F dX6_isRelation_15 ?_
      refine z_goto (tgt := 20) F dX6_isRelation_16 (by decide) ?_
      exact g_zret F hr hlk hH hS hz (by omega) ⟨rfl, rfl, rfl, rfl, rfl, rfl, ⟨by omega, fun _ => by omega⟩, fun h9 => by omega⟩ dX6_isRelation_20

def rmX6_wouldf : Room := { frames := 7, cells := 0, slots := 0, locals := 214 }
set_option maxHeartbeats 4000000 in
set_option maxRecDepth 100000 in
/-- would -/
theorem c_X6_wouldf (l : Launch) (g : gG) (gh : gGh) (pA bA nA : Nat) (nb nr : Nat) (cc : Nat → LC) (cl : Nat → Int) (I : gI) (R : gR) (J : gJ) (AI : gI) (AJ : gJ) (AR : gR) (x : Nat) (rel : Int) (zrel : zr rel) (hv : gInv g gh R AR I AI) (hx : xS g gh R AR x pA bA nA) (hnb : (I (gh 37 0) 3).toInt = (nb : Int)) (hbt : btO (AI (gh 0 (gh 37 0))) nb) (hlen : (I pA 1).toInt = (nr : Int)) (htb2 : 0 ≤ (I pA 2).toInt ∧ (I pA 2).toInt ≤ (nr : Int) ∧ nr ≤ 16) (hln : ∀ r, r < nr → lnC (I (rob AR (gh 6 pA) r)) (AI (gh 3 (rob AR (gh 6 pA) r))) (cc r)) (hcK : ∀ r : Nat, r < nr → (I pA 2).toInt ≤ (r : Int) → cOK (cc r) r cl ∧ cZ (cc r) r cl) (hbg : ∀ r, r < nr → bgOK (rfC gh AR I AI bA) cl r) (hbz : btZ cl (AI (gh 0 (gh 37 0))) nb) (htb : ∀ i, i < nb → 0 ≤ ((AI (gh 0 (gh 37 0))) (6 * i)).toInt ∧ ((AI (gh 0 (gh 37 0))) (6 * i)).toInt < (I pA 2).toInt) (hD : xD gh AR bA nA) : gMet l g yX6_would wsX6_would rmX6_wouldf [.ref x, .int (iI rel)] (I, R, J, AI, AJ, AR) (gQi g (fun (z : Int) (w : gS) => R = w.2.1 ∧ J = w.2.2.1 ∧ AJ = w.2.2.2.2.1 ∧ AR = w.2.2.2.2.2 ∧ (gInv g gh R AR (w.1) (w.2.2.2.1)) ∧ (rF g I (w.1)) ∧ (((rel < 0 ∨ (nr : Int) ≤ rel) ∧ z = -1) ∨ ((0 ≤ rel ∧ rel < (nr : Int)) ∧ ∃ (code : Int) (Fn : RF), rnP (I pA 2).toInt nr cc (∃ i, i < nb ∧ blw (AI (gh 0 (gh 37 0))) (rfC gh AR I AI bA) 1 i) (tbS (AI (gh 0 (gh 37 0))) nb (rfC gh AR I AI bA) 1) code Fn ∧ (code ≠ 0 → z = code) ∧ (code = 0 → z = (((Fn rel.toNat).1 : Nat) : Int)))) ∧ (cmS gh AR x bA I AI (w.1) (w.2.2.2.1) ∧ (w.1) x = I x ∧ (w.1) (gh 37 0) = I (gh 37 0) ∧ (w.2.2.2.1) (gh 0 (gh 37 0)) = AI (gh 0 (gh 37 0)) ∧ (w.1) (gh 38 0) = I (gh 38 0)))) := by
  refine gStart (cc := cX6_would) (maxL := 3) (ret := (some (.int))) (by decide) rfl (Nat.le_of_ble_eq_true rfl) ?_
  intro p e s m below meth c ls F hr hlk hH hz hS hl
  have hl : lv_has ls 3 [(0, .ref x), (1, .int (iI rel))] := hl
  have hS : va_S (gA g) s.heap s.heap [] := hS
  obtain ⟨H, hHe⟩ : ∃ H : Heap, H = s.heap := ⟨_, rfl⟩
  obtain ⟨locs, hlo⟩ : ∃ k : List Loc, k = [] := ⟨_, rfl⟩
  have hH : gH g I R J AI AJ AR H := by rw [hHe]; exact hH
  have hS : va_S (gA g) s.heap H locs := by rw [hHe, hlo]; exact hS
  suffices hw : W p l e rmX6_wouldf s m ([.ref x, .int (iI rel)] : List Value).toArray below meth c H locs 0 0 (MQ below (gQi g (fun (z : Int) (w : gS) => R = w.2.1 ∧ J = w.2.2.1 ∧ AJ = w.2.2.2.2.1 ∧ AR = w.2.2.2.2.2 ∧ (gInv g gh R AR (w.1) (w.2.2.2.1)) ∧ (rF g I (w.1)) ∧ (((rel < 0 ∨ (nr : Int) ≤ rel) ∧ z = -1) ∨ ((0 ≤ rel ∧ rel < (nr : Int)) ∧ ∃ (code : Int) (Fn : RF), rnP (I pA 2).toInt nr cc (∃ i, i < nb ∧ blw (AI (gh 0 (gh 37 0))) (rfC gh AR I AI bA) 1 i) (tbS (AI (gh 0 (gh 37 0))) nb (rfC gh AR I AI bA) 1) code Fn ∧ (code ≠ 0 → z = code) ∧ (code = 0 → z = (((Fn rel.toNat).1 : Nat) : Int)))) ∧ (cmS gh AR x bA I AI (w.1) (w.2.2.2.1) ∧ (w.1) x = I x ∧ (w.1) (gh 37 0) = I (gh 37 0) ∧ (w.2.2.2.1) (gh 0 (gh 37 0)) = AI (gh 0 (gh 37 0)) ∧ (w.1) (gh 38 0) = I (gh 38 0)))) ([.ref x, .int (iI rel)] : List Value).toArray s 0 0 (gA g)) (F0 m 0 ls []) by
    rw [hHe, hlo] at hw; exact hw
  clear hHe hlo
  have rf : rF g I I := rF_r
  have h37g := gR_x8 hv hx.1
  have h39g := gR_x10 hv hx.1
  have h38g := gR_x9 hv hx.1
  have h16g := gI_x hv hx.1
  have hc39 : gh 37 0 ≠ gh 39 0 := fun e9 => by have q9 := h37g.2.2.2; rw [e9, h39g.2.2.2] at q9; exact absurd q9 (by decide)
  have hnn := hx.2.2.2.2.2.2
  have h35g := (gR_x7 hv hx.1).2
  have h36g := (gR_x13 hv hx.1).2
  have hx0 := hx
  have hv00 := hv
  have iX6 : ∀ w ∈ u_ws RX6 TX6 18, w ∈ wsX6_would := (by decide +kernel)
  have iX4 : ∀ w ∈ u_ws RX4 TX4 4, w ∈ wsX6_would := (by decide +kernel)
  have k53 : Cond.fieldLink RX6 53 (TX6 8).1 (TX6 8).2.1 (TX6 8).2.2.1 ∈ wsX6_would := List.mem_of_getElem? (i := 1) rfl
  have k42 : Cond.fieldLink RX6 42 (TX6 6).1 (TX6 6).2.1 (TX6 6).2.2.1 ∈ wsX6_would := List.mem_of_getElem? (i := 2) rfl
  have k99 : Cond.fieldLink RX6 99 (TX4 3).1 (TX4 3).2.1 (TX4 3).2.2.1 ∈ wsX6_would := List.mem_of_getElem? (i := 3) rfl
  refine lv_aload_n F.1 F.2.1 dX6_would_0 rfl (lv_at hl 0 rfl) ?_
  refine lv_iload_n F.1 F.2.1 dX6_would_1 rfl (lv_at hl 1 rfl) ?_
  have b_1 := gI_x hv hx.1
  refine g_calli (g_runV (As := [.int (iI rel)]) (rest := []) (ci := 6) F hl.1 hH hS hz (c_X6_isRelationf l g gh pA bA nA I R J AI AJ AR x rel zrel hv hx) (cwV 1 F.2.2.2.2.1 gX6_would_X6_isRelation rfl rfl rfl hdX6_isRelation ⟨Nat.le_of_ble_eq_true rfl, Nat.le_of_ble_eq_true rfl⟩) hx.1 (by decide) rfl rfl rfl (Nat.le_of_ble_eq_true rfl) dX6_would_2 ⟨Nat.zero_le _, Nat.zero_le _⟩) hS (fun v_8 I_2 R_3 J_4 AI_5 AJ_6 AR_7 H locs zv_8 hp_9 hH hS => ?_)
  dsimp only at hp_9
  obtain ⟨rfl, rfl, rfl, rfl, rfl, rfl, q_10, qir⟩ := hp_9
  refine z_if_ne (tgt := 10) F dX6_would_5 (by decide) zv_8 (fun c_11 => ?_) (fun c_11 => ?_)
  · refine lv_aload_n F.1 F.2.1 dX6_would_10 rfl (lv_at hl 0 rfl) ?_
    refine lv_aload_n F.1 F.2.1 dX6_would_11 rfl (lv_at hl 0 rfl) ?_
    obtain ⟨r_12a, r_12b, r_12c, r_12d⟩ := gR_x8 hv hx.1
    refine g_getR (ci := 6) (k := 8) F hH rfl (by decide) iX6 hx.1 (by decide) rfl (b := gh 37 0) r_12a k53 dX6_would_12 ?_
    refine z_iconst F dX6_would_15 ?_
    obtain ⟨b_13a, b_13b, b_13c, b_13d, b_13e, b_13f, b_13g, b_13h⟩ := gI_rows hv r_12b
    refine g_calli (g_runV (As := [.ref (gh 37 0), .int (iI 1)]) (rest := []) (ci := 6) F hl.1 hH hS hz (c_X6_reckonNextf l g gh pA bA nA nb nr cc cl I R J AI AJ AR x (gh 37 0) 1 ⟨by decide, by decide⟩ hv hx r_12b (by omega) hnb hbt hc39 h37g.2.2.1 (by omega) (by omega) hln hcK hbg hbz htb hD.2.1 hD.2.2.1 (fun r hr => isRA_37 hnn hr)) (cwV 2 F.2.2.2.2.1 gX6_would_X6_reckonNext rfl rfl rfl hdX6_reckonNext ⟨Nat.le_of_ble_eq_true rfl, Nat.le_of_ble_eq_true rfl⟩) hx.1 (by decide) rfl rfl rfl (Nat.le_of_ble_eq_true rfl) dX6_would_16 ⟨Nat.zero_le _, Nat.zero_le _⟩) hS (fun v_20 I_14 R_15 J_16 AI_17 AJ_18 AR_19 H locs zv_20 hp_21 hH hS => ?_)
    dsimp only at hp_21
    obtain ⟨rfl, rfl, rfl, rfl, hv, rfq, q_22, nIq, nAq, qrn, qst⟩ := hp_21
    have rf := rF_t rf rfq
    have u_23p : I_14 pA = I pA := rf pA 2 hx.2.2.1 (by decide)
    have u_23p1 : (I_14 pA 1).toInt = (I pA 1).toInt := by rw [u_23p]
    have u_23p2 : (I_14 pA 2).toInt = (I pA 2).toInt := by rw [u_23p]
    have e37I : I_14 (gh 37 0) = I (gh 37 0) := nIq _ hc39 (fun r hr => isRA_37 hnn hr)
    have e37A : AI_17 (gh 0 (gh 37 0)) = (AI (gh 0 (gh 37 0))) := nAf_o nAq hv hx.1 h37g.2.1 hnn hc39 (fun r hr => isRA_37 hnn hr)
    have eX : I_14 x = I x := nIq x (gO_ne hx.1 h39g.2.1 (by decide)) (fun r hr => (gO_ne hx.1 (isRA_o hnn hr).2.1 (by decide)).symm)
    have epA : I_14 pA = I pA := nIq pA (gO_ne hx.2.2.1 h39g.2.1 (by decide)) (fun r hr => (gO_ne hx.2.2.1 (isRA_o hnn hr).2.1 (by decide)).symm)
    have hnb1 : (I_14 (gh 37 0) 3).toInt = (nb : Int) := by rw [e37I]; exact hnb
    have hcs := cmS_n hv hx hD nIq nAq
    have e38 : I_14 (gh 38 0) = I (gh 38 0) := nIq _ (fun e9 => by have q9 := h38g.2.2.2; rw [e9, h39g.2.2.2] at q9; exact absurd q9 (by decide)) (fun r hr => ra_ne1 hnn h38g.2.2.1 h38g.2.2.2 (Or.inr (by decide)) hr)
    refine lv_istore_n (lv' := [(2, .int (iI v_20)), (0, .ref x), (1, .int (iI rel))]) F.1 F.2.1 dX6_would_19 rfl hl (by decide) rfl (fun ls hl => ?_)
    refine lv_iload_n F.1 F.2.1 dX6_would_20 rfl (lv_at hl 0 rfl) ?_
    refine z_if_eq (tgt := 28) F dX6_would_21 (by decide) zv_20 (fun c_24 => ?_) (fun c_24 => ?_)
    · refine lv_aload_n F.1 F.2.1 dX6_would_28 rfl (lv_at hl 1 rfl) ?_
      refine g_getR (ci := 6) (k := 6) F hH rfl (by decide) iX6 hx.1 (by decide) rfl (b := nA) hx.2.2.2.2.2.1 k42 dX6_would_29 ?_
      refine lv_iload_n F.1 F.2.1 dX6_would_32 rfl (lv_at hl 2 rfl) ?_
      have hx33 : 0 ≤ rel ∧ rel < ((16 : Nat) : Int) ∧ rel ≤ 2147483647 := ⟨by omega, by omega, by omega⟩
      obtain ⟨y_25, y_25a, y_25b, y_25c, y_25d, y_25e⟩ := hx.2.2.2.2.2.2.2 (rel).toNat (by omega)
      refine g_aldR F hH hx.2.2.2.2.2.2.1 hx33.1 hx33.2.1 hx33.2.2 (b := y_25) y_25a dX6_would_33 ?_
      have hwl : (I_14 y_25 3).toInt = (((rfC gh AR I_14 AI_17 nA rel.toNat).1 : Nat) : Int) := by unfold rfC; rw [rob_e y_25a]; have q9 := (gI_rows hv y_25b).2.2.1; omega
      refine g_getI (ci := 4) (k := 3) F hH rfl (by decide) iX4 y_25b (by decide) rfl k99 dX6_would_34 ?_
      obtain ⟨b_26a, b_26b, b_26c, b_26d, b_26e, b_26f, b_26g, b_26h⟩ := gI_rows hv y_25b
      exact g_iret F hr hlk hH hS hz (zr_t _) ⟨rfl, rfl, rfl, rfl, hv, rf, Or.inr ⟨by omega, _, _, qrn, fun h9 => by first | rfl | omega | (dsimp only; omega), fun h9 => by first | omega | (dsimp only; omega)⟩, ⟨hcs, eX, e37I, e37A, e38⟩⟩ dX6_would_37
    · refine lv_iload_n F.1 F.2.1 dX6_would_24 rfl (lv_at hl 0 rfl) ?_
      refine z_goto (tgt := 37) F dX6_would_25 (by decide) ?_
      exact g_iret F hr hlk hH hS hz zv_20 ⟨rfl, rfl, rfl, rfl, hv, rf, Or.inr ⟨by omega, _, _, qrn, fun h9 => by first | rfl | omega | (dsimp only; omega), fun h9 => by first | omega | (dsimp only; omega)⟩, ⟨hcs, eX, e37I, e37A, e38⟩⟩ dX6_would_37
  · refine z_iconst F dX6_would_8 ?_
    exact g_iret F hr hlk hH hS hz ⟨by decide, by decide⟩ ⟨rfl, rfl, rfl, rfl, hv, rf, Or.inl ⟨by have q9 := qir (by omega); omega, rfl⟩, ⟨⟨fun _ _ => rfl, fun _ _ => rfl, fun _ _ => rfl⟩, rfl, rfl, rfl, rfl⟩⟩ dX6_would_9
