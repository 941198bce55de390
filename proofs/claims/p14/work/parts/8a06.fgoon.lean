def rmX3_arrivef : Room := { frames := 2, cells := 0, slots := 0, locals := 84 }
set_option maxHeartbeats 4000000 in
set_option maxRecDepth 100000 in
/-- a tuple comes to a ring -/
theorem c_X3_arrivef (l : Launch) (g : gG) (gh : gGh) (t : Tup) (I : gI) (R : gR) (J : gJ) (AI : gI) (AJ : gJ) (AR : gR) (a : Nat) (out : Nat) (row : Int) (rd : Int) (zrow : zr row) (zrd : zr rd) (hv : gInv g gh R AR I AI) (ha : gO g a 3) (hout : gO g out 4) (h4 : gh 2 out = 4) (hlm : gh 1 out = 120) (ht : ∀ j, j < 4 → AI (gh 30 0) j = tg t j) (hrw : 0 ≤ row) (hat : atW (AI (gh 0 out)) (I out 3).toInt.toNat row.toNat t) : gMet l g yX3_arrive wsX3_arrive rmX3_arrivef [.ref a, .ref out, .int (iI row), .int (iI rd)] (I, R, J, AI, AJ, AR) (gQi g (fun (z : Int) (w : gS) => R = w.2.1 ∧ J = w.2.2.1 ∧ AJ = w.2.2.2.2.1 ∧ AR = w.2.2.2.2.2 ∧ (gInv g gh R AR (w.1) (w.2.2.2.1)) ∧ (rF g I (w.1)) ∧ (z = 0 ∨ z = 1) ∧ (kI out I (w.1)) ∧ (kA gh out AI (w.2.2.2.1)) ∧ ((z = 0 ∧ (gh 1 out : Int) ≤ (I out 3).toInt ∧ (w.2.2.2.1) (gh 32 0) = AI (gh 32 0)) ∨ (z = 1 ∧ (I out 3).toInt < (gh 1 out : Int) ∧ ((w.1) out 3).toInt = (I out 3).toInt + 1 ∧ insW (AI (gh 0 out)) ((w.2.2.2.1) (gh 0 out)) row.toNat (I out 3).toInt.toNat t 1 (iI rd) ∧ (∀ j : Nat, (j : Int) < 4 * (I out 3).toInt → (w.2.2.2.1) (gh 32 0) j = AI (gh 32 0) j) ∧ arT ((w.2.2.2.1) (gh 32 0)) (I out 3).toInt.toNat = t)) ∧ ((w.2.2.2.1) (gh 30 0) = AI (gh 30 0) ∧ (w.2.2.2.1) (gh 31 0) = AI (gh 31 0)))) := by
  refine gStart (cc := cX3_arrive) (maxL := 5) (ret := (some (.boolean))) (by decide) rfl (Nat.le_of_ble_eq_true rfl) ?_
  intro p e s m below meth c ls F hr hlk hH hz hS hl
  have hl : lv_has ls 5 [(0, .ref a), (1, .ref out), (2, .int (iI row)), (3, .int (iI rd))] := hl
  have hS : va_S (gA g) s.heap s.heap [] := hS
  obtain ⟨H, hHe⟩ : ∃ H : Heap, H = s.heap := ⟨_, rfl⟩
  obtain ⟨locs, hlo⟩ : ∃ k : List Loc, k = [] := ⟨_, rfl⟩
  have hH : gH g I R J AI AJ AR H := by rw [hHe]; exact hH
  have hS : va_S (gA g) s.heap H locs := by rw [hHe, hlo]; exact hS
  suffices hw : W p l e rmX3_arrivef s m ([.ref a, .ref out, .int (iI row), .int (iI rd)] : List Value).toArray below meth c H locs 0 0 (MQ below (gQi g (fun (z : Int) (w : gS) => R = w.2.1 ∧ J = w.2.2.1 ∧ AJ = w.2.2.2.2.1 ∧ AR = w.2.2.2.2.2 ∧ (gInv g gh R AR (w.1) (w.2.2.2.1)) ∧ (rF g I (w.1)) ∧ (z = 0 ∨ z = 1) ∧ (kI out I (w.1)) ∧ (kA gh out AI (w.2.2.2.1)) ∧ ((z = 0 ∧ (gh 1 out : Int) ≤ (I out 3).toInt ∧ (w.2.2.2.1) (gh 32 0) = AI (gh 32 0)) ∨ (z = 1 ∧ (I out 3).toInt < (gh 1 out : Int) ∧ ((w.1) out 3).toInt = (I out 3).toInt + 1 ∧ insW (AI (gh 0 out)) ((w.2.2.2.1) (gh 0 out)) row.toNat (I out 3).toInt.toNat t 1 (iI rd) ∧ (∀ j : Nat, (j : Int) < 4 * (I out 3).toInt → (w.2.2.2.1) (gh 32 0) j = AI (gh 32 0) j) ∧ arT ((w.2.2.2.1) (gh 32 0)) (I out 3).toInt.toNat = t)) ∧ ((w.2.2.2.1) (gh 30 0) = AI (gh 30 0) ∧ (w.2.2.2.1) (gh 31 0) = AI (gh 31 0)))) ([.ref a, .ref out, .int (iI row), .int (iI rd)] : List Value).toArray s 0 0 (gA g)) (F0 m 0 ls []) by
    rw [hHe, hlo] at hw; exact hw
  clear hHe hlo
  have rf : rF g I I := rF_r
  have fI : kI out I I := kI_r
  have fA : kA gh out AI AI := kA_r
  have hck := cells_k hv ha hout
  have hrn := rk_ne hv ha
  have hal := hat.1
  have iX4 : ∀ w ∈ u_ws RX4 TX4 4, w ∈ wsX3_arrive := (by decide +kernel)
  have iX3 : ∀ w ∈ u_ws RX3 TX3 3, w ∈ wsX3_arrive := (by decide +kernel)
  have k23 : Cond.fieldLink RX3 23 (TX4 3).1 (TX4 3).2.1 (TX4 3).2.2.1 ∈ wsX3_arrive := List.mem_of_getElem? (i := 1) rfl
  have k11 : Cond.fieldLink RX3 11 (TX3 0).1 (TX3 0).2.1 (TX3 0).2.2.1 ∈ wsX3_arrive := List.mem_of_getElem? (i := 2) rfl
  have k20 : Cond.fieldLink RX3 20 (TX3 2).1 (TX3 2).2.1 (TX3 2).2.2.1 ∈ wsX3_arrive := List.mem_of_getElem? (i := 3) rfl
  refine lv_aload_n F.1 F.2.1 dX3_arrive_0 rfl (lv_at hl 1 rfl) ?_
  refine g_getI (ci := 4) (k := 3) F hH rfl (by decide) iX4 hout (by decide) rfl k23 dX3_arrive_1 ?_
  obtain ⟨b_1a, b_1b, b_1c, b_1d, b_1e, b_1f, b_1g, b_1h⟩ := gI_rows hv hout
  refine z_iconst F dX3_arrive_4 ?_
  refine z_imul F dX3_arrive_5 ?_
  refine lv_istore (lv' := [(4, .int (iI (((I out 3).toInt) * 4))), (0, .ref a), (1, .ref out), (2, .int (iI row)), (3, .int (iI rd))]) F.1 F.2.1 dX3_arrive_6 hl (by decide) rfl (fun ls hl => ?_)
  refine lv_aload_n F.1 F.2.1 dX3_arrive_8 rfl (lv_at hl 2 rfl) ?_
  refine lv_iload_n F.1 F.2.1 dX3_arrive_9 rfl (lv_at hl 3 rfl) ?_
  refine lv_aload_n F.1 F.2.1 dX3_arrive_10 rfl (lv_at hl 1 rfl) ?_
  obtain ⟨r_2a, r_2b⟩ := gR_rk0 hv ha
  refine g_getR (ci := 3) (k := 0) F hH rfl (by decide) iX3 ha (by decide) rfl (b := gh 30 0) r_2a k11 dX3_arrive_11 ?_
  refine z_iconst F dX3_arrive_14 ?_
  refine g_calli (g_runV (As := [.int (iI row), .ref (gh 30 0), .int (iI 1)]) (rest := []) (ci := 4) F hl.1 hH hS hz (c_X4_insertf l g gh I R J AI AJ AR out row (gh 30 0) 1 zrow ⟨by decide, by decide⟩ hv hout r_2b (ro30 hv ha) (fun h => absurd h (by omega)) (by first | exact hfz | omega)) (cwV 3 F.2.2.2.2.1 gX3_arrive_X4_insert rfl rfl rfl hdX4_insert ⟨Nat.le_of_ble_eq_true rfl, Nat.le_of_ble_eq_true rfl⟩) hout (by decide) rfl rfl rfl (Nat.le_of_ble_eq_true rfl) dX3_arrive_15 ⟨Nat.zero_le _, Nat.zero_le _⟩) hS (fun v_9 I_3 R_4 J_5 AI_6 AJ_7 AR_8 H locs zv_9 hp_10 hH hS => ?_)
  dsimp only at hp_10
  obtain ⟨rfl, rfl, rfl, rfl, hv, q_11, q_12, q0, q1, qin⟩ := hp_10
  have rf := rF_t rf (rF_o hout q_11)
  have fI := kI_t fI q_11
  have fA := kA_t fA (kA_o q_12)
  refine z_if_ne (tgt := 23) F dX3_arrive_18 (by decide) zv_9 (fun c_13 => ?_) (fun c_13 => ?_)
  · refine lv_aload_n F.1 F.2.1 dX3_arrive_23 rfl (lv_at hl 2 rfl) ?_
    refine lv_iload_n F.1 F.2.1 dX3_arrive_24 rfl (lv_at hl 3 rfl) ?_
    refine z_iconst F dX3_arrive_25 ?_
    refine lv_iload_n F.1 F.2.1 dX3_arrive_26 rfl (lv_at hl 4 rfl) ?_
    obtain ⟨b_14a, b_14b, b_14c, b_14d, b_14e, b_14f, b_14g, b_14h⟩ := gI_rows hv hout
    refine g_callv (g_runV (As := [.int (iI row), .int (iI 5), .int (iI rd)]) (rest := []) (ci := 4) F hl.1 hH hS hz (c_X4_setCell l g gh I_3 R J AI_6 AJ AR out row 5 rd zrow ⟨by decide, by decide⟩ zrd hv hout (by omega) (by omega) (by omega) (by omega) (by omega) (by first | exact hfz | omega)) (cwV 3 F.2.2.2.2.1 gX3_arrive_X4_setCell rfl rfl rfl hdX4_setCell ⟨Nat.le_of_ble_eq_true rfl, Nat.le_of_ble_eq_true rfl⟩) hout (by decide) rfl rfl rfl (Nat.le_of_ble_eq_true rfl) dX3_arrive_27 ⟨Nat.zero_le _, Nat.zero_le _⟩) hS (fun I_15 R_16 J_17 AI_18 AJ_19 AR_20 H locs hp_21 hH hS => ?_)
    dsimp only at hp_21
    obtain ⟨rfl, rfl, rfl, rfl, rfl, qset, hv, q_22⟩ := hp_21
    have fA := kA_t fA (kA_o q_22)
    refine lv_aload_n F.1 F.2.1 dX3_arrive_30 rfl (lv_at hl 1 rfl) ?_
    refine g_getR (ci := 3) (k := 0) F hH rfl (by decide) iX3 ha (by decide) rfl (b := gh 30 0) r_2a k11 dX3_arrive_31 ?_
    refine z_iconst F dX3_arrive_34 ?_
    refine lv_aload_n F.1 F.2.1 dX3_arrive_35 rfl (lv_at hl 1 rfl) ?_
    obtain ⟨r_23a, r_23b⟩ := gR_rk2 hv ha
    refine g_getR (ci := 3) (k := 2) F hH rfl (by decide) iX3 ha (by decide) rfl (b := gh 32 0) r_23a k20 dX3_arrive_36 ?_
    refine lv_iload F.1 F.2.1 dX3_arrive_39 (lv_at hl 0 rfl) ?_
    refine z_iconst F dX3_arrive_41 ?_
    have hx42 : 0 ≤ (0 : Int) ∧ 0 ≤ (((I out 3).toInt) * 4) ∧ 0 ≤ (4 : Int) ∧ (0 : Int) + 4 ≤ ((5 : Nat) : Int) ∧ (((I out 3).toInt) * 4) + 4 ≤ ((480 : Nat) : Int) ∧ (0 : Int) ≤ 2147483647 ∧ (((I out 3).toInt) * 4) ≤ 2147483647 ∧ (4 : Int) ≤ 2147483647 := ⟨by omega, by omega, by omega, by omega, by omega, by omega, by omega, by omega⟩
    refine g_copyi (rest := []) F hl.1 hH hS r_2b r_23b (List.mem_of_getElem? (i := 4) rfl) (List.mem_of_getElem? (i := 5) rfl) (List.mem_of_getElem? (i := 6) rfl) (List.mem_of_getElem? (i := 7) rfl) hx42 (Nat.le_of_ble_eq_true rfl) (Nat.le_of_ble_eq_true rfl) dX3_arrive_42 (fun H locs hH hS => ?_)
    obtain ⟨AI_24, eAI_24⟩ : ∃ qQ, qQ = gup1 AI_18 (gh 32 0) (va_cpy (AI_18 (gh 30 0)) (AI_18 (gh 32 0)) ((0 : Int)).toNat ((((I out 3).toInt) * 4)).toNat ((4 : Int)).toNat) := ⟨_, rfl⟩
    rw [← eAI_24] at hH
    have kAI_24 : ∀ b, b ≠ (gh 32 0) → AI_24 b = AI_18 b := fun b hb => by rw [eAI_24]; exact gup1_a _ _ hb
    have hv : gInv g gh R AR I_3 AI_24 := gInv_plain hv (ro32 hv ha) kAI_24
    have fA := kA_t fA (kA_2 kAI_24)
    refine z_iconst F dX3_arrive_45 ?_
    exact g_zret F hr hlk hH hS hz (by omega) ⟨rfl, rfl, rfl, rfl, hv, rf, by first | omega | rfl | (dsimp only; omega), fI, fA, by
      obtain ⟨-, qi⟩ := qin.resolve_left (fun h => by omega)
      rw [h4] at qi
      have hiw := insP_W (n := (I out 3).toInt.toNat) (key_tu ht) hrw (by omega) qi
      have e30 : AI_18 (gh 30 0) = AI (gh 30 0) := (q_22 _ hck.1.symm).trans (q_12 _ hck.1.symm)
      have e32 : AI_18 (gh 32 0) = AI (gh 32 0) := (q_22 _ hck.2.2.symm).trans (q_12 _ hck.2.2.symm)
      refine Or.inr ⟨rfl, by omega, by (try dsimp only); omega, insW_m hiw (fun j hj => by (try dsimp only); rw [kAI_24 _ hck.2.2, qset, gup2_k _ _ (by omega)]) (by (try dsimp only); rw [kAI_24 _ hck.2.2, qset, gup2_e _ _ (by omega)]), fun j hj => ?_, tg_x (fun j hj => ?_)⟩
      · (try dsimp only)
        rw [eAI_24, gup1_s]; unfold va_cpy; rw [if_neg (by omega), e32]
      · (try dsimp only)
        rw [arT_at hj, eAI_24, gup1_s]; unfold va_cpy; rw [if_pos ⟨by omega, by omega⟩, e30, ← ht j hj]; congr 1; omega, ⟨by (try dsimp only); rw [kAI_24 _ hrn.2.1, q_22 _ hck.1.symm, q_12 _ hck.1.symm], by (try dsimp only); rw [kAI_24 _ hrn.2.2, q_22 _ hck.2.1.symm, q_12 _ hck.2.1.symm]⟩⟩ dX3_arrive_46
  · refine z_iconst F dX3_arrive_21 ?_
    exact g_zret F hr hlk hH hS hz (by omega) ⟨rfl, rfl, rfl, rfl, hv, rf, by first | omega | rfl | (dsimp only; omega), fI, fA, Or.inl ⟨rfl, by rcases qin with h | h; (· omega); (· omega), by (try dsimp only); rcases qin with h | h; (· rw [h.2.1]); (· omega)⟩, ⟨q_12 _ hck.1.symm, q_12 _ hck.2.1.symm⟩⟩ dX3_arrive_22

def rmX3_goOnf : Room := { frames := 3, cells := 0, slots := 0, locals := 108 }
set_option maxHeartbeats 4000000 in
set_option maxRecDepth 100000 in
/-- what comes of one tuple -/
theorem c_X3_goOnf (l : Launch) (g : gG) (gh : gGh) (lc : LC) (my a9 : Nat) (Ps Qs : Tup → Prop) (Ms : Tup → Int32) (Tk : Tup) (I : gI) (R : gR) (J : gJ) (AI : gI) (AJ : gJ) (AR : gR) (a : Nat) (ln : Nat) (ar : Int) (inb : Nat) (out : Nat) (rd : Int) (zar : zr ar) (zrd : zr rd) (hv : gInv g gh R AR I AI) (ha : gO g a 3) (hln : gO g ln 0) (hinb : gO g inb 4) (hout : gO g out 4) (h4 : gh 2 out = 4) (hkd : (I ln 0).toInt = 8 ∨ (I ln 0).toInt = 0) (hlm : gh 1 out = 120) (h0 : 0 ≤ ar ∧ ar ≤ 119) (hlc : lnC (I ln) (AI (gh 3 ln)) lc) (hk8 : lc.1 0 = 8) (hro : rOK lc) (hne2 : inb ≠ out) (h6 : gh 2 inb = 4) (hny : (I inb 3).toInt = (my : Int)) (hTk : arT (AI (gh 32 0)) ar.toNat = Tk) (hrg : rgI (AI (gh 0 out)) (AI (gh 32 0)) (I out 3).toInt.toNat a9 Ps Qs Ms (iI rd)) (hkz : ∀ j : Nat, lc.1 4 ≤ (j : Int) → j < 5 → AI (gh 30 0) j = 0) (har : ar < (I out 3).toInt) : gMet l g yX3_goOn wsX3_goOn rmX3_goOnf [.ref a, .ref ln, .int (iI ar), .ref inb, .ref out, .int (iI rd)] (I, R, J, AI, AJ, AR) (gQi g (fun (z : Int) (w : gS) => R = w.2.1 ∧ J = w.2.2.1 ∧ AJ = w.2.2.2.2.1 ∧ AR = w.2.2.2.2.2 ∧ (gInv g gh R AR (w.1) (w.2.2.2.1)) ∧ (rF g I (w.1)) ∧ (-4 ≤ z ∧ z ≤ 0) ∧ (kI out I (w.1)) ∧ (kA gh out AI (w.2.2.2.1)) ∧ ((z = 0 ∧ rgI ((w.2.2.2.1) (gh 0 out)) ((w.2.2.2.1) (gh 32 0)) ((w.1) out 3).toInt.toNat a9 Ps (fun s => Qs s ∨ rGo lc (AI (gh 0 inb)) my Tk s) Ms (iI rd) ∧ (I out 3).toInt ≤ ((w.1) out 3).toInt ∧ (40 < rd → ((w.1) out 3).toInt = (I out 3).toInt)) ∨ (z = -3 ∧ rd ≤ 40 ∧ bigP 120 (fun s => Ps s ∨ Qs s ∨ rGo lc (AI (gh 0 inb)) my Tk s)) ∨ (z = -4 ∧ 40 < rd ∧ ∃ s, ¬ (Ps s ∨ Qs s) ∧ rGo lc (AI (gh 0 inb)) my Tk s)) ∧ ((∀ j : Nat, lc.1 4 ≤ (j : Int) → j < 5 → (w.2.2.2.1) (gh 30 0) j = 0) ∧ ∀ i : Nat, (i : Int) < 4 * (I out 3).toInt → (w.2.2.2.1) (gh 32 0) i = AI (gh 32 0) i))) := by
  refine gStart (cc := cX3_goOn) (maxL := 9) (ret := (some (.int))) (by decide) rfl (Nat.le_of_ble_eq_true rfl) ?_
  intro p e s m below meth c ls F hr hlk hH hz hS hl
  have hl : lv_has ls 9 [(0, .ref a), (1, .ref ln), (2, .int (iI ar)), (3, .ref inb), (4, .ref out), (5, .int (iI rd))] := hl
  have hS : va_S (gA g) s.heap s.heap [] := hS
  obtain ⟨H, hHe⟩ : ∃ H : Heap, H = s.heap := ⟨_, rfl⟩
  obtain ⟨locs, hlo⟩ : ∃ k : List Loc, k = [] := ⟨_, rfl⟩
  have hH : gH g I R J AI AJ AR H := by rw [hHe]; exact hH
  have hS : va_S (gA g) s.heap H locs := by rw [hHe, hlo]; exact hS
  suffices hw : W p l e rmX3_goOnf s m ([.ref a, .ref ln, .int (iI ar), .ref inb, .ref out, .int (iI rd)] : List Value).toArray below meth c H locs 0 0 (MQ below (gQi g (fun (z : Int) (w : gS) => R = w.2.1 ∧ J = w.2.2.1 ∧ AJ = w.2.2.2.2.1 ∧ AR = w.2.2.2.2.2 ∧ (gInv g gh R AR (w.1) (w.2.2.2.1)) ∧ (rF g I (w.1)) ∧ (-4 ≤ z ∧ z ≤ 0) ∧ (kI out I (w.1)) ∧ (kA gh out AI (w.2.2.2.1)) ∧ ((z = 0 ∧ rgI ((w.2.2.2.1) (gh 0 out)) ((w.2.2.2.1) (gh 32 0)) ((w.1) out 3).toInt.toNat a9 Ps (fun s => Qs s ∨ rGo lc (AI (gh 0 inb)) my Tk s) Ms (iI rd) ∧ (I out 3).toInt ≤ ((w.1) out 3).toInt ∧ (40 < rd → ((w.1) out 3).toInt = (I out 3).toInt)) ∨ (z = -3 ∧ rd ≤ 40 ∧ bigP 120 (fun s => Ps s ∨ Qs s ∨ rGo lc (AI (gh 0 inb)) my Tk s)) ∨ (z = -4 ∧ 40 < rd ∧ ∃ s, ¬ (Ps s ∨ Qs s) ∧ rGo lc (AI (gh 0 inb)) my Tk s)) ∧ ((∀ j : Nat, lc.1 4 ≤ (j : Int) → j < 5 → (w.2.2.2.1) (gh 30 0) j = 0) ∧ ∀ i : Nat, (i : Int) < 4 * (I out 3).toInt → (w.2.2.2.1) (gh 32 0) i = AI (gh 32 0) i))) ([.ref a, .ref ln, .int (iI ar), .ref inb, .ref out, .int (iI rd)] : List Value).toArray s 0 0 (gA g)) (F0 m 0 ls []) by
    rw [hHe, hlo] at hw; exact hw
  clear hHe hlo
  have rf : rF g I I := rF_r
  have fI : kI out I I := kI_r
  have fA : kA gh out AI AI := kA_r
  have hck := cells_k hv ha hout
  have hrn := rk_ne hv ha
  obtain ⟨r1, r2, r3, r4, r5, r6, r7, r8, r9⟩ := hro
  have iX4 : ∀ w ∈ u_ws RX4 TX4 4, w ∈ wsX3_goOn := (by decide +kernel)
  have iX3 : ∀ w ∈ u_ws RX3 TX3 3, w ∈ wsX3_goOn := (by decide +kernel)
  have iX0 : ∀ w ∈ u_ws RX0 TX0 15, w ∈ wsX3_goOn := (by decide +kernel)
  have k20 : Cond.fieldLink RX3 20 (TX3 2).1 (TX3 2).2.1 (TX3 2).2.2.1 ∈ wsX3_goOn := List.mem_of_getElem? (i := 1) rfl
  have k17 : Cond.fieldLink RX3 17 (TX3 1).1 (TX3 1).2.1 (TX3 1).2.2.1 ∈ wsX3_goOn := List.mem_of_getElem? (i := 2) rfl
  have k154 : Cond.fieldLink RX3 154 (TX0 9).1 (TX0 9).2.1 (TX0 9).2.2.1 ∈ wsX3_goOn := List.mem_of_getElem? (i := 7) rfl
  have k23 : Cond.fieldLink RX3 23 (TX4 3).1 (TX4 3).2.1 (TX4 3).2.2.1 ∈ wsX3_goOn := List.mem_of_getElem? (i := 8) rfl
  have k157 : Cond.fieldLink RX3 157 (TX0 10).1 (TX0 10).2.1 (TX0 10).2.2.1 ∈ wsX3_goOn := List.mem_of_getElem? (i := 9) rfl
  have k63 : Cond.fieldLink RX3 63 (TX4 2).1 (TX4 2).2.1 (TX4 2).2.2.1 ∈ wsX3_goOn := List.mem_of_getElem? (i := 10) rfl
  have k96 : Cond.fieldLink RX3 96 (TX0 5).1 (TX0 5).2.1 (TX0 5).2.2.1 ∈ wsX3_goOn := List.mem_of_getElem? (i := 11) rfl
  have k103 : Cond.fieldLink RX3 103 (TX0 6).1 (TX0 6).2.1 (TX0 6).2.2.1 ∈ wsX3_goOn := List.mem_of_getElem? (i := 12) rfl
  have k11 : Cond.fieldLink RX3 11 (TX3 0).1 (TX3 0).2.1 (TX3 0).2.2.1 ∈ wsX3_goOn := List.mem_of_getElem? (i := 13) rfl
  refine lv_aload_n F.1 F.2.1 dX3_goOn_0 rfl (lv_at hl 0 rfl) ?_
  obtain ⟨r_1a, r_1b⟩ := gR_rk2 hv ha
  refine g_getR (ci := 3) (k := 2) F hH rfl (by decide) iX3 ha (by decide) rfl (b := gh 32 0) r_1a k20 dX3_goOn_1 ?_
  refine lv_iload_n F.1 F.2.1 dX3_goOn_4 rfl (lv_at hl 2 rfl) ?_
  refine z_iconst F dX3_goOn_5 ?_
  refine z_imul F dX3_goOn_6 ?_
  refine lv_aload_n F.1 F.2.1 dX3_goOn_7 rfl (lv_at hl 0 rfl) ?_
  obtain ⟨r_2a, r_2b⟩ := gR_rk1 hv ha
  refine g_getR (ci := 3) (k := 1) F hH rfl (by decide) iX3 ha (by decide) rfl (b := gh 31 0) r_2a k17 dX3_goOn_8 ?_
  refine z_iconst F dX3_goOn_11 ?_
  refine z_iconst F dX3_goOn_12 ?_
  have hx13 : 0 ≤ (ar * 4) ∧ 0 ≤ (0 : Int) ∧ 0 ≤ (4 : Int) ∧ (ar * 4) + 4 ≤ ((480 : Nat) : Int) ∧ (0 : Int) + 4 ≤ ((8 : Nat) : Int) ∧ (ar * 4) ≤ 2147483647 ∧ (0 : Int) ≤ 2147483647 ∧ (4 : Int) ≤ 2147483647 := ⟨by omega, by omega, by omega, by omega, by omega, by omega, by omega, by omega⟩
  refine g_copyi (rest := []) F hl.1 hH hS r_1b r_2b (List.mem_of_getElem? (i := 3) rfl) (List.mem_of_getElem? (i := 4) rfl) (List.mem_of_getElem? (i := 5) rfl) (List.mem_of_getElem? (i := 6) rfl) hx13 (Nat.le_of_ble_eq_true rfl) (Nat.le_of_ble_eq_true rfl) dX3_goOn_13 (fun H locs hH hS => ?_)
  obtain ⟨AI_3, eAI_3⟩ : ∃ qQ, qQ = gup1 AI (gh 31 0) (va_cpy (AI (gh 32 0)) (AI (gh 31 0)) ((ar * 4)).toNat ((0 : Int)).toNat ((4 : Int)).toNat) := ⟨_, rfl⟩
  rw [← eAI_3] at hH
  have kAI_3 : ∀ b, b ≠ (gh 31 0) → AI_3 b = AI b := fun b hb => by rw [eAI_3]; exact gup1_a _ _ hb
  have hv : gInv g gh R AR I AI_3 := gInv_plain hv (ro31 hv ha) kAI_3
  have fA := kA_t fA (kA_1 kAI_3)
  have hsd : ∀ j : Nat, (j : Int) < lc.1 5 → AI_3 (gh 31 0) j = tg Tk j := fun j hj => by
    rw [eAI_3, gup1_s]; unfold va_cpy; rw [if_pos ⟨by omega, by omega⟩, ← hTk, arT_at (by omega)]; congr 1; omega
  have e30 : AI_3 (gh 30 0) = AI (gh 30 0) := kAI_3 _ hrn.1
  have e32 : AI_3 (gh 32 0) = AI (gh 32 0) := kAI_3 _ hrn.2.2.symm
  have eco : AI_3 (gh 0 out) = AI (gh 0 out) := kAI_3 _ hck.2.1
  refine lv_aload_n F.1 F.2.1 dX3_goOn_16 rfl (lv_at hl 0 rfl) ?_
  refine g_getR (ci := 3) (k := 1) F hH rfl (by decide) iX3 ha (by decide) rfl (b := gh 31 0) r_2a k17 dX3_goOn_17 ?_
  refine lv_aload_n F.1 F.2.1 dX3_goOn_20 rfl (lv_at hl 1 rfl) ?_
  refine g_getI (ci := 0) (k := 9) F hH rfl (by decide) iX0 hln (by decide) rfl k154 dX3_goOn_21 ?_
  have b_4 := gI_line hv hln
  unfold vLineI at b_4
  have hx24 : 0 ≤ ((I ln 9).toInt) ∧ ((I ln 9).toInt) < ((8 : Nat) : Int) ∧ ((I ln 9).toInt) ≤ 2147483647 := ⟨by omega, by omega, by omega⟩
  refine g_iald F hH r_2b hx24.1 hx24.2.1 hx24.2.2 dX3_goOn_24 ?_
  refine z_name (fun v_5 ev_5 => ?_)
  have zv_5 : zr v_5 := by rw [ev_5]; exact zr_t _
  have h910 := hlc.2.2.2.2.2.2 hk8
  have hw24 : iI v_5 = tg Tk (lc.1 7).toNat := by rw [← hsd _ (by omega), ev_5, iI_self]; congr 1; omega
  refine lv_istore (lv' := [(6, .int (iI v_5)), (0, .ref a), (1, .ref ln), (2, .int (iI ar)), (3, .ref inb), (4, .ref out), (5, .int (iI rd))]) F.1 F.2.1 dX3_goOn_25 hl (by decide) rfl (fun ls hl => ?_)
  refine z_iconst F dX3_goOn_27 ?_
  refine lv_istore (lv' := [(7, .int (iI 0)), (6, .int (iI v_5)), (0, .ref a), (1, .ref ln), (2, .int (iI ar)), (3, .ref inb), (4, .ref out), (5, .int (iI rd))]) F.1 F.2.1 dX3_goOn_28 hl (by decide) rfl (fun ls hl => ?_)
  have cut_30_7 : ∀ (NN : Nat) (j : Int) (I_6 : gI) (AI_7 : gI) (H : Heap) (locs : List Loc) (ls : Array Slot), zr j → (gInv g gh R AR I_6 AI_7) → (rF g I I_6) → ((I_6 ln 0).toInt = 8 ∨ (I_6 ln 0).toInt = 0) → (0 ≤ j ∧ j ≤ 240) → (kI out I I_6) → (kA gh out AI AI_7) → (∀ j : Nat, lc.1 4 ≤ (j : Int) → j < 5 → AI_7 (gh 30 0) j = 0) → (∀ j : Nat, (j : Int) < lc.1 5 → AI_7 (gh 31 0) j = tg Tk j) → (rgI (AI_7 (gh 0 out)) (AI_7 (gh 32 0)) (I_6 out 3).toInt.toNat a9 Ps (fun s => Qs s ∨ rGo lc (AI (gh 0 inb)) j.toNat Tk s) Ms (iI rd)) → (∀ i : Nat, (i : Int) < 4 * (I out 3).toInt → AI_7 (gh 32 0) i = AI (gh 32 0) i) → ((I out 3).toInt ≤ (I_6 out 3).toInt ∧ (40 < rd → (I_6 out 3).toInt = (I out 3).toInt) ∧ 0 ≤ (I_6 out 3).toInt ∧ j ≤ (my : Int)) → (240 - j) < ((NN : Nat) : Int) → gH g I_6 R J AI_7 AJ AR H → va_S (gA g) s.heap H locs → lv_has ls 9 [(7, .int (iI j)), (6, .int (iI v_5)), (0, .ref a), (1, .ref ln), (2, .int (iI ar)), (3, .ref inb), (4, .ref out), (5, .int (iI rd))] → W p l e rmX3_goOnf s m ([.ref a, .ref ln, .int (iI ar), .ref inb, .ref out, .int (iI rd)] : List Value).toArray below meth c H locs 0 0 (MQ below (gQi g (fun (z : Int) (w : gS) => R = w.2.1 ∧ J = w.2.2.1 ∧ AJ = w.2.2.2.2.1 ∧ AR = w.2.2.2.2.2 ∧ (gInv g gh R AR (w.1) (w.2.2.2.1)) ∧ (rF g I (w.1)) ∧ (-4 ≤ z ∧ z ≤ 0) ∧ (kI out I (w.1)) ∧ (kA gh out AI (w.2.2.2.1)) ∧ ((z = 0 ∧ rgI ((w.2.2.2.1) (gh 0 out)) ((w.2.2.2.1) (gh 32 0)) ((w.1) out 3).toInt.toNat a9 Ps (fun s => Qs s ∨ rGo lc (AI (gh 0 inb)) my Tk s) Ms (iI rd) ∧ (I out 3).toInt ≤ ((w.1) out 3).toInt ∧ (40 < rd → ((w.1) out 3).toInt = (I out 3).toInt)) ∨ (z = -3 ∧ rd ≤ 40 ∧ bigP 120 (fun s => Ps s ∨ Qs s ∨ rGo lc (AI (gh 0 inb)) my Tk s)) ∨ (z = -4 ∧ 40 < rd ∧ ∃ s, ¬ (Ps s ∨ Qs s) ∧ rGo lc (AI (gh 0 inb)) my Tk s)) ∧ ((∀ j : Nat, lc.1 4 ≤ (j : Int) → j < 5 → (w.2.2.2.1) (gh 30 0) j = 0) ∧ ∀ i : Nat, (i : Int) < 4 * (I out 3).toInt → (w.2.2.2.1) (gh 32 0) i = AI (gh 32 0) i))) ([.ref a, .ref ln, .int (iI ar), .ref inb, .ref out, .int (iI rd)] : List Value).toArray s 0 0 (gA g)) (F0 m 30 ls []) := by
    intro NN30
    induction NN30 with
    | zero =>
      intro j I_6 AI_7 H locs ls zj hv rf hkd hj fI fA hkz hsd hrg hpr hln9 hm30 hH hS hl
      exact absurd hm30 (by omega)
    | succ NN30 ih30 =>
      intro j I_6 AI_7 H locs ls zj hv rf hkd hj fI fA hkz hsd hrg hpr hln9 hm30 hH hS hl
      have hY : AI_7 (gh 0 inb) = AI (gh 0 inb) := kA_x fA hv ha hout hinb hne2
      have hYi : I_6 inb = I inb := fI inb hne2
      have hYm : (I_6 inb 3).toInt = (my : Int) := by rw [hYi]; exact hny
      have hlcN : lnC (I_6 ln) (AI_7 (gh 3 ln)) lc := lnC_m hlc (fI ln (gO_ne hln hout (by decide))) (kA_l fA hv ha hout hln)
      have hlen9 : (I_6 out 3).toInt = (((I_6 out 3).toInt.toNat : Nat) : Int) := by omega
      refine lv_iload F.1 F.2.1 dX3_goOn_30 (lv_at hl 0 rfl) ?_
      refine lv_aload_n F.1 F.2.1 dX3_goOn_32 rfl (lv_at hl 5 rfl) ?_
      refine g_getI (ci := 4) (k := 3) F hH rfl (by decide) iX4 hinb (by decide) rfl k23 dX3_goOn_33 ?_
      obtain ⟨b_9a, b_9b, b_9c, b_9d, b_9e, b_9f, b_9g, b_9h⟩ := gI_rows hv hinb
      refine z_icmp_ge (tgt := 158) F dX3_goOn_36 (by decide) zj (zr_t _) (fun c_10 => ?_) (fun c_10 => ?_)
      · refine z_iconst F dX3_goOn_158 ?_
        exact g_iret F hr hlk hH hS hz ⟨by decide, by decide⟩ ⟨rfl, rfl, rfl, rfl, hv, rf, by first | omega | rfl | (dsimp only; omega), fI, fA, Or.inl ⟨rfl, by rw [← show j.toNat = my by omega]; exact hrg, by (try dsimp only); omega, fun h9 => by (try dsimp only); omega⟩, by (try dsimp only); exact ⟨hkz, hpr⟩⟩ dX3_goOn_159
      · refine lv_aload_n F.1 F.2.1 dX3_goOn_39 rfl (lv_at hl 5 rfl) ?_
        refine lv_iload F.1 F.2.1 dX3_goOn_40 (lv_at hl 0 rfl) ?_
        refine g_calli (g_runV (As := [.int (iI j)]) (rest := []) (ci := 4) F hl.1 hH hS hz (c_X4_amount l g gh I_6 R J AI_7 AJ AR inb j zj hv hinb (by omega) (by omega)) (cwV 1 F.2.2.2.2.1 gX3_goOn_X4_amount rfl rfl rfl hdX4_amount ⟨Nat.le_of_ble_eq_true rfl, Nat.le_of_ble_eq_true rfl⟩) hinb (by decide) rfl rfl rfl (Nat.le_of_ble_eq_true rfl) dX3_goOn_42 ⟨Nat.zero_le _, Nat.zero_le _⟩) hS (fun v_17 I_11 R_12 J_13 AI_14 AJ_15 AR_16 H locs zv_17 hp_18 hH hS => ?_)
        dsimp only at hp_18
        obtain ⟨rfl, rfl, rfl, rfl, rfl, rfl, qa0⟩ := hp_18
        have qa : v_17 = ((AI (gh 0 inb)) (6 * j.toNat + 4)).toInt := by rw [qa0, hY, show (j * 6 + (I_6 inb 0).toInt).toNat = 6 * j.toNat + 4 by omega]
        refine z_if_le (tgt := 152) F dX3_goOn_45 (by decide) zv_17 (fun c_19 => ?_) (fun c_19 => ?_)
        · have hrg9 := rgI_q hrg (Q' := fun s => Qs s ∨ rGo lc (AI (gh 0 inb)) (j + 1).toNat Tk s) (fun s => by rw [show (j + 1).toNat = j.toNat + 1 by omega, rGo_s]; exact rg_q3 (fun h9 => by have := h9.1; omega))
          refine z_iinc (lv' := [(7, .int (iI (j + 1))), (6, .int (iI v_5)), (0, .ref a), (1, .ref ln), (2, .int (iI ar)), (3, .ref inb), (4, .ref out), (5, .int (iI rd))]) F dX3_goOn_152 hl (k := 0) rfl (by decide) rfl (fun ls hl => ?_)
          refine z_goto (tgt := 30) F dX3_goOn_155 (by decide) ?_
          exact ih30 (j + 1) I_6 AI_7 H locs ls ⟨by omega, by omega⟩ hv rf (by omega) (by omega) fI fA hkz hsd hrg9 hpr (by first | omega | (refine ⟨by omega, fun h9 => by omega, by omega, by omega⟩)) (by omega) hH hS (lv_sub hl [0, 1, 2, 3, 4, 5, 6, 7] rfl)
        · refine lv_aload_n F.1 F.2.1 dX3_goOn_48 rfl (lv_at hl 5 rfl) ?_
          refine lv_iload F.1 F.2.1 dX3_goOn_49 (lv_at hl 0 rfl) ?_
          refine lv_aload_n F.1 F.2.1 dX3_goOn_51 rfl (lv_at hl 3 rfl) ?_
          refine g_getI (ci := 0) (k := 10) F hH rfl (by decide) iX0 hln (by decide) rfl k157 dX3_goOn_52 ?_
          have b_20 := gI_line hv hln
          unfold vLineI at b_20
          refine g_calli (g_runV (As := [.int (iI j), .int (iI ((I_6 ln 10).toInt))]) (rest := []) (ci := 4) F hl.1 hH hS hz (c_X4_cell l g gh I_6 R J AI_7 AJ AR inb j ((I_6 ln 10).toInt) zj (zr_t _) hv hinb (by omega) (by omega) (by omega) (by omega)) (cwV 2 F.2.2.2.2.1 gX3_goOn_X4_cell rfl rfl rfl hdX4_cell ⟨Nat.le_of_ble_eq_true rfl, Nat.le_of_ble_eq_true rfl⟩) hinb (by decide) rfl rfl rfl (Nat.le_of_ble_eq_true rfl) dX3_goOn_55 ⟨Nat.zero_le _, Nat.zero_le _⟩) hS (fun v_27 I_21 R_22 J_23 AI_24 AJ_25 AR_26 H locs zv_27 hp_28 hH hS => ?_)
          dsimp only at hp_28
          obtain ⟨rfl, rfl, rfl, rfl, rfl, rfl, qc55⟩ := hp_28
          have h910 := hlcN.2.2.2.2.2.2 hk8
          have hw55 : iI v_27 = tg (tup (AI (gh 0 inb)) j.toNat) (lc.1 8).toNat := by rw [qc55, iI_self, hY, tg_up _ (by omega)]; congr 1; omega
          refine lv_iload F.1 F.2.1 dX3_goOn_58 (lv_at hl 1 rfl) ?_
          refine z_icmp_eq (tgt := 66) F dX3_goOn_60 (by decide) zv_27 zv_5 (fun c_29 => ?_) (fun c_29 => ?_)
          · have hmt : tg Tk (lc.1 7).toNat = tg (tup (AI (gh 0 inb)) j.toNat) (lc.1 8).toNat := by rw [← hw24, ← hw55]; congr 1; omega
            have hap : 0 < ((AI (gh 0 inb)) (6 * j.toNat + 4)).toInt := by omega
            have h56 := hlcN.2.2.1 (Or.inr hk8)
            refine lv_aload_n F.1 F.2.1 dX3_goOn_66 rfl (lv_at hl 5 rfl) ?_
            obtain ⟨r_30a, r_30b⟩ := gR_cells hv hinb
            refine g_getR (ci := 4) (k := 2) F hH rfl (by decide) iX4 hinb (by decide) rfl (b := gh 0 inb) r_30a k63 dX3_goOn_67 ?_
            refine lv_iload F.1 F.2.1 dX3_goOn_70 (lv_at hl 0 rfl) ?_
            refine z_bipush F dX3_goOn_72 (by decide) ?_
            refine z_imul F dX3_goOn_74 ?_
            refine lv_aload_n F.1 F.2.1 dX3_goOn_75 rfl (lv_at hl 2 rfl) ?_
            refine g_getR (ci := 3) (k := 1) F hH rfl (by decide) iX3 ha (by decide) rfl (b := gh 31 0) r_2a k17 dX3_goOn_76 ?_
            refine lv_aload_n F.1 F.2.1 dX3_goOn_79 rfl (lv_at hl 3 rfl) ?_
            refine g_getI (ci := 0) (k := 5) F hH rfl (by decide) iX0 hln (by decide) rfl k96 dX3_goOn_80 ?_
            refine lv_aload_n F.1 F.2.1 dX3_goOn_83 rfl (lv_at hl 3 rfl) ?_
            refine g_getI (ci := 0) (k := 6) F hH rfl (by decide) iX0 hln (by decide) rfl k103 dX3_goOn_84 ?_
            have hx87 : 0 ≤ (j * 6) ∧ 0 ≤ ((I_6 ln 5).toInt) ∧ 0 ≤ ((I_6 ln 6).toInt) ∧ (j * 6) + ((I_6 ln 6).toInt) ≤ ((6 * gh 1 inb : Nat) : Int) ∧ ((I_6 ln 5).toInt) + ((I_6 ln 6).toInt) ≤ ((8 : Nat) : Int) ∧ (j * 6) ≤ 2147483647 ∧ ((I_6 ln 5).toInt) ≤ 2147483647 ∧ ((I_6 ln 6).toInt) ≤ 2147483647 := ⟨by omega, by omega, by omega, by omega, by omega, by omega, by omega, by omega⟩
            refine g_copyi (rest := []) F hl.1 hH hS r_30b r_2b (List.mem_of_getElem? (i := 3) rfl) (List.mem_of_getElem? (i := 4) rfl) (List.mem_of_getElem? (i := 5) rfl) (List.mem_of_getElem? (i := 6) rfl) hx87 (Nat.le_of_ble_eq_true rfl) (Nat.le_of_ble_eq_true rfl) dX3_goOn_87 (fun H locs hH hS => ?_)
            obtain ⟨AI_31, eAI_31⟩ : ∃ qQ, qQ = gup1 AI_7 (gh 31 0) (va_cpy (AI_7 (gh 0 inb)) (AI_7 (gh 31 0)) ((j * 6)).toNat (((I_6 ln 5).toInt)).toNat (((I_6 ln 6).toInt)).toNat) := ⟨_, rfl⟩
            rw [← eAI_31] at hH
            have kAI_31 : ∀ b, b ≠ (gh 31 0) → AI_31 b = AI_7 b := fun b hb => by rw [eAI_31]; exact gup1_a _ _ hb
            have hv : gInv g gh R AR I_6 AI_31 := gInv_plain hv (ro31 hv ha) kAI_31
            have fA := kA_t fA (kA_1 kAI_31)
            have hsh : ∀ q : Nat, (q : Int) < lc.1 5 + lc.1 6 → AI_31 (gh 31 0) ((0 : Int).toNat + q) = sdH lc Tk (tup (AI (gh 0 inb)) j.toNat) q := fun q hq => by
              unfold sdH; rw [eAI_31, gup1_s, show (0 : Int).toNat + q = q by simp]; unfold va_cpy
              by_cases e9 : (q : Int) < lc.1 5
              · rw [if_neg (by omega), if_pos e9]; exact hsd q e9
              · rw [if_pos ⟨by omega, by omega⟩, if_neg e9, hY, tg_up _ (by omega)]; congr 1; omega
            have hsd : ∀ j : Nat, (j : Int) < lc.1 5 → AI_31 (gh 31 0) j = tg Tk j := fun q hq => by rw [eAI_31, gup1_s]; unfold va_cpy; rw [if_neg (by omega)]; exact hsd q hq
            have f30 : AI_31 (gh 30 0) = AI_7 (gh 30 0) := kAI_31 _ hrn.1
            have f32 : AI_31 (gh 32 0) = AI_7 (gh 32 0) := kAI_31 _ hrn.2.2.symm
            have fco : AI_31 (gh 0 out) = AI_7 (gh 0 out) := kAI_31 _ hck.2.1
            have hkz : ∀ j : Nat, lc.1 4 ≤ (j : Int) → j < 5 → AI_31 (gh 30 0) j = 0 := fun j h1 h2 => by rw [f30]; exact hkz j h1 h2
            have hrg := rgI_c (f' := AI_31 (gh 0 out)) (A' := AI_31 (gh 32 0)) hrg (by rw [fco]; exact rwA_r) (fun _ _ => by rw [f32])
            have hpr : ∀ i : Nat, (i : Int) < 4 * (I out 3).toInt → AI_31 (gh 32 0) i = AI (gh 32 0) i := fun i hi => by rw [f32]; exact hpr i hi
            have hY : AI_31 (gh 0 inb) = AI (gh 0 inb) := kA_x fA hv ha hout hinb hne2
            have hYi : I_6 inb = I inb := fI inb hne2
            have hYm : (I_6 inb 3).toInt = (my : Int) := by rw [hYi]; exact hny
            have hlcN : lnC (I_6 ln) (AI_31 (gh 3 ln)) lc := lnC_m hlc (fI ln (gO_ne hln hout (by decide))) (kA_l fA hv ha hout hln)
            refine lv_aload_n F.1 F.2.1 dX3_goOn_90 rfl (lv_at hl 3 rfl) ?_
            refine lv_aload_n F.1 F.2.1 dX3_goOn_91 rfl (lv_at hl 2 rfl) ?_
            refine g_getR (ci := 3) (k := 1) F hH rfl (by decide) iX3 ha (by decide) rfl (b := gh 31 0) r_2a k17 dX3_goOn_92 ?_
            refine z_iconst F dX3_goOn_95 ?_
            refine lv_aload_n F.1 F.2.1 dX3_goOn_96 rfl (lv_at hl 2 rfl) ?_
            obtain ⟨r_32a, r_32b⟩ := gR_rk0 hv ha
            refine g_getR (ci := 3) (k := 0) F hH rfl (by decide) iX3 ha (by decide) rfl (b := gh 30 0) r_32a k11 dX3_goOn_97 ?_
            refine g_callv (g_runV (As := [.ref (gh 31 0), .int (iI 0), .ref (gh 30 0)]) (rest := []) (ci := 0) F hl.1 hH hS hz (c_X0_fillTermsf l g gh 8 lc (sdH lc Tk (tup (AI (gh 0 inb)) j.toNat)) (lc.1 5 + lc.1 6) I_6 R J AI_31 AJ AR ln (gh 31 0) 0 (gh 30 0) ⟨by decide, by decide⟩ hv hln r_2b (by omega) (by omega) (by omega) (by omega) r_32b (ro30 hv ha) hlcN (Or.inr (Or.inr hk8)) hsh (fun k hk => (r9 k hk).2) hrn.1.symm) (cwV 3 F.2.2.2.2.1 gX3_goOn_X0_fillTerms rfl rfl rfl hdX0_fillTerms ⟨Nat.le_of_ble_eq_true rfl, Nat.le_of_ble_eq_true rfl⟩) hln (by decide) rfl rfl rfl (Nat.le_of_ble_eq_true rfl) dX3_goOn_100 ⟨Nat.zero_le _, Nat.zero_le _⟩) hS (fun I_33 R_34 J_35 AI_36 AJ_37 AR_38 H locs hp_39 hH hS => ?_)
            dsimp only at hp_39
            obtain ⟨rfl, rfl, rfl, rfl, rfl, hv, q_40, qft⟩ := hp_39
            have fA := kA_t fA (kA_0 q_40)
            have hkt : ∀ q, q < 4 → AI_36 (gh 30 0) q = tg (trT lc (sdH lc Tk (tup (AI (gh 0 inb)) j.toNat))) q := fun q hq => by
              unfold trT; rw [tg_mk q hq]
              by_cases e9 : (q : Int) < lc.1 4
              · rw [if_pos e9]; exact qft.1 q e9
              · rw [if_neg e9, qft.2 q (by omega)]; exact hkz q (by omega) (by omega)
            have hkz : ∀ j : Nat, lc.1 4 ≤ (j : Int) → j < 5 → AI_36 (gh 30 0) j = 0 := fun j h1 h2 => by rw [qft.2 j h1]; exact hkz j h1 h2
            have hsd : ∀ j : Nat, (j : Int) < lc.1 5 → AI_36 (gh 31 0) j = tg Tk j := fun q hq => by rw [q_40 _ hrn.1.symm]; exact hsd q hq
            have hrg := rgI_c (f' := AI_36 (gh 0 out)) (A' := AI_36 (gh 32 0)) hrg (by rw [q_40 _ hck.1]; exact rwA_r) (fun _ _ => by rw [q_40 _ hrn.2.1.symm])
            have hpr : ∀ i : Nat, (i : Int) < 4 * (I out 3).toInt → AI_36 (gh 32 0) i = AI (gh 32 0) i := fun i hi => by rw [q_40 _ hrn.2.1.symm]; exact hpr i hi
            have hY : AI_36 (gh 0 inb) = AI (gh 0 inb) := kA_x fA hv ha hout hinb hne2
            have hYi : I_6 inb = I inb := fI inb hne2
            have hYm : (I_6 inb 3).toInt = (my : Int) := by rw [hYi]; exact hny
            have hlcN : lnC (I_6 ln) (AI_36 (gh 3 ln)) lc := lnC_m hlc (fI ln (gO_ne hln hout (by decide))) (kA_l fA hv ha hout hln)
            refine lv_aload F.1 F.2.1 dX3_goOn_103 (lv_at hl 6 rfl) ?_
            refine lv_aload_n F.1 F.2.1 dX3_goOn_105 rfl (lv_at hl 2 rfl) ?_
            refine g_getR (ci := 3) (k := 0) F hH rfl (by decide) iX3 ha (by decide) rfl (b := gh 30 0) r_32a k11 dX3_goOn_106 ?_
            obtain ⟨b_41a, b_41b, b_41c, b_41d, b_41e, b_41f, b_41g, b_41h⟩ := gI_rows hv hout
            refine g_calli (g_runV (As := [.ref (gh 30 0)]) (rest := []) (ci := 4) F hl.1 hH hS hz (c_X4_findf l g gh I_6 R J AI_36 AJ AR out (gh 30 0) hv hout r_32b) (cwV 1 F.2.2.2.2.1 gX3_goOn_X4_find rfl rfl rfl hdX4_find ⟨Nat.le_of_ble_eq_true rfl, Nat.le_of_ble_eq_true rfl⟩) hout (by decide) rfl rfl rfl (Nat.le_of_ble_eq_true rfl) dX3_goOn_109 ⟨Nat.zero_le _, Nat.zero_le _⟩) hS (fun v_48 I_42 R_43 J_44 AI_45 AJ_46 AR_47 H locs zv_48 hp_49 hH hS => ?_)
            dsimp only at hp_49
            obtain ⟨rfl, rfl, rfl, rfl, rfl, rfl, q_50, qf⟩ := hp_49
            rw [h4, hlen9] at qf
            refine lv_istore (lv' := [(8, .int (iI v_48)), (7, .int (iI j)), (6, .int (iI v_5)), (0, .ref a), (1, .ref ln), (2, .int (iI ar)), (3, .ref inb), (4, .ref out), (5, .int (iI rd))]) F.1 F.2.1 dX3_goOn_112 hl (by decide) rfl (fun ls hl => ?_)
            refine lv_iload F.1 F.2.1 dX3_goOn_114 (lv_at hl 0 rfl) ?_
            refine z_if_ge (tgt := 129) F dX3_goOn_116 (by decide) zv_48 (fun c_51 => ?_) (fun c_51 => ?_)
            · refine lv_iload F.1 F.2.1 dX3_goOn_129 (lv_at hl 0 rfl) ?_
              refine z_if_ge (tgt := 152) F dX3_goOn_131 (by decide) zv_48 (fun c_52 => ?_) (fun c_52 => ?_)
              · have hfy := fd_y (key_tu hkt) qf (by omega)
                have hin9 := (hrg.1.2.1 _ hfy.1).1
                rw [hfy.2] at hin9
                have hrg9 := rgI_q hrg (Q' := fun s => Qs s ∨ rGo lc (AI (gh 0 inb)) (j + 1).toNat Tk s) (fun s => by rw [show (j + 1).toNat = j.toNat + 1 by omega, rGo_s]; exact rg_q2 hap hmt hin9)
                refine z_iinc (lv' := [(7, .int (iI (j + 1))), (8, .int (iI v_48)), (6, .int (iI v_5)), (0, .ref a), (1, .ref ln), (2, .int (iI ar)), (3, .ref inb), (4, .ref out), (5, .int (iI rd))]) F dX3_goOn_152 hl (k := 1) rfl (by decide) rfl (fun ls hl => ?_)
                refine z_goto (tgt := 30) F dX3_goOn_155 (by decide) ?_
                exact ih30 (j + 1) I_6 AI_36 H locs ls ⟨by omega, by omega⟩ hv rf (by omega) (by omega) fI fA hkz hsd hrg9 hpr (by first | omega | (refine ⟨by omega, fun h9 => by omega, by omega, by omega⟩)) (by omega) hH hS (lv_sub hl [0, 2, 3, 4, 5, 6, 7, 8] rfl)
              · exact absurd trivial (by omega)
            · refine lv_iload F.1 F.2.1 dX3_goOn_119 (lv_at hl 8 rfl) ?_
              refine z_bipush F dX3_goOn_121 (by decide) ?_
              refine z_icmp_le (tgt := 129) F dX3_goOn_123 (by decide) zrd ⟨by decide, by decide⟩ (fun c_53 => ?_) (fun c_53 => ?_)
              · refine lv_iload F.1 F.2.1 dX3_goOn_129 (lv_at hl 0 rfl) ?_
                refine z_if_ge (tgt := 152) F dX3_goOn_131 (by decide) zv_48 (fun c_54 => ?_) (fun c_54 => ?_)
                · exact absurd trivial (by omega)
                · have hat := fd_n hrg.1.1 (key_tu hkt) qf (by omega)
                  have hng := rgI_n hrg hat
                  refine lv_aload_n F.1 F.2.1 dX3_goOn_134 rfl (lv_at hl 3 rfl) ?_
                  refine lv_aload F.1 F.2.1 dX3_goOn_135 (lv_at hl 7 rfl) ?_
                  refine z_iconst F dX3_goOn_137 ?_
                  refine lv_iload F.1 F.2.1 dX3_goOn_138 (lv_at hl 0 rfl) ?_
                  refine z_isub F dX3_goOn_140 ?_
                  refine lv_iload F.1 F.2.1 dX3_goOn_141 (lv_at hl 8 rfl) ?_
                  refine g_calli (g_runV (As := [.ref out, .int (iI ((-1) - v_48)), .int (iI rd)]) (rest := []) (ci := 3) F hl.1 hH hS hz (c_X3_arrivef l g gh (trT lc (sdH lc Tk (tup (AI (gh 0 inb)) j.toNat))) I_6 R J AI_36 AJ AR a out ((-1) - v_48) rd ⟨by omega, by omega⟩ zrd hv ha hout (by omega) (by omega) hkt (by omega) hat) (cwV 3 F.2.2.2.2.1 gX3_goOn_X3_arrive rfl rfl rfl hdX3_arrive ⟨Nat.le_of_ble_eq_true rfl, Nat.le_of_ble_eq_true rfl⟩) ha (by decide) rfl rfl rfl (Nat.le_of_ble_eq_true rfl) dX3_goOn_143 ⟨Nat.zero_le _, Nat.zero_le _⟩) hS (fun v_61 I_55 R_56 J_57 AI_58 AJ_59 AR_60 H locs zv_61 hp_62 hH hS => ?_)
                  dsimp only at hp_62
                  obtain ⟨rfl, rfl, rfl, rfl, hv, rfq, q_63, kIq, kAq, qarr, qak⟩ := hp_62
                  have rf := rF_t rf rfq
                  have u_64 : (I_55 ln 0).toInt = (I ln 0).toInt := by rw [rf ln 0 hln (by decide)]
                  have fI := kI_t fI kIq
                  have fA := kA_t fA kAq
                  have hkz : ∀ j : Nat, lc.1 4 ≤ (j : Int) → j < 5 → AI_58 (gh 30 0) j = 0 := fun j h1 h2 => by rw [qak.1]; exact hkz j h1 h2
                  have hsd : ∀ j : Nat, (j : Int) < lc.1 5 → AI_58 (gh 31 0) j = tg Tk j := fun q hq => by rw [qak.2]; exact hsd q hq
                  refine z_if_ne (tgt := 152) F dX3_goOn_146 (by decide) zv_61 (fun c_65 => ?_) (fun c_65 => ?_)
                  · obtain ⟨-, qa1, qa2, qa3, qa4, qa5⟩ := qarr.resolve_left (fun h => by omega)
                    clear qarr
                    have hrg8 := rgI_ins hrg hat qa3 (fun j hj => qa4 j (by omega)) qa5
                    rw [show (I_6 out 3).toInt.toNat + 1 = (I_55 out 3).toInt.toNat by omega] at hrg8
                    have hpr : ∀ i : Nat, (i : Int) < 4 * (I out 3).toInt → AI_58 (gh 32 0) i = AI (gh 32 0) i := fun i hi => by rw [qa4 i (by omega)]; exact hpr i hi
                    have hrg9 := rgI_q hrg8 (Q' := fun s => Qs s ∨ rGo lc (AI (gh 0 inb)) (j + 1).toNat Tk s) (fun s => by rw [show (j + 1).toNat = j.toNat + 1 by omega, rGo_s]; exact rg_q1 hap hmt)
                    refine z_iinc (lv' := [(7, .int (iI (j + 1))), (8, .int (iI v_48)), (6, .int (iI v_5)), (0, .ref a), (1, .ref ln), (2, .int (iI ar)), (3, .ref inb), (4, .ref out), (5, .int (iI rd))]) F dX3_goOn_152 hl (k := 1) rfl (by decide) rfl (fun ls hl => ?_)
                    refine z_goto (tgt := 30) F dX3_goOn_155 (by decide) ?_
                    exact ih30 (j + 1) I_55 AI_58 H locs ls ⟨by omega, by omega⟩ hv rf (by omega) (by omega) fI fA hkz hsd hrg9 hpr (by first | omega | (refine ⟨by omega, fun h9 => by omega, by omega, by omega⟩)) (by omega) hH hS (lv_sub hl [0, 2, 3, 4, 5, 6, 7, 8] rfl)
                  · refine z_bipush F dX3_goOn_149 (by decide) ?_
                    exact g_iret F hr hlk hH hS hz ⟨by decide, by decide⟩ ⟨rfl, rfl, rfl, rfl, hv, rf, by first | omega | rfl | (dsimp only; omega), fI, fA, Or.inr (Or.inl ⟨rfl, by omega, by
        have hb9 := rgI_big hrg (L := 120) (by rcases qarr with h9 | h9 <;> omega) hat
        refine bigP_m hb9 (fun s hs => ?_)
        rcases hs with (hs | hs | hs) | hs
        · exact Or.inl hs
        · exact Or.inr (Or.inl hs)
        · exact Or.inr (Or.inr (rGo_m (by omega) hs))
        · exact Or.inr (Or.inr (by rw [hs]; exact rg_go hap hmt (by omega)))⟩), by (try dsimp only); exact ⟨hkz, fun i hi => by have q8 := qarr; rcases q8 with h9 | h9; (· rw [h9.2.2]; exact hpr i hi); (· rw [h9.2.2.2.2.1 i (by omega)]; exact hpr i hi)⟩⟩ dX3_goOn_151
              · have hat := fd_n hrg.1.1 (key_tu hkt) qf (by omega)
                have hng := rgI_n hrg hat
                refine z_bipush F dX3_goOn_126 (by decide) ?_
                exact g_iret F hr hlk hH hS hz ⟨by decide, by decide⟩ ⟨rfl, rfl, rfl, rfl, hv, rf, by first | omega | rfl | (dsimp only; omega), fI, fA, Or.inr (Or.inr ⟨rfl, by omega, (trT lc (sdH lc Tk (tup (AI (gh 0 inb)) j.toNat))), fun h9 => hng (h9.elim Or.inl (fun h8 => Or.inr (Or.inl h8))), rg_go hap hmt (by omega)⟩), by (try dsimp only); exact ⟨hkz, hpr⟩⟩ dX3_goOn_128
          · refine z_goto (tgt := 152) F dX3_goOn_63 (by decide) ?_
            have hrg9 := rgI_q hrg (Q' := fun s => Qs s ∨ rGo lc (AI (gh 0 inb)) (j + 1).toNat Tk s) (fun s => by rw [show (j + 1).toNat = j.toNat + 1 by omega, rGo_s]; exact rg_q3 (fun h9 => by first | (have := h9.1; omega) | (have h8 := h9.2.1; rw [← hw24, ← hw55] at h8; exact absurd ((iI_eq zv_5 zv_27).mp h8) (by omega))))
            refine z_iinc (lv' := [(7, .int (iI (j + 1))), (6, .int (iI v_5)), (0, .ref a), (1, .ref ln), (2, .int (iI ar)), (3, .ref inb), (4, .ref out), (5, .int (iI rd))]) F dX3_goOn_152 hl (k := 0) rfl (by decide) rfl (fun ls hl => ?_)
            refine z_goto (tgt := 30) F dX3_goOn_155 (by decide) ?_
            exact ih30 (j + 1) I_6 AI_7 H locs ls ⟨by omega, by omega⟩ hv rf (by omega) (by omega) fI fA hkz hsd hrg9 hpr (by first | omega | (refine ⟨by omega, fun h9 => by omega, by omega, by omega⟩)) (by omega) hH hS (lv_sub hl [0, 1, 2, 3, 4, 5, 6, 7] rfl)
  exact cut_30_7 (((240 - 0) + 1 : Int).toNat) 0 I AI_3 H locs ls ⟨by decide, by decide⟩ hv rf (by omega) (by omega) fI fA (by rw [e30]; exact hkz) hsd (by rw [eco, e32]; exact rgI_q hrg (fun s => ⟨fun h => h.elim Or.inl (fun h => h.elim Or.inr (fun h => absurd h rGo_0)), fun h => h.elim Or.inl (fun h => Or.inr (Or.inl h))⟩)) (fun i _ => by rw [e32]) (by first | omega | (refine ⟨by omega, fun h9 => by omega, by omega, by omega⟩)) (by omega) hH hS (lv_sub hl [0, 1, 2, 3, 4, 5, 6, 7] rfl)

