section
def rmX3_reckonf : Room := { frames := 5, cells := 0, slots := 0, locals := 165 }
set_option maxHeartbeats 4000000 in
set_option maxRecDepth 100000 in
/-- a view of its relations -/
theorem c_X3_reckonf (l : Launch) (g : gG) (gh : gGh) (lc : LC) (r9 : Nat) (cl : Nat → Int) (I : gI) (R : gR) (J : gJ) (AI : gI) (AJ : gJ) (AR : gR) (a : Nat) (ln : Nat) (bags : Nat) (out : Nat) (hv : gInv g gh R AR I AI) (ha : gO g a 3) (hln : gO g ln 0) (hout : gO g out 4) (h4 : gh 2 out = 4) (hb : isRA g gh AR bags 16 120 4) (hlm : gh 1 out = 120) (hlc : lnC (I ln) (AI (gh 3 ln)) lc) (hcK : cOK lc r9 cl) (hr9 : r9 ≤ 16) (hbg : ∀ q, q < r9 → bgOK (rfC gh AR I AI bags) cl q) (hno : ∀ q, q < r9 → rob AR bags q ≠ out) : gMet l g yX3_reckon wsX3_reckon rmX3_reckonf [.ref a, .ref ln, .ref bags, .ref out] (I, R, J, AI, AJ, AR) (gQi g (fun (z : Int) (w : gS) => R = w.2.1 ∧ J = w.2.2.1 ∧ AJ = w.2.2.2.2.1 ∧ AR = w.2.2.2.2.2 ∧ (gInv g gh R AR (w.1) (w.2.2.2.1)) ∧ (rF g I (w.1)) ∧ (-4 ≤ z ∧ z ≤ 0) ∧ (kI out I (w.1)) ∧ (kA gh out AI (w.2.2.2.1)) ∧ (vwP lc (rfC gh AR I AI bags) z ((w.2.2.2.1) (gh 0 out)) ((w.1) out 3).toInt.toNat))) := by
  refine gStart (cc := cX3_reckon) (maxL := 6) (ret := (some (.int))) (by decide) rfl (Nat.le_of_ble_eq_true rfl) ?_
  intro p e s m below meth c ls F hr hlk hH hz hS hl
  have hl : lv_has ls 6 [(0, .ref a), (1, .ref ln), (2, .ref bags), (3, .ref out)] := hl
  have hS : va_S (gA g) s.heap s.heap [] := hS
  obtain ⟨H, hHe⟩ : ∃ H : Heap, H = s.heap := ⟨_, rfl⟩
  obtain ⟨locs, hlo⟩ : ∃ k : List Loc, k = [] := ⟨_, rfl⟩
  have hH : gH g I R J AI AJ AR H := by rw [hHe]; exact hH
  have hS : va_S (gA g) s.heap H locs := by rw [hHe, hlo]; exact hS
  suffices hw : W p l e rmX3_reckonf s m ([.ref a, .ref ln, .ref bags, .ref out] : List Value).toArray below meth c H locs 0 0 (MQ below (gQi g (fun (z : Int) (w : gS) => R = w.2.1 ∧ J = w.2.2.1 ∧ AJ = w.2.2.2.2.1 ∧ AR = w.2.2.2.2.2 ∧ (gInv g gh R AR (w.1) (w.2.2.2.1)) ∧ (rF g I (w.1)) ∧ (-4 ≤ z ∧ z ≤ 0) ∧ (kI out I (w.1)) ∧ (kA gh out AI (w.2.2.2.1)) ∧ (vwP lc (rfC gh AR I AI bags) z ((w.2.2.2.1) (gh 0 out)) ((w.1) out 3).toInt.toNat))) ([.ref a, .ref ln, .ref bags, .ref out] : List Value).toArray s 0 0 (gA g)) (F0 m 0 ls []) by
    rw [hHe, hlo] at hw; exact hw
  clear hHe hlo
  have rf : rF g I I := rF_r
  have fI : kI out I I := kI_r
  have fA : kA gh out AI AI := kA_r
  have iX4 : ∀ w ∈ u_ws RX4 TX4 4, w ∈ wsX3_reckon := (by decide +kernel)
  have iX0 : ∀ w ∈ u_ws RX0 TX0 15, w ∈ wsX3_reckon := (by decide +kernel)
  have k23 : Cond.fieldLink RX3 23 (TX4 3).1 (TX4 3).2.1 (TX4 3).2.2.1 ∈ wsX3_reckon := List.mem_of_getElem? (i := 1) rfl
  have k27 : Cond.fieldLink RX3 27 (TX0 3).1 (TX0 3).2.1 (TX0 3).2.2.1 ∈ wsX3_reckon := List.mem_of_getElem? (i := 2) rfl
  have k32 : Cond.fieldLink RX3 32 (TX0 4).1 (TX0 4).2.1 (TX0 4).2.2.1 ∈ wsX3_reckon := List.mem_of_getElem? (i := 3) rfl
  have k35 : Cond.fieldLink RX3 35 (TX0 0).1 (TX0 0).2.1 (TX0 0).2.2.1 ∈ wsX3_reckon := List.mem_of_getElem? (i := 4) rfl
  refine lv_aload_n F.1 F.2.1 dX3_reckon_0 rfl (lv_at hl 3 rfl) ?_
  refine z_iconst F dX3_reckon_1 ?_
  refine g_putI (ci := 4) (k := 3) F hH hS rfl (by decide) iX4 hout (by decide) tyX4 tyX4_ok nmX4 rfl rfl rfl k23 dX3_reckon_2 (fun H locs hH hS => ?_)
  obtain ⟨I_1, eI_1⟩ : ∃ qQ, qQ = gup2 I out 3 (iI (0)) := ⟨_, rfl⟩
  rw [← eI_1] at hH
  have kI_1 : ∀ b, b ≠ out → I_1 b = I b := fun b hb => by rw [eI_1]; exact funext fun j => gup2_a _ _ hb
  have w_2 : (I_1 out 3).toInt = 0 := by rw [eI_1, gup2_s]; exact iI_val ⟨by omega, by omega⟩
  have hv : gInv g gh R AR I_1 AI := by rw [eI_1]; exact gInv_len hv hout (by omega) (by omega) (by first | exact hfz | omega)
  have rf := rF_t rf (rF_o hout kI_1)
  have w_2u : (I_1 ln 0).toInt = (I ln 0).toInt := by rw [rf ln 0 hln (by decide)]
  have fI := kI_t fI kI_1
  have hlcN : lnC (I_1 ln) (AI (gh 3 ln)) lc := lnC_m hlc (fI ln (gO_ne hln hout (by decide))) rfl
  have hl3 := hlcN.1.2.2.1
  have hl4 := hlcN.1.2.2.2
  have hl0k := hlcN.1.1
  obtain ⟨⟨k1, k2, k3, k4, k5, k6⟩, k7, k8, k9, k10, k11⟩ := hcK
  refine lv_aload_n F.1 F.2.1 dX3_reckon_5 rfl (lv_at hl 1 rfl) ?_
  refine g_getI (ci := 0) (k := 3) F hH rfl (by decide) iX0 hln (by decide) rfl k27 dX3_reckon_6 ?_
  have b_3 := gI_line hv hln
  unfold vLineI at b_3
  refine z_iconst F dX3_reckon_9 ?_
  refine z_icmp_ne (tgt := 15) F dX3_reckon_10 (by decide) (zr_t _) ⟨by decide, by decide⟩ (fun c_4 => ?_) (fun c_4 => ?_)
  · refine lv_aload_n F.1 F.2.1 dX3_reckon_15 rfl (lv_at hl 2 rfl) ?_
    refine lv_aload_n F.1 F.2.1 dX3_reckon_16 rfl (lv_at hl 1 rfl) ?_
    refine g_getI (ci := 0) (k := 3) F hH rfl (by decide) iX0 hln (by decide) rfl k27 dX3_reckon_17 ?_
    have hx20 : 0 ≤ ((I_1 ln 3).toInt) ∧ ((I_1 ln 3).toInt) < ((16 : Nat) : Int) ∧ ((I_1 ln 3).toInt) ≤ 2147483647 := ⟨by omega, by omega, by omega⟩
    obtain ⟨y_5, y_5a, y_5b, y_5c, y_5d, y_5e⟩ := hb.2 (((I_1 ln 3).toInt)).toNat (by omega)
    refine g_aldR F hH hb.1 hx20.1 hx20.2.1 hx20.2.2 (b := y_5) y_5a dX3_reckon_20 ?_
    refine lv_astore (lv' := [(4, .ref y_5), (0, .ref a), (1, .ref ln), (2, .ref bags), (3, .ref out)]) F.1 F.2.1 dX3_reckon_21 hl (by decide) rfl (fun ls hl => ?_)
    refine lv_aload_n F.1 F.2.1 dX3_reckon_23 rfl (lv_at hl 2 rfl) ?_
    refine g_getI (ci := 0) (k := 4) F hH rfl (by decide) iX0 hln (by decide) rfl k32 dX3_reckon_24 ?_
    refine z_iconst F dX3_reckon_27 ?_
    refine z_icmp_ne (tgt := 36) F dX3_reckon_28 (by decide) (zr_t _) ⟨by decide, by decide⟩ (fun c_6 => ?_) (fun c_6 => ?_)
    · refine lv_aload_n F.1 F.2.1 dX3_reckon_36 rfl (lv_at hl 3 rfl) ?_
      refine lv_aload_n F.1 F.2.1 dX3_reckon_37 rfl (lv_at hl 2 rfl) ?_
      refine g_getI (ci := 0) (k := 4) F hH rfl (by decide) iX0 hln (by decide) rfl k32 dX3_reckon_38 ?_
      have hx41 : 0 ≤ ((I_1 ln 4).toInt) ∧ ((I_1 ln 4).toInt) < ((16 : Nat) : Int) ∧ ((I_1 ln 4).toInt) ≤ 2147483647 := ⟨by omega, by omega, by omega⟩
      obtain ⟨y_7, y_7a, y_7b, y_7c, y_7d, y_7e⟩ := hb.2 (((I_1 ln 4).toInt)).toNat (by omega)
      refine g_aldR F hH hb.1 hx41.1 hx41.2.1 hx41.2.2 (b := y_7) y_7a dX3_reckon_41 ?_
      refine lv_astore (lv' := [(5, .ref y_7), (4, .ref y_5), (0, .ref a), (1, .ref ln), (2, .ref bags), (3, .ref out)]) F.1 F.2.1 dX3_reckon_42 hl (by decide) rfl (fun ls hl => ?_)
      have e1 : rob AR bags (lc.1 2).toNat = y_5 := rob_e (by rw [← hl3]; exact y_5a)
      have b1 := hbg (lc.1 2).toNat (by omega)
      have n1 := hno (lc.1 2).toNat (by omega)
      rw [e1] at n1
      have F1 : (rfC gh AR I AI bags) (lc.1 2).toNat = ((I y_5 3).toInt.toNat, AI (gh 0 y_5)) := by unfold rfC; rw [e1]
      unfold bgOK at b1; rw [F1] at b1
      have i1 : I_1 y_5 = I y_5 := fI y_5 n1
      have l1 : (I_1 y_5 3).toInt = (((I y_5 3).toInt.toNat : Nat) : Int) := by have q9 := (gI_rows hv y_5b).2.2.1; rw [i1] at q9 ⊢; omega
      have u1 := b1.2.1
      dsimp only at u1
      have e2 : rob AR bags (lc.1 3).toNat = y_7 := rob_e (by rw [← hl4]; exact y_7a)
      have b2 := hbg (lc.1 3).toNat (by omega)
      have n2 := hno (lc.1 3).toNat (by omega)
      rw [e2] at n2
      have F2 : (rfC gh AR I AI bags) (lc.1 3).toNat = ((I y_7 3).toInt.toNat, AI (gh 0 y_7)) := by unfold rfC; rw [e2]
      unfold bgOK at b2; rw [F2] at b2
      have i2 : I_1 y_7 = I y_7 := fI y_7 n2
      have l2 : (I_1 y_7 3).toInt = (((I y_7 3).toInt.toNat : Nat) : Int) := by have q9 := (gI_rows hv y_7b).2.2.1; rw [i2] at q9 ⊢; omega
      have u2 := b2.2.1
      dsimp only at u2
      refine lv_aload_n F.1 F.2.1 dX3_reckon_44 rfl (lv_at hl 3 rfl) ?_
      refine g_getI (ci := 0) (k := 0) F hH rfl (by decide) iX0 hln (by decide) rfl k35 dX3_reckon_45 ?_
      have ec_8 : (iI ((I_1 ln 0).toInt)).toInt = (I_1 ln 0).toInt := iI_val (zr_t _)
      by_cases c_8 : ((I_1 ln 0).toInt) < 1 ∨ 7 < ((I_1 ln 0).toInt)
      · refine lv_tableOut (tgt := 176) F.1 F.2.1 dX3_reckon_48 (by rw [ec_8]; exact c_8) (by decide) ?_
        refine lv_aload_n F.1 F.2.1 dX3_reckon_176 rfl (lv_at hl 2 rfl) ?_
        refine lv_aload_n F.1 F.2.1 dX3_reckon_177 rfl (lv_at hl 3 rfl) ?_
        refine lv_aload F.1 F.2.1 dX3_reckon_178 (lv_at hl 1 rfl) ?_
        refine lv_aload F.1 F.2.1 dX3_reckon_180 (lv_at hl 0 rfl) ?_
        refine lv_aload_n F.1 F.2.1 dX3_reckon_182 rfl (lv_at hl 5 rfl) ?_
        obtain ⟨b_9a, b_9b, b_9c, b_9d, b_9e, b_9f, b_9g, b_9h⟩ := gI_rows hv y_5b
        obtain ⟨b_10a, b_10b, b_10c, b_10d, b_10e, b_10f, b_10g, b_10h⟩ := gI_rows hv y_7b
        obtain ⟨b_11a, b_11b, b_11c, b_11d, b_11e, b_11f, b_11g, b_11h⟩ := gI_rows hv hout
        refine g_calli (g_runV (As := [.ref ln, .ref y_5, .ref y_7, .ref out]) (rest := []) (ci := 3) F hl.1 hH hS hz (c_X3_ringf l g gh lc ((I y_5 3).toInt.toNat) ((I y_7 3).toInt.toNat) I_1 R J AI AJ AR a ln y_5 y_7 out hv ha hln y_5b y_7b hout (by omega) (by omega) (by omega) hlcN (by omega) (k11 (by omega)).1 n1 (by omega) l1 b1.1 n2 (by omega) l2 b2.1 (by rw [(k11 (by omega)).2.1]; exact b1.2.2) (by omega) (by omega)) (cwV 4 F.2.2.2.2.1 gX3_reckon_X3_ring rfl rfl rfl hdX3_ring ⟨Nat.le_of_ble_eq_true rfl, Nat.le_of_ble_eq_true rfl⟩) ha (by decide) rfl rfl rfl (Nat.le_of_ble_eq_true rfl) dX3_reckon_183 ⟨Nat.zero_le _, Nat.zero_le _⟩) hS (fun v_18 I_12 R_13 J_14 AI_15 AJ_16 AR_17 H locs zv_18 hp_19 hH hS => ?_)
        dsimp only at hp_19
        obtain ⟨rfl, rfl, rfl, rfl, hv, rfq, q_20, kIq, kAq, qres⟩ := hp_19
        have rf := rF_t rf rfq
        have u_21 : (I_12 ln 0).toInt = (I ln 0).toInt := by rw [rf ln 0 hln (by decide)]
        have fI := kI_t fI kIq
        have fA := kA_t fA kAq
        exact g_iret F hr hlk hH hS hz zv_18 ⟨rfl, rfl, rfl, rfl, hv, rf, by first | omega | rfl | (dsimp only; omega), fI, fA, by (try dsimp only); exact vw_8 (by omega) F1 F2 qres⟩ dX3_reckon_186
      by_cases c_8_0 : (I_1 ln 0).toInt = 1
      · refine lv_tableIn (tgt := 92) (off := 44) F.1 F.2.1 dX3_reckon_48 (by rw [ec_8]; omega) (by rw [ec_8]; omega) (by rw [ec_8, c_8_0]; rfl) (by decide) ?_
        refine lv_aload_n F.1 F.2.1 dX3_reckon_92 rfl (lv_at hl 2 rfl) ?_
        refine lv_aload_n F.1 F.2.1 dX3_reckon_93 rfl (lv_at hl 3 rfl) ?_
        refine lv_aload F.1 F.2.1 dX3_reckon_94 (lv_at hl 1 rfl) ?_
        refine lv_aload_n F.1 F.2.1 dX3_reckon_96 rfl (lv_at hl 5 rfl) ?_
        obtain ⟨b_22a, b_22b, b_22c, b_22d, b_22e, b_22f, b_22g, b_22h⟩ := gI_rows hv y_5b
        obtain ⟨b_23a, b_23b, b_23c, b_23d, b_23e, b_23f, b_23g, b_23h⟩ := gI_rows hv hout
        refine g_calli (g_runV (As := [.ref ln, .ref y_5, .ref out]) (rest := []) (ci := 3) F hl.1 hH hS hz (c_X3_selectf l g gh lc ((I y_5 3).toInt.toNat) I_1 R J AI AJ AR a ln y_5 out hv ha hln y_5b hout (by omega) (by omega) hlcN (by omega) n1 (by omega) l1 b1.1 (by omega) (by omega)) (cwV 3 F.2.2.2.2.1 gX3_reckon_X3_select rfl rfl rfl hdX3_select ⟨Nat.le_of_ble_eq_true rfl, Nat.le_of_ble_eq_true rfl⟩) ha (by decide) rfl rfl rfl (Nat.le_of_ble_eq_true rfl) dX3_reckon_97 ⟨Nat.zero_le _, Nat.zero_le _⟩) hS (fun v_30 I_24 R_25 J_26 AI_27 AJ_28 AR_29 H locs zv_30 hp_31 hH hS => ?_)
        dsimp only at hp_31
        obtain ⟨rfl, rfl, rfl, rfl, hv, rfq, q_32, kIq, kAq, qres⟩ := hp_31
        have rf := rF_t rf rfq
        have u_33 : (I_24 ln 0).toInt = (I ln 0).toInt := by rw [rf ln 0 hln (by decide)]
        have fI := kI_t fI kIq
        have fA := kA_t fA kAq
        exact g_iret F hr hlk hH hS hz zv_30 ⟨rfl, rfl, rfl, rfl, hv, rf, by first | omega | rfl | (dsimp only; omega), fI, fA, by (try dsimp only); exact vw_1 (Or.inl (by omega)) F1 qres u1⟩ dX3_reckon_100
      by_cases c_8_1 : (I_1 ln 0).toInt = 2
      · refine lv_tableIn (tgt := 101) (off := 53) F.1 F.2.1 dX3_reckon_48 (by rw [ec_8]; omega) (by rw [ec_8]; omega) (by rw [ec_8, c_8_1]; rfl) (by decide) ?_
        refine lv_aload_n F.1 F.2.1 dX3_reckon_101 rfl (lv_at hl 2 rfl) ?_
        refine lv_aload_n F.1 F.2.1 dX3_reckon_102 rfl (lv_at hl 3 rfl) ?_
        refine lv_aload F.1 F.2.1 dX3_reckon_103 (lv_at hl 1 rfl) ?_
        refine lv_aload_n F.1 F.2.1 dX3_reckon_105 rfl (lv_at hl 5 rfl) ?_
        obtain ⟨b_34a, b_34b, b_34c, b_34d, b_34e, b_34f, b_34g, b_34h⟩ := gI_rows hv y_5b
        obtain ⟨b_35a, b_35b, b_35c, b_35d, b_35e, b_35f, b_35g, b_35h⟩ := gI_rows hv hout
        refine g_calli (g_runV (As := [.ref ln, .ref y_5, .ref out]) (rest := []) (ci := 3) F hl.1 hH hS hz (c_X3_projectf l g gh lc ((I y_5 3).toInt.toNat) I_1 R J AI AJ AR a ln y_5 out hv ha hln y_5b hout (by omega) (by omega) hlcN (by omega) (k8 (by omega)).1 (k8 (by omega)).2 n1 (by omega) l1 b1.1 (by omega) (by omega)) (cwV 3 F.2.2.2.2.1 gX3_reckon_X3_project rfl rfl rfl hdX3_project ⟨Nat.le_of_ble_eq_true rfl, Nat.le_of_ble_eq_true rfl⟩) ha (by decide) rfl rfl rfl (Nat.le_of_ble_eq_true rfl) dX3_reckon_106 ⟨Nat.zero_le _, Nat.zero_le _⟩) hS (fun v_42 I_36 R_37 J_38 AI_39 AJ_40 AR_41 H locs zv_42 hp_43 hH hS => ?_)
        dsimp only at hp_43
        obtain ⟨rfl, rfl, rfl, rfl, hv, rfq, q_44, kIq, kAq, qres⟩ := hp_43
        have rf := rF_t rf rfq
        have u_45 : (I_36 ln 0).toInt = (I ln 0).toInt := by rw [rf ln 0 hln (by decide)]
        have fI := kI_t fI kIq
        have fA := kA_t fA kAq
        exact g_iret F hr hlk hH hS hz zv_42 ⟨rfl, rfl, rfl, rfl, hv, rf, by first | omega | rfl | (dsimp only; omega), fI, fA, by (try dsimp only); exact vw_1 (Or.inr (Or.inl (by omega))) F1 qres u1⟩ dX3_reckon_109
      by_cases c_8_2 : (I_1 ln 0).toInt = 3
      · refine lv_tableIn (tgt := 110) (off := 62) F.1 F.2.1 dX3_reckon_48 (by rw [ec_8]; omega) (by rw [ec_8]; omega) (by rw [ec_8, c_8_2]; rfl) (by decide) ?_
        refine lv_aload_n F.1 F.2.1 dX3_reckon_110 rfl (lv_at hl 2 rfl) ?_
        refine lv_aload_n F.1 F.2.1 dX3_reckon_111 rfl (lv_at hl 3 rfl) ?_
        refine lv_aload F.1 F.2.1 dX3_reckon_112 (lv_at hl 1 rfl) ?_
        refine lv_aload F.1 F.2.1 dX3_reckon_114 (lv_at hl 0 rfl) ?_
        refine lv_aload_n F.1 F.2.1 dX3_reckon_116 rfl (lv_at hl 5 rfl) ?_
        obtain ⟨b_46a, b_46b, b_46c, b_46d, b_46e, b_46f, b_46g, b_46h⟩ := gI_rows hv y_5b
        obtain ⟨b_47a, b_47b, b_47c, b_47d, b_47e, b_47f, b_47g, b_47h⟩ := gI_rows hv y_7b
        obtain ⟨b_48a, b_48b, b_48c, b_48d, b_48e, b_48f, b_48g, b_48h⟩ := gI_rows hv hout
        refine g_calli (g_runV (As := [.ref ln, .ref y_5, .ref y_7, .ref out]) (rest := []) (ci := 3) F hl.1 hH hS hz (c_X3_joinf l g gh lc ((I y_5 3).toInt.toNat) ((I y_7 3).toInt.toNat) I_1 R J AI AJ AR a ln y_5 y_7 out hv ha hln y_5b y_7b hout (by omega) (by omega) hlcN (by omega) (k9 (by omega)).1 n1 (by omega) l1 b1.1 n2 (by omega) l2 b2.1 (by rw [(k9 (by omega)).2.1]; exact b1.2.2) (by rw [(k9 (by omega)).2.2]; exact b2.2.2) (by omega) (by omega)) (cwV 4 F.2.2.2.2.1 gX3_reckon_X3_join rfl rfl rfl hdX3_join ⟨Nat.le_of_ble_eq_true rfl, Nat.le_of_ble_eq_true rfl⟩) ha (by decide) rfl rfl rfl (Nat.le_of_ble_eq_true rfl) dX3_reckon_117 ⟨Nat.zero_le _, Nat.zero_le _⟩) hS (fun v_55 I_49 R_50 J_51 AI_52 AJ_53 AR_54 H locs zv_55 hp_56 hH hS => ?_)
        dsimp only at hp_56
        obtain ⟨rfl, rfl, rfl, rfl, hv, rfq, q_57, kIq, kAq, qres⟩ := hp_56
        have rf := rF_t rf rfq
        have u_58 : (I_49 ln 0).toInt = (I ln 0).toInt := by rw [rf ln 0 hln (by decide)]
        have fI := kI_t fI kIq
        have fA := kA_t fA kAq
        exact g_iret F hr hlk hH hS hz zv_55 ⟨rfl, rfl, rfl, rfl, hv, rf, by first | omega | rfl | (dsimp only; omega), fI, fA, by (try dsimp only); exact vw_3 (by omega) F1 F2 qres⟩ dX3_reckon_120
      by_cases c_8_3 : (I_1 ln 0).toInt = 4
      · refine lv_tableIn (tgt := 121) (off := 73) F.1 F.2.1 dX3_reckon_48 (by rw [ec_8]; omega) (by rw [ec_8]; omega) (by rw [ec_8, c_8_3]; rfl) (by decide) ?_
        refine lv_aload_n F.1 F.2.1 dX3_reckon_121 rfl (lv_at hl 5 rfl) ?_
        refine lv_aload F.1 F.2.1 dX3_reckon_122 (lv_at hl 1 rfl) ?_
        refine lv_aload F.1 F.2.1 dX3_reckon_124 (lv_at hl 0 rfl) ?_
        refine z_iconst F dX3_reckon_126 ?_
        obtain ⟨b_59a, b_59b, b_59c, b_59d, b_59e, b_59f, b_59g, b_59h⟩ := gI_rows hv hout
        obtain ⟨b_60a, b_60b, b_60c, b_60d, b_60e, b_60f, b_60g, b_60h⟩ := gI_rows hv y_5b
        obtain ⟨b_61a, b_61b, b_61c, b_61d, b_61e, b_61f, b_61g, b_61h⟩ := gI_rows hv y_7b
        refine g_calli (g_runV (As := [.ref y_5, .ref y_7, .int (iI 1)]) (rest := []) (ci := 4) F hl.1 hH hS hz (c_X4_gatherf l g gh ((I y_5 3).toInt.toNat) ((I y_7 3).toInt.toNat) (fun t => bS (AI (gh 0 y_5)) (I y_5 3).toInt.toNat t + iI 1 * bS (AI (gh 0 y_7)) (I y_7 3).toInt.toNat t) I_1 R J AI AJ AR out y_5 y_7 1 ⟨by decide, by decide⟩ hv hout y_5b y_7b (by omega) (by omega) n1 n2 (by omega) l1 l2 b1.1 b2.1 (fun _ => rfl)) (cwV 3 F.2.2.2.2.1 gX3_reckon_X4_gather rfl rfl rfl hdX4_gather ⟨Nat.le_of_ble_eq_true rfl, Nat.le_of_ble_eq_true rfl⟩) hout (by decide) rfl rfl rfl (Nat.le_of_ble_eq_true rfl) dX3_reckon_127 ⟨Nat.zero_le _, Nat.zero_le _⟩) hS (fun v_68 I_62 R_63 J_64 AI_65 AJ_66 AR_67 H locs zv_68 hp_69 hH hS => ?_)
        dsimp only at hp_69
        obtain ⟨rfl, rfl, rfl, rfl, hv, q_70, q_71, qga⟩ := hp_69
        have rf := rF_t rf (rF_o hout q_70)
        have u_72 : (I_62 ln 0).toInt = (I ln 0).toInt := by rw [rf ln 0 hln (by decide)]
        have fI := kI_t fI q_70
        have fA := kA_t fA (kA_o q_71)
        refine z_if_eq (tgt := 137) F dX3_reckon_130 (by decide) zv_68 (fun c_73 => ?_) (fun c_73 => ?_)
        · refine z_bipush F dX3_reckon_137 (by decide) ?_
          exact g_iret F hr hlk hH hS hz ⟨by decide, by decide⟩ ⟨rfl, rfl, rfl, rfl, hv, rf, by first | omega | rfl | (dsimp only; omega), fI, fA, by (try dsimp only); exact vw_4 (sg := 1) (Or.inl ⟨by omega, rfl⟩) F1 F2 (by rw [hlm] at qga; exact qga) (by have h9 := (gI_rows hv hout).2.2.2.1; omega) (by omega)⟩ dX3_reckon_139
        · refine z_iconst F dX3_reckon_133 ?_
          refine z_goto (tgt := 139) F dX3_reckon_134 (by decide) ?_
          exact g_iret F hr hlk hH hS hz ⟨by decide, by decide⟩ ⟨rfl, rfl, rfl, rfl, hv, rf, by first | omega | rfl | (dsimp only; omega), fI, fA, by (try dsimp only); exact vw_4 (sg := 1) (Or.inl ⟨by omega, rfl⟩) F1 F2 (by rw [hlm] at qga; exact qga) (by have h9 := (gI_rows hv hout).2.2.2.1; omega) (by omega)⟩ dX3_reckon_139
      by_cases c_8_4 : (I_1 ln 0).toInt = 5
      · refine lv_tableIn (tgt := 140) (off := 92) F.1 F.2.1 dX3_reckon_48 (by rw [ec_8]; omega) (by rw [ec_8]; omega) (by rw [ec_8, c_8_4]; rfl) (by decide) ?_
        refine lv_aload_n F.1 F.2.1 dX3_reckon_140 rfl (lv_at hl 5 rfl) ?_
        refine lv_aload F.1 F.2.1 dX3_reckon_141 (lv_at hl 1 rfl) ?_
        refine lv_aload F.1 F.2.1 dX3_reckon_143 (lv_at hl 0 rfl) ?_
        refine z_iconst F dX3_reckon_145 ?_
        obtain ⟨b_74a, b_74b, b_74c, b_74d, b_74e, b_74f, b_74g, b_74h⟩ := gI_rows hv hout
        obtain ⟨b_75a, b_75b, b_75c, b_75d, b_75e, b_75f, b_75g, b_75h⟩ := gI_rows hv y_5b
        obtain ⟨b_76a, b_76b, b_76c, b_76d, b_76e, b_76f, b_76g, b_76h⟩ := gI_rows hv y_7b
        refine g_calli (g_runV (As := [.ref y_5, .ref y_7, .int (iI ((-1)))]) (rest := []) (ci := 4) F hl.1 hH hS hz (c_X4_gatherf l g gh ((I y_5 3).toInt.toNat) ((I y_7 3).toInt.toNat) (fun t => bS (AI (gh 0 y_5)) (I y_5 3).toInt.toNat t + iI (-1) * bS (AI (gh 0 y_7)) (I y_7 3).toInt.toNat t) I_1 R J AI AJ AR out y_5 y_7 (-1) ⟨by decide, by decide⟩ hv hout y_5b y_7b (by omega) (by omega) n1 n2 (by omega) l1 l2 b1.1 b2.1 (fun _ => rfl)) (cwV 3 F.2.2.2.2.1 gX3_reckon_X4_gather rfl rfl rfl hdX4_gather ⟨Nat.le_of_ble_eq_true rfl, Nat.le_of_ble_eq_true rfl⟩) hout (by decide) rfl rfl rfl (Nat.le_of_ble_eq_true rfl) dX3_reckon_146 ⟨Nat.zero_le _, Nat.zero_le _⟩) hS (fun v_83 I_77 R_78 J_79 AI_80 AJ_81 AR_82 H locs zv_83 hp_84 hH hS => ?_)
        dsimp only at hp_84
        obtain ⟨rfl, rfl, rfl, rfl, hv, q_85, q_86, qga⟩ := hp_84
        have rf := rF_t rf (rF_o hout q_85)
        have u_87 : (I_77 ln 0).toInt = (I ln 0).toInt := by rw [rf ln 0 hln (by decide)]
        have fI := kI_t fI q_85
        have fA := kA_t fA (kA_o q_86)
        refine z_if_eq (tgt := 156) F dX3_reckon_149 (by decide) zv_83 (fun c_88 => ?_) (fun c_88 => ?_)
        · refine z_bipush F dX3_reckon_156 (by decide) ?_
          exact g_iret F hr hlk hH hS hz ⟨by decide, by decide⟩ ⟨rfl, rfl, rfl, rfl, hv, rf, by first | omega | rfl | (dsimp only; omega), fI, fA, by (try dsimp only); exact vw_4 (sg := -1) (Or.inr ⟨by omega, rfl⟩) F1 F2 (by rw [hlm] at qga; exact qga) (by have h9 := (gI_rows hv hout).2.2.2.1; omega) (by omega)⟩ dX3_reckon_158
        · refine z_iconst F dX3_reckon_152 ?_
          refine z_goto (tgt := 158) F dX3_reckon_153 (by decide) ?_
          exact g_iret F hr hlk hH hS hz ⟨by decide, by decide⟩ ⟨rfl, rfl, rfl, rfl, hv, rf, by first | omega | rfl | (dsimp only; omega), fI, fA, by (try dsimp only); exact vw_4 (sg := -1) (Or.inr ⟨by omega, rfl⟩) F1 F2 (by rw [hlm] at qga; exact qga) (by have h9 := (gI_rows hv hout).2.2.2.1; omega) (by omega)⟩ dX3_reckon_158
      by_cases c_8_5 : (I_1 ln 0).toInt = 6
      · refine lv_tableIn (tgt := 159) (off := 111) F.1 F.2.1 dX3_reckon_48 (by rw [ec_8]; omega) (by rw [ec_8]; omega) (by rw [ec_8, c_8_5]; rfl) (by decide) ?_
        refine lv_aload_n F.1 F.2.1 dX3_reckon_159 rfl (lv_at hl 2 rfl) ?_
        refine lv_aload F.1 F.2.1 dX3_reckon_160 (lv_at hl 1 rfl) ?_
        refine lv_aload_n F.1 F.2.1 dX3_reckon_162 rfl (lv_at hl 5 rfl) ?_
        obtain ⟨b_89a, b_89b, b_89c, b_89d, b_89e, b_89f, b_89g, b_89h⟩ := gI_rows hv y_5b
        obtain ⟨b_90a, b_90b, b_90c, b_90d, b_90e, b_90f, b_90g, b_90h⟩ := gI_rows hv hout
        refine g_calli (g_runV (As := [.ref y_5, .ref out]) (rest := []) (ci := 3) F hl.1 hH hS hz (c_X3_distinctf l g gh lc ((I y_5 3).toInt.toNat) I_1 R J AI AJ AR a y_5 out hv ha y_5b hout (by omega) (by omega) n1 (by omega) l1 b1.1 (by omega) (by omega)) (cwV 2 F.2.2.2.2.1 gX3_reckon_X3_distinct rfl rfl rfl hdX3_distinct ⟨Nat.le_of_ble_eq_true rfl, Nat.le_of_ble_eq_true rfl⟩) ha (by decide) rfl rfl rfl (Nat.le_of_ble_eq_true rfl) dX3_reckon_163 ⟨Nat.zero_le _, Nat.zero_le _⟩) hS (fun v_97 I_91 R_92 J_93 AI_94 AJ_95 AR_96 H locs zv_97 hp_98 hH hS => ?_)
        dsimp only at hp_98
        obtain ⟨rfl, rfl, rfl, rfl, hv, rfq, q_99, kIq, kAq, qres⟩ := hp_98
        have rf := rF_t rf rfq
        have u_100 : (I_91 ln 0).toInt = (I ln 0).toInt := by rw [rf ln 0 hln (by decide)]
        have fI := kI_t fI kIq
        have fA := kA_t fA kAq
        exact g_iret F hr hlk hH hS hz zv_97 ⟨rfl, rfl, rfl, rfl, hv, rf, by first | omega | rfl | (dsimp only; omega), fI, fA, by (try dsimp only); exact vw_1 (Or.inr (Or.inr (by omega))) F1 qres u1⟩ dX3_reckon_166
      have c_8_6 : (I_1 ln 0).toInt = 7 := by omega
      refine lv_tableIn (tgt := 167) (off := 119) F.1 F.2.1 dX3_reckon_48 (by rw [ec_8]; omega) (by rw [ec_8]; omega) (by rw [ec_8, c_8_6]; rfl) (by decide) ?_
      refine lv_aload_n F.1 F.2.1 dX3_reckon_167 rfl (lv_at hl 2 rfl) ?_
      refine lv_aload_n F.1 F.2.1 dX3_reckon_168 rfl (lv_at hl 3 rfl) ?_
      refine lv_aload F.1 F.2.1 dX3_reckon_169 (lv_at hl 1 rfl) ?_
      refine lv_aload_n F.1 F.2.1 dX3_reckon_171 rfl (lv_at hl 5 rfl) ?_
      obtain ⟨b_101a, b_101b, b_101c, b_101d, b_101e, b_101f, b_101g, b_101h⟩ := gI_rows hv y_5b
      obtain ⟨b_102a, b_102b, b_102c, b_102d, b_102e, b_102f, b_102g, b_102h⟩ := gI_rows hv hout
      refine g_calli (g_runV (As := [.ref ln, .ref y_5, .ref out]) (rest := []) (ci := 3) F hl.1 hH hS hz (c_X3_groupf l g gh lc ((I y_5 3).toInt.toNat) I_1 R J AI AJ AR a ln y_5 out hv ha hln y_5b hout (by omega) (by omega) hlcN (by omega) (k10 (by omega)).2.1 (k10 (by omega)).2.2 (k10 (by omega)).1 n1 (by omega) l1 b1.1 (by omega) (by omega)) (cwV 3 F.2.2.2.2.1 gX3_reckon_X3_group rfl rfl rfl hdX3_group ⟨Nat.le_of_ble_eq_true rfl, Nat.le_of_ble_eq_true rfl⟩) ha (by decide) rfl rfl rfl (Nat.le_of_ble_eq_true rfl) dX3_reckon_172 ⟨Nat.zero_le _, Nat.zero_le _⟩) hS (fun v_109 I_103 R_104 J_105 AI_106 AJ_107 AR_108 H locs zv_109 hp_110 hH hS => ?_)
      dsimp only at hp_110
      obtain ⟨rfl, rfl, rfl, rfl, hv, rfq, q_111, kIq, kAq, qres⟩ := hp_110
      have rf := rF_t rf rfq
      have u_112 : (I_103 ln 0).toInt = (I ln 0).toInt := by rw [rf ln 0 hln (by decide)]
      have fI := kI_t fI kIq
      have fA := kA_t fA kAq
      exact g_iret F hr hlk hH hS hz zv_109 ⟨rfl, rfl, rfl, rfl, hv, rf, by first | omega | rfl | (dsimp only; omega), fI, fA, by (try dsimp only); exact vw_7 (by omega) F1 qres u1⟩ dX3_reckon_175
    · refine lv_aload F.1 F.2.1 dX3_reckon_31 (lv_at hl 0 rfl) ?_
      refine z_goto (tgt := 42) F dX3_reckon_33 (by decide) ?_
      refine lv_astore (lv' := [(5, .ref y_5), (4, .ref y_5), (0, .ref a), (1, .ref ln), (2, .ref bags), (3, .ref out)]) F.1 F.2.1 dX3_reckon_42 hl (by decide) rfl (fun ls hl => ?_)
      have e1 : rob AR bags (lc.1 2).toNat = y_5 := rob_e (by rw [← hl3]; exact y_5a)
      have b1 := hbg (lc.1 2).toNat (by omega)
      have n1 := hno (lc.1 2).toNat (by omega)
      rw [e1] at n1
      have F1 : (rfC gh AR I AI bags) (lc.1 2).toNat = ((I y_5 3).toInt.toNat, AI (gh 0 y_5)) := by unfold rfC; rw [e1]
      unfold bgOK at b1; rw [F1] at b1
      have i1 : I_1 y_5 = I y_5 := fI y_5 n1
      have l1 : (I_1 y_5 3).toInt = (((I y_5 3).toInt.toNat : Nat) : Int) := by have q9 := (gI_rows hv y_5b).2.2.1; rw [i1] at q9 ⊢; omega
      have u1 := b1.2.1
      dsimp only at u1
      have h9k : lc.1 3 = -1 := by omega
      refine lv_aload_n F.1 F.2.1 dX3_reckon_44 rfl (lv_at hl 3 rfl) ?_
      refine g_getI (ci := 0) (k := 0) F hH rfl (by decide) iX0 hln (by decide) rfl k35 dX3_reckon_45 ?_
      have ec_113 : (iI ((I_1 ln 0).toInt)).toInt = (I_1 ln 0).toInt := iI_val (zr_t _)
      by_cases c_113 : ((I_1 ln 0).toInt) < 1 ∨ 7 < ((I_1 ln 0).toInt)
      · refine lv_tableOut (tgt := 176) F.1 F.2.1 dX3_reckon_48 (by rw [ec_113]; exact c_113) (by decide) ?_
        have k7c := k7 (by omega)
        refine lv_aload_n F.1 F.2.1 dX3_reckon_176 rfl (lv_at hl 2 rfl) ?_
        refine lv_aload_n F.1 F.2.1 dX3_reckon_177 rfl (lv_at hl 3 rfl) ?_
        refine lv_aload F.1 F.2.1 dX3_reckon_178 (lv_at hl 1 rfl) ?_
        refine lv_aload F.1 F.2.1 dX3_reckon_180 (lv_at hl 0 rfl) ?_
        refine lv_aload_n F.1 F.2.1 dX3_reckon_182 rfl (lv_at hl 5 rfl) ?_
        exact absurd trivial (by omega)
      by_cases c_113_0 : (I_1 ln 0).toInt = 1
      · refine lv_tableIn (tgt := 92) (off := 44) F.1 F.2.1 dX3_reckon_48 (by rw [ec_113]; omega) (by rw [ec_113]; omega) (by rw [ec_113, c_113_0]; rfl) (by decide) ?_
        refine lv_aload_n F.1 F.2.1 dX3_reckon_92 rfl (lv_at hl 2 rfl) ?_
        refine lv_aload_n F.1 F.2.1 dX3_reckon_93 rfl (lv_at hl 3 rfl) ?_
        refine lv_aload F.1 F.2.1 dX3_reckon_94 (lv_at hl 1 rfl) ?_
        refine lv_aload_n F.1 F.2.1 dX3_reckon_96 rfl (lv_at hl 5 rfl) ?_
        obtain ⟨b_114a, b_114b, b_114c, b_114d, b_114e, b_114f, b_114g, b_114h⟩ := gI_rows hv y_5b
        obtain ⟨b_115a, b_115b, b_115c, b_115d, b_115e, b_115f, b_115g, b_115h⟩ := gI_rows hv hout
        refine g_calli (g_runV (As := [.ref ln, .ref y_5, .ref out]) (rest := []) (ci := 3) F hl.1 hH hS hz (c_X3_selectf l g gh lc ((I y_5 3).toInt.toNat) I_1 R J AI AJ AR a ln y_5 out hv ha hln y_5b hout (by omega) (by omega) hlcN (by omega) n1 (by omega) l1 b1.1 (by omega) (by omega)) (cwV 3 F.2.2.2.2.1 gX3_reckon_X3_select rfl rfl rfl hdX3_select ⟨Nat.le_of_ble_eq_true rfl, Nat.le_of_ble_eq_true rfl⟩) ha (by decide) rfl rfl rfl (Nat.le_of_ble_eq_true rfl) dX3_reckon_97 ⟨Nat.zero_le _, Nat.zero_le _⟩) hS (fun v_122 I_116 R_117 J_118 AI_119 AJ_120 AR_121 H locs zv_122 hp_123 hH hS => ?_)
        dsimp only at hp_123
        obtain ⟨rfl, rfl, rfl, rfl, hv, rfq, q_124, kIq, kAq, qres⟩ := hp_123
        have rf := rF_t rf rfq
        have u_125 : (I_116 ln 0).toInt = (I ln 0).toInt := by rw [rf ln 0 hln (by decide)]
        have fI := kI_t fI kIq
        have fA := kA_t fA kAq
        exact g_iret F hr hlk hH hS hz zv_122 ⟨rfl, rfl, rfl, rfl, hv, rf, by first | omega | rfl | (dsimp only; omega), fI, fA, by (try dsimp only); exact vw_1 (Or.inl (by omega)) F1 qres u1⟩ dX3_reckon_100
      by_cases c_113_1 : (I_1 ln 0).toInt = 2
      · refine lv_tableIn (tgt := 101) (off := 53) F.1 F.2.1 dX3_reckon_48 (by rw [ec_113]; omega) (by rw [ec_113]; omega) (by rw [ec_113, c_113_1]; rfl) (by decide) ?_
        refine lv_aload_n F.1 F.2.1 dX3_reckon_101 rfl (lv_at hl 2 rfl) ?_
        refine lv_aload_n F.1 F.2.1 dX3_reckon_102 rfl (lv_at hl 3 rfl) ?_
        refine lv_aload F.1 F.2.1 dX3_reckon_103 (lv_at hl 1 rfl) ?_
        refine lv_aload_n F.1 F.2.1 dX3_reckon_105 rfl (lv_at hl 5 rfl) ?_
        obtain ⟨b_126a, b_126b, b_126c, b_126d, b_126e, b_126f, b_126g, b_126h⟩ := gI_rows hv y_5b
        obtain ⟨b_127a, b_127b, b_127c, b_127d, b_127e, b_127f, b_127g, b_127h⟩ := gI_rows hv hout
        refine g_calli (g_runV (As := [.ref ln, .ref y_5, .ref out]) (rest := []) (ci := 3) F hl.1 hH hS hz (c_X3_projectf l g gh lc ((I y_5 3).toInt.toNat) I_1 R J AI AJ AR a ln y_5 out hv ha hln y_5b hout (by omega) (by omega) hlcN (by omega) (k8 (by omega)).1 (k8 (by omega)).2 n1 (by omega) l1 b1.1 (by omega) (by omega)) (cwV 3 F.2.2.2.2.1 gX3_reckon_X3_project rfl rfl rfl hdX3_project ⟨Nat.le_of_ble_eq_true rfl, Nat.le_of_ble_eq_true rfl⟩) ha (by decide) rfl rfl rfl (Nat.le_of_ble_eq_true rfl) dX3_reckon_106 ⟨Nat.zero_le _, Nat.zero_le _⟩) hS (fun v_134 I_128 R_129 J_130 AI_131 AJ_132 AR_133 H locs zv_134 hp_135 hH hS => ?_)
        dsimp only at hp_135
        obtain ⟨rfl, rfl, rfl, rfl, hv, rfq, q_136, kIq, kAq, qres⟩ := hp_135
        have rf := rF_t rf rfq
        have u_137 : (I_128 ln 0).toInt = (I ln 0).toInt := by rw [rf ln 0 hln (by decide)]
        have fI := kI_t fI kIq
        have fA := kA_t fA kAq
        exact g_iret F hr hlk hH hS hz zv_134 ⟨rfl, rfl, rfl, rfl, hv, rf, by first | omega | rfl | (dsimp only; omega), fI, fA, by (try dsimp only); exact vw_1 (Or.inr (Or.inl (by omega))) F1 qres u1⟩ dX3_reckon_109
      by_cases c_113_2 : (I_1 ln 0).toInt = 3
      · refine lv_tableIn (tgt := 110) (off := 62) F.1 F.2.1 dX3_reckon_48 (by rw [ec_113]; omega) (by rw [ec_113]; omega) (by rw [ec_113, c_113_2]; rfl) (by decide) ?_
        have k7c := k7 (by omega)
        refine lv_aload_n F.1 F.2.1 dX3_reckon_110 rfl (lv_at hl 2 rfl) ?_
        refine lv_aload_n F.1 F.2.1 dX3_reckon_111 rfl (lv_at hl 3 rfl) ?_
        refine lv_aload F.1 F.2.1 dX3_reckon_112 (lv_at hl 1 rfl) ?_
        refine lv_aload F.1 F.2.1 dX3_reckon_114 (lv_at hl 0 rfl) ?_
        refine lv_aload_n F.1 F.2.1 dX3_reckon_116 rfl (lv_at hl 5 rfl) ?_
        exact absurd trivial (by omega)
      by_cases c_113_3 : (I_1 ln 0).toInt = 4
      · refine lv_tableIn (tgt := 121) (off := 73) F.1 F.2.1 dX3_reckon_48 (by rw [ec_113]; omega) (by rw [ec_113]; omega) (by rw [ec_113, c_113_3]; rfl) (by decide) ?_
        have k7c := k7 (by omega)
        refine lv_aload_n F.1 F.2.1 dX3_reckon_121 rfl (lv_at hl 5 rfl) ?_
        refine lv_aload F.1 F.2.1 dX3_reckon_122 (lv_at hl 1 rfl) ?_
        refine lv_aload F.1 F.2.1 dX3_reckon_124 (lv_at hl 0 rfl) ?_
        refine z_iconst F dX3_reckon_126 ?_
        exact absurd trivial (by omega)
      by_cases c_113_4 : (I_1 ln 0).toInt = 5
      · refine lv_tableIn (tgt := 140) (off := 92) F.1 F.2.1 dX3_reckon_48 (by rw [ec_113]; omega) (by rw [ec_113]; omega) (by rw [ec_113, c_113_4]; rfl) (by decide) ?_
        have k7c := k7 (by omega)
        refine lv_aload_n F.1 F.2.1 dX3_reckon_140 rfl (lv_at hl 5 rfl) ?_
        refine lv_aload F.1 F.2.1 dX3_reckon_141 (lv_at hl 1 rfl) ?_
        refine lv_aload F.1 F.2.1 dX3_reckon_143 (lv_at hl 0 rfl) ?_
        refine z_iconst F dX3_reckon_145 ?_
        exact absurd trivial (by omega)
      by_cases c_113_5 : (I_1 ln 0).toInt = 6
      · refine lv_tableIn (tgt := 159) (off := 111) F.1 F.2.1 dX3_reckon_48 (by rw [ec_113]; omega) (by rw [ec_113]; omega) (by rw [ec_113, c_113_5]; rfl) (by decide) ?_
        refine lv_aload_n F.1 F.2.1 dX3_reckon_159 rfl (lv_at hl 2 rfl) ?_
        refine lv_aload F.1 F.2.1 dX3_reckon_160 (lv_at hl 1 rfl) ?_
        refine lv_aload_n F.1 F.2.1 dX3_reckon_162 rfl (lv_at hl 5 rfl) ?_
        obtain ⟨b_138a, b_138b, b_138c, b_138d, b_138e, b_138f, b_138g, b_138h⟩ := gI_rows hv y_5b
        obtain ⟨b_139a, b_139b, b_139c, b_139d, b_139e, b_139f, b_139g, b_139h⟩ := gI_rows hv hout
        refine g_calli (g_runV (As := [.ref y_5, .ref out]) (rest := []) (ci := 3) F hl.1 hH hS hz (c_X3_distinctf l g gh lc ((I y_5 3).toInt.toNat) I_1 R J AI AJ AR a y_5 out hv ha y_5b hout (by omega) (by omega) n1 (by omega) l1 b1.1 (by omega) (by omega)) (cwV 2 F.2.2.2.2.1 gX3_reckon_X3_distinct rfl rfl rfl hdX3_distinct ⟨Nat.le_of_ble_eq_true rfl, Nat.le_of_ble_eq_true rfl⟩) ha (by decide) rfl rfl rfl (Nat.le_of_ble_eq_true rfl) dX3_reckon_163 ⟨Nat.zero_le _, Nat.zero_le _⟩) hS (fun v_146 I_140 R_141 J_142 AI_143 AJ_144 AR_145 H locs zv_146 hp_147 hH hS => ?_)
        dsimp only at hp_147
        obtain ⟨rfl, rfl, rfl, rfl, hv, rfq, q_148, kIq, kAq, qres⟩ := hp_147
        have rf := rF_t rf rfq
        have u_149 : (I_140 ln 0).toInt = (I ln 0).toInt := by rw [rf ln 0 hln (by decide)]
        have fI := kI_t fI kIq
        have fA := kA_t fA kAq
        exact g_iret F hr hlk hH hS hz zv_146 ⟨rfl, rfl, rfl, rfl, hv, rf, by first | omega | rfl | (dsimp only; omega), fI, fA, by (try dsimp only); exact vw_1 (Or.inr (Or.inr (by omega))) F1 qres u1⟩ dX3_reckon_166
      have c_113_6 : (I_1 ln 0).toInt = 7 := by omega
      refine lv_tableIn (tgt := 167) (off := 119) F.1 F.2.1 dX3_reckon_48 (by rw [ec_113]; omega) (by rw [ec_113]; omega) (by rw [ec_113, c_113_6]; rfl) (by decide) ?_
      refine lv_aload_n F.1 F.2.1 dX3_reckon_167 rfl (lv_at hl 2 rfl) ?_
      refine lv_aload_n F.1 F.2.1 dX3_reckon_168 rfl (lv_at hl 3 rfl) ?_
      refine lv_aload F.1 F.2.1 dX3_reckon_169 (lv_at hl 1 rfl) ?_
      refine lv_aload_n F.1 F.2.1 dX3_reckon_171 rfl (lv_at hl 5 rfl) ?_
      obtain ⟨b_150a, b_150b, b_150c, b_150d, b_150e, b_150f, b_150g, b_150h⟩ := gI_rows hv y_5b
      obtain ⟨b_151a, b_151b, b_151c, b_151d, b_151e, b_151f, b_151g, b_151h⟩ := gI_rows hv hout
      refine g_calli (g_runV (As := [.ref ln, .ref y_5, .ref out]) (rest := []) (ci := 3) F hl.1 hH hS hz (c_X3_groupf l g gh lc ((I y_5 3).toInt.toNat) I_1 R J AI AJ AR a ln y_5 out hv ha hln y_5b hout (by omega) (by omega) hlcN (by omega) (k10 (by omega)).2.1 (k10 (by omega)).2.2 (k10 (by omega)).1 n1 (by omega) l1 b1.1 (by omega) (by omega)) (cwV 3 F.2.2.2.2.1 gX3_reckon_X3_group rfl rfl rfl hdX3_group ⟨Nat.le_of_ble_eq_true rfl, Nat.le_of_ble_eq_true rfl⟩) ha (by decide) rfl rfl rfl (Nat.le_of_ble_eq_true rfl) dX3_reckon_172 ⟨Nat.zero_le _, Nat.zero_le _⟩) hS (fun v_158 I_152 R_153 J_154 AI_155 AJ_156 AR_157 H locs zv_158 hp_159 hH hS => ?_)
      dsimp only at hp_159
      obtain ⟨rfl, rfl, rfl, rfl, hv, rfq, q_160, kIq, kAq, qres⟩ := hp_159
      have rf := rF_t rf rfq
      have u_161 : (I_152 ln 0).toInt = (I ln 0).toInt := by rw [rf ln 0 hln (by decide)]
      have fI := kI_t fI kIq
      have fA := kA_t fA kAq
      exact g_iret F hr hlk hH hS hz zv_158 ⟨rfl, rfl, rfl, rfl, hv, rf, by first | omega | rfl | (dsimp only; omega), fI, fA, by (try dsimp only); exact vw_7 (by omega) F1 qres u1⟩ dX3_reckon_175
  · refine z_iconst F dX3_reckon_13 ?_
    exact g_iret F hr hlk hH hS hz ⟨by decide, by decide⟩ ⟨rfl, rfl, rfl, rfl, hv, rf, by first | omega | rfl | (dsimp only; omega), fI, fA, by omega⟩ dX3_reckon_14
end
section
def rmX6_fallsBelowZerof : Room := { frames := 3, cells := 0, slots := 0, locals := 83 }
set_option maxHeartbeats 4000000 in
set_option maxRecDepth 100000 in
/-- an amount below zero -/
theorem c_X6_fallsBelowZerof (l : Launch) (g : gG) (gh : gGh) (pA bA nA : Nat) (nb : Nat) (I : gI) (R : gR) (J : gJ) (AI : gI) (AJ : gJ) (AR : gR) (x : Nat) (ch : Nat) (sg : Int) (zsg : zr sg) (hv : gInv g gh R AR I AI) (hx : xS g gh R AR x pA bA nA) (hch : gO g ch 4) (h5 : gh 2 ch = 5) (hnb : (I ch 3).toInt = (nb : Int)) (hFb : ∀ i, i < nb → okB ((rfC gh AR I AI bA) ((AI (gh 0 ch)) (6 * i)).toInt.toNat).2 ((rfC gh AR I AI bA) ((AI (gh 0 ch)) (6 * i)).toInt.toNat).1) : gMet l g yX6_fallsBelowZero wsX6_fallsBelowZero rmX6_fallsBelowZerof [.ref x, .ref ch, .int (iI sg)] (I, R, J, AI, AJ, AR) (gQi g (fun (z : Int) (w : gS) => I = w.1 ∧ R = w.2.1 ∧ J = w.2.2.1 ∧ AJ = w.2.2.2.2.1 ∧ AR = w.2.2.2.2.2 ∧ (gInv g gh R AR I (w.2.2.2.1)) ∧ (z = 0 ∨ z = 1) ∧ (∀ b, b ≠ gh 29 0 → (w.2.2.2.1) b = AI b) ∧ (tIz z (∃ i, i < nb ∧ blw (AI (gh 0 ch)) (rfC gh AR I AI bA) sg i)))) := by
  refine gStart (cc := cX6_fallsBelowZero) (maxL := 5) (ret := (some (.boolean))) (by decide) rfl (Nat.le_of_ble_eq_true rfl) ?_
  intro p e s m below meth c ls F hr hlk hH hz hS hl
  have hl : lv_has ls 5 [(0, .ref x), (1, .ref ch), (2, .int (iI sg))] := hl
  have hS : va_S (gA g) s.heap s.heap [] := hS
  obtain ⟨H, hHe⟩ : ∃ H : Heap, H = s.heap := ⟨_, rfl⟩
  obtain ⟨locs, hlo⟩ : ∃ k : List Loc, k = [] := ⟨_, rfl⟩
  have hH : gH g I R J AI AJ AR H := by rw [hHe]; exact hH
  have hS : va_S (gA g) s.heap H locs := by rw [hHe, hlo]; exact hS
  suffices hw : W p l e rmX6_fallsBelowZerof s m ([.ref x, .ref ch, .int (iI sg)] : List Value).toArray below meth c H locs 0 0 (MQ below (gQi g (fun (z : Int) (w : gS) => I = w.1 ∧ R = w.2.1 ∧ J = w.2.2.1 ∧ AJ = w.2.2.2.2.1 ∧ AR = w.2.2.2.2.2 ∧ (gInv g gh R AR I (w.2.2.2.1)) ∧ (z = 0 ∨ z = 1) ∧ (∀ b, b ≠ gh 29 0 → (w.2.2.2.1) b = AI b) ∧ (tIz z (∃ i, i < nb ∧ blw (AI (gh 0 ch)) (rfC gh AR I AI bA) sg i)))) ([.ref x, .ref ch, .int (iI sg)] : List Value).toArray s 0 0 (gA g)) (F0 m 0 ls []) by
    rw [hHe, hlo] at hw; exact hw
  clear hHe hlo
  have hcc : gh 0 ch ≠ gh 29 0 := ne_9 (cells_9 hv hch) (ro29 hv hx.1) (by decide)
  have iX6 : ∀ w ∈ u_ws RX6 TX6 18, w ∈ wsX6_fallsBelowZero := (by decide +kernel)
  have iX4 : ∀ w ∈ u_ws RX4 TX4 4, w ∈ wsX6_fallsBelowZero := (by decide +kernel)
  have k99 : Cond.fieldLink RX6 99 (TX4 3).1 (TX4 3).2.1 (TX4 3).2.2.1 ∈ wsX6_fallsBelowZero := List.mem_of_getElem? (i := 1) rfl
  have k66 : Cond.fieldLink RX6 66 (TX6 12).1 (TX6 12).2.1 (TX6 12).2.2.1 ∈ wsX6_fallsBelowZero := List.mem_of_getElem? (i := 2) rfl
  have k38 : Cond.fieldLink RX6 38 (TX6 5).1 (TX6 5).2.1 (TX6 5).2.2.1 ∈ wsX6_fallsBelowZero := List.mem_of_getElem? (i := 3) rfl
  refine z_iconst F dX6_fallsBelowZero_0 ?_
  refine lv_istore_n (lv' := [(3, .int (iI 0)), (0, .ref x), (1, .ref ch), (2, .int (iI sg))]) F.1 F.2.1 dX6_fallsBelowZero_1 rfl hl (by decide) rfl (fun ls hl => ?_)
  have cut_2_1 : ∀ (NN : Nat) (i : Int) (AI_1 : gI) (H : Heap) (locs : List Loc) (ls : Array Slot), zr i → (gInv g gh R AR I AI_1) → (0 ≤ i ∧ i ≤ 240) → (∀ b, b ≠ gh 29 0 → AI_1 b = AI b) → (∀ j : Nat, (j : Int) < i → ¬ blw (AI (gh 0 ch)) (rfC gh AR I AI bA) sg j) → (240 - i) < ((NN : Nat) : Int) → gH g I R J AI_1 AJ AR H → va_S (gA g) s.heap H locs → lv_has ls 5 [(3, .int (iI i)), (0, .ref x), (1, .ref ch), (2, .int (iI sg))] → W p l e rmX6_fallsBelowZerof s m ([.ref x, .ref ch, .int (iI sg)] : List Value).toArray below meth c H locs 0 0 (MQ below (gQi g (fun (z : Int) (w : gS) => I = w.1 ∧ R = w.2.1 ∧ J = w.2.2.1 ∧ AJ = w.2.2.2.2.1 ∧ AR = w.2.2.2.2.2 ∧ (gInv g gh R AR I (w.2.2.2.1)) ∧ (z = 0 ∨ z = 1) ∧ (∀ b, b ≠ gh 29 0 → (w.2.2.2.1) b = AI b) ∧ (tIz z (∃ i, i < nb ∧ blw (AI (gh 0 ch)) (rfC gh AR I AI bA) sg i)))) ([.ref x, .ref ch, .int (iI sg)] : List Value).toArray s 0 0 (gA g)) (F0 m 2 ls []) := by
    intro NN2
    induction NN2 with
    | zero =>
      intro i AI_1 H locs ls zi hv hi fA9 hno hm2 hH hS hl
      exact absurd hm2 (by omega)
    | succ NN2 ih2 =>
      intro i AI_1 H locs ls zi hv hi fA9 hno hm2 hH hS hl
      refine lv_iload_n F.1 F.2.1 dX6_fallsBelowZero_2 rfl (lv_at hl 0 rfl) ?_
      refine lv_aload_n F.1 F.2.1 dX6_fallsBelowZero_3 rfl (lv_at hl 2 rfl) ?_
      refine g_getI (ci := 4) (k := 3) F hH rfl (by decide) iX4 hch (by decide) rfl k99 dX6_fallsBelowZero_4 ?_
      obtain ⟨b_3a, b_3b, b_3c, b_3d, b_3e, b_3f, b_3g, b_3h⟩ := gI_rows hv hch
      refine z_icmp_ge (tgt := 61) F dX6_fallsBelowZero_7 (by decide) zi (zr_t _) (fun c_4 => ?_) (fun c_4 => ?_)
      · refine z_iconst F dX6_fallsBelowZero_61 ?_
        exact g_zret F hr hlk hH hS hz (by omega) ⟨rfl, rfl, rfl, rfl, rfl, hv, by first | omega | rfl | (dsimp only; omega), fun b hb => fA9 b hb, tIz_f (fun ⟨j, h1, h2⟩ => hno j (by omega) h2)⟩ dX6_fallsBelowZero_62
      · refine lv_aload_n F.1 F.2.1 dX6_fallsBelowZero_10 rfl (lv_at hl 2 rfl) ?_
        refine lv_iload_n F.1 F.2.1 dX6_fallsBelowZero_11 rfl (lv_at hl 0 rfl) ?_
        refine z_iconst F dX6_fallsBelowZero_12 ?_
        refine lv_aload_n F.1 F.2.1 dX6_fallsBelowZero_13 rfl (lv_at hl 1 rfl) ?_
        obtain ⟨r_5a, r_5b⟩ := gR_x12 hv hx.1
        refine g_getR (ci := 6) (k := 12) F hH rfl (by decide) iX6 hx.1 (by decide) rfl (b := gh 29 0) r_5a k66 dX6_fallsBelowZero_14 ?_
        refine g_callv (g_runV (As := [.int (iI i), .int (iI 1), .ref (gh 29 0)]) (rest := []) (ci := 4) F hl.1 hH hS hz (c_X4_copyKeyf l g gh I R J AI_1 AJ AR ch i 1 (gh 29 0) zi ⟨by decide, by decide⟩ hv hch (by omega) (by omega) r_5b (ro29 hv hx.1) (by omega) (by omega)) (cwV 3 F.2.2.2.2.1 gX6_fallsBelowZero_X4_copyKey rfl rfl rfl hdX4_copyKey ⟨Nat.le_of_ble_eq_true rfl, Nat.le_of_ble_eq_true rfl⟩) hch (by decide) rfl rfl rfl (Nat.le_of_ble_eq_true rfl) dX6_fallsBelowZero_17 ⟨Nat.zero_le _, Nat.zero_le _⟩) hS (fun I_6 R_7 J_8 AI_9 AJ_10 AR_11 H locs hp_12 hH hS => ?_)
        dsimp only at hp_12
        obtain ⟨rfl, rfl, rfl, rfl, rfl, q_13, hv, qck⟩ := hp_12
        have hbk : ∀ j, j < 4 → AI_9 (gh 29 0) j = tg (btu (AI (gh 0 ch)) i.toNat) j := fun j hj => by rw [qck, h5, fA9 _ hcc]; unfold va_cpy; rw [if_pos ⟨by omega, by omega⟩, btu_at hj]; congr 1; omega
        have fA9 : ∀ b, b ≠ gh 29 0 → AI_9 b = AI b := fun b hb => (q_13 b hb).trans (fA9 b hb)
        refine lv_aload_n F.1 F.2.1 dX6_fallsBelowZero_20 rfl (lv_at hl 1 rfl) ?_
        refine g_getR (ci := 6) (k := 5) F hH rfl (by decide) iX6 hx.1 (by decide) rfl (b := bA) hx.2.2.2.1 k38 dX6_fallsBelowZero_21 ?_
        refine lv_aload_n F.1 F.2.1 dX6_fallsBelowZero_24 rfl (lv_at hl 2 rfl) ?_
        refine lv_iload_n F.1 F.2.1 dX6_fallsBelowZero_25 rfl (lv_at hl 0 rfl) ?_
        refine z_iconst F dX6_fallsBelowZero_26 ?_
        refine g_calli (g_runV (As := [.int (iI i), .int (iI 0)]) (rest := [.ref bA]) (ci := 4) F hl.1 hH hS hz (c_X4_cell l g gh I R J AI_9 AJ AR ch i 0 zi ⟨by decide, by decide⟩ hv hch (by omega) (by omega) (by omega) (by omega)) (cwV 2 F.2.2.2.2.1 gX6_fallsBelowZero_X4_cell rfl rfl rfl hdX4_cell ⟨Nat.le_of_ble_eq_true rfl, Nat.le_of_ble_eq_true rfl⟩) hch (by decide) rfl rfl rfl (Nat.le_of_ble_eq_true rfl) dX6_fallsBelowZero_27 ⟨Nat.zero_le _, Nat.zero_le _⟩) hS (fun v_20 I_14 R_15 J_16 AI_17 AJ_18 AR_19 H locs zv_20 hp_21 hH hS => ?_)
        dsimp only at hp_21
        obtain ⟨rfl, rfl, rfl, rfl, rfl, rfl, qc⟩ := hp_21
        have hc5 := hv.2.1 ch hch h5 i.toNat (by omega)
        rw [show 6 * i.toNat = (i * 6 + 0).toNat from by omega, ← qc] at hc5
        have hq27 : v_20 = ((AI (gh 0 ch)) (6 * i.toNat)).toInt := by rw [qc, fA9 _ hcc]; congr 2; omega
        have hx30 : 0 ≤ v_20 ∧ v_20 < ((16 : Nat) : Int) ∧ v_20 ≤ 2147483647 := ⟨by omega, by omega, by omega⟩
        obtain ⟨y_22, y_22a, y_22b, y_22c, y_22d, y_22e⟩ := hx.2.2.2.2.1.2 (v_20).toNat (by omega)
        refine g_aldR F hH hx.2.2.2.2.1.1 hx30.1 hx30.2.1 hx30.2.2 (b := y_22) y_22a dX6_fallsBelowZero_30 ?_
        have erb : rob AR bA ((AI (gh 0 ch)) (6 * i.toNat)).toInt.toNat = y_22 := rob_e (by rw [← hq27]; exact y_22a)
        have hbo := hFb i.toNat (by omega)
        unfold rfC at hbo; rw [erb] at hbo; dsimp only at hbo
        have hyc : AI_9 (gh 0 y_22) = AI (gh 0 y_22) := fA9 _ (ne_9 (cells_9 hv y_22b) (ro29 hv hx.1) (by decide))
        have hyl : (I y_22 3).toInt = (((I y_22 3).toInt.toNat : Nat) : Int) := by have q9 := (gI_rows hv y_22b).2.2.1; omega
        refine lv_aload_n F.1 F.2.1 dX6_fallsBelowZero_31 rfl (lv_at hl 1 rfl) ?_
        refine g_getR (ci := 6) (k := 12) F hH rfl (by decide) iX6 hx.1 (by decide) rfl (b := gh 29 0) r_5a k66 dX6_fallsBelowZero_32 ?_
        obtain ⟨b_23a, b_23b, b_23c, b_23d, b_23e, b_23f, b_23g, b_23h⟩ := gI_rows hv y_22b
        refine g_calli (g_runV (As := [.ref (gh 29 0)]) (rest := []) (ci := 4) F hl.1 hH hS hz (c_X4_amountOff l g gh ((I y_22 3).toInt.toNat) (btu (AI (gh 0 ch)) i.toNat) I R J AI_9 AJ AR y_22 (gh 29 0) hv y_22b r_5b hyl (by rw [hyc]; exact hbo) (by omega) hbk) (cwV 1 F.2.2.2.2.1 gX6_fallsBelowZero_X4_amountOf rfl rfl rfl hdX4_amountOf ⟨Nat.le_of_ble_eq_true rfl, Nat.le_of_ble_eq_true rfl⟩) y_22b (by decide) rfl rfl rfl (Nat.le_of_ble_eq_true rfl) dX6_fallsBelowZero_35 ⟨Nat.zero_le _, Nat.zero_le _⟩) hS (fun v_30 I_24 R_25 J_26 AI_27 AJ_28 AR_29 H locs zv_30 hp_31 hH hS => ?_)
        dsimp only at hp_31
        obtain ⟨rfl, rfl, rfl, rfl, rfl, rfl, qam⟩ := hp_31
        refine lv_istore (lv' := [(4, .int (iI v_30)), (3, .int (iI i)), (0, .ref x), (1, .ref ch), (2, .int (iI sg))]) F.1 F.2.1 dX6_fallsBelowZero_38 hl (by decide) rfl (fun ls hl => ?_)
        refine lv_iload F.1 F.2.1 dX6_fallsBelowZero_40 (lv_at hl 0 rfl) ?_
        refine lv_iload_n F.1 F.2.1 dX6_fallsBelowZero_42 rfl (lv_at hl 4 rfl) ?_
        refine lv_aload_n F.1 F.2.1 dX6_fallsBelowZero_43 rfl (lv_at hl 3 rfl) ?_
        refine lv_iload_n F.1 F.2.1 dX6_fallsBelowZero_44 rfl (lv_at hl 1 rfl) ?_
        refine g_calli (g_runV (As := [.int (iI i)]) (rest := [.int (iI sg), .int (iI v_30)]) (ci := 4) F hl.1 hH hS hz (c_X4_amount l g gh I R J AI_9 AJ AR ch i zi hv hch (by omega) (by omega)) (cwV 1 F.2.2.2.2.1 gX6_fallsBelowZero_X4_amount rfl rfl rfl hdX4_amount ⟨Nat.le_of_ble_eq_true rfl, Nat.le_of_ble_eq_true rfl⟩) hch (by decide) rfl rfl rfl (Nat.le_of_ble_eq_true rfl) dX6_fallsBelowZero_45 ⟨Nat.zero_le _, Nat.zero_le _⟩) hS (fun v_38 I_32 R_33 J_34 AI_35 AJ_36 AR_37 H locs zv_38 hp_39 hH hS => ?_)
        dsimp only at hp_39
        obtain ⟨rfl, rfl, rfl, rfl, rfl, rfl, qc45⟩ := hp_39
        have hq45 : iI v_38 = (AI (gh 0 ch)) (6 * i.toNat + 5) := by rw [qc45, iI_self, fA9 _ hcc]; congr 1; omega
        refine z_imul F dX6_fallsBelowZero_48 ?_
        refine z_norm (fun v_40 zv_40 ev_40 => ?_)
        refine z_iadd F dX6_fallsBelowZero_49 ?_
        refine z_norm (fun v_41 zv_41 ev_41 => ?_)
        have hq49 : v_41 = (bS ((rfC gh AR I AI bA) ((AI (gh 0 ch)) (6 * i.toNat)).toInt.toNat).2 ((rfC gh AR I AI bA) ((AI (gh 0 ch)) (6 * i.toNat)).toInt.toNat).1 (btu (AI (gh 0 ch)) i.toNat) + iI sg * (AI (gh 0 ch)) (6 * i.toNat + 5)).toInt := by
          rw [← iI_val zv_41, ev_41, ← iI_add, ev_40, ← iI_mul, hq45, qam, iI_self]; unfold rfC; rw [erb, hyc]
        refine z_if_ge (tgt := 55) F dX6_fallsBelowZero_50 (by decide) zv_41 (fun c_42 => ?_) (fun c_42 => ?_)
        · refine z_iinc (lv' := [(3, .int (iI (i + 1))), (4, .int (iI v_30)), (0, .ref x), (1, .ref ch), (2, .int (iI sg))]) F dX6_fallsBelowZero_55 hl (k := 1) rfl (by decide) rfl (fun ls hl => ?_)
          refine z_goto (tgt := 2) F dX6_fallsBelowZero_58 (by decide) ?_
          exact ih2 (i + 1) AI_9 H locs ls ⟨by omega, by omega⟩ hv (by omega) (fun b hb => fA9 b hb) (ix_step (P := fun j => ¬ blw (AI (gh 0 ch)) (rfC gh AR I AI bA) sg j) hno (by omega) (by unfold blw; rw [← hq49]; omega)) (by omega) hH hS (lv_sub hl [0, 2, 3, 4] rfl)
        · refine z_iconst F dX6_fallsBelowZero_53 ?_
          exact g_zret F hr hlk hH hS hz (by omega) ⟨rfl, rfl, rfl, rfl, rfl, hv, by first | omega | rfl | (dsimp only; omega), fun b hb => fA9 b hb, tIz_t ⟨i.toNat, by omega, by unfold blw; rw [← hq49]; omega⟩⟩ dX6_fallsBelowZero_54
  exact cut_2_1 (((240 - 0) + 1 : Int).toNat) 0 AI H locs ls ⟨by decide, by decide⟩ hv (by omega) (fun _ _ => rfl) (fun j hj => absurd hj (by omega)) (by omega) hH hS (lv_sub hl [0, 1, 2, 3] rfl)

def rmX6_pickChangesf : Room := { frames := 2, cells := 0, slots := 0, locals := 84 }
set_option maxHeartbeats 4000000 in
set_option maxRecDepth 100000 in
/-- the changes of a table -/
theorem c_X6_pickChangesf (l : Launch) (g : gG) (gh : gGh) (pA bA nA : Nat) (nb : Nat) (I : gI) (R : gR) (J : gJ) (AI : gI) (AJ : gJ) (AR : gR) (x : Nat) (ch : Nat) (tb : Int) (ztb : zr tb) (hv : gInv g gh R AR I AI) (hx : xS g gh R AR x pA bA nA) (hch : gO g ch 4) (h5 : gh 2 ch = 5) (hnb : (I ch 3).toInt = (nb : Int)) (hbt : btO (AI (gh 0 ch)) nb) (hc39 : ch ≠ gh 39 0) (hc40 : gh 1 ch = 40) : gMet l g yX6_pickChanges wsX6_pickChanges rmX6_pickChangesf [.ref x, .ref ch, .int (iI tb)] (I, R, J, AI, AJ, AR) (gQv g (fun w : gS => R = w.2.1 ∧ J = w.2.2.1 ∧ AJ = w.2.2.2.2.1 ∧ AR = w.2.2.2.2.2 ∧ (gInv g gh R AR (w.1) (w.2.2.2.1)) ∧ (rF g I (w.1)) ∧ (∀ b, b ≠ gh 39 0 → (w.1) b = I b) ∧ (∀ b, b ≠ gh 0 (gh 39 0) → b ≠ gh 29 0 → (w.2.2.2.1) b = AI b) ∧ (isB ((w.2.2.2.1) (gh 0 (gh 39 0))) ((w.1) (gh 39 0) 3).toInt.toNat (fun t => cS (AI (gh 0 ch)) tb nb t) zM ∧ 0 ≤ ((w.1) (gh 39 0) 3).toInt))) := by
  refine gStart (cc := cX6_pickChanges) (maxL := 4) (ret := none) (by decide) rfl (Nat.le_of_ble_eq_true rfl) ?_
  intro p e s m below meth c ls F hr hlk hH hz hS hl
  have hl : lv_has ls 4 [(0, .ref x), (1, .ref ch), (2, .int (iI tb))] := hl
  have hS : va_S (gA g) s.heap s.heap [] := hS
  obtain ⟨H, hHe⟩ : ∃ H : Heap, H = s.heap := ⟨_, rfl⟩
  obtain ⟨locs, hlo⟩ : ∃ k : List Loc, k = [] := ⟨_, rfl⟩
  have hH : gH g I R J AI AJ AR H := by rw [hHe]; exact hH
  have hS : va_S (gA g) s.heap H locs := by rw [hHe, hlo]; exact hS
  suffices hw : W p l e rmX6_pickChangesf s m ([.ref x, .ref ch, .int (iI tb)] : List Value).toArray below meth c H locs 0 0 (MQ below (gQv g (fun w : gS => R = w.2.1 ∧ J = w.2.2.1 ∧ AJ = w.2.2.2.2.1 ∧ AR = w.2.2.2.2.2 ∧ (gInv g gh R AR (w.1) (w.2.2.2.1)) ∧ (rF g I (w.1)) ∧ (∀ b, b ≠ gh 39 0 → (w.1) b = I b) ∧ (∀ b, b ≠ gh 0 (gh 39 0) → b ≠ gh 29 0 → (w.2.2.2.1) b = AI b) ∧ (isB ((w.2.2.2.1) (gh 0 (gh 39 0))) ((w.1) (gh 39 0) 3).toInt.toNat (fun t => cS (AI (gh 0 ch)) tb nb t) zM ∧ 0 ≤ ((w.1) (gh 39 0) 3).toInt))) ([.ref x, .ref ch, .int (iI tb)] : List Value).toArray s 0 0 (gA g)) (F0 m 0 ls []) by
    rw [hHe, hlo] at hw; exact hw
  clear hHe hlo
  have rf : rF g I I := rF_r
  have h3g := gR_x10 hv hx.1
  have h3l := h3g.2.2.1
  have hcc : gh 0 ch ≠ gh 29 0 := ne_9 (cells_9 hv hch) (ro29 hv hx.1) (by decide)
  have hct : gh 0 ch ≠ gh 0 (gh 39 0) := cells_ne hv h3g.2.1 hch hc39
  have htk : gh 0 (gh 39 0) ≠ gh 29 0 := ne_9 (cells_9 hv h3g.2.1) (ro29 hv hx.1) (by decide)
  have hnb4 : nb ≤ gh 1 ch := by have := (gI_rows hv hch).2.2.2.1; omega
  have iX6 : ∀ w ∈ u_ws RX6 TX6 18, w ∈ wsX6_pickChanges := (by decide +kernel)
  have iX4 : ∀ w ∈ u_ws RX4 TX4 4, w ∈ wsX6_pickChanges := (by decide +kernel)
  have k60 : Cond.fieldLink RX6 60 (TX6 10).1 (TX6 10).2.1 (TX6 10).2.2.1 ∈ wsX6_pickChanges := List.mem_of_getElem? (i := 1) rfl
  have k99 : Cond.fieldLink RX6 99 (TX4 3).1 (TX4 3).2.1 (TX4 3).2.2.1 ∈ wsX6_pickChanges := List.mem_of_getElem? (i := 2) rfl
  have k66 : Cond.fieldLink RX6 66 (TX6 12).1 (TX6 12).2.1 (TX6 12).2.2.1 ∈ wsX6_pickChanges := List.mem_of_getElem? (i := 3) rfl
  refine lv_aload_n F.1 F.2.1 dX6_pickChanges_0 rfl (lv_at hl 0 rfl) ?_
  obtain ⟨r_1a, r_1b, r_1c, r_1d⟩ := gR_x10 hv hx.1
  refine g_getR (ci := 6) (k := 10) F hH rfl (by decide) iX6 hx.1 (by decide) rfl (b := gh 39 0) r_1a k60 dX6_pickChanges_1 ?_
  refine z_iconst F dX6_pickChanges_4 ?_
  refine g_putI (ci := 4) (k := 3) F hH hS rfl (by decide) iX4 r_1b (by decide) tyX4 tyX4_ok nmX4 rfl rfl rfl k99 dX6_pickChanges_5 (fun H locs hH hS => ?_)
  obtain ⟨I_2, eI_2⟩ : ∃ qQ, qQ = gup2 I (gh 39 0) 3 (iI (0)) := ⟨_, rfl⟩
  rw [← eI_2] at hH
  have kI_2 : ∀ b, b ≠ (gh 39 0) → I_2 b = I b := fun b hb => by rw [eI_2]; exact funext fun j => gup2_a _ _ hb
  have w_3 : (I_2 (gh 39 0) 3).toInt = 0 := by rw [eI_2, gup2_s]; exact iI_val ⟨by omega, by omega⟩
  have hv : gInv g gh R AR I_2 AI := by rw [eI_2]; exact gInv_len hv r_1b (by omega) (by omega) (by first | exact hfz | omega)
  have rf := rF_t rf (rF_o r_1b kI_2)
  have fT : ∀ b, b ≠ gh 39 0 → I_2 b = I b := fun b hb => kI_2 b hb
  have hml : (I_2 (gh 39 0) 3).toInt = 0 := by omega
  refine z_iconst F dX6_pickChanges_8 ?_
  refine lv_istore_n (lv' := [(3, .int (iI 0)), (0, .ref x), (1, .ref ch), (2, .int (iI tb))]) F.1 F.2.1 dX6_pickChanges_9 rfl hl (by decide) rfl (fun ls hl => ?_)
  have cut_10_5 : ∀ (NN : Nat) (i : Int) (I_4 : gI) (AI_5 : gI) (H : Heap) (locs : List Loc) (ls : Array Slot), zr i → (gInv g gh R AR I_4 AI_5) → (rF g I I_4) → (0 ≤ i ∧ i ≤ 240) → (∀ b, b ≠ gh 39 0 → I_4 b = I b) → (∀ b, b ≠ gh 0 (gh 39 0) → b ≠ gh 29 0 → AI_5 b = AI b) → (pkI (AI (gh 0 ch)) (AI_5 (gh 0 (gh 39 0))) nb tb (I_4 (gh 39 0) 3).toInt.toNat i.toNat) → (0 ≤ (I_4 (gh 39 0) 3).toInt ∧ i ≤ (nb : Int)) → (240 - i) < ((NN : Nat) : Int) → gH g I_4 R J AI_5 AJ AR H → va_S (gA g) s.heap H locs → lv_has ls 4 [(3, .int (iI i)), (0, .ref x), (1, .ref ch), (2, .int (iI tb))] → W p l e rmX6_pickChangesf s m ([.ref x, .ref ch, .int (iI tb)] : List Value).toArray below meth c H locs 0 0 (MQ below (gQv g (fun w : gS => R = w.2.1 ∧ J = w.2.2.1 ∧ AJ = w.2.2.2.2.1 ∧ AR = w.2.2.2.2.2 ∧ (gInv g gh R AR (w.1) (w.2.2.2.1)) ∧ (rF g I (w.1)) ∧ (∀ b, b ≠ gh 39 0 → (w.1) b = I b) ∧ (∀ b, b ≠ gh 0 (gh 39 0) → b ≠ gh 29 0 → (w.2.2.2.1) b = AI b) ∧ (isB ((w.2.2.2.1) (gh 0 (gh 39 0))) ((w.1) (gh 39 0) 3).toInt.toNat (fun t => cS (AI (gh 0 ch)) tb nb t) zM ∧ 0 ≤ ((w.1) (gh 39 0) 3).toInt))) ([.ref x, .ref ch, .int (iI tb)] : List Value).toArray s 0 0 (gA g)) (F0 m 10 ls []) := by
    intro NN10
    induction NN10 with
    | zero =>
      intro i I_4 AI_5 H locs ls zi hv rf hi fT fM hpk hml hm10 hH hS hl
      exact absurd hm10 (by omega)
    | succ NN10 ih10 =>
      intro i I_4 AI_5 H locs ls zi hv rf hi fT fM hpk hml hm10 hH hS hl
      have hCH : AI_5 (gh 0 ch) = AI (gh 0 ch) := fM _ hct hcc
      have hnb : (I_4 ch 3).toInt = (nb : Int) := by rw [fT _ hc39]; exact hnb
      have hle := hpk.2.1
      refine lv_iload_n F.1 F.2.1 dX6_pickChanges_10 rfl (lv_at hl 0 rfl) ?_
      refine lv_aload_n F.1 F.2.1 dX6_pickChanges_11 rfl (lv_at hl 2 rfl) ?_
      refine g_getI (ci := 4) (k := 3) F hH rfl (by decide) iX4 hch (by decide) rfl k99 dX6_pickChanges_12 ?_
      obtain ⟨b_7a, b_7b, b_7c, b_7d, b_7e, b_7f, b_7g, b_7h⟩ := gI_rows hv hch
      refine z_icmp_ge (tgt := 68) F dX6_pickChanges_15 (by decide) zi (zr_t _) (fun c_8 => ?_) (fun c_8 => ?_)
      · exact g_vret F hr hlk hH hS hz ⟨rfl, rfl, rfl, rfl, hv, rf, fT, fM, ⟨by (try dsimp only); rw [← show i.toNat = nb by omega]; exact hpk.1, by (try dsimp only); omega⟩⟩ dX6_pickChanges_68
      · refine lv_aload_n F.1 F.2.1 dX6_pickChanges_18 rfl (lv_at hl 2 rfl) ?_
        refine lv_iload_n F.1 F.2.1 dX6_pickChanges_19 rfl (lv_at hl 0 rfl) ?_
        refine z_iconst F dX6_pickChanges_20 ?_
        refine g_calli (g_runV (As := [.int (iI i), .int (iI 0)]) (rest := []) (ci := 4) F hl.1 hH hS hz (c_X4_cell l g gh I_4 R J AI_5 AJ AR ch i 0 zi ⟨by decide, by decide⟩ hv hch (by omega) (by omega) (by omega) (by omega)) (cwV 2 F.2.2.2.2.1 gX6_pickChanges_X4_cell rfl rfl rfl hdX4_cell ⟨Nat.le_of_ble_eq_true rfl, Nat.le_of_ble_eq_true rfl⟩) hch (by decide) rfl rfl rfl (Nat.le_of_ble_eq_true rfl) dX6_pickChanges_21 ⟨Nat.zero_le _, Nat.zero_le _⟩) hS (fun v_15 I_9 R_10 J_11 AI_12 AJ_13 AR_14 H locs zv_15 hp_16 hH hS => ?_)
        dsimp only at hp_16
        obtain ⟨rfl, rfl, rfl, rfl, rfl, rfl, qc⟩ := hp_16
        have hq21 : v_15 = ((AI (gh 0 ch)) (6 * i.toNat)).toInt := by rw [qc, hCH]; congr 2; omega
        refine lv_iload_n F.1 F.2.1 dX6_pickChanges_24 rfl (lv_at hl 3 rfl) ?_
        refine z_icmp_ne (tgt := 62) F dX6_pickChanges_25 (by decide) zv_15 ztb (fun c_17 => ?_) (fun c_17 => ?_)
        · have hpk9 := pkI_n (f := (AI (gh 0 ch))) hpk (by rw [← hq21]; omega)
          rw [show i.toNat + 1 = (i + 1).toNat by omega] at hpk9
          refine z_iinc (lv' := [(3, .int (iI (i + 1))), (0, .ref x), (1, .ref ch), (2, .int (iI tb))]) F dX6_pickChanges_62 hl (k := 0) rfl (by decide) rfl (fun ls hl => ?_)
          refine z_goto (tgt := 10) F dX6_pickChanges_65 (by decide) ?_
          exact ih10 (i + 1) I_4 AI_5 H locs ls ⟨by omega, by omega⟩ hv rf (by omega) fT fM hpk9 (by omega) (by omega) hH hS (lv_sub hl [0, 1, 2, 3] rfl)
        · refine lv_aload_n F.1 F.2.1 dX6_pickChanges_28 rfl (lv_at hl 2 rfl) ?_
          refine lv_iload_n F.1 F.2.1 dX6_pickChanges_29 rfl (lv_at hl 0 rfl) ?_
          refine z_iconst F dX6_pickChanges_30 ?_
          refine lv_aload_n F.1 F.2.1 dX6_pickChanges_31 rfl (lv_at hl 1 rfl) ?_
          obtain ⟨r_18a, r_18b⟩ := gR_x12 hv hx.1
          refine g_getR (ci := 6) (k := 12) F hH rfl (by decide) iX6 hx.1 (by decide) rfl (b := gh 29 0) r_18a k66 dX6_pickChanges_32 ?_
          refine g_callv (g_runV (As := [.int (iI i), .int (iI 1), .ref (gh 29 0)]) (rest := []) (ci := 4) F hl.1 hH hS hz (c_X4_copyKeyf l g gh I_4 R J AI_5 AJ AR ch i 1 (gh 29 0) zi ⟨by decide, by decide⟩ hv hch (by omega) (by omega) r_18b (ro29 hv hx.1) (by omega) (by omega)) (cwV 3 F.2.2.2.2.1 gX6_pickChanges_X4_copyKey rfl rfl rfl hdX4_copyKey ⟨Nat.le_of_ble_eq_true rfl, Nat.le_of_ble_eq_true rfl⟩) hch (by decide) rfl rfl rfl (Nat.le_of_ble_eq_true rfl) dX6_pickChanges_35 ⟨Nat.zero_le _, Nat.zero_le _⟩) hS (fun I_19 R_20 J_21 AI_22 AJ_23 AR_24 H locs hp_25 hH hS => ?_)
          dsimp only at hp_25
          obtain ⟨rfl, rfl, rfl, rfl, rfl, q_26, hv, qck⟩ := hp_25
          have hbk : ∀ j, j < 4 → AI_22 (gh 29 0) j = tg (btu (AI (gh 0 ch)) i.toNat) j := fun j hj => by rw [qck, h5, hCH]; unfold va_cpy; rw [if_pos ⟨by omega, by omega⟩, btu_at hj]; congr 1; omega
          have fM : ∀ b, b ≠ gh 0 (gh 39 0) → b ≠ gh 29 0 → AI_22 b = AI b := fun b h1 h2 => (q_26 b h2).trans (fM b h1 h2)
          have hCH : AI_22 (gh 0 ch) = AI (gh 0 ch) := fM _ hct hcc
          have hpk : pkI (AI (gh 0 ch)) (AI_22 (gh 0 (gh 39 0))) nb tb (I_4 (gh 39 0) 3).toInt.toNat i.toNat := by rw [q_26 _ htk]; exact hpk
          refine lv_aload_n F.1 F.2.1 dX6_pickChanges_38 rfl (lv_at hl 1 rfl) ?_
          refine g_getR (ci := 6) (k := 10) F hH rfl (by decide) iX6 hx.1 (by decide) rfl (b := gh 39 0) r_1a k60 dX6_pickChanges_39 ?_
          refine lv_aload_n F.1 F.2.1 dX6_pickChanges_42 rfl (lv_at hl 1 rfl) ?_
          refine g_getR (ci := 6) (k := 10) F hH rfl (by decide) iX6 hx.1 (by decide) rfl (b := gh 39 0) r_1a k60 dX6_pickChanges_43 ?_
          refine g_getI (ci := 4) (k := 3) F hH rfl (by decide) iX4 r_1b (by decide) rfl k99 dX6_pickChanges_46 ?_
          obtain ⟨b_27a, b_27b, b_27c, b_27d, b_27e, b_27f, b_27g, b_27h⟩ := gI_rows hv r_1b
          refine lv_aload_n F.1 F.2.1 dX6_pickChanges_49 rfl (lv_at hl 1 rfl) ?_
          refine g_getR (ci := 6) (k := 12) F hH rfl (by decide) iX6 hx.1 (by decide) rfl (b := gh 29 0) r_18a k66 dX6_pickChanges_50 ?_
          refine lv_aload_n F.1 F.2.1 dX6_pickChanges_53 rfl (lv_at hl 2 rfl) ?_
          refine lv_iload_n F.1 F.2.1 dX6_pickChanges_54 rfl (lv_at hl 0 rfl) ?_
          refine g_calli (g_runV (As := [.int (iI i)]) (rest := [.ref (gh 29 0), .int (iI ((I_4 (gh 39 0) 3).toInt)), .ref (gh 39 0)]) (ci := 4) F hl.1 hH hS hz (c_X4_amount l g gh I_4 R J AI_22 AJ AR ch i zi hv hch (by omega) (by omega)) (cwV 1 F.2.2.2.2.1 gX6_pickChanges_X4_amount rfl rfl rfl hdX4_amount ⟨Nat.le_of_ble_eq_true rfl, Nat.le_of_ble_eq_true rfl⟩) hch (by decide) rfl rfl rfl (Nat.le_of_ble_eq_true rfl) dX6_pickChanges_55 ⟨Nat.zero_le _, Nat.zero_le _⟩) hS (fun v_34 I_28 R_29 J_30 AI_31 AJ_32 AR_33 H locs zv_34 hp_35 hH hS => ?_)
          dsimp only at hp_35
          obtain ⟨rfl, rfl, rfl, rfl, rfl, rfl, qc55⟩ := hp_35
          have hq55 : iI v_34 = (AI (gh 0 ch)) (6 * i.toNat + 5) := by rw [qc55, iI_self, hCH]; congr 1; omega
          refine g_calli (g_runV (As := [.int (iI ((I_4 (gh 39 0) 3).toInt)), .ref (gh 29 0), .int (iI v_34)]) (rest := []) (ci := 4) F hl.1 hH hS hz (c_X4_insertf l g gh I_4 R J AI_22 AJ AR (gh 39 0) ((I_4 (gh 39 0) 3).toInt) (gh 29 0) v_34 (zr_t _) zv_34 hv r_1b r_18b (ro29 hv hx.1) (fun h => absurd h (by omega)) (by first | exact hfz | omega)) (cwV 3 F.2.2.2.2.1 gX6_pickChanges_X4_insert rfl rfl rfl hdX4_insert ⟨Nat.le_of_ble_eq_true rfl, Nat.le_of_ble_eq_true rfl⟩) r_1b (by decide) rfl rfl rfl (Nat.le_of_ble_eq_true rfl) dX6_pickChanges_58 ⟨Nat.zero_le _, Nat.zero_le _⟩) hS (fun v_42 I_36 R_37 J_38 AI_39 AJ_40 AR_41 H locs zv_42 hp_43 hH hS => ?_)
          dsimp only at hp_43
          obtain ⟨rfl, rfl, rfl, rfl, hv, q_44, q_45, q_46, q_47, qin⟩ := hp_43
          have rf := rF_t rf (rF_o r_1b q_44)
          have u_48p : I_36 pA = I pA := rf pA 2 hx.2.2.1 (by decide)
          have u_48p1 : (I_36 pA 1).toInt = (I pA 1).toInt := by rw [u_48p]
          have u_48p2 : (I_36 pA 2).toInt = (I pA 2).toInt := by rw [u_48p]
          have fT : ∀ b, b ≠ gh 39 0 → I_36 b = I b := fun b hb => (q_44 b hb).trans (fT b hb)
          have fM : ∀ b, b ≠ gh 0 (gh 39 0) → b ≠ gh 29 0 → AI_39 b = AI b := fun b h1 h2 => (q_45 b h1).trans (fM b h1 h2)
          obtain ⟨qz, qi⟩ := qin.resolve_left (fun h => absurd h.2.2 (by omega))
          rw [h3g.2.2.2] at qi
          have hiw := insP_W (n := (I_4 (gh 39 0) 3).toInt.toNat) (key_tu hbk) (by omega) (by omega) qi
          rw [hq55] at hiw
          have hpk9 := pkI_y hbt (by omega) hpk (by rw [← hq21]; omega) hiw
          rw [show (I_4 (gh 39 0) 3).toInt.toNat + 1 = (I_36 (gh 39 0) 3).toInt.toNat by omega, show i.toNat + 1 = (i + 1).toNat by omega] at hpk9
          refine lv_pop F.1 F.2.1 dX6_pickChanges_61 rfl ?_
          refine z_iinc (lv' := [(3, .int (iI (i + 1))), (0, .ref x), (1, .ref ch), (2, .int (iI tb))]) F dX6_pickChanges_62 hl (k := 0) rfl (by decide) rfl (fun ls hl => ?_)
          refine z_goto (tgt := 10) F dX6_pickChanges_65 (by decide) ?_
          exact ih10 (i + 1) I_36 AI_39 H locs ls ⟨by omega, by omega⟩ hv rf (by omega) fT fM hpk9 (by omega) (by omega) hH hS (lv_sub hl [0, 1, 2, 3] rfl)
  exact cut_10_5 (((240 - 0) + 1 : Int).toNat) 0 I_2 AI H locs ls ⟨by decide, by decide⟩ hv rf (by omega) fT (fun _ _ _ => rfl) (by rw [show (I_2 (gh 39 0) 3).toInt = 0 by omega]; exact pkI_0) (by omega) (by omega) hH hS (lv_sub hl [0, 1, 2, 3] rfl)
end
