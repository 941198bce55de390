/-! the reference's hangsOn, hangOn, farOf, of -/
def kTk (T : Nat → Int32) : Nat → Int := fun u => tI T (40 * (u : Int))
def kTf (T : Nat → Int32) : Nat → Int := fun u => tI T (40 * (u : Int) + 2)
def kTs (T : Nat → Int32) : Nat → Int := fun u => tI T (40 * (u : Int) + 3)
/-- the reference's last letter, as the machine takes the rest -/
def kLe (x : Int64) : Int32 := iI ((x - x / 256 * 256).toInt32.toInt - 97 + 1)
theorem uB_rm {x : Int64} (h : uB x < 2 ^ 63) : uB (x - x / 256 * 256) = uB x % 256 := by
  have d := uB_d h
  unfold uB at *
  rw [Int64.toBitVec_sub, Int64.toBitVec_mul, BitVec.toNat_sub, BitVec.toNat_mul, d]
  have e : (Int64.toBitVec 256).toNat = 256 := by decide +kernel
  rw [e]
  omega
theorem kLe_d {x : Int64} (h : uB x < 2 ^ 63) : kLe x = kLd x := by unfold kLe kLd; rw [uB_inj ((uB_rm h).trans (uB_md h).symm)]
theorem pMw_63 {b : tTx} {n h : Nat} (e : pK b n h = 3) : uB (pMw b n h) < 2 ^ 63 := by
  have w := pK_3 e
  unfold pMw
  exact (tM_k (j := 0) w.2.1 w.2.2.1 (Nat.zero_le _)).2
theorem nm_ce {b : tTx} {n h : Nat} (e : pK b n h = 3) : kLc (pN b n h) = kLe (pMw b n h) := (nm_cd e).trans (kLe_d (pMw_63 e)).symm
theorem kHm_y {H : Nat → Int32} {z k : Int} {x : Int32} (hk : 0 ≤ k) (hb : mBit (H k.toNat).toInt z = 1) (e : x = kHm H z k.toNat ||| kBt k) : x = kHm H z (k + 1).toNat := by
  rw [show (k + 1).toNat = k.toNat + 1 by omega, kHm, if_pos hb, show ((k.toNat : Nat) : Int) = k by omega]; exact e
theorem kHm_n {H : Nat → Int32} {z k : Int} {x : Int32} (hk : 0 ≤ k) (hb : mBit (H k.toNat).toInt z ≠ 1) (e : x = kHm H z k.toNat) : x = kHm H z (k + 1).toNat := by
  rw [show (k + 1).toNat = k.toNat + 1 by omega, kHm, if_neg hb]; exact e
def rmX7_hangsOnh1 : Room := { frames := 1, cells := 0, slots := 0, locals := 21 }
set_option maxHeartbeats 4000000 in
set_option maxRecDepth 100000 in
/-- hangsOn -/
theorem c_X7_hangsOnh1 (l : Launch) (g : gG) (gh : gGh) (T : Nat → Int32) (I : gI) (R : gR) (J : gJ) (AI : gI) (AJ : gJ) (AR : gR) (mo : Nat) (rr : Int) (zrr : zr rr) (hv : mInv g gh R I AI) (hm : gO g mo 7) (hT : AI (gh 50 0) = T) (hr0 : 0 ≤ rr ∧ rr < (I mo 2).toInt ∧ rr < 1) : gMet l g yX7_hangsOn tsX7_hangsOn rmX7_hangsOnh1 [.ref mo, .int (iI rr)] (I, R, J, AI, AJ, AR) (gQi g (fun (z : Int) (w : gS) => I = w.1 ∧ R = w.2.1 ∧ J = w.2.2.1 ∧ AI = w.2.2.2.1 ∧ AJ = w.2.2.2.2.1 ∧ AR = w.2.2.2.2.2 ∧ (iI z = kHs (kTk T) (kTf T) (kTs T) 1 rr.toNat))) := by
  refine gStart (cc := cX7_hangsOn) (maxL := 3) (ret := (some (.int))) (by decide) rfl (Nat.le_of_ble_eq_true rfl) ?_
  intro p e s m below meth c ls F hr hlk hH hz hS hl
  have hl : lv_has ls 3 [(0, .ref mo), (1, .int (iI rr))] := hl
  have hS : va_S (gA g) s.heap s.heap [] := hS
  obtain ⟨H, hHe⟩ : ∃ H : Heap, H = s.heap := ⟨_, rfl⟩
  obtain ⟨locs, hlo⟩ : ∃ k : List Loc, k = [] := ⟨_, rfl⟩
  have hH : gH g I R J AI AJ AR H := by rw [hHe]; exact hH
  have hS : va_S (gA g) s.heap H locs := by rw [hHe, hlo]; exact hS
  suffices hw : W p l e rmX7_hangsOnh1 s m ([.ref mo, .int (iI rr)] : List Value).toArray below meth c H locs 0 0 (MQ below (gQi g (fun (z : Int) (w : gS) => I = w.1 ∧ R = w.2.1 ∧ J = w.2.2.1 ∧ AI = w.2.2.2.1 ∧ AJ = w.2.2.2.2.1 ∧ AR = w.2.2.2.2.2 ∧ (iI z = kHs (kTk T) (kTf T) (kTs T) 1 rr.toNat))) ([.ref mo, .int (iI rr)] : List Value).toArray s 0 0 (gA g)) (F0 m 0 ls []) by
    rw [hHe, hlo] at hw; exact hw
  clear hHe hlo
  have hb0 := mJ hv hm
  unfold mNum1 at hb0
  have x := mRow hv hm hT (z := rr) (by omega) (by omega)
  have xa := x.1
  have xc := x.2.2.1
  have xb := x.2.1
  have ern : ((rr.toNat : Nat) : Int) = rr := Int.toNat_of_nonneg hr0.1
  have eK : kTk T rr.toNat = tI T (40 * rr) := by unfold kTk; rw [ern]
  have eF : kTf T rr.toNat = tI T (40 * rr + 2) := by unfold kTf; rw [ern]
  have eS : kTs T rr.toNat = tI T (40 * rr + 3) := by unfold kTs; rw [ern]
  refine lv_aload_n F.1 F.2.1 dX7_hangsOn_0 rfl (lv_at hl 0 rfl) ?_
  refine lv_iload_n F.1 F.2.1 dX7_hangsOn_1 rfl (lv_at hl 1 rfl) ?_
  have b_1 := mJ hv hm
  unfold mNum1 at b_1
  refine g_calli (g_runV (As := [.int (iI rr)]) (rest := []) (ci := 7) F hl.1 hH hS hz (c_X7_kindOf l g gh T I R J AI AJ AR mo rr zrr hv hm hT (by omega)) (cwV 1 F.2.2.2.2.1 (good_up gT_X7_kindOf) rfl rfl rfl hdX7_kindOf ⟨Nat.le_of_ble_eq_true rfl, Nat.le_of_ble_eq_true rfl⟩) hm (by decide) rfl rfl rfl (Nat.le_of_ble_eq_true rfl) dX7_hangsOn_2 ⟨Nat.zero_le _, Nat.zero_le _⟩) hS (fun v_8 I_2 R_3 J_4 AI_5 AJ_6 AR_7 H locs zv_8 hp_9 hH hS => ?_)
  dsimp only at hp_9
  obtain ⟨rfl, rfl, rfl, rfl, rfl, rfl, qk⟩ := hp_9
  refine z_if_ne (tgt := 10) F dX7_hangsOn_5 (by decide) zv_8 (fun c_10 => ?_) (fun c_10 => ?_)
  · exact absurd trivial (by omega)
  · refine z_iconst F dX7_hangsOn_8 ?_
    exact g_iret F hr hlk hH hS hz ⟨by decide, by decide⟩ ⟨rfl, rfl, rfl, rfl, rfl, rfl, (kHs_0 (d := 0) (by rw [eK]; omega)).symm⟩ dX7_hangsOn_9

def rmX7_hangsOnh2 : Room := { frames := 2, cells := 0, slots := 0, locals := 43 }
set_option maxHeartbeats 4000000 in
set_option maxRecDepth 100000 in
/-- hangsOn -/
theorem c_X7_hangsOnh2 (l : Launch) (g : gG) (gh : gGh) (T : Nat → Int32) (I : gI) (R : gR) (J : gJ) (AI : gI) (AJ : gJ) (AR : gR) (mo : Nat) (rr : Int) (zrr : zr rr) (hv : mInv g gh R I AI) (hm : gO g mo 7) (hT : AI (gh 50 0) = T) (hr0 : 0 ≤ rr ∧ rr < (I mo 2).toInt ∧ rr < 2) : gMet l g yX7_hangsOn tsX7_hangsOn rmX7_hangsOnh2 [.ref mo, .int (iI rr)] (I, R, J, AI, AJ, AR) (gQi g (fun (z : Int) (w : gS) => I = w.1 ∧ R = w.2.1 ∧ J = w.2.2.1 ∧ AI = w.2.2.2.1 ∧ AJ = w.2.2.2.2.1 ∧ AR = w.2.2.2.2.2 ∧ (iI z = kHs (kTk T) (kTf T) (kTs T) 2 rr.toNat))) := by
  refine gStart (cc := cX7_hangsOn) (maxL := 3) (ret := (some (.int))) (by decide) rfl (Nat.le_of_ble_eq_true rfl) ?_
  intro p e s m below meth c ls F hr hlk hH hz hS hl
  have hl : lv_has ls 3 [(0, .ref mo), (1, .int (iI rr))] := hl
  have hS : va_S (gA g) s.heap s.heap [] := hS
  obtain ⟨H, hHe⟩ : ∃ H : Heap, H = s.heap := ⟨_, rfl⟩
  obtain ⟨locs, hlo⟩ : ∃ k : List Loc, k = [] := ⟨_, rfl⟩
  have hH : gH g I R J AI AJ AR H := by rw [hHe]; exact hH
  have hS : va_S (gA g) s.heap H locs := by rw [hHe, hlo]; exact hS
  suffices hw : W p l e rmX7_hangsOnh2 s m ([.ref mo, .int (iI rr)] : List Value).toArray below meth c H locs 0 0 (MQ below (gQi g (fun (z : Int) (w : gS) => I = w.1 ∧ R = w.2.1 ∧ J = w.2.2.1 ∧ AI = w.2.2.2.1 ∧ AJ = w.2.2.2.2.1 ∧ AR = w.2.2.2.2.2 ∧ (iI z = kHs (kTk T) (kTf T) (kTs T) 2 rr.toNat))) ([.ref mo, .int (iI rr)] : List Value).toArray s 0 0 (gA g)) (F0 m 0 ls []) by
    rw [hHe, hlo] at hw; exact hw
  clear hHe hlo
  have hb0 := mJ hv hm
  unfold mNum1 at hb0
  have x := mRow hv hm hT (z := rr) (by omega) (by omega)
  have xa := x.1
  have xc := x.2.2.1
  have xb := x.2.1
  have ern : ((rr.toNat : Nat) : Int) = rr := Int.toNat_of_nonneg hr0.1
  have eK : kTk T rr.toNat = tI T (40 * rr) := by unfold kTk; rw [ern]
  have eF : kTf T rr.toNat = tI T (40 * rr + 2) := by unfold kTf; rw [ern]
  have eS : kTs T rr.toNat = tI T (40 * rr + 3) := by unfold kTs; rw [ern]
  refine lv_aload_n F.1 F.2.1 dX7_hangsOn_0 rfl (lv_at hl 0 rfl) ?_
  refine lv_iload_n F.1 F.2.1 dX7_hangsOn_1 rfl (lv_at hl 1 rfl) ?_
  have b_1 := mJ hv hm
  unfold mNum1 at b_1
  refine g_calli (g_runV (As := [.int (iI rr)]) (rest := []) (ci := 7) F hl.1 hH hS hz (c_X7_kindOf l g gh T I R J AI AJ AR mo rr zrr hv hm hT (by omega)) (cwV 1 F.2.2.2.2.1 (good_up gT_X7_kindOf) rfl rfl rfl hdX7_kindOf ⟨Nat.le_of_ble_eq_true rfl, Nat.le_of_ble_eq_true rfl⟩) hm (by decide) rfl rfl rfl (Nat.le_of_ble_eq_true rfl) dX7_hangsOn_2 ⟨Nat.zero_le _, Nat.zero_le _⟩) hS (fun v_8 I_2 R_3 J_4 AI_5 AJ_6 AR_7 H locs zv_8 hp_9 hH hS => ?_)
  dsimp only at hp_9
  obtain ⟨rfl, rfl, rfl, rfl, rfl, rfl, qk⟩ := hp_9
  refine z_if_ne (tgt := 10) F dX7_hangsOn_5 (by decide) zv_8 (fun c_10 => ?_) (fun c_10 => ?_)
  · refine z_iconst F dX7_hangsOn_10 ?_
    refine lv_aload_n F.1 F.2.1 dX7_hangsOn_11 rfl (lv_at hl 0 rfl) ?_
    refine lv_iload_n F.1 F.2.1 dX7_hangsOn_12 rfl (lv_at hl 1 rfl) ?_
    refine g_calli (g_runV (As := [.int (iI rr)]) (rest := [.int (iI 1)]) (ci := 7) F hl.1 hH hS hz (c_X7_firstOf l g gh T I R J AI AJ AR mo rr zrr hv hm hT (by omega)) (cwV 1 F.2.2.2.2.1 (good_up gT_X7_firstOf) rfl rfl rfl hdX7_firstOf ⟨Nat.le_of_ble_eq_true rfl, Nat.le_of_ble_eq_true rfl⟩) hm (by decide) rfl rfl rfl (Nat.le_of_ble_eq_true rfl) dX7_hangsOn_13 ⟨Nat.zero_le _, Nat.zero_le _⟩) hS (fun v_17 I_11 R_12 J_13 AI_14 AJ_15 AR_16 H locs zv_17 hp_18 hH hS => ?_)
    dsimp only at hp_18
    obtain ⟨rfl, rfl, rfl, rfl, rfl, rfl, qf1⟩ := hp_18
    refine lv_ishl F.1 F.2.1 dX7_hangsOn_16 ?_
    refine z_top (fun v_19 zv_19 ev_19 => ?_)
    refine lv_aload_n F.1 F.2.1 dX7_hangsOn_17 rfl (lv_at hl 0 rfl) ?_
    refine lv_aload_n F.1 F.2.1 dX7_hangsOn_18 rfl (lv_at hl 0 rfl) ?_
    refine lv_iload_n F.1 F.2.1 dX7_hangsOn_19 rfl (lv_at hl 1 rfl) ?_
    refine g_calli (g_runV (As := [.int (iI rr)]) (rest := [.ref mo, .int (iI v_19)]) (ci := 7) F hl.1 hH hS hz (c_X7_firstOf l g gh T I R J AI AJ AR mo rr zrr hv hm hT (by omega)) (cwV 1 F.2.2.2.2.1 (good_up gT_X7_firstOf) rfl rfl rfl hdX7_firstOf ⟨Nat.le_of_ble_eq_true rfl, Nat.le_of_ble_eq_true rfl⟩) hm (by decide) rfl rfl rfl (Nat.le_of_ble_eq_true rfl) dX7_hangsOn_20 ⟨Nat.zero_le _, Nat.zero_le _⟩) hS (fun v_26 I_20 R_21 J_22 AI_23 AJ_24 AR_25 H locs zv_26 hp_27 hH hS => ?_)
    dsimp only at hp_27
    obtain ⟨rfl, rfl, rfl, rfl, rfl, rfl, qf2⟩ := hp_27
    refine g_calli (g_runV (As := [.int (iI v_26)]) (rest := [.int (iI v_19)]) (ci := 7) F hl.1 hH hS hz (c_X7_hangsOnh1 l g gh T I R J AI AJ AR mo v_26 zv_26 hv hm hT (by omega)) (cwV 1 F.2.2.2.2.1 (good_up gT_X7_hangsOn) rfl rfl rfl hdX7_hangsOn ⟨Nat.le_of_ble_eq_true rfl, Nat.le_of_ble_eq_true rfl⟩) hm (by decide) rfl rfl rfl (Nat.le_of_ble_eq_true rfl) dX7_hangsOn_23 ⟨Nat.zero_le _, Nat.zero_le _⟩) hS (fun v_34 I_28 R_29 J_30 AI_31 AJ_32 AR_33 H locs zv_34 hp_35 hH hS => ?_)
    dsimp only at hp_35
    obtain ⟨rfl, rfl, rfl, rfl, rfl, rfl, qh1⟩ := hp_35
    refine lv_ior F.1 F.2.1 dX7_hangsOn_26 ?_
    refine z_top (fun v_36 zv_36 ev_36 => ?_)
    have s1 : iI v_36 = kBt (kTf T rr.toNat) ||| kHs (kTk T) (kTf T) (kTs T) 1 (kTf T rr.toNat).toNat := by
      rw [ev_36, iI_self, ev_19, iI_self, qh1, qf1, qf2, eF]; rfl
    refine lv_istore_n (lv' := [(2, .int (iI v_36)), (0, .ref mo), (1, .int (iI rr))]) F.1 F.2.1 dX7_hangsOn_27 rfl hl (by decide) rfl (fun ls hl => ?_)
    refine lv_aload_n F.1 F.2.1 dX7_hangsOn_28 rfl (lv_at hl 1 rfl) ?_
    refine lv_iload_n F.1 F.2.1 dX7_hangsOn_29 rfl (lv_at hl 2 rfl) ?_
    refine g_calli (g_runV (As := [.int (iI rr)]) (rest := []) (ci := 7) F hl.1 hH hS hz (c_X7_secondOf l g gh T I R J AI AJ AR mo rr zrr hv hm hT (by omega)) (cwV 1 F.2.2.2.2.1 (good_up gT_X7_secondOf) rfl rfl rfl hdX7_secondOf ⟨Nat.le_of_ble_eq_true rfl, Nat.le_of_ble_eq_true rfl⟩) hm (by decide) rfl rfl rfl (Nat.le_of_ble_eq_true rfl) dX7_hangsOn_30 ⟨Nat.zero_le _, Nat.zero_le _⟩) hS (fun v_43 I_37 R_38 J_39 AI_40 AJ_41 AR_42 H locs zv_43 hp_44 hH hS => ?_)
    dsimp only at hp_44
    obtain ⟨rfl, rfl, rfl, rfl, rfl, rfl, qs1⟩ := hp_44
    refine z_if_ge (tgt := 40) F dX7_hangsOn_33 (by decide) zv_43 (fun c_45 => ?_) (fun c_45 => ?_)
    · refine lv_iload_n F.1 F.2.1 dX7_hangsOn_40 rfl (lv_at hl 0 rfl) ?_
      refine z_iconst F dX7_hangsOn_41 ?_
      refine lv_aload_n F.1 F.2.1 dX7_hangsOn_42 rfl (lv_at hl 1 rfl) ?_
      refine lv_iload_n F.1 F.2.1 dX7_hangsOn_43 rfl (lv_at hl 2 rfl) ?_
      refine g_calli (g_runV (As := [.int (iI rr)]) (rest := [.int (iI 1), .int (iI v_36)]) (ci := 7) F hl.1 hH hS hz (c_X7_secondOf l g gh T I R J AI AJ AR mo rr zrr hv hm hT (by omega)) (cwV 1 F.2.2.2.2.1 (good_up gT_X7_secondOf) rfl rfl rfl hdX7_secondOf ⟨Nat.le_of_ble_eq_true rfl, Nat.le_of_ble_eq_true rfl⟩) hm (by decide) rfl rfl rfl (Nat.le_of_ble_eq_true rfl) dX7_hangsOn_44 ⟨Nat.zero_le _, Nat.zero_le _⟩) hS (fun v_52 I_46 R_47 J_48 AI_49 AJ_50 AR_51 H locs zv_52 hp_53 hH hS => ?_)
      dsimp only at hp_53
      obtain ⟨rfl, rfl, rfl, rfl, rfl, rfl, qs2⟩ := hp_53
      refine lv_ishl F.1 F.2.1 dX7_hangsOn_47 ?_
      refine z_top (fun v_54 zv_54 ev_54 => ?_)
      refine lv_ior F.1 F.2.1 dX7_hangsOn_48 ?_
      refine z_top (fun v_55 zv_55 ev_55 => ?_)
      refine lv_aload_n F.1 F.2.1 dX7_hangsOn_49 rfl (lv_at hl 1 rfl) ?_
      refine lv_aload_n F.1 F.2.1 dX7_hangsOn_50 rfl (lv_at hl 1 rfl) ?_
      refine lv_iload_n F.1 F.2.1 dX7_hangsOn_51 rfl (lv_at hl 2 rfl) ?_
      refine g_calli (g_runV (As := [.int (iI rr)]) (rest := [.ref mo, .int (iI v_55)]) (ci := 7) F hl.1 hH hS hz (c_X7_secondOf l g gh T I R J AI AJ AR mo rr zrr hv hm hT (by omega)) (cwV 1 F.2.2.2.2.1 (good_up gT_X7_secondOf) rfl rfl rfl hdX7_secondOf ⟨Nat.le_of_ble_eq_true rfl, Nat.le_of_ble_eq_true rfl⟩) hm (by decide) rfl rfl rfl (Nat.le_of_ble_eq_true rfl) dX7_hangsOn_52 ⟨Nat.zero_le _, Nat.zero_le _⟩) hS (fun v_62 I_56 R_57 J_58 AI_59 AJ_60 AR_61 H locs zv_62 hp_63 hH hS => ?_)
      dsimp only at hp_63
      obtain ⟨rfl, rfl, rfl, rfl, rfl, rfl, qs3⟩ := hp_63
      refine g_calli (g_runV (As := [.int (iI v_62)]) (rest := [.int (iI v_55)]) (ci := 7) F hl.1 hH hS hz (c_X7_hangsOnh1 l g gh T I R J AI AJ AR mo v_62 zv_62 hv hm hT (by omega)) (cwV 1 F.2.2.2.2.1 (good_up gT_X7_hangsOn) rfl rfl rfl hdX7_hangsOn ⟨Nat.le_of_ble_eq_true rfl, Nat.le_of_ble_eq_true rfl⟩) hm (by decide) rfl rfl rfl (Nat.le_of_ble_eq_true rfl) dX7_hangsOn_55 ⟨Nat.zero_le _, Nat.zero_le _⟩) hS (fun v_70 I_64 R_65 J_66 AI_67 AJ_68 AR_69 H locs zv_70 hp_71 hH hS => ?_)
      dsimp only at hp_71
      obtain ⟨rfl, rfl, rfl, rfl, rfl, rfl, qh2⟩ := hp_71
      refine lv_ior F.1 F.2.1 dX7_hangsOn_58 ?_
      refine z_top (fun v_72 zv_72 ev_72 => ?_)
      have s2 : iI v_72 = ((kBt (kTf T rr.toNat) ||| kHs (kTk T) (kTf T) (kTs T) 1 (kTf T rr.toNat).toNat) ||| kBt (kTs T rr.toNat)) ||| kHs (kTk T) (kTf T) (kTs T) 1 (kTs T rr.toNat).toNat := by
        rw [ev_72, iI_self, ev_55, iI_self, s1, ev_54, iI_self, qh2, qs2, qs3, eS]; rfl
      exact g_iret F hr hlk hH hS hz zv_72 ⟨rfl, rfl, rfl, rfl, rfl, rfl, s2.trans (kHs_2 (d := 1) (by rw [eK]; omega) (by rw [eS]; omega)).symm⟩ dX7_hangsOn_59
    · refine lv_iload_n F.1 F.2.1 dX7_hangsOn_36 rfl (lv_at hl 0 rfl) ?_
      refine z_goto (tgt := 59) F dX7_hangsOn_37 (by decide) ?_
      exact g_iret F hr hlk hH hS hz zv_36 ⟨rfl, rfl, rfl, rfl, rfl, rfl, s1.trans (kHs_1 (d := 1) (by rw [eK]; omega) (by rw [eS]; omega)).symm⟩ dX7_hangsOn_59
  · refine z_iconst F dX7_hangsOn_8 ?_
    exact g_iret F hr hlk hH hS hz ⟨by decide, by decide⟩ ⟨rfl, rfl, rfl, rfl, rfl, rfl, (kHs_0 (d := 1) (by rw [eK]; omega)).symm⟩ dX7_hangsOn_9

def rmX7_hangsOnh3 : Room := { frames := 3, cells := 0, slots := 0, locals := 65 }
set_option maxHeartbeats 4000000 in
set_option maxRecDepth 100000 in
/-- hangsOn -/
theorem c_X7_hangsOnh3 (l : Launch) (g : gG) (gh : gGh) (T : Nat → Int32) (I : gI) (R : gR) (J : gJ) (AI : gI) (AJ : gJ) (AR : gR) (mo : Nat) (rr : Int) (zrr : zr rr) (hv : mInv g gh R I AI) (hm : gO g mo 7) (hT : AI (gh 50 0) = T) (hr0 : 0 ≤ rr ∧ rr < (I mo 2).toInt ∧ rr < 3) : gMet l g yX7_hangsOn tsX7_hangsOn rmX7_hangsOnh3 [.ref mo, .int (iI rr)] (I, R, J, AI, AJ, AR) (gQi g (fun (z : Int) (w : gS) => I = w.1 ∧ R = w.2.1 ∧ J = w.2.2.1 ∧ AI = w.2.2.2.1 ∧ AJ = w.2.2.2.2.1 ∧ AR = w.2.2.2.2.2 ∧ (iI z = kHs (kTk T) (kTf T) (kTs T) 3 rr.toNat))) := by
  refine gStart (cc := cX7_hangsOn) (maxL := 3) (ret := (some (.int))) (by decide) rfl (Nat.le_of_ble_eq_true rfl) ?_
  intro p e s m below meth c ls F hr hlk hH hz hS hl
  have hl : lv_has ls 3 [(0, .ref mo), (1, .int (iI rr))] := hl
  have hS : va_S (gA g) s.heap s.heap [] := hS
  obtain ⟨H, hHe⟩ : ∃ H : Heap, H = s.heap := ⟨_, rfl⟩
  obtain ⟨locs, hlo⟩ : ∃ k : List Loc, k = [] := ⟨_, rfl⟩
  have hH : gH g I R J AI AJ AR H := by rw [hHe]; exact hH
  have hS : va_S (gA g) s.heap H locs := by rw [hHe, hlo]; exact hS
  suffices hw : W p l e rmX7_hangsOnh3 s m ([.ref mo, .int (iI rr)] : List Value).toArray below meth c H locs 0 0 (MQ below (gQi g (fun (z : Int) (w : gS) => I = w.1 ∧ R = w.2.1 ∧ J = w.2.2.1 ∧ AI = w.2.2.2.1 ∧ AJ = w.2.2.2.2.1 ∧ AR = w.2.2.2.2.2 ∧ (iI z = kHs (kTk T) (kTf T) (kTs T) 3 rr.toNat))) ([.ref mo, .int (iI rr)] : List Value).toArray s 0 0 (gA g)) (F0 m 0 ls []) by
    rw [hHe, hlo] at hw; exact hw
  clear hHe hlo
  have hb0 := mJ hv hm
  unfold mNum1 at hb0
  have x := mRow hv hm hT (z := rr) (by omega) (by omega)
  have xa := x.1
  have xc := x.2.2.1
  have xb := x.2.1
  have ern : ((rr.toNat : Nat) : Int) = rr := Int.toNat_of_nonneg hr0.1
  have eK : kTk T rr.toNat = tI T (40 * rr) := by unfold kTk; rw [ern]
  have eF : kTf T rr.toNat = tI T (40 * rr + 2) := by unfold kTf; rw [ern]
  have eS : kTs T rr.toNat = tI T (40 * rr + 3) := by unfold kTs; rw [ern]
  refine lv_aload_n F.1 F.2.1 dX7_hangsOn_0 rfl (lv_at hl 0 rfl) ?_
  refine lv_iload_n F.1 F.2.1 dX7_hangsOn_1 rfl (lv_at hl 1 rfl) ?_
  have b_1 := mJ hv hm
  unfold mNum1 at b_1
  refine g_calli (g_runV (As := [.int (iI rr)]) (rest := []) (ci := 7) F hl.1 hH hS hz (c_X7_kindOf l g gh T I R J AI AJ AR mo rr zrr hv hm hT (by omega)) (cwV 1 F.2.2.2.2.1 (good_up gT_X7_kindOf) rfl rfl rfl hdX7_kindOf ⟨Nat.le_of_ble_eq_true rfl, Nat.le_of_ble_eq_true rfl⟩) hm (by decide) rfl rfl rfl (Nat.le_of_ble_eq_true rfl) dX7_hangsOn_2 ⟨Nat.zero_le _, Nat.zero_le _⟩) hS (fun v_8 I_2 R_3 J_4 AI_5 AJ_6 AR_7 H locs zv_8 hp_9 hH hS => ?_)
  dsimp only at hp_9
  obtain ⟨rfl, rfl, rfl, rfl, rfl, rfl, qk⟩ := hp_9
  refine z_if_ne (tgt := 10) F dX7_hangsOn_5 (by decide) zv_8 (fun c_10 => ?_) (fun c_10 => ?_)
  · refine z_iconst F dX7_hangsOn_10 ?_
    refine lv_aload_n F.1 F.2.1 dX7_hangsOn_11 rfl (lv_at hl 0 rfl) ?_
    refine lv_iload_n F.1 F.2.1 dX7_hangsOn_12 rfl (lv_at hl 1 rfl) ?_
    refine g_calli (g_runV (As := [.int (iI rr)]) (rest := [.int (iI 1)]) (ci := 7) F hl.1 hH hS hz (c_X7_firstOf l g gh T I R J AI AJ AR mo rr zrr hv hm hT (by omega)) (cwV 1 F.2.2.2.2.1 (good_up gT_X7_firstOf) rfl rfl rfl hdX7_firstOf ⟨Nat.le_of_ble_eq_true rfl, Nat.le_of_ble_eq_true rfl⟩) hm (by decide) rfl rfl rfl (Nat.le_of_ble_eq_true rfl) dX7_hangsOn_13 ⟨Nat.zero_le _, Nat.zero_le _⟩) hS (fun v_17 I_11 R_12 J_13 AI_14 AJ_15 AR_16 H locs zv_17 hp_18 hH hS => ?_)
    dsimp only at hp_18
    obtain ⟨rfl, rfl, rfl, rfl, rfl, rfl, qf1⟩ := hp_18
    refine lv_ishl F.1 F.2.1 dX7_hangsOn_16 ?_
    refine z_top (fun v_19 zv_19 ev_19 => ?_)
    refine lv_aload_n F.1 F.2.1 dX7_hangsOn_17 rfl (lv_at hl 0 rfl) ?_
    refine lv_aload_n F.1 F.2.1 dX7_hangsOn_18 rfl (lv_at hl 0 rfl) ?_
    refine lv_iload_n F.1 F.2.1 dX7_hangsOn_19 rfl (lv_at hl 1 rfl) ?_
    refine g_calli (g_runV (As := [.int (iI rr)]) (rest := [.ref mo, .int (iI v_19)]) (ci := 7) F hl.1 hH hS hz (c_X7_firstOf l g gh T I R J AI AJ AR mo rr zrr hv hm hT (by omega)) (cwV 1 F.2.2.2.2.1 (good_up gT_X7_firstOf) rfl rfl rfl hdX7_firstOf ⟨Nat.le_of_ble_eq_true rfl, Nat.le_of_ble_eq_true rfl⟩) hm (by decide) rfl rfl rfl (Nat.le_of_ble_eq_true rfl) dX7_hangsOn_20 ⟨Nat.zero_le _, Nat.zero_le _⟩) hS (fun v_26 I_20 R_21 J_22 AI_23 AJ_24 AR_25 H locs zv_26 hp_27 hH hS => ?_)
    dsimp only at hp_27
    obtain ⟨rfl, rfl, rfl, rfl, rfl, rfl, qf2⟩ := hp_27
    refine g_calli (g_runV (As := [.int (iI v_26)]) (rest := [.int (iI v_19)]) (ci := 7) F hl.1 hH hS hz (c_X7_hangsOnh2 l g gh T I R J AI AJ AR mo v_26 zv_26 hv hm hT (by omega)) (cwV 1 F.2.2.2.2.1 (good_up gT_X7_hangsOn) rfl rfl rfl hdX7_hangsOn ⟨Nat.le_of_ble_eq_true rfl, Nat.le_of_ble_eq_true rfl⟩) hm (by decide) rfl rfl rfl (Nat.le_of_ble_eq_true rfl) dX7_hangsOn_23 ⟨Nat.zero_le _, Nat.zero_le _⟩) hS (fun v_34 I_28 R_29 J_30 AI_31 AJ_32 AR_33 H locs zv_34 hp_35 hH hS => ?_)
    dsimp only at hp_35
    obtain ⟨rfl, rfl, rfl, rfl, rfl, rfl, qh1⟩ := hp_35
    refine lv_ior F.1 F.2.1 dX7_hangsOn_26 ?_
    refine z_top (fun v_36 zv_36 ev_36 => ?_)
    have s1 : iI v_36 = kBt (kTf T rr.toNat) ||| kHs (kTk T) (kTf T) (kTs T) 2 (kTf T rr.toNat).toNat := by
      rw [ev_36, iI_self, ev_19, iI_self, qh1, qf1, qf2, eF]; rfl
    refine lv_istore_n (lv' := [(2, .int (iI v_36)), (0, .ref mo), (1, .int (iI rr))]) F.1 F.2.1 dX7_hangsOn_27 rfl hl (by decide) rfl (fun ls hl => ?_)
    refine lv_aload_n F.1 F.2.1 dX7_hangsOn_28 rfl (lv_at hl 1 rfl) ?_
    refine lv_iload_n F.1 F.2.1 dX7_hangsOn_29 rfl (lv_at hl 2 rfl) ?_
    refine g_calli (g_runV (As := [.int (iI rr)]) (rest := []) (ci := 7) F hl.1 hH hS hz (c_X7_secondOf l g gh T I R J AI AJ AR mo rr zrr hv hm hT (by omega)) (cwV 1 F.2.2.2.2.1 (good_up gT_X7_secondOf) rfl rfl rfl hdX7_secondOf ⟨Nat.le_of_ble_eq_true rfl, Nat.le_of_ble_eq_true rfl⟩) hm (by decide) rfl rfl rfl (Nat.le_of_ble_eq_true rfl) dX7_hangsOn_30 ⟨Nat.zero_le _, Nat.zero_le _⟩) hS (fun v_43 I_37 R_38 J_39 AI_40 AJ_41 AR_42 H locs zv_43 hp_44 hH hS => ?_)
    dsimp only at hp_44
    obtain ⟨rfl, rfl, rfl, rfl, rfl, rfl, qs1⟩ := hp_44
    refine z_if_ge (tgt := 40) F dX7_hangsOn_33 (by decide) zv_43 (fun c_45 => ?_) (fun c_45 => ?_)
    · refine lv_iload_n F.1 F.2.1 dX7_hangsOn_40 rfl (lv_at hl 0 rfl) ?_
      refine z_iconst F dX7_hangsOn_41 ?_
      refine lv_aload_n F.1 F.2.1 dX7_hangsOn_42 rfl (lv_at hl 1 rfl) ?_
      refine lv_iload_n F.1 F.2.1 dX7_hangsOn_43 rfl (lv_at hl 2 rfl) ?_
      refine g_calli (g_runV (As := [.int (iI rr)]) (rest := [.int (iI 1), .int (iI v_36)]) (ci := 7) F hl.1 hH hS hz (c_X7_secondOf l g gh T I R J AI AJ AR mo rr zrr hv hm hT (by omega)) (cwV 1 F.2.2.2.2.1 (good_up gT_X7_secondOf) rfl rfl rfl hdX7_secondOf ⟨Nat.le_of_ble_eq_true rfl, Nat.le_of_ble_eq_true rfl⟩) hm (by decide) rfl rfl rfl (Nat.le_of_ble_eq_true rfl) dX7_hangsOn_44 ⟨Nat.zero_le _, Nat.zero_le _⟩) hS (fun v_52 I_46 R_47 J_48 AI_49 AJ_50 AR_51 H locs zv_52 hp_53 hH hS => ?_)
      dsimp only at hp_53
      obtain ⟨rfl, rfl, rfl, rfl, rfl, rfl, qs2⟩ := hp_53
      refine lv_ishl F.1 F.2.1 dX7_hangsOn_47 ?_
      refine z_top (fun v_54 zv_54 ev_54 => ?_)
      refine lv_ior F.1 F.2.1 dX7_hangsOn_48 ?_
      refine z_top (fun v_55 zv_55 ev_55 => ?_)
      refine lv_aload_n F.1 F.2.1 dX7_hangsOn_49 rfl (lv_at hl 1 rfl) ?_
      refine lv_aload_n F.1 F.2.1 dX7_hangsOn_50 rfl (lv_at hl 1 rfl) ?_
      refine lv_iload_n F.1 F.2.1 dX7_hangsOn_51 rfl (lv_at hl 2 rfl) ?_
      refine g_calli (g_runV (As := [.int (iI rr)]) (rest := [.ref mo, .int (iI v_55)]) (ci := 7) F hl.1 hH hS hz (c_X7_secondOf l g gh T I R J AI AJ AR mo rr zrr hv hm hT (by omega)) (cwV 1 F.2.2.2.2.1 (good_up gT_X7_secondOf) rfl rfl rfl hdX7_secondOf ⟨Nat.le_of_ble_eq_true rfl, Nat.le_of_ble_eq_true rfl⟩) hm (by decide) rfl rfl rfl (Nat.le_of_ble_eq_true rfl) dX7_hangsOn_52 ⟨Nat.zero_le _, Nat.zero_le _⟩) hS (fun v_62 I_56 R_57 J_58 AI_59 AJ_60 AR_61 H locs zv_62 hp_63 hH hS => ?_)
      dsimp only at hp_63
      obtain ⟨rfl, rfl, rfl, rfl, rfl, rfl, qs3⟩ := hp_63
      refine g_calli (g_runV (As := [.int (iI v_62)]) (rest := [.int (iI v_55)]) (ci := 7) F hl.1 hH hS hz (c_X7_hangsOnh2 l g gh T I R J AI AJ AR mo v_62 zv_62 hv hm hT (by omega)) (cwV 1 F.2.2.2.2.1 (good_up gT_X7_hangsOn) rfl rfl rfl hdX7_hangsOn ⟨Nat.le_of_ble_eq_true rfl, Nat.le_of_ble_eq_true rfl⟩) hm (by decide) rfl rfl rfl (Nat.le_of_ble_eq_true rfl) dX7_hangsOn_55 ⟨Nat.zero_le _, Nat.zero_le _⟩) hS (fun v_70 I_64 R_65 J_66 AI_67 AJ_68 AR_69 H locs zv_70 hp_71 hH hS => ?_)
      dsimp only at hp_71
      obtain ⟨rfl, rfl, rfl, rfl, rfl, rfl, qh2⟩ := hp_71
      refine lv_ior F.1 F.2.1 dX7_hangsOn_58 ?_
      refine z_top (fun v_72 zv_72 ev_72 => ?_)
      have s2 : iI v_72 = ((kBt (kTf T rr.toNat) ||| kHs (kTk T) (kTf T) (kTs T) 2 (kTf T rr.toNat).toNat) ||| kBt (kTs T rr.toNat)) ||| kHs (kTk T) (kTf T) (kTs T) 2 (kTs T rr.toNat).toNat := by
        rw [ev_72, iI_self, ev_55, iI_self, s1, ev_54, iI_self, qh2, qs2, qs3, eS]; rfl
      exact g_iret F hr hlk hH hS hz zv_72 ⟨rfl, rfl, rfl, rfl, rfl, rfl, s2.trans (kHs_2 (d := 2) (by rw [eK]; omega) (by rw [eS]; omega)).symm⟩ dX7_hangsOn_59
    · refine lv_iload_n F.1 F.2.1 dX7_hangsOn_36 rfl (lv_at hl 0 rfl) ?_
      refine z_goto (tgt := 59) F dX7_hangsOn_37 (by decide) ?_
      exact g_iret F hr hlk hH hS hz zv_36 ⟨rfl, rfl, rfl, rfl, rfl, rfl, s1.trans (kHs_1 (d := 2) (by rw [eK]; omega) (by rw [eS]; omega)).symm⟩ dX7_hangsOn_59
  · refine z_iconst F dX7_hangsOn_8 ?_
    exact g_iret F hr hlk hH hS hz ⟨by decide, by decide⟩ ⟨rfl, rfl, rfl, rfl, rfl, rfl, (kHs_0 (d := 2) (by rw [eK]; omega)).symm⟩ dX7_hangsOn_9

def rmX7_hangsOnh4 : Room := { frames := 4, cells := 0, slots := 0, locals := 87 }
set_option maxHeartbeats 4000000 in
set_option maxRecDepth 100000 in
/-- hangsOn -/
theorem c_X7_hangsOnh4 (l : Launch) (g : gG) (gh : gGh) (T : Nat → Int32) (I : gI) (R : gR) (J : gJ) (AI : gI) (AJ : gJ) (AR : gR) (mo : Nat) (rr : Int) (zrr : zr rr) (hv : mInv g gh R I AI) (hm : gO g mo 7) (hT : AI (gh 50 0) = T) (hr0 : 0 ≤ rr ∧ rr < (I mo 2).toInt ∧ rr < 4) : gMet l g yX7_hangsOn tsX7_hangsOn rmX7_hangsOnh4 [.ref mo, .int (iI rr)] (I, R, J, AI, AJ, AR) (gQi g (fun (z : Int) (w : gS) => I = w.1 ∧ R = w.2.1 ∧ J = w.2.2.1 ∧ AI = w.2.2.2.1 ∧ AJ = w.2.2.2.2.1 ∧ AR = w.2.2.2.2.2 ∧ (iI z = kHs (kTk T) (kTf T) (kTs T) 4 rr.toNat))) := by
  refine gStart (cc := cX7_hangsOn) (maxL := 3) (ret := (some (.int))) (by decide) rfl (Nat.le_of_ble_eq_true rfl) ?_
  intro p e s m below meth c ls F hr hlk hH hz hS hl
  have hl : lv_has ls 3 [(0, .ref mo), (1, .int (iI rr))] := hl
  have hS : va_S (gA g) s.heap s.heap [] := hS
  obtain ⟨H, hHe⟩ : ∃ H : Heap, H = s.heap := ⟨_, rfl⟩
  obtain ⟨locs, hlo⟩ : ∃ k : List Loc, k = [] := ⟨_, rfl⟩
  have hH : gH g I R J AI AJ AR H := by rw [hHe]; exact hH
  have hS : va_S (gA g) s.heap H locs := by rw [hHe, hlo]; exact hS
  suffices hw : W p l e rmX7_hangsOnh4 s m ([.ref mo, .int (iI rr)] : List Value).toArray below meth c H locs 0 0 (MQ below (gQi g (fun (z : Int) (w : gS) => I = w.1 ∧ R = w.2.1 ∧ J = w.2.2.1 ∧ AI = w.2.2.2.1 ∧ AJ = w.2.2.2.2.1 ∧ AR = w.2.2.2.2.2 ∧ (iI z = kHs (kTk T) (kTf T) (kTs T) 4 rr.toNat))) ([.ref mo, .int (iI rr)] : List Value).toArray s 0 0 (gA g)) (F0 m 0 ls []) by
    rw [hHe, hlo] at hw; exact hw
  clear hHe hlo
  have hb0 := mJ hv hm
  unfold mNum1 at hb0
  have x := mRow hv hm hT (z := rr) (by omega) (by omega)
  have xa := x.1
  have xc := x.2.2.1
  have xb := x.2.1
  have ern : ((rr.toNat : Nat) : Int) = rr := Int.toNat_of_nonneg hr0.1
  have eK : kTk T rr.toNat = tI T (40 * rr) := by unfold kTk; rw [ern]
  have eF : kTf T rr.toNat = tI T (40 * rr + 2) := by unfold kTf; rw [ern]
  have eS : kTs T rr.toNat = tI T (40 * rr + 3) := by unfold kTs; rw [ern]
  refine lv_aload_n F.1 F.2.1 dX7_hangsOn_0 rfl (lv_at hl 0 rfl) ?_
  refine lv_iload_n F.1 F.2.1 dX7_hangsOn_1 rfl (lv_at hl 1 rfl) ?_
  have b_1 := mJ hv hm
  unfold mNum1 at b_1
  refine g_calli (g_runV (As := [.int (iI rr)]) (rest := []) (ci := 7) F hl.1 hH hS hz (c_X7_kindOf l g gh T I R J AI AJ AR mo rr zrr hv hm hT (by omega)) (cwV 1 F.2.2.2.2.1 (good_up gT_X7_kindOf) rfl rfl rfl hdX7_kindOf ⟨Nat.le_of_ble_eq_true rfl, Nat.le_of_ble_eq_true rfl⟩) hm (by decide) rfl rfl rfl (Nat.le_of_ble_eq_true rfl) dX7_hangsOn_2 ⟨Nat.zero_le _, Nat.zero_le _⟩) hS (fun v_8 I_2 R_3 J_4 AI_5 AJ_6 AR_7 H locs zv_8 hp_9 hH hS => ?_)
  dsimp only at hp_9
  obtain ⟨rfl, rfl, rfl, rfl, rfl, rfl, qk⟩ := hp_9
  refine z_if_ne (tgt := 10) F dX7_hangsOn_5 (by decide) zv_8 (fun c_10 => ?_) (fun c_10 => ?_)
  · refine z_iconst F dX7_hangsOn_10 ?_
    refine lv_aload_n F.1 F.2.1 dX7_hangsOn_11 rfl (lv_at hl 0 rfl) ?_
    refine lv_iload_n F.1 F.2.1 dX7_hangsOn_12 rfl (lv_at hl 1 rfl) ?_
    refine g_calli (g_runV (As := [.int (iI rr)]) (rest := [.int (iI 1)]) (ci := 7) F hl.1 hH hS hz (c_X7_firstOf l g gh T I R J AI AJ AR mo rr zrr hv hm hT (by omega)) (cwV 1 F.2.2.2.2.1 (good_up gT_X7_firstOf) rfl rfl rfl hdX7_firstOf ⟨Nat.le_of_ble_eq_true rfl, Nat.le_of_ble_eq_true rfl⟩) hm (by decide) rfl rfl rfl (Nat.le_of_ble_eq_true rfl) dX7_hangsOn_13 ⟨Nat.zero_le _, Nat.zero_le _⟩) hS (fun v_17 I_11 R_12 J_13 AI_14 AJ_15 AR_16 H locs zv_17 hp_18 hH hS => ?_)
    dsimp only at hp_18
    obtain ⟨rfl, rfl, rfl, rfl, rfl, rfl, qf1⟩ := hp_18
    refine lv_ishl F.1 F.2.1 dX7_hangsOn_16 ?_
    refine z_top (fun v_19 zv_19 ev_19 => ?_)
    refine lv_aload_n F.1 F.2.1 dX7_hangsOn_17 rfl (lv_at hl 0 rfl) ?_
    refine lv_aload_n F.1 F.2.1 dX7_hangsOn_18 rfl (lv_at hl 0 rfl) ?_
    refine lv_iload_n F.1 F.2.1 dX7_hangsOn_19 rfl (lv_at hl 1 rfl) ?_
    refine g_calli (g_runV (As := [.int (iI rr)]) (rest := [.ref mo, .int (iI v_19)]) (ci := 7) F hl.1 hH hS hz (c_X7_firstOf l g gh T I R J AI AJ AR mo rr zrr hv hm hT (by omega)) (cwV 1 F.2.2.2.2.1 (good_up gT_X7_firstOf) rfl rfl rfl hdX7_firstOf ⟨Nat.le_of_ble_eq_true rfl, Nat.le_of_ble_eq_true rfl⟩) hm (by decide) rfl rfl rfl (Nat.le_of_ble_eq_true rfl) dX7_hangsOn_20 ⟨Nat.zero_le _, Nat.zero_le _⟩) hS (fun v_26 I_20 R_21 J_22 AI_23 AJ_24 AR_25 H locs zv_26 hp_27 hH hS => ?_)
    dsimp only at hp_27
    obtain ⟨rfl, rfl, rfl, rfl, rfl, rfl, qf2⟩ := hp_27
    refine g_calli (g_runV (As := [.int (iI v_26)]) (rest := [.int (iI v_19)]) (ci := 7) F hl.1 hH hS hz (c_X7_hangsOnh3 l g gh T I R J AI AJ AR mo v_26 zv_26 hv hm hT (by omega)) (cwV 1 F.2.2.2.2.1 (good_up gT_X7_hangsOn) rfl rfl rfl hdX7_hangsOn ⟨Nat.le_of_ble_eq_true rfl, Nat.le_of_ble_eq_true rfl⟩) hm (by decide) rfl rfl rfl (Nat.le_of_ble_eq_true rfl) dX7_hangsOn_23 ⟨Nat.zero_le _, Nat.zero_le _⟩) hS (fun v_34 I_28 R_29 J_30 AI_31 AJ_32 AR_33 H locs zv_34 hp_35 hH hS => ?_)
    dsimp only at hp_35
    obtain ⟨rfl, rfl, rfl, rfl, rfl, rfl, qh1⟩ := hp_35
    refine lv_ior F.1 F.2.1 dX7_hangsOn_26 ?_
    refine z_top (fun v_36 zv_36 ev_36 => ?_)
    have s1 : iI v_36 = kBt (kTf T rr.toNat) ||| kHs (kTk T) (kTf T) (kTs T) 3 (kTf T rr.toNat).toNat := by
      rw [ev_36, iI_self, ev_19, iI_self, qh1, qf1, qf2, eF]; rfl
    refine lv_istore_n (lv' := [(2, .int (iI v_36)), (0, .ref mo), (1, .int (iI rr))]) F.1 F.2.1 dX7_hangsOn_27 rfl hl (by decide) rfl (fun ls hl => ?_)
    refine lv_aload_n F.1 F.2.1 dX7_hangsOn_28 rfl (lv_at hl 1 rfl) ?_
    refine lv_iload_n F.1 F.2.1 dX7_hangsOn_29 rfl (lv_at hl 2 rfl) ?_
    refine g_calli (g_runV (As := [.int (iI rr)]) (rest := []) (ci := 7) F hl.1 hH hS hz (c_X7_secondOf l g gh T I R J AI AJ AR mo rr zrr hv hm hT (by omega)) (cwV 1 F.2.2.2.2.1 (good_up gT_X7_secondOf) rfl rfl rfl hdX7_secondOf ⟨Nat.le_of_ble_eq_true rfl, Nat.le_of_ble_eq_true rfl⟩) hm (by decide) rfl rfl rfl (Nat.le_of_ble_eq_true rfl) dX7_hangsOn_30 ⟨Nat.zero_le _, Nat.zero_le _⟩) hS (fun v_43 I_37 R_38 J_39 AI_40 AJ_41 AR_42 H locs zv_43 hp_44 hH hS => ?_)
    dsimp only at hp_44
    obtain ⟨rfl, rfl, rfl, rfl, rfl, rfl, qs1⟩ := hp_44
    refine z_if_ge (tgt := 40) F dX7_hangsOn_33 (by decide) zv_43 (fun c_45 => ?_) (fun c_45 => ?_)
    · refine lv_iload_n F.1 F.2.1 dX7_hangsOn_40 rfl (lv_at hl 0 rfl) ?_
      refine z_iconst F dX7_hangsOn_41 ?_
      refine lv_aload_n F.1 F.2.1 dX7_hangsOn_42 rfl (lv_at hl 1 rfl) ?_
      refine lv_iload_n F.1 F.2.1 dX7_hangsOn_43 rfl (lv_at hl 2 rfl) ?_
      refine g_calli (g_runV (As := [.int (iI rr)]) (rest := [.int (iI 1), .int (iI v_36)]) (ci := 7) F hl.1 hH hS hz (c_X7_secondOf l g gh T I R J AI AJ AR mo rr zrr hv hm hT (by omega)) (cwV 1 F.2.2.2.2.1 (good_up gT_X7_secondOf) rfl rfl rfl hdX7_secondOf ⟨Nat.le_of_ble_eq_true rfl, Nat.le_of_ble_eq_true rfl⟩) hm (by decide) rfl rfl rfl (Nat.le_of_ble_eq_true rfl) dX7_hangsOn_44 ⟨Nat.zero_le _, Nat.zero_le _⟩) hS (fun v_52 I_46 R_47 J_48 AI_49 AJ_50 AR_51 H locs zv_52 hp_53 hH hS => ?_)
      dsimp only at hp_53
      obtain ⟨rfl, rfl, rfl, rfl, rfl, rfl, qs2⟩ := hp_53
      refine lv_ishl F.1 F.2.1 dX7_hangsOn_47 ?_
      refine z_top (fun v_54 zv_54 ev_54 => ?_)
      refine lv_ior F.1 F.2.1 dX7_hangsOn_48 ?_
      refine z_top (fun v_55 zv_55 ev_55 => ?_)
      refine lv_aload_n F.1 F.2.1 dX7_hangsOn_49 rfl (lv_at hl 1 rfl) ?_
      refine lv_aload_n F.1 F.2.1 dX7_hangsOn_50 rfl (lv_at hl 1 rfl) ?_
      refine lv_iload_n F.1 F.2.1 dX7_hangsOn_51 rfl (lv_at hl 2 rfl) ?_
      refine g_calli (g_runV (As := [.int (iI rr)]) (rest := [.ref mo, .int (iI v_55)]) (ci := 7) F hl.1 hH hS hz (c_X7_secondOf l g gh T I R J AI AJ AR mo rr zrr hv hm hT (by omega)) (cwV 1 F.2.2.2.2.1 (good_up gT_X7_secondOf) rfl rfl rfl hdX7_secondOf ⟨Nat.le_of_ble_eq_true rfl, Nat.le_of_ble_eq_true rfl⟩) hm (by decide) rfl rfl rfl (Nat.le_of_ble_eq_true rfl) dX7_hangsOn_52 ⟨Nat.zero_le _, Nat.zero_le _⟩) hS (fun v_62 I_56 R_57 J_58 AI_59 AJ_60 AR_61 H locs zv_62 hp_63 hH hS => ?_)
      dsimp only at hp_63
      obtain ⟨rfl, rfl, rfl, rfl, rfl, rfl, qs3⟩ := hp_63
      refine g_calli (g_runV (As := [.int (iI v_62)]) (rest := [.int (iI v_55)]) (ci := 7) F hl.1 hH hS hz (c_X7_hangsOnh3 l g gh T I R J AI AJ AR mo v_62 zv_62 hv hm hT (by omega)) (cwV 1 F.2.2.2.2.1 (good_up gT_X7_hangsOn) rfl rfl rfl hdX7_hangsOn ⟨Nat.le_of_ble_eq_true rfl, Nat.le_of_ble_eq_true rfl⟩) hm (by decide) rfl rfl rfl (Nat.le_of_ble_eq_true rfl) dX7_hangsOn_55 ⟨Nat.zero_le _, Nat.zero_le _⟩) hS (fun v_70 I_64 R_65 J_66 AI_67 AJ_68 AR_69 H locs zv_70 hp_71 hH hS => ?_)
      dsimp only at hp_71
      obtain ⟨rfl, rfl, rfl, rfl, rfl, rfl, qh2⟩ := hp_71
      refine lv_ior F.1 F.2.1 dX7_hangsOn_58 ?_
      refine z_top (fun v_72 zv_72 ev_72 => ?_)
      have s2 : iI v_72 = ((kBt (kTf T rr.toNat) ||| kHs (kTk T) (kTf T) (kTs T) 3 (kTf T rr.toNat).toNat) ||| kBt (kTs T rr.toNat)) ||| kHs (kTk T) (kTf T) (kTs T) 3 (kTs T rr.toNat).toNat := by
        rw [ev_72, iI_self, ev_55, iI_self, s1, ev_54, iI_self, qh2, qs2, qs3, eS]; rfl
      exact g_iret F hr hlk hH hS hz zv_72 ⟨rfl, rfl, rfl, rfl, rfl, rfl, s2.trans (kHs_2 (d := 3) (by rw [eK]; omega) (by rw [eS]; omega)).symm⟩ dX7_hangsOn_59
    · refine lv_iload_n F.1 F.2.1 dX7_hangsOn_36 rfl (lv_at hl 0 rfl) ?_
      refine z_goto (tgt := 59) F dX7_hangsOn_37 (by decide) ?_
      exact g_iret F hr hlk hH hS hz zv_36 ⟨rfl, rfl, rfl, rfl, rfl, rfl, s1.trans (kHs_1 (d := 3) (by rw [eK]; omega) (by rw [eS]; omega)).symm⟩ dX7_hangsOn_59
  · refine z_iconst F dX7_hangsOn_8 ?_
    exact g_iret F hr hlk hH hS hz ⟨by decide, by decide⟩ ⟨rfl, rfl, rfl, rfl, rfl, rfl, (kHs_0 (d := 3) (by rw [eK]; omega)).symm⟩ dX7_hangsOn_9

def rmX7_hangsOnh5 : Room := { frames := 5, cells := 0, slots := 0, locals := 109 }
set_option maxHeartbeats 4000000 in
set_option maxRecDepth 100000 in
/-- hangsOn -/
theorem c_X7_hangsOnh5 (l : Launch) (g : gG) (gh : gGh) (T : Nat → Int32) (I : gI) (R : gR) (J : gJ) (AI : gI) (AJ : gJ) (AR : gR) (mo : Nat) (rr : Int) (zrr : zr rr) (hv : mInv g gh R I AI) (hm : gO g mo 7) (hT : AI (gh 50 0) = T) (hr0 : 0 ≤ rr ∧ rr < (I mo 2).toInt ∧ rr < 5) : gMet l g yX7_hangsOn tsX7_hangsOn rmX7_hangsOnh5 [.ref mo, .int (iI rr)] (I, R, J, AI, AJ, AR) (gQi g (fun (z : Int) (w : gS) => I = w.1 ∧ R = w.2.1 ∧ J = w.2.2.1 ∧ AI = w.2.2.2.1 ∧ AJ = w.2.2.2.2.1 ∧ AR = w.2.2.2.2.2 ∧ (iI z = kHs (kTk T) (kTf T) (kTs T) 5 rr.toNat))) := by
  refine gStart (cc := cX7_hangsOn) (maxL := 3) (ret := (some (.int))) (by decide) rfl (Nat.le_of_ble_eq_true rfl) ?_
  intro p e s m below meth c ls F hr hlk hH hz hS hl
  have hl : lv_has ls 3 [(0, .ref mo), (1, .int (iI rr))] := hl
  have hS : va_S (gA g) s.heap s.heap [] := hS
  obtain ⟨H, hHe⟩ : ∃ H : Heap, H = s.heap := ⟨_, rfl⟩
  obtain ⟨locs, hlo⟩ : ∃ k : List Loc, k = [] := ⟨_, rfl⟩
  have hH : gH g I R J AI AJ AR H := by rw [hHe]; exact hH
  have hS : va_S (gA g) s.heap H locs := by rw [hHe, hlo]; exact hS
  suffices hw : W p l e rmX7_hangsOnh5 s m ([.ref mo, .int (iI rr)] : List Value).toArray below meth c H locs 0 0 (MQ below (gQi g (fun (z : Int) (w : gS) => I = w.1 ∧ R = w.2.1 ∧ J = w.2.2.1 ∧ AI = w.2.2.2.1 ∧ AJ = w.2.2.2.2.1 ∧ AR = w.2.2.2.2.2 ∧ (iI z = kHs (kTk T) (kTf T) (kTs T) 5 rr.toNat))) ([.ref mo, .int (iI rr)] : List Value).toArray s 0 0 (gA g)) (F0 m 0 ls []) by
    rw [hHe, hlo] at hw; exact hw
  clear hHe hlo
  have hb0 := mJ hv hm
  unfold mNum1 at hb0
  have x := mRow hv hm hT (z := rr) (by omega) (by omega)
  have xa := x.1
  have xc := x.2.2.1
  have xb := x.2.1
  have ern : ((rr.toNat : Nat) : Int) = rr := Int.toNat_of_nonneg hr0.1
  have eK : kTk T rr.toNat = tI T (40 * rr) := by unfold kTk; rw [ern]
  have eF : kTf T rr.toNat = tI T (40 * rr + 2) := by unfold kTf; rw [ern]
  have eS : kTs T rr.toNat = tI T (40 * rr + 3) := by unfold kTs; rw [ern]
  refine lv_aload_n F.1 F.2.1 dX7_hangsOn_0 rfl (lv_at hl 0 rfl) ?_
  refine lv_iload_n F.1 F.2.1 dX7_hangsOn_1 rfl (lv_at hl 1 rfl) ?_
  have b_1 := mJ hv hm
  unfold mNum1 at b_1
  refine g_calli (g_runV (As := [.int (iI rr)]) (rest := []) (ci := 7) F hl.1 hH hS hz (c_X7_kindOf l g gh T I R J AI AJ AR mo rr zrr hv hm hT (by omega)) (cwV 1 F.2.2.2.2.1 (good_up gT_X7_kindOf) rfl rfl rfl hdX7_kindOf ⟨Nat.le_of_ble_eq_true rfl, Nat.le_of_ble_eq_true rfl⟩) hm (by decide) rfl rfl rfl (Nat.le_of_ble_eq_true rfl) dX7_hangsOn_2 ⟨Nat.zero_le _, Nat.zero_le _⟩) hS (fun v_8 I_2 R_3 J_4 AI_5 AJ_6 AR_7 H locs zv_8 hp_9 hH hS => ?_)
  dsimp only at hp_9
  obtain ⟨rfl, rfl, rfl, rfl, rfl, rfl, qk⟩ := hp_9
  refine z_if_ne (tgt := 10) F dX7_hangsOn_5 (by decide) zv_8 (fun c_10 => ?_) (fun c_10 => ?_)
  · refine z_iconst F dX7_hangsOn_10 ?_
    refine lv_aload_n F.1 F.2.1 dX7_hangsOn_11 rfl (lv_at hl 0 rfl) ?_
    refine lv_iload_n F.1 F.2.1 dX7_hangsOn_12 rfl (lv_at hl 1 rfl) ?_
    refine g_calli (g_runV (As := [.int (iI rr)]) (rest := [.int (iI 1)]) (ci := 7) F hl.1 hH hS hz (c_X7_firstOf l g gh T I R J AI AJ AR mo rr zrr hv hm hT (by omega)) (cwV 1 F.2.2.2.2.1 (good_up gT_X7_firstOf) rfl rfl rfl hdX7_firstOf ⟨Nat.le_of_ble_eq_true rfl, Nat.le_of_ble_eq_true rfl⟩) hm (by decide) rfl rfl rfl (Nat.le_of_ble_eq_true rfl) dX7_hangsOn_13 ⟨Nat.zero_le _, Nat.zero_le _⟩) hS (fun v_17 I_11 R_12 J_13 AI_14 AJ_15 AR_16 H locs zv_17 hp_18 hH hS => ?_)
    dsimp only at hp_18
    obtain ⟨rfl, rfl, rfl, rfl, rfl, rfl, qf1⟩ := hp_18
    refine lv_ishl F.1 F.2.1 dX7_hangsOn_16 ?_
    refine z_top (fun v_19 zv_19 ev_19 => ?_)
    refine lv_aload_n F.1 F.2.1 dX7_hangsOn_17 rfl (lv_at hl 0 rfl) ?_
    refine lv_aload_n F.1 F.2.1 dX7_hangsOn_18 rfl (lv_at hl 0 rfl) ?_
    refine lv_iload_n F.1 F.2.1 dX7_hangsOn_19 rfl (lv_at hl 1 rfl) ?_
    refine g_calli (g_runV (As := [.int (iI rr)]) (rest := [.ref mo, .int (iI v_19)]) (ci := 7) F hl.1 hH hS hz (c_X7_firstOf l g gh T I R J AI AJ AR mo rr zrr hv hm hT (by omega)) (cwV 1 F.2.2.2.2.1 (good_up gT_X7_firstOf) rfl rfl rfl hdX7_firstOf ⟨Nat.le_of_ble_eq_true rfl, Nat.le_of_ble_eq_true rfl⟩) hm (by decide) rfl rfl rfl (Nat.le_of_ble_eq_true rfl) dX7_hangsOn_20 ⟨Nat.zero_le _, Nat.zero_le _⟩) hS (fun v_26 I_20 R_21 J_22 AI_23 AJ_24 AR_25 H locs zv_26 hp_27 hH hS => ?_)
    dsimp only at hp_27
    obtain ⟨rfl, rfl, rfl, rfl, rfl, rfl, qf2⟩ := hp_27
    refine g_calli (g_runV (As := [.int (iI v_26)]) (rest := [.int (iI v_19)]) (ci := 7) F hl.1 hH hS hz (c_X7_hangsOnh4 l g gh T I R J AI AJ AR mo v_26 zv_26 hv hm hT (by omega)) (cwV 1 F.2.2.2.2.1 (good_up gT_X7_hangsOn) rfl rfl rfl hdX7_hangsOn ⟨Nat.le_of_ble_eq_true rfl, Nat.le_of_ble_eq_true rfl⟩) hm (by decide) rfl rfl rfl (Nat.le_of_ble_eq_true rfl) dX7_hangsOn_23 ⟨Nat.zero_le _, Nat.zero_le _⟩) hS (fun v_34 I_28 R_29 J_30 AI_31 AJ_32 AR_33 H locs zv_34 hp_35 hH hS => ?_)
    dsimp only at hp_35
    obtain ⟨rfl, rfl, rfl, rfl, rfl, rfl, qh1⟩ := hp_35
    refine lv_ior F.1 F.2.1 dX7_hangsOn_26 ?_
    refine z_top (fun v_36 zv_36 ev_36 => ?_)
    have s1 : iI v_36 = kBt (kTf T rr.toNat) ||| kHs (kTk T) (kTf T) (kTs T) 4 (kTf T rr.toNat).toNat := by
      rw [ev_36, iI_self, ev_19, iI_self, qh1, qf1, qf2, eF]; rfl
    refine lv_istore_n (lv' := [(2, .int (iI v_36)), (0, .ref mo), (1, .int (iI rr))]) F.1 F.2.1 dX7_hangsOn_27 rfl hl (by decide) rfl (fun ls hl => ?_)
    refine lv_aload_n F.1 F.2.1 dX7_hangsOn_28 rfl (lv_at hl 1 rfl) ?_
    refine lv_iload_n F.1 F.2.1 dX7_hangsOn_29 rfl (lv_at hl 2 rfl) ?_
    refine g_calli (g_runV (As := [.int (iI rr)]) (rest := []) (ci := 7) F hl.1 hH hS hz (c_X7_secondOf l g gh T I R J AI AJ AR mo rr zrr hv hm hT (by omega)) (cwV 1 F.2.2.2.2.1 (good_up gT_X7_secondOf) rfl rfl rfl hdX7_secondOf ⟨Nat.le_of_ble_eq_true rfl, Nat.le_of_ble_eq_true rfl⟩) hm (by decide) rfl rfl rfl (Nat.le_of_ble_eq_true rfl) dX7_hangsOn_30 ⟨Nat.zero_le _, Nat.zero_le _⟩) hS (fun v_43 I_37 R_38 J_39 AI_40 AJ_41 AR_42 H locs zv_43 hp_44 hH hS => ?_)
    dsimp only at hp_44
    obtain ⟨rfl, rfl, rfl, rfl, rfl, rfl, qs1⟩ := hp_44
    refine z_if_ge (tgt := 40) F dX7_hangsOn_33 (by decide) zv_43 (fun c_45 => ?_) (fun c_45 => ?_)
    · refine lv_iload_n F.1 F.2.1 dX7_hangsOn_40 rfl (lv_at hl 0 rfl) ?_
      refine z_iconst F dX7_hangsOn_41 ?_
      refine lv_aload_n F.1 F.2.1 dX7_hangsOn_42 rfl (lv_at hl 1 rfl) ?_
      refine lv_iload_n F.1 F.2.1 dX7_hangsOn_43 rfl (lv_at hl 2 rfl) ?_
      refine g_calli (g_runV (As := [.int (iI rr)]) (rest := [.int (iI 1), .int (iI v_36)]) (ci := 7) F hl.1 hH hS hz (c_X7_secondOf l g gh T I R J AI AJ AR mo rr zrr hv hm hT (by omega)) (cwV 1 F.2.2.2.2.1 (good_up gT_X7_secondOf) rfl rfl rfl hdX7_secondOf ⟨Nat.le_of_ble_eq_true rfl, Nat.le_of_ble_eq_true rfl⟩) hm (by decide) rfl rfl rfl (Nat.le_of_ble_eq_true rfl) dX7_hangsOn_44 ⟨Nat.zero_le _, Nat.zero_le _⟩) hS (fun v_52 I_46 R_47 J_48 AI_49 AJ_50 AR_51 H locs zv_52 hp_53 hH hS => ?_)
      dsimp only at hp_53
      obtain ⟨rfl, rfl, rfl, rfl, rfl, rfl, qs2⟩ := hp_53
      refine lv_ishl F.1 F.2.1 dX7_hangsOn_47 ?_
      refine z_top (fun v_54 zv_54 ev_54 => ?_)
      refine lv_ior F.1 F.2.1 dX7_hangsOn_48 ?_
      refine z_top (fun v_55 zv_55 ev_55 => ?_)
      refine lv_aload_n F.1 F.2.1 dX7_hangsOn_49 rfl (lv_at hl 1 rfl) ?_
      refine lv_aload_n F.1 F.2.1 dX7_hangsOn_50 rfl (lv_at hl 1 rfl) ?_
      refine lv_iload_n F.1 F.2.1 dX7_hangsOn_51 rfl (lv_at hl 2 rfl) ?_
      refine g_calli (g_runV (As := [.int (iI rr)]) (rest := [.ref mo, .int (iI v_55)]) (ci := 7) F hl.1 hH hS hz (c_X7_secondOf l g gh T I R J AI AJ AR mo rr zrr hv hm hT (by omega)) (cwV 1 F.2.2.2.2.1 (good_up gT_X7_secondOf) rfl rfl rfl hdX7_secondOf ⟨Nat.le_of_ble_eq_true rfl, Nat.le_of_ble_eq_true rfl⟩) hm (by decide) rfl rfl rfl (Nat.le_of_ble_eq_true rfl) dX7_hangsOn_52 ⟨Nat.zero_le _, Nat.zero_le _⟩) hS (fun v_62 I_56 R_57 J_58 AI_59 AJ_60 AR_61 H locs zv_62 hp_63 hH hS => ?_)
      dsimp only at hp_63
      obtain ⟨rfl, rfl, rfl, rfl, rfl, rfl, qs3⟩ := hp_63
      refine g_calli (g_runV (As := [.int (iI v_62)]) (rest := [.int (iI v_55)]) (ci := 7) F hl.1 hH hS hz (c_X7_hangsOnh4 l g gh T I R J AI AJ AR mo v_62 zv_62 hv hm hT (by omega)) (cwV 1 F.2.2.2.2.1 (good_up gT_X7_hangsOn) rfl rfl rfl hdX7_hangsOn ⟨Nat.le_of_ble_eq_true rfl, Nat.le_of_ble_eq_true rfl⟩) hm (by decide) rfl rfl rfl (Nat.le_of_ble_eq_true rfl) dX7_hangsOn_55 ⟨Nat.zero_le _, Nat.zero_le _⟩) hS (fun v_70 I_64 R_65 J_66 AI_67 AJ_68 AR_69 H locs zv_70 hp_71 hH hS => ?_)
      dsimp only at hp_71
      obtain ⟨rfl, rfl, rfl, rfl, rfl, rfl, qh2⟩ := hp_71
      refine lv_ior F.1 F.2.1 dX7_hangsOn_58 ?_
      refine z_top (fun v_72 zv_72 ev_72 => ?_)
      have s2 : iI v_72 = ((kBt (kTf T rr.toNat) ||| kHs (kTk T) (kTf T) (kTs T) 4 (kTf T rr.toNat).toNat) ||| kBt (kTs T rr.toNat)) ||| kHs (kTk T) (kTf T) (kTs T) 4 (kTs T rr.toNat).toNat := by
        rw [ev_72, iI_self, ev_55, iI_self, s1, ev_54, iI_self, qh2, qs2, qs3, eS]; rfl
      exact g_iret F hr hlk hH hS hz zv_72 ⟨rfl, rfl, rfl, rfl, rfl, rfl, s2.trans (kHs_2 (d := 4) (by rw [eK]; omega) (by rw [eS]; omega)).symm⟩ dX7_hangsOn_59
    · refine lv_iload_n F.1 F.2.1 dX7_hangsOn_36 rfl (lv_at hl 0 rfl) ?_
      refine z_goto (tgt := 59) F dX7_hangsOn_37 (by decide) ?_
      exact g_iret F hr hlk hH hS hz zv_36 ⟨rfl, rfl, rfl, rfl, rfl, rfl, s1.trans (kHs_1 (d := 4) (by rw [eK]; omega) (by rw [eS]; omega)).symm⟩ dX7_hangsOn_59
  · refine z_iconst F dX7_hangsOn_8 ?_
    exact g_iret F hr hlk hH hS hz ⟨by decide, by decide⟩ ⟨rfl, rfl, rfl, rfl, rfl, rfl, (kHs_0 (d := 4) (by rw [eK]; omega)).symm⟩ dX7_hangsOn_9

def rmX7_hangsOnh6 : Room := { frames := 6, cells := 0, slots := 0, locals := 131 }
set_option maxHeartbeats 4000000 in
set_option maxRecDepth 100000 in
/-- hangsOn -/
theorem c_X7_hangsOnh6 (l : Launch) (g : gG) (gh : gGh) (T : Nat → Int32) (I : gI) (R : gR) (J : gJ) (AI : gI) (AJ : gJ) (AR : gR) (mo : Nat) (rr : Int) (zrr : zr rr) (hv : mInv g gh R I AI) (hm : gO g mo 7) (hT : AI (gh 50 0) = T) (hr0 : 0 ≤ rr ∧ rr < (I mo 2).toInt ∧ rr < 6) : gMet l g yX7_hangsOn tsX7_hangsOn rmX7_hangsOnh6 [.ref mo, .int (iI rr)] (I, R, J, AI, AJ, AR) (gQi g (fun (z : Int) (w : gS) => I = w.1 ∧ R = w.2.1 ∧ J = w.2.2.1 ∧ AI = w.2.2.2.1 ∧ AJ = w.2.2.2.2.1 ∧ AR = w.2.2.2.2.2 ∧ (iI z = kHs (kTk T) (kTf T) (kTs T) 6 rr.toNat))) := by
  refine gStart (cc := cX7_hangsOn) (maxL := 3) (ret := (some (.int))) (by decide) rfl (Nat.le_of_ble_eq_true rfl) ?_
  intro p e s m below meth c ls F hr hlk hH hz hS hl
  have hl : lv_has ls 3 [(0, .ref mo), (1, .int (iI rr))] := hl
  have hS : va_S (gA g) s.heap s.heap [] := hS
  obtain ⟨H, hHe⟩ : ∃ H : Heap, H = s.heap := ⟨_, rfl⟩
  obtain ⟨locs, hlo⟩ : ∃ k : List Loc, k = [] := ⟨_, rfl⟩
  have hH : gH g I R J AI AJ AR H := by rw [hHe]; exact hH
  have hS : va_S (gA g) s.heap H locs := by rw [hHe, hlo]; exact hS
  suffices hw : W p l e rmX7_hangsOnh6 s m ([.ref mo, .int (iI rr)] : List Value).toArray below meth c H locs 0 0 (MQ below (gQi g (fun (z : Int) (w : gS) => I = w.1 ∧ R = w.2.1 ∧ J = w.2.2.1 ∧ AI = w.2.2.2.1 ∧ AJ = w.2.2.2.2.1 ∧ AR = w.2.2.2.2.2 ∧ (iI z = kHs (kTk T) (kTf T) (kTs T) 6 rr.toNat))) ([.ref mo, .int (iI rr)] : List Value).toArray s 0 0 (gA g)) (F0 m 0 ls []) by
    rw [hHe, hlo] at hw; exact hw
  clear hHe hlo
  have hb0 := mJ hv hm
  unfold mNum1 at hb0
  have x := mRow hv hm hT (z := rr) (by omega) (by omega)
  have xa := x.1
  have xc := x.2.2.1
  have xb := x.2.1
  have ern : ((rr.toNat : Nat) : Int) = rr := Int.toNat_of_nonneg hr0.1
  have eK : kTk T rr.toNat = tI T (40 * rr) := by unfold kTk; rw [ern]
  have eF : kTf T rr.toNat = tI T (40 * rr + 2) := by unfold kTf; rw [ern]
  have eS : kTs T rr.toNat = tI T (40 * rr + 3) := by unfold kTs; rw [ern]
  refine lv_aload_n F.1 F.2.1 dX7_hangsOn_0 rfl (lv_at hl 0 rfl) ?_
  refine lv_iload_n F.1 F.2.1 dX7_hangsOn_1 rfl (lv_at hl 1 rfl) ?_
  have b_1 := mJ hv hm
  unfold mNum1 at b_1
  refine g_calli (g_runV (As := [.int (iI rr)]) (rest := []) (ci := 7) F hl.1 hH hS hz (c_X7_kindOf l g gh T I R J AI AJ AR mo rr zrr hv hm hT (by omega)) (cwV 1 F.2.2.2.2.1 (good_up gT_X7_kindOf) rfl rfl rfl hdX7_kindOf ⟨Nat.le_of_ble_eq_true rfl, Nat.le_of_ble_eq_true rfl⟩) hm (by decide) rfl rfl rfl (Nat.le_of_ble_eq_true rfl) dX7_hangsOn_2 ⟨Nat.zero_le _, Nat.zero_le _⟩) hS (fun v_8 I_2 R_3 J_4 AI_5 AJ_6 AR_7 H locs zv_8 hp_9 hH hS => ?_)
  dsimp only at hp_9
  obtain ⟨rfl, rfl, rfl, rfl, rfl, rfl, qk⟩ := hp_9
  refine z_if_ne (tgt := 10) F dX7_hangsOn_5 (by decide) zv_8 (fun c_10 => ?_) (fun c_10 => ?_)
  · refine z_iconst F dX7_hangsOn_10 ?_
    refine lv_aload_n F.1 F.2.1 dX7_hangsOn_11 rfl (lv_at hl 0 rfl) ?_
    refine lv_iload_n F.1 F.2.1 dX7_hangsOn_12 rfl (lv_at hl 1 rfl) ?_
    refine g_calli (g_runV (As := [.int (iI rr)]) (rest := [.int (iI 1)]) (ci := 7) F hl.1 hH hS hz (c_X7_firstOf l g gh T I R J AI AJ AR mo rr zrr hv hm hT (by omega)) (cwV 1 F.2.2.2.2.1 (good_up gT_X7_firstOf) rfl rfl rfl hdX7_firstOf ⟨Nat.le_of_ble_eq_true rfl, Nat.le_of_ble_eq_true rfl⟩) hm (by decide) rfl rfl rfl (Nat.le_of_ble_eq_true rfl) dX7_hangsOn_13 ⟨Nat.zero_le _, Nat.zero_le _⟩) hS (fun v_17 I_11 R_12 J_13 AI_14 AJ_15 AR_16 H locs zv_17 hp_18 hH hS => ?_)
    dsimp only at hp_18
    obtain ⟨rfl, rfl, rfl, rfl, rfl, rfl, qf1⟩ := hp_18
    refine lv_ishl F.1 F.2.1 dX7_hangsOn_16 ?_
    refine z_top (fun v_19 zv_19 ev_19 => ?_)
    refine lv_aload_n F.1 F.2.1 dX7_hangsOn_17 rfl (lv_at hl 0 rfl) ?_
    refine lv_aload_n F.1 F.2.1 dX7_hangsOn_18 rfl (lv_at hl 0 rfl) ?_
    refine lv_iload_n F.1 F.2.1 dX7_hangsOn_19 rfl (lv_at hl 1 rfl) ?_
    refine g_calli (g_runV (As := [.int (iI rr)]) (rest := [.ref mo, .int (iI v_19)]) (ci := 7) F hl.1 hH hS hz (c_X7_firstOf l g gh T I R J AI AJ AR mo rr zrr hv hm hT (by omega)) (cwV 1 F.2.2.2.2.1 (good_up gT_X7_firstOf) rfl rfl rfl hdX7_firstOf ⟨Nat.le_of_ble_eq_true rfl, Nat.le_of_ble_eq_true rfl⟩) hm (by decide) rfl rfl rfl (Nat.le_of_ble_eq_true rfl) dX7_hangsOn_20 ⟨Nat.zero_le _, Nat.zero_le _⟩) hS (fun v_26 I_20 R_21 J_22 AI_23 AJ_24 AR_25 H locs zv_26 hp_27 hH hS => ?_)
    dsimp only at hp_27
    obtain ⟨rfl, rfl, rfl, rfl, rfl, rfl, qf2⟩ := hp_27
    refine g_calli (g_runV (As := [.int (iI v_26)]) (rest := [.int (iI v_19)]) (ci := 7) F hl.1 hH hS hz (c_X7_hangsOnh5 l g gh T I R J AI AJ AR mo v_26 zv_26 hv hm hT (by omega)) (cwV 1 F.2.2.2.2.1 (good_up gT_X7_hangsOn) rfl rfl rfl hdX7_hangsOn ⟨Nat.le_of_ble_eq_true rfl, Nat.le_of_ble_eq_true rfl⟩) hm (by decide) rfl rfl rfl (Nat.le_of_ble_eq_true rfl) dX7_hangsOn_23 ⟨Nat.zero_le _, Nat.zero_le _⟩) hS (fun v_34 I_28 R_29 J_30 AI_31 AJ_32 AR_33 H locs zv_34 hp_35 hH hS => ?_)
    dsimp only at hp_35
    obtain ⟨rfl, rfl, rfl, rfl, rfl, rfl, qh1⟩ := hp_35
    refine lv_ior F.1 F.2.1 dX7_hangsOn_26 ?_
    refine z_top (fun v_36 zv_36 ev_36 => ?_)
    have s1 : iI v_36 = kBt (kTf T rr.toNat) ||| kHs (kTk T) (kTf T) (kTs T) 5 (kTf T rr.toNat).toNat := by
      rw [ev_36, iI_self, ev_19, iI_self, qh1, qf1, qf2, eF]; rfl
    refine lv_istore_n (lv' := [(2, .int (iI v_36)), (0, .ref mo), (1, .int (iI rr))]) F.1 F.2.1 dX7_hangsOn_27 rfl hl (by decide) rfl (fun ls hl => ?_)
    refine lv_aload_n F.1 F.2.1 dX7_hangsOn_28 rfl (lv_at hl 1 rfl) ?_
    refine lv_iload_n F.1 F.2.1 dX7_hangsOn_29 rfl (lv_at hl 2 rfl) ?_
    refine g_calli (g_runV (As := [.int (iI rr)]) (rest := []) (ci := 7) F hl.1 hH hS hz (c_X7_secondOf l g gh T I R J AI AJ AR mo rr zrr hv hm hT (by omega)) (cwV 1 F.2.2.2.2.1 (good_up gT_X7_secondOf) rfl rfl rfl hdX7_secondOf ⟨Nat.le_of_ble_eq_true rfl, Nat.le_of_ble_eq_true rfl⟩) hm (by decide) rfl rfl rfl (Nat.le_of_ble_eq_true rfl) dX7_hangsOn_30 ⟨Nat.zero_le _, Nat.zero_le _⟩) hS (fun v_43 I_37 R_38 J_39 AI_40 AJ_41 AR_42 H locs zv_43 hp_44 hH hS => ?_)
    dsimp only at hp_44
    obtain ⟨rfl, rfl, rfl, rfl, rfl, rfl, qs1⟩ := hp_44
    refine z_if_ge (tgt := 40) F dX7_hangsOn_33 (by decide) zv_43 (fun c_45 => ?_) (fun c_45 => ?_)
    · refine lv_iload_n F.1 F.2.1 dX7_hangsOn_40 rfl (lv_at hl 0 rfl) ?_
      refine z_iconst F dX7_hangsOn_41 ?_
      refine lv_aload_n F.1 F.2.1 dX7_hangsOn_42 rfl (lv_at hl 1 rfl) ?_
      refine lv_iload_n F.1 F.2.1 dX7_hangsOn_43 rfl (lv_at hl 2 rfl) ?_
      refine g_calli (g_runV (As := [.int (iI rr)]) (rest := [.int (iI 1), .int (iI v_36)]) (ci := 7) F hl.1 hH hS hz (c_X7_secondOf l g gh T I R J AI AJ AR mo rr zrr hv hm hT (by omega)) (cwV 1 F.2.2.2.2.1 (good_up gT_X7_secondOf) rfl rfl rfl hdX7_secondOf ⟨Nat.le_of_ble_eq_true rfl, Nat.le_of_ble_eq_true rfl⟩) hm (by decide) rfl rfl rfl (Nat.le_of_ble_eq_true rfl) dX7_hangsOn_44 ⟨Nat.zero_le _, Nat.zero_le _⟩) hS (fun v_52 I_46 R_47 J_48 AI_49 AJ_50 AR_51 H locs zv_52 hp_53 hH hS => ?_)
      dsimp only at hp_53
      obtain ⟨rfl, rfl, rfl, rfl, rfl, rfl, qs2⟩ := hp_53
      refine lv_ishl F.1 F.2.1 dX7_hangsOn_47 ?_
      refine z_top (fun v_54 zv_54 ev_54 => ?_)
      refine lv_ior F.1 F.2.1 dX7_hangsOn_48 ?_
      refine z_top (fun v_55 zv_55 ev_55 => ?_)
      refine lv_aload_n F.1 F.2.1 dX7_hangsOn_49 rfl (lv_at hl 1 rfl) ?_
      refine lv_aload_n F.1 F.2.1 dX7_hangsOn_50 rfl (lv_at hl 1 rfl) ?_
      refine lv_iload_n F.1 F.2.1 dX7_hangsOn_51 rfl (lv_at hl 2 rfl) ?_
      refine g_calli (g_runV (As := [.int (iI rr)]) (rest := [.ref mo, .int (iI v_55)]) (ci := 7) F hl.1 hH hS hz (c_X7_secondOf l g gh T I R J AI AJ AR mo rr zrr hv hm hT (by omega)) (cwV 1 F.2.2.2.2.1 (good_up gT_X7_secondOf) rfl rfl rfl hdX7_secondOf ⟨Nat.le_of_ble_eq_true rfl, Nat.le_of_ble_eq_true rfl⟩) hm (by decide) rfl rfl rfl (Nat.le_of_ble_eq_true rfl) dX7_hangsOn_52 ⟨Nat.zero_le _, Nat.zero_le _⟩) hS (fun v_62 I_56 R_57 J_58 AI_59 AJ_60 AR_61 H locs zv_62 hp_63 hH hS => ?_)
      dsimp only at hp_63
      obtain ⟨rfl, rfl, rfl, rfl, rfl, rfl, qs3⟩ := hp_63
      refine g_calli (g_runV (As := [.int (iI v_62)]) (rest := [.int (iI v_55)]) (ci := 7) F hl.1 hH hS hz (c_X7_hangsOnh5 l g gh T I R J AI AJ AR mo v_62 zv_62 hv hm hT (by omega)) (cwV 1 F.2.2.2.2.1 (good_up gT_X7_hangsOn) rfl rfl rfl hdX7_hangsOn ⟨Nat.le_of_ble_eq_true rfl, Nat.le_of_ble_eq_true rfl⟩) hm (by decide) rfl rfl rfl (Nat.le_of_ble_eq_true rfl) dX7_hangsOn_55 ⟨Nat.zero_le _, Nat.zero_le _⟩) hS (fun v_70 I_64 R_65 J_66 AI_67 AJ_68 AR_69 H locs zv_70 hp_71 hH hS => ?_)
      dsimp only at hp_71
      obtain ⟨rfl, rfl, rfl, rfl, rfl, rfl, qh2⟩ := hp_71
      refine lv_ior F.1 F.2.1 dX7_hangsOn_58 ?_
      refine z_top (fun v_72 zv_72 ev_72 => ?_)
      have s2 : iI v_72 = ((kBt (kTf T rr.toNat) ||| kHs (kTk T) (kTf T) (kTs T) 5 (kTf T rr.toNat).toNat) ||| kBt (kTs T rr.toNat)) ||| kHs (kTk T) (kTf T) (kTs T) 5 (kTs T rr.toNat).toNat := by
        rw [ev_72, iI_self, ev_55, iI_self, s1, ev_54, iI_self, qh2, qs2, qs3, eS]; rfl
      exact g_iret F hr hlk hH hS hz zv_72 ⟨rfl, rfl, rfl, rfl, rfl, rfl, s2.trans (kHs_2 (d := 5) (by rw [eK]; omega) (by rw [eS]; omega)).symm⟩ dX7_hangsOn_59
    · refine lv_iload_n F.1 F.2.1 dX7_hangsOn_36 rfl (lv_at hl 0 rfl) ?_
      refine z_goto (tgt := 59) F dX7_hangsOn_37 (by decide) ?_
      exact g_iret F hr hlk hH hS hz zv_36 ⟨rfl, rfl, rfl, rfl, rfl, rfl, s1.trans (kHs_1 (d := 5) (by rw [eK]; omega) (by rw [eS]; omega)).symm⟩ dX7_hangsOn_59
  · refine z_iconst F dX7_hangsOn_8 ?_
    exact g_iret F hr hlk hH hS hz ⟨by decide, by decide⟩ ⟨rfl, rfl, rfl, rfl, rfl, rfl, (kHs_0 (d := 5) (by rw [eK]; omega)).symm⟩ dX7_hangsOn_9

def rmX7_hangsOnh7 : Room := { frames := 7, cells := 0, slots := 0, locals := 153 }
set_option maxHeartbeats 4000000 in
set_option maxRecDepth 100000 in
/-- hangsOn -/
theorem c_X7_hangsOnh7 (l : Launch) (g : gG) (gh : gGh) (T : Nat → Int32) (I : gI) (R : gR) (J : gJ) (AI : gI) (AJ : gJ) (AR : gR) (mo : Nat) (rr : Int) (zrr : zr rr) (hv : mInv g gh R I AI) (hm : gO g mo 7) (hT : AI (gh 50 0) = T) (hr0 : 0 ≤ rr ∧ rr < (I mo 2).toInt ∧ rr < 7) : gMet l g yX7_hangsOn tsX7_hangsOn rmX7_hangsOnh7 [.ref mo, .int (iI rr)] (I, R, J, AI, AJ, AR) (gQi g (fun (z : Int) (w : gS) => I = w.1 ∧ R = w.2.1 ∧ J = w.2.2.1 ∧ AI = w.2.2.2.1 ∧ AJ = w.2.2.2.2.1 ∧ AR = w.2.2.2.2.2 ∧ (iI z = kHs (kTk T) (kTf T) (kTs T) 7 rr.toNat))) := by
  refine gStart (cc := cX7_hangsOn) (maxL := 3) (ret := (some (.int))) (by decide) rfl (Nat.le_of_ble_eq_true rfl) ?_
  intro p e s m below meth c ls F hr hlk hH hz hS hl
  have hl : lv_has ls 3 [(0, .ref mo), (1, .int (iI rr))] := hl
  have hS : va_S (gA g) s.heap s.heap [] := hS
  obtain ⟨H, hHe⟩ : ∃ H : Heap, H = s.heap := ⟨_, rfl⟩
  obtain ⟨locs, hlo⟩ : ∃ k : List Loc, k = [] := ⟨_, rfl⟩
  have hH : gH g I R J AI AJ AR H := by rw [hHe]; exact hH
  have hS : va_S (gA g) s.heap H locs := by rw [hHe, hlo]; exact hS
  suffices hw : W p l e rmX7_hangsOnh7 s m ([.ref mo, .int (iI rr)] : List Value).toArray below meth c H locs 0 0 (MQ below (gQi g (fun (z : Int) (w : gS) => I = w.1 ∧ R = w.2.1 ∧ J = w.2.2.1 ∧ AI = w.2.2.2.1 ∧ AJ = w.2.2.2.2.1 ∧ AR = w.2.2.2.2.2 ∧ (iI z = kHs (kTk T) (kTf T) (kTs T) 7 rr.toNat))) ([.ref mo, .int (iI rr)] : List Value).toArray s 0 0 (gA g)) (F0 m 0 ls []) by
    rw [hHe, hlo] at hw; exact hw
  clear hHe hlo
  have hb0 := mJ hv hm
  unfold mNum1 at hb0
  have x := mRow hv hm hT (z := rr) (by omega) (by omega)
  have xa := x.1
  have xc := x.2.2.1
  have xb := x.2.1
  have ern : ((rr.toNat : Nat) : Int) = rr := Int.toNat_of_nonneg hr0.1
  have eK : kTk T rr.toNat = tI T (40 * rr) := by unfold kTk; rw [ern]
  have eF : kTf T rr.toNat = tI T (40 * rr + 2) := by unfold kTf; rw [ern]
  have eS : kTs T rr.toNat = tI T (40 * rr + 3) := by unfold kTs; rw [ern]
  refine lv_aload_n F.1 F.2.1 dX7_hangsOn_0 rfl (lv_at hl 0 rfl) ?_
  refine lv_iload_n F.1 F.2.1 dX7_hangsOn_1 rfl (lv_at hl 1 rfl) ?_
  have b_1 := mJ hv hm
  unfold mNum1 at b_1
  refine g_calli (g_runV (As := [.int (iI rr)]) (rest := []) (ci := 7) F hl.1 hH hS hz (c_X7_kindOf l g gh T I R J AI AJ AR mo rr zrr hv hm hT (by omega)) (cwV 1 F.2.2.2.2.1 (good_up gT_X7_kindOf) rfl rfl rfl hdX7_kindOf ⟨Nat.le_of_ble_eq_true rfl, Nat.le_of_ble_eq_true rfl⟩) hm (by decide) rfl rfl rfl (Nat.le_of_ble_eq_true rfl) dX7_hangsOn_2 ⟨Nat.zero_le _, Nat.zero_le _⟩) hS (fun v_8 I_2 R_3 J_4 AI_5 AJ_6 AR_7 H locs zv_8 hp_9 hH hS => ?_)
  dsimp only at hp_9
  obtain ⟨rfl, rfl, rfl, rfl, rfl, rfl, qk⟩ := hp_9
  refine z_if_ne (tgt := 10) F dX7_hangsOn_5 (by decide) zv_8 (fun c_10 => ?_) (fun c_10 => ?_)
  · refine z_iconst F dX7_hangsOn_10 ?_
    refine lv_aload_n F.1 F.2.1 dX7_hangsOn_11 rfl (lv_at hl 0 rfl) ?_
    refine lv_iload_n F.1 F.2.1 dX7_hangsOn_12 rfl (lv_at hl 1 rfl) ?_
    refine g_calli (g_runV (As := [.int (iI rr)]) (rest := [.int (iI 1)]) (ci := 7) F hl.1 hH hS hz (c_X7_firstOf l g gh T I R J AI AJ AR mo rr zrr hv hm hT (by omega)) (cwV 1 F.2.2.2.2.1 (good_up gT_X7_firstOf) rfl rfl rfl hdX7_firstOf ⟨Nat.le_of_ble_eq_true rfl, Nat.le_of_ble_eq_true rfl⟩) hm (by decide) rfl rfl rfl (Nat.le_of_ble_eq_true rfl) dX7_hangsOn_13 ⟨Nat.zero_le _, Nat.zero_le _⟩) hS (fun v_17 I_11 R_12 J_13 AI_14 AJ_15 AR_16 H locs zv_17 hp_18 hH hS => ?_)
    dsimp only at hp_18
    obtain ⟨rfl, rfl, rfl, rfl, rfl, rfl, qf1⟩ := hp_18
    refine lv_ishl F.1 F.2.1 dX7_hangsOn_16 ?_
    refine z_top (fun v_19 zv_19 ev_19 => ?_)
    refine lv_aload_n F.1 F.2.1 dX7_hangsOn_17 rfl (lv_at hl 0 rfl) ?_
    refine lv_aload_n F.1 F.2.1 dX7_hangsOn_18 rfl (lv_at hl 0 rfl) ?_
    refine lv_iload_n F.1 F.2.1 dX7_hangsOn_19 rfl (lv_at hl 1 rfl) ?_
    refine g_calli (g_runV (As := [.int (iI rr)]) (rest := [.ref mo, .int (iI v_19)]) (ci := 7) F hl.1 hH hS hz (c_X7_firstOf l g gh T I R J AI AJ AR mo rr zrr hv hm hT (by omega)) (cwV 1 F.2.2.2.2.1 (good_up gT_X7_firstOf) rfl rfl rfl hdX7_firstOf ⟨Nat.le_of_ble_eq_true rfl, Nat.le_of_ble_eq_true rfl⟩) hm (by decide) rfl rfl rfl (Nat.le_of_ble_eq_true rfl) dX7_hangsOn_20 ⟨Nat.zero_le _, Nat.zero_le _⟩) hS (fun v_26 I_20 R_21 J_22 AI_23 AJ_24 AR_25 H locs zv_26 hp_27 hH hS => ?_)
    dsimp only at hp_27
    obtain ⟨rfl, rfl, rfl, rfl, rfl, rfl, qf2⟩ := hp_27
    refine g_calli (g_runV (As := [.int (iI v_26)]) (rest := [.int (iI v_19)]) (ci := 7) F hl.1 hH hS hz (c_X7_hangsOnh6 l g gh T I R J AI AJ AR mo v_26 zv_26 hv hm hT (by omega)) (cwV 1 F.2.2.2.2.1 (good_up gT_X7_hangsOn) rfl rfl rfl hdX7_hangsOn ⟨Nat.le_of_ble_eq_true rfl, Nat.le_of_ble_eq_true rfl⟩) hm (by decide) rfl rfl rfl (Nat.le_of_ble_eq_true rfl) dX7_hangsOn_23 ⟨Nat.zero_le _, Nat.zero_le _⟩) hS (fun v_34 I_28 R_29 J_30 AI_31 AJ_32 AR_33 H locs zv_34 hp_35 hH hS => ?_)
    dsimp only at hp_35
    obtain ⟨rfl, rfl, rfl, rfl, rfl, rfl, qh1⟩ := hp_35
    refine lv_ior F.1 F.2.1 dX7_hangsOn_26 ?_
    refine z_top (fun v_36 zv_36 ev_36 => ?_)
    have s1 : iI v_36 = kBt (kTf T rr.toNat) ||| kHs (kTk T) (kTf T) (kTs T) 6 (kTf T rr.toNat).toNat := by
      rw [ev_36, iI_self, ev_19, iI_self, qh1, qf1, qf2, eF]; rfl
    refine lv_istore_n (lv' := [(2, .int (iI v_36)), (0, .ref mo), (1, .int (iI rr))]) F.1 F.2.1 dX7_hangsOn_27 rfl hl (by decide) rfl (fun ls hl => ?_)
    refine lv_aload_n F.1 F.2.1 dX7_hangsOn_28 rfl (lv_at hl 1 rfl) ?_
    refine lv_iload_n F.1 F.2.1 dX7_hangsOn_29 rfl (lv_at hl 2 rfl) ?_
    refine g_calli (g_runV (As := [.int (iI rr)]) (rest := []) (ci := 7) F hl.1 hH hS hz (c_X7_secondOf l g gh T I R J AI AJ AR mo rr zrr hv hm hT (by omega)) (cwV 1 F.2.2.2.2.1 (good_up gT_X7_secondOf) rfl rfl rfl hdX7_secondOf ⟨Nat.le_of_ble_eq_true rfl, Nat.le_of_ble_eq_true rfl⟩) hm (by decide) rfl rfl rfl (Nat.le_of_ble_eq_true rfl) dX7_hangsOn_30 ⟨Nat.zero_le _, Nat.zero_le _⟩) hS (fun v_43 I_37 R_38 J_39 AI_40 AJ_41 AR_42 H locs zv_43 hp_44 hH hS => ?_)
    dsimp only at hp_44
    obtain ⟨rfl, rfl, rfl, rfl, rfl, rfl, qs1⟩ := hp_44
    refine z_if_ge (tgt := 40) F dX7_hangsOn_33 (by decide) zv_43 (fun c_45 => ?_) (fun c_45 => ?_)
    · refine lv_iload_n F.1 F.2.1 dX7_hangsOn_40 rfl (lv_at hl 0 rfl) ?_
      refine z_iconst F dX7_hangsOn_41 ?_
      refine lv_aload_n F.1 F.2.1 dX7_hangsOn_42 rfl (lv_at hl 1 rfl) ?_
      refine lv_iload_n F.1 F.2.1 dX7_hangsOn_43 rfl (lv_at hl 2 rfl) ?_
      refine g_calli (g_runV (As := [.int (iI rr)]) (rest := [.int (iI 1), .int (iI v_36)]) (ci := 7) F hl.1 hH hS hz (c_X7_secondOf l g gh T I R J AI AJ AR mo rr zrr hv hm hT (by omega)) (cwV 1 F.2.2.2.2.1 (good_up gT_X7_secondOf) rfl rfl rfl hdX7_secondOf ⟨Nat.le_of_ble_eq_true rfl, Nat.le_of_ble_eq_true rfl⟩) hm (by decide) rfl rfl rfl (Nat.le_of_ble_eq_true rfl) dX7_hangsOn_44 ⟨Nat.zero_le _, Nat.zero_le _⟩) hS (fun v_52 I_46 R_47 J_48 AI_49 AJ_50 AR_51 H locs zv_52 hp_53 hH hS => ?_)
      dsimp only at hp_53
      obtain ⟨rfl, rfl, rfl, rfl, rfl, rfl, qs2⟩ := hp_53
      refine lv_ishl F.1 F.2.1 dX7_hangsOn_47 ?_
      refine z_top (fun v_54 zv_54 ev_54 => ?_)
      refine lv_ior F.1 F.2.1 dX7_hangsOn_48 ?_
      refine z_top (fun v_55 zv_55 ev_55 => ?_)
      refine lv_aload_n F.1 F.2.1 dX7_hangsOn_49 rfl (lv_at hl 1 rfl) ?_
      refine lv_aload_n F.1 F.2.1 dX7_hangsOn_50 rfl (lv_at hl 1 rfl) ?_
      refine lv_iload_n F.1 F.2.1 dX7_hangsOn_51 rfl (lv_at hl 2 rfl) ?_
      refine g_calli (g_runV (As := [.int (iI rr)]) (rest := [.ref mo, .int (iI v_55)]) (ci := 7) F hl.1 hH hS hz (c_X7_secondOf l g gh T I R J AI AJ AR mo rr zrr hv hm hT (by omega)) (cwV 1 F.2.2.2.2.1 (good_up gT_X7_secondOf) rfl rfl rfl hdX7_secondOf ⟨Nat.le_of_ble_eq_true rfl, Nat.le_of_ble_eq_true rfl⟩) hm (by decide) rfl rfl rfl (Nat.le_of_ble_eq_true rfl) dX7_hangsOn_52 ⟨Nat.zero_le _, Nat.zero_le _⟩) hS (fun v_62 I_56 R_57 J_58 AI_59 AJ_60 AR_61 H locs zv_62 hp_63 hH hS => ?_)
      dsimp only at hp_63
      obtain ⟨rfl, rfl, rfl, rfl, rfl, rfl, qs3⟩ := hp_63
      refine g_calli (g_runV (As := [.int (iI v_62)]) (rest := [.int (iI v_55)]) (ci := 7) F hl.1 hH hS hz (c_X7_hangsOnh6 l g gh T I R J AI AJ AR mo v_62 zv_62 hv hm hT (by omega)) (cwV 1 F.2.2.2.2.1 (good_up gT_X7_hangsOn) rfl rfl rfl hdX7_hangsOn ⟨Nat.le_of_ble_eq_true rfl, Nat.le_of_ble_eq_true rfl⟩) hm (by decide) rfl rfl rfl (Nat.le_of_ble_eq_true rfl) dX7_hangsOn_55 ⟨Nat.zero_le _, Nat.zero_le _⟩) hS (fun v_70 I_64 R_65 J_66 AI_67 AJ_68 AR_69 H locs zv_70 hp_71 hH hS => ?_)
      dsimp only at hp_71
      obtain ⟨rfl, rfl, rfl, rfl, rfl, rfl, qh2⟩ := hp_71
      refine lv_ior F.1 F.2.1 dX7_hangsOn_58 ?_
      refine z_top (fun v_72 zv_72 ev_72 => ?_)
      have s2 : iI v_72 = ((kBt (kTf T rr.toNat) ||| kHs (kTk T) (kTf T) (kTs T) 6 (kTf T rr.toNat).toNat) ||| kBt (kTs T rr.toNat)) ||| kHs (kTk T) (kTf T) (kTs T) 6 (kTs T rr.toNat).toNat := by
        rw [ev_72, iI_self, ev_55, iI_self, s1, ev_54, iI_self, qh2, qs2, qs3, eS]; rfl
      exact g_iret F hr hlk hH hS hz zv_72 ⟨rfl, rfl, rfl, rfl, rfl, rfl, s2.trans (kHs_2 (d := 6) (by rw [eK]; omega) (by rw [eS]; omega)).symm⟩ dX7_hangsOn_59
    · refine lv_iload_n F.1 F.2.1 dX7_hangsOn_36 rfl (lv_at hl 0 rfl) ?_
      refine z_goto (tgt := 59) F dX7_hangsOn_37 (by decide) ?_
      exact g_iret F hr hlk hH hS hz zv_36 ⟨rfl, rfl, rfl, rfl, rfl, rfl, s1.trans (kHs_1 (d := 6) (by rw [eK]; omega) (by rw [eS]; omega)).symm⟩ dX7_hangsOn_59
  · refine z_iconst F dX7_hangsOn_8 ?_
    exact g_iret F hr hlk hH hS hz ⟨by decide, by decide⟩ ⟨rfl, rfl, rfl, rfl, rfl, rfl, (kHs_0 (d := 6) (by rw [eK]; omega)).symm⟩ dX7_hangsOn_9

def rmX7_hangsOnh8 : Room := { frames := 8, cells := 0, slots := 0, locals := 175 }
set_option maxHeartbeats 4000000 in
set_option maxRecDepth 100000 in
/-- hangsOn -/
theorem c_X7_hangsOnh8 (l : Launch) (g : gG) (gh : gGh) (T : Nat → Int32) (I : gI) (R : gR) (J : gJ) (AI : gI) (AJ : gJ) (AR : gR) (mo : Nat) (rr : Int) (zrr : zr rr) (hv : mInv g gh R I AI) (hm : gO g mo 7) (hT : AI (gh 50 0) = T) (hr0 : 0 ≤ rr ∧ rr < (I mo 2).toInt ∧ rr < 8) : gMet l g yX7_hangsOn tsX7_hangsOn rmX7_hangsOnh8 [.ref mo, .int (iI rr)] (I, R, J, AI, AJ, AR) (gQi g (fun (z : Int) (w : gS) => I = w.1 ∧ R = w.2.1 ∧ J = w.2.2.1 ∧ AI = w.2.2.2.1 ∧ AJ = w.2.2.2.2.1 ∧ AR = w.2.2.2.2.2 ∧ (iI z = kHs (kTk T) (kTf T) (kTs T) 8 rr.toNat))) := by
  refine gStart (cc := cX7_hangsOn) (maxL := 3) (ret := (some (.int))) (by decide) rfl (Nat.le_of_ble_eq_true rfl) ?_
  intro p e s m below meth c ls F hr hlk hH hz hS hl
  have hl : lv_has ls 3 [(0, .ref mo), (1, .int (iI rr))] := hl
  have hS : va_S (gA g) s.heap s.heap [] := hS
  obtain ⟨H, hHe⟩ : ∃ H : Heap, H = s.heap := ⟨_, rfl⟩
  obtain ⟨locs, hlo⟩ : ∃ k : List Loc, k = [] := ⟨_, rfl⟩
  have hH : gH g I R J AI AJ AR H := by rw [hHe]; exact hH
  have hS : va_S (gA g) s.heap H locs := by rw [hHe, hlo]; exact hS
  suffices hw : W p l e rmX7_hangsOnh8 s m ([.ref mo, .int (iI rr)] : List Value).toArray below meth c H locs 0 0 (MQ below (gQi g (fun (z : Int) (w : gS) => I = w.1 ∧ R = w.2.1 ∧ J = w.2.2.1 ∧ AI = w.2.2.2.1 ∧ AJ = w.2.2.2.2.1 ∧ AR = w.2.2.2.2.2 ∧ (iI z = kHs (kTk T) (kTf T) (kTs T) 8 rr.toNat))) ([.ref mo, .int (iI rr)] : List Value).toArray s 0 0 (gA g)) (F0 m 0 ls []) by
    rw [hHe, hlo] at hw; exact hw
  clear hHe hlo
  have hb0 := mJ hv hm
  unfold mNum1 at hb0
  have x := mRow hv hm hT (z := rr) (by omega) (by omega)
  have xa := x.1
  have xc := x.2.2.1
  have xb := x.2.1
  have ern : ((rr.toNat : Nat) : Int) = rr := Int.toNat_of_nonneg hr0.1
  have eK : kTk T rr.toNat = tI T (40 * rr) := by unfold kTk; rw [ern]
  have eF : kTf T rr.toNat = tI T (40 * rr + 2) := by unfold kTf; rw [ern]
  have eS : kTs T rr.toNat = tI T (40 * rr + 3) := by unfold kTs; rw [ern]
  refine lv_aload_n F.1 F.2.1 dX7_hangsOn_0 rfl (lv_at hl 0 rfl) ?_
  refine lv_iload_n F.1 F.2.1 dX7_hangsOn_1 rfl (lv_at hl 1 rfl) ?_
  have b_1 := mJ hv hm
  unfold mNum1 at b_1
  refine g_calli (g_runV (As := [.int (iI rr)]) (rest := []) (ci := 7) F hl.1 hH hS hz (c_X7_kindOf l g gh T I R J AI AJ AR mo rr zrr hv hm hT (by omega)) (cwV 1 F.2.2.2.2.1 (good_up gT_X7_kindOf) rfl rfl rfl hdX7_kindOf ⟨Nat.le_of_ble_eq_true rfl, Nat.le_of_ble_eq_true rfl⟩) hm (by decide) rfl rfl rfl (Nat.le_of_ble_eq_true rfl) dX7_hangsOn_2 ⟨Nat.zero_le _, Nat.zero_le _⟩) hS (fun v_8 I_2 R_3 J_4 AI_5 AJ_6 AR_7 H locs zv_8 hp_9 hH hS => ?_)
  dsimp only at hp_9
  obtain ⟨rfl, rfl, rfl, rfl, rfl, rfl, qk⟩ := hp_9
  refine z_if_ne (tgt := 10) F dX7_hangsOn_5 (by decide) zv_8 (fun c_10 => ?_) (fun c_10 => ?_)
  · refine z_iconst F dX7_hangsOn_10 ?_
    refine lv_aload_n F.1 F.2.1 dX7_hangsOn_11 rfl (lv_at hl 0 rfl) ?_
    refine lv_iload_n F.1 F.2.1 dX7_hangsOn_12 rfl (lv_at hl 1 rfl) ?_
    refine g_calli (g_runV (As := [.int (iI rr)]) (rest := [.int (iI 1)]) (ci := 7) F hl.1 hH hS hz (c_X7_firstOf l g gh T I R J AI AJ AR mo rr zrr hv hm hT (by omega)) (cwV 1 F.2.2.2.2.1 (good_up gT_X7_firstOf) rfl rfl rfl hdX7_firstOf ⟨Nat.le_of_ble_eq_true rfl, Nat.le_of_ble_eq_true rfl⟩) hm (by decide) rfl rfl rfl (Nat.le_of_ble_eq_true rfl) dX7_hangsOn_13 ⟨Nat.zero_le _, Nat.zero_le _⟩) hS (fun v_17 I_11 R_12 J_13 AI_14 AJ_15 AR_16 H locs zv_17 hp_18 hH hS => ?_)
    dsimp only at hp_18
    obtain ⟨rfl, rfl, rfl, rfl, rfl, rfl, qf1⟩ := hp_18
    refine lv_ishl F.1 F.2.1 dX7_hangsOn_16 ?_
    refine z_top (fun v_19 zv_19 ev_19 => ?_)
    refine lv_aload_n F.1 F.2.1 dX7_hangsOn_17 rfl (lv_at hl 0 rfl) ?_
    refine lv_aload_n F.1 F.2.1 dX7_hangsOn_18 rfl (lv_at hl 0 rfl) ?_
    refine lv_iload_n F.1 F.2.1 dX7_hangsOn_19 rfl (lv_at hl 1 rfl) ?_
    refine g_calli (g_runV (As := [.int (iI rr)]) (rest := [.ref mo, .int (iI v_19)]) (ci := 7) F hl.1 hH hS hz (c_X7_firstOf l g gh T I R J AI AJ AR mo rr zrr hv hm hT (by omega)) (cwV 1 F.2.2.2.2.1 (good_up gT_X7_firstOf) rfl rfl rfl hdX7_firstOf ⟨Nat.le_of_ble_eq_true rfl, Nat.le_of_ble_eq_true rfl⟩) hm (by decide) rfl rfl rfl (Nat.le_of_ble_eq_true rfl) dX7_hangsOn_20 ⟨Nat.zero_le _, Nat.zero_le _⟩) hS (fun v_26 I_20 R_21 J_22 AI_23 AJ_24 AR_25 H locs zv_26 hp_27 hH hS => ?_)
    dsimp only at hp_27
    obtain ⟨rfl, rfl, rfl, rfl, rfl, rfl, qf2⟩ := hp_27
    refine g_calli (g_runV (As := [.int (iI v_26)]) (rest := [.int (iI v_19)]) (ci := 7) F hl.1 hH hS hz (c_X7_hangsOnh7 l g gh T I R J AI AJ AR mo v_26 zv_26 hv hm hT (by omega)) (cwV 1 F.2.2.2.2.1 (good_up gT_X7_hangsOn) rfl rfl rfl hdX7_hangsOn ⟨Nat.le_of_ble_eq_true rfl, Nat.le_of_ble_eq_true rfl⟩) hm (by decide) rfl rfl rfl (Nat.le_of_ble_eq_true rfl) dX7_hangsOn_23 ⟨Nat.zero_le _, Nat.zero_le _⟩) hS (fun v_34 I_28 R_29 J_30 AI_31 AJ_32 AR_33 H locs zv_34 hp_35 hH hS => ?_)
    dsimp only at hp_35
    obtain ⟨rfl, rfl, rfl, rfl, rfl, rfl, qh1⟩ := hp_35
    refine lv_ior F.1 F.2.1 dX7_hangsOn_26 ?_
    refine z_top (fun v_36 zv_36 ev_36 => ?_)
    have s1 : iI v_36 = kBt (kTf T rr.toNat) ||| kHs (kTk T) (kTf T) (kTs T) 7 (kTf T rr.toNat).toNat := by
      rw [ev_36, iI_self, ev_19, iI_self, qh1, qf1, qf2, eF]; rfl
    refine lv_istore_n (lv' := [(2, .int (iI v_36)), (0, .ref mo), (1, .int (iI rr))]) F.1 F.2.1 dX7_hangsOn_27 rfl hl (by decide) rfl (fun ls hl => ?_)
    refine lv_aload_n F.1 F.2.1 dX7_hangsOn_28 rfl (lv_at hl 1 rfl) ?_
    refine lv_iload_n F.1 F.2.1 dX7_hangsOn_29 rfl (lv_at hl 2 rfl) ?_
    refine g_calli (g_runV (As := [.int (iI rr)]) (rest := []) (ci := 7) F hl.1 hH hS hz (c_X7_secondOf l g gh T I R J AI AJ AR mo rr zrr hv hm hT (by omega)) (cwV 1 F.2.2.2.2.1 (good_up gT_X7_secondOf) rfl rfl rfl hdX7_secondOf ⟨Nat.le_of_ble_eq_true rfl, Nat.le_of_ble_eq_true rfl⟩) hm (by decide) rfl rfl rfl (Nat.le_of_ble_eq_true rfl) dX7_hangsOn_30 ⟨Nat.zero_le _, Nat.zero_le _⟩) hS (fun v_43 I_37 R_38 J_39 AI_40 AJ_41 AR_42 H locs zv_43 hp_44 hH hS => ?_)
    dsimp only at hp_44
    obtain ⟨rfl, rfl, rfl, rfl, rfl, rfl, qs1⟩ := hp_44
    refine z_if_ge (tgt := 40) F dX7_hangsOn_33 (by decide) zv_43 (fun c_45 => ?_) (fun c_45 => ?_)
    · refine lv_iload_n F.1 F.2.1 dX7_hangsOn_40 rfl (lv_at hl 0 rfl) ?_
      refine z_iconst F dX7_hangsOn_41 ?_
      refine lv_aload_n F.1 F.2.1 dX7_hangsOn_42 rfl (lv_at hl 1 rfl) ?_
      refine lv_iload_n F.1 F.2.1 dX7_hangsOn_43 rfl (lv_at hl 2 rfl) ?_
      refine g_calli (g_runV (As := [.int (iI rr)]) (rest := [.int (iI 1), .int (iI v_36)]) (ci := 7) F hl.1 hH hS hz (c_X7_secondOf l g gh T I R J AI AJ AR mo rr zrr hv hm hT (by omega)) (cwV 1 F.2.2.2.2.1 (good_up gT_X7_secondOf) rfl rfl rfl hdX7_secondOf ⟨Nat.le_of_ble_eq_true rfl, Nat.le_of_ble_eq_true rfl⟩) hm (by decide) rfl rfl rfl (Nat.le_of_ble_eq_true rfl) dX7_hangsOn_44 ⟨Nat.zero_le _, Nat.zero_le _⟩) hS (fun v_52 I_46 R_47 J_48 AI_49 AJ_50 AR_51 H locs zv_52 hp_53 hH hS => ?_)
      dsimp only at hp_53
      obtain ⟨rfl, rfl, rfl, rfl, rfl, rfl, qs2⟩ := hp_53
      refine lv_ishl F.1 F.2.1 dX7_hangsOn_47 ?_
      refine z_top (fun v_54 zv_54 ev_54 => ?_)
      refine lv_ior F.1 F.2.1 dX7_hangsOn_48 ?_
      refine z_top (fun v_55 zv_55 ev_55 => ?_)
      refine lv_aload_n F.1 F.2.1 dX7_hangsOn_49 rfl (lv_at hl 1 rfl) ?_
      refine lv_aload_n F.1 F.2.1 dX7_hangsOn_50 rfl (lv_at hl 1 rfl) ?_
      refine lv_iload_n F.1 F.2.1 dX7_hangsOn_51 rfl (lv_at hl 2 rfl) ?_
      refine g_calli (g_runV (As := [.int (iI rr)]) (rest := [.ref mo, .int (iI v_55)]) (ci := 7) F hl.1 hH hS hz (c_X7_secondOf l g gh T I R J AI AJ AR mo rr zrr hv hm hT (by omega)) (cwV 1 F.2.2.2.2.1 (good_up gT_X7_secondOf) rfl rfl rfl hdX7_secondOf ⟨Nat.le_of_ble_eq_true rfl, Nat.le_of_ble_eq_true rfl⟩) hm (by decide) rfl rfl rfl (Nat.le_of_ble_eq_true rfl) dX7_hangsOn_52 ⟨Nat.zero_le _, Nat.zero_le _⟩) hS (fun v_62 I_56 R_57 J_58 AI_59 AJ_60 AR_61 H locs zv_62 hp_63 hH hS => ?_)
      dsimp only at hp_63
      obtain ⟨rfl, rfl, rfl, rfl, rfl, rfl, qs3⟩ := hp_63
      refine g_calli (g_runV (As := [.int (iI v_62)]) (rest := [.int (iI v_55)]) (ci := 7) F hl.1 hH hS hz (c_X7_hangsOnh7 l g gh T I R J AI AJ AR mo v_62 zv_62 hv hm hT (by omega)) (cwV 1 F.2.2.2.2.1 (good_up gT_X7_hangsOn) rfl rfl rfl hdX7_hangsOn ⟨Nat.le_of_ble_eq_true rfl, Nat.le_of_ble_eq_true rfl⟩) hm (by decide) rfl rfl rfl (Nat.le_of_ble_eq_true rfl) dX7_hangsOn_55 ⟨Nat.zero_le _, Nat.zero_le _⟩) hS (fun v_70 I_64 R_65 J_66 AI_67 AJ_68 AR_69 H locs zv_70 hp_71 hH hS => ?_)
      dsimp only at hp_71
      obtain ⟨rfl, rfl, rfl, rfl, rfl, rfl, qh2⟩ := hp_71
      refine lv_ior F.1 F.2.1 dX7_hangsOn_58 ?_
      refine z_top (fun v_72 zv_72 ev_72 => ?_)
      have s2 : iI v_72 = ((kBt (kTf T rr.toNat) ||| kHs (kTk T) (kTf T) (kTs T) 7 (kTf T rr.toNat).toNat) ||| kBt (kTs T rr.toNat)) ||| kHs (kTk T) (kTf T) (kTs T) 7 (kTs T rr.toNat).toNat := by
        rw [ev_72, iI_self, ev_55, iI_self, s1, ev_54, iI_self, qh2, qs2, qs3, eS]; rfl
      exact g_iret F hr hlk hH hS hz zv_72 ⟨rfl, rfl, rfl, rfl, rfl, rfl, s2.trans (kHs_2 (d := 7) (by rw [eK]; omega) (by rw [eS]; omega)).symm⟩ dX7_hangsOn_59
    · refine lv_iload_n F.1 F.2.1 dX7_hangsOn_36 rfl (lv_at hl 0 rfl) ?_
      refine z_goto (tgt := 59) F dX7_hangsOn_37 (by decide) ?_
      exact g_iret F hr hlk hH hS hz zv_36 ⟨rfl, rfl, rfl, rfl, rfl, rfl, s1.trans (kHs_1 (d := 7) (by rw [eK]; omega) (by rw [eS]; omega)).symm⟩ dX7_hangsOn_59
  · refine z_iconst F dX7_hangsOn_8 ?_
    exact g_iret F hr hlk hH hS hz ⟨by decide, by decide⟩ ⟨rfl, rfl, rfl, rfl, rfl, rfl, (kHs_0 (d := 7) (by rw [eK]; omega)).symm⟩ dX7_hangsOn_9

def rmX7_hangsOnh9 : Room := { frames := 9, cells := 0, slots := 0, locals := 197 }
set_option maxHeartbeats 4000000 in
set_option maxRecDepth 100000 in
/-- hangsOn -/
theorem c_X7_hangsOnh9 (l : Launch) (g : gG) (gh : gGh) (T : Nat → Int32) (I : gI) (R : gR) (J : gJ) (AI : gI) (AJ : gJ) (AR : gR) (mo : Nat) (rr : Int) (zrr : zr rr) (hv : mInv g gh R I AI) (hm : gO g mo 7) (hT : AI (gh 50 0) = T) (hr0 : 0 ≤ rr ∧ rr < (I mo 2).toInt ∧ rr < 9) : gMet l g yX7_hangsOn tsX7_hangsOn rmX7_hangsOnh9 [.ref mo, .int (iI rr)] (I, R, J, AI, AJ, AR) (gQi g (fun (z : Int) (w : gS) => I = w.1 ∧ R = w.2.1 ∧ J = w.2.2.1 ∧ AI = w.2.2.2.1 ∧ AJ = w.2.2.2.2.1 ∧ AR = w.2.2.2.2.2 ∧ (iI z = kHs (kTk T) (kTf T) (kTs T) 9 rr.toNat))) := by
  refine gStart (cc := cX7_hangsOn) (maxL := 3) (ret := (some (.int))) (by decide) rfl (Nat.le_of_ble_eq_true rfl) ?_
  intro p e s m below meth c ls F hr hlk hH hz hS hl
  have hl : lv_has ls 3 [(0, .ref mo), (1, .int (iI rr))] := hl
  have hS : va_S (gA g) s.heap s.heap [] := hS
  obtain ⟨H, hHe⟩ : ∃ H : Heap, H = s.heap := ⟨_, rfl⟩
  obtain ⟨locs, hlo⟩ : ∃ k : List Loc, k = [] := ⟨_, rfl⟩
  have hH : gH g I R J AI AJ AR H := by rw [hHe]; exact hH
  have hS : va_S (gA g) s.heap H locs := by rw [hHe, hlo]; exact hS
  suffices hw : W p l e rmX7_hangsOnh9 s m ([.ref mo, .int (iI rr)] : List Value).toArray below meth c H locs 0 0 (MQ below (gQi g (fun (z : Int) (w : gS) => I = w.1 ∧ R = w.2.1 ∧ J = w.2.2.1 ∧ AI = w.2.2.2.1 ∧ AJ = w.2.2.2.2.1 ∧ AR = w.2.2.2.2.2 ∧ (iI z = kHs (kTk T) (kTf T) (kTs T) 9 rr.toNat))) ([.ref mo, .int (iI rr)] : List Value).toArray s 0 0 (gA g)) (F0 m 0 ls []) by
    rw [hHe, hlo] at hw; exact hw
  clear hHe hlo
  have hb0 := mJ hv hm
  unfold mNum1 at hb0
  have x := mRow hv hm hT (z := rr) (by omega) (by omega)
  have xa := x.1
  have xc := x.2.2.1
  have xb := x.2.1
  have ern : ((rr.toNat : Nat) : Int) = rr := Int.toNat_of_nonneg hr0.1
  have eK : kTk T rr.toNat = tI T (40 * rr) := by unfold kTk; rw [ern]
  have eF : kTf T rr.toNat = tI T (40 * rr + 2) := by unfold kTf; rw [ern]
  have eS : kTs T rr.toNat = tI T (40 * rr + 3) := by unfold kTs; rw [ern]
  refine lv_aload_n F.1 F.2.1 dX7_hangsOn_0 rfl (lv_at hl 0 rfl) ?_
  refine lv_iload_n F.1 F.2.1 dX7_hangsOn_1 rfl (lv_at hl 1 rfl) ?_
  have b_1 := mJ hv hm
  unfold mNum1 at b_1
  refine g_calli (g_runV (As := [.int (iI rr)]) (rest := []) (ci := 7) F hl.1 hH hS hz (c_X7_kindOf l g gh T I R J AI AJ AR mo rr zrr hv hm hT (by omega)) (cwV 1 F.2.2.2.2.1 (good_up gT_X7_kindOf) rfl rfl rfl hdX7_kindOf ⟨Nat.le_of_ble_eq_true rfl, Nat.le_of_ble_eq_true rfl⟩) hm (by decide) rfl rfl rfl (Nat.le_of_ble_eq_true rfl) dX7_hangsOn_2 ⟨Nat.zero_le _, Nat.zero_le _⟩) hS (fun v_8 I_2 R_3 J_4 AI_5 AJ_6 AR_7 H locs zv_8 hp_9 hH hS => ?_)
  dsimp only at hp_9
  obtain ⟨rfl, rfl, rfl, rfl, rfl, rfl, qk⟩ := hp_9
  refine z_if_ne (tgt := 10) F dX7_hangsOn_5 (by decide) zv_8 (fun c_10 => ?_) (fun c_10 => ?_)
  · refine z_iconst F dX7_hangsOn_10 ?_
    refine lv_aload_n F.1 F.2.1 dX7_hangsOn_11 rfl (lv_at hl 0 rfl) ?_
    refine lv_iload_n F.1 F.2.1 dX7_hangsOn_12 rfl (lv_at hl 1 rfl) ?_
    refine g_calli (g_runV (As := [.int (iI rr)]) (rest := [.int (iI 1)]) (ci := 7) F hl.1 hH hS hz (c_X7_firstOf l g gh T I R J AI AJ AR mo rr zrr hv hm hT (by omega)) (cwV 1 F.2.2.2.2.1 (good_up gT_X7_firstOf) rfl rfl rfl hdX7_firstOf ⟨Nat.le_of_ble_eq_true rfl, Nat.le_of_ble_eq_true rfl⟩) hm (by decide) rfl rfl rfl (Nat.le_of_ble_eq_true rfl) dX7_hangsOn_13 ⟨Nat.zero_le _, Nat.zero_le _⟩) hS (fun v_17 I_11 R_12 J_13 AI_14 AJ_15 AR_16 H locs zv_17 hp_18 hH hS => ?_)
    dsimp only at hp_18
    obtain ⟨rfl, rfl, rfl, rfl, rfl, rfl, qf1⟩ := hp_18
    refine lv_ishl F.1 F.2.1 dX7_hangsOn_16 ?_
    refine z_top (fun v_19 zv_19 ev_19 => ?_)
    refine lv_aload_n F.1 F.2.1 dX7_hangsOn_17 rfl (lv_at hl 0 rfl) ?_
    refine lv_aload_n F.1 F.2.1 dX7_hangsOn_18 rfl (lv_at hl 0 rfl) ?_
    refine lv_iload_n F.1 F.2.1 dX7_hangsOn_19 rfl (lv_at hl 1 rfl) ?_
    refine g_calli (g_runV (As := [.int (iI rr)]) (rest := [.ref mo, .int (iI v_19)]) (ci := 7) F hl.1 hH hS hz (c_X7_firstOf l g gh T I R J AI AJ AR mo rr zrr hv hm hT (by omega)) (cwV 1 F.2.2.2.2.1 (good_up gT_X7_firstOf) rfl rfl rfl hdX7_firstOf ⟨Nat.le_of_ble_eq_true rfl, Nat.le_of_ble_eq_true rfl⟩) hm (by decide) rfl rfl rfl (Nat.le_of_ble_eq_true rfl) dX7_hangsOn_20 ⟨Nat.zero_le _, Nat.zero_le _⟩) hS (fun v_26 I_20 R_21 J_22 AI_23 AJ_24 AR_25 H locs zv_26 hp_27 hH hS => ?_)
    dsimp only at hp_27
    obtain ⟨rfl, rfl, rfl, rfl, rfl, rfl, qf2⟩ := hp_27
    refine g_calli (g_runV (As := [.int (iI v_26)]) (rest := [.int (iI v_19)]) (ci := 7) F hl.1 hH hS hz (c_X7_hangsOnh8 l g gh T I R J AI AJ AR mo v_26 zv_26 hv hm hT (by omega)) (cwV 1 F.2.2.2.2.1 (good_up gT_X7_hangsOn) rfl rfl rfl hdX7_hangsOn ⟨Nat.le_of_ble_eq_true rfl, Nat.le_of_ble_eq_true rfl⟩) hm (by decide) rfl rfl rfl (Nat.le_of_ble_eq_true rfl) dX7_hangsOn_23 ⟨Nat.zero_le _, Nat.zero_le _⟩) hS (fun v_34 I_28 R_29 J_30 AI_31 AJ_32 AR_33 H locs zv_34 hp_35 hH hS => ?_)
    dsimp only at hp_35
    obtain ⟨rfl, rfl, rfl, rfl, rfl, rfl, qh1⟩ := hp_35
    refine lv_ior F.1 F.2.1 dX7_hangsOn_26 ?_
    refine z_top (fun v_36 zv_36 ev_36 => ?_)
    have s1 : iI v_36 = kBt (kTf T rr.toNat) ||| kHs (kTk T) (kTf T) (kTs T) 8 (kTf T rr.toNat).toNat := by
      rw [ev_36, iI_self, ev_19, iI_self, qh1, qf1, qf2, eF]; rfl
    refine lv_istore_n (lv' := [(2, .int (iI v_36)), (0, .ref mo), (1, .int (iI rr))]) F.1 F.2.1 dX7_hangsOn_27 rfl hl (by decide) rfl (fun ls hl => ?_)
    refine lv_aload_n F.1 F.2.1 dX7_hangsOn_28 rfl (lv_at hl 1 rfl) ?_
    refine lv_iload_n F.1 F.2.1 dX7_hangsOn_29 rfl (lv_at hl 2 rfl) ?_
    refine g_calli (g_runV (As := [.int (iI rr)]) (rest := []) (ci := 7) F hl.1 hH hS hz (c_X7_secondOf l g gh T I R J AI AJ AR mo rr zrr hv hm hT (by omega)) (cwV 1 F.2.2.2.2.1 (good_up gT_X7_secondOf) rfl rfl rfl hdX7_secondOf ⟨Nat.le_of_ble_eq_true rfl, Nat.le_of_ble_eq_true rfl⟩) hm (by decide) rfl rfl rfl (Nat.le_of_ble_eq_true rfl) dX7_hangsOn_30 ⟨Nat.zero_le _, Nat.zero_le _⟩) hS (fun v_43 I_37 R_38 J_39 AI_40 AJ_41 AR_42 H locs zv_43 hp_44 hH hS => ?_)
    dsimp only at hp_44
    obtain ⟨rfl, rfl, rfl, rfl, rfl, rfl, qs1⟩ := hp_44
    refine z_if_ge (tgt := 40) F dX7_hangsOn_33 (by decide) zv_43 (fun c_45 => ?_) (fun c_45 => ?_)
    · refine lv_iload_n F.1 F.2.1 dX7_hangsOn_40 rfl (lv_at hl 0 rfl) ?_
      refine z_iconst F dX7_hangsOn_41 ?_
      refine lv_aload_n F.1 F.2.1 dX7_hangsOn_42 rfl (lv_at hl 1 rfl) ?_
      refine lv_iload_n F.1 F.2.1 dX7_hangsOn_43 rfl (lv_at hl 2 rfl) ?_
      refine g_calli (g_runV (As := [.int (iI rr)]) (rest := [.int (iI 1), .int (iI v_36)]) (ci := 7) F hl.1 hH hS hz (c_X7_secondOf l g gh T I R J AI AJ AR mo rr zrr hv hm hT (by omega)) (cwV 1 F.2.2.2.2.1 (good_up gT_X7_secondOf) rfl rfl rfl hdX7_secondOf ⟨Nat.le_of_ble_eq_true rfl, Nat.le_of_ble_eq_true rfl⟩) hm (by decide) rfl rfl rfl (Nat.le_of_ble_eq_true rfl) dX7_hangsOn_44 ⟨Nat.zero_le _, Nat.zero_le _⟩) hS (fun v_52 I_46 R_47 J_48 AI_49 AJ_50 AR_51 H locs zv_52 hp_53 hH hS => ?_)
      dsimp only at hp_53
      obtain ⟨rfl, rfl, rfl, rfl, rfl, rfl, qs2⟩ := hp_53
      refine lv_ishl F.1 F.2.1 dX7_hangsOn_47 ?_
      refine z_top (fun v_54 zv_54 ev_54 => ?_)
      refine lv_ior F.1 F.2.1 dX7_hangsOn_48 ?_
      refine z_top (fun v_55 zv_55 ev_55 => ?_)
      refine lv_aload_n F.1 F.2.1 dX7_hangsOn_49 rfl (lv_at hl 1 rfl) ?_
      refine lv_aload_n F.1 F.2.1 dX7_hangsOn_50 rfl (lv_at hl 1 rfl) ?_
      refine lv_iload_n F.1 F.2.1 dX7_hangsOn_51 rfl (lv_at hl 2 rfl) ?_
      refine g_calli (g_runV (As := [.int (iI rr)]) (rest := [.ref mo, .int (iI v_55)]) (ci := 7) F hl.1 hH hS hz (c_X7_secondOf l g gh T I R J AI AJ AR mo rr zrr hv hm hT (by omega)) (cwV 1 F.2.2.2.2.1 (good_up gT_X7_secondOf) rfl rfl rfl hdX7_secondOf ⟨Nat.le_of_ble_eq_true rfl, Nat.le_of_ble_eq_true rfl⟩) hm (by decide) rfl rfl rfl (Nat.le_of_ble_eq_true rfl) dX7_hangsOn_52 ⟨Nat.zero_le _, Nat.zero_le _⟩) hS (fun v_62 I_56 R_57 J_58 AI_59 AJ_60 AR_61 H locs zv_62 hp_63 hH hS => ?_)
      dsimp only at hp_63
      obtain ⟨rfl, rfl, rfl, rfl, rfl, rfl, qs3⟩ := hp_63
      refine g_calli (g_runV (As := [.int (iI v_62)]) (rest := [.int (iI v_55)]) (ci := 7) F hl.1 hH hS hz (c_X7_hangsOnh8 l g gh T I R J AI AJ AR mo v_62 zv_62 hv hm hT (by omega)) (cwV 1 F.2.2.2.2.1 (good_up gT_X7_hangsOn) rfl rfl rfl hdX7_hangsOn ⟨Nat.le_of_ble_eq_true rfl, Nat.le_of_ble_eq_true rfl⟩) hm (by decide) rfl rfl rfl (Nat.le_of_ble_eq_true rfl) dX7_hangsOn_55 ⟨Nat.zero_le _, Nat.zero_le _⟩) hS (fun v_70 I_64 R_65 J_66 AI_67 AJ_68 AR_69 H locs zv_70 hp_71 hH hS => ?_)
      dsimp only at hp_71
      obtain ⟨rfl, rfl, rfl, rfl, rfl, rfl, qh2⟩ := hp_71
      refine lv_ior F.1 F.2.1 dX7_hangsOn_58 ?_
      refine z_top (fun v_72 zv_72 ev_72 => ?_)
      have s2 : iI v_72 = ((kBt (kTf T rr.toNat) ||| kHs (kTk T) (kTf T) (kTs T) 8 (kTf T rr.toNat).toNat) ||| kBt (kTs T rr.toNat)) ||| kHs (kTk T) (kTf T) (kTs T) 8 (kTs T rr.toNat).toNat := by
        rw [ev_72, iI_self, ev_55, iI_self, s1, ev_54, iI_self, qh2, qs2, qs3, eS]; rfl
      exact g_iret F hr hlk hH hS hz zv_72 ⟨rfl, rfl, rfl, rfl, rfl, rfl, s2.trans (kHs_2 (d := 8) (by rw [eK]; omega) (by rw [eS]; omega)).symm⟩ dX7_hangsOn_59
    · refine lv_iload_n F.1 F.2.1 dX7_hangsOn_36 rfl (lv_at hl 0 rfl) ?_
      refine z_goto (tgt := 59) F dX7_hangsOn_37 (by decide) ?_
      exact g_iret F hr hlk hH hS hz zv_36 ⟨rfl, rfl, rfl, rfl, rfl, rfl, s1.trans (kHs_1 (d := 8) (by rw [eK]; omega) (by rw [eS]; omega)).symm⟩ dX7_hangsOn_59
  · refine z_iconst F dX7_hangsOn_8 ?_
    exact g_iret F hr hlk hH hS hz ⟨by decide, by decide⟩ ⟨rfl, rfl, rfl, rfl, rfl, rfl, (kHs_0 (d := 8) (by rw [eK]; omega)).symm⟩ dX7_hangsOn_9

def rmX7_hangsOnh10 : Room := { frames := 10, cells := 0, slots := 0, locals := 219 }
set_option maxHeartbeats 4000000 in
set_option maxRecDepth 100000 in
/-- hangsOn -/
theorem c_X7_hangsOnh10 (l : Launch) (g : gG) (gh : gGh) (T : Nat → Int32) (I : gI) (R : gR) (J : gJ) (AI : gI) (AJ : gJ) (AR : gR) (mo : Nat) (rr : Int) (zrr : zr rr) (hv : mInv g gh R I AI) (hm : gO g mo 7) (hT : AI (gh 50 0) = T) (hr0 : 0 ≤ rr ∧ rr < (I mo 2).toInt ∧ rr < 10) : gMet l g yX7_hangsOn tsX7_hangsOn rmX7_hangsOnh10 [.ref mo, .int (iI rr)] (I, R, J, AI, AJ, AR) (gQi g (fun (z : Int) (w : gS) => I = w.1 ∧ R = w.2.1 ∧ J = w.2.2.1 ∧ AI = w.2.2.2.1 ∧ AJ = w.2.2.2.2.1 ∧ AR = w.2.2.2.2.2 ∧ (iI z = kHs (kTk T) (kTf T) (kTs T) 10 rr.toNat))) := by
  refine gStart (cc := cX7_hangsOn) (maxL := 3) (ret := (some (.int))) (by decide) rfl (Nat.le_of_ble_eq_true rfl) ?_
  intro p e s m below meth c ls F hr hlk hH hz hS hl
  have hl : lv_has ls 3 [(0, .ref mo), (1, .int (iI rr))] := hl
  have hS : va_S (gA g) s.heap s.heap [] := hS
  obtain ⟨H, hHe⟩ : ∃ H : Heap, H = s.heap := ⟨_, rfl⟩
  obtain ⟨locs, hlo⟩ : ∃ k : List Loc, k = [] := ⟨_, rfl⟩
  have hH : gH g I R J AI AJ AR H := by rw [hHe]; exact hH
  have hS : va_S (gA g) s.heap H locs := by rw [hHe, hlo]; exact hS
  suffices hw : W p l e rmX7_hangsOnh10 s m ([.ref mo, .int (iI rr)] : List Value).toArray below meth c H locs 0 0 (MQ below (gQi g (fun (z : Int) (w : gS) => I = w.1 ∧ R = w.2.1 ∧ J = w.2.2.1 ∧ AI = w.2.2.2.1 ∧ AJ = w.2.2.2.2.1 ∧ AR = w.2.2.2.2.2 ∧ (iI z = kHs (kTk T) (kTf T) (kTs T) 10 rr.toNat))) ([.ref mo, .int (iI rr)] : List Value).toArray s 0 0 (gA g)) (F0 m 0 ls []) by
    rw [hHe, hlo] at hw; exact hw
  clear hHe hlo
  have hb0 := mJ hv hm
  unfold mNum1 at hb0
  have x := mRow hv hm hT (z := rr) (by omega) (by omega)
  have xa := x.1
  have xc := x.2.2.1
  have xb := x.2.1
  have ern : ((rr.toNat : Nat) : Int) = rr := Int.toNat_of_nonneg hr0.1
  have eK : kTk T rr.toNat = tI T (40 * rr) := by unfold kTk; rw [ern]
  have eF : kTf T rr.toNat = tI T (40 * rr + 2) := by unfold kTf; rw [ern]
  have eS : kTs T rr.toNat = tI T (40 * rr + 3) := by unfold kTs; rw [ern]
  refine lv_aload_n F.1 F.2.1 dX7_hangsOn_0 rfl (lv_at hl 0 rfl) ?_
  refine lv_iload_n F.1 F.2.1 dX7_hangsOn_1 rfl (lv_at hl 1 rfl) ?_
  have b_1 := mJ hv hm
  unfold mNum1 at b_1
  refine g_calli (g_runV (As := [.int (iI rr)]) (rest := []) (ci := 7) F hl.1 hH hS hz (c_X7_kindOf l g gh T I R J AI AJ AR mo rr zrr hv hm hT (by omega)) (cwV 1 F.2.2.2.2.1 (good_up gT_X7_kindOf) rfl rfl rfl hdX7_kindOf ⟨Nat.le_of_ble_eq_true rfl, Nat.le_of_ble_eq_true rfl⟩) hm (by decide) rfl rfl rfl (Nat.le_of_ble_eq_true rfl) dX7_hangsOn_2 ⟨Nat.zero_le _, Nat.zero_le _⟩) hS (fun v_8 I_2 R_3 J_4 AI_5 AJ_6 AR_7 H locs zv_8 hp_9 hH hS => ?_)
  dsimp only at hp_9
  obtain ⟨rfl, rfl, rfl, rfl, rfl, rfl, qk⟩ := hp_9
  refine z_if_ne (tgt := 10) F dX7_hangsOn_5 (by decide) zv_8 (fun c_10 => ?_) (fun c_10 => ?_)
  · refine z_iconst F dX7_hangsOn_10 ?_
    refine lv_aload_n F.1 F.2.1 dX7_hangsOn_11 rfl (lv_at hl 0 rfl) ?_
    refine lv_iload_n F.1 F.2.1 dX7_hangsOn_12 rfl (lv_at hl 1 rfl) ?_
    refine g_calli (g_runV (As := [.int (iI rr)]) (rest := [.int (iI 1)]) (ci := 7) F hl.1 hH hS hz (c_X7_firstOf l g gh T I R J AI AJ AR mo rr zrr hv hm hT (by omega)) (cwV 1 F.2.2.2.2.1 (good_up gT_X7_firstOf) rfl rfl rfl hdX7_firstOf ⟨Nat.le_of_ble_eq_true rfl, Nat.le_of_ble_eq_true rfl⟩) hm (by decide) rfl rfl rfl (Nat.le_of_ble_eq_true rfl) dX7_hangsOn_13 ⟨Nat.zero_le _, Nat.zero_le _⟩) hS (fun v_17 I_11 R_12 J_13 AI_14 AJ_15 AR_16 H locs zv_17 hp_18 hH hS => ?_)
    dsimp only at hp_18
    obtain ⟨rfl, rfl, rfl, rfl, rfl, rfl, qf1⟩ := hp_18
    refine lv_ishl F.1 F.2.1 dX7_hangsOn_16 ?_
    refine z_top (fun v_19 zv_19 ev_19 => ?_)
    refine lv_aload_n F.1 F.2.1 dX7_hangsOn_17 rfl (lv_at hl 0 rfl) ?_
    refine lv_aload_n F.1 F.2.1 dX7_hangsOn_18 rfl (lv_at hl 0 rfl) ?_
    refine lv_iload_n F.1 F.2.1 dX7_hangsOn_19 rfl (lv_at hl 1 rfl) ?_
    refine g_calli (g_runV (As := [.int (iI rr)]) (rest := [.ref mo, .int (iI v_19)]) (ci := 7) F hl.1 hH hS hz (c_X7_firstOf l g gh T I R J AI AJ AR mo rr zrr hv hm hT (by omega)) (cwV 1 F.2.2.2.2.1 (good_up gT_X7_firstOf) rfl rfl rfl hdX7_firstOf ⟨Nat.le_of_ble_eq_true rfl, Nat.le_of_ble_eq_true rfl⟩) hm (by decide) rfl rfl rfl (Nat.le_of_ble_eq_true rfl) dX7_hangsOn_20 ⟨Nat.zero_le _, Nat.zero_le _⟩) hS (fun v_26 I_20 R_21 J_22 AI_23 AJ_24 AR_25 H locs zv_26 hp_27 hH hS => ?_)
    dsimp only at hp_27
    obtain ⟨rfl, rfl, rfl, rfl, rfl, rfl, qf2⟩ := hp_27
    refine g_calli (g_runV (As := [.int (iI v_26)]) (rest := [.int (iI v_19)]) (ci := 7) F hl.1 hH hS hz (c_X7_hangsOnh9 l g gh T I R J AI AJ AR mo v_26 zv_26 hv hm hT (by omega)) (cwV 1 F.2.2.2.2.1 (good_up gT_X7_hangsOn) rfl rfl rfl hdX7_hangsOn ⟨Nat.le_of_ble_eq_true rfl, Nat.le_of_ble_eq_true rfl⟩) hm (by decide) rfl rfl rfl (Nat.le_of_ble_eq_true rfl) dX7_hangsOn_23 ⟨Nat.zero_le _, Nat.zero_le _⟩) hS (fun v_34 I_28 R_29 J_30 AI_31 AJ_32 AR_33 H locs zv_34 hp_35 hH hS => ?_)
    dsimp only at hp_35
    obtain ⟨rfl, rfl, rfl, rfl, rfl, rfl, qh1⟩ := hp_35
    refine lv_ior F.1 F.2.1 dX7_hangsOn_26 ?_
    refine z_top (fun v_36 zv_36 ev_36 => ?_)
    have s1 : iI v_36 = kBt (kTf T rr.toNat) ||| kHs (kTk T) (kTf T) (kTs T) 9 (kTf T rr.toNat).toNat := by
      rw [ev_36, iI_self, ev_19, iI_self, qh1, qf1, qf2, eF]; rfl
    refine lv_istore_n (lv' := [(2, .int (iI v_36)), (0, .ref mo), (1, .int (iI rr))]) F.1 F.2.1 dX7_hangsOn_27 rfl hl (by decide) rfl (fun ls hl => ?_)
    refine lv_aload_n F.1 F.2.1 dX7_hangsOn_28 rfl (lv_at hl 1 rfl) ?_
    refine lv_iload_n F.1 F.2.1 dX7_hangsOn_29 rfl (lv_at hl 2 rfl) ?_
    refine g_calli (g_runV (As := [.int (iI rr)]) (rest := []) (ci := 7) F hl.1 hH hS hz (c_X7_secondOf l g gh T I R J AI AJ AR mo rr zrr hv hm hT (by omega)) (cwV 1 F.2.2.2.2.1 (good_up gT_X7_secondOf) rfl rfl rfl hdX7_secondOf ⟨Nat.le_of_ble_eq_true rfl, Nat.le_of_ble_eq_true rfl⟩) hm (by decide) rfl rfl rfl (Nat.le_of_ble_eq_true rfl) dX7_hangsOn_30 ⟨Nat.zero_le _, Nat.zero_le _⟩) hS (fun v_43 I_37 R_38 J_39 AI_40 AJ_41 AR_42 H locs zv_43 hp_44 hH hS => ?_)
    dsimp only at hp_44
    obtain ⟨rfl, rfl, rfl, rfl, rfl, rfl, qs1⟩ := hp_44
    refine z_if_ge (tgt := 40) F dX7_hangsOn_33 (by decide) zv_43 (fun c_45 => ?_) (fun c_45 => ?_)
    · refine lv_iload_n F.1 F.2.1 dX7_hangsOn_40 rfl (lv_at hl 0 rfl) ?_
      refine z_iconst F dX7_hangsOn_41 ?_
      refine lv_aload_n F.1 F.2.1 dX7_hangsOn_42 rfl (lv_at hl 1 rfl) ?_
      refine lv_iload_n F.1 F.2.1 dX7_hangsOn_43 rfl (lv_at hl 2 rfl) ?_
      refine g_calli (g_runV (As := [.int (iI rr)]) (rest := [.int (iI 1), .int (iI v_36)]) (ci := 7) F hl.1 hH hS hz (c_X7_secondOf l g gh T I R J AI AJ AR mo rr zrr hv hm hT (by omega)) (cwV 1 F.2.2.2.2.1 (good_up gT_X7_secondOf) rfl rfl rfl hdX7_secondOf ⟨Nat.le_of_ble_eq_true rfl, Nat.le_of_ble_eq_true rfl⟩) hm (by decide) rfl rfl rfl (Nat.le_of_ble_eq_true rfl) dX7_hangsOn_44 ⟨Nat.zero_le _, Nat.zero_le _⟩) hS (fun v_52 I_46 R_47 J_48 AI_49 AJ_50 AR_51 H locs zv_52 hp_53 hH hS => ?_)
      dsimp only at hp_53
      obtain ⟨rfl, rfl, rfl, rfl, rfl, rfl, qs2⟩ := hp_53
      refine lv_ishl F.1 F.2.1 dX7_hangsOn_47 ?_
      refine z_top (fun v_54 zv_54 ev_54 => ?_)
      refine lv_ior F.1 F.2.1 dX7_hangsOn_48 ?_
      refine z_top (fun v_55 zv_55 ev_55 => ?_)
      refine lv_aload_n F.1 F.2.1 dX7_hangsOn_49 rfl (lv_at hl 1 rfl) ?_
      refine lv_aload_n F.1 F.2.1 dX7_hangsOn_50 rfl (lv_at hl 1 rfl) ?_
      refine lv_iload_n F.1 F.2.1 dX7_hangsOn_51 rfl (lv_at hl 2 rfl) ?_
      refine g_calli (g_runV (As := [.int (iI rr)]) (rest := [.ref mo, .int (iI v_55)]) (ci := 7) F hl.1 hH hS hz (c_X7_secondOf l g gh T I R J AI AJ AR mo rr zrr hv hm hT (by omega)) (cwV 1 F.2.2.2.2.1 (good_up gT_X7_secondOf) rfl rfl rfl hdX7_secondOf ⟨Nat.le_of_ble_eq_true rfl, Nat.le_of_ble_eq_true rfl⟩) hm (by decide) rfl rfl rfl (Nat.le_of_ble_eq_true rfl) dX7_hangsOn_52 ⟨Nat.zero_le _, Nat.zero_le _⟩) hS (fun v_62 I_56 R_57 J_58 AI_59 AJ_60 AR_61 H locs zv_62 hp_63 hH hS => ?_)
      dsimp only at hp_63
      obtain ⟨rfl, rfl, rfl, rfl, rfl, rfl, qs3⟩ := hp_63
      refine g_calli (g_runV (As := [.int (iI v_62)]) (rest := [.int (iI v_55)]) (ci := 7) F hl.1 hH hS hz (c_X7_hangsOnh9 l g gh T I R J AI AJ AR mo v_62 zv_62 hv hm hT (by omega)) (cwV 1 F.2.2.2.2.1 (good_up gT_X7_hangsOn) rfl rfl rfl hdX7_hangsOn ⟨Nat.le_of_ble_eq_true rfl, Nat.le_of_ble_eq_true rfl⟩) hm (by decide) rfl rfl rfl (Nat.le_of_ble_eq_true rfl) dX7_hangsOn_55 ⟨Nat.zero_le _, Nat.zero_le _⟩) hS (fun v_70 I_64 R_65 J_66 AI_67 AJ_68 AR_69 H locs zv_70 hp_71 hH hS => ?_)
      dsimp only at hp_71
      obtain ⟨rfl, rfl, rfl, rfl, rfl, rfl, qh2⟩ := hp_71
      refine lv_ior F.1 F.2.1 dX7_hangsOn_58 ?_
      refine z_top (fun v_72 zv_72 ev_72 => ?_)
      have s2 : iI v_72 = ((kBt (kTf T rr.toNat) ||| kHs (kTk T) (kTf T) (kTs T) 9 (kTf T rr.toNat).toNat) ||| kBt (kTs T rr.toNat)) ||| kHs (kTk T) (kTf T) (kTs T) 9 (kTs T rr.toNat).toNat := by
        rw [ev_72, iI_self, ev_55, iI_self, s1, ev_54, iI_self, qh2, qs2, qs3, eS]; rfl
      exact g_iret F hr hlk hH hS hz zv_72 ⟨rfl, rfl, rfl, rfl, rfl, rfl, s2.trans (kHs_2 (d := 9) (by rw [eK]; omega) (by rw [eS]; omega)).symm⟩ dX7_hangsOn_59
    · refine lv_iload_n F.1 F.2.1 dX7_hangsOn_36 rfl (lv_at hl 0 rfl) ?_
      refine z_goto (tgt := 59) F dX7_hangsOn_37 (by decide) ?_
      exact g_iret F hr hlk hH hS hz zv_36 ⟨rfl, rfl, rfl, rfl, rfl, rfl, s1.trans (kHs_1 (d := 9) (by rw [eK]; omega) (by rw [eS]; omega)).symm⟩ dX7_hangsOn_59
  · refine z_iconst F dX7_hangsOn_8 ?_
    exact g_iret F hr hlk hH hS hz ⟨by decide, by decide⟩ ⟨rfl, rfl, rfl, rfl, rfl, rfl, (kHs_0 (d := 9) (by rw [eK]; omega)).symm⟩ dX7_hangsOn_9

def rmX7_hangsOnh11 : Room := { frames := 11, cells := 0, slots := 0, locals := 241 }
set_option maxHeartbeats 4000000 in
set_option maxRecDepth 100000 in
/-- hangsOn -/
theorem c_X7_hangsOnh11 (l : Launch) (g : gG) (gh : gGh) (T : Nat → Int32) (I : gI) (R : gR) (J : gJ) (AI : gI) (AJ : gJ) (AR : gR) (mo : Nat) (rr : Int) (zrr : zr rr) (hv : mInv g gh R I AI) (hm : gO g mo 7) (hT : AI (gh 50 0) = T) (hr0 : 0 ≤ rr ∧ rr < (I mo 2).toInt ∧ rr < 11) : gMet l g yX7_hangsOn tsX7_hangsOn rmX7_hangsOnh11 [.ref mo, .int (iI rr)] (I, R, J, AI, AJ, AR) (gQi g (fun (z : Int) (w : gS) => I = w.1 ∧ R = w.2.1 ∧ J = w.2.2.1 ∧ AI = w.2.2.2.1 ∧ AJ = w.2.2.2.2.1 ∧ AR = w.2.2.2.2.2 ∧ (iI z = kHs (kTk T) (kTf T) (kTs T) 11 rr.toNat))) := by
  refine gStart (cc := cX7_hangsOn) (maxL := 3) (ret := (some (.int))) (by decide) rfl (Nat.le_of_ble_eq_true rfl) ?_
  intro p e s m below meth c ls F hr hlk hH hz hS hl
  have hl : lv_has ls 3 [(0, .ref mo), (1, .int (iI rr))] := hl
  have hS : va_S (gA g) s.heap s.heap [] := hS
  obtain ⟨H, hHe⟩ : ∃ H : Heap, H = s.heap := ⟨_, rfl⟩
  obtain ⟨locs, hlo⟩ : ∃ k : List Loc, k = [] := ⟨_, rfl⟩
  have hH : gH g I R J AI AJ AR H := by rw [hHe]; exact hH
  have hS : va_S (gA g) s.heap H locs := by rw [hHe, hlo]; exact hS
  suffices hw : W p l e rmX7_hangsOnh11 s m ([.ref mo, .int (iI rr)] : List Value).toArray below meth c H locs 0 0 (MQ below (gQi g (fun (z : Int) (w : gS) => I = w.1 ∧ R = w.2.1 ∧ J = w.2.2.1 ∧ AI = w.2.2.2.1 ∧ AJ = w.2.2.2.2.1 ∧ AR = w.2.2.2.2.2 ∧ (iI z = kHs (kTk T) (kTf T) (kTs T) 11 rr.toNat))) ([.ref mo, .int (iI rr)] : List Value).toArray s 0 0 (gA g)) (F0 m 0 ls []) by
    rw [hHe, hlo] at hw; exact hw
  clear hHe hlo
  have hb0 := mJ hv hm
  unfold mNum1 at hb0
  have x := mRow hv hm hT (z := rr) (by omega) (by omega)
  have xa := x.1
  have xc := x.2.2.1
  have xb := x.2.1
  have ern : ((rr.toNat : Nat) : Int) = rr := Int.toNat_of_nonneg hr0.1
  have eK : kTk T rr.toNat = tI T (40 * rr) := by unfold kTk; rw [ern]
  have eF : kTf T rr.toNat = tI T (40 * rr + 2) := by unfold kTf; rw [ern]
  have eS : kTs T rr.toNat = tI T (40 * rr + 3) := by unfold kTs; rw [ern]
  refine lv_aload_n F.1 F.2.1 dX7_hangsOn_0 rfl (lv_at hl 0 rfl) ?_
  refine lv_iload_n F.1 F.2.1 dX7_hangsOn_1 rfl (lv_at hl 1 rfl) ?_
  have b_1 := mJ hv hm
  unfold mNum1 at b_1
  refine g_calli (g_runV (As := [.int (iI rr)]) (rest := []) (ci := 7) F hl.1 hH hS hz (c_X7_kindOf l g gh T I R J AI AJ AR mo rr zrr hv hm hT (by omega)) (cwV 1 F.2.2.2.2.1 (good_up gT_X7_kindOf) rfl rfl rfl hdX7_kindOf ⟨Nat.le_of_ble_eq_true rfl, Nat.le_of_ble_eq_true rfl⟩) hm (by decide) rfl rfl rfl (Nat.le_of_ble_eq_true rfl) dX7_hangsOn_2 ⟨Nat.zero_le _, Nat.zero_le _⟩) hS (fun v_8 I_2 R_3 J_4 AI_5 AJ_6 AR_7 H locs zv_8 hp_9 hH hS => ?_)
  dsimp only at hp_9
  obtain ⟨rfl, rfl, rfl, rfl, rfl, rfl, qk⟩ := hp_9
  refine z_if_ne (tgt := 10) F dX7_hangsOn_5 (by decide) zv_8 (fun c_10 => ?_) (fun c_10 => ?_)
  · refine z_iconst F dX7_hangsOn_10 ?_
    refine lv_aload_n F.1 F.2.1 dX7_hangsOn_11 rfl (lv_at hl 0 rfl) ?_
    refine lv_iload_n F.1 F.2.1 dX7_hangsOn_12 rfl (lv_at hl 1 rfl) ?_
    refine g_calli (g_runV (As := [.int (iI rr)]) (rest := [.int (iI 1)]) (ci := 7) F hl.1 hH hS hz (c_X7_firstOf l g gh T I R J AI AJ AR mo rr zrr hv hm hT (by omega)) (cwV 1 F.2.2.2.2.1 (good_up gT_X7_firstOf) rfl rfl rfl hdX7_firstOf ⟨Nat.le_of_ble_eq_true rfl, Nat.le_of_ble_eq_true rfl⟩) hm (by decide) rfl rfl rfl (Nat.le_of_ble_eq_true rfl) dX7_hangsOn_13 ⟨Nat.zero_le _, Nat.zero_le _⟩) hS (fun v_17 I_11 R_12 J_13 AI_14 AJ_15 AR_16 H locs zv_17 hp_18 hH hS => ?_)
    dsimp only at hp_18
    obtain ⟨rfl, rfl, rfl, rfl, rfl, rfl, qf1⟩ := hp_18
    refine lv_ishl F.1 F.2.1 dX7_hangsOn_16 ?_
    refine z_top (fun v_19 zv_19 ev_19 => ?_)
    refine lv_aload_n F.1 F.2.1 dX7_hangsOn_17 rfl (lv_at hl 0 rfl) ?_
    refine lv_aload_n F.1 F.2.1 dX7_hangsOn_18 rfl (lv_at hl 0 rfl) ?_
    refine lv_iload_n F.1 F.2.1 dX7_hangsOn_19 rfl (lv_at hl 1 rfl) ?_
    refine g_calli (g_runV (As := [.int (iI rr)]) (rest := [.ref mo, .int (iI v_19)]) (ci := 7) F hl.1 hH hS hz (c_X7_firstOf l g gh T I R J AI AJ AR mo rr zrr hv hm hT (by omega)) (cwV 1 F.2.2.2.2.1 (good_up gT_X7_firstOf) rfl rfl rfl hdX7_firstOf ⟨Nat.le_of_ble_eq_true rfl, Nat.le_of_ble_eq_true rfl⟩) hm (by decide) rfl rfl rfl (Nat.le_of_ble_eq_true rfl) dX7_hangsOn_20 ⟨Nat.zero_le _, Nat.zero_le _⟩) hS (fun v_26 I_20 R_21 J_22 AI_23 AJ_24 AR_25 H locs zv_26 hp_27 hH hS => ?_)
    dsimp only at hp_27
    obtain ⟨rfl, rfl, rfl, rfl, rfl, rfl, qf2⟩ := hp_27
    refine g_calli (g_runV (As := [.int (iI v_26)]) (rest := [.int (iI v_19)]) (ci := 7) F hl.1 hH hS hz (c_X7_hangsOnh10 l g gh T I R J AI AJ AR mo v_26 zv_26 hv hm hT (by omega)) (cwV 1 F.2.2.2.2.1 (good_up gT_X7_hangsOn) rfl rfl rfl hdX7_hangsOn ⟨Nat.le_of_ble_eq_true rfl, Nat.le_of_ble_eq_true rfl⟩) hm (by decide) rfl rfl rfl (Nat.le_of_ble_eq_true rfl) dX7_hangsOn_23 ⟨Nat.zero_le _, Nat.zero_le _⟩) hS (fun v_34 I_28 R_29 J_30 AI_31 AJ_32 AR_33 H locs zv_34 hp_35 hH hS => ?_)
    dsimp only at hp_35
    obtain ⟨rfl, rfl, rfl, rfl, rfl, rfl, qh1⟩ := hp_35
    refine lv_ior F.1 F.2.1 dX7_hangsOn_26 ?_
    refine z_top (fun v_36 zv_36 ev_36 => ?_)
    have s1 : iI v_36 = kBt (kTf T rr.toNat) ||| kHs (kTk T) (kTf T) (kTs T) 10 (kTf T rr.toNat).toNat := by
      rw [ev_36, iI_self, ev_19, iI_self, qh1, qf1, qf2, eF]; rfl
    refine lv_istore_n (lv' := [(2, .int (iI v_36)), (0, .ref mo), (1, .int (iI rr))]) F.1 F.2.1 dX7_hangsOn_27 rfl hl (by decide) rfl (fun ls hl => ?_)
    refine lv_aload_n F.1 F.2.1 dX7_hangsOn_28 rfl (lv_at hl 1 rfl) ?_
    refine lv_iload_n F.1 F.2.1 dX7_hangsOn_29 rfl (lv_at hl 2 rfl) ?_
    refine g_calli (g_runV (As := [.int (iI rr)]) (rest := []) (ci := 7) F hl.1 hH hS hz (c_X7_secondOf l g gh T I R J AI AJ AR mo rr zrr hv hm hT (by omega)) (cwV 1 F.2.2.2.2.1 (good_up gT_X7_secondOf) rfl rfl rfl hdX7_secondOf ⟨Nat.le_of_ble_eq_true rfl, Nat.le_of_ble_eq_true rfl⟩) hm (by decide) rfl rfl rfl (Nat.le_of_ble_eq_true rfl) dX7_hangsOn_30 ⟨Nat.zero_le _, Nat.zero_le _⟩) hS (fun v_43 I_37 R_38 J_39 AI_40 AJ_41 AR_42 H locs zv_43 hp_44 hH hS => ?_)
    dsimp only at hp_44
    obtain ⟨rfl, rfl, rfl, rfl, rfl, rfl, qs1⟩ := hp_44
    refine z_if_ge (tgt := 40) F dX7_hangsOn_33 (by decide) zv_43 (fun c_45 => ?_) (fun c_45 => ?_)
    · refine lv_iload_n F.1 F.2.1 dX7_hangsOn_40 rfl (lv_at hl 0 rfl) ?_
      refine z_iconst F dX7_hangsOn_41 ?_
      refine lv_aload_n F.1 F.2.1 dX7_hangsOn_42 rfl (lv_at hl 1 rfl) ?_
      refine lv_iload_n F.1 F.2.1 dX7_hangsOn_43 rfl (lv_at hl 2 rfl) ?_
      refine g_calli (g_runV (As := [.int (iI rr)]) (rest := [.int (iI 1), .int (iI v_36)]) (ci := 7) F hl.1 hH hS hz (c_X7_secondOf l g gh T I R J AI AJ AR mo rr zrr hv hm hT (by omega)) (cwV 1 F.2.2.2.2.1 (good_up gT_X7_secondOf) rfl rfl rfl hdX7_secondOf ⟨Nat.le_of_ble_eq_true rfl, Nat.le_of_ble_eq_true rfl⟩) hm (by decide) rfl rfl rfl (Nat.le_of_ble_eq_true rfl) dX7_hangsOn_44 ⟨Nat.zero_le _, Nat.zero_le _⟩) hS (fun v_52 I_46 R_47 J_48 AI_49 AJ_50 AR_51 H locs zv_52 hp_53 hH hS => ?_)
      dsimp only at hp_53
      obtain ⟨rfl, rfl, rfl, rfl, rfl, rfl, qs2⟩ := hp_53
      refine lv_ishl F.1 F.2.1 dX7_hangsOn_47 ?_
      refine z_top (fun v_54 zv_54 ev_54 => ?_)
      refine lv_ior F.1 F.2.1 dX7_hangsOn_48 ?_
      refine z_top (fun v_55 zv_55 ev_55 => ?_)
      refine lv_aload_n F.1 F.2.1 dX7_hangsOn_49 rfl (lv_at hl 1 rfl) ?_
      refine lv_aload_n F.1 F.2.1 dX7_hangsOn_50 rfl (lv_at hl 1 rfl) ?_
      refine lv_iload_n F.1 F.2.1 dX7_hangsOn_51 rfl (lv_at hl 2 rfl) ?_
      refine g_calli (g_runV (As := [.int (iI rr)]) (rest := [.ref mo, .int (iI v_55)]) (ci := 7) F hl.1 hH hS hz (c_X7_secondOf l g gh T I R J AI AJ AR mo rr zrr hv hm hT (by omega)) (cwV 1 F.2.2.2.2.1 (good_up gT_X7_secondOf) rfl rfl rfl hdX7_secondOf ⟨Nat.le_of_ble_eq_true rfl, Nat.le_of_ble_eq_true rfl⟩) hm (by decide) rfl rfl rfl (Nat.le_of_ble_eq_true rfl) dX7_hangsOn_52 ⟨Nat.zero_le _, Nat.zero_le _⟩) hS (fun v_62 I_56 R_57 J_58 AI_59 AJ_60 AR_61 H locs zv_62 hp_63 hH hS => ?_)
      dsimp only at hp_63
      obtain ⟨rfl, rfl, rfl, rfl, rfl, rfl, qs3⟩ := hp_63
      refine g_calli (g_runV (As := [.int (iI v_62)]) (rest := [.int (iI v_55)]) (ci := 7) F hl.1 hH hS hz (c_X7_hangsOnh10 l g gh T I R J AI AJ AR mo v_62 zv_62 hv hm hT (by omega)) (cwV 1 F.2.2.2.2.1 (good_up gT_X7_hangsOn) rfl rfl rfl hdX7_hangsOn ⟨Nat.le_of_ble_eq_true rfl, Nat.le_of_ble_eq_true rfl⟩) hm (by decide) rfl rfl rfl (Nat.le_of_ble_eq_true rfl) dX7_hangsOn_55 ⟨Nat.zero_le _, Nat.zero_le _⟩) hS (fun v_70 I_64 R_65 J_66 AI_67 AJ_68 AR_69 H locs zv_70 hp_71 hH hS => ?_)
      dsimp only at hp_71
      obtain ⟨rfl, rfl, rfl, rfl, rfl, rfl, qh2⟩ := hp_71
      refine lv_ior F.1 F.2.1 dX7_hangsOn_58 ?_
      refine z_top (fun v_72 zv_72 ev_72 => ?_)
      have s2 : iI v_72 = ((kBt (kTf T rr.toNat) ||| kHs (kTk T) (kTf T) (kTs T) 10 (kTf T rr.toNat).toNat) ||| kBt (kTs T rr.toNat)) ||| kHs (kTk T) (kTf T) (kTs T) 10 (kTs T rr.toNat).toNat := by
        rw [ev_72, iI_self, ev_55, iI_self, s1, ev_54, iI_self, qh2, qs2, qs3, eS]; rfl
      exact g_iret F hr hlk hH hS hz zv_72 ⟨rfl, rfl, rfl, rfl, rfl, rfl, s2.trans (kHs_2 (d := 10) (by rw [eK]; omega) (by rw [eS]; omega)).symm⟩ dX7_hangsOn_59
    · refine lv_iload_n F.1 F.2.1 dX7_hangsOn_36 rfl (lv_at hl 0 rfl) ?_
      refine z_goto (tgt := 59) F dX7_hangsOn_37 (by decide) ?_
      exact g_iret F hr hlk hH hS hz zv_36 ⟨rfl, rfl, rfl, rfl, rfl, rfl, s1.trans (kHs_1 (d := 10) (by rw [eK]; omega) (by rw [eS]; omega)).symm⟩ dX7_hangsOn_59
  · refine z_iconst F dX7_hangsOn_8 ?_
    exact g_iret F hr hlk hH hS hz ⟨by decide, by decide⟩ ⟨rfl, rfl, rfl, rfl, rfl, rfl, (kHs_0 (d := 10) (by rw [eK]; omega)).symm⟩ dX7_hangsOn_9

def rmX7_hangsOnh12 : Room := { frames := 12, cells := 0, slots := 0, locals := 263 }
set_option maxHeartbeats 4000000 in
set_option maxRecDepth 100000 in
/-- hangsOn -/
theorem c_X7_hangsOnh12 (l : Launch) (g : gG) (gh : gGh) (T : Nat → Int32) (I : gI) (R : gR) (J : gJ) (AI : gI) (AJ : gJ) (AR : gR) (mo : Nat) (rr : Int) (zrr : zr rr) (hv : mInv g gh R I AI) (hm : gO g mo 7) (hT : AI (gh 50 0) = T) (hr0 : 0 ≤ rr ∧ rr < (I mo 2).toInt ∧ rr < 12) : gMet l g yX7_hangsOn tsX7_hangsOn rmX7_hangsOnh12 [.ref mo, .int (iI rr)] (I, R, J, AI, AJ, AR) (gQi g (fun (z : Int) (w : gS) => I = w.1 ∧ R = w.2.1 ∧ J = w.2.2.1 ∧ AI = w.2.2.2.1 ∧ AJ = w.2.2.2.2.1 ∧ AR = w.2.2.2.2.2 ∧ (iI z = kHs (kTk T) (kTf T) (kTs T) 12 rr.toNat))) := by
  refine gStart (cc := cX7_hangsOn) (maxL := 3) (ret := (some (.int))) (by decide) rfl (Nat.le_of_ble_eq_true rfl) ?_
  intro p e s m below meth c ls F hr hlk hH hz hS hl
  have hl : lv_has ls 3 [(0, .ref mo), (1, .int (iI rr))] := hl
  have hS : va_S (gA g) s.heap s.heap [] := hS
  obtain ⟨H, hHe⟩ : ∃ H : Heap, H = s.heap := ⟨_, rfl⟩
  obtain ⟨locs, hlo⟩ : ∃ k : List Loc, k = [] := ⟨_, rfl⟩
  have hH : gH g I R J AI AJ AR H := by rw [hHe]; exact hH
  have hS : va_S (gA g) s.heap H locs := by rw [hHe, hlo]; exact hS
  suffices hw : W p l e rmX7_hangsOnh12 s m ([.ref mo, .int (iI rr)] : List Value).toArray below meth c H locs 0 0 (MQ below (gQi g (fun (z : Int) (w : gS) => I = w.1 ∧ R = w.2.1 ∧ J = w.2.2.1 ∧ AI = w.2.2.2.1 ∧ AJ = w.2.2.2.2.1 ∧ AR = w.2.2.2.2.2 ∧ (iI z = kHs (kTk T) (kTf T) (kTs T) 12 rr.toNat))) ([.ref mo, .int (iI rr)] : List Value).toArray s 0 0 (gA g)) (F0 m 0 ls []) by
    rw [hHe, hlo] at hw; exact hw
  clear hHe hlo
  have hb0 := mJ hv hm
  unfold mNum1 at hb0
  have x := mRow hv hm hT (z := rr) (by omega) (by omega)
  have xa := x.1
  have xc := x.2.2.1
  have xb := x.2.1
  have ern : ((rr.toNat : Nat) : Int) = rr := Int.toNat_of_nonneg hr0.1
  have eK : kTk T rr.toNat = tI T (40 * rr) := by unfold kTk; rw [ern]
  have eF : kTf T rr.toNat = tI T (40 * rr + 2) := by unfold kTf; rw [ern]
  have eS : kTs T rr.toNat = tI T (40 * rr + 3) := by unfold kTs; rw [ern]
  refine lv_aload_n F.1 F.2.1 dX7_hangsOn_0 rfl (lv_at hl 0 rfl) ?_
  refine lv_iload_n F.1 F.2.1 dX7_hangsOn_1 rfl (lv_at hl 1 rfl) ?_
  have b_1 := mJ hv hm
  unfold mNum1 at b_1
  refine g_calli (g_runV (As := [.int (iI rr)]) (rest := []) (ci := 7) F hl.1 hH hS hz (c_X7_kindOf l g gh T I R J AI AJ AR mo rr zrr hv hm hT (by omega)) (cwV 1 F.2.2.2.2.1 (good_up gT_X7_kindOf) rfl rfl rfl hdX7_kindOf ⟨Nat.le_of_ble_eq_true rfl, Nat.le_of_ble_eq_true rfl⟩) hm (by decide) rfl rfl rfl (Nat.le_of_ble_eq_true rfl) dX7_hangsOn_2 ⟨Nat.zero_le _, Nat.zero_le _⟩) hS (fun v_8 I_2 R_3 J_4 AI_5 AJ_6 AR_7 H locs zv_8 hp_9 hH hS => ?_)
  dsimp only at hp_9
  obtain ⟨rfl, rfl, rfl, rfl, rfl, rfl, qk⟩ := hp_9
  refine z_if_ne (tgt := 10) F dX7_hangsOn_5 (by decide) zv_8 (fun c_10 => ?_) (fun c_10 => ?_)
  · refine z_iconst F dX7_hangsOn_10 ?_
    refine lv_aload_n F.1 F.2.1 dX7_hangsOn_11 rfl (lv_at hl 0 rfl) ?_
    refine lv_iload_n F.1 F.2.1 dX7_hangsOn_12 rfl (lv_at hl 1 rfl) ?_
    refine g_calli (g_runV (As := [.int (iI rr)]) (rest := [.int (iI 1)]) (ci := 7) F hl.1 hH hS hz (c_X7_firstOf l g gh T I R J AI AJ AR mo rr zrr hv hm hT (by omega)) (cwV 1 F.2.2.2.2.1 (good_up gT_X7_firstOf) rfl rfl rfl hdX7_firstOf ⟨Nat.le_of_ble_eq_true rfl, Nat.le_of_ble_eq_true rfl⟩) hm (by decide) rfl rfl rfl (Nat.le_of_ble_eq_true rfl) dX7_hangsOn_13 ⟨Nat.zero_le _, Nat.zero_le _⟩) hS (fun v_17 I_11 R_12 J_13 AI_14 AJ_15 AR_16 H locs zv_17 hp_18 hH hS => ?_)
    dsimp only at hp_18
    obtain ⟨rfl, rfl, rfl, rfl, rfl, rfl, qf1⟩ := hp_18
    refine lv_ishl F.1 F.2.1 dX7_hangsOn_16 ?_
    refine z_top (fun v_19 zv_19 ev_19 => ?_)
    refine lv_aload_n F.1 F.2.1 dX7_hangsOn_17 rfl (lv_at hl 0 rfl) ?_
    refine lv_aload_n F.1 F.2.1 dX7_hangsOn_18 rfl (lv_at hl 0 rfl) ?_
    refine lv_iload_n F.1 F.2.1 dX7_hangsOn_19 rfl (lv_at hl 1 rfl) ?_
    refine g_calli (g_runV (As := [.int (iI rr)]) (rest := [.ref mo, .int (iI v_19)]) (ci := 7) F hl.1 hH hS hz (c_X7_firstOf l g gh T I R J AI AJ AR mo rr zrr hv hm hT (by omega)) (cwV 1 F.2.2.2.2.1 (good_up gT_X7_firstOf) rfl rfl rfl hdX7_firstOf ⟨Nat.le_of_ble_eq_true rfl, Nat.le_of_ble_eq_true rfl⟩) hm (by decide) rfl rfl rfl (Nat.le_of_ble_eq_true rfl) dX7_hangsOn_20 ⟨Nat.zero_le _, Nat.zero_le _⟩) hS (fun v_26 I_20 R_21 J_22 AI_23 AJ_24 AR_25 H locs zv_26 hp_27 hH hS => ?_)
    dsimp only at hp_27
    obtain ⟨rfl, rfl, rfl, rfl, rfl, rfl, qf2⟩ := hp_27
    refine g_calli (g_runV (As := [.int (iI v_26)]) (rest := [.int (iI v_19)]) (ci := 7) F hl.1 hH hS hz (c_X7_hangsOnh11 l g gh T I R J AI AJ AR mo v_26 zv_26 hv hm hT (by omega)) (cwV 1 F.2.2.2.2.1 (good_up gT_X7_hangsOn) rfl rfl rfl hdX7_hangsOn ⟨Nat.le_of_ble_eq_true rfl, Nat.le_of_ble_eq_true rfl⟩) hm (by decide) rfl rfl rfl (Nat.le_of_ble_eq_true rfl) dX7_hangsOn_23 ⟨Nat.zero_le _, Nat.zero_le _⟩) hS (fun v_34 I_28 R_29 J_30 AI_31 AJ_32 AR_33 H locs zv_34 hp_35 hH hS => ?_)
    dsimp only at hp_35
    obtain ⟨rfl, rfl, rfl, rfl, rfl, rfl, qh1⟩ := hp_35
    refine lv_ior F.1 F.2.1 dX7_hangsOn_26 ?_
    refine z_top (fun v_36 zv_36 ev_36 => ?_)
    have s1 : iI v_36 = kBt (kTf T rr.toNat) ||| kHs (kTk T) (kTf T) (kTs T) 11 (kTf T rr.toNat).toNat := by
      rw [ev_36, iI_self, ev_19, iI_self, qh1, qf1, qf2, eF]; rfl
    refine lv_istore_n (lv' := [(2, .int (iI v_36)), (0, .ref mo), (1, .int (iI rr))]) F.1 F.2.1 dX7_hangsOn_27 rfl hl (by decide) rfl (fun ls hl => ?_)
    refine lv_aload_n F.1 F.2.1 dX7_hangsOn_28 rfl (lv_at hl 1 rfl) ?_
    refine lv_iload_n F.1 F.2.1 dX7_hangsOn_29 rfl (lv_at hl 2 rfl) ?_
    refine g_calli (g_runV (As := [.int (iI rr)]) (rest := []) (ci := 7) F hl.1 hH hS hz (c_X7_secondOf l g gh T I R J AI AJ AR mo rr zrr hv hm hT (by omega)) (cwV 1 F.2.2.2.2.1 (good_up gT_X7_secondOf) rfl rfl rfl hdX7_secondOf ⟨Nat.le_of_ble_eq_true rfl, Nat.le_of_ble_eq_true rfl⟩) hm (by decide) rfl rfl rfl (Nat.le_of_ble_eq_true rfl) dX7_hangsOn_30 ⟨Nat.zero_le _, Nat.zero_le _⟩) hS (fun v_43 I_37 R_38 J_39 AI_40 AJ_41 AR_42 H locs zv_43 hp_44 hH hS => ?_)
    dsimp only at hp_44
    obtain ⟨rfl, rfl, rfl, rfl, rfl, rfl, qs1⟩ := hp_44
    refine z_if_ge (tgt := 40) F dX7_hangsOn_33 (by decide) zv_43 (fun c_45 => ?_) (fun c_45 => ?_)
    · refine lv_iload_n F.1 F.2.1 dX7_hangsOn_40 rfl (lv_at hl 0 rfl) ?_
      refine z_iconst F dX7_hangsOn_41 ?_
      refine lv_aload_n F.1 F.2.1 dX7_hangsOn_42 rfl (lv_at hl 1 rfl) ?_
      refine lv_iload_n F.1 F.2.1 dX7_hangsOn_43 rfl (lv_at hl 2 rfl) ?_
      refine g_calli (g_runV (As := [.int (iI rr)]) (rest := [.int (iI 1), .int (iI v_36)]) (ci := 7) F hl.1 hH hS hz (c_X7_secondOf l g gh T I R J AI AJ AR mo rr zrr hv hm hT (by omega)) (cwV 1 F.2.2.2.2.1 (good_up gT_X7_secondOf) rfl rfl rfl hdX7_secondOf ⟨Nat.le_of_ble_eq_true rfl, Nat.le_of_ble_eq_true rfl⟩) hm (by decide) rfl rfl rfl (Nat.le_of_ble_eq_true rfl) dX7_hangsOn_44 ⟨Nat.zero_le _, Nat.zero_le _⟩) hS (fun v_52 I_46 R_47 J_48 AI_49 AJ_50 AR_51 H locs zv_52 hp_53 hH hS => ?_)
      dsimp only at hp_53
      obtain ⟨rfl, rfl, rfl, rfl, rfl, rfl, qs2⟩ := hp_53
      refine lv_ishl F.1 F.2.1 dX7_hangsOn_47 ?_
      refine z_top (fun v_54 zv_54 ev_54 => ?_)
      refine lv_ior F.1 F.2.1 dX7_hangsOn_48 ?_
      refine z_top (fun v_55 zv_55 ev_55 => ?_)
      refine lv_aload_n F.1 F.2.1 dX7_hangsOn_49 rfl (lv_at hl 1 rfl) ?_
      refine lv_aload_n F.1 F.2.1 dX7_hangsOn_50 rfl (lv_at hl 1 rfl) ?_
      refine lv_iload_n F.1 F.2.1 dX7_hangsOn_51 rfl (lv_at hl 2 rfl) ?_
      refine g_calli (g_runV (As := [.int (iI rr)]) (rest := [.ref mo, .int (iI v_55)]) (ci := 7) F hl.1 hH hS hz (c_X7_secondOf l g gh T I R J AI AJ AR mo rr zrr hv hm hT (by omega)) (cwV 1 F.2.2.2.2.1 (good_up gT_X7_secondOf) rfl rfl rfl hdX7_secondOf ⟨Nat.le_of_ble_eq_true rfl, Nat.le_of_ble_eq_true rfl⟩) hm (by decide) rfl rfl rfl (Nat.le_of_ble_eq_true rfl) dX7_hangsOn_52 ⟨Nat.zero_le _, Nat.zero_le _⟩) hS (fun v_62 I_56 R_57 J_58 AI_59 AJ_60 AR_61 H locs zv_62 hp_63 hH hS => ?_)
      dsimp only at hp_63
      obtain ⟨rfl, rfl, rfl, rfl, rfl, rfl, qs3⟩ := hp_63
      refine g_calli (g_runV (As := [.int (iI v_62)]) (rest := [.int (iI v_55)]) (ci := 7) F hl.1 hH hS hz (c_X7_hangsOnh11 l g gh T I R J AI AJ AR mo v_62 zv_62 hv hm hT (by omega)) (cwV 1 F.2.2.2.2.1 (good_up gT_X7_hangsOn) rfl rfl rfl hdX7_hangsOn ⟨Nat.le_of_ble_eq_true rfl, Nat.le_of_ble_eq_true rfl⟩) hm (by decide) rfl rfl rfl (Nat.le_of_ble_eq_true rfl) dX7_hangsOn_55 ⟨Nat.zero_le _, Nat.zero_le _⟩) hS (fun v_70 I_64 R_65 J_66 AI_67 AJ_68 AR_69 H locs zv_70 hp_71 hH hS => ?_)
      dsimp only at hp_71
      obtain ⟨rfl, rfl, rfl, rfl, rfl, rfl, qh2⟩ := hp_71
      refine lv_ior F.1 F.2.1 dX7_hangsOn_58 ?_
      refine z_top (fun v_72 zv_72 ev_72 => ?_)
      have s2 : iI v_72 = ((kBt (kTf T rr.toNat) ||| kHs (kTk T) (kTf T) (kTs T) 11 (kTf T rr.toNat).toNat) ||| kBt (kTs T rr.toNat)) ||| kHs (kTk T) (kTf T) (kTs T) 11 (kTs T rr.toNat).toNat := by
        rw [ev_72, iI_self, ev_55, iI_self, s1, ev_54, iI_self, qh2, qs2, qs3, eS]; rfl
      exact g_iret F hr hlk hH hS hz zv_72 ⟨rfl, rfl, rfl, rfl, rfl, rfl, s2.trans (kHs_2 (d := 11) (by rw [eK]; omega) (by rw [eS]; omega)).symm⟩ dX7_hangsOn_59
    · refine lv_iload_n F.1 F.2.1 dX7_hangsOn_36 rfl (lv_at hl 0 rfl) ?_
      refine z_goto (tgt := 59) F dX7_hangsOn_37 (by decide) ?_
      exact g_iret F hr hlk hH hS hz zv_36 ⟨rfl, rfl, rfl, rfl, rfl, rfl, s1.trans (kHs_1 (d := 11) (by rw [eK]; omega) (by rw [eS]; omega)).symm⟩ dX7_hangsOn_59
  · refine z_iconst F dX7_hangsOn_8 ?_
    exact g_iret F hr hlk hH hS hz ⟨by decide, by decide⟩ ⟨rfl, rfl, rfl, rfl, rfl, rfl, (kHs_0 (d := 11) (by rw [eK]; omega)).symm⟩ dX7_hangsOn_9

def rmX7_hangsOnh13 : Room := { frames := 13, cells := 0, slots := 0, locals := 285 }
set_option maxHeartbeats 4000000 in
set_option maxRecDepth 100000 in
/-- hangsOn -/
theorem c_X7_hangsOnh13 (l : Launch) (g : gG) (gh : gGh) (T : Nat → Int32) (I : gI) (R : gR) (J : gJ) (AI : gI) (AJ : gJ) (AR : gR) (mo : Nat) (rr : Int) (zrr : zr rr) (hv : mInv g gh R I AI) (hm : gO g mo 7) (hT : AI (gh 50 0) = T) (hr0 : 0 ≤ rr ∧ rr < (I mo 2).toInt ∧ rr < 13) : gMet l g yX7_hangsOn tsX7_hangsOn rmX7_hangsOnh13 [.ref mo, .int (iI rr)] (I, R, J, AI, AJ, AR) (gQi g (fun (z : Int) (w : gS) => I = w.1 ∧ R = w.2.1 ∧ J = w.2.2.1 ∧ AI = w.2.2.2.1 ∧ AJ = w.2.2.2.2.1 ∧ AR = w.2.2.2.2.2 ∧ (iI z = kHs (kTk T) (kTf T) (kTs T) 13 rr.toNat))) := by
  refine gStart (cc := cX7_hangsOn) (maxL := 3) (ret := (some (.int))) (by decide) rfl (Nat.le_of_ble_eq_true rfl) ?_
  intro p e s m below meth c ls F hr hlk hH hz hS hl
  have hl : lv_has ls 3 [(0, .ref mo), (1, .int (iI rr))] := hl
  have hS : va_S (gA g) s.heap s.heap [] := hS
  obtain ⟨H, hHe⟩ : ∃ H : Heap, H = s.heap := ⟨_, rfl⟩
  obtain ⟨locs, hlo⟩ : ∃ k : List Loc, k = [] := ⟨_, rfl⟩
  have hH : gH g I R J AI AJ AR H := by rw [hHe]; exact hH
  have hS : va_S (gA g) s.heap H locs := by rw [hHe, hlo]; exact hS
  suffices hw : W p l e rmX7_hangsOnh13 s m ([.ref mo, .int (iI rr)] : List Value).toArray below meth c H locs 0 0 (MQ below (gQi g (fun (z : Int) (w : gS) => I = w.1 ∧ R = w.2.1 ∧ J = w.2.2.1 ∧ AI = w.2.2.2.1 ∧ AJ = w.2.2.2.2.1 ∧ AR = w.2.2.2.2.2 ∧ (iI z = kHs (kTk T) (kTf T) (kTs T) 13 rr.toNat))) ([.ref mo, .int (iI rr)] : List Value).toArray s 0 0 (gA g)) (F0 m 0 ls []) by
    rw [hHe, hlo] at hw; exact hw
  clear hHe hlo
  have hb0 := mJ hv hm
  unfold mNum1 at hb0
  have x := mRow hv hm hT (z := rr) (by omega) (by omega)
  have xa := x.1
  have xc := x.2.2.1
  have xb := x.2.1
  have ern : ((rr.toNat : Nat) : Int) = rr := Int.toNat_of_nonneg hr0.1
  have eK : kTk T rr.toNat = tI T (40 * rr) := by unfold kTk; rw [ern]
  have eF : kTf T rr.toNat = tI T (40 * rr + 2) := by unfold kTf; rw [ern]
  have eS : kTs T rr.toNat = tI T (40 * rr + 3) := by unfold kTs; rw [ern]
  refine lv_aload_n F.1 F.2.1 dX7_hangsOn_0 rfl (lv_at hl 0 rfl) ?_
  refine lv_iload_n F.1 F.2.1 dX7_hangsOn_1 rfl (lv_at hl 1 rfl) ?_
  have b_1 := mJ hv hm
  unfold mNum1 at b_1
  refine g_calli (g_runV (As := [.int (iI rr)]) (rest := []) (ci := 7) F hl.1 hH hS hz (c_X7_kindOf l g gh T I R J AI AJ AR mo rr zrr hv hm hT (by omega)) (cwV 1 F.2.2.2.2.1 (good_up gT_X7_kindOf) rfl rfl rfl hdX7_kindOf ⟨Nat.le_of_ble_eq_true rfl, Nat.le_of_ble_eq_true rfl⟩) hm (by decide) rfl rfl rfl (Nat.le_of_ble_eq_true rfl) dX7_hangsOn_2 ⟨Nat.zero_le _, Nat.zero_le _⟩) hS (fun v_8 I_2 R_3 J_4 AI_5 AJ_6 AR_7 H locs zv_8 hp_9 hH hS => ?_)
  dsimp only at hp_9
  obtain ⟨rfl, rfl, rfl, rfl, rfl, rfl, qk⟩ := hp_9
  refine z_if_ne (tgt := 10) F dX7_hangsOn_5 (by decide) zv_8 (fun c_10 => ?_) (fun c_10 => ?_)
  · refine z_iconst F dX7_hangsOn_10 ?_
    refine lv_aload_n F.1 F.2.1 dX7_hangsOn_11 rfl (lv_at hl 0 rfl) ?_
    refine lv_iload_n F.1 F.2.1 dX7_hangsOn_12 rfl (lv_at hl 1 rfl) ?_
    refine g_calli (g_runV (As := [.int (iI rr)]) (rest := [.int (iI 1)]) (ci := 7) F hl.1 hH hS hz (c_X7_firstOf l g gh T I R J AI AJ AR mo rr zrr hv hm hT (by omega)) (cwV 1 F.2.2.2.2.1 (good_up gT_X7_firstOf) rfl rfl rfl hdX7_firstOf ⟨Nat.le_of_ble_eq_true rfl, Nat.le_of_ble_eq_true rfl⟩) hm (by decide) rfl rfl rfl (Nat.le_of_ble_eq_true rfl) dX7_hangsOn_13 ⟨Nat.zero_le _, Nat.zero_le _⟩) hS (fun v_17 I_11 R_12 J_13 AI_14 AJ_15 AR_16 H locs zv_17 hp_18 hH hS => ?_)
    dsimp only at hp_18
    obtain ⟨rfl, rfl, rfl, rfl, rfl, rfl, qf1⟩ := hp_18
    refine lv_ishl F.1 F.2.1 dX7_hangsOn_16 ?_
    refine z_top (fun v_19 zv_19 ev_19 => ?_)
    refine lv_aload_n F.1 F.2.1 dX7_hangsOn_17 rfl (lv_at hl 0 rfl) ?_
    refine lv_aload_n F.1 F.2.1 dX7_hangsOn_18 rfl (lv_at hl 0 rfl) ?_
    refine lv_iload_n F.1 F.2.1 dX7_hangsOn_19 rfl (lv_at hl 1 rfl) ?_
    refine g_calli (g_runV (As := [.int (iI rr)]) (rest := [.ref mo, .int (iI v_19)]) (ci := 7) F hl.1 hH hS hz (c_X7_firstOf l g gh T I R J AI AJ AR mo rr zrr hv hm hT (by omega)) (cwV 1 F.2.2.2.2.1 (good_up gT_X7_firstOf) rfl rfl rfl hdX7_firstOf ⟨Nat.le_of_ble_eq_true rfl, Nat.le_of_ble_eq_true rfl⟩) hm (by decide) rfl rfl rfl (Nat.le_of_ble_eq_true rfl) dX7_hangsOn_20 ⟨Nat.zero_le _, Nat.zero_le _⟩) hS (fun v_26 I_20 R_21 J_22 AI_23 AJ_24 AR_25 H locs zv_26 hp_27 hH hS => ?_)
    dsimp only at hp_27
    obtain ⟨rfl, rfl, rfl, rfl, rfl, rfl, qf2⟩ := hp_27
    refine g_calli (g_runV (As := [.int (iI v_26)]) (rest := [.int (iI v_19)]) (ci := 7) F hl.1 hH hS hz (c_X7_hangsOnh12 l g gh T I R J AI AJ AR mo v_26 zv_26 hv hm hT (by omega)) (cwV 1 F.2.2.2.2.1 (good_up gT_X7_hangsOn) rfl rfl rfl hdX7_hangsOn ⟨Nat.le_of_ble_eq_true rfl, Nat.le_of_ble_eq_true rfl⟩) hm (by decide) rfl rfl rfl (Nat.le_of_ble_eq_true rfl) dX7_hangsOn_23 ⟨Nat.zero_le _, Nat.zero_le _⟩) hS (fun v_34 I_28 R_29 J_30 AI_31 AJ_32 AR_33 H locs zv_34 hp_35 hH hS => ?_)
    dsimp only at hp_35
    obtain ⟨rfl, rfl, rfl, rfl, rfl, rfl, qh1⟩ := hp_35
    refine lv_ior F.1 F.2.1 dX7_hangsOn_26 ?_
    refine z_top (fun v_36 zv_36 ev_36 => ?_)
    have s1 : iI v_36 = kBt (kTf T rr.toNat) ||| kHs (kTk T) (kTf T) (kTs T) 12 (kTf T rr.toNat).toNat := by
      rw [ev_36, iI_self, ev_19, iI_self, qh1, qf1, qf2, eF]; rfl
    refine lv_istore_n (lv' := [(2, .int (iI v_36)), (0, .ref mo), (1, .int (iI rr))]) F.1 F.2.1 dX7_hangsOn_27 rfl hl (by decide) rfl (fun ls hl => ?_)
    refine lv_aload_n F.1 F.2.1 dX7_hangsOn_28 rfl (lv_at hl 1 rfl) ?_
    refine lv_iload_n F.1 F.2.1 dX7_hangsOn_29 rfl (lv_at hl 2 rfl) ?_
    refine g_calli (g_runV (As := [.int (iI rr)]) (rest := []) (ci := 7) F hl.1 hH hS hz (c_X7_secondOf l g gh T I R J AI AJ AR mo rr zrr hv hm hT (by omega)) (cwV 1 F.2.2.2.2.1 (good_up gT_X7_secondOf) rfl rfl rfl hdX7_secondOf ⟨Nat.le_of_ble_eq_true rfl, Nat.le_of_ble_eq_true rfl⟩) hm (by decide) rfl rfl rfl (Nat.le_of_ble_eq_true rfl) dX7_hangsOn_30 ⟨Nat.zero_le _, Nat.zero_le _⟩) hS (fun v_43 I_37 R_38 J_39 AI_40 AJ_41 AR_42 H locs zv_43 hp_44 hH hS => ?_)
    dsimp only at hp_44
    obtain ⟨rfl, rfl, rfl, rfl, rfl, rfl, qs1⟩ := hp_44
    refine z_if_ge (tgt := 40) F dX7_hangsOn_33 (by decide) zv_43 (fun c_45 => ?_) (fun c_45 => ?_)
    · refine lv_iload_n F.1 F.2.1 dX7_hangsOn_40 rfl (lv_at hl 0 rfl) ?_
      refine z_iconst F dX7_hangsOn_41 ?_
      refine lv_aload_n F.1 F.2.1 dX7_hangsOn_42 rfl (lv_at hl 1 rfl) ?_
      refine lv_iload_n F.1 F.2.1 dX7_hangsOn_43 rfl (lv_at hl 2 rfl) ?_
      refine g_calli (g_runV (As := [.int (iI rr)]) (rest := [.int (iI 1), .int (iI v_36)]) (ci := 7) F hl.1 hH hS hz (c_X7_secondOf l g gh T I R J AI AJ AR mo rr zrr hv hm hT (by omega)) (cwV 1 F.2.2.2.2.1 (good_up gT_X7_secondOf) rfl rfl rfl hdX7_secondOf ⟨Nat.le_of_ble_eq_true rfl, Nat.le_of_ble_eq_true rfl⟩) hm (by decide) rfl rfl rfl (Nat.le_of_ble_eq_true rfl) dX7_hangsOn_44 ⟨Nat.zero_le _, Nat.zero_le _⟩) hS (fun v_52 I_46 R_47 J_48 AI_49 AJ_50 AR_51 H locs zv_52 hp_53 hH hS => ?_)
      dsimp only at hp_53
      obtain ⟨rfl, rfl, rfl, rfl, rfl, rfl, qs2⟩ := hp_53
      refine lv_ishl F.1 F.2.1 dX7_hangsOn_47 ?_
      refine z_top (fun v_54 zv_54 ev_54 => ?_)
      refine lv_ior F.1 F.2.1 dX7_hangsOn_48 ?_
      refine z_top (fun v_55 zv_55 ev_55 => ?_)
      refine lv_aload_n F.1 F.2.1 dX7_hangsOn_49 rfl (lv_at hl 1 rfl) ?_
      refine lv_aload_n F.1 F.2.1 dX7_hangsOn_50 rfl (lv_at hl 1 rfl) ?_
      refine lv_iload_n F.1 F.2.1 dX7_hangsOn_51 rfl (lv_at hl 2 rfl) ?_
      refine g_calli (g_runV (As := [.int (iI rr)]) (rest := [.ref mo, .int (iI v_55)]) (ci := 7) F hl.1 hH hS hz (c_X7_secondOf l g gh T I R J AI AJ AR mo rr zrr hv hm hT (by omega)) (cwV 1 F.2.2.2.2.1 (good_up gT_X7_secondOf) rfl rfl rfl hdX7_secondOf ⟨Nat.le_of_ble_eq_true rfl, Nat.le_of_ble_eq_true rfl⟩) hm (by decide) rfl rfl rfl (Nat.le_of_ble_eq_true rfl) dX7_hangsOn_52 ⟨Nat.zero_le _, Nat.zero_le _⟩) hS (fun v_62 I_56 R_57 J_58 AI_59 AJ_60 AR_61 H locs zv_62 hp_63 hH hS => ?_)
      dsimp only at hp_63
      obtain ⟨rfl, rfl, rfl, rfl, rfl, rfl, qs3⟩ := hp_63
      refine g_calli (g_runV (As := [.int (iI v_62)]) (rest := [.int (iI v_55)]) (ci := 7) F hl.1 hH hS hz (c_X7_hangsOnh12 l g gh T I R J AI AJ AR mo v_62 zv_62 hv hm hT (by omega)) (cwV 1 F.2.2.2.2.1 (good_up gT_X7_hangsOn) rfl rfl rfl hdX7_hangsOn ⟨Nat.le_of_ble_eq_true rfl, Nat.le_of_ble_eq_true rfl⟩) hm (by decide) rfl rfl rfl (Nat.le_of_ble_eq_true rfl) dX7_hangsOn_55 ⟨Nat.zero_le _, Nat.zero_le _⟩) hS (fun v_70 I_64 R_65 J_66 AI_67 AJ_68 AR_69 H locs zv_70 hp_71 hH hS => ?_)
      dsimp only at hp_71
      obtain ⟨rfl, rfl, rfl, rfl, rfl, rfl, qh2⟩ := hp_71
      refine lv_ior F.1 F.2.1 dX7_hangsOn_58 ?_
      refine z_top (fun v_72 zv_72 ev_72 => ?_)
      have s2 : iI v_72 = ((kBt (kTf T rr.toNat) ||| kHs (kTk T) (kTf T) (kTs T) 12 (kTf T rr.toNat).toNat) ||| kBt (kTs T rr.toNat)) ||| kHs (kTk T) (kTf T) (kTs T) 12 (kTs T rr.toNat).toNat := by
        rw [ev_72, iI_self, ev_55, iI_self, s1, ev_54, iI_self, qh2, qs2, qs3, eS]; rfl
      exact g_iret F hr hlk hH hS hz zv_72 ⟨rfl, rfl, rfl, rfl, rfl, rfl, s2.trans (kHs_2 (d := 12) (by rw [eK]; omega) (by rw [eS]; omega)).symm⟩ dX7_hangsOn_59
    · refine lv_iload_n F.1 F.2.1 dX7_hangsOn_36 rfl (lv_at hl 0 rfl) ?_
      refine z_goto (tgt := 59) F dX7_hangsOn_37 (by decide) ?_
      exact g_iret F hr hlk hH hS hz zv_36 ⟨rfl, rfl, rfl, rfl, rfl, rfl, s1.trans (kHs_1 (d := 12) (by rw [eK]; omega) (by rw [eS]; omega)).symm⟩ dX7_hangsOn_59
  · refine z_iconst F dX7_hangsOn_8 ?_
    exact g_iret F hr hlk hH hS hz ⟨by decide, by decide⟩ ⟨rfl, rfl, rfl, rfl, rfl, rfl, (kHs_0 (d := 12) (by rw [eK]; omega)).symm⟩ dX7_hangsOn_9

def rmX7_hangsOnh14 : Room := { frames := 14, cells := 0, slots := 0, locals := 307 }
set_option maxHeartbeats 4000000 in
set_option maxRecDepth 100000 in
/-- hangsOn -/
theorem c_X7_hangsOnh14 (l : Launch) (g : gG) (gh : gGh) (T : Nat → Int32) (I : gI) (R : gR) (J : gJ) (AI : gI) (AJ : gJ) (AR : gR) (mo : Nat) (rr : Int) (zrr : zr rr) (hv : mInv g gh R I AI) (hm : gO g mo 7) (hT : AI (gh 50 0) = T) (hr0 : 0 ≤ rr ∧ rr < (I mo 2).toInt ∧ rr < 14) : gMet l g yX7_hangsOn tsX7_hangsOn rmX7_hangsOnh14 [.ref mo, .int (iI rr)] (I, R, J, AI, AJ, AR) (gQi g (fun (z : Int) (w : gS) => I = w.1 ∧ R = w.2.1 ∧ J = w.2.2.1 ∧ AI = w.2.2.2.1 ∧ AJ = w.2.2.2.2.1 ∧ AR = w.2.2.2.2.2 ∧ (iI z = kHs (kTk T) (kTf T) (kTs T) 14 rr.toNat))) := by
  refine gStart (cc := cX7_hangsOn) (maxL := 3) (ret := (some (.int))) (by decide) rfl (Nat.le_of_ble_eq_true rfl) ?_
  intro p e s m below meth c ls F hr hlk hH hz hS hl
  have hl : lv_has ls 3 [(0, .ref mo), (1, .int (iI rr))] := hl
  have hS : va_S (gA g) s.heap s.heap [] := hS
  obtain ⟨H, hHe⟩ : ∃ H : Heap, H = s.heap := ⟨_, rfl⟩
  obtain ⟨locs, hlo⟩ : ∃ k : List Loc, k = [] := ⟨_, rfl⟩
  have hH : gH g I R J AI AJ AR H := by rw [hHe]; exact hH
  have hS : va_S (gA g) s.heap H locs := by rw [hHe, hlo]; exact hS
  suffices hw : W p l e rmX7_hangsOnh14 s m ([.ref mo, .int (iI rr)] : List Value).toArray below meth c H locs 0 0 (MQ below (gQi g (fun (z : Int) (w : gS) => I = w.1 ∧ R = w.2.1 ∧ J = w.2.2.1 ∧ AI = w.2.2.2.1 ∧ AJ = w.2.2.2.2.1 ∧ AR = w.2.2.2.2.2 ∧ (iI z = kHs (kTk T) (kTf T) (kTs T) 14 rr.toNat))) ([.ref mo, .int (iI rr)] : List Value).toArray s 0 0 (gA g)) (F0 m 0 ls []) by
    rw [hHe, hlo] at hw; exact hw
  clear hHe hlo
  have hb0 := mJ hv hm
  unfold mNum1 at hb0
  have x := mRow hv hm hT (z := rr) (by omega) (by omega)
  have xa := x.1
  have xc := x.2.2.1
  have xb := x.2.1
  have ern : ((rr.toNat : Nat) : Int) = rr := Int.toNat_of_nonneg hr0.1
  have eK : kTk T rr.toNat = tI T (40 * rr) := by unfold kTk; rw [ern]
  have eF : kTf T rr.toNat = tI T (40 * rr + 2) := by unfold kTf; rw [ern]
  have eS : kTs T rr.toNat = tI T (40 * rr + 3) := by unfold kTs; rw [ern]
  refine lv_aload_n F.1 F.2.1 dX7_hangsOn_0 rfl (lv_at hl 0 rfl) ?_
  refine lv_iload_n F.1 F.2.1 dX7_hangsOn_1 rfl (lv_at hl 1 rfl) ?_
  have b_1 := mJ hv hm
  unfold mNum1 at b_1
  refine g_calli (g_runV (As := [.int (iI rr)]) (rest := []) (ci := 7) F hl.1 hH hS hz (c_X7_kindOf l g gh T I R J AI AJ AR mo rr zrr hv hm hT (by omega)) (cwV 1 F.2.2.2.2.1 (good_up gT_X7_kindOf) rfl rfl rfl hdX7_kindOf ⟨Nat.le_of_ble_eq_true rfl, Nat.le_of_ble_eq_true rfl⟩) hm (by decide) rfl rfl rfl (Nat.le_of_ble_eq_true rfl) dX7_hangsOn_2 ⟨Nat.zero_le _, Nat.zero_le _⟩) hS (fun v_8 I_2 R_3 J_4 AI_5 AJ_6 AR_7 H locs zv_8 hp_9 hH hS => ?_)
  dsimp only at hp_9
  obtain ⟨rfl, rfl, rfl, rfl, rfl, rfl, qk⟩ := hp_9
  refine z_if_ne (tgt := 10) F dX7_hangsOn_5 (by decide) zv_8 (fun c_10 => ?_) (fun c_10 => ?_)
  · refine z_iconst F dX7_hangsOn_10 ?_
    refine lv_aload_n F.1 F.2.1 dX7_hangsOn_11 rfl (lv_at hl 0 rfl) ?_
    refine lv_iload_n F.1 F.2.1 dX7_hangsOn_12 rfl (lv_at hl 1 rfl) ?_
    refine g_calli (g_runV (As := [.int (iI rr)]) (rest := [.int (iI 1)]) (ci := 7) F hl.1 hH hS hz (c_X7_firstOf l g gh T I R J AI AJ AR mo rr zrr hv hm hT (by omega)) (cwV 1 F.2.2.2.2.1 (good_up gT_X7_firstOf) rfl rfl rfl hdX7_firstOf ⟨Nat.le_of_ble_eq_true rfl, Nat.le_of_ble_eq_true rfl⟩) hm (by decide) rfl rfl rfl (Nat.le_of_ble_eq_true rfl) dX7_hangsOn_13 ⟨Nat.zero_le _, Nat.zero_le _⟩) hS (fun v_17 I_11 R_12 J_13 AI_14 AJ_15 AR_16 H locs zv_17 hp_18 hH hS => ?_)
    dsimp only at hp_18
    obtain ⟨rfl, rfl, rfl, rfl, rfl, rfl, qf1⟩ := hp_18
    refine lv_ishl F.1 F.2.1 dX7_hangsOn_16 ?_
    refine z_top (fun v_19 zv_19 ev_19 => ?_)
    refine lv_aload_n F.1 F.2.1 dX7_hangsOn_17 rfl (lv_at hl 0 rfl) ?_
    refine lv_aload_n F.1 F.2.1 dX7_hangsOn_18 rfl (lv_at hl 0 rfl) ?_
    refine lv_iload_n F.1 F.2.1 dX7_hangsOn_19 rfl (lv_at hl 1 rfl) ?_
    refine g_calli (g_runV (As := [.int (iI rr)]) (rest := [.ref mo, .int (iI v_19)]) (ci := 7) F hl.1 hH hS hz (c_X7_firstOf l g gh T I R J AI AJ AR mo rr zrr hv hm hT (by omega)) (cwV 1 F.2.2.2.2.1 (good_up gT_X7_firstOf) rfl rfl rfl hdX7_firstOf ⟨Nat.le_of_ble_eq_true rfl, Nat.le_of_ble_eq_true rfl⟩) hm (by decide) rfl rfl rfl (Nat.le_of_ble_eq_true rfl) dX7_hangsOn_20 ⟨Nat.zero_le _, Nat.zero_le _⟩) hS (fun v_26 I_20 R_21 J_22 AI_23 AJ_24 AR_25 H locs zv_26 hp_27 hH hS => ?_)
    dsimp only at hp_27
    obtain ⟨rfl, rfl, rfl, rfl, rfl, rfl, qf2⟩ := hp_27
    refine g_calli (g_runV (As := [.int (iI v_26)]) (rest := [.int (iI v_19)]) (ci := 7) F hl.1 hH hS hz (c_X7_hangsOnh13 l g gh T I R J AI AJ AR mo v_26 zv_26 hv hm hT (by omega)) (cwV 1 F.2.2.2.2.1 (good_up gT_X7_hangsOn) rfl rfl rfl hdX7_hangsOn ⟨Nat.le_of_ble_eq_true rfl, Nat.le_of_ble_eq_true rfl⟩) hm (by decide) rfl rfl rfl (Nat.le_of_ble_eq_true rfl) dX7_hangsOn_23 ⟨Nat.zero_le _, Nat.zero_le _⟩) hS (fun v_34 I_28 R_29 J_30 AI_31 AJ_32 AR_33 H locs zv_34 hp_35 hH hS => ?_)
    dsimp only at hp_35
    obtain ⟨rfl, rfl, rfl, rfl, rfl, rfl, qh1⟩ := hp_35
    refine lv_ior F.1 F.2.1 dX7_hangsOn_26 ?_
    refine z_top (fun v_36 zv_36 ev_36 => ?_)
    have s1 : iI v_36 = kBt (kTf T rr.toNat) ||| kHs (kTk T) (kTf T) (kTs T) 13 (kTf T rr.toNat).toNat := by
      rw [ev_36, iI_self, ev_19, iI_self, qh1, qf1, qf2, eF]; rfl
    refine lv_istore_n (lv' := [(2, .int (iI v_36)), (0, .ref mo), (1, .int (iI rr))]) F.1 F.2.1 dX7_hangsOn_27 rfl hl (by decide) rfl (fun ls hl => ?_)
    refine lv_aload_n F.1 F.2.1 dX7_hangsOn_28 rfl (lv_at hl 1 rfl) ?_
    refine lv_iload_n F.1 F.2.1 dX7_hangsOn_29 rfl (lv_at hl 2 rfl) ?_
    refine g_calli (g_runV (As := [.int (iI rr)]) (rest := []) (ci := 7) F hl.1 hH hS hz (c_X7_secondOf l g gh T I R J AI AJ AR mo rr zrr hv hm hT (by omega)) (cwV 1 F.2.2.2.2.1 (good_up gT_X7_secondOf) rfl rfl rfl hdX7_secondOf ⟨Nat.le_of_ble_eq_true rfl, Nat.le_of_ble_eq_true rfl⟩) hm (by decide) rfl rfl rfl (Nat.le_of_ble_eq_true rfl) dX7_hangsOn_30 ⟨Nat.zero_le _, Nat.zero_le _⟩) hS (fun v_43 I_37 R_38 J_39 AI_40 AJ_41 AR_42 H locs zv_43 hp_44 hH hS => ?_)
    dsimp only at hp_44
    obtain ⟨rfl, rfl, rfl, rfl, rfl, rfl, qs1⟩ := hp_44
    refine z_if_ge (tgt := 40) F dX7_hangsOn_33 (by decide) zv_43 (fun c_45 => ?_) (fun c_45 => ?_)
    · refine lv_iload_n F.1 F.2.1 dX7_hangsOn_40 rfl (lv_at hl 0 rfl) ?_
      refine z_iconst F dX7_hangsOn_41 ?_
      refine lv_aload_n F.1 F.2.1 dX7_hangsOn_42 rfl (lv_at hl 1 rfl) ?_
      refine lv_iload_n F.1 F.2.1 dX7_hangsOn_43 rfl (lv_at hl 2 rfl) ?_
      refine g_calli (g_runV (As := [.int (iI rr)]) (rest := [.int (iI 1), .int (iI v_36)]) (ci := 7) F hl.1 hH hS hz (c_X7_secondOf l g gh T I R J AI AJ AR mo rr zrr hv hm hT (by omega)) (cwV 1 F.2.2.2.2.1 (good_up gT_X7_secondOf) rfl rfl rfl hdX7_secondOf ⟨Nat.le_of_ble_eq_true rfl, Nat.le_of_ble_eq_true rfl⟩) hm (by decide) rfl rfl rfl (Nat.le_of_ble_eq_true rfl) dX7_hangsOn_44 ⟨Nat.zero_le _, Nat.zero_le _⟩) hS (fun v_52 I_46 R_47 J_48 AI_49 AJ_50 AR_51 H locs zv_52 hp_53 hH hS => ?_)
      dsimp only at hp_53
      obtain ⟨rfl, rfl, rfl, rfl, rfl, rfl, qs2⟩ := hp_53
      refine lv_ishl F.1 F.2.1 dX7_hangsOn_47 ?_
      refine z_top (fun v_54 zv_54 ev_54 => ?_)
      refine lv_ior F.1 F.2.1 dX7_hangsOn_48 ?_
      refine z_top (fun v_55 zv_55 ev_55 => ?_)
      refine lv_aload_n F.1 F.2.1 dX7_hangsOn_49 rfl (lv_at hl 1 rfl) ?_
      refine lv_aload_n F.1 F.2.1 dX7_hangsOn_50 rfl (lv_at hl 1 rfl) ?_
      refine lv_iload_n F.1 F.2.1 dX7_hangsOn_51 rfl (lv_at hl 2 rfl) ?_
      refine g_calli (g_runV (As := [.int (iI rr)]) (rest := [.ref mo, .int (iI v_55)]) (ci := 7) F hl.1 hH hS hz (c_X7_secondOf l g gh T I R J AI AJ AR mo rr zrr hv hm hT (by omega)) (cwV 1 F.2.2.2.2.1 (good_up gT_X7_secondOf) rfl rfl rfl hdX7_secondOf ⟨Nat.le_of_ble_eq_true rfl, Nat.le_of_ble_eq_true rfl⟩) hm (by decide) rfl rfl rfl (Nat.le_of_ble_eq_true rfl) dX7_hangsOn_52 ⟨Nat.zero_le _, Nat.zero_le _⟩) hS (fun v_62 I_56 R_57 J_58 AI_59 AJ_60 AR_61 H locs zv_62 hp_63 hH hS => ?_)
      dsimp only at hp_63
      obtain ⟨rfl, rfl, rfl, rfl, rfl, rfl, qs3⟩ := hp_63
      refine g_calli (g_runV (As := [.int (iI v_62)]) (rest := [.int (iI v_55)]) (ci := 7) F hl.1 hH hS hz (c_X7_hangsOnh13 l g gh T I R J AI AJ AR mo v_62 zv_62 hv hm hT (by omega)) (cwV 1 F.2.2.2.2.1 (good_up gT_X7_hangsOn) rfl rfl rfl hdX7_hangsOn ⟨Nat.le_of_ble_eq_true rfl, Nat.le_of_ble_eq_true rfl⟩) hm (by decide) rfl rfl rfl (Nat.le_of_ble_eq_true rfl) dX7_hangsOn_55 ⟨Nat.zero_le _, Nat.zero_le _⟩) hS (fun v_70 I_64 R_65 J_66 AI_67 AJ_68 AR_69 H locs zv_70 hp_71 hH hS => ?_)
      dsimp only at hp_71
      obtain ⟨rfl, rfl, rfl, rfl, rfl, rfl, qh2⟩ := hp_71
      refine lv_ior F.1 F.2.1 dX7_hangsOn_58 ?_
      refine z_top (fun v_72 zv_72 ev_72 => ?_)
      have s2 : iI v_72 = ((kBt (kTf T rr.toNat) ||| kHs (kTk T) (kTf T) (kTs T) 13 (kTf T rr.toNat).toNat) ||| kBt (kTs T rr.toNat)) ||| kHs (kTk T) (kTf T) (kTs T) 13 (kTs T rr.toNat).toNat := by
        rw [ev_72, iI_self, ev_55, iI_self, s1, ev_54, iI_self, qh2, qs2, qs3, eS]; rfl
      exact g_iret F hr hlk hH hS hz zv_72 ⟨rfl, rfl, rfl, rfl, rfl, rfl, s2.trans (kHs_2 (d := 13) (by rw [eK]; omega) (by rw [eS]; omega)).symm⟩ dX7_hangsOn_59
    · refine lv_iload_n F.1 F.2.1 dX7_hangsOn_36 rfl (lv_at hl 0 rfl) ?_
      refine z_goto (tgt := 59) F dX7_hangsOn_37 (by decide) ?_
      exact g_iret F hr hlk hH hS hz zv_36 ⟨rfl, rfl, rfl, rfl, rfl, rfl, s1.trans (kHs_1 (d := 13) (by rw [eK]; omega) (by rw [eS]; omega)).symm⟩ dX7_hangsOn_59
  · refine z_iconst F dX7_hangsOn_8 ?_
    exact g_iret F hr hlk hH hS hz ⟨by decide, by decide⟩ ⟨rfl, rfl, rfl, rfl, rfl, rfl, (kHs_0 (d := 13) (by rw [eK]; omega)).symm⟩ dX7_hangsOn_9

def rmX7_hangsOnh15 : Room := { frames := 15, cells := 0, slots := 0, locals := 329 }
set_option maxHeartbeats 4000000 in
set_option maxRecDepth 100000 in
/-- hangsOn -/
theorem c_X7_hangsOnh15 (l : Launch) (g : gG) (gh : gGh) (T : Nat → Int32) (I : gI) (R : gR) (J : gJ) (AI : gI) (AJ : gJ) (AR : gR) (mo : Nat) (rr : Int) (zrr : zr rr) (hv : mInv g gh R I AI) (hm : gO g mo 7) (hT : AI (gh 50 0) = T) (hr0 : 0 ≤ rr ∧ rr < (I mo 2).toInt ∧ rr < 15) : gMet l g yX7_hangsOn tsX7_hangsOn rmX7_hangsOnh15 [.ref mo, .int (iI rr)] (I, R, J, AI, AJ, AR) (gQi g (fun (z : Int) (w : gS) => I = w.1 ∧ R = w.2.1 ∧ J = w.2.2.1 ∧ AI = w.2.2.2.1 ∧ AJ = w.2.2.2.2.1 ∧ AR = w.2.2.2.2.2 ∧ (iI z = kHs (kTk T) (kTf T) (kTs T) 15 rr.toNat))) := by
  refine gStart (cc := cX7_hangsOn) (maxL := 3) (ret := (some (.int))) (by decide) rfl (Nat.le_of_ble_eq_true rfl) ?_
  intro p e s m below meth c ls F hr hlk hH hz hS hl
  have hl : lv_has ls 3 [(0, .ref mo), (1, .int (iI rr))] := hl
  have hS : va_S (gA g) s.heap s.heap [] := hS
  obtain ⟨H, hHe⟩ : ∃ H : Heap, H = s.heap := ⟨_, rfl⟩
  obtain ⟨locs, hlo⟩ : ∃ k : List Loc, k = [] := ⟨_, rfl⟩
  have hH : gH g I R J AI AJ AR H := by rw [hHe]; exact hH
  have hS : va_S (gA g) s.heap H locs := by rw [hHe, hlo]; exact hS
  suffices hw : W p l e rmX7_hangsOnh15 s m ([.ref mo, .int (iI rr)] : List Value).toArray below meth c H locs 0 0 (MQ below (gQi g (fun (z : Int) (w : gS) => I = w.1 ∧ R = w.2.1 ∧ J = w.2.2.1 ∧ AI = w.2.2.2.1 ∧ AJ = w.2.2.2.2.1 ∧ AR = w.2.2.2.2.2 ∧ (iI z = kHs (kTk T) (kTf T) (kTs T) 15 rr.toNat))) ([.ref mo, .int (iI rr)] : List Value).toArray s 0 0 (gA g)) (F0 m 0 ls []) by
    rw [hHe, hlo] at hw; exact hw
  clear hHe hlo
  have hb0 := mJ hv hm
  unfold mNum1 at hb0
  have x := mRow hv hm hT (z := rr) (by omega) (by omega)
  have xa := x.1
  have xc := x.2.2.1
  have xb := x.2.1
  have ern : ((rr.toNat : Nat) : Int) = rr := Int.toNat_of_nonneg hr0.1
  have eK : kTk T rr.toNat = tI T (40 * rr) := by unfold kTk; rw [ern]
  have eF : kTf T rr.toNat = tI T (40 * rr + 2) := by unfold kTf; rw [ern]
  have eS : kTs T rr.toNat = tI T (40 * rr + 3) := by unfold kTs; rw [ern]
  refine lv_aload_n F.1 F.2.1 dX7_hangsOn_0 rfl (lv_at hl 0 rfl) ?_
  refine lv_iload_n F.1 F.2.1 dX7_hangsOn_1 rfl (lv_at hl 1 rfl) ?_
  have b_1 := mJ hv hm
  unfold mNum1 at b_1
  refine g_calli (g_runV (As := [.int (iI rr)]) (rest := []) (ci := 7) F hl.1 hH hS hz (c_X7_kindOf l g gh T I R J AI AJ AR mo rr zrr hv hm hT (by omega)) (cwV 1 F.2.2.2.2.1 (good_up gT_X7_kindOf) rfl rfl rfl hdX7_kindOf ⟨Nat.le_of_ble_eq_true rfl, Nat.le_of_ble_eq_true rfl⟩) hm (by decide) rfl rfl rfl (Nat.le_of_ble_eq_true rfl) dX7_hangsOn_2 ⟨Nat.zero_le _, Nat.zero_le _⟩) hS (fun v_8 I_2 R_3 J_4 AI_5 AJ_6 AR_7 H locs zv_8 hp_9 hH hS => ?_)
  dsimp only at hp_9
  obtain ⟨rfl, rfl, rfl, rfl, rfl, rfl, qk⟩ := hp_9
  refine z_if_ne (tgt := 10) F dX7_hangsOn_5 (by decide) zv_8 (fun c_10 => ?_) (fun c_10 => ?_)
  · refine z_iconst F dX7_hangsOn_10 ?_
    refine lv_aload_n F.1 F.2.1 dX7_hangsOn_11 rfl (lv_at hl 0 rfl) ?_
    refine lv_iload_n F.1 F.2.1 dX7_hangsOn_12 rfl (lv_at hl 1 rfl) ?_
    refine g_calli (g_runV (As := [.int (iI rr)]) (rest := [.int (iI 1)]) (ci := 7) F hl.1 hH hS hz (c_X7_firstOf l g gh T I R J AI AJ AR mo rr zrr hv hm hT (by omega)) (cwV 1 F.2.2.2.2.1 (good_up gT_X7_firstOf) rfl rfl rfl hdX7_firstOf ⟨Nat.le_of_ble_eq_true rfl, Nat.le_of_ble_eq_true rfl⟩) hm (by decide) rfl rfl rfl (Nat.le_of_ble_eq_true rfl) dX7_hangsOn_13 ⟨Nat.zero_le _, Nat.zero_le _⟩) hS (fun v_17 I_11 R_12 J_13 AI_14 AJ_15 AR_16 H locs zv_17 hp_18 hH hS => ?_)
    dsimp only at hp_18
    obtain ⟨rfl, rfl, rfl, rfl, rfl, rfl, qf1⟩ := hp_18
    refine lv_ishl F.1 F.2.1 dX7_hangsOn_16 ?_
    refine z_top (fun v_19 zv_19 ev_19 => ?_)
    refine lv_aload_n F.1 F.2.1 dX7_hangsOn_17 rfl (lv_at hl 0 rfl) ?_
    refine lv_aload_n F.1 F.2.1 dX7_hangsOn_18 rfl (lv_at hl 0 rfl) ?_
    refine lv_iload_n F.1 F.2.1 dX7_hangsOn_19 rfl (lv_at hl 1 rfl) ?_
    refine g_calli (g_runV (As := [.int (iI rr)]) (rest := [.ref mo, .int (iI v_19)]) (ci := 7) F hl.1 hH hS hz (c_X7_firstOf l g gh T I R J AI AJ AR mo rr zrr hv hm hT (by omega)) (cwV 1 F.2.2.2.2.1 (good_up gT_X7_firstOf) rfl rfl rfl hdX7_firstOf ⟨Nat.le_of_ble_eq_true rfl, Nat.le_of_ble_eq_true rfl⟩) hm (by decide) rfl rfl rfl (Nat.le_of_ble_eq_true rfl) dX7_hangsOn_20 ⟨Nat.zero_le _, Nat.zero_le _⟩) hS (fun v_26 I_20 R_21 J_22 AI_23 AJ_24 AR_25 H locs zv_26 hp_27 hH hS => ?_)
    dsimp only at hp_27
    obtain ⟨rfl, rfl, rfl, rfl, rfl, rfl, qf2⟩ := hp_27
    refine g_calli (g_runV (As := [.int (iI v_26)]) (rest := [.int (iI v_19)]) (ci := 7) F hl.1 hH hS hz (c_X7_hangsOnh14 l g gh T I R J AI AJ AR mo v_26 zv_26 hv hm hT (by omega)) (cwV 1 F.2.2.2.2.1 (good_up gT_X7_hangsOn) rfl rfl rfl hdX7_hangsOn ⟨Nat.le_of_ble_eq_true rfl, Nat.le_of_ble_eq_true rfl⟩) hm (by decide) rfl rfl rfl (Nat.le_of_ble_eq_true rfl) dX7_hangsOn_23 ⟨Nat.zero_le _, Nat.zero_le _⟩) hS (fun v_34 I_28 R_29 J_30 AI_31 AJ_32 AR_33 H locs zv_34 hp_35 hH hS => ?_)
    dsimp only at hp_35
    obtain ⟨rfl, rfl, rfl, rfl, rfl, rfl, qh1⟩ := hp_35
    refine lv_ior F.1 F.2.1 dX7_hangsOn_26 ?_
    refine z_top (fun v_36 zv_36 ev_36 => ?_)
    have s1 : iI v_36 = kBt (kTf T rr.toNat) ||| kHs (kTk T) (kTf T) (kTs T) 14 (kTf T rr.toNat).toNat := by
      rw [ev_36, iI_self, ev_19, iI_self, qh1, qf1, qf2, eF]; rfl
    refine lv_istore_n (lv' := [(2, .int (iI v_36)), (0, .ref mo), (1, .int (iI rr))]) F.1 F.2.1 dX7_hangsOn_27 rfl hl (by decide) rfl (fun ls hl => ?_)
    refine lv_aload_n F.1 F.2.1 dX7_hangsOn_28 rfl (lv_at hl 1 rfl) ?_
    refine lv_iload_n F.1 F.2.1 dX7_hangsOn_29 rfl (lv_at hl 2 rfl) ?_
    refine g_calli (g_runV (As := [.int (iI rr)]) (rest := []) (ci := 7) F hl.1 hH hS hz (c_X7_secondOf l g gh T I R J AI AJ AR mo rr zrr hv hm hT (by omega)) (cwV 1 F.2.2.2.2.1 (good_up gT_X7_secondOf) rfl rfl rfl hdX7_secondOf ⟨Nat.le_of_ble_eq_true rfl, Nat.le_of_ble_eq_true rfl⟩) hm (by decide) rfl rfl rfl (Nat.le_of_ble_eq_true rfl) dX7_hangsOn_30 ⟨Nat.zero_le _, Nat.zero_le _⟩) hS (fun v_43 I_37 R_38 J_39 AI_40 AJ_41 AR_42 H locs zv_43 hp_44 hH hS => ?_)
    dsimp only at hp_44
    obtain ⟨rfl, rfl, rfl, rfl, rfl, rfl, qs1⟩ := hp_44
    refine z_if_ge (tgt := 40) F dX7_hangsOn_33 (by decide) zv_43 (fun c_45 => ?_) (fun c_45 => ?_)
    · refine lv_iload_n F.1 F.2.1 dX7_hangsOn_40 rfl (lv_at hl 0 rfl) ?_
      refine z_iconst F dX7_hangsOn_41 ?_
      refine lv_aload_n F.1 F.2.1 dX7_hangsOn_42 rfl (lv_at hl 1 rfl) ?_
      refine lv_iload_n F.1 F.2.1 dX7_hangsOn_43 rfl (lv_at hl 2 rfl) ?_
      refine g_calli (g_runV (As := [.int (iI rr)]) (rest := [.int (iI 1), .int (iI v_36)]) (ci := 7) F hl.1 hH hS hz (c_X7_secondOf l g gh T I R J AI AJ AR mo rr zrr hv hm hT (by omega)) (cwV 1 F.2.2.2.2.1 (good_up gT_X7_secondOf) rfl rfl rfl hdX7_secondOf ⟨Nat.le_of_ble_eq_true rfl, Nat.le_of_ble_eq_true rfl⟩) hm (by decide) rfl rfl rfl (Nat.le_of_ble_eq_true rfl) dX7_hangsOn_44 ⟨Nat.zero_le _, Nat.zero_le _⟩) hS (fun v_52 I_46 R_47 J_48 AI_49 AJ_50 AR_51 H locs zv_52 hp_53 hH hS => ?_)
      dsimp only at hp_53
      obtain ⟨rfl, rfl, rfl, rfl, rfl, rfl, qs2⟩ := hp_53
      refine lv_ishl F.1 F.2.1 dX7_hangsOn_47 ?_
      refine z_top (fun v_54 zv_54 ev_54 => ?_)
      refine lv_ior F.1 F.2.1 dX7_hangsOn_48 ?_
      refine z_top (fun v_55 zv_55 ev_55 => ?_)
      refine lv_aload_n F.1 F.2.1 dX7_hangsOn_49 rfl (lv_at hl 1 rfl) ?_
      refine lv_aload_n F.1 F.2.1 dX7_hangsOn_50 rfl (lv_at hl 1 rfl) ?_
      refine lv_iload_n F.1 F.2.1 dX7_hangsOn_51 rfl (lv_at hl 2 rfl) ?_
      refine g_calli (g_runV (As := [.int (iI rr)]) (rest := [.ref mo, .int (iI v_55)]) (ci := 7) F hl.1 hH hS hz (c_X7_secondOf l g gh T I R J AI AJ AR mo rr zrr hv hm hT (by omega)) (cwV 1 F.2.2.2.2.1 (good_up gT_X7_secondOf) rfl rfl rfl hdX7_secondOf ⟨Nat.le_of_ble_eq_true rfl, Nat.le_of_ble_eq_true rfl⟩) hm (by decide) rfl rfl rfl (Nat.le_of_ble_eq_true rfl) dX7_hangsOn_52 ⟨Nat.zero_le _, Nat.zero_le _⟩) hS (fun v_62 I_56 R_57 J_58 AI_59 AJ_60 AR_61 H locs zv_62 hp_63 hH hS => ?_)
      dsimp only at hp_63
      obtain ⟨rfl, rfl, rfl, rfl, rfl, rfl, qs3⟩ := hp_63
      refine g_calli (g_runV (As := [.int (iI v_62)]) (rest := [.int (iI v_55)]) (ci := 7) F hl.1 hH hS hz (c_X7_hangsOnh14 l g gh T I R J AI AJ AR mo v_62 zv_62 hv hm hT (by omega)) (cwV 1 F.2.2.2.2.1 (good_up gT_X7_hangsOn) rfl rfl rfl hdX7_hangsOn ⟨Nat.le_of_ble_eq_true rfl, Nat.le_of_ble_eq_true rfl⟩) hm (by decide) rfl rfl rfl (Nat.le_of_ble_eq_true rfl) dX7_hangsOn_55 ⟨Nat.zero_le _, Nat.zero_le _⟩) hS (fun v_70 I_64 R_65 J_66 AI_67 AJ_68 AR_69 H locs zv_70 hp_71 hH hS => ?_)
      dsimp only at hp_71
      obtain ⟨rfl, rfl, rfl, rfl, rfl, rfl, qh2⟩ := hp_71
      refine lv_ior F.1 F.2.1 dX7_hangsOn_58 ?_
      refine z_top (fun v_72 zv_72 ev_72 => ?_)
      have s2 : iI v_72 = ((kBt (kTf T rr.toNat) ||| kHs (kTk T) (kTf T) (kTs T) 14 (kTf T rr.toNat).toNat) ||| kBt (kTs T rr.toNat)) ||| kHs (kTk T) (kTf T) (kTs T) 14 (kTs T rr.toNat).toNat := by
        rw [ev_72, iI_self, ev_55, iI_self, s1, ev_54, iI_self, qh2, qs2, qs3, eS]; rfl
      exact g_iret F hr hlk hH hS hz zv_72 ⟨rfl, rfl, rfl, rfl, rfl, rfl, s2.trans (kHs_2 (d := 14) (by rw [eK]; omega) (by rw [eS]; omega)).symm⟩ dX7_hangsOn_59
    · refine lv_iload_n F.1 F.2.1 dX7_hangsOn_36 rfl (lv_at hl 0 rfl) ?_
      refine z_goto (tgt := 59) F dX7_hangsOn_37 (by decide) ?_
      exact g_iret F hr hlk hH hS hz zv_36 ⟨rfl, rfl, rfl, rfl, rfl, rfl, s1.trans (kHs_1 (d := 14) (by rw [eK]; omega) (by rw [eS]; omega)).symm⟩ dX7_hangsOn_59
  · refine z_iconst F dX7_hangsOn_8 ?_
    exact g_iret F hr hlk hH hS hz ⟨by decide, by decide⟩ ⟨rfl, rfl, rfl, rfl, rfl, rfl, (kHs_0 (d := 14) (by rw [eK]; omega)).symm⟩ dX7_hangsOn_9

def rmX7_hangsOnh16 : Room := { frames := 16, cells := 0, slots := 0, locals := 351 }
set_option maxHeartbeats 4000000 in
set_option maxRecDepth 100000 in
/-- hangsOn -/
theorem c_X7_hangsOnh16 (l : Launch) (g : gG) (gh : gGh) (T : Nat → Int32) (I : gI) (R : gR) (J : gJ) (AI : gI) (AJ : gJ) (AR : gR) (mo : Nat) (rr : Int) (zrr : zr rr) (hv : mInv g gh R I AI) (hm : gO g mo 7) (hT : AI (gh 50 0) = T) (hr0 : 0 ≤ rr ∧ rr < (I mo 2).toInt ∧ rr < 16) : gMet l g yX7_hangsOn tsX7_hangsOn rmX7_hangsOnh16 [.ref mo, .int (iI rr)] (I, R, J, AI, AJ, AR) (gQi g (fun (z : Int) (w : gS) => I = w.1 ∧ R = w.2.1 ∧ J = w.2.2.1 ∧ AI = w.2.2.2.1 ∧ AJ = w.2.2.2.2.1 ∧ AR = w.2.2.2.2.2 ∧ (iI z = kHs (kTk T) (kTf T) (kTs T) 16 rr.toNat))) := by
  refine gStart (cc := cX7_hangsOn) (maxL := 3) (ret := (some (.int))) (by decide) rfl (Nat.le_of_ble_eq_true rfl) ?_
  intro p e s m below meth c ls F hr hlk hH hz hS hl
  have hl : lv_has ls 3 [(0, .ref mo), (1, .int (iI rr))] := hl
  have hS : va_S (gA g) s.heap s.heap [] := hS
  obtain ⟨H, hHe⟩ : ∃ H : Heap, H = s.heap := ⟨_, rfl⟩
  obtain ⟨locs, hlo⟩ : ∃ k : List Loc, k = [] := ⟨_, rfl⟩
  have hH : gH g I R J AI AJ AR H := by rw [hHe]; exact hH
  have hS : va_S (gA g) s.heap H locs := by rw [hHe, hlo]; exact hS
  suffices hw : W p l e rmX7_hangsOnh16 s m ([.ref mo, .int (iI rr)] : List Value).toArray below meth c H locs 0 0 (MQ below (gQi g (fun (z : Int) (w : gS) => I = w.1 ∧ R = w.2.1 ∧ J = w.2.2.1 ∧ AI = w.2.2.2.1 ∧ AJ = w.2.2.2.2.1 ∧ AR = w.2.2.2.2.2 ∧ (iI z = kHs (kTk T) (kTf T) (kTs T) 16 rr.toNat))) ([.ref mo, .int (iI rr)] : List Value).toArray s 0 0 (gA g)) (F0 m 0 ls []) by
    rw [hHe, hlo] at hw; exact hw
  clear hHe hlo
  have hb0 := mJ hv hm
  unfold mNum1 at hb0
  have x := mRow hv hm hT (z := rr) (by omega) (by omega)
  have xa := x.1
  have xc := x.2.2.1
  have xb := x.2.1
  have ern : ((rr.toNat : Nat) : Int) = rr := Int.toNat_of_nonneg hr0.1
  have eK : kTk T rr.toNat = tI T (40 * rr) := by unfold kTk; rw [ern]
  have eF : kTf T rr.toNat = tI T (40 * rr + 2) := by unfold kTf; rw [ern]
  have eS : kTs T rr.toNat = tI T (40 * rr + 3) := by unfold kTs; rw [ern]
  refine lv_aload_n F.1 F.2.1 dX7_hangsOn_0 rfl (lv_at hl 0 rfl) ?_
  refine lv_iload_n F.1 F.2.1 dX7_hangsOn_1 rfl (lv_at hl 1 rfl) ?_
  have b_1 := mJ hv hm
  unfold mNum1 at b_1
  refine g_calli (g_runV (As := [.int (iI rr)]) (rest := []) (ci := 7) F hl.1 hH hS hz (c_X7_kindOf l g gh T I R J AI AJ AR mo rr zrr hv hm hT (by omega)) (cwV 1 F.2.2.2.2.1 (good_up gT_X7_kindOf) rfl rfl rfl hdX7_kindOf ⟨Nat.le_of_ble_eq_true rfl, Nat.le_of_ble_eq_true rfl⟩) hm (by decide) rfl rfl rfl (Nat.le_of_ble_eq_true rfl) dX7_hangsOn_2 ⟨Nat.zero_le _, Nat.zero_le _⟩) hS (fun v_8 I_2 R_3 J_4 AI_5 AJ_6 AR_7 H locs zv_8 hp_9 hH hS => ?_)
  dsimp only at hp_9
  obtain ⟨rfl, rfl, rfl, rfl, rfl, rfl, qk⟩ := hp_9
  refine z_if_ne (tgt := 10) F dX7_hangsOn_5 (by decide) zv_8 (fun c_10 => ?_) (fun c_10 => ?_)
  · refine z_iconst F dX7_hangsOn_10 ?_
    refine lv_aload_n F.1 F.2.1 dX7_hangsOn_11 rfl (lv_at hl 0 rfl) ?_
    refine lv_iload_n F.1 F.2.1 dX7_hangsOn_12 rfl (lv_at hl 1 rfl) ?_
    refine g_calli (g_runV (As := [.int (iI rr)]) (rest := [.int (iI 1)]) (ci := 7) F hl.1 hH hS hz (c_X7_firstOf l g gh T I R J AI AJ AR mo rr zrr hv hm hT (by omega)) (cwV 1 F.2.2.2.2.1 (good_up gT_X7_firstOf) rfl rfl rfl hdX7_firstOf ⟨Nat.le_of_ble_eq_true rfl, Nat.le_of_ble_eq_true rfl⟩) hm (by decide) rfl rfl rfl (Nat.le_of_ble_eq_true rfl) dX7_hangsOn_13 ⟨Nat.zero_le _, Nat.zero_le _⟩) hS (fun v_17 I_11 R_12 J_13 AI_14 AJ_15 AR_16 H locs zv_17 hp_18 hH hS => ?_)
    dsimp only at hp_18
    obtain ⟨rfl, rfl, rfl, rfl, rfl, rfl, qf1⟩ := hp_18
    refine lv_ishl F.1 F.2.1 dX7_hangsOn_16 ?_
    refine z_top (fun v_19 zv_19 ev_19 => ?_)
    refine lv_aload_n F.1 F.2.1 dX7_hangsOn_17 rfl (lv_at hl 0 rfl) ?_
    refine lv_aload_n F.1 F.2.1 dX7_hangsOn_18 rfl (lv_at hl 0 rfl) ?_
    refine lv_iload_n F.1 F.2.1 dX7_hangsOn_19 rfl (lv_at hl 1 rfl) ?_
    refine g_calli (g_runV (As := [.int (iI rr)]) (rest := [.ref mo, .int (iI v_19)]) (ci := 7) F hl.1 hH hS hz (c_X7_firstOf l g gh T I R J AI AJ AR mo rr zrr hv hm hT (by omega)) (cwV 1 F.2.2.2.2.1 (good_up gT_X7_firstOf) rfl rfl rfl hdX7_firstOf ⟨Nat.le_of_ble_eq_true rfl, Nat.le_of_ble_eq_true rfl⟩) hm (by decide) rfl rfl rfl (Nat.le_of_ble_eq_true rfl) dX7_hangsOn_20 ⟨Nat.zero_le _, Nat.zero_le _⟩) hS (fun v_26 I_20 R_21 J_22 AI_23 AJ_24 AR_25 H locs zv_26 hp_27 hH hS => ?_)
    dsimp only at hp_27
    obtain ⟨rfl, rfl, rfl, rfl, rfl, rfl, qf2⟩ := hp_27
    refine g_calli (g_runV (As := [.int (iI v_26)]) (rest := [.int (iI v_19)]) (ci := 7) F hl.1 hH hS hz (c_X7_hangsOnh15 l g gh T I R J AI AJ AR mo v_26 zv_26 hv hm hT (by omega)) (cwV 1 F.2.2.2.2.1 (good_up gT_X7_hangsOn) rfl rfl rfl hdX7_hangsOn ⟨Nat.le_of_ble_eq_true rfl, Nat.le_of_ble_eq_true rfl⟩) hm (by decide) rfl rfl rfl (Nat.le_of_ble_eq_true rfl) dX7_hangsOn_23 ⟨Nat.zero_le _, Nat.zero_le _⟩) hS (fun v_34 I_28 R_29 J_30 AI_31 AJ_32 AR_33 H locs zv_34 hp_35 hH hS => ?_)
    dsimp only at hp_35
    obtain ⟨rfl, rfl, rfl, rfl, rfl, rfl, qh1⟩ := hp_35
    refine lv_ior F.1 F.2.1 dX7_hangsOn_26 ?_
    refine z_top (fun v_36 zv_36 ev_36 => ?_)
    have s1 : iI v_36 = kBt (kTf T rr.toNat) ||| kHs (kTk T) (kTf T) (kTs T) 15 (kTf T rr.toNat).toNat := by
      rw [ev_36, iI_self, ev_19, iI_self, qh1, qf1, qf2, eF]; rfl
    refine lv_istore_n (lv' := [(2, .int (iI v_36)), (0, .ref mo), (1, .int (iI rr))]) F.1 F.2.1 dX7_hangsOn_27 rfl hl (by decide) rfl (fun ls hl => ?_)
    refine lv_aload_n F.1 F.2.1 dX7_hangsOn_28 rfl (lv_at hl 1 rfl) ?_
    refine lv_iload_n F.1 F.2.1 dX7_hangsOn_29 rfl (lv_at hl 2 rfl) ?_
    refine g_calli (g_runV (As := [.int (iI rr)]) (rest := []) (ci := 7) F hl.1 hH hS hz (c_X7_secondOf l g gh T I R J AI AJ AR mo rr zrr hv hm hT (by omega)) (cwV 1 F.2.2.2.2.1 (good_up gT_X7_secondOf) rfl rfl rfl hdX7_secondOf ⟨Nat.le_of_ble_eq_true rfl, Nat.le_of_ble_eq_true rfl⟩) hm (by decide) rfl rfl rfl (Nat.le_of_ble_eq_true rfl) dX7_hangsOn_30 ⟨Nat.zero_le _, Nat.zero_le _⟩) hS (fun v_43 I_37 R_38 J_39 AI_40 AJ_41 AR_42 H locs zv_43 hp_44 hH hS => ?_)
    dsimp only at hp_44
    obtain ⟨rfl, rfl, rfl, rfl, rfl, rfl, qs1⟩ := hp_44
    refine z_if_ge (tgt := 40) F dX7_hangsOn_33 (by decide) zv_43 (fun c_45 => ?_) (fun c_45 => ?_)
    · refine lv_iload_n F.1 F.2.1 dX7_hangsOn_40 rfl (lv_at hl 0 rfl) ?_
      refine z_iconst F dX7_hangsOn_41 ?_
      refine lv_aload_n F.1 F.2.1 dX7_hangsOn_42 rfl (lv_at hl 1 rfl) ?_
      refine lv_iload_n F.1 F.2.1 dX7_hangsOn_43 rfl (lv_at hl 2 rfl) ?_
      refine g_calli (g_runV (As := [.int (iI rr)]) (rest := [.int (iI 1), .int (iI v_36)]) (ci := 7) F hl.1 hH hS hz (c_X7_secondOf l g gh T I R J AI AJ AR mo rr zrr hv hm hT (by omega)) (cwV 1 F.2.2.2.2.1 (good_up gT_X7_secondOf) rfl rfl rfl hdX7_secondOf ⟨Nat.le_of_ble_eq_true rfl, Nat.le_of_ble_eq_true rfl⟩) hm (by decide) rfl rfl rfl (Nat.le_of_ble_eq_true rfl) dX7_hangsOn_44 ⟨Nat.zero_le _, Nat.zero_le _⟩) hS (fun v_52 I_46 R_47 J_48 AI_49 AJ_50 AR_51 H locs zv_52 hp_53 hH hS => ?_)
      dsimp only at hp_53
      obtain ⟨rfl, rfl, rfl, rfl, rfl, rfl, qs2⟩ := hp_53
      refine lv_ishl F.1 F.2.1 dX7_hangsOn_47 ?_
      refine z_top (fun v_54 zv_54 ev_54 => ?_)
      refine lv_ior F.1 F.2.1 dX7_hangsOn_48 ?_
      refine z_top (fun v_55 zv_55 ev_55 => ?_)
      refine lv_aload_n F.1 F.2.1 dX7_hangsOn_49 rfl (lv_at hl 1 rfl) ?_
      refine lv_aload_n F.1 F.2.1 dX7_hangsOn_50 rfl (lv_at hl 1 rfl) ?_
      refine lv_iload_n F.1 F.2.1 dX7_hangsOn_51 rfl (lv_at hl 2 rfl) ?_
      refine g_calli (g_runV (As := [.int (iI rr)]) (rest := [.ref mo, .int (iI v_55)]) (ci := 7) F hl.1 hH hS hz (c_X7_secondOf l g gh T I R J AI AJ AR mo rr zrr hv hm hT (by omega)) (cwV 1 F.2.2.2.2.1 (good_up gT_X7_secondOf) rfl rfl rfl hdX7_secondOf ⟨Nat.le_of_ble_eq_true rfl, Nat.le_of_ble_eq_true rfl⟩) hm (by decide) rfl rfl rfl (Nat.le_of_ble_eq_true rfl) dX7_hangsOn_52 ⟨Nat.zero_le _, Nat.zero_le _⟩) hS (fun v_62 I_56 R_57 J_58 AI_59 AJ_60 AR_61 H locs zv_62 hp_63 hH hS => ?_)
      dsimp only at hp_63
      obtain ⟨rfl, rfl, rfl, rfl, rfl, rfl, qs3⟩ := hp_63
      refine g_calli (g_runV (As := [.int (iI v_62)]) (rest := [.int (iI v_55)]) (ci := 7) F hl.1 hH hS hz (c_X7_hangsOnh15 l g gh T I R J AI AJ AR mo v_62 zv_62 hv hm hT (by omega)) (cwV 1 F.2.2.2.2.1 (good_up gT_X7_hangsOn) rfl rfl rfl hdX7_hangsOn ⟨Nat.le_of_ble_eq_true rfl, Nat.le_of_ble_eq_true rfl⟩) hm (by decide) rfl rfl rfl (Nat.le_of_ble_eq_true rfl) dX7_hangsOn_55 ⟨Nat.zero_le _, Nat.zero_le _⟩) hS (fun v_70 I_64 R_65 J_66 AI_67 AJ_68 AR_69 H locs zv_70 hp_71 hH hS => ?_)
      dsimp only at hp_71
      obtain ⟨rfl, rfl, rfl, rfl, rfl, rfl, qh2⟩ := hp_71
      refine lv_ior F.1 F.2.1 dX7_hangsOn_58 ?_
      refine z_top (fun v_72 zv_72 ev_72 => ?_)
      have s2 : iI v_72 = ((kBt (kTf T rr.toNat) ||| kHs (kTk T) (kTf T) (kTs T) 15 (kTf T rr.toNat).toNat) ||| kBt (kTs T rr.toNat)) ||| kHs (kTk T) (kTf T) (kTs T) 15 (kTs T rr.toNat).toNat := by
        rw [ev_72, iI_self, ev_55, iI_self, s1, ev_54, iI_self, qh2, qs2, qs3, eS]; rfl
      exact g_iret F hr hlk hH hS hz zv_72 ⟨rfl, rfl, rfl, rfl, rfl, rfl, s2.trans (kHs_2 (d := 15) (by rw [eK]; omega) (by rw [eS]; omega)).symm⟩ dX7_hangsOn_59
    · refine lv_iload_n F.1 F.2.1 dX7_hangsOn_36 rfl (lv_at hl 0 rfl) ?_
      refine z_goto (tgt := 59) F dX7_hangsOn_37 (by decide) ?_
      exact g_iret F hr hlk hH hS hz zv_36 ⟨rfl, rfl, rfl, rfl, rfl, rfl, s1.trans (kHs_1 (d := 15) (by rw [eK]; omega) (by rw [eS]; omega)).symm⟩ dX7_hangsOn_59
  · refine z_iconst F dX7_hangsOn_8 ?_
    exact g_iret F hr hlk hH hS hz ⟨by decide, by decide⟩ ⟨rfl, rfl, rfl, rfl, rfl, rfl, (kHs_0 (d := 15) (by rw [eK]; omega)).symm⟩ dX7_hangsOn_9

def rmX7_farOfh1 : Room := { frames := 1, cells := 0, slots := 0, locals := 21 }
set_option maxHeartbeats 4000000 in
set_option maxRecDepth 100000 in
/-- farOf -/
theorem c_X7_farOfh1 (l : Launch) (g : gG) (gh : gGh) (T : Nat → Int32) (I : gI) (R : gR) (J : gJ) (AI : gI) (AJ : gJ) (AR : gR) (mo : Nat) (rr : Int) (zrr : zr rr) (hv : mInv g gh R I AI) (hm : gO g mo 7) (hT : AI (gh 50 0) = T) (hr0 : 0 ≤ rr ∧ rr < (I mo 2).toInt ∧ rr < 1) : gMet l g yX7_farOf tsX7_farOf rmX7_farOfh1 [.ref mo, .int (iI rr)] (I, R, J, AI, AJ, AR) (gQi g (fun (z : Int) (w : gS) => I = w.1 ∧ R = w.2.1 ∧ J = w.2.2.1 ∧ AI = w.2.2.2.1 ∧ AJ = w.2.2.2.2.1 ∧ AR = w.2.2.2.2.2 ∧ (0 ≤ z ∧ z ≤ 1) ∧ (z = kDs (kTk T) (kTf T) (kTs T) 1 rr.toNat))) := by
  refine gStart (cc := cX7_farOf) (maxL := 4) (ret := (some (.int))) (by decide) rfl (Nat.le_of_ble_eq_true rfl) ?_
  intro p e s m below meth c ls F hr hlk hH hz hS hl
  have hl : lv_has ls 4 [(0, .ref mo), (1, .int (iI rr))] := hl
  have hS : va_S (gA g) s.heap s.heap [] := hS
  obtain ⟨H, hHe⟩ : ∃ H : Heap, H = s.heap := ⟨_, rfl⟩
  obtain ⟨locs, hlo⟩ : ∃ k : List Loc, k = [] := ⟨_, rfl⟩
  have hH : gH g I R J AI AJ AR H := by rw [hHe]; exact hH
  have hS : va_S (gA g) s.heap H locs := by rw [hHe, hlo]; exact hS
  suffices hw : W p l e rmX7_farOfh1 s m ([.ref mo, .int (iI rr)] : List Value).toArray below meth c H locs 0 0 (MQ below (gQi g (fun (z : Int) (w : gS) => I = w.1 ∧ R = w.2.1 ∧ J = w.2.2.1 ∧ AI = w.2.2.2.1 ∧ AJ = w.2.2.2.2.1 ∧ AR = w.2.2.2.2.2 ∧ (0 ≤ z ∧ z ≤ 1) ∧ (z = kDs (kTk T) (kTf T) (kTs T) 1 rr.toNat))) ([.ref mo, .int (iI rr)] : List Value).toArray s 0 0 (gA g)) (F0 m 0 ls []) by
    rw [hHe, hlo] at hw; exact hw
  clear hHe hlo
  have hb0 := mJ hv hm
  unfold mNum1 at hb0
  have x := mRow hv hm hT (z := rr) (by omega) (by omega)
  have xa := x.1
  have xc := x.2.2.1
  have xb := x.2.1
  have ern : ((rr.toNat : Nat) : Int) = rr := Int.toNat_of_nonneg hr0.1
  have eK : kTk T rr.toNat = tI T (40 * rr) := by unfold kTk; rw [ern]
  have eF : kTf T rr.toNat = tI T (40 * rr + 2) := by unfold kTf; rw [ern]
  have eS : kTs T rr.toNat = tI T (40 * rr + 3) := by unfold kTs; rw [ern]
  refine lv_aload_n F.1 F.2.1 dX7_farOf_0 rfl (lv_at hl 0 rfl) ?_
  refine lv_iload_n F.1 F.2.1 dX7_farOf_1 rfl (lv_at hl 1 rfl) ?_
  have b_1 := mJ hv hm
  unfold mNum1 at b_1
  refine g_calli (g_runV (As := [.int (iI rr)]) (rest := []) (ci := 7) F hl.1 hH hS hz (c_X7_kindOf l g gh T I R J AI AJ AR mo rr zrr hv hm hT (by omega)) (cwV 1 F.2.2.2.2.1 (good_up gT_X7_kindOf) rfl rfl rfl hdX7_kindOf ⟨Nat.le_of_ble_eq_true rfl, Nat.le_of_ble_eq_true rfl⟩) hm (by decide) rfl rfl rfl (Nat.le_of_ble_eq_true rfl) dX7_farOf_2 ⟨Nat.zero_le _, Nat.zero_le _⟩) hS (fun v_8 I_2 R_3 J_4 AI_5 AJ_6 AR_7 H locs zv_8 hp_9 hH hS => ?_)
  dsimp only at hp_9
  obtain ⟨rfl, rfl, rfl, rfl, rfl, rfl, qk⟩ := hp_9
  refine z_if_ne (tgt := 10) F dX7_farOf_5 (by decide) zv_8 (fun c_10 => ?_) (fun c_10 => ?_)
  · exact absurd trivial (by omega)
  · refine z_iconst F dX7_farOf_8 ?_
    exact g_iret F hr hlk hH hS hz ⟨by decide, by decide⟩ ⟨rfl, rfl, rfl, rfl, rfl, rfl, by first | omega | rfl | (dsimp only; omega), (kDs_0 (d := 0) (by rw [eK]; omega)).symm⟩ dX7_farOf_9

def rmX7_farOfh2 : Room := { frames := 2, cells := 0, slots := 0, locals := 44 }
set_option maxHeartbeats 4000000 in
set_option maxRecDepth 100000 in
/-- farOf -/
theorem c_X7_farOfh2 (l : Launch) (g : gG) (gh : gGh) (T : Nat → Int32) (I : gI) (R : gR) (J : gJ) (AI : gI) (AJ : gJ) (AR : gR) (mo : Nat) (rr : Int) (zrr : zr rr) (hv : mInv g gh R I AI) (hm : gO g mo 7) (hT : AI (gh 50 0) = T) (hr0 : 0 ≤ rr ∧ rr < (I mo 2).toInt ∧ rr < 2) : gMet l g yX7_farOf tsX7_farOf rmX7_farOfh2 [.ref mo, .int (iI rr)] (I, R, J, AI, AJ, AR) (gQi g (fun (z : Int) (w : gS) => I = w.1 ∧ R = w.2.1 ∧ J = w.2.2.1 ∧ AI = w.2.2.2.1 ∧ AJ = w.2.2.2.2.1 ∧ AR = w.2.2.2.2.2 ∧ (0 ≤ z ∧ z ≤ 2) ∧ (z = kDs (kTk T) (kTf T) (kTs T) 2 rr.toNat))) := by
  refine gStart (cc := cX7_farOf) (maxL := 4) (ret := (some (.int))) (by decide) rfl (Nat.le_of_ble_eq_true rfl) ?_
  intro p e s m below meth c ls F hr hlk hH hz hS hl
  have hl : lv_has ls 4 [(0, .ref mo), (1, .int (iI rr))] := hl
  have hS : va_S (gA g) s.heap s.heap [] := hS
  obtain ⟨H, hHe⟩ : ∃ H : Heap, H = s.heap := ⟨_, rfl⟩
  obtain ⟨locs, hlo⟩ : ∃ k : List Loc, k = [] := ⟨_, rfl⟩
  have hH : gH g I R J AI AJ AR H := by rw [hHe]; exact hH
  have hS : va_S (gA g) s.heap H locs := by rw [hHe, hlo]; exact hS
  suffices hw : W p l e rmX7_farOfh2 s m ([.ref mo, .int (iI rr)] : List Value).toArray below meth c H locs 0 0 (MQ below (gQi g (fun (z : Int) (w : gS) => I = w.1 ∧ R = w.2.1 ∧ J = w.2.2.1 ∧ AI = w.2.2.2.1 ∧ AJ = w.2.2.2.2.1 ∧ AR = w.2.2.2.2.2 ∧ (0 ≤ z ∧ z ≤ 2) ∧ (z = kDs (kTk T) (kTf T) (kTs T) 2 rr.toNat))) ([.ref mo, .int (iI rr)] : List Value).toArray s 0 0 (gA g)) (F0 m 0 ls []) by
    rw [hHe, hlo] at hw; exact hw
  clear hHe hlo
  have hb0 := mJ hv hm
  unfold mNum1 at hb0
  have x := mRow hv hm hT (z := rr) (by omega) (by omega)
  have xa := x.1
  have xc := x.2.2.1
  have xb := x.2.1
  have ern : ((rr.toNat : Nat) : Int) = rr := Int.toNat_of_nonneg hr0.1
  have eK : kTk T rr.toNat = tI T (40 * rr) := by unfold kTk; rw [ern]
  have eF : kTf T rr.toNat = tI T (40 * rr + 2) := by unfold kTf; rw [ern]
  have eS : kTs T rr.toNat = tI T (40 * rr + 3) := by unfold kTs; rw [ern]
  refine lv_aload_n F.1 F.2.1 dX7_farOf_0 rfl (lv_at hl 0 rfl) ?_
  refine lv_iload_n F.1 F.2.1 dX7_farOf_1 rfl (lv_at hl 1 rfl) ?_
  have b_1 := mJ hv hm
  unfold mNum1 at b_1
  refine g_calli (g_runV (As := [.int (iI rr)]) (rest := []) (ci := 7) F hl.1 hH hS hz (c_X7_kindOf l g gh T I R J AI AJ AR mo rr zrr hv hm hT (by omega)) (cwV 1 F.2.2.2.2.1 (good_up gT_X7_kindOf) rfl rfl rfl hdX7_kindOf ⟨Nat.le_of_ble_eq_true rfl, Nat.le_of_ble_eq_true rfl⟩) hm (by decide) rfl rfl rfl (Nat.le_of_ble_eq_true rfl) dX7_farOf_2 ⟨Nat.zero_le _, Nat.zero_le _⟩) hS (fun v_8 I_2 R_3 J_4 AI_5 AJ_6 AR_7 H locs zv_8 hp_9 hH hS => ?_)
  dsimp only at hp_9
  obtain ⟨rfl, rfl, rfl, rfl, rfl, rfl, qk⟩ := hp_9
  refine z_if_ne (tgt := 10) F dX7_farOf_5 (by decide) zv_8 (fun c_10 => ?_) (fun c_10 => ?_)
  · refine lv_aload_n F.1 F.2.1 dX7_farOf_10 rfl (lv_at hl 0 rfl) ?_
    refine lv_aload_n F.1 F.2.1 dX7_farOf_11 rfl (lv_at hl 0 rfl) ?_
    refine lv_iload_n F.1 F.2.1 dX7_farOf_12 rfl (lv_at hl 1 rfl) ?_
    refine g_calli (g_runV (As := [.int (iI rr)]) (rest := [.ref mo]) (ci := 7) F hl.1 hH hS hz (c_X7_firstOf l g gh T I R J AI AJ AR mo rr zrr hv hm hT (by omega)) (cwV 1 F.2.2.2.2.1 (good_up gT_X7_firstOf) rfl rfl rfl hdX7_firstOf ⟨Nat.le_of_ble_eq_true rfl, Nat.le_of_ble_eq_true rfl⟩) hm (by decide) rfl rfl rfl (Nat.le_of_ble_eq_true rfl) dX7_farOf_13 ⟨Nat.zero_le _, Nat.zero_le _⟩) hS (fun v_17 I_11 R_12 J_13 AI_14 AJ_15 AR_16 H locs zv_17 hp_18 hH hS => ?_)
    dsimp only at hp_18
    obtain ⟨rfl, rfl, rfl, rfl, rfl, rfl, qf1⟩ := hp_18
    refine g_calli (g_runV (As := [.int (iI v_17)]) (rest := []) (ci := 7) F hl.1 hH hS hz (c_X7_farOfh1 l g gh T I R J AI AJ AR mo v_17 zv_17 hv hm hT (by omega)) (cwV 1 F.2.2.2.2.1 (good_up gT_X7_farOf) rfl rfl rfl hdX7_farOf ⟨Nat.le_of_ble_eq_true rfl, Nat.le_of_ble_eq_true rfl⟩) hm (by decide) rfl rfl rfl (Nat.le_of_ble_eq_true rfl) dX7_farOf_16 ⟨Nat.zero_le _, Nat.zero_le _⟩) hS (fun v_25 I_19 R_20 J_21 AI_22 AJ_23 AR_24 H locs zv_25 hp_26 hH hS => ?_)
    dsimp only at hp_26
    obtain ⟨rfl, rfl, rfl, rfl, rfl, rfl, q_27, qh1⟩ := hp_26
    have e9 : kDs (kTk T) (kTf T) (kTs T) 2 rr.toNat = 1 + kMx (kDs (kTk T) (kTf T) (kTs T) 1 (kTf T rr.toNat).toNat) (if kTs T rr.toNat < 0 then (0 : Int) else kDs (kTk T) (kTf T) (kTs T) 1 (kTs T rr.toNat).toNat) := kDs_1 (d := 1) (by rw [eK]; omega)
    have w1 : kDs (kTk T) (kTf T) (kTs T) 1 (kTf T rr.toNat).toNat = v_25 := by rw [eF, ← qf1]; exact qh1.symm
    refine lv_istore_n (lv' := [(2, .int (iI v_25)), (0, .ref mo), (1, .int (iI rr))]) F.1 F.2.1 dX7_farOf_19 rfl hl (by decide) rfl (fun ls hl => ?_)
    refine lv_aload_n F.1 F.2.1 dX7_farOf_20 rfl (lv_at hl 1 rfl) ?_
    refine lv_iload_n F.1 F.2.1 dX7_farOf_21 rfl (lv_at hl 2 rfl) ?_
    refine g_calli (g_runV (As := [.int (iI rr)]) (rest := []) (ci := 7) F hl.1 hH hS hz (c_X7_secondOf l g gh T I R J AI AJ AR mo rr zrr hv hm hT (by omega)) (cwV 1 F.2.2.2.2.1 (good_up gT_X7_secondOf) rfl rfl rfl hdX7_secondOf ⟨Nat.le_of_ble_eq_true rfl, Nat.le_of_ble_eq_true rfl⟩) hm (by decide) rfl rfl rfl (Nat.le_of_ble_eq_true rfl) dX7_farOf_22 ⟨Nat.zero_le _, Nat.zero_le _⟩) hS (fun v_34 I_28 R_29 J_30 AI_31 AJ_32 AR_33 H locs zv_34 hp_35 hH hS => ?_)
    dsimp only at hp_35
    obtain ⟨rfl, rfl, rfl, rfl, rfl, rfl, qs1⟩ := hp_35
    refine z_if_ge (tgt := 32) F dX7_farOf_25 (by decide) zv_34 (fun c_36 => ?_) (fun c_36 => ?_)
    · refine lv_aload_n F.1 F.2.1 dX7_farOf_32 rfl (lv_at hl 1 rfl) ?_
      refine lv_aload_n F.1 F.2.1 dX7_farOf_33 rfl (lv_at hl 1 rfl) ?_
      refine lv_iload_n F.1 F.2.1 dX7_farOf_34 rfl (lv_at hl 2 rfl) ?_
      refine g_calli (g_runV (As := [.int (iI rr)]) (rest := [.ref mo]) (ci := 7) F hl.1 hH hS hz (c_X7_secondOf l g gh T I R J AI AJ AR mo rr zrr hv hm hT (by omega)) (cwV 1 F.2.2.2.2.1 (good_up gT_X7_secondOf) rfl rfl rfl hdX7_secondOf ⟨Nat.le_of_ble_eq_true rfl, Nat.le_of_ble_eq_true rfl⟩) hm (by decide) rfl rfl rfl (Nat.le_of_ble_eq_true rfl) dX7_farOf_35 ⟨Nat.zero_le _, Nat.zero_le _⟩) hS (fun v_43 I_37 R_38 J_39 AI_40 AJ_41 AR_42 H locs zv_43 hp_44 hH hS => ?_)
      dsimp only at hp_44
      obtain ⟨rfl, rfl, rfl, rfl, rfl, rfl, qs2⟩ := hp_44
      refine g_calli (g_runV (As := [.int (iI v_43)]) (rest := []) (ci := 7) F hl.1 hH hS hz (c_X7_farOfh1 l g gh T I R J AI AJ AR mo v_43 zv_43 hv hm hT (by omega)) (cwV 1 F.2.2.2.2.1 (good_up gT_X7_farOf) rfl rfl rfl hdX7_farOf ⟨Nat.le_of_ble_eq_true rfl, Nat.le_of_ble_eq_true rfl⟩) hm (by decide) rfl rfl rfl (Nat.le_of_ble_eq_true rfl) dX7_farOf_38 ⟨Nat.zero_le _, Nat.zero_le _⟩) hS (fun v_51 I_45 R_46 J_47 AI_48 AJ_49 AR_50 H locs zv_51 hp_52 hH hS => ?_)
      dsimp only at hp_52
      obtain ⟨rfl, rfl, rfl, rfl, rfl, rfl, q_53, qh2⟩ := hp_52
      have w2 : (if kTs T rr.toNat < 0 then (0 : Int) else kDs (kTk T) (kTf T) (kTs T) 1 (kTs T rr.toNat).toNat) = v_51 := by rw [if_neg (by rw [eS]; omega), eS, ← qs2]; exact qh2.symm
      refine lv_istore_n (lv' := [(3, .int (iI v_51)), (2, .int (iI v_25)), (0, .ref mo), (1, .int (iI rr))]) F.1 F.2.1 dX7_farOf_41 rfl hl (by decide) rfl (fun ls hl => ?_)
      refine z_iconst F dX7_farOf_42 ?_
      refine lv_iload_n F.1 F.2.1 dX7_farOf_43 rfl (lv_at hl 1 rfl) ?_
      refine lv_iload_n F.1 F.2.1 dX7_farOf_44 rfl (lv_at hl 0 rfl) ?_
      refine z_icmp_le (tgt := 52) F dX7_farOf_45 (by decide) zv_25 zv_51 (fun c_54 => ?_) (fun c_54 => ?_)
      · refine lv_iload_n F.1 F.2.1 dX7_farOf_52 rfl (lv_at hl 0 rfl) ?_
        refine z_iadd F dX7_farOf_53 ?_
        exact g_iret F hr hlk hH hS hz ⟨by omega, by omega⟩ ⟨rfl, rfl, rfl, rfl, rfl, rfl, by first | omega | rfl | (dsimp only; omega), by (try dsimp only); rw [e9, w1, w2]; unfold kMx; first | rw [if_pos (by omega)] | rw [if_neg (by omega)]⟩ dX7_farOf_54
      · refine lv_iload_n F.1 F.2.1 dX7_farOf_48 rfl (lv_at hl 1 rfl) ?_
        refine z_goto (tgt := 53) F dX7_farOf_49 (by decide) ?_
        refine z_iadd F dX7_farOf_53 ?_
        exact g_iret F hr hlk hH hS hz ⟨by omega, by omega⟩ ⟨rfl, rfl, rfl, rfl, rfl, rfl, by first | omega | rfl | (dsimp only; omega), by (try dsimp only); rw [e9, w1, w2]; unfold kMx; first | rw [if_pos (by omega)] | rw [if_neg (by omega)]⟩ dX7_farOf_54
    · refine z_iconst F dX7_farOf_28 ?_
      have w2 : (if kTs T rr.toNat < 0 then (0 : Int) else kDs (kTk T) (kTf T) (kTs T) 1 (kTs T rr.toNat).toNat) = 0 := by rw [if_pos (by rw [eS]; omega)]
      refine z_goto (tgt := 41) F dX7_farOf_29 (by decide) ?_
      refine lv_istore_n (lv' := [(3, .int (iI 0)), (2, .int (iI v_25)), (0, .ref mo), (1, .int (iI rr))]) F.1 F.2.1 dX7_farOf_41 rfl hl (by decide) rfl (fun ls hl => ?_)
      refine z_iconst F dX7_farOf_42 ?_
      refine lv_iload_n F.1 F.2.1 dX7_farOf_43 rfl (lv_at hl 1 rfl) ?_
      refine lv_iload_n F.1 F.2.1 dX7_farOf_44 rfl (lv_at hl 0 rfl) ?_
      refine z_icmp_le (tgt := 52) F dX7_farOf_45 (by decide) zv_25 ⟨by decide, by decide⟩ (fun c_55 => ?_) (fun c_55 => ?_)
      · refine lv_iload_n F.1 F.2.1 dX7_farOf_52 rfl (lv_at hl 0 rfl) ?_
        refine z_iadd F dX7_farOf_53 ?_
        exact g_iret F hr hlk hH hS hz ⟨by omega, by omega⟩ ⟨rfl, rfl, rfl, rfl, rfl, rfl, by first | omega | rfl | (dsimp only; omega), by (try dsimp only); rw [e9, w1, w2]; unfold kMx; first | rw [if_pos (by omega)] | rw [if_neg (by omega)]⟩ dX7_farOf_54
      · refine lv_iload_n F.1 F.2.1 dX7_farOf_48 rfl (lv_at hl 1 rfl) ?_
        refine z_goto (tgt := 53) F dX7_farOf_49 (by decide) ?_
        refine z_iadd F dX7_farOf_53 ?_
        exact g_iret F hr hlk hH hS hz ⟨by omega, by omega⟩ ⟨rfl, rfl, rfl, rfl, rfl, rfl, by first | omega | rfl | (dsimp only; omega), by (try dsimp only); rw [e9, w1, w2]; unfold kMx; first | rw [if_pos (by omega)] | rw [if_neg (by omega)]⟩ dX7_farOf_54
  · refine z_iconst F dX7_farOf_8 ?_
    exact g_iret F hr hlk hH hS hz ⟨by decide, by decide⟩ ⟨rfl, rfl, rfl, rfl, rfl, rfl, by first | omega | rfl | (dsimp only; omega), (kDs_0 (d := 1) (by rw [eK]; omega)).symm⟩ dX7_farOf_9

def rmX7_farOfh3 : Room := { frames := 3, cells := 0, slots := 0, locals := 67 }
set_option maxHeartbeats 4000000 in
set_option maxRecDepth 100000 in
/-- farOf -/
theorem c_X7_farOfh3 (l : Launch) (g : gG) (gh : gGh) (T : Nat → Int32) (I : gI) (R : gR) (J : gJ) (AI : gI) (AJ : gJ) (AR : gR) (mo : Nat) (rr : Int) (zrr : zr rr) (hv : mInv g gh R I AI) (hm : gO g mo 7) (hT : AI (gh 50 0) = T) (hr0 : 0 ≤ rr ∧ rr < (I mo 2).toInt ∧ rr < 3) : gMet l g yX7_farOf tsX7_farOf rmX7_farOfh3 [.ref mo, .int (iI rr)] (I, R, J, AI, AJ, AR) (gQi g (fun (z : Int) (w : gS) => I = w.1 ∧ R = w.2.1 ∧ J = w.2.2.1 ∧ AI = w.2.2.2.1 ∧ AJ = w.2.2.2.2.1 ∧ AR = w.2.2.2.2.2 ∧ (0 ≤ z ∧ z ≤ 3) ∧ (z = kDs (kTk T) (kTf T) (kTs T) 3 rr.toNat))) := by
  refine gStart (cc := cX7_farOf) (maxL := 4) (ret := (some (.int))) (by decide) rfl (Nat.le_of_ble_eq_true rfl) ?_
  intro p e s m below meth c ls F hr hlk hH hz hS hl
  have hl : lv_has ls 4 [(0, .ref mo), (1, .int (iI rr))] := hl
  have hS : va_S (gA g) s.heap s.heap [] := hS
  obtain ⟨H, hHe⟩ : ∃ H : Heap, H = s.heap := ⟨_, rfl⟩
  obtain ⟨locs, hlo⟩ : ∃ k : List Loc, k = [] := ⟨_, rfl⟩
  have hH : gH g I R J AI AJ AR H := by rw [hHe]; exact hH
  have hS : va_S (gA g) s.heap H locs := by rw [hHe, hlo]; exact hS
  suffices hw : W p l e rmX7_farOfh3 s m ([.ref mo, .int (iI rr)] : List Value).toArray below meth c H locs 0 0 (MQ below (gQi g (fun (z : Int) (w : gS) => I = w.1 ∧ R = w.2.1 ∧ J = w.2.2.1 ∧ AI = w.2.2.2.1 ∧ AJ = w.2.2.2.2.1 ∧ AR = w.2.2.2.2.2 ∧ (0 ≤ z ∧ z ≤ 3) ∧ (z = kDs (kTk T) (kTf T) (kTs T) 3 rr.toNat))) ([.ref mo, .int (iI rr)] : List Value).toArray s 0 0 (gA g)) (F0 m 0 ls []) by
    rw [hHe, hlo] at hw; exact hw
  clear hHe hlo
  have hb0 := mJ hv hm
  unfold mNum1 at hb0
  have x := mRow hv hm hT (z := rr) (by omega) (by omega)
  have xa := x.1
  have xc := x.2.2.1
  have xb := x.2.1
  have ern : ((rr.toNat : Nat) : Int) = rr := Int.toNat_of_nonneg hr0.1
  have eK : kTk T rr.toNat = tI T (40 * rr) := by unfold kTk; rw [ern]
  have eF : kTf T rr.toNat = tI T (40 * rr + 2) := by unfold kTf; rw [ern]
  have eS : kTs T rr.toNat = tI T (40 * rr + 3) := by unfold kTs; rw [ern]
  refine lv_aload_n F.1 F.2.1 dX7_farOf_0 rfl (lv_at hl 0 rfl) ?_
  refine lv_iload_n F.1 F.2.1 dX7_farOf_1 rfl (lv_at hl 1 rfl) ?_
  have b_1 := mJ hv hm
  unfold mNum1 at b_1
  refine g_calli (g_runV (As := [.int (iI rr)]) (rest := []) (ci := 7) F hl.1 hH hS hz (c_X7_kindOf l g gh T I R J AI AJ AR mo rr zrr hv hm hT (by omega)) (cwV 1 F.2.2.2.2.1 (good_up gT_X7_kindOf) rfl rfl rfl hdX7_kindOf ⟨Nat.le_of_ble_eq_true rfl, Nat.le_of_ble_eq_true rfl⟩) hm (by decide) rfl rfl rfl (Nat.le_of_ble_eq_true rfl) dX7_farOf_2 ⟨Nat.zero_le _, Nat.zero_le _⟩) hS (fun v_8 I_2 R_3 J_4 AI_5 AJ_6 AR_7 H locs zv_8 hp_9 hH hS => ?_)
  dsimp only at hp_9
  obtain ⟨rfl, rfl, rfl, rfl, rfl, rfl, qk⟩ := hp_9
  refine z_if_ne (tgt := 10) F dX7_farOf_5 (by decide) zv_8 (fun c_10 => ?_) (fun c_10 => ?_)
  · refine lv_aload_n F.1 F.2.1 dX7_farOf_10 rfl (lv_at hl 0 rfl) ?_
    refine lv_aload_n F.1 F.2.1 dX7_farOf_11 rfl (lv_at hl 0 rfl) ?_
    refine lv_iload_n F.1 F.2.1 dX7_farOf_12 rfl (lv_at hl 1 rfl) ?_
    refine g_calli (g_runV (As := [.int (iI rr)]) (rest := [.ref mo]) (ci := 7) F hl.1 hH hS hz (c_X7_firstOf l g gh T I R J AI AJ AR mo rr zrr hv hm hT (by omega)) (cwV 1 F.2.2.2.2.1 (good_up gT_X7_firstOf) rfl rfl rfl hdX7_firstOf ⟨Nat.le_of_ble_eq_true rfl, Nat.le_of_ble_eq_true rfl⟩) hm (by decide) rfl rfl rfl (Nat.le_of_ble_eq_true rfl) dX7_farOf_13 ⟨Nat.zero_le _, Nat.zero_le _⟩) hS (fun v_17 I_11 R_12 J_13 AI_14 AJ_15 AR_16 H locs zv_17 hp_18 hH hS => ?_)
    dsimp only at hp_18
    obtain ⟨rfl, rfl, rfl, rfl, rfl, rfl, qf1⟩ := hp_18
    refine g_calli (g_runV (As := [.int (iI v_17)]) (rest := []) (ci := 7) F hl.1 hH hS hz (c_X7_farOfh2 l g gh T I R J AI AJ AR mo v_17 zv_17 hv hm hT (by omega)) (cwV 1 F.2.2.2.2.1 (good_up gT_X7_farOf) rfl rfl rfl hdX7_farOf ⟨Nat.le_of_ble_eq_true rfl, Nat.le_of_ble_eq_true rfl⟩) hm (by decide) rfl rfl rfl (Nat.le_of_ble_eq_true rfl) dX7_farOf_16 ⟨Nat.zero_le _, Nat.zero_le _⟩) hS (fun v_25 I_19 R_20 J_21 AI_22 AJ_23 AR_24 H locs zv_25 hp_26 hH hS => ?_)
    dsimp only at hp_26
    obtain ⟨rfl, rfl, rfl, rfl, rfl, rfl, q_27, qh1⟩ := hp_26
    have e9 : kDs (kTk T) (kTf T) (kTs T) 3 rr.toNat = 1 + kMx (kDs (kTk T) (kTf T) (kTs T) 2 (kTf T rr.toNat).toNat) (if kTs T rr.toNat < 0 then (0 : Int) else kDs (kTk T) (kTf T) (kTs T) 2 (kTs T rr.toNat).toNat) := kDs_1 (d := 2) (by rw [eK]; omega)
    have w1 : kDs (kTk T) (kTf T) (kTs T) 2 (kTf T rr.toNat).toNat = v_25 := by rw [eF, ← qf1]; exact qh1.symm
    refine lv_istore_n (lv' := [(2, .int (iI v_25)), (0, .ref mo), (1, .int (iI rr))]) F.1 F.2.1 dX7_farOf_19 rfl hl (by decide) rfl (fun ls hl => ?_)
    refine lv_aload_n F.1 F.2.1 dX7_farOf_20 rfl (lv_at hl 1 rfl) ?_
    refine lv_iload_n F.1 F.2.1 dX7_farOf_21 rfl (lv_at hl 2 rfl) ?_
    refine g_calli (g_runV (As := [.int (iI rr)]) (rest := []) (ci := 7) F hl.1 hH hS hz (c_X7_secondOf l g gh T I R J AI AJ AR mo rr zrr hv hm hT (by omega)) (cwV 1 F.2.2.2.2.1 (good_up gT_X7_secondOf) rfl rfl rfl hdX7_secondOf ⟨Nat.le_of_ble_eq_true rfl, Nat.le_of_ble_eq_true rfl⟩) hm (by decide) rfl rfl rfl (Nat.le_of_ble_eq_true rfl) dX7_farOf_22 ⟨Nat.zero_le _, Nat.zero_le _⟩) hS (fun v_34 I_28 R_29 J_30 AI_31 AJ_32 AR_33 H locs zv_34 hp_35 hH hS => ?_)
    dsimp only at hp_35
    obtain ⟨rfl, rfl, rfl, rfl, rfl, rfl, qs1⟩ := hp_35
    refine z_if_ge (tgt := 32) F dX7_farOf_25 (by decide) zv_34 (fun c_36 => ?_) (fun c_36 => ?_)
    · refine lv_aload_n F.1 F.2.1 dX7_farOf_32 rfl (lv_at hl 1 rfl) ?_
      refine lv_aload_n F.1 F.2.1 dX7_farOf_33 rfl (lv_at hl 1 rfl) ?_
      refine lv_iload_n F.1 F.2.1 dX7_farOf_34 rfl (lv_at hl 2 rfl) ?_
      refine g_calli (g_runV (As := [.int (iI rr)]) (rest := [.ref mo]) (ci := 7) F hl.1 hH hS hz (c_X7_secondOf l g gh T I R J AI AJ AR mo rr zrr hv hm hT (by omega)) (cwV 1 F.2.2.2.2.1 (good_up gT_X7_secondOf) rfl rfl rfl hdX7_secondOf ⟨Nat.le_of_ble_eq_true rfl, Nat.le_of_ble_eq_true rfl⟩) hm (by decide) rfl rfl rfl (Nat.le_of_ble_eq_true rfl) dX7_farOf_35 ⟨Nat.zero_le _, Nat.zero_le _⟩) hS (fun v_43 I_37 R_38 J_39 AI_40 AJ_41 AR_42 H locs zv_43 hp_44 hH hS => ?_)
      dsimp only at hp_44
      obtain ⟨rfl, rfl, rfl, rfl, rfl, rfl, qs2⟩ := hp_44
      refine g_calli (g_runV (As := [.int (iI v_43)]) (rest := []) (ci := 7) F hl.1 hH hS hz (c_X7_farOfh2 l g gh T I R J AI AJ AR mo v_43 zv_43 hv hm hT (by omega)) (cwV 1 F.2.2.2.2.1 (good_up gT_X7_farOf) rfl rfl rfl hdX7_farOf ⟨Nat.le_of_ble_eq_true rfl, Nat.le_of_ble_eq_true rfl⟩) hm (by decide) rfl rfl rfl (Nat.le_of_ble_eq_true rfl) dX7_farOf_38 ⟨Nat.zero_le _, Nat.zero_le _⟩) hS (fun v_51 I_45 R_46 J_47 AI_48 AJ_49 AR_50 H locs zv_51 hp_52 hH hS => ?_)
      dsimp only at hp_52
      obtain ⟨rfl, rfl, rfl, rfl, rfl, rfl, q_53, qh2⟩ := hp_52
      have w2 : (if kTs T rr.toNat < 0 then (0 : Int) else kDs (kTk T) (kTf T) (kTs T) 2 (kTs T rr.toNat).toNat) = v_51 := by rw [if_neg (by rw [eS]; omega), eS, ← qs2]; exact qh2.symm
      refine lv_istore_n (lv' := [(3, .int (iI v_51)), (2, .int (iI v_25)), (0, .ref mo), (1, .int (iI rr))]) F.1 F.2.1 dX7_farOf_41 rfl hl (by decide) rfl (fun ls hl => ?_)
      refine z_iconst F dX7_farOf_42 ?_
      refine lv_iload_n F.1 F.2.1 dX7_farOf_43 rfl (lv_at hl 1 rfl) ?_
      refine lv_iload_n F.1 F.2.1 dX7_farOf_44 rfl (lv_at hl 0 rfl) ?_
      refine z_icmp_le (tgt := 52) F dX7_farOf_45 (by decide) zv_25 zv_51 (fun c_54 => ?_) (fun c_54 => ?_)
      · refine lv_iload_n F.1 F.2.1 dX7_farOf_52 rfl (lv_at hl 0 rfl) ?_
        refine z_iadd F dX7_farOf_53 ?_
        exact g_iret F hr hlk hH hS hz ⟨by omega, by omega⟩ ⟨rfl, rfl, rfl, rfl, rfl, rfl, by first | omega | rfl | (dsimp only; omega), by (try dsimp only); rw [e9, w1, w2]; unfold kMx; first | rw [if_pos (by omega)] | rw [if_neg (by omega)]⟩ dX7_farOf_54
      · refine lv_iload_n F.1 F.2.1 dX7_farOf_48 rfl (lv_at hl 1 rfl) ?_
        refine z_goto (tgt := 53) F dX7_farOf_49 (by decide) ?_
        refine z_iadd F dX7_farOf_53 ?_
        exact g_iret F hr hlk hH hS hz ⟨by omega, by omega⟩ ⟨rfl, rfl, rfl, rfl, rfl, rfl, by first | omega | rfl | (dsimp only; omega), by (try dsimp only); rw [e9, w1, w2]; unfold kMx; first | rw [if_pos (by omega)] | rw [if_neg (by omega)]⟩ dX7_farOf_54
    · refine z_iconst F dX7_farOf_28 ?_
      have w2 : (if kTs T rr.toNat < 0 then (0 : Int) else kDs (kTk T) (kTf T) (kTs T) 2 (kTs T rr.toNat).toNat) = 0 := by rw [if_pos (by rw [eS]; omega)]
      refine z_goto (tgt := 41) F dX7_farOf_29 (by decide) ?_
      refine lv_istore_n (lv' := [(3, .int (iI 0)), (2, .int (iI v_25)), (0, .ref mo), (1, .int (iI rr))]) F.1 F.2.1 dX7_farOf_41 rfl hl (by decide) rfl (fun ls hl => ?_)
      refine z_iconst F dX7_farOf_42 ?_
      refine lv_iload_n F.1 F.2.1 dX7_farOf_43 rfl (lv_at hl 1 rfl) ?_
      refine lv_iload_n F.1 F.2.1 dX7_farOf_44 rfl (lv_at hl 0 rfl) ?_
      refine z_icmp_le (tgt := 52) F dX7_farOf_45 (by decide) zv_25 ⟨by decide, by decide⟩ (fun c_55 => ?_) (fun c_55 => ?_)
      · refine lv_iload_n F.1 F.2.1 dX7_farOf_52 rfl (lv_at hl 0 rfl) ?_
        refine z_iadd F dX7_farOf_53 ?_
        exact g_iret F hr hlk hH hS hz ⟨by omega, by omega⟩ ⟨rfl, rfl, rfl, rfl, rfl, rfl, by first | omega | rfl | (dsimp only; omega), by (try dsimp only); rw [e9, w1, w2]; unfold kMx; first | rw [if_pos (by omega)] | rw [if_neg (by omega)]⟩ dX7_farOf_54
      · refine lv_iload_n F.1 F.2.1 dX7_farOf_48 rfl (lv_at hl 1 rfl) ?_
        refine z_goto (tgt := 53) F dX7_farOf_49 (by decide) ?_
        refine z_iadd F dX7_farOf_53 ?_
        exact g_iret F hr hlk hH hS hz ⟨by omega, by omega⟩ ⟨rfl, rfl, rfl, rfl, rfl, rfl, by first | omega | rfl | (dsimp only; omega), by (try dsimp only); rw [e9, w1, w2]; unfold kMx; first | rw [if_pos (by omega)] | rw [if_neg (by omega)]⟩ dX7_farOf_54
  · refine z_iconst F dX7_farOf_8 ?_
    exact g_iret F hr hlk hH hS hz ⟨by decide, by decide⟩ ⟨rfl, rfl, rfl, rfl, rfl, rfl, by first | omega | rfl | (dsimp only; omega), (kDs_0 (d := 2) (by rw [eK]; omega)).symm⟩ dX7_farOf_9

def rmX7_farOfh4 : Room := { frames := 4, cells := 0, slots := 0, locals := 90 }
set_option maxHeartbeats 4000000 in
set_option maxRecDepth 100000 in
/-- farOf -/
theorem c_X7_farOfh4 (l : Launch) (g : gG) (gh : gGh) (T : Nat → Int32) (I : gI) (R : gR) (J : gJ) (AI : gI) (AJ : gJ) (AR : gR) (mo : Nat) (rr : Int) (zrr : zr rr) (hv : mInv g gh R I AI) (hm : gO g mo 7) (hT : AI (gh 50 0) = T) (hr0 : 0 ≤ rr ∧ rr < (I mo 2).toInt ∧ rr < 4) : gMet l g yX7_farOf tsX7_farOf rmX7_farOfh4 [.ref mo, .int (iI rr)] (I, R, J, AI, AJ, AR) (gQi g (fun (z : Int) (w : gS) => I = w.1 ∧ R = w.2.1 ∧ J = w.2.2.1 ∧ AI = w.2.2.2.1 ∧ AJ = w.2.2.2.2.1 ∧ AR = w.2.2.2.2.2 ∧ (0 ≤ z ∧ z ≤ 4) ∧ (z = kDs (kTk T) (kTf T) (kTs T) 4 rr.toNat))) := by
  refine gStart (cc := cX7_farOf) (maxL := 4) (ret := (some (.int))) (by decide) rfl (Nat.le_of_ble_eq_true rfl) ?_
  intro p e s m below meth c ls F hr hlk hH hz hS hl
  have hl : lv_has ls 4 [(0, .ref mo), (1, .int (iI rr))] := hl
  have hS : va_S (gA g) s.heap s.heap [] := hS
  obtain ⟨H, hHe⟩ : ∃ H : Heap, H = s.heap := ⟨_, rfl⟩
  obtain ⟨locs, hlo⟩ : ∃ k : List Loc, k = [] := ⟨_, rfl⟩
  have hH : gH g I R J AI AJ AR H := by rw [hHe]; exact hH
  have hS : va_S (gA g) s.heap H locs := by rw [hHe, hlo]; exact hS
  suffices hw : W p l e rmX7_farOfh4 s m ([.ref mo, .int (iI rr)] : List Value).toArray below meth c H locs 0 0 (MQ below (gQi g (fun (z : Int) (w : gS) => I = w.1 ∧ R = w.2.1 ∧ J = w.2.2.1 ∧ AI = w.2.2.2.1 ∧ AJ = w.2.2.2.2.1 ∧ AR = w.2.2.2.2.2 ∧ (0 ≤ z ∧ z ≤ 4) ∧ (z = kDs (kTk T) (kTf T) (kTs T) 4 rr.toNat))) ([.ref mo, .int (iI rr)] : List Value).toArray s 0 0 (gA g)) (F0 m 0 ls []) by
    rw [hHe, hlo] at hw; exact hw
  clear hHe hlo
  have hb0 := mJ hv hm
  unfold mNum1 at hb0
  have x := mRow hv hm hT (z := rr) (by omega) (by omega)
  have xa := x.1
  have xc := x.2.2.1
  have xb := x.2.1
  have ern : ((rr.toNat : Nat) : Int) = rr := Int.toNat_of_nonneg hr0.1
  have eK : kTk T rr.toNat = tI T (40 * rr) := by unfold kTk; rw [ern]
  have eF : kTf T rr.toNat = tI T (40 * rr + 2) := by unfold kTf; rw [ern]
  have eS : kTs T rr.toNat = tI T (40 * rr + 3) := by unfold kTs; rw [ern]
  refine lv_aload_n F.1 F.2.1 dX7_farOf_0 rfl (lv_at hl 0 rfl) ?_
  refine lv_iload_n F.1 F.2.1 dX7_farOf_1 rfl (lv_at hl 1 rfl) ?_
  have b_1 := mJ hv hm
  unfold mNum1 at b_1
  refine g_calli (g_runV (As := [.int (iI rr)]) (rest := []) (ci := 7) F hl.1 hH hS hz (c_X7_kindOf l g gh T I R J AI AJ AR mo rr zrr hv hm hT (by omega)) (cwV 1 F.2.2.2.2.1 (good_up gT_X7_kindOf) rfl rfl rfl hdX7_kindOf ⟨Nat.le_of_ble_eq_true rfl, Nat.le_of_ble_eq_true rfl⟩) hm (by decide) rfl rfl rfl (Nat.le_of_ble_eq_true rfl) dX7_farOf_2 ⟨Nat.zero_le _, Nat.zero_le _⟩) hS (fun v_8 I_2 R_3 J_4 AI_5 AJ_6 AR_7 H locs zv_8 hp_9 hH hS => ?_)
  dsimp only at hp_9
  obtain ⟨rfl, rfl, rfl, rfl, rfl, rfl, qk⟩ := hp_9
  refine z_if_ne (tgt := 10) F dX7_farOf_5 (by decide) zv_8 (fun c_10 => ?_) (fun c_10 => ?_)
  · refine lv_aload_n F.1 F.2.1 dX7_farOf_10 rfl (lv_at hl 0 rfl) ?_
    refine lv_aload_n F.1 F.2.1 dX7_farOf_11 rfl (lv_at hl 0 rfl) ?_
    refine lv_iload_n F.1 F.2.1 dX7_farOf_12 rfl (lv_at hl 1 rfl) ?_
    refine g_calli (g_runV (As := [.int (iI rr)]) (rest := [.ref mo]) (ci := 7) F hl.1 hH hS hz (c_X7_firstOf l g gh T I R J AI AJ AR mo rr zrr hv hm hT (by omega)) (cwV 1 F.2.2.2.2.1 (good_up gT_X7_firstOf) rfl rfl rfl hdX7_firstOf ⟨Nat.le_of_ble_eq_true rfl, Nat.le_of_ble_eq_true rfl⟩) hm (by decide) rfl rfl rfl (Nat.le_of_ble_eq_true rfl) dX7_farOf_13 ⟨Nat.zero_le _, Nat.zero_le _⟩) hS (fun v_17 I_11 R_12 J_13 AI_14 AJ_15 AR_16 H locs zv_17 hp_18 hH hS => ?_)
    dsimp only at hp_18
    obtain ⟨rfl, rfl, rfl, rfl, rfl, rfl, qf1⟩ := hp_18
    refine g_calli (g_runV (As := [.int (iI v_17)]) (rest := []) (ci := 7) F hl.1 hH hS hz (c_X7_farOfh3 l g gh T I R J AI AJ AR mo v_17 zv_17 hv hm hT (by omega)) (cwV 1 F.2.2.2.2.1 (good_up gT_X7_farOf) rfl rfl rfl hdX7_farOf ⟨Nat.le_of_ble_eq_true rfl, Nat.le_of_ble_eq_true rfl⟩) hm (by decide) rfl rfl rfl (Nat.le_of_ble_eq_true rfl) dX7_farOf_16 ⟨Nat.zero_le _, Nat.zero_le _⟩) hS (fun v_25 I_19 R_20 J_21 AI_22 AJ_23 AR_24 H locs zv_25 hp_26 hH hS => ?_)
    dsimp only at hp_26
    obtain ⟨rfl, rfl, rfl, rfl, rfl, rfl, q_27, qh1⟩ := hp_26
    have e9 : kDs (kTk T) (kTf T) (kTs T) 4 rr.toNat = 1 + kMx (kDs (kTk T) (kTf T) (kTs T) 3 (kTf T rr.toNat).toNat) (if kTs T rr.toNat < 0 then (0 : Int) else kDs (kTk T) (kTf T) (kTs T) 3 (kTs T rr.toNat).toNat) := kDs_1 (d := 3) (by rw [eK]; omega)
    have w1 : kDs (kTk T) (kTf T) (kTs T) 3 (kTf T rr.toNat).toNat = v_25 := by rw [eF, ← qf1]; exact qh1.symm
    refine lv_istore_n (lv' := [(2, .int (iI v_25)), (0, .ref mo), (1, .int (iI rr))]) F.1 F.2.1 dX7_farOf_19 rfl hl (by decide) rfl (fun ls hl => ?_)
    refine lv_aload_n F.1 F.2.1 dX7_farOf_20 rfl (lv_at hl 1 rfl) ?_
    refine lv_iload_n F.1 F.2.1 dX7_farOf_21 rfl (lv_at hl 2 rfl) ?_
    refine g_calli (g_runV (As := [.int (iI rr)]) (rest := []) (ci := 7) F hl.1 hH hS hz (c_X7_secondOf l g gh T I R J AI AJ AR mo rr zrr hv hm hT (by omega)) (cwV 1 F.2.2.2.2.1 (good_up gT_X7_secondOf) rfl rfl rfl hdX7_secondOf ⟨Nat.le_of_ble_eq_true rfl, Nat.le_of_ble_eq_true rfl⟩) hm (by decide) rfl rfl rfl (Nat.le_of_ble_eq_true rfl) dX7_farOf_22 ⟨Nat.zero_le _, Nat.zero_le _⟩) hS (fun v_34 I_28 R_29 J_30 AI_31 AJ_32 AR_33 H locs zv_34 hp_35 hH hS => ?_)
    dsimp only at hp_35
    obtain ⟨rfl, rfl, rfl, rfl, rfl, rfl, qs1⟩ := hp_35
    refine z_if_ge (tgt := 32) F dX7_farOf_25 (by decide) zv_34 (fun c_36 => ?_) (fun c_36 => ?_)
    · refine lv_aload_n F.1 F.2.1 dX7_farOf_32 rfl (lv_at hl 1 rfl) ?_
      refine lv_aload_n F.1 F.2.1 dX7_farOf_33 rfl (lv_at hl 1 rfl) ?_
      refine lv_iload_n F.1 F.2.1 dX7_farOf_34 rfl (lv_at hl 2 rfl) ?_
      refine g_calli (g_runV (As := [.int (iI rr)]) (rest := [.ref mo]) (ci := 7) F hl.1 hH hS hz (c_X7_secondOf l g gh T I R J AI AJ AR mo rr zrr hv hm hT (by omega)) (cwV 1 F.2.2.2.2.1 (good_up gT_X7_secondOf) rfl rfl rfl hdX7_secondOf ⟨Nat.le_of_ble_eq_true rfl, Nat.le_of_ble_eq_true rfl⟩) hm (by decide) rfl rfl rfl (Nat.le_of_ble_eq_true rfl) dX7_farOf_35 ⟨Nat.zero_le _, Nat.zero_le _⟩) hS (fun v_43 I_37 R_38 J_39 AI_40 AJ_41 AR_42 H locs zv_43 hp_44 hH hS => ?_)
      dsimp only at hp_44
      obtain ⟨rfl, rfl, rfl, rfl, rfl, rfl, qs2⟩ := hp_44
      refine g_calli (g_runV (As := [.int (iI v_43)]) (rest := []) (ci := 7) F hl.1 hH hS hz (c_X7_farOfh3 l g gh T I R J AI AJ AR mo v_43 zv_43 hv hm hT (by omega)) (cwV 1 F.2.2.2.2.1 (good_up gT_X7_farOf) rfl rfl rfl hdX7_farOf ⟨Nat.le_of_ble_eq_true rfl, Nat.le_of_ble_eq_true rfl⟩) hm (by decide) rfl rfl rfl (Nat.le_of_ble_eq_true rfl) dX7_farOf_38 ⟨Nat.zero_le _, Nat.zero_le _⟩) hS (fun v_51 I_45 R_46 J_47 AI_48 AJ_49 AR_50 H locs zv_51 hp_52 hH hS => ?_)
      dsimp only at hp_52
      obtain ⟨rfl, rfl, rfl, rfl, rfl, rfl, q_53, qh2⟩ := hp_52
      have w2 : (if kTs T rr.toNat < 0 then (0 : Int) else kDs (kTk T) (kTf T) (kTs T) 3 (kTs T rr.toNat).toNat) = v_51 := by rw [if_neg (by rw [eS]; omega), eS, ← qs2]; exact qh2.symm
      refine lv_istore_n (lv' := [(3, .int (iI v_51)), (2, .int (iI v_25)), (0, .ref mo), (1, .int (iI rr))]) F.1 F.2.1 dX7_farOf_41 rfl hl (by decide) rfl (fun ls hl => ?_)
      refine z_iconst F dX7_farOf_42 ?_
      refine lv_iload_n F.1 F.2.1 dX7_farOf_43 rfl (lv_at hl 1 rfl) ?_
      refine lv_iload_n F.1 F.2.1 dX7_farOf_44 rfl (lv_at hl 0 rfl) ?_
      refine z_icmp_le (tgt := 52) F dX7_farOf_45 (by decide) zv_25 zv_51 (fun c_54 => ?_) (fun c_54 => ?_)
      · refine lv_iload_n F.1 F.2.1 dX7_farOf_52 rfl (lv_at hl 0 rfl) ?_
        refine z_iadd F dX7_farOf_53 ?_
        exact g_iret F hr hlk hH hS hz ⟨by omega, by omega⟩ ⟨rfl, rfl, rfl, rfl, rfl, rfl, by first | omega | rfl | (dsimp only; omega), by (try dsimp only); rw [e9, w1, w2]; unfold kMx; first | rw [if_pos (by omega)] | rw [if_neg (by omega)]⟩ dX7_farOf_54
      · refine lv_iload_n F.1 F.2.1 dX7_farOf_48 rfl (lv_at hl 1 rfl) ?_
        refine z_goto (tgt := 53) F dX7_farOf_49 (by decide) ?_
        refine z_iadd F dX7_farOf_53 ?_
        exact g_iret F hr hlk hH hS hz ⟨by omega, by omega⟩ ⟨rfl, rfl, rfl, rfl, rfl, rfl, by first | omega | rfl | (dsimp only; omega), by (try dsimp only); rw [e9, w1, w2]; unfold kMx; first | rw [if_pos (by omega)] | rw [if_neg (by omega)]⟩ dX7_farOf_54
    · refine z_iconst F dX7_farOf_28 ?_
      have w2 : (if kTs T rr.toNat < 0 then (0 : Int) else kDs (kTk T) (kTf T) (kTs T) 3 (kTs T rr.toNat).toNat) = 0 := by rw [if_pos (by rw [eS]; omega)]
      refine z_goto (tgt := 41) F dX7_farOf_29 (by decide) ?_
      refine lv_istore_n (lv' := [(3, .int (iI 0)), (2, .int (iI v_25)), (0, .ref mo), (1, .int (iI rr))]) F.1 F.2.1 dX7_farOf_41 rfl hl (by decide) rfl (fun ls hl => ?_)
      refine z_iconst F dX7_farOf_42 ?_
      refine lv_iload_n F.1 F.2.1 dX7_farOf_43 rfl (lv_at hl 1 rfl) ?_
      refine lv_iload_n F.1 F.2.1 dX7_farOf_44 rfl (lv_at hl 0 rfl) ?_
      refine z_icmp_le (tgt := 52) F dX7_farOf_45 (by decide) zv_25 ⟨by decide, by decide⟩ (fun c_55 => ?_) (fun c_55 => ?_)
      · refine lv_iload_n F.1 F.2.1 dX7_farOf_52 rfl (lv_at hl 0 rfl) ?_
        refine z_iadd F dX7_farOf_53 ?_
        exact g_iret F hr hlk hH hS hz ⟨by omega, by omega⟩ ⟨rfl, rfl, rfl, rfl, rfl, rfl, by first | omega | rfl | (dsimp only; omega), by (try dsimp only); rw [e9, w1, w2]; unfold kMx; first | rw [if_pos (by omega)] | rw [if_neg (by omega)]⟩ dX7_farOf_54
      · refine lv_iload_n F.1 F.2.1 dX7_farOf_48 rfl (lv_at hl 1 rfl) ?_
        refine z_goto (tgt := 53) F dX7_farOf_49 (by decide) ?_
        refine z_iadd F dX7_farOf_53 ?_
        exact g_iret F hr hlk hH hS hz ⟨by omega, by omega⟩ ⟨rfl, rfl, rfl, rfl, rfl, rfl, by first | omega | rfl | (dsimp only; omega), by (try dsimp only); rw [e9, w1, w2]; unfold kMx; first | rw [if_pos (by omega)] | rw [if_neg (by omega)]⟩ dX7_farOf_54
  · refine z_iconst F dX7_farOf_8 ?_
    exact g_iret F hr hlk hH hS hz ⟨by decide, by decide⟩ ⟨rfl, rfl, rfl, rfl, rfl, rfl, by first | omega | rfl | (dsimp only; omega), (kDs_0 (d := 3) (by rw [eK]; omega)).symm⟩ dX7_farOf_9

def rmX7_farOfh5 : Room := { frames := 5, cells := 0, slots := 0, locals := 113 }
set_option maxHeartbeats 4000000 in
set_option maxRecDepth 100000 in
/-- farOf -/
theorem c_X7_farOfh5 (l : Launch) (g : gG) (gh : gGh) (T : Nat → Int32) (I : gI) (R : gR) (J : gJ) (AI : gI) (AJ : gJ) (AR : gR) (mo : Nat) (rr : Int) (zrr : zr rr) (hv : mInv g gh R I AI) (hm : gO g mo 7) (hT : AI (gh 50 0) = T) (hr0 : 0 ≤ rr ∧ rr < (I mo 2).toInt ∧ rr < 5) : gMet l g yX7_farOf tsX7_farOf rmX7_farOfh5 [.ref mo, .int (iI rr)] (I, R, J, AI, AJ, AR) (gQi g (fun (z : Int) (w : gS) => I = w.1 ∧ R = w.2.1 ∧ J = w.2.2.1 ∧ AI = w.2.2.2.1 ∧ AJ = w.2.2.2.2.1 ∧ AR = w.2.2.2.2.2 ∧ (0 ≤ z ∧ z ≤ 5) ∧ (z = kDs (kTk T) (kTf T) (kTs T) 5 rr.toNat))) := by
  refine gStart (cc := cX7_farOf) (maxL := 4) (ret := (some (.int))) (by decide) rfl (Nat.le_of_ble_eq_true rfl) ?_
  intro p e s m below meth c ls F hr hlk hH hz hS hl
  have hl : lv_has ls 4 [(0, .ref mo), (1, .int (iI rr))] := hl
  have hS : va_S (gA g) s.heap s.heap [] := hS
  obtain ⟨H, hHe⟩ : ∃ H : Heap, H = s.heap := ⟨_, rfl⟩
  obtain ⟨locs, hlo⟩ : ∃ k : List Loc, k = [] := ⟨_, rfl⟩
  have hH : gH g I R J AI AJ AR H := by rw [hHe]; exact hH
  have hS : va_S (gA g) s.heap H locs := by rw [hHe, hlo]; exact hS
  suffices hw : W p l e rmX7_farOfh5 s m ([.ref mo, .int (iI rr)] : List Value).toArray below meth c H locs 0 0 (MQ below (gQi g (fun (z : Int) (w : gS) => I = w.1 ∧ R = w.2.1 ∧ J = w.2.2.1 ∧ AI = w.2.2.2.1 ∧ AJ = w.2.2.2.2.1 ∧ AR = w.2.2.2.2.2 ∧ (0 ≤ z ∧ z ≤ 5) ∧ (z = kDs (kTk T) (kTf T) (kTs T) 5 rr.toNat))) ([.ref mo, .int (iI rr)] : List Value).toArray s 0 0 (gA g)) (F0 m 0 ls []) by
    rw [hHe, hlo] at hw; exact hw
  clear hHe hlo
  have hb0 := mJ hv hm
  unfold mNum1 at hb0
  have x := mRow hv hm hT (z := rr) (by omega) (by omega)
  have xa := x.1
  have xc := x.2.2.1
  have xb := x.2.1
  have ern : ((rr.toNat : Nat) : Int) = rr := Int.toNat_of_nonneg hr0.1
  have eK : kTk T rr.toNat = tI T (40 * rr) := by unfold kTk; rw [ern]
  have eF : kTf T rr.toNat = tI T (40 * rr + 2) := by unfold kTf; rw [ern]
  have eS : kTs T rr.toNat = tI T (40 * rr + 3) := by unfold kTs; rw [ern]
  refine lv_aload_n F.1 F.2.1 dX7_farOf_0 rfl (lv_at hl 0 rfl) ?_
  refine lv_iload_n F.1 F.2.1 dX7_farOf_1 rfl (lv_at hl 1 rfl) ?_
  have b_1 := mJ hv hm
  unfold mNum1 at b_1
  refine g_calli (g_runV (As := [.int (iI rr)]) (rest := []) (ci := 7) F hl.1 hH hS hz (c_X7_kindOf l g gh T I R J AI AJ AR mo rr zrr hv hm hT (by omega)) (cwV 1 F.2.2.2.2.1 (good_up gT_X7_kindOf) rfl rfl rfl hdX7_kindOf ⟨Nat.le_of_ble_eq_true rfl, Nat.le_of_ble_eq_true rfl⟩) hm (by decide) rfl rfl rfl (Nat.le_of_ble_eq_true rfl) dX7_farOf_2 ⟨Nat.zero_le _, Nat.zero_le _⟩) hS (fun v_8 I_2 R_3 J_4 AI_5 AJ_6 AR_7 H locs zv_8 hp_9 hH hS => ?_)
  dsimp only at hp_9
  obtain ⟨rfl, rfl, rfl, rfl, rfl, rfl, qk⟩ := hp_9
  refine z_if_ne (tgt := 10) F dX7_farOf_5 (by decide) zv_8 (fun c_10 => ?_) (fun c_10 => ?_)
  · refine lv_aload_n F.1 F.2.1 dX7_farOf_10 rfl (lv_at hl 0 rfl) ?_
    refine lv_aload_n F.1 F.2.1 dX7_farOf_11 rfl (lv_at hl 0 rfl) ?_
    refine lv_iload_n F.1 F.2.1 dX7_farOf_12 rfl (lv_at hl 1 rfl) ?_
    refine g_calli (g_runV (As := [.int (iI rr)]) (rest := [.ref mo]) (ci := 7) F hl.1 hH hS hz (c_X7_firstOf l g gh T I R J AI AJ AR mo rr zrr hv hm hT (by omega)) (cwV 1 F.2.2.2.2.1 (good_up gT_X7_firstOf) rfl rfl rfl hdX7_firstOf ⟨Nat.le_of_ble_eq_true rfl, Nat.le_of_ble_eq_true rfl⟩) hm (by decide) rfl rfl rfl (Nat.le_of_ble_eq_true rfl) dX7_farOf_13 ⟨Nat.zero_le _, Nat.zero_le _⟩) hS (fun v_17 I_11 R_12 J_13 AI_14 AJ_15 AR_16 H locs zv_17 hp_18 hH hS => ?_)
    dsimp only at hp_18
    obtain ⟨rfl, rfl, rfl, rfl, rfl, rfl, qf1⟩ := hp_18
    refine g_calli (g_runV (As := [.int (iI v_17)]) (rest := []) (ci := 7) F hl.1 hH hS hz (c_X7_farOfh4 l g gh T I R J AI AJ AR mo v_17 zv_17 hv hm hT (by omega)) (cwV 1 F.2.2.2.2.1 (good_up gT_X7_farOf) rfl rfl rfl hdX7_farOf ⟨Nat.le_of_ble_eq_true rfl, Nat.le_of_ble_eq_true rfl⟩) hm (by decide) rfl rfl rfl (Nat.le_of_ble_eq_true rfl) dX7_farOf_16 ⟨Nat.zero_le _, Nat.zero_le _⟩) hS (fun v_25 I_19 R_20 J_21 AI_22 AJ_23 AR_24 H locs zv_25 hp_26 hH hS => ?_)
    dsimp only at hp_26
    obtain ⟨rfl, rfl, rfl, rfl, rfl, rfl, q_27, qh1⟩ := hp_26
    have e9 : kDs (kTk T) (kTf T) (kTs T) 5 rr.toNat = 1 + kMx (kDs (kTk T) (kTf T) (kTs T) 4 (kTf T rr.toNat).toNat) (if kTs T rr.toNat < 0 then (0 : Int) else kDs (kTk T) (kTf T) (kTs T) 4 (kTs T rr.toNat).toNat) := kDs_1 (d := 4) (by rw [eK]; omega)
    have w1 : kDs (kTk T) (kTf T) (kTs T) 4 (kTf T rr.toNat).toNat = v_25 := by rw [eF, ← qf1]; exact qh1.symm
    refine lv_istore_n (lv' := [(2, .int (iI v_25)), (0, .ref mo), (1, .int (iI rr))]) F.1 F.2.1 dX7_farOf_19 rfl hl (by decide) rfl (fun ls hl => ?_)
    refine lv_aload_n F.1 F.2.1 dX7_farOf_20 rfl (lv_at hl 1 rfl) ?_
    refine lv_iload_n F.1 F.2.1 dX7_farOf_21 rfl (lv_at hl 2 rfl) ?_
    refine g_calli (g_runV (As := [.int (iI rr)]) (rest := []) (ci := 7) F hl.1 hH hS hz (c_X7_secondOf l g gh T I R J AI AJ AR mo rr zrr hv hm hT (by omega)) (cwV 1 F.2.2.2.2.1 (good_up gT_X7_secondOf) rfl rfl rfl hdX7_secondOf ⟨Nat.le_of_ble_eq_true rfl, Nat.le_of_ble_eq_true rfl⟩) hm (by decide) rfl rfl rfl (Nat.le_of_ble_eq_true rfl) dX7_farOf_22 ⟨Nat.zero_le _, Nat.zero_le _⟩) hS (fun v_34 I_28 R_29 J_30 AI_31 AJ_32 AR_33 H locs zv_34 hp_35 hH hS => ?_)
    dsimp only at hp_35
    obtain ⟨rfl, rfl, rfl, rfl, rfl, rfl, qs1⟩ := hp_35
    refine z_if_ge (tgt := 32) F dX7_farOf_25 (by decide) zv_34 (fun c_36 => ?_) (fun c_36 => ?_)
    · refine lv_aload_n F.1 F.2.1 dX7_farOf_32 rfl (lv_at hl 1 rfl) ?_
      refine lv_aload_n F.1 F.2.1 dX7_farOf_33 rfl (lv_at hl 1 rfl) ?_
      refine lv_iload_n F.1 F.2.1 dX7_farOf_34 rfl (lv_at hl 2 rfl) ?_
      refine g_calli (g_runV (As := [.int (iI rr)]) (rest := [.ref mo]) (ci := 7) F hl.1 hH hS hz (c_X7_secondOf l g gh T I R J AI AJ AR mo rr zrr hv hm hT (by omega)) (cwV 1 F.2.2.2.2.1 (good_up gT_X7_secondOf) rfl rfl rfl hdX7_secondOf ⟨Nat.le_of_ble_eq_true rfl, Nat.le_of_ble_eq_true rfl⟩) hm (by decide) rfl rfl rfl (Nat.le_of_ble_eq_true rfl) dX7_farOf_35 ⟨Nat.zero_le _, Nat.zero_le _⟩) hS (fun v_43 I_37 R_38 J_39 AI_40 AJ_41 AR_42 H locs zv_43 hp_44 hH hS => ?_)
      dsimp only at hp_44
      obtain ⟨rfl, rfl, rfl, rfl, rfl, rfl, qs2⟩ := hp_44
      refine g_calli (g_runV (As := [.int (iI v_43)]) (rest := []) (ci := 7) F hl.1 hH hS hz (c_X7_farOfh4 l g gh T I R J AI AJ AR mo v_43 zv_43 hv hm hT (by omega)) (cwV 1 F.2.2.2.2.1 (good_up gT_X7_farOf) rfl rfl rfl hdX7_farOf ⟨Nat.le_of_ble_eq_true rfl, Nat.le_of_ble_eq_true rfl⟩) hm (by decide) rfl rfl rfl (Nat.le_of_ble_eq_true rfl) dX7_farOf_38 ⟨Nat.zero_le _, Nat.zero_le _⟩) hS (fun v_51 I_45 R_46 J_47 AI_48 AJ_49 AR_50 H locs zv_51 hp_52 hH hS => ?_)
      dsimp only at hp_52
      obtain ⟨rfl, rfl, rfl, rfl, rfl, rfl, q_53, qh2⟩ := hp_52
      have w2 : (if kTs T rr.toNat < 0 then (0 : Int) else kDs (kTk T) (kTf T) (kTs T) 4 (kTs T rr.toNat).toNat) = v_51 := by rw [if_neg (by rw [eS]; omega), eS, ← qs2]; exact qh2.symm
      refine lv_istore_n (lv' := [(3, .int (iI v_51)), (2, .int (iI v_25)), (0, .ref mo), (1, .int (iI rr))]) F.1 F.2.1 dX7_farOf_41 rfl hl (by decide) rfl (fun ls hl => ?_)
      refine z_iconst F dX7_farOf_42 ?_
      refine lv_iload_n F.1 F.2.1 dX7_farOf_43 rfl (lv_at hl 1 rfl) ?_
      refine lv_iload_n F.1 F.2.1 dX7_farOf_44 rfl (lv_at hl 0 rfl) ?_
      refine z_icmp_le (tgt := 52) F dX7_farOf_45 (by decide) zv_25 zv_51 (fun c_54 => ?_) (fun c_54 => ?_)
      · refine lv_iload_n F.1 F.2.1 dX7_farOf_52 rfl (lv_at hl 0 rfl) ?_
        refine z_iadd F dX7_farOf_53 ?_
        exact g_iret F hr hlk hH hS hz ⟨by omega, by omega⟩ ⟨rfl, rfl, rfl, rfl, rfl, rfl, by first | omega | rfl | (dsimp only; omega), by (try dsimp only); rw [e9, w1, w2]; unfold kMx; first | rw [if_pos (by omega)] | rw [if_neg (by omega)]⟩ dX7_farOf_54
      · refine lv_iload_n F.1 F.2.1 dX7_farOf_48 rfl (lv_at hl 1 rfl) ?_
        refine z_goto (tgt := 53) F dX7_farOf_49 (by decide) ?_
        refine z_iadd F dX7_farOf_53 ?_
        exact g_iret F hr hlk hH hS hz ⟨by omega, by omega⟩ ⟨rfl, rfl, rfl, rfl, rfl, rfl, by first | omega | rfl | (dsimp only; omega), by (try dsimp only); rw [e9, w1, w2]; unfold kMx; first | rw [if_pos (by omega)] | rw [if_neg (by omega)]⟩ dX7_farOf_54
    · refine z_iconst F dX7_farOf_28 ?_
      have w2 : (if kTs T rr.toNat < 0 then (0 : Int) else kDs (kTk T) (kTf T) (kTs T) 4 (kTs T rr.toNat).toNat) = 0 := by rw [if_pos (by rw [eS]; omega)]
      refine z_goto (tgt := 41) F dX7_farOf_29 (by decide) ?_
      refine lv_istore_n (lv' := [(3, .int (iI 0)), (2, .int (iI v_25)), (0, .ref mo), (1, .int (iI rr))]) F.1 F.2.1 dX7_farOf_41 rfl hl (by decide) rfl (fun ls hl => ?_)
      refine z_iconst F dX7_farOf_42 ?_
      refine lv_iload_n F.1 F.2.1 dX7_farOf_43 rfl (lv_at hl 1 rfl) ?_
      refine lv_iload_n F.1 F.2.1 dX7_farOf_44 rfl (lv_at hl 0 rfl) ?_
      refine z_icmp_le (tgt := 52) F dX7_farOf_45 (by decide) zv_25 ⟨by decide, by decide⟩ (fun c_55 => ?_) (fun c_55 => ?_)
      · refine lv_iload_n F.1 F.2.1 dX7_farOf_52 rfl (lv_at hl 0 rfl) ?_
        refine z_iadd F dX7_farOf_53 ?_
        exact g_iret F hr hlk hH hS hz ⟨by omega, by omega⟩ ⟨rfl, rfl, rfl, rfl, rfl, rfl, by first | omega | rfl | (dsimp only; omega), by (try dsimp only); rw [e9, w1, w2]; unfold kMx; first | rw [if_pos (by omega)] | rw [if_neg (by omega)]⟩ dX7_farOf_54
      · refine lv_iload_n F.1 F.2.1 dX7_farOf_48 rfl (lv_at hl 1 rfl) ?_
        refine z_goto (tgt := 53) F dX7_farOf_49 (by decide) ?_
        refine z_iadd F dX7_farOf_53 ?_
        exact g_iret F hr hlk hH hS hz ⟨by omega, by omega⟩ ⟨rfl, rfl, rfl, rfl, rfl, rfl, by first | omega | rfl | (dsimp only; omega), by (try dsimp only); rw [e9, w1, w2]; unfold kMx; first | rw [if_pos (by omega)] | rw [if_neg (by omega)]⟩ dX7_farOf_54
  · refine z_iconst F dX7_farOf_8 ?_
    exact g_iret F hr hlk hH hS hz ⟨by decide, by decide⟩ ⟨rfl, rfl, rfl, rfl, rfl, rfl, by first | omega | rfl | (dsimp only; omega), (kDs_0 (d := 4) (by rw [eK]; omega)).symm⟩ dX7_farOf_9

def rmX7_farOfh6 : Room := { frames := 6, cells := 0, slots := 0, locals := 136 }
set_option maxHeartbeats 4000000 in
set_option maxRecDepth 100000 in
/-- farOf -/
theorem c_X7_farOfh6 (l : Launch) (g : gG) (gh : gGh) (T : Nat → Int32) (I : gI) (R : gR) (J : gJ) (AI : gI) (AJ : gJ) (AR : gR) (mo : Nat) (rr : Int) (zrr : zr rr) (hv : mInv g gh R I AI) (hm : gO g mo 7) (hT : AI (gh 50 0) = T) (hr0 : 0 ≤ rr ∧ rr < (I mo 2).toInt ∧ rr < 6) : gMet l g yX7_farOf tsX7_farOf rmX7_farOfh6 [.ref mo, .int (iI rr)] (I, R, J, AI, AJ, AR) (gQi g (fun (z : Int) (w : gS) => I = w.1 ∧ R = w.2.1 ∧ J = w.2.2.1 ∧ AI = w.2.2.2.1 ∧ AJ = w.2.2.2.2.1 ∧ AR = w.2.2.2.2.2 ∧ (0 ≤ z ∧ z ≤ 6) ∧ (z = kDs (kTk T) (kTf T) (kTs T) 6 rr.toNat))) := by
  refine gStart (cc := cX7_farOf) (maxL := 4) (ret := (some (.int))) (by decide) rfl (Nat.le_of_ble_eq_true rfl) ?_
  intro p e s m below meth c ls F hr hlk hH hz hS hl
  have hl : lv_has ls 4 [(0, .ref mo), (1, .int (iI rr))] := hl
  have hS : va_S (gA g) s.heap s.heap [] := hS
  obtain ⟨H, hHe⟩ : ∃ H : Heap, H = s.heap := ⟨_, rfl⟩
  obtain ⟨locs, hlo⟩ : ∃ k : List Loc, k = [] := ⟨_, rfl⟩
  have hH : gH g I R J AI AJ AR H := by rw [hHe]; exact hH
  have hS : va_S (gA g) s.heap H locs := by rw [hHe, hlo]; exact hS
  suffices hw : W p l e rmX7_farOfh6 s m ([.ref mo, .int (iI rr)] : List Value).toArray below meth c H locs 0 0 (MQ below (gQi g (fun (z : Int) (w : gS) => I = w.1 ∧ R = w.2.1 ∧ J = w.2.2.1 ∧ AI = w.2.2.2.1 ∧ AJ = w.2.2.2.2.1 ∧ AR = w.2.2.2.2.2 ∧ (0 ≤ z ∧ z ≤ 6) ∧ (z = kDs (kTk T) (kTf T) (kTs T) 6 rr.toNat))) ([.ref mo, .int (iI rr)] : List Value).toArray s 0 0 (gA g)) (F0 m 0 ls []) by
    rw [hHe, hlo] at hw; exact hw
  clear hHe hlo
  have hb0 := mJ hv hm
  unfold mNum1 at hb0
  have x := mRow hv hm hT (z := rr) (by omega) (by omega)
  have xa := x.1
  have xc := x.2.2.1
  have xb := x.2.1
  have ern : ((rr.toNat : Nat) : Int) = rr := Int.toNat_of_nonneg hr0.1
  have eK : kTk T rr.toNat = tI T (40 * rr) := by unfold kTk; rw [ern]
  have eF : kTf T rr.toNat = tI T (40 * rr + 2) := by unfold kTf; rw [ern]
  have eS : kTs T rr.toNat = tI T (40 * rr + 3) := by unfold kTs; rw [ern]
  refine lv_aload_n F.1 F.2.1 dX7_farOf_0 rfl (lv_at hl 0 rfl) ?_
  refine lv_iload_n F.1 F.2.1 dX7_farOf_1 rfl (lv_at hl 1 rfl) ?_
  have b_1 := mJ hv hm
  unfold mNum1 at b_1
  refine g_calli (g_runV (As := [.int (iI rr)]) (rest := []) (ci := 7) F hl.1 hH hS hz (c_X7_kindOf l g gh T I R J AI AJ AR mo rr zrr hv hm hT (by omega)) (cwV 1 F.2.2.2.2.1 (good_up gT_X7_kindOf) rfl rfl rfl hdX7_kindOf ⟨Nat.le_of_ble_eq_true rfl, Nat.le_of_ble_eq_true rfl⟩) hm (by decide) rfl rfl rfl (Nat.le_of_ble_eq_true rfl) dX7_farOf_2 ⟨Nat.zero_le _, Nat.zero_le _⟩) hS (fun v_8 I_2 R_3 J_4 AI_5 AJ_6 AR_7 H locs zv_8 hp_9 hH hS => ?_)
  dsimp only at hp_9
  obtain ⟨rfl, rfl, rfl, rfl, rfl, rfl, qk⟩ := hp_9
  refine z_if_ne (tgt := 10) F dX7_farOf_5 (by decide) zv_8 (fun c_10 => ?_) (fun c_10 => ?_)
  · refine lv_aload_n F.1 F.2.1 dX7_farOf_10 rfl (lv_at hl 0 rfl) ?_
    refine lv_aload_n F.1 F.2.1 dX7_farOf_11 rfl (lv_at hl 0 rfl) ?_
    refine lv_iload_n F.1 F.2.1 dX7_farOf_12 rfl (lv_at hl 1 rfl) ?_
    refine g_calli (g_runV (As := [.int (iI rr)]) (rest := [.ref mo]) (ci := 7) F hl.1 hH hS hz (c_X7_firstOf l g gh T I R J AI AJ AR mo rr zrr hv hm hT (by omega)) (cwV 1 F.2.2.2.2.1 (good_up gT_X7_firstOf) rfl rfl rfl hdX7_firstOf ⟨Nat.le_of_ble_eq_true rfl, Nat.le_of_ble_eq_true rfl⟩) hm (by decide) rfl rfl rfl (Nat.le_of_ble_eq_true rfl) dX7_farOf_13 ⟨Nat.zero_le _, Nat.zero_le _⟩) hS (fun v_17 I_11 R_12 J_13 AI_14 AJ_15 AR_16 H locs zv_17 hp_18 hH hS => ?_)
    dsimp only at hp_18
    obtain ⟨rfl, rfl, rfl, rfl, rfl, rfl, qf1⟩ := hp_18
    refine g_calli (g_runV (As := [.int (iI v_17)]) (rest := []) (ci := 7) F hl.1 hH hS hz (c_X7_farOfh5 l g gh T I R J AI AJ AR mo v_17 zv_17 hv hm hT (by omega)) (cwV 1 F.2.2.2.2.1 (good_up gT_X7_farOf) rfl rfl rfl hdX7_farOf ⟨Nat.le_of_ble_eq_true rfl, Nat.le_of_ble_eq_true rfl⟩) hm (by decide) rfl rfl rfl (Nat.le_of_ble_eq_true rfl) dX7_farOf_16 ⟨Nat.zero_le _, Nat.zero_le _⟩) hS (fun v_25 I_19 R_20 J_21 AI_22 AJ_23 AR_24 H locs zv_25 hp_26 hH hS => ?_)
    dsimp only at hp_26
    obtain ⟨rfl, rfl, rfl, rfl, rfl, rfl, q_27, qh1⟩ := hp_26
    have e9 : kDs (kTk T) (kTf T) (kTs T) 6 rr.toNat = 1 + kMx (kDs (kTk T) (kTf T) (kTs T) 5 (kTf T rr.toNat).toNat) (if kTs T rr.toNat < 0 then (0 : Int) else kDs (kTk T) (kTf T) (kTs T) 5 (kTs T rr.toNat).toNat) := kDs_1 (d := 5) (by rw [eK]; omega)
    have w1 : kDs (kTk T) (kTf T) (kTs T) 5 (kTf T rr.toNat).toNat = v_25 := by rw [eF, ← qf1]; exact qh1.symm
    refine lv_istore_n (lv' := [(2, .int (iI v_25)), (0, .ref mo), (1, .int (iI rr))]) F.1 F.2.1 dX7_farOf_19 rfl hl (by decide) rfl (fun ls hl => ?_)
    refine lv_aload_n F.1 F.2.1 dX7_farOf_20 rfl (lv_at hl 1 rfl) ?_
    refine lv_iload_n F.1 F.2.1 dX7_farOf_21 rfl (lv_at hl 2 rfl) ?_
    refine g_calli (g_runV (As := [.int (iI rr)]) (rest := []) (ci := 7) F hl.1 hH hS hz (c_X7_secondOf l g gh T I R J AI AJ AR mo rr zrr hv hm hT (by omega)) (cwV 1 F.2.2.2.2.1 (good_up gT_X7_secondOf) rfl rfl rfl hdX7_secondOf ⟨Nat.le_of_ble_eq_true rfl, Nat.le_of_ble_eq_true rfl⟩) hm (by decide) rfl rfl rfl (Nat.le_of_ble_eq_true rfl) dX7_farOf_22 ⟨Nat.zero_le _, Nat.zero_le _⟩) hS (fun v_34 I_28 R_29 J_30 AI_31 AJ_32 AR_33 H locs zv_34 hp_35 hH hS => ?_)
    dsimp only at hp_35
    obtain ⟨rfl, rfl, rfl, rfl, rfl, rfl, qs1⟩ := hp_35
    refine z_if_ge (tgt := 32) F dX7_farOf_25 (by decide) zv_34 (fun c_36 => ?_) (fun c_36 => ?_)
    · refine lv_aload_n F.1 F.2.1 dX7_farOf_32 rfl (lv_at hl 1 rfl) ?_
      refine lv_aload_n F.1 F.2.1 dX7_farOf_33 rfl (lv_at hl 1 rfl) ?_
      refine lv_iload_n F.1 F.2.1 dX7_farOf_34 rfl (lv_at hl 2 rfl) ?_
      refine g_calli (g_runV (As := [.int (iI rr)]) (rest := [.ref mo]) (ci := 7) F hl.1 hH hS hz (c_X7_secondOf l g gh T I R J AI AJ AR mo rr zrr hv hm hT (by omega)) (cwV 1 F.2.2.2.2.1 (good_up gT_X7_secondOf) rfl rfl rfl hdX7_secondOf ⟨Nat.le_of_ble_eq_true rfl, Nat.le_of_ble_eq_true rfl⟩) hm (by decide) rfl rfl rfl (Nat.le_of_ble_eq_true rfl) dX7_farOf_35 ⟨Nat.zero_le _, Nat.zero_le _⟩) hS (fun v_43 I_37 R_38 J_39 AI_40 AJ_41 AR_42 H locs zv_43 hp_44 hH hS => ?_)
      dsimp only at hp_44
      obtain ⟨rfl, rfl, rfl, rfl, rfl, rfl, qs2⟩ := hp_44
      refine g_calli (g_runV (As := [.int (iI v_43)]) (rest := []) (ci := 7) F hl.1 hH hS hz (c_X7_farOfh5 l g gh T I R J AI AJ AR mo v_43 zv_43 hv hm hT (by omega)) (cwV 1 F.2.2.2.2.1 (good_up gT_X7_farOf) rfl rfl rfl hdX7_farOf ⟨Nat.le_of_ble_eq_true rfl, Nat.le_of_ble_eq_true rfl⟩) hm (by decide) rfl rfl rfl (Nat.le_of_ble_eq_true rfl) dX7_farOf_38 ⟨Nat.zero_le _, Nat.zero_le _⟩) hS (fun v_51 I_45 R_46 J_47 AI_48 AJ_49 AR_50 H locs zv_51 hp_52 hH hS => ?_)
      dsimp only at hp_52
      obtain ⟨rfl, rfl, rfl, rfl, rfl, rfl, q_53, qh2⟩ := hp_52
      have w2 : (if kTs T rr.toNat < 0 then (0 : Int) else kDs (kTk T) (kTf T) (kTs T) 5 (kTs T rr.toNat).toNat) = v_51 := by rw [if_neg (by rw [eS]; omega), eS, ← qs2]; exact qh2.symm
      refine lv_istore_n (lv' := [(3, .int (iI v_51)), (2, .int (iI v_25)), (0, .ref mo), (1, .int (iI rr))]) F.1 F.2.1 dX7_farOf_41 rfl hl (by decide) rfl (fun ls hl => ?_)
      refine z_iconst F dX7_farOf_42 ?_
      refine lv_iload_n F.1 F.2.1 dX7_farOf_43 rfl (lv_at hl 1 rfl) ?_
      refine lv_iload_n F.1 F.2.1 dX7_farOf_44 rfl (lv_at hl 0 rfl) ?_
      refine z_icmp_le (tgt := 52) F dX7_farOf_45 (by decide) zv_25 zv_51 (fun c_54 => ?_) (fun c_54 => ?_)
      · refine lv_iload_n F.1 F.2.1 dX7_farOf_52 rfl (lv_at hl 0 rfl) ?_
        refine z_iadd F dX7_farOf_53 ?_
        exact g_iret F hr hlk hH hS hz ⟨by omega, by omega⟩ ⟨rfl, rfl, rfl, rfl, rfl, rfl, by first | omega | rfl | (dsimp only; omega), by (try dsimp only); rw [e9, w1, w2]; unfold kMx; first | rw [if_pos (by omega)] | rw [if_neg (by omega)]⟩ dX7_farOf_54
      · refine lv_iload_n F.1 F.2.1 dX7_farOf_48 rfl (lv_at hl 1 rfl) ?_
        refine z_goto (tgt := 53) F dX7_farOf_49 (by decide) ?_
        refine z_iadd F dX7_farOf_53 ?_
        exact g_iret F hr hlk hH hS hz ⟨by omega, by omega⟩ ⟨rfl, rfl, rfl, rfl, rfl, rfl, by first | omega | rfl | (dsimp only; omega), by (try dsimp only); rw [e9, w1, w2]; unfold kMx; first | rw [if_pos (by omega)] | rw [if_neg (by omega)]⟩ dX7_farOf_54
    · refine z_iconst F dX7_farOf_28 ?_
      have w2 : (if kTs T rr.toNat < 0 then (0 : Int) else kDs (kTk T) (kTf T) (kTs T) 5 (kTs T rr.toNat).toNat) = 0 := by rw [if_pos (by rw [eS]; omega)]
      refine z_goto (tgt := 41) F dX7_farOf_29 (by decide) ?_
      refine lv_istore_n (lv' := [(3, .int (iI 0)), (2, .int (iI v_25)), (0, .ref mo), (1, .int (iI rr))]) F.1 F.2.1 dX7_farOf_41 rfl hl (by decide) rfl (fun ls hl => ?_)
      refine z_iconst F dX7_farOf_42 ?_
      refine lv_iload_n F.1 F.2.1 dX7_farOf_43 rfl (lv_at hl 1 rfl) ?_
      refine lv_iload_n F.1 F.2.1 dX7_farOf_44 rfl (lv_at hl 0 rfl) ?_
      refine z_icmp_le (tgt := 52) F dX7_farOf_45 (by decide) zv_25 ⟨by decide, by decide⟩ (fun c_55 => ?_) (fun c_55 => ?_)
      · refine lv_iload_n F.1 F.2.1 dX7_farOf_52 rfl (lv_at hl 0 rfl) ?_
        refine z_iadd F dX7_farOf_53 ?_
        exact g_iret F hr hlk hH hS hz ⟨by omega, by omega⟩ ⟨rfl, rfl, rfl, rfl, rfl, rfl, by first | omega | rfl | (dsimp only; omega), by (try dsimp only); rw [e9, w1, w2]; unfold kMx; first | rw [if_pos (by omega)] | rw [if_neg (by omega)]⟩ dX7_farOf_54
      · refine lv_iload_n F.1 F.2.1 dX7_farOf_48 rfl (lv_at hl 1 rfl) ?_
        refine z_goto (tgt := 53) F dX7_farOf_49 (by decide) ?_
        refine z_iadd F dX7_farOf_53 ?_
        exact g_iret F hr hlk hH hS hz ⟨by omega, by omega⟩ ⟨rfl, rfl, rfl, rfl, rfl, rfl, by first | omega | rfl | (dsimp only; omega), by (try dsimp only); rw [e9, w1, w2]; unfold kMx; first | rw [if_pos (by omega)] | rw [if_neg (by omega)]⟩ dX7_farOf_54
  · refine z_iconst F dX7_farOf_8 ?_
    exact g_iret F hr hlk hH hS hz ⟨by decide, by decide⟩ ⟨rfl, rfl, rfl, rfl, rfl, rfl, by first | omega | rfl | (dsimp only; omega), (kDs_0 (d := 5) (by rw [eK]; omega)).symm⟩ dX7_farOf_9

def rmX7_farOfh7 : Room := { frames := 7, cells := 0, slots := 0, locals := 159 }
set_option maxHeartbeats 4000000 in
set_option maxRecDepth 100000 in
/-- farOf -/
theorem c_X7_farOfh7 (l : Launch) (g : gG) (gh : gGh) (T : Nat → Int32) (I : gI) (R : gR) (J : gJ) (AI : gI) (AJ : gJ) (AR : gR) (mo : Nat) (rr : Int) (zrr : zr rr) (hv : mInv g gh R I AI) (hm : gO g mo 7) (hT : AI (gh 50 0) = T) (hr0 : 0 ≤ rr ∧ rr < (I mo 2).toInt ∧ rr < 7) : gMet l g yX7_farOf tsX7_farOf rmX7_farOfh7 [.ref mo, .int (iI rr)] (I, R, J, AI, AJ, AR) (gQi g (fun (z : Int) (w : gS) => I = w.1 ∧ R = w.2.1 ∧ J = w.2.2.1 ∧ AI = w.2.2.2.1 ∧ AJ = w.2.2.2.2.1 ∧ AR = w.2.2.2.2.2 ∧ (0 ≤ z ∧ z ≤ 7) ∧ (z = kDs (kTk T) (kTf T) (kTs T) 7 rr.toNat))) := by
  refine gStart (cc := cX7_farOf) (maxL := 4) (ret := (some (.int))) (by decide) rfl (Nat.le_of_ble_eq_true rfl) ?_
  intro p e s m below meth c ls F hr hlk hH hz hS hl
  have hl : lv_has ls 4 [(0, .ref mo), (1, .int (iI rr))] := hl
  have hS : va_S (gA g) s.heap s.heap [] := hS
  obtain ⟨H, hHe⟩ : ∃ H : Heap, H = s.heap := ⟨_, rfl⟩
  obtain ⟨locs, hlo⟩ : ∃ k : List Loc, k = [] := ⟨_, rfl⟩
  have hH : gH g I R J AI AJ AR H := by rw [hHe]; exact hH
  have hS : va_S (gA g) s.heap H locs := by rw [hHe, hlo]; exact hS
  suffices hw : W p l e rmX7_farOfh7 s m ([.ref mo, .int (iI rr)] : List Value).toArray below meth c H locs 0 0 (MQ below (gQi g (fun (z : Int) (w : gS) => I = w.1 ∧ R = w.2.1 ∧ J = w.2.2.1 ∧ AI = w.2.2.2.1 ∧ AJ = w.2.2.2.2.1 ∧ AR = w.2.2.2.2.2 ∧ (0 ≤ z ∧ z ≤ 7) ∧ (z = kDs (kTk T) (kTf T) (kTs T) 7 rr.toNat))) ([.ref mo, .int (iI rr)] : List Value).toArray s 0 0 (gA g)) (F0 m 0 ls []) by
    rw [hHe, hlo] at hw; exact hw
  clear hHe hlo
  have hb0 := mJ hv hm
  unfold mNum1 at hb0
  have x := mRow hv hm hT (z := rr) (by omega) (by omega)
  have xa := x.1
  have xc := x.2.2.1
  have xb := x.2.1
  have ern : ((rr.toNat : Nat) : Int) = rr := Int.toNat_of_nonneg hr0.1
  have eK : kTk T rr.toNat = tI T (40 * rr) := by unfold kTk; rw [ern]
  have eF : kTf T rr.toNat = tI T (40 * rr + 2) := by unfold kTf; rw [ern]
  have eS : kTs T rr.toNat = tI T (40 * rr + 3) := by unfold kTs; rw [ern]
  refine lv_aload_n F.1 F.2.1 dX7_farOf_0 rfl (lv_at hl 0 rfl) ?_
  refine lv_iload_n F.1 F.2.1 dX7_farOf_1 rfl (lv_at hl 1 rfl) ?_
  have b_1 := mJ hv hm
  unfold mNum1 at b_1
  refine g_calli (g_runV (As := [.int (iI rr)]) (rest := []) (ci := 7) F hl.1 hH hS hz (c_X7_kindOf l g gh T I R J AI AJ AR mo rr zrr hv hm hT (by omega)) (cwV 1 F.2.2.2.2.1 (good_up gT_X7_kindOf) rfl rfl rfl hdX7_kindOf ⟨Nat.le_of_ble_eq_true rfl, Nat.le_of_ble_eq_true rfl⟩) hm (by decide) rfl rfl rfl (Nat.le_of_ble_eq_true rfl) dX7_farOf_2 ⟨Nat.zero_le _, Nat.zero_le _⟩) hS (fun v_8 I_2 R_3 J_4 AI_5 AJ_6 AR_7 H locs zv_8 hp_9 hH hS => ?_)
  dsimp only at hp_9
  obtain ⟨rfl, rfl, rfl, rfl, rfl, rfl, qk⟩ := hp_9
  refine z_if_ne (tgt := 10) F dX7_farOf_5 (by decide) zv_8 (fun c_10 => ?_) (fun c_10 => ?_)
  · refine lv_aload_n F.1 F.2.1 dX7_farOf_10 rfl (lv_at hl 0 rfl) ?_
    refine lv_aload_n F.1 F.2.1 dX7_farOf_11 rfl (lv_at hl 0 rfl) ?_
    refine lv_iload_n F.1 F.2.1 dX7_farOf_12 rfl (lv_at hl 1 rfl) ?_
    refine g_calli (g_runV (As := [.int (iI rr)]) (rest := [.ref mo]) (ci := 7) F hl.1 hH hS hz (c_X7_firstOf l g gh T I R J AI AJ AR mo rr zrr hv hm hT (by omega)) (cwV 1 F.2.2.2.2.1 (good_up gT_X7_firstOf) rfl rfl rfl hdX7_firstOf ⟨Nat.le_of_ble_eq_true rfl, Nat.le_of_ble_eq_true rfl⟩) hm (by decide) rfl rfl rfl (Nat.le_of_ble_eq_true rfl) dX7_farOf_13 ⟨Nat.zero_le _, Nat.zero_le _⟩) hS (fun v_17 I_11 R_12 J_13 AI_14 AJ_15 AR_16 H locs zv_17 hp_18 hH hS => ?_)
    dsimp only at hp_18
    obtain ⟨rfl, rfl, rfl, rfl, rfl, rfl, qf1⟩ := hp_18
    refine g_calli (g_runV (As := [.int (iI v_17)]) (rest := []) (ci := 7) F hl.1 hH hS hz (c_X7_farOfh6 l g gh T I R J AI AJ AR mo v_17 zv_17 hv hm hT (by omega)) (cwV 1 F.2.2.2.2.1 (good_up gT_X7_farOf) rfl rfl rfl hdX7_farOf ⟨Nat.le_of_ble_eq_true rfl, Nat.le_of_ble_eq_true rfl⟩) hm (by decide) rfl rfl rfl (Nat.le_of_ble_eq_true rfl) dX7_farOf_16 ⟨Nat.zero_le _, Nat.zero_le _⟩) hS (fun v_25 I_19 R_20 J_21 AI_22 AJ_23 AR_24 H locs zv_25 hp_26 hH hS => ?_)
    dsimp only at hp_26
    obtain ⟨rfl, rfl, rfl, rfl, rfl, rfl, q_27, qh1⟩ := hp_26
    have e9 : kDs (kTk T) (kTf T) (kTs T) 7 rr.toNat = 1 + kMx (kDs (kTk T) (kTf T) (kTs T) 6 (kTf T rr.toNat).toNat) (if kTs T rr.toNat < 0 then (0 : Int) else kDs (kTk T) (kTf T) (kTs T) 6 (kTs T rr.toNat).toNat) := kDs_1 (d := 6) (by rw [eK]; omega)
    have w1 : kDs (kTk T) (kTf T) (kTs T) 6 (kTf T rr.toNat).toNat = v_25 := by rw [eF, ← qf1]; exact qh1.symm
    refine lv_istore_n (lv' := [(2, .int (iI v_25)), (0, .ref mo), (1, .int (iI rr))]) F.1 F.2.1 dX7_farOf_19 rfl hl (by decide) rfl (fun ls hl => ?_)
    refine lv_aload_n F.1 F.2.1 dX7_farOf_20 rfl (lv_at hl 1 rfl) ?_
    refine lv_iload_n F.1 F.2.1 dX7_farOf_21 rfl (lv_at hl 2 rfl) ?_
    refine g_calli (g_runV (As := [.int (iI rr)]) (rest := []) (ci := 7) F hl.1 hH hS hz (c_X7_secondOf l g gh T I R J AI AJ AR mo rr zrr hv hm hT (by omega)) (cwV 1 F.2.2.2.2.1 (good_up gT_X7_secondOf) rfl rfl rfl hdX7_secondOf ⟨Nat.le_of_ble_eq_true rfl, Nat.le_of_ble_eq_true rfl⟩) hm (by decide) rfl rfl rfl (Nat.le_of_ble_eq_true rfl) dX7_farOf_22 ⟨Nat.zero_le _, Nat.zero_le _⟩) hS (fun v_34 I_28 R_29 J_30 AI_31 AJ_32 AR_33 H locs zv_34 hp_35 hH hS => ?_)
    dsimp only at hp_35
    obtain ⟨rfl, rfl, rfl, rfl, rfl, rfl, qs1⟩ := hp_35
    refine z_if_ge (tgt := 32) F dX7_farOf_25 (by decide) zv_34 (fun c_36 => ?_) (fun c_36 => ?_)
    · refine lv_aload_n F.1 F.2.1 dX7_farOf_32 rfl (lv_at hl 1 rfl) ?_
      refine lv_aload_n F.1 F.2.1 dX7_farOf_33 rfl (lv_at hl 1 rfl) ?_
      refine lv_iload_n F.1 F.2.1 dX7_farOf_34 rfl (lv_at hl 2 rfl) ?_
      refine g_calli (g_runV (As := [.int (iI rr)]) (rest := [.ref mo]) (ci := 7) F hl.1 hH hS hz (c_X7_secondOf l g gh T I R J AI AJ AR mo rr zrr hv hm hT (by omega)) (cwV 1 F.2.2.2.2.1 (good_up gT_X7_secondOf) rfl rfl rfl hdX7_secondOf ⟨Nat.le_of_ble_eq_true rfl, Nat.le_of_ble_eq_true rfl⟩) hm (by decide) rfl rfl rfl (Nat.le_of_ble_eq_true rfl) dX7_farOf_35 ⟨Nat.zero_le _, Nat.zero_le _⟩) hS (fun v_43 I_37 R_38 J_39 AI_40 AJ_41 AR_42 H locs zv_43 hp_44 hH hS => ?_)
      dsimp only at hp_44
      obtain ⟨rfl, rfl, rfl, rfl, rfl, rfl, qs2⟩ := hp_44
      refine g_calli (g_runV (As := [.int (iI v_43)]) (rest := []) (ci := 7) F hl.1 hH hS hz (c_X7_farOfh6 l g gh T I R J AI AJ AR mo v_43 zv_43 hv hm hT (by omega)) (cwV 1 F.2.2.2.2.1 (good_up gT_X7_farOf) rfl rfl rfl hdX7_farOf ⟨Nat.le_of_ble_eq_true rfl, Nat.le_of_ble_eq_true rfl⟩) hm (by decide) rfl rfl rfl (Nat.le_of_ble_eq_true rfl) dX7_farOf_38 ⟨Nat.zero_le _, Nat.zero_le _⟩) hS (fun v_51 I_45 R_46 J_47 AI_48 AJ_49 AR_50 H locs zv_51 hp_52 hH hS => ?_)
      dsimp only at hp_52
      obtain ⟨rfl, rfl, rfl, rfl, rfl, rfl, q_53, qh2⟩ := hp_52
      have w2 : (if kTs T rr.toNat < 0 then (0 : Int) else kDs (kTk T) (kTf T) (kTs T) 6 (kTs T rr.toNat).toNat) = v_51 := by rw [if_neg (by rw [eS]; omega), eS, ← qs2]; exact qh2.symm
      refine lv_istore_n (lv' := [(3, .int (iI v_51)), (2, .int (iI v_25)), (0, .ref mo), (1, .int (iI rr))]) F.1 F.2.1 dX7_farOf_41 rfl hl (by decide) rfl (fun ls hl => ?_)
      refine z_iconst F dX7_farOf_42 ?_
      refine lv_iload_n F.1 F.2.1 dX7_farOf_43 rfl (lv_at hl 1 rfl) ?_
      refine lv_iload_n F.1 F.2.1 dX7_farOf_44 rfl (lv_at hl 0 rfl) ?_
      refine z_icmp_le (tgt := 52) F dX7_farOf_45 (by decide) zv_25 zv_51 (fun c_54 => ?_) (fun c_54 => ?_)
      · refine lv_iload_n F.1 F.2.1 dX7_farOf_52 rfl (lv_at hl 0 rfl) ?_
        refine z_iadd F dX7_farOf_53 ?_
        exact g_iret F hr hlk hH hS hz ⟨by omega, by omega⟩ ⟨rfl, rfl, rfl, rfl, rfl, rfl, by first | omega | rfl | (dsimp only; omega), by (try dsimp only); rw [e9, w1, w2]; unfold kMx; first | rw [if_pos (by omega)] | rw [if_neg (by omega)]⟩ dX7_farOf_54
      · refine lv_iload_n F.1 F.2.1 dX7_farOf_48 rfl (lv_at hl 1 rfl) ?_
        refine z_goto (tgt := 53) F dX7_farOf_49 (by decide) ?_
        refine z_iadd F dX7_farOf_53 ?_
        exact g_iret F hr hlk hH hS hz ⟨by omega, by omega⟩ ⟨rfl, rfl, rfl, rfl, rfl, rfl, by first | omega | rfl | (dsimp only; omega), by (try dsimp only); rw [e9, w1, w2]; unfold kMx; first | rw [if_pos (by omega)] | rw [if_neg (by omega)]⟩ dX7_farOf_54
    · refine z_iconst F dX7_farOf_28 ?_
      have w2 : (if kTs T rr.toNat < 0 then (0 : Int) else kDs (kTk T) (kTf T) (kTs T) 6 (kTs T rr.toNat).toNat) = 0 := by rw [if_pos (by rw [eS]; omega)]
      refine z_goto (tgt := 41) F dX7_farOf_29 (by decide) ?_
      refine lv_istore_n (lv' := [(3, .int (iI 0)), (2, .int (iI v_25)), (0, .ref mo), (1, .int (iI rr))]) F.1 F.2.1 dX7_farOf_41 rfl hl (by decide) rfl (fun ls hl => ?_)
      refine z_iconst F dX7_farOf_42 ?_
      refine lv_iload_n F.1 F.2.1 dX7_farOf_43 rfl (lv_at hl 1 rfl) ?_
      refine lv_iload_n F.1 F.2.1 dX7_farOf_44 rfl (lv_at hl 0 rfl) ?_
      refine z_icmp_le (tgt := 52) F dX7_farOf_45 (by decide) zv_25 ⟨by decide, by decide⟩ (fun c_55 => ?_) (fun c_55 => ?_)
      · refine lv_iload_n F.1 F.2.1 dX7_farOf_52 rfl (lv_at hl 0 rfl) ?_
        refine z_iadd F dX7_farOf_53 ?_
        exact g_iret F hr hlk hH hS hz ⟨by omega, by omega⟩ ⟨rfl, rfl, rfl, rfl, rfl, rfl, by first | omega | rfl | (dsimp only; omega), by (try dsimp only); rw [e9, w1, w2]; unfold kMx; first | rw [if_pos (by omega)] | rw [if_neg (by omega)]⟩ dX7_farOf_54
      · refine lv_iload_n F.1 F.2.1 dX7_farOf_48 rfl (lv_at hl 1 rfl) ?_
        refine z_goto (tgt := 53) F dX7_farOf_49 (by decide) ?_
        refine z_iadd F dX7_farOf_53 ?_
        exact g_iret F hr hlk hH hS hz ⟨by omega, by omega⟩ ⟨rfl, rfl, rfl, rfl, rfl, rfl, by first | omega | rfl | (dsimp only; omega), by (try dsimp only); rw [e9, w1, w2]; unfold kMx; first | rw [if_pos (by omega)] | rw [if_neg (by omega)]⟩ dX7_farOf_54
  · refine z_iconst F dX7_farOf_8 ?_
    exact g_iret F hr hlk hH hS hz ⟨by decide, by decide⟩ ⟨rfl, rfl, rfl, rfl, rfl, rfl, by first | omega | rfl | (dsimp only; omega), (kDs_0 (d := 6) (by rw [eK]; omega)).symm⟩ dX7_farOf_9

def rmX7_farOfh8 : Room := { frames := 8, cells := 0, slots := 0, locals := 182 }
set_option maxHeartbeats 4000000 in
set_option maxRecDepth 100000 in
/-- farOf -/
theorem c_X7_farOfh8 (l : Launch) (g : gG) (gh : gGh) (T : Nat → Int32) (I : gI) (R : gR) (J : gJ) (AI : gI) (AJ : gJ) (AR : gR) (mo : Nat) (rr : Int) (zrr : zr rr) (hv : mInv g gh R I AI) (hm : gO g mo 7) (hT : AI (gh 50 0) = T) (hr0 : 0 ≤ rr ∧ rr < (I mo 2).toInt ∧ rr < 8) : gMet l g yX7_farOf tsX7_farOf rmX7_farOfh8 [.ref mo, .int (iI rr)] (I, R, J, AI, AJ, AR) (gQi g (fun (z : Int) (w : gS) => I = w.1 ∧ R = w.2.1 ∧ J = w.2.2.1 ∧ AI = w.2.2.2.1 ∧ AJ = w.2.2.2.2.1 ∧ AR = w.2.2.2.2.2 ∧ (0 ≤ z ∧ z ≤ 8) ∧ (z = kDs (kTk T) (kTf T) (kTs T) 8 rr.toNat))) := by
  refine gStart (cc := cX7_farOf) (maxL := 4) (ret := (some (.int))) (by decide) rfl (Nat.le_of_ble_eq_true rfl) ?_
  intro p e s m below meth c ls F hr hlk hH hz hS hl
  have hl : lv_has ls 4 [(0, .ref mo), (1, .int (iI rr))] := hl
  have hS : va_S (gA g) s.heap s.heap [] := hS
  obtain ⟨H, hHe⟩ : ∃ H : Heap, H = s.heap := ⟨_, rfl⟩
  obtain ⟨locs, hlo⟩ : ∃ k : List Loc, k = [] := ⟨_, rfl⟩
  have hH : gH g I R J AI AJ AR H := by rw [hHe]; exact hH
  have hS : va_S (gA g) s.heap H locs := by rw [hHe, hlo]; exact hS
  suffices hw : W p l e rmX7_farOfh8 s m ([.ref mo, .int (iI rr)] : List Value).toArray below meth c H locs 0 0 (MQ below (gQi g (fun (z : Int) (w : gS) => I = w.1 ∧ R = w.2.1 ∧ J = w.2.2.1 ∧ AI = w.2.2.2.1 ∧ AJ = w.2.2.2.2.1 ∧ AR = w.2.2.2.2.2 ∧ (0 ≤ z ∧ z ≤ 8) ∧ (z = kDs (kTk T) (kTf T) (kTs T) 8 rr.toNat))) ([.ref mo, .int (iI rr)] : List Value).toArray s 0 0 (gA g)) (F0 m 0 ls []) by
    rw [hHe, hlo] at hw; exact hw
  clear hHe hlo
  have hb0 := mJ hv hm
  unfold mNum1 at hb0
  have x := mRow hv hm hT (z := rr) (by omega) (by omega)
  have xa := x.1
  have xc := x.2.2.1
  have xb := x.2.1
  have ern : ((rr.toNat : Nat) : Int) = rr := Int.toNat_of_nonneg hr0.1
  have eK : kTk T rr.toNat = tI T (40 * rr) := by unfold kTk; rw [ern]
  have eF : kTf T rr.toNat = tI T (40 * rr + 2) := by unfold kTf; rw [ern]
  have eS : kTs T rr.toNat = tI T (40 * rr + 3) := by unfold kTs; rw [ern]
  refine lv_aload_n F.1 F.2.1 dX7_farOf_0 rfl (lv_at hl 0 rfl) ?_
  refine lv_iload_n F.1 F.2.1 dX7_farOf_1 rfl (lv_at hl 1 rfl) ?_
  have b_1 := mJ hv hm
  unfold mNum1 at b_1
  refine g_calli (g_runV (As := [.int (iI rr)]) (rest := []) (ci := 7) F hl.1 hH hS hz (c_X7_kindOf l g gh T I R J AI AJ AR mo rr zrr hv hm hT (by omega)) (cwV 1 F.2.2.2.2.1 (good_up gT_X7_kindOf) rfl rfl rfl hdX7_kindOf ⟨Nat.le_of_ble_eq_true rfl, Nat.le_of_ble_eq_true rfl⟩) hm (by decide) rfl rfl rfl (Nat.le_of_ble_eq_true rfl) dX7_farOf_2 ⟨Nat.zero_le _, Nat.zero_le _⟩) hS (fun v_8 I_2 R_3 J_4 AI_5 AJ_6 AR_7 H locs zv_8 hp_9 hH hS => ?_)
  dsimp only at hp_9
  obtain ⟨rfl, rfl, rfl, rfl, rfl, rfl, qk⟩ := hp_9
  refine z_if_ne (tgt := 10) F dX7_farOf_5 (by decide) zv_8 (fun c_10 => ?_) (fun c_10 => ?_)
  · refine lv_aload_n F.1 F.2.1 dX7_farOf_10 rfl (lv_at hl 0 rfl) ?_
    refine lv_aload_n F.1 F.2.1 dX7_farOf_11 rfl (lv_at hl 0 rfl) ?_
    refine lv_iload_n F.1 F.2.1 dX7_farOf_12 rfl (lv_at hl 1 rfl) ?_
    refine g_calli (g_runV (As := [.int (iI rr)]) (rest := [.ref mo]) (ci := 7) F hl.1 hH hS hz (c_X7_firstOf l g gh T I R J AI AJ AR mo rr zrr hv hm hT (by omega)) (cwV 1 F.2.2.2.2.1 (good_up gT_X7_firstOf) rfl rfl rfl hdX7_firstOf ⟨Nat.le_of_ble_eq_true rfl, Nat.le_of_ble_eq_true rfl⟩) hm (by decide) rfl rfl rfl (Nat.le_of_ble_eq_true rfl) dX7_farOf_13 ⟨Nat.zero_le _, Nat.zero_le _⟩) hS (fun v_17 I_11 R_12 J_13 AI_14 AJ_15 AR_16 H locs zv_17 hp_18 hH hS => ?_)
    dsimp only at hp_18
    obtain ⟨rfl, rfl, rfl, rfl, rfl, rfl, qf1⟩ := hp_18
    refine g_calli (g_runV (As := [.int (iI v_17)]) (rest := []) (ci := 7) F hl.1 hH hS hz (c_X7_farOfh7 l g gh T I R J AI AJ AR mo v_17 zv_17 hv hm hT (by omega)) (cwV 1 F.2.2.2.2.1 (good_up gT_X7_farOf) rfl rfl rfl hdX7_farOf ⟨Nat.le_of_ble_eq_true rfl, Nat.le_of_ble_eq_true rfl⟩) hm (by decide) rfl rfl rfl (Nat.le_of_ble_eq_true rfl) dX7_farOf_16 ⟨Nat.zero_le _, Nat.zero_le _⟩) hS (fun v_25 I_19 R_20 J_21 AI_22 AJ_23 AR_24 H locs zv_25 hp_26 hH hS => ?_)
    dsimp only at hp_26
    obtain ⟨rfl, rfl, rfl, rfl, rfl, rfl, q_27, qh1⟩ := hp_26
    have e9 : kDs (kTk T) (kTf T) (kTs T) 8 rr.toNat = 1 + kMx (kDs (kTk T) (kTf T) (kTs T) 7 (kTf T rr.toNat).toNat) (if kTs T rr.toNat < 0 then (0 : Int) else kDs (kTk T) (kTf T) (kTs T) 7 (kTs T rr.toNat).toNat) := kDs_1 (d := 7) (by rw [eK]; omega)
    have w1 : kDs (kTk T) (kTf T) (kTs T) 7 (kTf T rr.toNat).toNat = v_25 := by rw [eF, ← qf1]; exact qh1.symm
    refine lv_istore_n (lv' := [(2, .int (iI v_25)), (0, .ref mo), (1, .int (iI rr))]) F.1 F.2.1 dX7_farOf_19 rfl hl (by decide) rfl (fun ls hl => ?_)
    refine lv_aload_n F.1 F.2.1 dX7_farOf_20 rfl (lv_at hl 1 rfl) ?_
    refine lv_iload_n F.1 F.2.1 dX7_farOf_21 rfl (lv_at hl 2 rfl) ?_
    refine g_calli (g_runV (As := [.int (iI rr)]) (rest := []) (ci := 7) F hl.1 hH hS hz (c_X7_secondOf l g gh T I R J AI AJ AR mo rr zrr hv hm hT (by omega)) (cwV 1 F.2.2.2.2.1 (good_up gT_X7_secondOf) rfl rfl rfl hdX7_secondOf ⟨Nat.le_of_ble_eq_true rfl, Nat.le_of_ble_eq_true rfl⟩) hm (by decide) rfl rfl rfl (Nat.le_of_ble_eq_true rfl) dX7_farOf_22 ⟨Nat.zero_le _, Nat.zero_le _⟩) hS (fun v_34 I_28 R_29 J_30 AI_31 AJ_32 AR_33 H locs zv_34 hp_35 hH hS => ?_)
    dsimp only at hp_35
    obtain ⟨rfl, rfl, rfl, rfl, rfl, rfl, qs1⟩ := hp_35
    refine z_if_ge (tgt := 32) F dX7_farOf_25 (by decide) zv_34 (fun c_36 => ?_) (fun c_36 => ?_)
    · refine lv_aload_n F.1 F.2.1 dX7_farOf_32 rfl (lv_at hl 1 rfl) ?_
      refine lv_aload_n F.1 F.2.1 dX7_farOf_33 rfl (lv_at hl 1 rfl) ?_
      refine lv_iload_n F.1 F.2.1 dX7_farOf_34 rfl (lv_at hl 2 rfl) ?_
      refine g_calli (g_runV (As := [.int (iI rr)]) (rest := [.ref mo]) (ci := 7) F hl.1 hH hS hz (c_X7_secondOf l g gh T I R J AI AJ AR mo rr zrr hv hm hT (by omega)) (cwV 1 F.2.2.2.2.1 (good_up gT_X7_secondOf) rfl rfl rfl hdX7_secondOf ⟨Nat.le_of_ble_eq_true rfl, Nat.le_of_ble_eq_true rfl⟩) hm (by decide) rfl rfl rfl (Nat.le_of_ble_eq_true rfl) dX7_farOf_35 ⟨Nat.zero_le _, Nat.zero_le _⟩) hS (fun v_43 I_37 R_38 J_39 AI_40 AJ_41 AR_42 H locs zv_43 hp_44 hH hS => ?_)
      dsimp only at hp_44
      obtain ⟨rfl, rfl, rfl, rfl, rfl, rfl, qs2⟩ := hp_44
      refine g_calli (g_runV (As := [.int (iI v_43)]) (rest := []) (ci := 7) F hl.1 hH hS hz (c_X7_farOfh7 l g gh T I R J AI AJ AR mo v_43 zv_43 hv hm hT (by omega)) (cwV 1 F.2.2.2.2.1 (good_up gT_X7_farOf) rfl rfl rfl hdX7_farOf ⟨Nat.le_of_ble_eq_true rfl, Nat.le_of_ble_eq_true rfl⟩) hm (by decide) rfl rfl rfl (Nat.le_of_ble_eq_true rfl) dX7_farOf_38 ⟨Nat.zero_le _, Nat.zero_le _⟩) hS (fun v_51 I_45 R_46 J_47 AI_48 AJ_49 AR_50 H locs zv_51 hp_52 hH hS => ?_)
      dsimp only at hp_52
      obtain ⟨rfl, rfl, rfl, rfl, rfl, rfl, q_53, qh2⟩ := hp_52
      have w2 : (if kTs T rr.toNat < 0 then (0 : Int) else kDs (kTk T) (kTf T) (kTs T) 7 (kTs T rr.toNat).toNat) = v_51 := by rw [if_neg (by rw [eS]; omega), eS, ← qs2]; exact qh2.symm
      refine lv_istore_n (lv' := [(3, .int (iI v_51)), (2, .int (iI v_25)), (0, .ref mo), (1, .int (iI rr))]) F.1 F.2.1 dX7_farOf_41 rfl hl (by decide) rfl (fun ls hl => ?_)
      refine z_iconst F dX7_farOf_42 ?_
      refine lv_iload_n F.1 F.2.1 dX7_farOf_43 rfl (lv_at hl 1 rfl) ?_
      refine lv_iload_n F.1 F.2.1 dX7_farOf_44 rfl (lv_at hl 0 rfl) ?_
      refine z_icmp_le (tgt := 52) F dX7_farOf_45 (by decide) zv_25 zv_51 (fun c_54 => ?_) (fun c_54 => ?_)
      · refine lv_iload_n F.1 F.2.1 dX7_farOf_52 rfl (lv_at hl 0 rfl) ?_
        refine z_iadd F dX7_farOf_53 ?_
        exact g_iret F hr hlk hH hS hz ⟨by omega, by omega⟩ ⟨rfl, rfl, rfl, rfl, rfl, rfl, by first | omega | rfl | (dsimp only; omega), by (try dsimp only); rw [e9, w1, w2]; unfold kMx; first | rw [if_pos (by omega)] | rw [if_neg (by omega)]⟩ dX7_farOf_54
      · refine lv_iload_n F.1 F.2.1 dX7_farOf_48 rfl (lv_at hl 1 rfl) ?_
        refine z_goto (tgt := 53) F dX7_farOf_49 (by decide) ?_
        refine z_iadd F dX7_farOf_53 ?_
        exact g_iret F hr hlk hH hS hz ⟨by omega, by omega⟩ ⟨rfl, rfl, rfl, rfl, rfl, rfl, by first | omega | rfl | (dsimp only; omega), by (try dsimp only); rw [e9, w1, w2]; unfold kMx; first | rw [if_pos (by omega)] | rw [if_neg (by omega)]⟩ dX7_farOf_54
    · refine z_iconst F dX7_farOf_28 ?_
      have w2 : (if kTs T rr.toNat < 0 then (0 : Int) else kDs (kTk T) (kTf T) (kTs T) 7 (kTs T rr.toNat).toNat) = 0 := by rw [if_pos (by rw [eS]; omega)]
      refine z_goto (tgt := 41) F dX7_farOf_29 (by decide) ?_
      refine lv_istore_n (lv' := [(3, .int (iI 0)), (2, .int (iI v_25)), (0, .ref mo), (1, .int (iI rr))]) F.1 F.2.1 dX7_farOf_41 rfl hl (by decide) rfl (fun ls hl => ?_)
      refine z_iconst F dX7_farOf_42 ?_
      refine lv_iload_n F.1 F.2.1 dX7_farOf_43 rfl (lv_at hl 1 rfl) ?_
      refine lv_iload_n F.1 F.2.1 dX7_farOf_44 rfl (lv_at hl 0 rfl) ?_
      refine z_icmp_le (tgt := 52) F dX7_farOf_45 (by decide) zv_25 ⟨by decide, by decide⟩ (fun c_55 => ?_) (fun c_55 => ?_)
      · refine lv_iload_n F.1 F.2.1 dX7_farOf_52 rfl (lv_at hl 0 rfl) ?_
        refine z_iadd F dX7_farOf_53 ?_
        exact g_iret F hr hlk hH hS hz ⟨by omega, by omega⟩ ⟨rfl, rfl, rfl, rfl, rfl, rfl, by first | omega | rfl | (dsimp only; omega), by (try dsimp only); rw [e9, w1, w2]; unfold kMx; first | rw [if_pos (by omega)] | rw [if_neg (by omega)]⟩ dX7_farOf_54
      · refine lv_iload_n F.1 F.2.1 dX7_farOf_48 rfl (lv_at hl 1 rfl) ?_
        refine z_goto (tgt := 53) F dX7_farOf_49 (by decide) ?_
        refine z_iadd F dX7_farOf_53 ?_
        exact g_iret F hr hlk hH hS hz ⟨by omega, by omega⟩ ⟨rfl, rfl, rfl, rfl, rfl, rfl, by first | omega | rfl | (dsimp only; omega), by (try dsimp only); rw [e9, w1, w2]; unfold kMx; first | rw [if_pos (by omega)] | rw [if_neg (by omega)]⟩ dX7_farOf_54
  · refine z_iconst F dX7_farOf_8 ?_
    exact g_iret F hr hlk hH hS hz ⟨by decide, by decide⟩ ⟨rfl, rfl, rfl, rfl, rfl, rfl, by first | omega | rfl | (dsimp only; omega), (kDs_0 (d := 7) (by rw [eK]; omega)).symm⟩ dX7_farOf_9

def rmX7_farOfh9 : Room := { frames := 9, cells := 0, slots := 0, locals := 205 }
set_option maxHeartbeats 4000000 in
set_option maxRecDepth 100000 in
/-- farOf -/
theorem c_X7_farOfh9 (l : Launch) (g : gG) (gh : gGh) (T : Nat → Int32) (I : gI) (R : gR) (J : gJ) (AI : gI) (AJ : gJ) (AR : gR) (mo : Nat) (rr : Int) (zrr : zr rr) (hv : mInv g gh R I AI) (hm : gO g mo 7) (hT : AI (gh 50 0) = T) (hr0 : 0 ≤ rr ∧ rr < (I mo 2).toInt ∧ rr < 9) : gMet l g yX7_farOf tsX7_farOf rmX7_farOfh9 [.ref mo, .int (iI rr)] (I, R, J, AI, AJ, AR) (gQi g (fun (z : Int) (w : gS) => I = w.1 ∧ R = w.2.1 ∧ J = w.2.2.1 ∧ AI = w.2.2.2.1 ∧ AJ = w.2.2.2.2.1 ∧ AR = w.2.2.2.2.2 ∧ (0 ≤ z ∧ z ≤ 9) ∧ (z = kDs (kTk T) (kTf T) (kTs T) 9 rr.toNat))) := by
  refine gStart (cc := cX7_farOf) (maxL := 4) (ret := (some (.int))) (by decide) rfl (Nat.le_of_ble_eq_true rfl) ?_
  intro p e s m below meth c ls F hr hlk hH hz hS hl
  have hl : lv_has ls 4 [(0, .ref mo), (1, .int (iI rr))] := hl
  have hS : va_S (gA g) s.heap s.heap [] := hS
  obtain ⟨H, hHe⟩ : ∃ H : Heap, H = s.heap := ⟨_, rfl⟩
  obtain ⟨locs, hlo⟩ : ∃ k : List Loc, k = [] := ⟨_, rfl⟩
  have hH : gH g I R J AI AJ AR H := by rw [hHe]; exact hH
  have hS : va_S (gA g) s.heap H locs := by rw [hHe, hlo]; exact hS
  suffices hw : W p l e rmX7_farOfh9 s m ([.ref mo, .int (iI rr)] : List Value).toArray below meth c H locs 0 0 (MQ below (gQi g (fun (z : Int) (w : gS) => I = w.1 ∧ R = w.2.1 ∧ J = w.2.2.1 ∧ AI = w.2.2.2.1 ∧ AJ = w.2.2.2.2.1 ∧ AR = w.2.2.2.2.2 ∧ (0 ≤ z ∧ z ≤ 9) ∧ (z = kDs (kTk T) (kTf T) (kTs T) 9 rr.toNat))) ([.ref mo, .int (iI rr)] : List Value).toArray s 0 0 (gA g)) (F0 m 0 ls []) by
    rw [hHe, hlo] at hw; exact hw
  clear hHe hlo
  have hb0 := mJ hv hm
  unfold mNum1 at hb0
  have x := mRow hv hm hT (z := rr) (by omega) (by omega)
  have xa := x.1
  have xc := x.2.2.1
  have xb := x.2.1
  have ern : ((rr.toNat : Nat) : Int) = rr := Int.toNat_of_nonneg hr0.1
  have eK : kTk T rr.toNat = tI T (40 * rr) := by unfold kTk; rw [ern]
  have eF : kTf T rr.toNat = tI T (40 * rr + 2) := by unfold kTf; rw [ern]
  have eS : kTs T rr.toNat = tI T (40 * rr + 3) := by unfold kTs; rw [ern]
  refine lv_aload_n F.1 F.2.1 dX7_farOf_0 rfl (lv_at hl 0 rfl) ?_
  refine lv_iload_n F.1 F.2.1 dX7_farOf_1 rfl (lv_at hl 1 rfl) ?_
  have b_1 := mJ hv hm
  unfold mNum1 at b_1
  refine g_calli (g_runV (As := [.int (iI rr)]) (rest := []) (ci := 7) F hl.1 hH hS hz (c_X7_kindOf l g gh T I R J AI AJ AR mo rr zrr hv hm hT (by omega)) (cwV 1 F.2.2.2.2.1 (good_up gT_X7_kindOf) rfl rfl rfl hdX7_kindOf ⟨Nat.le_of_ble_eq_true rfl, Nat.le_of_ble_eq_true rfl⟩) hm (by decide) rfl rfl rfl (Nat.le_of_ble_eq_true rfl) dX7_farOf_2 ⟨Nat.zero_le _, Nat.zero_le _⟩) hS (fun v_8 I_2 R_3 J_4 AI_5 AJ_6 AR_7 H locs zv_8 hp_9 hH hS => ?_)
  dsimp only at hp_9
  obtain ⟨rfl, rfl, rfl, rfl, rfl, rfl, qk⟩ := hp_9
  refine z_if_ne (tgt := 10) F dX7_farOf_5 (by decide) zv_8 (fun c_10 => ?_) (fun c_10 => ?_)
  · refine lv_aload_n F.1 F.2.1 dX7_farOf_10 rfl (lv_at hl 0 rfl) ?_
    refine lv_aload_n F.1 F.2.1 dX7_farOf_11 rfl (lv_at hl 0 rfl) ?_
    refine lv_iload_n F.1 F.2.1 dX7_farOf_12 rfl (lv_at hl 1 rfl) ?_
    refine g_calli (g_runV (As := [.int (iI rr)]) (rest := [.ref mo]) (ci := 7) F hl.1 hH hS hz (c_X7_firstOf l g gh T I R J AI AJ AR mo rr zrr hv hm hT (by omega)) (cwV 1 F.2.2.2.2.1 (good_up gT_X7_firstOf) rfl rfl rfl hdX7_firstOf ⟨Nat.le_of_ble_eq_true rfl, Nat.le_of_ble_eq_true rfl⟩) hm (by decide) rfl rfl rfl (Nat.le_of_ble_eq_true rfl) dX7_farOf_13 ⟨Nat.zero_le _, Nat.zero_le _⟩) hS (fun v_17 I_11 R_12 J_13 AI_14 AJ_15 AR_16 H locs zv_17 hp_18 hH hS => ?_)
    dsimp only at hp_18
    obtain ⟨rfl, rfl, rfl, rfl, rfl, rfl, qf1⟩ := hp_18
    refine g_calli (g_runV (As := [.int (iI v_17)]) (rest := []) (ci := 7) F hl.1 hH hS hz (c_X7_farOfh8 l g gh T I R J AI AJ AR mo v_17 zv_17 hv hm hT (by omega)) (cwV 1 F.2.2.2.2.1 (good_up gT_X7_farOf) rfl rfl rfl hdX7_farOf ⟨Nat.le_of_ble_eq_true rfl, Nat.le_of_ble_eq_true rfl⟩) hm (by decide) rfl rfl rfl (Nat.le_of_ble_eq_true rfl) dX7_farOf_16 ⟨Nat.zero_le _, Nat.zero_le _⟩) hS (fun v_25 I_19 R_20 J_21 AI_22 AJ_23 AR_24 H locs zv_25 hp_26 hH hS => ?_)
    dsimp only at hp_26
    obtain ⟨rfl, rfl, rfl, rfl, rfl, rfl, q_27, qh1⟩ := hp_26
    have e9 : kDs (kTk T) (kTf T) (kTs T) 9 rr.toNat = 1 + kMx (kDs (kTk T) (kTf T) (kTs T) 8 (kTf T rr.toNat).toNat) (if kTs T rr.toNat < 0 then (0 : Int) else kDs (kTk T) (kTf T) (kTs T) 8 (kTs T rr.toNat).toNat) := kDs_1 (d := 8) (by rw [eK]; omega)
    have w1 : kDs (kTk T) (kTf T) (kTs T) 8 (kTf T rr.toNat).toNat = v_25 := by rw [eF, ← qf1]; exact qh1.symm
    refine lv_istore_n (lv' := [(2, .int (iI v_25)), (0, .ref mo), (1, .int (iI rr))]) F.1 F.2.1 dX7_farOf_19 rfl hl (by decide) rfl (fun ls hl => ?_)
    refine lv_aload_n F.1 F.2.1 dX7_farOf_20 rfl (lv_at hl 1 rfl) ?_
    refine lv_iload_n F.1 F.2.1 dX7_farOf_21 rfl (lv_at hl 2 rfl) ?_
    refine g_calli (g_runV (As := [.int (iI rr)]) (rest := []) (ci := 7) F hl.1 hH hS hz (c_X7_secondOf l g gh T I R J AI AJ AR mo rr zrr hv hm hT (by omega)) (cwV 1 F.2.2.2.2.1 (good_up gT_X7_secondOf) rfl rfl rfl hdX7_secondOf ⟨Nat.le_of_ble_eq_true rfl, Nat.le_of_ble_eq_true rfl⟩) hm (by decide) rfl rfl rfl (Nat.le_of_ble_eq_true rfl) dX7_farOf_22 ⟨Nat.zero_le _, Nat.zero_le _⟩) hS (fun v_34 I_28 R_29 J_30 AI_31 AJ_32 AR_33 H locs zv_34 hp_35 hH hS => ?_)
    dsimp only at hp_35
    obtain ⟨rfl, rfl, rfl, rfl, rfl, rfl, qs1⟩ := hp_35
    refine z_if_ge (tgt := 32) F dX7_farOf_25 (by decide) zv_34 (fun c_36 => ?_) (fun c_36 => ?_)
    · refine lv_aload_n F.1 F.2.1 dX7_farOf_32 rfl (lv_at hl 1 rfl) ?_
      refine lv_aload_n F.1 F.2.1 dX7_farOf_33 rfl (lv_at hl 1 rfl) ?_
      refine lv_iload_n F.1 F.2.1 dX7_farOf_34 rfl (lv_at hl 2 rfl) ?_
      refine g_calli (g_runV (As := [.int (iI rr)]) (rest := [.ref mo]) (ci := 7) F hl.1 hH hS hz (c_X7_secondOf l g gh T I R J AI AJ AR mo rr zrr hv hm hT (by omega)) (cwV 1 F.2.2.2.2.1 (good_up gT_X7_secondOf) rfl rfl rfl hdX7_secondOf ⟨Nat.le_of_ble_eq_true rfl, Nat.le_of_ble_eq_true rfl⟩) hm (by decide) rfl rfl rfl (Nat.le_of_ble_eq_true rfl) dX7_farOf_35 ⟨Nat.zero_le _, Nat.zero_le _⟩) hS (fun v_43 I_37 R_38 J_39 AI_40 AJ_41 AR_42 H locs zv_43 hp_44 hH hS => ?_)
      dsimp only at hp_44
      obtain ⟨rfl, rfl, rfl, rfl, rfl, rfl, qs2⟩ := hp_44
      refine g_calli (g_runV (As := [.int (iI v_43)]) (rest := []) (ci := 7) F hl.1 hH hS hz (c_X7_farOfh8 l g gh T I R J AI AJ AR mo v_43 zv_43 hv hm hT (by omega)) (cwV 1 F.2.2.2.2.1 (good_up gT_X7_farOf) rfl rfl rfl hdX7_farOf ⟨Nat.le_of_ble_eq_true rfl, Nat.le_of_ble_eq_true rfl⟩) hm (by decide) rfl rfl rfl (Nat.le_of_ble_eq_true rfl) dX7_farOf_38 ⟨Nat.zero_le _, Nat.zero_le _⟩) hS (fun v_51 I_45 R_46 J_47 AI_48 AJ_49 AR_50 H locs zv_51 hp_52 hH hS => ?_)
      dsimp only at hp_52
      obtain ⟨rfl, rfl, rfl, rfl, rfl, rfl, q_53, qh2⟩ := hp_52
      have w2 : (if kTs T rr.toNat < 0 then (0 : Int) else kDs (kTk T) (kTf T) (kTs T) 8 (kTs T rr.toNat).toNat) = v_51 := by rw [if_neg (by rw [eS]; omega), eS, ← qs2]; exact qh2.symm
      refine lv_istore_n (lv' := [(3, .int (iI v_51)), (2, .int (iI v_25)), (0, .ref mo), (1, .int (iI rr))]) F.1 F.2.1 dX7_farOf_41 rfl hl (by decide) rfl (fun ls hl => ?_)
      refine z_iconst F dX7_farOf_42 ?_
      refine lv_iload_n F.1 F.2.1 dX7_farOf_43 rfl (lv_at hl 1 rfl) ?_
      refine lv_iload_n F.1 F.2.1 dX7_farOf_44 rfl (lv_at hl 0 rfl) ?_
      refine z_icmp_le (tgt := 52) F dX7_farOf_45 (by decide) zv_25 zv_51 (fun c_54 => ?_) (fun c_54 => ?_)
      · refine lv_iload_n F.1 F.2.1 dX7_farOf_52 rfl (lv_at hl 0 rfl) ?_
        refine z_iadd F dX7_farOf_53 ?_
        exact g_iret F hr hlk hH hS hz ⟨by omega, by omega⟩ ⟨rfl, rfl, rfl, rfl, rfl, rfl, by first | omega | rfl | (dsimp only; omega), by (try dsimp only); rw [e9, w1, w2]; unfold kMx; first | rw [if_pos (by omega)] | rw [if_neg (by omega)]⟩ dX7_farOf_54
      · refine lv_iload_n F.1 F.2.1 dX7_farOf_48 rfl (lv_at hl 1 rfl) ?_
        refine z_goto (tgt := 53) F dX7_farOf_49 (by decide) ?_
        refine z_iadd F dX7_farOf_53 ?_
        exact g_iret F hr hlk hH hS hz ⟨by omega, by omega⟩ ⟨rfl, rfl, rfl, rfl, rfl, rfl, by first | omega | rfl | (dsimp only; omega), by (try dsimp only); rw [e9, w1, w2]; unfold kMx; first | rw [if_pos (by omega)] | rw [if_neg (by omega)]⟩ dX7_farOf_54
    · refine z_iconst F dX7_farOf_28 ?_
      have w2 : (if kTs T rr.toNat < 0 then (0 : Int) else kDs (kTk T) (kTf T) (kTs T) 8 (kTs T rr.toNat).toNat) = 0 := by rw [if_pos (by rw [eS]; omega)]
      refine z_goto (tgt := 41) F dX7_farOf_29 (by decide) ?_
      refine lv_istore_n (lv' := [(3, .int (iI 0)), (2, .int (iI v_25)), (0, .ref mo), (1, .int (iI rr))]) F.1 F.2.1 dX7_farOf_41 rfl hl (by decide) rfl (fun ls hl => ?_)
      refine z_iconst F dX7_farOf_42 ?_
      refine lv_iload_n F.1 F.2.1 dX7_farOf_43 rfl (lv_at hl 1 rfl) ?_
      refine lv_iload_n F.1 F.2.1 dX7_farOf_44 rfl (lv_at hl 0 rfl) ?_
      refine z_icmp_le (tgt := 52) F dX7_farOf_45 (by decide) zv_25 ⟨by decide, by decide⟩ (fun c_55 => ?_) (fun c_55 => ?_)
      · refine lv_iload_n F.1 F.2.1 dX7_farOf_52 rfl (lv_at hl 0 rfl) ?_
        refine z_iadd F dX7_farOf_53 ?_
        exact g_iret F hr hlk hH hS hz ⟨by omega, by omega⟩ ⟨rfl, rfl, rfl, rfl, rfl, rfl, by first | omega | rfl | (dsimp only; omega), by (try dsimp only); rw [e9, w1, w2]; unfold kMx; first | rw [if_pos (by omega)] | rw [if_neg (by omega)]⟩ dX7_farOf_54
      · refine lv_iload_n F.1 F.2.1 dX7_farOf_48 rfl (lv_at hl 1 rfl) ?_
        refine z_goto (tgt := 53) F dX7_farOf_49 (by decide) ?_
        refine z_iadd F dX7_farOf_53 ?_
        exact g_iret F hr hlk hH hS hz ⟨by omega, by omega⟩ ⟨rfl, rfl, rfl, rfl, rfl, rfl, by first | omega | rfl | (dsimp only; omega), by (try dsimp only); rw [e9, w1, w2]; unfold kMx; first | rw [if_pos (by omega)] | rw [if_neg (by omega)]⟩ dX7_farOf_54
  · refine z_iconst F dX7_farOf_8 ?_
    exact g_iret F hr hlk hH hS hz ⟨by decide, by decide⟩ ⟨rfl, rfl, rfl, rfl, rfl, rfl, by first | omega | rfl | (dsimp only; omega), (kDs_0 (d := 8) (by rw [eK]; omega)).symm⟩ dX7_farOf_9

def rmX7_farOfh10 : Room := { frames := 10, cells := 0, slots := 0, locals := 228 }
set_option maxHeartbeats 4000000 in
set_option maxRecDepth 100000 in
/-- farOf -/
theorem c_X7_farOfh10 (l : Launch) (g : gG) (gh : gGh) (T : Nat → Int32) (I : gI) (R : gR) (J : gJ) (AI : gI) (AJ : gJ) (AR : gR) (mo : Nat) (rr : Int) (zrr : zr rr) (hv : mInv g gh R I AI) (hm : gO g mo 7) (hT : AI (gh 50 0) = T) (hr0 : 0 ≤ rr ∧ rr < (I mo 2).toInt ∧ rr < 10) : gMet l g yX7_farOf tsX7_farOf rmX7_farOfh10 [.ref mo, .int (iI rr)] (I, R, J, AI, AJ, AR) (gQi g (fun (z : Int) (w : gS) => I = w.1 ∧ R = w.2.1 ∧ J = w.2.2.1 ∧ AI = w.2.2.2.1 ∧ AJ = w.2.2.2.2.1 ∧ AR = w.2.2.2.2.2 ∧ (0 ≤ z ∧ z ≤ 10) ∧ (z = kDs (kTk T) (kTf T) (kTs T) 10 rr.toNat))) := by
  refine gStart (cc := cX7_farOf) (maxL := 4) (ret := (some (.int))) (by decide) rfl (Nat.le_of_ble_eq_true rfl) ?_
  intro p e s m below meth c ls F hr hlk hH hz hS hl
  have hl : lv_has ls 4 [(0, .ref mo), (1, .int (iI rr))] := hl
  have hS : va_S (gA g) s.heap s.heap [] := hS
  obtain ⟨H, hHe⟩ : ∃ H : Heap, H = s.heap := ⟨_, rfl⟩
  obtain ⟨locs, hlo⟩ : ∃ k : List Loc, k = [] := ⟨_, rfl⟩
  have hH : gH g I R J AI AJ AR H := by rw [hHe]; exact hH
  have hS : va_S (gA g) s.heap H locs := by rw [hHe, hlo]; exact hS
  suffices hw : W p l e rmX7_farOfh10 s m ([.ref mo, .int (iI rr)] : List Value).toArray below meth c H locs 0 0 (MQ below (gQi g (fun (z : Int) (w : gS) => I = w.1 ∧ R = w.2.1 ∧ J = w.2.2.1 ∧ AI = w.2.2.2.1 ∧ AJ = w.2.2.2.2.1 ∧ AR = w.2.2.2.2.2 ∧ (0 ≤ z ∧ z ≤ 10) ∧ (z = kDs (kTk T) (kTf T) (kTs T) 10 rr.toNat))) ([.ref mo, .int (iI rr)] : List Value).toArray s 0 0 (gA g)) (F0 m 0 ls []) by
    rw [hHe, hlo] at hw; exact hw
  clear hHe hlo
  have hb0 := mJ hv hm
  unfold mNum1 at hb0
  have x := mRow hv hm hT (z := rr) (by omega) (by omega)
  have xa := x.1
  have xc := x.2.2.1
  have xb := x.2.1
  have ern : ((rr.toNat : Nat) : Int) = rr := Int.toNat_of_nonneg hr0.1
  have eK : kTk T rr.toNat = tI T (40 * rr) := by unfold kTk; rw [ern]
  have eF : kTf T rr.toNat = tI T (40 * rr + 2) := by unfold kTf; rw [ern]
  have eS : kTs T rr.toNat = tI T (40 * rr + 3) := by unfold kTs; rw [ern]
  refine lv_aload_n F.1 F.2.1 dX7_farOf_0 rfl (lv_at hl 0 rfl) ?_
  refine lv_iload_n F.1 F.2.1 dX7_farOf_1 rfl (lv_at hl 1 rfl) ?_
  have b_1 := mJ hv hm
  unfold mNum1 at b_1
  refine g_calli (g_runV (As := [.int (iI rr)]) (rest := []) (ci := 7) F hl.1 hH hS hz (c_X7_kindOf l g gh T I R J AI AJ AR mo rr zrr hv hm hT (by omega)) (cwV 1 F.2.2.2.2.1 (good_up gT_X7_kindOf) rfl rfl rfl hdX7_kindOf ⟨Nat.le_of_ble_eq_true rfl, Nat.le_of_ble_eq_true rfl⟩) hm (by decide) rfl rfl rfl (Nat.le_of_ble_eq_true rfl) dX7_farOf_2 ⟨Nat.zero_le _, Nat.zero_le _⟩) hS (fun v_8 I_2 R_3 J_4 AI_5 AJ_6 AR_7 H locs zv_8 hp_9 hH hS => ?_)
  dsimp only at hp_9
  obtain ⟨rfl, rfl, rfl, rfl, rfl, rfl, qk⟩ := hp_9
  refine z_if_ne (tgt := 10) F dX7_farOf_5 (by decide) zv_8 (fun c_10 => ?_) (fun c_10 => ?_)
  · refine lv_aload_n F.1 F.2.1 dX7_farOf_10 rfl (lv_at hl 0 rfl) ?_
    refine lv_aload_n F.1 F.2.1 dX7_farOf_11 rfl (lv_at hl 0 rfl) ?_
    refine lv_iload_n F.1 F.2.1 dX7_farOf_12 rfl (lv_at hl 1 rfl) ?_
    refine g_calli (g_runV (As := [.int (iI rr)]) (rest := [.ref mo]) (ci := 7) F hl.1 hH hS hz (c_X7_firstOf l g gh T I R J AI AJ AR mo rr zrr hv hm hT (by omega)) (cwV 1 F.2.2.2.2.1 (good_up gT_X7_firstOf) rfl rfl rfl hdX7_firstOf ⟨Nat.le_of_ble_eq_true rfl, Nat.le_of_ble_eq_true rfl⟩) hm (by decide) rfl rfl rfl (Nat.le_of_ble_eq_true rfl) dX7_farOf_13 ⟨Nat.zero_le _, Nat.zero_le _⟩) hS (fun v_17 I_11 R_12 J_13 AI_14 AJ_15 AR_16 H locs zv_17 hp_18 hH hS => ?_)
    dsimp only at hp_18
    obtain ⟨rfl, rfl, rfl, rfl, rfl, rfl, qf1⟩ := hp_18
    refine g_calli (g_runV (As := [.int (iI v_17)]) (rest := []) (ci := 7) F hl.1 hH hS hz (c_X7_farOfh9 l g gh T I R J AI AJ AR mo v_17 zv_17 hv hm hT (by omega)) (cwV 1 F.2.2.2.2.1 (good_up gT_X7_farOf) rfl rfl rfl hdX7_farOf ⟨Nat.le_of_ble_eq_true rfl, Nat.le_of_ble_eq_true rfl⟩) hm (by decide) rfl rfl rfl (Nat.le_of_ble_eq_true rfl) dX7_farOf_16 ⟨Nat.zero_le _, Nat.zero_le _⟩) hS (fun v_25 I_19 R_20 J_21 AI_22 AJ_23 AR_24 H locs zv_25 hp_26 hH hS => ?_)
    dsimp only at hp_26
    obtain ⟨rfl, rfl, rfl, rfl, rfl, rfl, q_27, qh1⟩ := hp_26
    have e9 : kDs (kTk T) (kTf T) (kTs T) 10 rr.toNat = 1 + kMx (kDs (kTk T) (kTf T) (kTs T) 9 (kTf T rr.toNat).toNat) (if kTs T rr.toNat < 0 then (0 : Int) else kDs (kTk T) (kTf T) (kTs T) 9 (kTs T rr.toNat).toNat) := kDs_1 (d := 9) (by rw [eK]; omega)
    have w1 : kDs (kTk T) (kTf T) (kTs T) 9 (kTf T rr.toNat).toNat = v_25 := by rw [eF, ← qf1]; exact qh1.symm
    refine lv_istore_n (lv' := [(2, .int (iI v_25)), (0, .ref mo), (1, .int (iI rr))]) F.1 F.2.1 dX7_farOf_19 rfl hl (by decide) rfl (fun ls hl => ?_)
    refine lv_aload_n F.1 F.2.1 dX7_farOf_20 rfl (lv_at hl 1 rfl) ?_
    refine lv_iload_n F.1 F.2.1 dX7_farOf_21 rfl (lv_at hl 2 rfl) ?_
    refine g_calli (g_runV (As := [.int (iI rr)]) (rest := []) (ci := 7) F hl.1 hH hS hz (c_X7_secondOf l g gh T I R J AI AJ AR mo rr zrr hv hm hT (by omega)) (cwV 1 F.2.2.2.2.1 (good_up gT_X7_secondOf) rfl rfl rfl hdX7_secondOf ⟨Nat.le_of_ble_eq_true rfl, Nat.le_of_ble_eq_true rfl⟩) hm (by decide) rfl rfl rfl (Nat.le_of_ble_eq_true rfl) dX7_farOf_22 ⟨Nat.zero_le _, Nat.zero_le _⟩) hS (fun v_34 I_28 R_29 J_30 AI_31 AJ_32 AR_33 H locs zv_34 hp_35 hH hS => ?_)
    dsimp only at hp_35
    obtain ⟨rfl, rfl, rfl, rfl, rfl, rfl, qs1⟩ := hp_35
    refine z_if_ge (tgt := 32) F dX7_farOf_25 (by decide) zv_34 (fun c_36 => ?_) (fun c_36 => ?_)
    · refine lv_aload_n F.1 F.2.1 dX7_farOf_32 rfl (lv_at hl 1 rfl) ?_
      refine lv_aload_n F.1 F.2.1 dX7_farOf_33 rfl (lv_at hl 1 rfl) ?_
      refine lv_iload_n F.1 F.2.1 dX7_farOf_34 rfl (lv_at hl 2 rfl) ?_
      refine g_calli (g_runV (As := [.int (iI rr)]) (rest := [.ref mo]) (ci := 7) F hl.1 hH hS hz (c_X7_secondOf l g gh T I R J AI AJ AR mo rr zrr hv hm hT (by omega)) (cwV 1 F.2.2.2.2.1 (good_up gT_X7_secondOf) rfl rfl rfl hdX7_secondOf ⟨Nat.le_of_ble_eq_true rfl, Nat.le_of_ble_eq_true rfl⟩) hm (by decide) rfl rfl rfl (Nat.le_of_ble_eq_true rfl) dX7_farOf_35 ⟨Nat.zero_le _, Nat.zero_le _⟩) hS (fun v_43 I_37 R_38 J_39 AI_40 AJ_41 AR_42 H locs zv_43 hp_44 hH hS => ?_)
      dsimp only at hp_44
      obtain ⟨rfl, rfl, rfl, rfl, rfl, rfl, qs2⟩ := hp_44
      refine g_calli (g_runV (As := [.int (iI v_43)]) (rest := []) (ci := 7) F hl.1 hH hS hz (c_X7_farOfh9 l g gh T I R J AI AJ AR mo v_43 zv_43 hv hm hT (by omega)) (cwV 1 F.2.2.2.2.1 (good_up gT_X7_farOf) rfl rfl rfl hdX7_farOf ⟨Nat.le_of_ble_eq_true rfl, Nat.le_of_ble_eq_true rfl⟩) hm (by decide) rfl rfl rfl (Nat.le_of_ble_eq_true rfl) dX7_farOf_38 ⟨Nat.zero_le _, Nat.zero_le _⟩) hS (fun v_51 I_45 R_46 J_47 AI_48 AJ_49 AR_50 H locs zv_51 hp_52 hH hS => ?_)
      dsimp only at hp_52
      obtain ⟨rfl, rfl, rfl, rfl, rfl, rfl, q_53, qh2⟩ := hp_52
      have w2 : (if kTs T rr.toNat < 0 then (0 : Int) else kDs (kTk T) (kTf T) (kTs T) 9 (kTs T rr.toNat).toNat) = v_51 := by rw [if_neg (by rw [eS]; omega), eS, ← qs2]; exact qh2.symm
      refine lv_istore_n (lv' := [(3, .int (iI v_51)), (2, .int (iI v_25)), (0, .ref mo), (1, .int (iI rr))]) F.1 F.2.1 dX7_farOf_41 rfl hl (by decide) rfl (fun ls hl => ?_)
      refine z_iconst F dX7_farOf_42 ?_
      refine lv_iload_n F.1 F.2.1 dX7_farOf_43 rfl (lv_at hl 1 rfl) ?_
      refine lv_iload_n F.1 F.2.1 dX7_farOf_44 rfl (lv_at hl 0 rfl) ?_
      refine z_icmp_le (tgt := 52) F dX7_farOf_45 (by decide) zv_25 zv_51 (fun c_54 => ?_) (fun c_54 => ?_)
      · refine lv_iload_n F.1 F.2.1 dX7_farOf_52 rfl (lv_at hl 0 rfl) ?_
        refine z_iadd F dX7_farOf_53 ?_
        exact g_iret F hr hlk hH hS hz ⟨by omega, by omega⟩ ⟨rfl, rfl, rfl, rfl, rfl, rfl, by first | omega | rfl | (dsimp only; omega), by (try dsimp only); rw [e9, w1, w2]; unfold kMx; first | rw [if_pos (by omega)] | rw [if_neg (by omega)]⟩ dX7_farOf_54
      · refine lv_iload_n F.1 F.2.1 dX7_farOf_48 rfl (lv_at hl 1 rfl) ?_
        refine z_goto (tgt := 53) F dX7_farOf_49 (by decide) ?_
        refine z_iadd F dX7_farOf_53 ?_
        exact g_iret F hr hlk hH hS hz ⟨by omega, by omega⟩ ⟨rfl, rfl, rfl, rfl, rfl, rfl, by first | omega | rfl | (dsimp only; omega), by (try dsimp only); rw [e9, w1, w2]; unfold kMx; first | rw [if_pos (by omega)] | rw [if_neg (by omega)]⟩ dX7_farOf_54
    · refine z_iconst F dX7_farOf_28 ?_
      have w2 : (if kTs T rr.toNat < 0 then (0 : Int) else kDs (kTk T) (kTf T) (kTs T) 9 (kTs T rr.toNat).toNat) = 0 := by rw [if_pos (by rw [eS]; omega)]
      refine z_goto (tgt := 41) F dX7_farOf_29 (by decide) ?_
      refine lv_istore_n (lv' := [(3, .int (iI 0)), (2, .int (iI v_25)), (0, .ref mo), (1, .int (iI rr))]) F.1 F.2.1 dX7_farOf_41 rfl hl (by decide) rfl (fun ls hl => ?_)
      refine z_iconst F dX7_farOf_42 ?_
      refine lv_iload_n F.1 F.2.1 dX7_farOf_43 rfl (lv_at hl 1 rfl) ?_
      refine lv_iload_n F.1 F.2.1 dX7_farOf_44 rfl (lv_at hl 0 rfl) ?_
      refine z_icmp_le (tgt := 52) F dX7_farOf_45 (by decide) zv_25 ⟨by decide, by decide⟩ (fun c_55 => ?_) (fun c_55 => ?_)
      · refine lv_iload_n F.1 F.2.1 dX7_farOf_52 rfl (lv_at hl 0 rfl) ?_
        refine z_iadd F dX7_farOf_53 ?_
        exact g_iret F hr hlk hH hS hz ⟨by omega, by omega⟩ ⟨rfl, rfl, rfl, rfl, rfl, rfl, by first | omega | rfl | (dsimp only; omega), by (try dsimp only); rw [e9, w1, w2]; unfold kMx; first | rw [if_pos (by omega)] | rw [if_neg (by omega)]⟩ dX7_farOf_54
      · refine lv_iload_n F.1 F.2.1 dX7_farOf_48 rfl (lv_at hl 1 rfl) ?_
        refine z_goto (tgt := 53) F dX7_farOf_49 (by decide) ?_
        refine z_iadd F dX7_farOf_53 ?_
        exact g_iret F hr hlk hH hS hz ⟨by omega, by omega⟩ ⟨rfl, rfl, rfl, rfl, rfl, rfl, by first | omega | rfl | (dsimp only; omega), by (try dsimp only); rw [e9, w1, w2]; unfold kMx; first | rw [if_pos (by omega)] | rw [if_neg (by omega)]⟩ dX7_farOf_54
  · refine z_iconst F dX7_farOf_8 ?_
    exact g_iret F hr hlk hH hS hz ⟨by decide, by decide⟩ ⟨rfl, rfl, rfl, rfl, rfl, rfl, by first | omega | rfl | (dsimp only; omega), (kDs_0 (d := 9) (by rw [eK]; omega)).symm⟩ dX7_farOf_9

def rmX7_farOfh11 : Room := { frames := 11, cells := 0, slots := 0, locals := 251 }
set_option maxHeartbeats 4000000 in
set_option maxRecDepth 100000 in
/-- farOf -/
theorem c_X7_farOfh11 (l : Launch) (g : gG) (gh : gGh) (T : Nat → Int32) (I : gI) (R : gR) (J : gJ) (AI : gI) (AJ : gJ) (AR : gR) (mo : Nat) (rr : Int) (zrr : zr rr) (hv : mInv g gh R I AI) (hm : gO g mo 7) (hT : AI (gh 50 0) = T) (hr0 : 0 ≤ rr ∧ rr < (I mo 2).toInt ∧ rr < 11) : gMet l g yX7_farOf tsX7_farOf rmX7_farOfh11 [.ref mo, .int (iI rr)] (I, R, J, AI, AJ, AR) (gQi g (fun (z : Int) (w : gS) => I = w.1 ∧ R = w.2.1 ∧ J = w.2.2.1 ∧ AI = w.2.2.2.1 ∧ AJ = w.2.2.2.2.1 ∧ AR = w.2.2.2.2.2 ∧ (0 ≤ z ∧ z ≤ 11) ∧ (z = kDs (kTk T) (kTf T) (kTs T) 11 rr.toNat))) := by
  refine gStart (cc := cX7_farOf) (maxL := 4) (ret := (some (.int))) (by decide) rfl (Nat.le_of_ble_eq_true rfl) ?_
  intro p e s m below meth c ls F hr hlk hH hz hS hl
  have hl : lv_has ls 4 [(0, .ref mo), (1, .int (iI rr))] := hl
  have hS : va_S (gA g) s.heap s.heap [] := hS
  obtain ⟨H, hHe⟩ : ∃ H : Heap, H = s.heap := ⟨_, rfl⟩
  obtain ⟨locs, hlo⟩ : ∃ k : List Loc, k = [] := ⟨_, rfl⟩
  have hH : gH g I R J AI AJ AR H := by rw [hHe]; exact hH
  have hS : va_S (gA g) s.heap H locs := by rw [hHe, hlo]; exact hS
  suffices hw : W p l e rmX7_farOfh11 s m ([.ref mo, .int (iI rr)] : List Value).toArray below meth c H locs 0 0 (MQ below (gQi g (fun (z : Int) (w : gS) => I = w.1 ∧ R = w.2.1 ∧ J = w.2.2.1 ∧ AI = w.2.2.2.1 ∧ AJ = w.2.2.2.2.1 ∧ AR = w.2.2.2.2.2 ∧ (0 ≤ z ∧ z ≤ 11) ∧ (z = kDs (kTk T) (kTf T) (kTs T) 11 rr.toNat))) ([.ref mo, .int (iI rr)] : List Value).toArray s 0 0 (gA g)) (F0 m 0 ls []) by
    rw [hHe, hlo] at hw; exact hw
  clear hHe hlo
  have hb0 := mJ hv hm
  unfold mNum1 at hb0
  have x := mRow hv hm hT (z := rr) (by omega) (by omega)
  have xa := x.1
  have xc := x.2.2.1
  have xb := x.2.1
  have ern : ((rr.toNat : Nat) : Int) = rr := Int.toNat_of_nonneg hr0.1
  have eK : kTk T rr.toNat = tI T (40 * rr) := by unfold kTk; rw [ern]
  have eF : kTf T rr.toNat = tI T (40 * rr + 2) := by unfold kTf; rw [ern]
  have eS : kTs T rr.toNat = tI T (40 * rr + 3) := by unfold kTs; rw [ern]
  refine lv_aload_n F.1 F.2.1 dX7_farOf_0 rfl (lv_at hl 0 rfl) ?_
  refine lv_iload_n F.1 F.2.1 dX7_farOf_1 rfl (lv_at hl 1 rfl) ?_
  have b_1 := mJ hv hm
  unfold mNum1 at b_1
  refine g_calli (g_runV (As := [.int (iI rr)]) (rest := []) (ci := 7) F hl.1 hH hS hz (c_X7_kindOf l g gh T I R J AI AJ AR mo rr zrr hv hm hT (by omega)) (cwV 1 F.2.2.2.2.1 (good_up gT_X7_kindOf) rfl rfl rfl hdX7_kindOf ⟨Nat.le_of_ble_eq_true rfl, Nat.le_of_ble_eq_true rfl⟩) hm (by decide) rfl rfl rfl (Nat.le_of_ble_eq_true rfl) dX7_farOf_2 ⟨Nat.zero_le _, Nat.zero_le _⟩) hS (fun v_8 I_2 R_3 J_4 AI_5 AJ_6 AR_7 H locs zv_8 hp_9 hH hS => ?_)
  dsimp only at hp_9
  obtain ⟨rfl, rfl, rfl, rfl, rfl, rfl, qk⟩ := hp_9
  refine z_if_ne (tgt := 10) F dX7_farOf_5 (by decide) zv_8 (fun c_10 => ?_) (fun c_10 => ?_)
  · refine lv_aload_n F.1 F.2.1 dX7_farOf_10 rfl (lv_at hl 0 rfl) ?_
    refine lv_aload_n F.1 F.2.1 dX7_farOf_11 rfl (lv_at hl 0 rfl) ?_
    refine lv_iload_n F.1 F.2.1 dX7_farOf_12 rfl (lv_at hl 1 rfl) ?_
    refine g_calli (g_runV (As := [.int (iI rr)]) (rest := [.ref mo]) (ci := 7) F hl.1 hH hS hz (c_X7_firstOf l g gh T I R J AI AJ AR mo rr zrr hv hm hT (by omega)) (cwV 1 F.2.2.2.2.1 (good_up gT_X7_firstOf) rfl rfl rfl hdX7_firstOf ⟨Nat.le_of_ble_eq_true rfl, Nat.le_of_ble_eq_true rfl⟩) hm (by decide) rfl rfl rfl (Nat.le_of_ble_eq_true rfl) dX7_farOf_13 ⟨Nat.zero_le _, Nat.zero_le _⟩) hS (fun v_17 I_11 R_12 J_13 AI_14 AJ_15 AR_16 H locs zv_17 hp_18 hH hS => ?_)
    dsimp only at hp_18
    obtain ⟨rfl, rfl, rfl, rfl, rfl, rfl, qf1⟩ := hp_18
    refine g_calli (g_runV (As := [.int (iI v_17)]) (rest := []) (ci := 7) F hl.1 hH hS hz (c_X7_farOfh10 l g gh T I R J AI AJ AR mo v_17 zv_17 hv hm hT (by omega)) (cwV 1 F.2.2.2.2.1 (good_up gT_X7_farOf) rfl rfl rfl hdX7_farOf ⟨Nat.le_of_ble_eq_true rfl, Nat.le_of_ble_eq_true rfl⟩) hm (by decide) rfl rfl rfl (Nat.le_of_ble_eq_true rfl) dX7_farOf_16 ⟨Nat.zero_le _, Nat.zero_le _⟩) hS (fun v_25 I_19 R_20 J_21 AI_22 AJ_23 AR_24 H locs zv_25 hp_26 hH hS => ?_)
    dsimp only at hp_26
    obtain ⟨rfl, rfl, rfl, rfl, rfl, rfl, q_27, qh1⟩ := hp_26
    have e9 : kDs (kTk T) (kTf T) (kTs T) 11 rr.toNat = 1 + kMx (kDs (kTk T) (kTf T) (kTs T) 10 (kTf T rr.toNat).toNat) (if kTs T rr.toNat < 0 then (0 : Int) else kDs (kTk T) (kTf T) (kTs T) 10 (kTs T rr.toNat).toNat) := kDs_1 (d := 10) (by rw [eK]; omega)
    have w1 : kDs (kTk T) (kTf T) (kTs T) 10 (kTf T rr.toNat).toNat = v_25 := by rw [eF, ← qf1]; exact qh1.symm
    refine lv_istore_n (lv' := [(2, .int (iI v_25)), (0, .ref mo), (1, .int (iI rr))]) F.1 F.2.1 dX7_farOf_19 rfl hl (by decide) rfl (fun ls hl => ?_)
    refine lv_aload_n F.1 F.2.1 dX7_farOf_20 rfl (lv_at hl 1 rfl) ?_
    refine lv_iload_n F.1 F.2.1 dX7_farOf_21 rfl (lv_at hl 2 rfl) ?_
    refine g_calli (g_runV (As := [.int (iI rr)]) (rest := []) (ci := 7) F hl.1 hH hS hz (c_X7_secondOf l g gh T I R J AI AJ AR mo rr zrr hv hm hT (by omega)) (cwV 1 F.2.2.2.2.1 (good_up gT_X7_secondOf) rfl rfl rfl hdX7_secondOf ⟨Nat.le_of_ble_eq_true rfl, Nat.le_of_ble_eq_true rfl⟩) hm (by decide) rfl rfl rfl (Nat.le_of_ble_eq_true rfl) dX7_farOf_22 ⟨Nat.zero_le _, Nat.zero_le _⟩) hS (fun v_34 I_28 R_29 J_30 AI_31 AJ_32 AR_33 H locs zv_34 hp_35 hH hS => ?_)
    dsimp only at hp_35
    obtain ⟨rfl, rfl, rfl, rfl, rfl, rfl, qs1⟩ := hp_35
    refine z_if_ge (tgt := 32) F dX7_farOf_25 (by decide) zv_34 (fun c_36 => ?_) (fun c_36 => ?_)
    · refine lv_aload_n F.1 F.2.1 dX7_farOf_32 rfl (lv_at hl 1 rfl) ?_
      refine lv_aload_n F.1 F.2.1 dX7_farOf_33 rfl (lv_at hl 1 rfl) ?_
      refine lv_iload_n F.1 F.2.1 dX7_farOf_34 rfl (lv_at hl 2 rfl) ?_
      refine g_calli (g_runV (As := [.int (iI rr)]) (rest := [.ref mo]) (ci := 7) F hl.1 hH hS hz (c_X7_secondOf l g gh T I R J AI AJ AR mo rr zrr hv hm hT (by omega)) (cwV 1 F.2.2.2.2.1 (good_up gT_X7_secondOf) rfl rfl rfl hdX7_secondOf ⟨Nat.le_of_ble_eq_true rfl, Nat.le_of_ble_eq_true rfl⟩) hm (by decide) rfl rfl rfl (Nat.le_of_ble_eq_true rfl) dX7_farOf_35 ⟨Nat.zero_le _, Nat.zero_le _⟩) hS (fun v_43 I_37 R_38 J_39 AI_40 AJ_41 AR_42 H locs zv_43 hp_44 hH hS => ?_)
      dsimp only at hp_44
      obtain ⟨rfl, rfl, rfl, rfl, rfl, rfl, qs2⟩ := hp_44
      refine g_calli (g_runV (As := [.int (iI v_43)]) (rest := []) (ci := 7) F hl.1 hH hS hz (c_X7_farOfh10 l g gh T I R J AI AJ AR mo v_43 zv_43 hv hm hT (by omega)) (cwV 1 F.2.2.2.2.1 (good_up gT_X7_farOf) rfl rfl rfl hdX7_farOf ⟨Nat.le_of_ble_eq_true rfl, Nat.le_of_ble_eq_true rfl⟩) hm (by decide) rfl rfl rfl (Nat.le_of_ble_eq_true rfl) dX7_farOf_38 ⟨Nat.zero_le _, Nat.zero_le _⟩) hS (fun v_51 I_45 R_46 J_47 AI_48 AJ_49 AR_50 H locs zv_51 hp_52 hH hS => ?_)
      dsimp only at hp_52
      obtain ⟨rfl, rfl, rfl, rfl, rfl, rfl, q_53, qh2⟩ := hp_52
      have w2 : (if kTs T rr.toNat < 0 then (0 : Int) else kDs (kTk T) (kTf T) (kTs T) 10 (kTs T rr.toNat).toNat) = v_51 := by rw [if_neg (by rw [eS]; omega), eS, ← qs2]; exact qh2.symm
      refine lv_istore_n (lv' := [(3, .int (iI v_51)), (2, .int (iI v_25)), (0, .ref mo), (1, .int (iI rr))]) F.1 F.2.1 dX7_farOf_41 rfl hl (by decide) rfl (fun ls hl => ?_)
      refine z_iconst F dX7_farOf_42 ?_
      refine lv_iload_n F.1 F.2.1 dX7_farOf_43 rfl (lv_at hl 1 rfl) ?_
      refine lv_iload_n F.1 F.2.1 dX7_farOf_44 rfl (lv_at hl 0 rfl) ?_
      refine z_icmp_le (tgt := 52) F dX7_farOf_45 (by decide) zv_25 zv_51 (fun c_54 => ?_) (fun c_54 => ?_)
      · refine lv_iload_n F.1 F.2.1 dX7_farOf_52 rfl (lv_at hl 0 rfl) ?_
        refine z_iadd F dX7_farOf_53 ?_
        exact g_iret F hr hlk hH hS hz ⟨by omega, by omega⟩ ⟨rfl, rfl, rfl, rfl, rfl, rfl, by first | omega | rfl | (dsimp only; omega), by (try dsimp only); rw [e9, w1, w2]; unfold kMx; first | rw [if_pos (by omega)] | rw [if_neg (by omega)]⟩ dX7_farOf_54
      · refine lv_iload_n F.1 F.2.1 dX7_farOf_48 rfl (lv_at hl 1 rfl) ?_
        refine z_goto (tgt := 53) F dX7_farOf_49 (by decide) ?_
        refine z_iadd F dX7_farOf_53 ?_
        exact g_iret F hr hlk hH hS hz ⟨by omega, by omega⟩ ⟨rfl, rfl, rfl, rfl, rfl, rfl, by first | omega | rfl | (dsimp only; omega), by (try dsimp only); rw [e9, w1, w2]; unfold kMx; first | rw [if_pos (by omega)] | rw [if_neg (by omega)]⟩ dX7_farOf_54
    · refine z_iconst F dX7_farOf_28 ?_
      have w2 : (if kTs T rr.toNat < 0 then (0 : Int) else kDs (kTk T) (kTf T) (kTs T) 10 (kTs T rr.toNat).toNat) = 0 := by rw [if_pos (by rw [eS]; omega)]
      refine z_goto (tgt := 41) F dX7_farOf_29 (by decide) ?_
      refine lv_istore_n (lv' := [(3, .int (iI 0)), (2, .int (iI v_25)), (0, .ref mo), (1, .int (iI rr))]) F.1 F.2.1 dX7_farOf_41 rfl hl (by decide) rfl (fun ls hl => ?_)
      refine z_iconst F dX7_farOf_42 ?_
      refine lv_iload_n F.1 F.2.1 dX7_farOf_43 rfl (lv_at hl 1 rfl) ?_
      refine lv_iload_n F.1 F.2.1 dX7_farOf_44 rfl (lv_at hl 0 rfl) ?_
      refine z_icmp_le (tgt := 52) F dX7_farOf_45 (by decide) zv_25 ⟨by decide, by decide⟩ (fun c_55 => ?_) (fun c_55 => ?_)
      · refine lv_iload_n F.1 F.2.1 dX7_farOf_52 rfl (lv_at hl 0 rfl) ?_
        refine z_iadd F dX7_farOf_53 ?_
        exact g_iret F hr hlk hH hS hz ⟨by omega, by omega⟩ ⟨rfl, rfl, rfl, rfl, rfl, rfl, by first | omega | rfl | (dsimp only; omega), by (try dsimp only); rw [e9, w1, w2]; unfold kMx; first | rw [if_pos (by omega)] | rw [if_neg (by omega)]⟩ dX7_farOf_54
      · refine lv_iload_n F.1 F.2.1 dX7_farOf_48 rfl (lv_at hl 1 rfl) ?_
        refine z_goto (tgt := 53) F dX7_farOf_49 (by decide) ?_
        refine z_iadd F dX7_farOf_53 ?_
        exact g_iret F hr hlk hH hS hz ⟨by omega, by omega⟩ ⟨rfl, rfl, rfl, rfl, rfl, rfl, by first | omega | rfl | (dsimp only; omega), by (try dsimp only); rw [e9, w1, w2]; unfold kMx; first | rw [if_pos (by omega)] | rw [if_neg (by omega)]⟩ dX7_farOf_54
  · refine z_iconst F dX7_farOf_8 ?_
    exact g_iret F hr hlk hH hS hz ⟨by decide, by decide⟩ ⟨rfl, rfl, rfl, rfl, rfl, rfl, by first | omega | rfl | (dsimp only; omega), (kDs_0 (d := 10) (by rw [eK]; omega)).symm⟩ dX7_farOf_9

def rmX7_farOfh12 : Room := { frames := 12, cells := 0, slots := 0, locals := 274 }
set_option maxHeartbeats 4000000 in
set_option maxRecDepth 100000 in
/-- farOf -/
theorem c_X7_farOfh12 (l : Launch) (g : gG) (gh : gGh) (T : Nat → Int32) (I : gI) (R : gR) (J : gJ) (AI : gI) (AJ : gJ) (AR : gR) (mo : Nat) (rr : Int) (zrr : zr rr) (hv : mInv g gh R I AI) (hm : gO g mo 7) (hT : AI (gh 50 0) = T) (hr0 : 0 ≤ rr ∧ rr < (I mo 2).toInt ∧ rr < 12) : gMet l g yX7_farOf tsX7_farOf rmX7_farOfh12 [.ref mo, .int (iI rr)] (I, R, J, AI, AJ, AR) (gQi g (fun (z : Int) (w : gS) => I = w.1 ∧ R = w.2.1 ∧ J = w.2.2.1 ∧ AI = w.2.2.2.1 ∧ AJ = w.2.2.2.2.1 ∧ AR = w.2.2.2.2.2 ∧ (0 ≤ z ∧ z ≤ 12) ∧ (z = kDs (kTk T) (kTf T) (kTs T) 12 rr.toNat))) := by
  refine gStart (cc := cX7_farOf) (maxL := 4) (ret := (some (.int))) (by decide) rfl (Nat.le_of_ble_eq_true rfl) ?_
  intro p e s m below meth c ls F hr hlk hH hz hS hl
  have hl : lv_has ls 4 [(0, .ref mo), (1, .int (iI rr))] := hl
  have hS : va_S (gA g) s.heap s.heap [] := hS
  obtain ⟨H, hHe⟩ : ∃ H : Heap, H = s.heap := ⟨_, rfl⟩
  obtain ⟨locs, hlo⟩ : ∃ k : List Loc, k = [] := ⟨_, rfl⟩
  have hH : gH g I R J AI AJ AR H := by rw [hHe]; exact hH
  have hS : va_S (gA g) s.heap H locs := by rw [hHe, hlo]; exact hS
  suffices hw : W p l e rmX7_farOfh12 s m ([.ref mo, .int (iI rr)] : List Value).toArray below meth c H locs 0 0 (MQ below (gQi g (fun (z : Int) (w : gS) => I = w.1 ∧ R = w.2.1 ∧ J = w.2.2.1 ∧ AI = w.2.2.2.1 ∧ AJ = w.2.2.2.2.1 ∧ AR = w.2.2.2.2.2 ∧ (0 ≤ z ∧ z ≤ 12) ∧ (z = kDs (kTk T) (kTf T) (kTs T) 12 rr.toNat))) ([.ref mo, .int (iI rr)] : List Value).toArray s 0 0 (gA g)) (F0 m 0 ls []) by
    rw [hHe, hlo] at hw; exact hw
  clear hHe hlo
  have hb0 := mJ hv hm
  unfold mNum1 at hb0
  have x := mRow hv hm hT (z := rr) (by omega) (by omega)
  have xa := x.1
  have xc := x.2.2.1
  have xb := x.2.1
  have ern : ((rr.toNat : Nat) : Int) = rr := Int.toNat_of_nonneg hr0.1
  have eK : kTk T rr.toNat = tI T (40 * rr) := by unfold kTk; rw [ern]
  have eF : kTf T rr.toNat = tI T (40 * rr + 2) := by unfold kTf; rw [ern]
  have eS : kTs T rr.toNat = tI T (40 * rr + 3) := by unfold kTs; rw [ern]
  refine lv_aload_n F.1 F.2.1 dX7_farOf_0 rfl (lv_at hl 0 rfl) ?_
  refine lv_iload_n F.1 F.2.1 dX7_farOf_1 rfl (lv_at hl 1 rfl) ?_
  have b_1 := mJ hv hm
  unfold mNum1 at b_1
  refine g_calli (g_runV (As := [.int (iI rr)]) (rest := []) (ci := 7) F hl.1 hH hS hz (c_X7_kindOf l g gh T I R J AI AJ AR mo rr zrr hv hm hT (by omega)) (cwV 1 F.2.2.2.2.1 (good_up gT_X7_kindOf) rfl rfl rfl hdX7_kindOf ⟨Nat.le_of_ble_eq_true rfl, Nat.le_of_ble_eq_true rfl⟩) hm (by decide) rfl rfl rfl (Nat.le_of_ble_eq_true rfl) dX7_farOf_2 ⟨Nat.zero_le _, Nat.zero_le _⟩) hS (fun v_8 I_2 R_3 J_4 AI_5 AJ_6 AR_7 H locs zv_8 hp_9 hH hS => ?_)
  dsimp only at hp_9
  obtain ⟨rfl, rfl, rfl, rfl, rfl, rfl, qk⟩ := hp_9
  refine z_if_ne (tgt := 10) F dX7_farOf_5 (by decide) zv_8 (fun c_10 => ?_) (fun c_10 => ?_)
  · refine lv_aload_n F.1 F.2.1 dX7_farOf_10 rfl (lv_at hl 0 rfl) ?_
    refine lv_aload_n F.1 F.2.1 dX7_farOf_11 rfl (lv_at hl 0 rfl) ?_
    refine lv_iload_n F.1 F.2.1 dX7_farOf_12 rfl (lv_at hl 1 rfl) ?_
    refine g_calli (g_runV (As := [.int (iI rr)]) (rest := [.ref mo]) (ci := 7) F hl.1 hH hS hz (c_X7_firstOf l g gh T I R J AI AJ AR mo rr zrr hv hm hT (by omega)) (cwV 1 F.2.2.2.2.1 (good_up gT_X7_firstOf) rfl rfl rfl hdX7_firstOf ⟨Nat.le_of_ble_eq_true rfl, Nat.le_of_ble_eq_true rfl⟩) hm (by decide) rfl rfl rfl (Nat.le_of_ble_eq_true rfl) dX7_farOf_13 ⟨Nat.zero_le _, Nat.zero_le _⟩) hS (fun v_17 I_11 R_12 J_13 AI_14 AJ_15 AR_16 H locs zv_17 hp_18 hH hS => ?_)
    dsimp only at hp_18
    obtain ⟨rfl, rfl, rfl, rfl, rfl, rfl, qf1⟩ := hp_18
    refine g_calli (g_runV (As := [.int (iI v_17)]) (rest := []) (ci := 7) F hl.1 hH hS hz (c_X7_farOfh11 l g gh T I R J AI AJ AR mo v_17 zv_17 hv hm hT (by omega)) (cwV 1 F.2.2.2.2.1 (good_up gT_X7_farOf) rfl rfl rfl hdX7_farOf ⟨Nat.le_of_ble_eq_true rfl, Nat.le_of_ble_eq_true rfl⟩) hm (by decide) rfl rfl rfl (Nat.le_of_ble_eq_true rfl) dX7_farOf_16 ⟨Nat.zero_le _, Nat.zero_le _⟩) hS (fun v_25 I_19 R_20 J_21 AI_22 AJ_23 AR_24 H locs zv_25 hp_26 hH hS => ?_)
    dsimp only at hp_26
    obtain ⟨rfl, rfl, rfl, rfl, rfl, rfl, q_27, qh1⟩ := hp_26
    have e9 : kDs (kTk T) (kTf T) (kTs T) 12 rr.toNat = 1 + kMx (kDs (kTk T) (kTf T) (kTs T) 11 (kTf T rr.toNat).toNat) (if kTs T rr.toNat < 0 then (0 : Int) else kDs (kTk T) (kTf T) (kTs T) 11 (kTs T rr.toNat).toNat) := kDs_1 (d := 11) (by rw [eK]; omega)
    have w1 : kDs (kTk T) (kTf T) (kTs T) 11 (kTf T rr.toNat).toNat = v_25 := by rw [eF, ← qf1]; exact qh1.symm
    refine lv_istore_n (lv' := [(2, .int (iI v_25)), (0, .ref mo), (1, .int (iI rr))]) F.1 F.2.1 dX7_farOf_19 rfl hl (by decide) rfl (fun ls hl => ?_)
    refine lv_aload_n F.1 F.2.1 dX7_farOf_20 rfl (lv_at hl 1 rfl) ?_
    refine lv_iload_n F.1 F.2.1 dX7_farOf_21 rfl (lv_at hl 2 rfl) ?_
    refine g_calli (g_runV (As := [.int (iI rr)]) (rest := []) (ci := 7) F hl.1 hH hS hz (c_X7_secondOf l g gh T I R J AI AJ AR mo rr zrr hv hm hT (by omega)) (cwV 1 F.2.2.2.2.1 (good_up gT_X7_secondOf) rfl rfl rfl hdX7_secondOf ⟨Nat.le_of_ble_eq_true rfl, Nat.le_of_ble_eq_true rfl⟩) hm (by decide) rfl rfl rfl (Nat.le_of_ble_eq_true rfl) dX7_farOf_22 ⟨Nat.zero_le _, Nat.zero_le _⟩) hS (fun v_34 I_28 R_29 J_30 AI_31 AJ_32 AR_33 H locs zv_34 hp_35 hH hS => ?_)
    dsimp only at hp_35
    obtain ⟨rfl, rfl, rfl, rfl, rfl, rfl, qs1⟩ := hp_35
    refine z_if_ge (tgt := 32) F dX7_farOf_25 (by decide) zv_34 (fun c_36 => ?_) (fun c_36 => ?_)
    · refine lv_aload_n F.1 F.2.1 dX7_farOf_32 rfl (lv_at hl 1 rfl) ?_
      refine lv_aload_n F.1 F.2.1 dX7_farOf_33 rfl (lv_at hl 1 rfl) ?_
      refine lv_iload_n F.1 F.2.1 dX7_farOf_34 rfl (lv_at hl 2 rfl) ?_
      refine g_calli (g_runV (As := [.int (iI rr)]) (rest := [.ref mo]) (ci := 7) F hl.1 hH hS hz (c_X7_secondOf l g gh T I R J AI AJ AR mo rr zrr hv hm hT (by omega)) (cwV 1 F.2.2.2.2.1 (good_up gT_X7_secondOf) rfl rfl rfl hdX7_secondOf ⟨Nat.le_of_ble_eq_true rfl, Nat.le_of_ble_eq_true rfl⟩) hm (by decide) rfl rfl rfl (Nat.le_of_ble_eq_true rfl) dX7_farOf_35 ⟨Nat.zero_le _, Nat.zero_le _⟩) hS (fun v_43 I_37 R_38 J_39 AI_40 AJ_41 AR_42 H locs zv_43 hp_44 hH hS => ?_)
      dsimp only at hp_44
      obtain ⟨rfl, rfl, rfl, rfl, rfl, rfl, qs2⟩ := hp_44
      refine g_calli (g_runV (As := [.int (iI v_43)]) (rest := []) (ci := 7) F hl.1 hH hS hz (c_X7_farOfh11 l g gh T I R J AI AJ AR mo v_43 zv_43 hv hm hT (by omega)) (cwV 1 F.2.2.2.2.1 (good_up gT_X7_farOf) rfl rfl rfl hdX7_farOf ⟨Nat.le_of_ble_eq_true rfl, Nat.le_of_ble_eq_true rfl⟩) hm (by decide) rfl rfl rfl (Nat.le_of_ble_eq_true rfl) dX7_farOf_38 ⟨Nat.zero_le _, Nat.zero_le _⟩) hS (fun v_51 I_45 R_46 J_47 AI_48 AJ_49 AR_50 H locs zv_51 hp_52 hH hS => ?_)
      dsimp only at hp_52
      obtain ⟨rfl, rfl, rfl, rfl, rfl, rfl, q_53, qh2⟩ := hp_52
      have w2 : (if kTs T rr.toNat < 0 then (0 : Int) else kDs (kTk T) (kTf T) (kTs T) 11 (kTs T rr.toNat).toNat) = v_51 := by rw [if_neg (by rw [eS]; omega), eS, ← qs2]; exact qh2.symm
      refine lv_istore_n (lv' := [(3, .int (iI v_51)), (2, .int (iI v_25)), (0, .ref mo), (1, .int (iI rr))]) F.1 F.2.1 dX7_farOf_41 rfl hl (by decide) rfl (fun ls hl => ?_)
      refine z_iconst F dX7_farOf_42 ?_
      refine lv_iload_n F.1 F.2.1 dX7_farOf_43 rfl (lv_at hl 1 rfl) ?_
      refine lv_iload_n F.1 F.2.1 dX7_farOf_44 rfl (lv_at hl 0 rfl) ?_
      refine z_icmp_le (tgt := 52) F dX7_farOf_45 (by decide) zv_25 zv_51 (fun c_54 => ?_) (fun c_54 => ?_)
      · refine lv_iload_n F.1 F.2.1 dX7_farOf_52 rfl (lv_at hl 0 rfl) ?_
        refine z_iadd F dX7_farOf_53 ?_
        exact g_iret F hr hlk hH hS hz ⟨by omega, by omega⟩ ⟨rfl, rfl, rfl, rfl, rfl, rfl, by first | omega | rfl | (dsimp only; omega), by (try dsimp only); rw [e9, w1, w2]; unfold kMx; first | rw [if_pos (by omega)] | rw [if_neg (by omega)]⟩ dX7_farOf_54
      · refine lv_iload_n F.1 F.2.1 dX7_farOf_48 rfl (lv_at hl 1 rfl) ?_
        refine z_goto (tgt := 53) F dX7_farOf_49 (by decide) ?_
        refine z_iadd F dX7_farOf_53 ?_
        exact g_iret F hr hlk hH hS hz ⟨by omega, by omega⟩ ⟨rfl, rfl, rfl, rfl, rfl, rfl, by first | omega | rfl | (dsimp only; omega), by (try dsimp only); rw [e9, w1, w2]; unfold kMx; first | rw [if_pos (by omega)] | rw [if_neg (by omega)]⟩ dX7_farOf_54
    · refine z_iconst F dX7_farOf_28 ?_
      have w2 : (if kTs T rr.toNat < 0 then (0 : Int) else kDs (kTk T) (kTf T) (kTs T) 11 (kTs T rr.toNat).toNat) = 0 := by rw [if_pos (by rw [eS]; omega)]
      refine z_goto (tgt := 41) F dX7_farOf_29 (by decide) ?_
      refine lv_istore_n (lv' := [(3, .int (iI 0)), (2, .int (iI v_25)), (0, .ref mo), (1, .int (iI rr))]) F.1 F.2.1 dX7_farOf_41 rfl hl (by decide) rfl (fun ls hl => ?_)
      refine z_iconst F dX7_farOf_42 ?_
      refine lv_iload_n F.1 F.2.1 dX7_farOf_43 rfl (lv_at hl 1 rfl) ?_
      refine lv_iload_n F.1 F.2.1 dX7_farOf_44 rfl (lv_at hl 0 rfl) ?_
      refine z_icmp_le (tgt := 52) F dX7_farOf_45 (by decide) zv_25 ⟨by decide, by decide⟩ (fun c_55 => ?_) (fun c_55 => ?_)
      · refine lv_iload_n F.1 F.2.1 dX7_farOf_52 rfl (lv_at hl 0 rfl) ?_
        refine z_iadd F dX7_farOf_53 ?_
        exact g_iret F hr hlk hH hS hz ⟨by omega, by omega⟩ ⟨rfl, rfl, rfl, rfl, rfl, rfl, by first | omega | rfl | (dsimp only; omega), by (try dsimp only); rw [e9, w1, w2]; unfold kMx; first | rw [if_pos (by omega)] | rw [if_neg (by omega)]⟩ dX7_farOf_54
      · refine lv_iload_n F.1 F.2.1 dX7_farOf_48 rfl (lv_at hl 1 rfl) ?_
        refine z_goto (tgt := 53) F dX7_farOf_49 (by decide) ?_
        refine z_iadd F dX7_farOf_53 ?_
        exact g_iret F hr hlk hH hS hz ⟨by omega, by omega⟩ ⟨rfl, rfl, rfl, rfl, rfl, rfl, by first | omega | rfl | (dsimp only; omega), by (try dsimp only); rw [e9, w1, w2]; unfold kMx; first | rw [if_pos (by omega)] | rw [if_neg (by omega)]⟩ dX7_farOf_54
  · refine z_iconst F dX7_farOf_8 ?_
    exact g_iret F hr hlk hH hS hz ⟨by decide, by decide⟩ ⟨rfl, rfl, rfl, rfl, rfl, rfl, by first | omega | rfl | (dsimp only; omega), (kDs_0 (d := 11) (by rw [eK]; omega)).symm⟩ dX7_farOf_9

def rmX7_farOfh13 : Room := { frames := 13, cells := 0, slots := 0, locals := 297 }
set_option maxHeartbeats 4000000 in
set_option maxRecDepth 100000 in
/-- farOf -/
theorem c_X7_farOfh13 (l : Launch) (g : gG) (gh : gGh) (T : Nat → Int32) (I : gI) (R : gR) (J : gJ) (AI : gI) (AJ : gJ) (AR : gR) (mo : Nat) (rr : Int) (zrr : zr rr) (hv : mInv g gh R I AI) (hm : gO g mo 7) (hT : AI (gh 50 0) = T) (hr0 : 0 ≤ rr ∧ rr < (I mo 2).toInt ∧ rr < 13) : gMet l g yX7_farOf tsX7_farOf rmX7_farOfh13 [.ref mo, .int (iI rr)] (I, R, J, AI, AJ, AR) (gQi g (fun (z : Int) (w : gS) => I = w.1 ∧ R = w.2.1 ∧ J = w.2.2.1 ∧ AI = w.2.2.2.1 ∧ AJ = w.2.2.2.2.1 ∧ AR = w.2.2.2.2.2 ∧ (0 ≤ z ∧ z ≤ 13) ∧ (z = kDs (kTk T) (kTf T) (kTs T) 13 rr.toNat))) := by
  refine gStart (cc := cX7_farOf) (maxL := 4) (ret := (some (.int))) (by decide) rfl (Nat.le_of_ble_eq_true rfl) ?_
  intro p e s m below meth c ls F hr hlk hH hz hS hl
  have hl : lv_has ls 4 [(0, .ref mo), (1, .int (iI rr))] := hl
  have hS : va_S (gA g) s.heap s.heap [] := hS
  obtain ⟨H, hHe⟩ : ∃ H : Heap, H = s.heap := ⟨_, rfl⟩
  obtain ⟨locs, hlo⟩ : ∃ k : List Loc, k = [] := ⟨_, rfl⟩
  have hH : gH g I R J AI AJ AR H := by rw [hHe]; exact hH
  have hS : va_S (gA g) s.heap H locs := by rw [hHe, hlo]; exact hS
  suffices hw : W p l e rmX7_farOfh13 s m ([.ref mo, .int (iI rr)] : List Value).toArray below meth c H locs 0 0 (MQ below (gQi g (fun (z : Int) (w : gS) => I = w.1 ∧ R = w.2.1 ∧ J = w.2.2.1 ∧ AI = w.2.2.2.1 ∧ AJ = w.2.2.2.2.1 ∧ AR = w.2.2.2.2.2 ∧ (0 ≤ z ∧ z ≤ 13) ∧ (z = kDs (kTk T) (kTf T) (kTs T) 13 rr.toNat))) ([.ref mo, .int (iI rr)] : List Value).toArray s 0 0 (gA g)) (F0 m 0 ls []) by
    rw [hHe, hlo] at hw; exact hw
  clear hHe hlo
  have hb0 := mJ hv hm
  unfold mNum1 at hb0
  have x := mRow hv hm hT (z := rr) (by omega) (by omega)
  have xa := x.1
  have xc := x.2.2.1
  have xb := x.2.1
  have ern : ((rr.toNat : Nat) : Int) = rr := Int.toNat_of_nonneg hr0.1
  have eK : kTk T rr.toNat = tI T (40 * rr) := by unfold kTk; rw [ern]
  have eF : kTf T rr.toNat = tI T (40 * rr + 2) := by unfold kTf; rw [ern]
  have eS : kTs T rr.toNat = tI T (40 * rr + 3) := by unfold kTs; rw [ern]
  refine lv_aload_n F.1 F.2.1 dX7_farOf_0 rfl (lv_at hl 0 rfl) ?_
  refine lv_iload_n F.1 F.2.1 dX7_farOf_1 rfl (lv_at hl 1 rfl) ?_
  have b_1 := mJ hv hm
  unfold mNum1 at b_1
  refine g_calli (g_runV (As := [.int (iI rr)]) (rest := []) (ci := 7) F hl.1 hH hS hz (c_X7_kindOf l g gh T I R J AI AJ AR mo rr zrr hv hm hT (by omega)) (cwV 1 F.2.2.2.2.1 (good_up gT_X7_kindOf) rfl rfl rfl hdX7_kindOf ⟨Nat.le_of_ble_eq_true rfl, Nat.le_of_ble_eq_true rfl⟩) hm (by decide) rfl rfl rfl (Nat.le_of_ble_eq_true rfl) dX7_farOf_2 ⟨Nat.zero_le _, Nat.zero_le _⟩) hS (fun v_8 I_2 R_3 J_4 AI_5 AJ_6 AR_7 H locs zv_8 hp_9 hH hS => ?_)
  dsimp only at hp_9
  obtain ⟨rfl, rfl, rfl, rfl, rfl, rfl, qk⟩ := hp_9
  refine z_if_ne (tgt := 10) F dX7_farOf_5 (by decide) zv_8 (fun c_10 => ?_) (fun c_10 => ?_)
  · refine lv_aload_n F.1 F.2.1 dX7_farOf_10 rfl (lv_at hl 0 rfl) ?_
    refine lv_aload_n F.1 F.2.1 dX7_farOf_11 rfl (lv_at hl 0 rfl) ?_
    refine lv_iload_n F.1 F.2.1 dX7_farOf_12 rfl (lv_at hl 1 rfl) ?_
    refine g_calli (g_runV (As := [.int (iI rr)]) (rest := [.ref mo]) (ci := 7) F hl.1 hH hS hz (c_X7_firstOf l g gh T I R J AI AJ AR mo rr zrr hv hm hT (by omega)) (cwV 1 F.2.2.2.2.1 (good_up gT_X7_firstOf) rfl rfl rfl hdX7_firstOf ⟨Nat.le_of_ble_eq_true rfl, Nat.le_of_ble_eq_true rfl⟩) hm (by decide) rfl rfl rfl (Nat.le_of_ble_eq_true rfl) dX7_farOf_13 ⟨Nat.zero_le _, Nat.zero_le _⟩) hS (fun v_17 I_11 R_12 J_13 AI_14 AJ_15 AR_16 H locs zv_17 hp_18 hH hS => ?_)
    dsimp only at hp_18
    obtain ⟨rfl, rfl, rfl, rfl, rfl, rfl, qf1⟩ := hp_18
    refine g_calli (g_runV (As := [.int (iI v_17)]) (rest := []) (ci := 7) F hl.1 hH hS hz (c_X7_farOfh12 l g gh T I R J AI AJ AR mo v_17 zv_17 hv hm hT (by omega)) (cwV 1 F.2.2.2.2.1 (good_up gT_X7_farOf) rfl rfl rfl hdX7_farOf ⟨Nat.le_of_ble_eq_true rfl, Nat.le_of_ble_eq_true rfl⟩) hm (by decide) rfl rfl rfl (Nat.le_of_ble_eq_true rfl) dX7_farOf_16 ⟨Nat.zero_le _, Nat.zero_le _⟩) hS (fun v_25 I_19 R_20 J_21 AI_22 AJ_23 AR_24 H locs zv_25 hp_26 hH hS => ?_)
    dsimp only at hp_26
    obtain ⟨rfl, rfl, rfl, rfl, rfl, rfl, q_27, qh1⟩ := hp_26
    have e9 : kDs (kTk T) (kTf T) (kTs T) 13 rr.toNat = 1 + kMx (kDs (kTk T) (kTf T) (kTs T) 12 (kTf T rr.toNat).toNat) (if kTs T rr.toNat < 0 then (0 : Int) else kDs (kTk T) (kTf T) (kTs T) 12 (kTs T rr.toNat).toNat) := kDs_1 (d := 12) (by rw [eK]; omega)
    have w1 : kDs (kTk T) (kTf T) (kTs T) 12 (kTf T rr.toNat).toNat = v_25 := by rw [eF, ← qf1]; exact qh1.symm
    refine lv_istore_n (lv' := [(2, .int (iI v_25)), (0, .ref mo), (1, .int (iI rr))]) F.1 F.2.1 dX7_farOf_19 rfl hl (by decide) rfl (fun ls hl => ?_)
    refine lv_aload_n F.1 F.2.1 dX7_farOf_20 rfl (lv_at hl 1 rfl) ?_
    refine lv_iload_n F.1 F.2.1 dX7_farOf_21 rfl (lv_at hl 2 rfl) ?_
    refine g_calli (g_runV (As := [.int (iI rr)]) (rest := []) (ci := 7) F hl.1 hH hS hz (c_X7_secondOf l g gh T I R J AI AJ AR mo rr zrr hv hm hT (by omega)) (cwV 1 F.2.2.2.2.1 (good_up gT_X7_secondOf) rfl rfl rfl hdX7_secondOf ⟨Nat.le_of_ble_eq_true rfl, Nat.le_of_ble_eq_true rfl⟩) hm (by decide) rfl rfl rfl (Nat.le_of_ble_eq_true rfl) dX7_farOf_22 ⟨Nat.zero_le _, Nat.zero_le _⟩) hS (fun v_34 I_28 R_29 J_30 AI_31 AJ_32 AR_33 H locs zv_34 hp_35 hH hS => ?_)
    dsimp only at hp_35
    obtain ⟨rfl, rfl, rfl, rfl, rfl, rfl, qs1⟩ := hp_35
    refine z_if_ge (tgt := 32) F dX7_farOf_25 (by decide) zv_34 (fun c_36 => ?_) (fun c_36 => ?_)
    · refine lv_aload_n F.1 F.2.1 dX7_farOf_32 rfl (lv_at hl 1 rfl) ?_
      refine lv_aload_n F.1 F.2.1 dX7_farOf_33 rfl (lv_at hl 1 rfl) ?_
      refine lv_iload_n F.1 F.2.1 dX7_farOf_34 rfl (lv_at hl 2 rfl) ?_
      refine g_calli (g_runV (As := [.int (iI rr)]) (rest := [.ref mo]) (ci := 7) F hl.1 hH hS hz (c_X7_secondOf l g gh T I R J AI AJ AR mo rr zrr hv hm hT (by omega)) (cwV 1 F.2.2.2.2.1 (good_up gT_X7_secondOf) rfl rfl rfl hdX7_secondOf ⟨Nat.le_of_ble_eq_true rfl, Nat.le_of_ble_eq_true rfl⟩) hm (by decide) rfl rfl rfl (Nat.le_of_ble_eq_true rfl) dX7_farOf_35 ⟨Nat.zero_le _, Nat.zero_le _⟩) hS (fun v_43 I_37 R_38 J_39 AI_40 AJ_41 AR_42 H locs zv_43 hp_44 hH hS => ?_)
      dsimp only at hp_44
      obtain ⟨rfl, rfl, rfl, rfl, rfl, rfl, qs2⟩ := hp_44
      refine g_calli (g_runV (As := [.int (iI v_43)]) (rest := []) (ci := 7) F hl.1 hH hS hz (c_X7_farOfh12 l g gh T I R J AI AJ AR mo v_43 zv_43 hv hm hT (by omega)) (cwV 1 F.2.2.2.2.1 (good_up gT_X7_farOf) rfl rfl rfl hdX7_farOf ⟨Nat.le_of_ble_eq_true rfl, Nat.le_of_ble_eq_true rfl⟩) hm (by decide) rfl rfl rfl (Nat.le_of_ble_eq_true rfl) dX7_farOf_38 ⟨Nat.zero_le _, Nat.zero_le _⟩) hS (fun v_51 I_45 R_46 J_47 AI_48 AJ_49 AR_50 H locs zv_51 hp_52 hH hS => ?_)
      dsimp only at hp_52
      obtain ⟨rfl, rfl, rfl, rfl, rfl, rfl, q_53, qh2⟩ := hp_52
      have w2 : (if kTs T rr.toNat < 0 then (0 : Int) else kDs (kTk T) (kTf T) (kTs T) 12 (kTs T rr.toNat).toNat) = v_51 := by rw [if_neg (by rw [eS]; omega), eS, ← qs2]; exact qh2.symm
      refine lv_istore_n (lv' := [(3, .int (iI v_51)), (2, .int (iI v_25)), (0, .ref mo), (1, .int (iI rr))]) F.1 F.2.1 dX7_farOf_41 rfl hl (by decide) rfl (fun ls hl => ?_)
      refine z_iconst F dX7_farOf_42 ?_
      refine lv_iload_n F.1 F.2.1 dX7_farOf_43 rfl (lv_at hl 1 rfl) ?_
      refine lv_iload_n F.1 F.2.1 dX7_farOf_44 rfl (lv_at hl 0 rfl) ?_
      refine z_icmp_le (tgt := 52) F dX7_farOf_45 (by decide) zv_25 zv_51 (fun c_54 => ?_) (fun c_54 => ?_)
      · refine lv_iload_n F.1 F.2.1 dX7_farOf_52 rfl (lv_at hl 0 rfl) ?_
        refine z_iadd F dX7_farOf_53 ?_
        exact g_iret F hr hlk hH hS hz ⟨by omega, by omega⟩ ⟨rfl, rfl, rfl, rfl, rfl, rfl, by first | omega | rfl | (dsimp only; omega), by (try dsimp only); rw [e9, w1, w2]; unfold kMx; first | rw [if_pos (by omega)] | rw [if_neg (by omega)]⟩ dX7_farOf_54
      · refine lv_iload_n F.1 F.2.1 dX7_farOf_48 rfl (lv_at hl 1 rfl) ?_
        refine z_goto (tgt := 53) F dX7_farOf_49 (by decide) ?_
        refine z_iadd F dX7_farOf_53 ?_
        exact g_iret F hr hlk hH hS hz ⟨by omega, by omega⟩ ⟨rfl, rfl, rfl, rfl, rfl, rfl, by first | omega | rfl | (dsimp only; omega), by (try dsimp only); rw [e9, w1, w2]; unfold kMx; first | rw [if_pos (by omega)] | rw [if_neg (by omega)]⟩ dX7_farOf_54
    · refine z_iconst F dX7_farOf_28 ?_
      have w2 : (if kTs T rr.toNat < 0 then (0 : Int) else kDs (kTk T) (kTf T) (kTs T) 12 (kTs T rr.toNat).toNat) = 0 := by rw [if_pos (by rw [eS]; omega)]
      refine z_goto (tgt := 41) F dX7_farOf_29 (by decide) ?_
      refine lv_istore_n (lv' := [(3, .int (iI 0)), (2, .int (iI v_25)), (0, .ref mo), (1, .int (iI rr))]) F.1 F.2.1 dX7_farOf_41 rfl hl (by decide) rfl (fun ls hl => ?_)
      refine z_iconst F dX7_farOf_42 ?_
      refine lv_iload_n F.1 F.2.1 dX7_farOf_43 rfl (lv_at hl 1 rfl) ?_
      refine lv_iload_n F.1 F.2.1 dX7_farOf_44 rfl (lv_at hl 0 rfl) ?_
      refine z_icmp_le (tgt := 52) F dX7_farOf_45 (by decide) zv_25 ⟨by decide, by decide⟩ (fun c_55 => ?_) (fun c_55 => ?_)
      · refine lv_iload_n F.1 F.2.1 dX7_farOf_52 rfl (lv_at hl 0 rfl) ?_
        refine z_iadd F dX7_farOf_53 ?_
        exact g_iret F hr hlk hH hS hz ⟨by omega, by omega⟩ ⟨rfl, rfl, rfl, rfl, rfl, rfl, by first | omega | rfl | (dsimp only; omega), by (try dsimp only); rw [e9, w1, w2]; unfold kMx; first | rw [if_pos (by omega)] | rw [if_neg (by omega)]⟩ dX7_farOf_54
      · refine lv_iload_n F.1 F.2.1 dX7_farOf_48 rfl (lv_at hl 1 rfl) ?_
        refine z_goto (tgt := 53) F dX7_farOf_49 (by decide) ?_
        refine z_iadd F dX7_farOf_53 ?_
        exact g_iret F hr hlk hH hS hz ⟨by omega, by omega⟩ ⟨rfl, rfl, rfl, rfl, rfl, rfl, by first | omega | rfl | (dsimp only; omega), by (try dsimp only); rw [e9, w1, w2]; unfold kMx; first | rw [if_pos (by omega)] | rw [if_neg (by omega)]⟩ dX7_farOf_54
  · refine z_iconst F dX7_farOf_8 ?_
    exact g_iret F hr hlk hH hS hz ⟨by decide, by decide⟩ ⟨rfl, rfl, rfl, rfl, rfl, rfl, by first | omega | rfl | (dsimp only; omega), (kDs_0 (d := 12) (by rw [eK]; omega)).symm⟩ dX7_farOf_9

def rmX7_farOfh14 : Room := { frames := 14, cells := 0, slots := 0, locals := 320 }
set_option maxHeartbeats 4000000 in
set_option maxRecDepth 100000 in
/-- farOf -/
theorem c_X7_farOfh14 (l : Launch) (g : gG) (gh : gGh) (T : Nat → Int32) (I : gI) (R : gR) (J : gJ) (AI : gI) (AJ : gJ) (AR : gR) (mo : Nat) (rr : Int) (zrr : zr rr) (hv : mInv g gh R I AI) (hm : gO g mo 7) (hT : AI (gh 50 0) = T) (hr0 : 0 ≤ rr ∧ rr < (I mo 2).toInt ∧ rr < 14) : gMet l g yX7_farOf tsX7_farOf rmX7_farOfh14 [.ref mo, .int (iI rr)] (I, R, J, AI, AJ, AR) (gQi g (fun (z : Int) (w : gS) => I = w.1 ∧ R = w.2.1 ∧ J = w.2.2.1 ∧ AI = w.2.2.2.1 ∧ AJ = w.2.2.2.2.1 ∧ AR = w.2.2.2.2.2 ∧ (0 ≤ z ∧ z ≤ 14) ∧ (z = kDs (kTk T) (kTf T) (kTs T) 14 rr.toNat))) := by
  refine gStart (cc := cX7_farOf) (maxL := 4) (ret := (some (.int))) (by decide) rfl (Nat.le_of_ble_eq_true rfl) ?_
  intro p e s m below meth c ls F hr hlk hH hz hS hl
  have hl : lv_has ls 4 [(0, .ref mo), (1, .int (iI rr))] := hl
  have hS : va_S (gA g) s.heap s.heap [] := hS
  obtain ⟨H, hHe⟩ : ∃ H : Heap, H = s.heap := ⟨_, rfl⟩
  obtain ⟨locs, hlo⟩ : ∃ k : List Loc, k = [] := ⟨_, rfl⟩
  have hH : gH g I R J AI AJ AR H := by rw [hHe]; exact hH
  have hS : va_S (gA g) s.heap H locs := by rw [hHe, hlo]; exact hS
  suffices hw : W p l e rmX7_farOfh14 s m ([.ref mo, .int (iI rr)] : List Value).toArray below meth c H locs 0 0 (MQ below (gQi g (fun (z : Int) (w : gS) => I = w.1 ∧ R = w.2.1 ∧ J = w.2.2.1 ∧ AI = w.2.2.2.1 ∧ AJ = w.2.2.2.2.1 ∧ AR = w.2.2.2.2.2 ∧ (0 ≤ z ∧ z ≤ 14) ∧ (z = kDs (kTk T) (kTf T) (kTs T) 14 rr.toNat))) ([.ref mo, .int (iI rr)] : List Value).toArray s 0 0 (gA g)) (F0 m 0 ls []) by
    rw [hHe, hlo] at hw; exact hw
  clear hHe hlo
  have hb0 := mJ hv hm
  unfold mNum1 at hb0
  have x := mRow hv hm hT (z := rr) (by omega) (by omega)
  have xa := x.1
  have xc := x.2.2.1
  have xb := x.2.1
  have ern : ((rr.toNat : Nat) : Int) = rr := Int.toNat_of_nonneg hr0.1
  have eK : kTk T rr.toNat = tI T (40 * rr) := by unfold kTk; rw [ern]
  have eF : kTf T rr.toNat = tI T (40 * rr + 2) := by unfold kTf; rw [ern]
  have eS : kTs T rr.toNat = tI T (40 * rr + 3) := by unfold kTs; rw [ern]
  refine lv_aload_n F.1 F.2.1 dX7_farOf_0 rfl (lv_at hl 0 rfl) ?_
  refine lv_iload_n F.1 F.2.1 dX7_farOf_1 rfl (lv_at hl 1 rfl) ?_
  have b_1 := mJ hv hm
  unfold mNum1 at b_1
  refine g_calli (g_runV (As := [.int (iI rr)]) (rest := []) (ci := 7) F hl.1 hH hS hz (c_X7_kindOf l g gh T I R J AI AJ AR mo rr zrr hv hm hT (by omega)) (cwV 1 F.2.2.2.2.1 (good_up gT_X7_kindOf) rfl rfl rfl hdX7_kindOf ⟨Nat.le_of_ble_eq_true rfl, Nat.le_of_ble_eq_true rfl⟩) hm (by decide) rfl rfl rfl (Nat.le_of_ble_eq_true rfl) dX7_farOf_2 ⟨Nat.zero_le _, Nat.zero_le _⟩) hS (fun v_8 I_2 R_3 J_4 AI_5 AJ_6 AR_7 H locs zv_8 hp_9 hH hS => ?_)
  dsimp only at hp_9
  obtain ⟨rfl, rfl, rfl, rfl, rfl, rfl, qk⟩ := hp_9
  refine z_if_ne (tgt := 10) F dX7_farOf_5 (by decide) zv_8 (fun c_10 => ?_) (fun c_10 => ?_)
  · refine lv_aload_n F.1 F.2.1 dX7_farOf_10 rfl (lv_at hl 0 rfl) ?_
    refine lv_aload_n F.1 F.2.1 dX7_farOf_11 rfl (lv_at hl 0 rfl) ?_
    refine lv_iload_n F.1 F.2.1 dX7_farOf_12 rfl (lv_at hl 1 rfl) ?_
    refine g_calli (g_runV (As := [.int (iI rr)]) (rest := [.ref mo]) (ci := 7) F hl.1 hH hS hz (c_X7_firstOf l g gh T I R J AI AJ AR mo rr zrr hv hm hT (by omega)) (cwV 1 F.2.2.2.2.1 (good_up gT_X7_firstOf) rfl rfl rfl hdX7_firstOf ⟨Nat.le_of_ble_eq_true rfl, Nat.le_of_ble_eq_true rfl⟩) hm (by decide) rfl rfl rfl (Nat.le_of_ble_eq_true rfl) dX7_farOf_13 ⟨Nat.zero_le _, Nat.zero_le _⟩) hS (fun v_17 I_11 R_12 J_13 AI_14 AJ_15 AR_16 H locs zv_17 hp_18 hH hS => ?_)
    dsimp only at hp_18
    obtain ⟨rfl, rfl, rfl, rfl, rfl, rfl, qf1⟩ := hp_18
    refine g_calli (g_runV (As := [.int (iI v_17)]) (rest := []) (ci := 7) F hl.1 hH hS hz (c_X7_farOfh13 l g gh T I R J AI AJ AR mo v_17 zv_17 hv hm hT (by omega)) (cwV 1 F.2.2.2.2.1 (good_up gT_X7_farOf) rfl rfl rfl hdX7_farOf ⟨Nat.le_of_ble_eq_true rfl, Nat.le_of_ble_eq_true rfl⟩) hm (by decide) rfl rfl rfl (Nat.le_of_ble_eq_true rfl) dX7_farOf_16 ⟨Nat.zero_le _, Nat.zero_le _⟩) hS (fun v_25 I_19 R_20 J_21 AI_22 AJ_23 AR_24 H locs zv_25 hp_26 hH hS => ?_)
    dsimp only at hp_26
    obtain ⟨rfl, rfl, rfl, rfl, rfl, rfl, q_27, qh1⟩ := hp_26
    have e9 : kDs (kTk T) (kTf T) (kTs T) 14 rr.toNat = 1 + kMx (kDs (kTk T) (kTf T) (kTs T) 13 (kTf T rr.toNat).toNat) (if kTs T rr.toNat < 0 then (0 : Int) else kDs (kTk T) (kTf T) (kTs T) 13 (kTs T rr.toNat).toNat) := kDs_1 (d := 13) (by rw [eK]; omega)
    have w1 : kDs (kTk T) (kTf T) (kTs T) 13 (kTf T rr.toNat).toNat = v_25 := by rw [eF, ← qf1]; exact qh1.symm
    refine lv_istore_n (lv' := [(2, .int (iI v_25)), (0, .ref mo), (1, .int (iI rr))]) F.1 F.2.1 dX7_farOf_19 rfl hl (by decide) rfl (fun ls hl => ?_)
    refine lv_aload_n F.1 F.2.1 dX7_farOf_20 rfl (lv_at hl 1 rfl) ?_
    refine lv_iload_n F.1 F.2.1 dX7_farOf_21 rfl (lv_at hl 2 rfl) ?_
    refine g_calli (g_runV (As := [.int (iI rr)]) (rest := []) (ci := 7) F hl.1 hH hS hz (c_X7_secondOf l g gh T I R J AI AJ AR mo rr zrr hv hm hT (by omega)) (cwV 1 F.2.2.2.2.1 (good_up gT_X7_secondOf) rfl rfl rfl hdX7_secondOf ⟨Nat.le_of_ble_eq_true rfl, Nat.le_of_ble_eq_true rfl⟩) hm (by decide) rfl rfl rfl (Nat.le_of_ble_eq_true rfl) dX7_farOf_22 ⟨Nat.zero_le _, Nat.zero_le _⟩) hS (fun v_34 I_28 R_29 J_30 AI_31 AJ_32 AR_33 H locs zv_34 hp_35 hH hS => ?_)
    dsimp only at hp_35
    obtain ⟨rfl, rfl, rfl, rfl, rfl, rfl, qs1⟩ := hp_35
    refine z_if_ge (tgt := 32) F dX7_farOf_25 (by decide) zv_34 (fun c_36 => ?_) (fun c_36 => ?_)
    · refine lv_aload_n F.1 F.2.1 dX7_farOf_32 rfl (lv_at hl 1 rfl) ?_
      refine lv_aload_n F.1 F.2.1 dX7_farOf_33 rfl (lv_at hl 1 rfl) ?_
      refine lv_iload_n F.1 F.2.1 dX7_farOf_34 rfl (lv_at hl 2 rfl) ?_
      refine g_calli (g_runV (As := [.int (iI rr)]) (rest := [.ref mo]) (ci := 7) F hl.1 hH hS hz (c_X7_secondOf l g gh T I R J AI AJ AR mo rr zrr hv hm hT (by omega)) (cwV 1 F.2.2.2.2.1 (good_up gT_X7_secondOf) rfl rfl rfl hdX7_secondOf ⟨Nat.le_of_ble_eq_true rfl, Nat.le_of_ble_eq_true rfl⟩) hm (by decide) rfl rfl rfl (Nat.le_of_ble_eq_true rfl) dX7_farOf_35 ⟨Nat.zero_le _, Nat.zero_le _⟩) hS (fun v_43 I_37 R_38 J_39 AI_40 AJ_41 AR_42 H locs zv_43 hp_44 hH hS => ?_)
      dsimp only at hp_44
      obtain ⟨rfl, rfl, rfl, rfl, rfl, rfl, qs2⟩ := hp_44
      refine g_calli (g_runV (As := [.int (iI v_43)]) (rest := []) (ci := 7) F hl.1 hH hS hz (c_X7_farOfh13 l g gh T I R J AI AJ AR mo v_43 zv_43 hv hm hT (by omega)) (cwV 1 F.2.2.2.2.1 (good_up gT_X7_farOf) rfl rfl rfl hdX7_farOf ⟨Nat.le_of_ble_eq_true rfl, Nat.le_of_ble_eq_true rfl⟩) hm (by decide) rfl rfl rfl (Nat.le_of_ble_eq_true rfl) dX7_farOf_38 ⟨Nat.zero_le _, Nat.zero_le _⟩) hS (fun v_51 I_45 R_46 J_47 AI_48 AJ_49 AR_50 H locs zv_51 hp_52 hH hS => ?_)
      dsimp only at hp_52
      obtain ⟨rfl, rfl, rfl, rfl, rfl, rfl, q_53, qh2⟩ := hp_52
      have w2 : (if kTs T rr.toNat < 0 then (0 : Int) else kDs (kTk T) (kTf T) (kTs T) 13 (kTs T rr.toNat).toNat) = v_51 := by rw [if_neg (by rw [eS]; omega), eS, ← qs2]; exact qh2.symm
      refine lv_istore_n (lv' := [(3, .int (iI v_51)), (2, .int (iI v_25)), (0, .ref mo), (1, .int (iI rr))]) F.1 F.2.1 dX7_farOf_41 rfl hl (by decide) rfl (fun ls hl => ?_)
      refine z_iconst F dX7_farOf_42 ?_
      refine lv_iload_n F.1 F.2.1 dX7_farOf_43 rfl (lv_at hl 1 rfl) ?_
      refine lv_iload_n F.1 F.2.1 dX7_farOf_44 rfl (lv_at hl 0 rfl) ?_
      refine z_icmp_le (tgt := 52) F dX7_farOf_45 (by decide) zv_25 zv_51 (fun c_54 => ?_) (fun c_54 => ?_)
      · refine lv_iload_n F.1 F.2.1 dX7_farOf_52 rfl (lv_at hl 0 rfl) ?_
        refine z_iadd F dX7_farOf_53 ?_
        exact g_iret F hr hlk hH hS hz ⟨by omega, by omega⟩ ⟨rfl, rfl, rfl, rfl, rfl, rfl, by first | omega | rfl | (dsimp only; omega), by (try dsimp only); rw [e9, w1, w2]; unfold kMx; first | rw [if_pos (by omega)] | rw [if_neg (by omega)]⟩ dX7_farOf_54
      · refine lv_iload_n F.1 F.2.1 dX7_farOf_48 rfl (lv_at hl 1 rfl) ?_
        refine z_goto (tgt := 53) F dX7_farOf_49 (by decide) ?_
        refine z_iadd F dX7_farOf_53 ?_
        exact g_iret F hr hlk hH hS hz ⟨by omega, by omega⟩ ⟨rfl, rfl, rfl, rfl, rfl, rfl, by first | omega | rfl | (dsimp only; omega), by (try dsimp only); rw [e9, w1, w2]; unfold kMx; first | rw [if_pos (by omega)] | rw [if_neg (by omega)]⟩ dX7_farOf_54
    · refine z_iconst F dX7_farOf_28 ?_
      have w2 : (if kTs T rr.toNat < 0 then (0 : Int) else kDs (kTk T) (kTf T) (kTs T) 13 (kTs T rr.toNat).toNat) = 0 := by rw [if_pos (by rw [eS]; omega)]
      refine z_goto (tgt := 41) F dX7_farOf_29 (by decide) ?_
      refine lv_istore_n (lv' := [(3, .int (iI 0)), (2, .int (iI v_25)), (0, .ref mo), (1, .int (iI rr))]) F.1 F.2.1 dX7_farOf_41 rfl hl (by decide) rfl (fun ls hl => ?_)
      refine z_iconst F dX7_farOf_42 ?_
      refine lv_iload_n F.1 F.2.1 dX7_farOf_43 rfl (lv_at hl 1 rfl) ?_
      refine lv_iload_n F.1 F.2.1 dX7_farOf_44 rfl (lv_at hl 0 rfl) ?_
      refine z_icmp_le (tgt := 52) F dX7_farOf_45 (by decide) zv_25 ⟨by decide, by decide⟩ (fun c_55 => ?_) (fun c_55 => ?_)
      · refine lv_iload_n F.1 F.2.1 dX7_farOf_52 rfl (lv_at hl 0 rfl) ?_
        refine z_iadd F dX7_farOf_53 ?_
        exact g_iret F hr hlk hH hS hz ⟨by omega, by omega⟩ ⟨rfl, rfl, rfl, rfl, rfl, rfl, by first | omega | rfl | (dsimp only; omega), by (try dsimp only); rw [e9, w1, w2]; unfold kMx; first | rw [if_pos (by omega)] | rw [if_neg (by omega)]⟩ dX7_farOf_54
      · refine lv_iload_n F.1 F.2.1 dX7_farOf_48 rfl (lv_at hl 1 rfl) ?_
        refine z_goto (tgt := 53) F dX7_farOf_49 (by decide) ?_
        refine z_iadd F dX7_farOf_53 ?_
        exact g_iret F hr hlk hH hS hz ⟨by omega, by omega⟩ ⟨rfl, rfl, rfl, rfl, rfl, rfl, by first | omega | rfl | (dsimp only; omega), by (try dsimp only); rw [e9, w1, w2]; unfold kMx; first | rw [if_pos (by omega)] | rw [if_neg (by omega)]⟩ dX7_farOf_54
  · refine z_iconst F dX7_farOf_8 ?_
    exact g_iret F hr hlk hH hS hz ⟨by decide, by decide⟩ ⟨rfl, rfl, rfl, rfl, rfl, rfl, by first | omega | rfl | (dsimp only; omega), (kDs_0 (d := 13) (by rw [eK]; omega)).symm⟩ dX7_farOf_9

def rmX7_farOfh15 : Room := { frames := 15, cells := 0, slots := 0, locals := 343 }
set_option maxHeartbeats 4000000 in
set_option maxRecDepth 100000 in
/-- farOf -/
theorem c_X7_farOfh15 (l : Launch) (g : gG) (gh : gGh) (T : Nat → Int32) (I : gI) (R : gR) (J : gJ) (AI : gI) (AJ : gJ) (AR : gR) (mo : Nat) (rr : Int) (zrr : zr rr) (hv : mInv g gh R I AI) (hm : gO g mo 7) (hT : AI (gh 50 0) = T) (hr0 : 0 ≤ rr ∧ rr < (I mo 2).toInt ∧ rr < 15) : gMet l g yX7_farOf tsX7_farOf rmX7_farOfh15 [.ref mo, .int (iI rr)] (I, R, J, AI, AJ, AR) (gQi g (fun (z : Int) (w : gS) => I = w.1 ∧ R = w.2.1 ∧ J = w.2.2.1 ∧ AI = w.2.2.2.1 ∧ AJ = w.2.2.2.2.1 ∧ AR = w.2.2.2.2.2 ∧ (0 ≤ z ∧ z ≤ 15) ∧ (z = kDs (kTk T) (kTf T) (kTs T) 15 rr.toNat))) := by
  refine gStart (cc := cX7_farOf) (maxL := 4) (ret := (some (.int))) (by decide) rfl (Nat.le_of_ble_eq_true rfl) ?_
  intro p e s m below meth c ls F hr hlk hH hz hS hl
  have hl : lv_has ls 4 [(0, .ref mo), (1, .int (iI rr))] := hl
  have hS : va_S (gA g) s.heap s.heap [] := hS
  obtain ⟨H, hHe⟩ : ∃ H : Heap, H = s.heap := ⟨_, rfl⟩
  obtain ⟨locs, hlo⟩ : ∃ k : List Loc, k = [] := ⟨_, rfl⟩
  have hH : gH g I R J AI AJ AR H := by rw [hHe]; exact hH
  have hS : va_S (gA g) s.heap H locs := by rw [hHe, hlo]; exact hS
  suffices hw : W p l e rmX7_farOfh15 s m ([.ref mo, .int (iI rr)] : List Value).toArray below meth c H locs 0 0 (MQ below (gQi g (fun (z : Int) (w : gS) => I = w.1 ∧ R = w.2.1 ∧ J = w.2.2.1 ∧ AI = w.2.2.2.1 ∧ AJ = w.2.2.2.2.1 ∧ AR = w.2.2.2.2.2 ∧ (0 ≤ z ∧ z ≤ 15) ∧ (z = kDs (kTk T) (kTf T) (kTs T) 15 rr.toNat))) ([.ref mo, .int (iI rr)] : List Value).toArray s 0 0 (gA g)) (F0 m 0 ls []) by
    rw [hHe, hlo] at hw; exact hw
  clear hHe hlo
  have hb0 := mJ hv hm
  unfold mNum1 at hb0
  have x := mRow hv hm hT (z := rr) (by omega) (by omega)
  have xa := x.1
  have xc := x.2.2.1
  have xb := x.2.1
  have ern : ((rr.toNat : Nat) : Int) = rr := Int.toNat_of_nonneg hr0.1
  have eK : kTk T rr.toNat = tI T (40 * rr) := by unfold kTk; rw [ern]
  have eF : kTf T rr.toNat = tI T (40 * rr + 2) := by unfold kTf; rw [ern]
  have eS : kTs T rr.toNat = tI T (40 * rr + 3) := by unfold kTs; rw [ern]
  refine lv_aload_n F.1 F.2.1 dX7_farOf_0 rfl (lv_at hl 0 rfl) ?_
  refine lv_iload_n F.1 F.2.1 dX7_farOf_1 rfl (lv_at hl 1 rfl) ?_
  have b_1 := mJ hv hm
  unfold mNum1 at b_1
  refine g_calli (g_runV (As := [.int (iI rr)]) (rest := []) (ci := 7) F hl.1 hH hS hz (c_X7_kindOf l g gh T I R J AI AJ AR mo rr zrr hv hm hT (by omega)) (cwV 1 F.2.2.2.2.1 (good_up gT_X7_kindOf) rfl rfl rfl hdX7_kindOf ⟨Nat.le_of_ble_eq_true rfl, Nat.le_of_ble_eq_true rfl⟩) hm (by decide) rfl rfl rfl (Nat.le_of_ble_eq_true rfl) dX7_farOf_2 ⟨Nat.zero_le _, Nat.zero_le _⟩) hS (fun v_8 I_2 R_3 J_4 AI_5 AJ_6 AR_7 H locs zv_8 hp_9 hH hS => ?_)
  dsimp only at hp_9
  obtain ⟨rfl, rfl, rfl, rfl, rfl, rfl, qk⟩ := hp_9
  refine z_if_ne (tgt := 10) F dX7_farOf_5 (by decide) zv_8 (fun c_10 => ?_) (fun c_10 => ?_)
  · refine lv_aload_n F.1 F.2.1 dX7_farOf_10 rfl (lv_at hl 0 rfl) ?_
    refine lv_aload_n F.1 F.2.1 dX7_farOf_11 rfl (lv_at hl 0 rfl) ?_
    refine lv_iload_n F.1 F.2.1 dX7_farOf_12 rfl (lv_at hl 1 rfl) ?_
    refine g_calli (g_runV (As := [.int (iI rr)]) (rest := [.ref mo]) (ci := 7) F hl.1 hH hS hz (c_X7_firstOf l g gh T I R J AI AJ AR mo rr zrr hv hm hT (by omega)) (cwV 1 F.2.2.2.2.1 (good_up gT_X7_firstOf) rfl rfl rfl hdX7_firstOf ⟨Nat.le_of_ble_eq_true rfl, Nat.le_of_ble_eq_true rfl⟩) hm (by decide) rfl rfl rfl (Nat.le_of_ble_eq_true rfl) dX7_farOf_13 ⟨Nat.zero_le _, Nat.zero_le _⟩) hS (fun v_17 I_11 R_12 J_13 AI_14 AJ_15 AR_16 H locs zv_17 hp_18 hH hS => ?_)
    dsimp only at hp_18
    obtain ⟨rfl, rfl, rfl, rfl, rfl, rfl, qf1⟩ := hp_18
    refine g_calli (g_runV (As := [.int (iI v_17)]) (rest := []) (ci := 7) F hl.1 hH hS hz (c_X7_farOfh14 l g gh T I R J AI AJ AR mo v_17 zv_17 hv hm hT (by omega)) (cwV 1 F.2.2.2.2.1 (good_up gT_X7_farOf) rfl rfl rfl hdX7_farOf ⟨Nat.le_of_ble_eq_true rfl, Nat.le_of_ble_eq_true rfl⟩) hm (by decide) rfl rfl rfl (Nat.le_of_ble_eq_true rfl) dX7_farOf_16 ⟨Nat.zero_le _, Nat.zero_le _⟩) hS (fun v_25 I_19 R_20 J_21 AI_22 AJ_23 AR_24 H locs zv_25 hp_26 hH hS => ?_)
    dsimp only at hp_26
    obtain ⟨rfl, rfl, rfl, rfl, rfl, rfl, q_27, qh1⟩ := hp_26
    have e9 : kDs (kTk T) (kTf T) (kTs T) 15 rr.toNat = 1 + kMx (kDs (kTk T) (kTf T) (kTs T) 14 (kTf T rr.toNat).toNat) (if kTs T rr.toNat < 0 then (0 : Int) else kDs (kTk T) (kTf T) (kTs T) 14 (kTs T rr.toNat).toNat) := kDs_1 (d := 14) (by rw [eK]; omega)
    have w1 : kDs (kTk T) (kTf T) (kTs T) 14 (kTf T rr.toNat).toNat = v_25 := by rw [eF, ← qf1]; exact qh1.symm
    refine lv_istore_n (lv' := [(2, .int (iI v_25)), (0, .ref mo), (1, .int (iI rr))]) F.1 F.2.1 dX7_farOf_19 rfl hl (by decide) rfl (fun ls hl => ?_)
    refine lv_aload_n F.1 F.2.1 dX7_farOf_20 rfl (lv_at hl 1 rfl) ?_
    refine lv_iload_n F.1 F.2.1 dX7_farOf_21 rfl (lv_at hl 2 rfl) ?_
    refine g_calli (g_runV (As := [.int (iI rr)]) (rest := []) (ci := 7) F hl.1 hH hS hz (c_X7_secondOf l g gh T I R J AI AJ AR mo rr zrr hv hm hT (by omega)) (cwV 1 F.2.2.2.2.1 (good_up gT_X7_secondOf) rfl rfl rfl hdX7_secondOf ⟨Nat.le_of_ble_eq_true rfl, Nat.le_of_ble_eq_true rfl⟩) hm (by decide) rfl rfl rfl (Nat.le_of_ble_eq_true rfl) dX7_farOf_22 ⟨Nat.zero_le _, Nat.zero_le _⟩) hS (fun v_34 I_28 R_29 J_30 AI_31 AJ_32 AR_33 H locs zv_34 hp_35 hH hS => ?_)
    dsimp only at hp_35
    obtain ⟨rfl, rfl, rfl, rfl, rfl, rfl, qs1⟩ := hp_35
    refine z_if_ge (tgt := 32) F dX7_farOf_25 (by decide) zv_34 (fun c_36 => ?_) (fun c_36 => ?_)
    · refine lv_aload_n F.1 F.2.1 dX7_farOf_32 rfl (lv_at hl 1 rfl) ?_
      refine lv_aload_n F.1 F.2.1 dX7_farOf_33 rfl (lv_at hl 1 rfl) ?_
      refine lv_iload_n F.1 F.2.1 dX7_farOf_34 rfl (lv_at hl 2 rfl) ?_
      refine g_calli (g_runV (As := [.int (iI rr)]) (rest := [.ref mo]) (ci := 7) F hl.1 hH hS hz (c_X7_secondOf l g gh T I R J AI AJ AR mo rr zrr hv hm hT (by omega)) (cwV 1 F.2.2.2.2.1 (good_up gT_X7_secondOf) rfl rfl rfl hdX7_secondOf ⟨Nat.le_of_ble_eq_true rfl, Nat.le_of_ble_eq_true rfl⟩) hm (by decide) rfl rfl rfl (Nat.le_of_ble_eq_true rfl) dX7_farOf_35 ⟨Nat.zero_le _, Nat.zero_le _⟩) hS (fun v_43 I_37 R_38 J_39 AI_40 AJ_41 AR_42 H locs zv_43 hp_44 hH hS => ?_)
      dsimp only at hp_44
      obtain ⟨rfl, rfl, rfl, rfl, rfl, rfl, qs2⟩ := hp_44
      refine g_calli (g_runV (As := [.int (iI v_43)]) (rest := []) (ci := 7) F hl.1 hH hS hz (c_X7_farOfh14 l g gh T I R J AI AJ AR mo v_43 zv_43 hv hm hT (by omega)) (cwV 1 F.2.2.2.2.1 (good_up gT_X7_farOf) rfl rfl rfl hdX7_farOf ⟨Nat.le_of_ble_eq_true rfl, Nat.le_of_ble_eq_true rfl⟩) hm (by decide) rfl rfl rfl (Nat.le_of_ble_eq_true rfl) dX7_farOf_38 ⟨Nat.zero_le _, Nat.zero_le _⟩) hS (fun v_51 I_45 R_46 J_47 AI_48 AJ_49 AR_50 H locs zv_51 hp_52 hH hS => ?_)
      dsimp only at hp_52
      obtain ⟨rfl, rfl, rfl, rfl, rfl, rfl, q_53, qh2⟩ := hp_52
      have w2 : (if kTs T rr.toNat < 0 then (0 : Int) else kDs (kTk T) (kTf T) (kTs T) 14 (kTs T rr.toNat).toNat) = v_51 := by rw [if_neg (by rw [eS]; omega), eS, ← qs2]; exact qh2.symm
      refine lv_istore_n (lv' := [(3, .int (iI v_51)), (2, .int (iI v_25)), (0, .ref mo), (1, .int (iI rr))]) F.1 F.2.1 dX7_farOf_41 rfl hl (by decide) rfl (fun ls hl => ?_)
      refine z_iconst F dX7_farOf_42 ?_
      refine lv_iload_n F.1 F.2.1 dX7_farOf_43 rfl (lv_at hl 1 rfl) ?_
      refine lv_iload_n F.1 F.2.1 dX7_farOf_44 rfl (lv_at hl 0 rfl) ?_
      refine z_icmp_le (tgt := 52) F dX7_farOf_45 (by decide) zv_25 zv_51 (fun c_54 => ?_) (fun c_54 => ?_)
      · refine lv_iload_n F.1 F.2.1 dX7_farOf_52 rfl (lv_at hl 0 rfl) ?_
        refine z_iadd F dX7_farOf_53 ?_
        exact g_iret F hr hlk hH hS hz ⟨by omega, by omega⟩ ⟨rfl, rfl, rfl, rfl, rfl, rfl, by first | omega | rfl | (dsimp only; omega), by (try dsimp only); rw [e9, w1, w2]; unfold kMx; first | rw [if_pos (by omega)] | rw [if_neg (by omega)]⟩ dX7_farOf_54
      · refine lv_iload_n F.1 F.2.1 dX7_farOf_48 rfl (lv_at hl 1 rfl) ?_
        refine z_goto (tgt := 53) F dX7_farOf_49 (by decide) ?_
        refine z_iadd F dX7_farOf_53 ?_
        exact g_iret F hr hlk hH hS hz ⟨by omega, by omega⟩ ⟨rfl, rfl, rfl, rfl, rfl, rfl, by first | omega | rfl | (dsimp only; omega), by (try dsimp only); rw [e9, w1, w2]; unfold kMx; first | rw [if_pos (by omega)] | rw [if_neg (by omega)]⟩ dX7_farOf_54
    · refine z_iconst F dX7_farOf_28 ?_
      have w2 : (if kTs T rr.toNat < 0 then (0 : Int) else kDs (kTk T) (kTf T) (kTs T) 14 (kTs T rr.toNat).toNat) = 0 := by rw [if_pos (by rw [eS]; omega)]
      refine z_goto (tgt := 41) F dX7_farOf_29 (by decide) ?_
      refine lv_istore_n (lv' := [(3, .int (iI 0)), (2, .int (iI v_25)), (0, .ref mo), (1, .int (iI rr))]) F.1 F.2.1 dX7_farOf_41 rfl hl (by decide) rfl (fun ls hl => ?_)
      refine z_iconst F dX7_farOf_42 ?_
      refine lv_iload_n F.1 F.2.1 dX7_farOf_43 rfl (lv_at hl 1 rfl) ?_
      refine lv_iload_n F.1 F.2.1 dX7_farOf_44 rfl (lv_at hl 0 rfl) ?_
      refine z_icmp_le (tgt := 52) F dX7_farOf_45 (by decide) zv_25 ⟨by decide, by decide⟩ (fun c_55 => ?_) (fun c_55 => ?_)
      · refine lv_iload_n F.1 F.2.1 dX7_farOf_52 rfl (lv_at hl 0 rfl) ?_
        refine z_iadd F dX7_farOf_53 ?_
        exact g_iret F hr hlk hH hS hz ⟨by omega, by omega⟩ ⟨rfl, rfl, rfl, rfl, rfl, rfl, by first | omega | rfl | (dsimp only; omega), by (try dsimp only); rw [e9, w1, w2]; unfold kMx; first | rw [if_pos (by omega)] | rw [if_neg (by omega)]⟩ dX7_farOf_54
      · refine lv_iload_n F.1 F.2.1 dX7_farOf_48 rfl (lv_at hl 1 rfl) ?_
        refine z_goto (tgt := 53) F dX7_farOf_49 (by decide) ?_
        refine z_iadd F dX7_farOf_53 ?_
        exact g_iret F hr hlk hH hS hz ⟨by omega, by omega⟩ ⟨rfl, rfl, rfl, rfl, rfl, rfl, by first | omega | rfl | (dsimp only; omega), by (try dsimp only); rw [e9, w1, w2]; unfold kMx; first | rw [if_pos (by omega)] | rw [if_neg (by omega)]⟩ dX7_farOf_54
  · refine z_iconst F dX7_farOf_8 ?_
    exact g_iret F hr hlk hH hS hz ⟨by decide, by decide⟩ ⟨rfl, rfl, rfl, rfl, rfl, rfl, by first | omega | rfl | (dsimp only; omega), (kDs_0 (d := 14) (by rw [eK]; omega)).symm⟩ dX7_farOf_9

def rmX7_farOfh16 : Room := { frames := 16, cells := 0, slots := 0, locals := 366 }
set_option maxHeartbeats 4000000 in
set_option maxRecDepth 100000 in
/-- farOf -/
theorem c_X7_farOfh16 (l : Launch) (g : gG) (gh : gGh) (T : Nat → Int32) (I : gI) (R : gR) (J : gJ) (AI : gI) (AJ : gJ) (AR : gR) (mo : Nat) (rr : Int) (zrr : zr rr) (hv : mInv g gh R I AI) (hm : gO g mo 7) (hT : AI (gh 50 0) = T) (hr0 : 0 ≤ rr ∧ rr < (I mo 2).toInt ∧ rr < 16) : gMet l g yX7_farOf tsX7_farOf rmX7_farOfh16 [.ref mo, .int (iI rr)] (I, R, J, AI, AJ, AR) (gQi g (fun (z : Int) (w : gS) => I = w.1 ∧ R = w.2.1 ∧ J = w.2.2.1 ∧ AI = w.2.2.2.1 ∧ AJ = w.2.2.2.2.1 ∧ AR = w.2.2.2.2.2 ∧ (0 ≤ z ∧ z ≤ 16) ∧ (z = kDs (kTk T) (kTf T) (kTs T) 16 rr.toNat))) := by
  refine gStart (cc := cX7_farOf) (maxL := 4) (ret := (some (.int))) (by decide) rfl (Nat.le_of_ble_eq_true rfl) ?_
  intro p e s m below meth c ls F hr hlk hH hz hS hl
  have hl : lv_has ls 4 [(0, .ref mo), (1, .int (iI rr))] := hl
  have hS : va_S (gA g) s.heap s.heap [] := hS
  obtain ⟨H, hHe⟩ : ∃ H : Heap, H = s.heap := ⟨_, rfl⟩
  obtain ⟨locs, hlo⟩ : ∃ k : List Loc, k = [] := ⟨_, rfl⟩
  have hH : gH g I R J AI AJ AR H := by rw [hHe]; exact hH
  have hS : va_S (gA g) s.heap H locs := by rw [hHe, hlo]; exact hS
  suffices hw : W p l e rmX7_farOfh16 s m ([.ref mo, .int (iI rr)] : List Value).toArray below meth c H locs 0 0 (MQ below (gQi g (fun (z : Int) (w : gS) => I = w.1 ∧ R = w.2.1 ∧ J = w.2.2.1 ∧ AI = w.2.2.2.1 ∧ AJ = w.2.2.2.2.1 ∧ AR = w.2.2.2.2.2 ∧ (0 ≤ z ∧ z ≤ 16) ∧ (z = kDs (kTk T) (kTf T) (kTs T) 16 rr.toNat))) ([.ref mo, .int (iI rr)] : List Value).toArray s 0 0 (gA g)) (F0 m 0 ls []) by
    rw [hHe, hlo] at hw; exact hw
  clear hHe hlo
  have hb0 := mJ hv hm
  unfold mNum1 at hb0
  have x := mRow hv hm hT (z := rr) (by omega) (by omega)
  have xa := x.1
  have xc := x.2.2.1
  have xb := x.2.1
  have ern : ((rr.toNat : Nat) : Int) = rr := Int.toNat_of_nonneg hr0.1
  have eK : kTk T rr.toNat = tI T (40 * rr) := by unfold kTk; rw [ern]
  have eF : kTf T rr.toNat = tI T (40 * rr + 2) := by unfold kTf; rw [ern]
  have eS : kTs T rr.toNat = tI T (40 * rr + 3) := by unfold kTs; rw [ern]
  refine lv_aload_n F.1 F.2.1 dX7_farOf_0 rfl (lv_at hl 0 rfl) ?_
  refine lv_iload_n F.1 F.2.1 dX7_farOf_1 rfl (lv_at hl 1 rfl) ?_
  have b_1 := mJ hv hm
  unfold mNum1 at b_1
  refine g_calli (g_runV (As := [.int (iI rr)]) (rest := []) (ci := 7) F hl.1 hH hS hz (c_X7_kindOf l g gh T I R J AI AJ AR mo rr zrr hv hm hT (by omega)) (cwV 1 F.2.2.2.2.1 (good_up gT_X7_kindOf) rfl rfl rfl hdX7_kindOf ⟨Nat.le_of_ble_eq_true rfl, Nat.le_of_ble_eq_true rfl⟩) hm (by decide) rfl rfl rfl (Nat.le_of_ble_eq_true rfl) dX7_farOf_2 ⟨Nat.zero_le _, Nat.zero_le _⟩) hS (fun v_8 I_2 R_3 J_4 AI_5 AJ_6 AR_7 H locs zv_8 hp_9 hH hS => ?_)
  dsimp only at hp_9
  obtain ⟨rfl, rfl, rfl, rfl, rfl, rfl, qk⟩ := hp_9
  refine z_if_ne (tgt := 10) F dX7_farOf_5 (by decide) zv_8 (fun c_10 => ?_) (fun c_10 => ?_)
  · refine lv_aload_n F.1 F.2.1 dX7_farOf_10 rfl (lv_at hl 0 rfl) ?_
    refine lv_aload_n F.1 F.2.1 dX7_farOf_11 rfl (lv_at hl 0 rfl) ?_
    refine lv_iload_n F.1 F.2.1 dX7_farOf_12 rfl (lv_at hl 1 rfl) ?_
    refine g_calli (g_runV (As := [.int (iI rr)]) (rest := [.ref mo]) (ci := 7) F hl.1 hH hS hz (c_X7_firstOf l g gh T I R J AI AJ AR mo rr zrr hv hm hT (by omega)) (cwV 1 F.2.2.2.2.1 (good_up gT_X7_firstOf) rfl rfl rfl hdX7_firstOf ⟨Nat.le_of_ble_eq_true rfl, Nat.le_of_ble_eq_true rfl⟩) hm (by decide) rfl rfl rfl (Nat.le_of_ble_eq_true rfl) dX7_farOf_13 ⟨Nat.zero_le _, Nat.zero_le _⟩) hS (fun v_17 I_11 R_12 J_13 AI_14 AJ_15 AR_16 H locs zv_17 hp_18 hH hS => ?_)
    dsimp only at hp_18
    obtain ⟨rfl, rfl, rfl, rfl, rfl, rfl, qf1⟩ := hp_18
    refine g_calli (g_runV (As := [.int (iI v_17)]) (rest := []) (ci := 7) F hl.1 hH hS hz (c_X7_farOfh15 l g gh T I R J AI AJ AR mo v_17 zv_17 hv hm hT (by omega)) (cwV 1 F.2.2.2.2.1 (good_up gT_X7_farOf) rfl rfl rfl hdX7_farOf ⟨Nat.le_of_ble_eq_true rfl, Nat.le_of_ble_eq_true rfl⟩) hm (by decide) rfl rfl rfl (Nat.le_of_ble_eq_true rfl) dX7_farOf_16 ⟨Nat.zero_le _, Nat.zero_le _⟩) hS (fun v_25 I_19 R_20 J_21 AI_22 AJ_23 AR_24 H locs zv_25 hp_26 hH hS => ?_)
    dsimp only at hp_26
    obtain ⟨rfl, rfl, rfl, rfl, rfl, rfl, q_27, qh1⟩ := hp_26
    have e9 : kDs (kTk T) (kTf T) (kTs T) 16 rr.toNat = 1 + kMx (kDs (kTk T) (kTf T) (kTs T) 15 (kTf T rr.toNat).toNat) (if kTs T rr.toNat < 0 then (0 : Int) else kDs (kTk T) (kTf T) (kTs T) 15 (kTs T rr.toNat).toNat) := kDs_1 (d := 15) (by rw [eK]; omega)
    have w1 : kDs (kTk T) (kTf T) (kTs T) 15 (kTf T rr.toNat).toNat = v_25 := by rw [eF, ← qf1]; exact qh1.symm
    refine lv_istore_n (lv' := [(2, .int (iI v_25)), (0, .ref mo), (1, .int (iI rr))]) F.1 F.2.1 dX7_farOf_19 rfl hl (by decide) rfl (fun ls hl => ?_)
    refine lv_aload_n F.1 F.2.1 dX7_farOf_20 rfl (lv_at hl 1 rfl) ?_
    refine lv_iload_n F.1 F.2.1 dX7_farOf_21 rfl (lv_at hl 2 rfl) ?_
    refine g_calli (g_runV (As := [.int (iI rr)]) (rest := []) (ci := 7) F hl.1 hH hS hz (c_X7_secondOf l g gh T I R J AI AJ AR mo rr zrr hv hm hT (by omega)) (cwV 1 F.2.2.2.2.1 (good_up gT_X7_secondOf) rfl rfl rfl hdX7_secondOf ⟨Nat.le_of_ble_eq_true rfl, Nat.le_of_ble_eq_true rfl⟩) hm (by decide) rfl rfl rfl (Nat.le_of_ble_eq_true rfl) dX7_farOf_22 ⟨Nat.zero_le _, Nat.zero_le _⟩) hS (fun v_34 I_28 R_29 J_30 AI_31 AJ_32 AR_33 H locs zv_34 hp_35 hH hS => ?_)
    dsimp only at hp_35
    obtain ⟨rfl, rfl, rfl, rfl, rfl, rfl, qs1⟩ := hp_35
    refine z_if_ge (tgt := 32) F dX7_farOf_25 (by decide) zv_34 (fun c_36 => ?_) (fun c_36 => ?_)
    · refine lv_aload_n F.1 F.2.1 dX7_farOf_32 rfl (lv_at hl 1 rfl) ?_
      refine lv_aload_n F.1 F.2.1 dX7_farOf_33 rfl (lv_at hl 1 rfl) ?_
      refine lv_iload_n F.1 F.2.1 dX7_farOf_34 rfl (lv_at hl 2 rfl) ?_
      refine g_calli (g_runV (As := [.int (iI rr)]) (rest := [.ref mo]) (ci := 7) F hl.1 hH hS hz (c_X7_secondOf l g gh T I R J AI AJ AR mo rr zrr hv hm hT (by omega)) (cwV 1 F.2.2.2.2.1 (good_up gT_X7_secondOf) rfl rfl rfl hdX7_secondOf ⟨Nat.le_of_ble_eq_true rfl, Nat.le_of_ble_eq_true rfl⟩) hm (by decide) rfl rfl rfl (Nat.le_of_ble_eq_true rfl) dX7_farOf_35 ⟨Nat.zero_le _, Nat.zero_le _⟩) hS (fun v_43 I_37 R_38 J_39 AI_40 AJ_41 AR_42 H locs zv_43 hp_44 hH hS => ?_)
      dsimp only at hp_44
      obtain ⟨rfl, rfl, rfl, rfl, rfl, rfl, qs2⟩ := hp_44
      refine g_calli (g_runV (As := [.int (iI v_43)]) (rest := []) (ci := 7) F hl.1 hH hS hz (c_X7_farOfh15 l g gh T I R J AI AJ AR mo v_43 zv_43 hv hm hT (by omega)) (cwV 1 F.2.2.2.2.1 (good_up gT_X7_farOf) rfl rfl rfl hdX7_farOf ⟨Nat.le_of_ble_eq_true rfl, Nat.le_of_ble_eq_true rfl⟩) hm (by decide) rfl rfl rfl (Nat.le_of_ble_eq_true rfl) dX7_farOf_38 ⟨Nat.zero_le _, Nat.zero_le _⟩) hS (fun v_51 I_45 R_46 J_47 AI_48 AJ_49 AR_50 H locs zv_51 hp_52 hH hS => ?_)
      dsimp only at hp_52
      obtain ⟨rfl, rfl, rfl, rfl, rfl, rfl, q_53, qh2⟩ := hp_52
      have w2 : (if kTs T rr.toNat < 0 then (0 : Int) else kDs (kTk T) (kTf T) (kTs T) 15 (kTs T rr.toNat).toNat) = v_51 := by rw [if_neg (by rw [eS]; omega), eS, ← qs2]; exact qh2.symm
      refine lv_istore_n (lv' := [(3, .int (iI v_51)), (2, .int (iI v_25)), (0, .ref mo), (1, .int (iI rr))]) F.1 F.2.1 dX7_farOf_41 rfl hl (by decide) rfl (fun ls hl => ?_)
      refine z_iconst F dX7_farOf_42 ?_
      refine lv_iload_n F.1 F.2.1 dX7_farOf_43 rfl (lv_at hl 1 rfl) ?_
      refine lv_iload_n F.1 F.2.1 dX7_farOf_44 rfl (lv_at hl 0 rfl) ?_
      refine z_icmp_le (tgt := 52) F dX7_farOf_45 (by decide) zv_25 zv_51 (fun c_54 => ?_) (fun c_54 => ?_)
      · refine lv_iload_n F.1 F.2.1 dX7_farOf_52 rfl (lv_at hl 0 rfl) ?_
        refine z_iadd F dX7_farOf_53 ?_
        exact g_iret F hr hlk hH hS hz ⟨by omega, by omega⟩ ⟨rfl, rfl, rfl, rfl, rfl, rfl, by first | omega | rfl | (dsimp only; omega), by (try dsimp only); rw [e9, w1, w2]; unfold kMx; first | rw [if_pos (by omega)] | rw [if_neg (by omega)]⟩ dX7_farOf_54
      · refine lv_iload_n F.1 F.2.1 dX7_farOf_48 rfl (lv_at hl 1 rfl) ?_
        refine z_goto (tgt := 53) F dX7_farOf_49 (by decide) ?_
        refine z_iadd F dX7_farOf_53 ?_
        exact g_iret F hr hlk hH hS hz ⟨by omega, by omega⟩ ⟨rfl, rfl, rfl, rfl, rfl, rfl, by first | omega | rfl | (dsimp only; omega), by (try dsimp only); rw [e9, w1, w2]; unfold kMx; first | rw [if_pos (by omega)] | rw [if_neg (by omega)]⟩ dX7_farOf_54
    · refine z_iconst F dX7_farOf_28 ?_
      have w2 : (if kTs T rr.toNat < 0 then (0 : Int) else kDs (kTk T) (kTf T) (kTs T) 15 (kTs T rr.toNat).toNat) = 0 := by rw [if_pos (by rw [eS]; omega)]
      refine z_goto (tgt := 41) F dX7_farOf_29 (by decide) ?_
      refine lv_istore_n (lv' := [(3, .int (iI 0)), (2, .int (iI v_25)), (0, .ref mo), (1, .int (iI rr))]) F.1 F.2.1 dX7_farOf_41 rfl hl (by decide) rfl (fun ls hl => ?_)
      refine z_iconst F dX7_farOf_42 ?_
      refine lv_iload_n F.1 F.2.1 dX7_farOf_43 rfl (lv_at hl 1 rfl) ?_
      refine lv_iload_n F.1 F.2.1 dX7_farOf_44 rfl (lv_at hl 0 rfl) ?_
      refine z_icmp_le (tgt := 52) F dX7_farOf_45 (by decide) zv_25 ⟨by decide, by decide⟩ (fun c_55 => ?_) (fun c_55 => ?_)
      · refine lv_iload_n F.1 F.2.1 dX7_farOf_52 rfl (lv_at hl 0 rfl) ?_
        refine z_iadd F dX7_farOf_53 ?_
        exact g_iret F hr hlk hH hS hz ⟨by omega, by omega⟩ ⟨rfl, rfl, rfl, rfl, rfl, rfl, by first | omega | rfl | (dsimp only; omega), by (try dsimp only); rw [e9, w1, w2]; unfold kMx; first | rw [if_pos (by omega)] | rw [if_neg (by omega)]⟩ dX7_farOf_54
      · refine lv_iload_n F.1 F.2.1 dX7_farOf_48 rfl (lv_at hl 1 rfl) ?_
        refine z_goto (tgt := 53) F dX7_farOf_49 (by decide) ?_
        refine z_iadd F dX7_farOf_53 ?_
        exact g_iret F hr hlk hH hS hz ⟨by omega, by omega⟩ ⟨rfl, rfl, rfl, rfl, rfl, rfl, by first | omega | rfl | (dsimp only; omega), by (try dsimp only); rw [e9, w1, w2]; unfold kMx; first | rw [if_pos (by omega)] | rw [if_neg (by omega)]⟩ dX7_farOf_54
  · refine z_iconst F dX7_farOf_8 ?_
    exact g_iret F hr hlk hH hS hz ⟨by decide, by decide⟩ ⟨rfl, rfl, rfl, rfl, rfl, rfl, by first | omega | rfl | (dsimp only; omega), (kDs_0 (d := 15) (by rw [eK]; omega)).symm⟩ dX7_farOf_9

def rmX7_hangOnh : Room := { frames := 17, cells := 0, slots := 0, locals := 373 }
set_option maxHeartbeats 4000000 in
set_option maxRecDepth 100000 in
/-- what hangs on it -/
theorem c_X7_hangOnh (l : Launch) (g : gG) (gh : gGh) (T : Nat → Int32) (I : gI) (R : gR) (J : gJ) (AI : gI) (AJ : gJ) (AR : gR) (mo : Nat) (rr : Int) (zrr : zr rr) (hv : mInv g gh R I AI) (hm : gO g mo 7) (hT : AI (gh 50 0) = T) : gMet l g yX7_hangOn tsX7_hangOn rmX7_hangOnh [.ref mo, .int (iI rr)] (I, R, J, AI, AJ, AR) (gQi g (fun (z : Int) (w : gS) => I = w.1 ∧ R = w.2.1 ∧ J = w.2.2.1 ∧ AI = w.2.2.2.1 ∧ AJ = w.2.2.2.2.1 ∧ AR = w.2.2.2.2.2 ∧ (iI z = kHm (fun u => kHs (kTk T) (kTf T) (kTs T) 16 u) rr (I mo 2).toInt.toNat))) := by
  refine gStart (cc := cX7_hangOn) (maxL := 4) (ret := (some (.int))) (by decide) rfl (Nat.le_of_ble_eq_true rfl) ?_
  intro p e s m below meth c ls F hr hlk hH hz hS hl
  have hl : lv_has ls 4 [(0, .ref mo), (1, .int (iI rr))] := hl
  have hS : va_S (gA g) s.heap s.heap [] := hS
  obtain ⟨H, hHe⟩ : ∃ H : Heap, H = s.heap := ⟨_, rfl⟩
  obtain ⟨locs, hlo⟩ : ∃ k : List Loc, k = [] := ⟨_, rfl⟩
  have hH : gH g I R J AI AJ AR H := by rw [hHe]; exact hH
  have hS : va_S (gA g) s.heap H locs := by rw [hHe, hlo]; exact hS
  suffices hw : W p l e rmX7_hangOnh s m ([.ref mo, .int (iI rr)] : List Value).toArray below meth c H locs 0 0 (MQ below (gQi g (fun (z : Int) (w : gS) => I = w.1 ∧ R = w.2.1 ∧ J = w.2.2.1 ∧ AI = w.2.2.2.1 ∧ AJ = w.2.2.2.2.1 ∧ AR = w.2.2.2.2.2 ∧ (iI z = kHm (fun u => kHs (kTk T) (kTf T) (kTs T) 16 u) rr (I mo 2).toInt.toNat))) ([.ref mo, .int (iI rr)] : List Value).toArray s 0 0 (gA g)) (F0 m 0 ls []) by
    rw [hHe, hlo] at hw; exact hw
  clear hHe hlo
  have hb0 := mJ hv hm
  unfold mNum1 at hb0
  have iX7 : ∀ w ∈ u_ws RX7 TX7 32, w ∈ tsX7_hangOn := fun w h => List.mem_cons_of_mem _ (inTB7 w h)
  have k64 : Cond.fieldLink RX7 64 (TX7 2).1 (TX7 2).2.1 (TX7 2).2.2.1 ∈ tsX7_hangOn := List.mem_cons_of_mem _ fl_64
  refine z_iconst F dX7_hangOn_0 ?_
  refine lv_istore_n (lv' := [(2, .int (iI 0)), (0, .ref mo), (1, .int (iI rr))]) F.1 F.2.1 dX7_hangOn_1 rfl hl (by decide) rfl (fun ls hl => ?_)
  refine z_iconst F dX7_hangOn_2 ?_
  refine lv_istore_n (lv' := [(3, .int (iI 0)), (2, .int (iI 0)), (0, .ref mo), (1, .int (iI rr))]) F.1 F.2.1 dX7_hangOn_3 rfl hl (by decide) rfl (fun ls hl => ?_)
  have cut_4_0 : ∀ (NN : Nat) (se k : Int) (H : Heap) (locs : List Loc) (ls : Array Slot), zr se → zr k → (0 ≤ k ∧ k ≤ 16) → (iI se = kHm (fun u => kHs (kTk T) (kTf T) (kTs T) 16 u) rr k.toNat) → (k ≤ (I mo 2).toInt) → (16 - k) < ((NN : Nat) : Int) → gH g I R J AI AJ AR H → va_S (gA g) s.heap H locs → lv_has ls 4 [(3, .int (iI k)), (2, .int (iI se)), (0, .ref mo), (1, .int (iI rr))] → W p l e rmX7_hangOnh s m ([.ref mo, .int (iI rr)] : List Value).toArray below meth c H locs 0 0 (MQ below (gQi g (fun (z : Int) (w : gS) => I = w.1 ∧ R = w.2.1 ∧ J = w.2.2.1 ∧ AI = w.2.2.2.1 ∧ AJ = w.2.2.2.2.1 ∧ AR = w.2.2.2.2.2 ∧ (iI z = kHm (fun u => kHs (kTk T) (kTf T) (kTs T) 16 u) rr (I mo 2).toInt.toNat))) ([.ref mo, .int (iI rr)] : List Value).toArray s 0 0 (gA g)) (F0 m 4 ls []) := by
    intro NN4
    induction NN4 with
    | zero =>
      intro se k H locs ls zse zk hk hse hk6 hm4 hH hS hl
      exact absurd hm4 (by omega)
    | succ NN4 ih4 =>
      intro se k H locs ls zse zk hk hse hk6 hm4 hH hS hl
      refine lv_iload_n F.1 F.2.1 dX7_hangOn_4 rfl (lv_at hl 0 rfl) ?_
      refine lv_aload_n F.1 F.2.1 dX7_hangOn_5 rfl (lv_at hl 2 rfl) ?_
      refine g_getI (ci := 7) (k := 2) F hH rfl (by decide) iX7 hm (by decide) rfl k64 dX7_hangOn_6 ?_
      have b_2 := mJ hv hm
      unfold mNum1 at b_2
      refine z_icmp_ge (tgt := 37) F dX7_hangOn_9 (by decide) zk (zr_t _) (fun c_3 => ?_) (fun c_3 => ?_)
      · refine lv_iload_n F.1 F.2.1 dX7_hangOn_37 rfl (lv_at hl 1 rfl) ?_
        exact g_iret F hr hlk hH hS hz zse ⟨rfl, rfl, rfl, rfl, rfl, rfl, by (try dsimp only); rw [hse, show k = (I mo 2).toInt by omega]⟩ dX7_hangOn_38
      · refine lv_aload_n F.1 F.2.1 dX7_hangOn_12 rfl (lv_at hl 2 rfl) ?_
        refine lv_iload_n F.1 F.2.1 dX7_hangOn_13 rfl (lv_at hl 0 rfl) ?_
        refine g_calli (g_runV (As := [.int (iI k)]) (rest := []) (ci := 7) F hl.1 hH hS hz (c_X7_hangsOnh16 l g gh T I R J AI AJ AR mo k zk hv hm hT (by omega)) (cwV 1 F.2.2.2.2.1 (good_up gT_X7_hangsOn) rfl rfl rfl hdX7_hangsOn ⟨Nat.le_of_ble_eq_true rfl, Nat.le_of_ble_eq_true rfl⟩) hm (by decide) rfl rfl rfl (Nat.le_of_ble_eq_true rfl) dX7_hangOn_14 ⟨Nat.zero_le _, Nat.zero_le _⟩) hS (fun v_10 I_4 R_5 J_6 AI_7 AJ_8 AR_9 H locs zv_10 hp_11 hH hS => ?_)
        dsimp only at hp_11
        obtain ⟨rfl, rfl, rfl, rfl, rfl, rfl, qh⟩ := hp_11
        refine lv_iload_n F.1 F.2.1 dX7_hangOn_17 rfl (lv_at hl 3 rfl) ?_
        refine lv_ishr F.1 F.2.1 dX7_hangOn_18 ?_
        refine z_top (fun v_12 zv_12 ev_12 => ?_)
        refine z_iconst F dX7_hangOn_19 ?_
        refine lv_iand F.1 F.2.1 dX7_hangOn_20 ?_
        refine z_top (fun v_13 zv_13 ev_13 => ?_)
        have hb9 : mBit ((fun u => kHs (kTk T) (kTf T) (kTs T) 16 u) k.toNat).toInt rr = v_13 := by
          show mBit (kHs (kTk T) (kTf T) (kTs T) 16 k.toNat).toInt rr = v_13
          rw [← qh, iI_val zv_10, ev_13, ev_12]; rfl
        refine z_iconst F dX7_hangOn_21 ?_
        refine z_icmp_ne (tgt := 31) F dX7_hangOn_22 (by decide) zv_13 ⟨by decide, by decide⟩ (fun c_14 => ?_) (fun c_14 => ?_)
        · refine z_iinc (lv' := [(3, .int (iI (k + 1))), (2, .int (iI se)), (0, .ref mo), (1, .int (iI rr))]) F dX7_hangOn_31 hl (k := 0) rfl (by decide) rfl (fun ls hl => ?_)
          refine z_goto (tgt := 4) F dX7_hangOn_34 (by decide) ?_
          exact ih4 se (k + 1) H locs ls zse ⟨by omega, by omega⟩ (by omega) (kHm_n hk.1 (by rw [hb9]; omega) hse) (by omega) (by omega) hH hS (lv_sub hl [0, 1, 2, 3] rfl)
        · refine lv_iload_n F.1 F.2.1 dX7_hangOn_25 rfl (lv_at hl 1 rfl) ?_
          refine z_iconst F dX7_hangOn_26 ?_
          refine lv_iload_n F.1 F.2.1 dX7_hangOn_27 rfl (lv_at hl 0 rfl) ?_
          refine lv_ishl F.1 F.2.1 dX7_hangOn_28 ?_
          refine z_top (fun v_15 zv_15 ev_15 => ?_)
          refine lv_ior F.1 F.2.1 dX7_hangOn_29 ?_
          refine z_top (fun v_16 zv_16 ev_16 => ?_)
          have hu4 : iI v_16 = kHm (fun u => kHs (kTk T) (kTf T) (kTs T) 16 u) rr k.toNat ||| kBt k := by rw [ev_16, iI_self, hse, ev_15, iI_self]; rfl
          refine lv_istore_n (lv' := [(2, .int (iI v_16)), (3, .int (iI k)), (0, .ref mo), (1, .int (iI rr))]) F.1 F.2.1 dX7_hangOn_30 rfl hl (by decide) rfl (fun ls hl => ?_)
          refine z_iinc (lv' := [(3, .int (iI (k + 1))), (2, .int (iI v_16)), (0, .ref mo), (1, .int (iI rr))]) F dX7_hangOn_31 hl (k := 1) rfl (by decide) rfl (fun ls hl => ?_)
          refine z_goto (tgt := 4) F dX7_hangOn_34 (by decide) ?_
          exact ih4 v_16 (k + 1) H locs ls zv_16 ⟨by omega, by omega⟩ (by omega) (kHm_y hk.1 (hb9.trans (by omega)) hu4) (by omega) (by omega) hH hS (lv_sub hl [0, 1, 2, 3] rfl)
  exact cut_4_0 (((16 - 0) + 1 : Int).toNat) 0 0 H locs ls ⟨by decide, by decide⟩ ⟨by decide, by decide⟩ (by omega) rfl (by omega) (by omega) hH hS (lv_sub hl [0, 1, 2, 3] rfl)

def rmX7_ofh : Room := { frames := 18, cells := 0, slots := 0, locals := 396 }
set_option maxHeartbeats 4000000 in
set_option maxRecDepth 100000 in
/-- of -/
theorem c_X7_ofh (l : Launch) (g : gG) (gh : gGh) (T : Nat → Int32) (I : gI) (R : gR) (J : gJ) (AI : gI) (AJ : gJ) (AR : gR) (mo : Nat) (rr : Int) (wh : Int) (zrr : zr rr) (zwh : zr wh) (hv : mInv g gh R I AI) (hm : gO g mo 7) (hT : AI (gh 50 0) = T) : gMet l g yX7_of tsX7_of rmX7_ofh [.ref mo, .int (iI rr), .int (iI wh)] (I, R, J, AI, AJ, AR) (gQi g (fun (z : Int) (w : gS) => R = w.2.1 ∧ J = w.2.2.1 ∧ AI = w.2.2.2.1 ∧ AJ = w.2.2.2.2.1 ∧ AR = w.2.2.2.2.2 ∧ (mInv g gh R (w.1) AI) ∧ (nF mo I (w.1)) ∧ ((w.1) mo 8 = I mo 8 ∧ (w.1) mo 9 = I mo 9 ∧ (w.1) mo 10 = I mo 10) ∧ (((rr < 0 ∨ (I mo 2).toInt ≤ rr) ∧ z = -1) ∨ ((0 ≤ rr ∧ rr < (I mo 2).toInt) ∧ kOf (tI T (40 * rr)) (tI T (40 * rr + 1)) (tI T (40 * rr + 2)) (tI T (40 * rr + 3)) (kHs (kTk T) (kTf T) (kTs T) 16 rr.toNat) (kHm (fun u => kHs (kTk T) (kTf T) (kTs T) 16 u) rr (I mo 2).toInt.toNat) (kDs (kTk T) (kTf T) (kTs T) 16 rr.toNat) (kLb (AJ (gh 51 0) rr.toNat)) (kLe (AJ (gh 51 0) rr.toNat)) wh z)))) := by
  refine gStart (cc := cX7_of) (maxL := 5) (ret := (some (.int))) (by decide) rfl (Nat.le_of_ble_eq_true rfl) ?_
  intro p e s m below meth c ls F hr hlk hH hz hS hl
  have hl : lv_has ls 5 [(0, .ref mo), (1, .int (iI rr)), (2, .int (iI wh))] := hl
  have hS : va_S (gA g) s.heap s.heap [] := hS
  obtain ⟨H, hHe⟩ : ∃ H : Heap, H = s.heap := ⟨_, rfl⟩
  obtain ⟨locs, hlo⟩ : ∃ k : List Loc, k = [] := ⟨_, rfl⟩
  have hH : gH g I R J AI AJ AR H := by rw [hHe]; exact hH
  have hS : va_S (gA g) s.heap H locs := by rw [hHe, hlo]; exact hS
  suffices hw : W p l e rmX7_ofh s m ([.ref mo, .int (iI rr), .int (iI wh)] : List Value).toArray below meth c H locs 0 0 (MQ below (gQi g (fun (z : Int) (w : gS) => R = w.2.1 ∧ J = w.2.2.1 ∧ AI = w.2.2.2.1 ∧ AJ = w.2.2.2.2.1 ∧ AR = w.2.2.2.2.2 ∧ (mInv g gh R (w.1) AI) ∧ (nF mo I (w.1)) ∧ ((w.1) mo 8 = I mo 8 ∧ (w.1) mo 9 = I mo 9 ∧ (w.1) mo 10 = I mo 10) ∧ (((rr < 0 ∨ (I mo 2).toInt ≤ rr) ∧ z = -1) ∨ ((0 ≤ rr ∧ rr < (I mo 2).toInt) ∧ kOf (tI T (40 * rr)) (tI T (40 * rr + 1)) (tI T (40 * rr + 2)) (tI T (40 * rr + 3)) (kHs (kTk T) (kTf T) (kTs T) 16 rr.toNat) (kHm (fun u => kHs (kTk T) (kTf T) (kTs T) 16 u) rr (I mo 2).toInt.toNat) (kDs (kTk T) (kTf T) (kTs T) 16 rr.toNat) (kLb (AJ (gh 51 0) rr.toNat)) (kLe (AJ (gh 51 0) rr.toNat)) wh z)))) ([.ref mo, .int (iI rr), .int (iI wh)] : List Value).toArray s 0 0 (gA g)) (F0 m 0 ls []) by
    rw [hHe, hlo] at hw; exact hw
  clear hHe hlo
  have nf : nF mo I I := nF_r
  have i8 : I mo 8 = I mo 8 := rfl
  have i9 : I mo 9 = I mo 9 := rfl
  have i10 : I mo 10 = I mo 10 := rfl
  have iX7 : ∀ w ∈ u_ws RX7 TX7 32, w ∈ tsX7_of := fun w h => List.mem_cons_of_mem _ (inTB7 w h)
  have k60 : Cond.fieldLink RX7 60 (TX7 17).1 (TX7 17).2.1 (TX7 17).2.2.1 ∈ tsX7_of := List.mem_cons_of_mem _ fl_60
  have k13 : Cond.fieldLink RX7 13 (TX7 1).1 (TX7 1).2.1 (TX7 1).2.2.1 ∈ tsX7_of := List.mem_cons_of_mem _ fl_13
  refine lv_aload_n F.1 F.2.1 dX7_of_0 rfl (lv_at hl 0 rfl) ?_
  refine z_iconst F dX7_of_1 ?_
  refine g_putI (ci := 7) (k := 17) F hH hS rfl (by decide) iX7 hm (by decide) tyX7 tyX7_ok nmX7 rfl rfl rfl k60 dX7_of_2 (fun H locs hH hS => ?_)
  obtain ⟨I_1, eI_1⟩ : ∃ qQ, qQ = gup2 I mo 17 (iI (0)) := ⟨_, rfl⟩
  rw [← eI_1] at hH
  have kI_1 : ∀ b, b ≠ mo → I_1 b = I b := fun b hb => by rw [eI_1]; exact funext fun j => gup2_a _ _ hb
  have w_2 : (I_1 mo 17).toInt = 0 := by rw [eI_1, gup2_s]; exact iI_val ⟨by decide, by decide⟩
  have hv : mInv g gh R I_1 AI := by rw [eI_1]; exact mP17 hv hm
  have nf : nF mo I I_1 := nF_t nf (by rw [eI_1]; exact nF_p (by decide))
  have u_3_2 : (I_1 mo 2).toInt = (I mo 2).toInt := by rw [nf 2 (by decide) (by decide) (by decide) (by decide) (by decide)]
  have u_3_5 : (I_1 mo 5).toInt = (I mo 5).toInt := by rw [nf 5 (by decide) (by decide) (by decide) (by decide) (by decide)]
  have u_3_14 : (I_1 mo 14).toInt = (I mo 14).toInt := by rw [nf 14 (by decide) (by decide) (by decide) (by decide) (by decide)]
  have u_3_16 : (I_1 mo 16).toInt = (I mo 16).toInt := by rw [nf 16 (by decide) (by decide) (by decide) (by decide) (by decide)]
  have u_3_24 : (I_1 mo 24).toInt = (I mo 24).toInt := by rw [nf 24 (by decide) (by decide) (by decide) (by decide) (by decide)]
  have i8 : I_1 mo 8 = I mo 8 := (show I_1 mo 8 = I mo 8 by rw [eI_1, gup2_k _ _ (by decide)]).trans i8
  have i9 : I_1 mo 9 = I mo 9 := (show I_1 mo 9 = I mo 9 by rw [eI_1, gup2_k _ _ (by decide)]).trans i9
  have i10 : I_1 mo 10 = I mo 10 := (show I_1 mo 10 = I mo 10 by rw [eI_1, gup2_k _ _ (by decide)]).trans i10
  refine lv_aload_n F.1 F.2.1 dX7_of_5 rfl (lv_at hl 0 rfl) ?_
  refine lv_iload_n F.1 F.2.1 dX7_of_6 rfl (lv_at hl 1 rfl) ?_
  have b_4 := mJ hv hm
  unfold mNum1 at b_4
  refine g_calli (g_runV (As := [.int (iI rr)]) (rest := []) (ci := 7) F hl.1 hH hS hz (c_X7_isRelationf l g gh T I_1 R J AI AJ AR mo rr zrr hv hm hT) (cwV 1 F.2.2.2.2.1 (good_up gT_X7_isRelation) rfl rfl rfl hdX7_isRelation ⟨Nat.le_of_ble_eq_true rfl, Nat.le_of_ble_eq_true rfl⟩) hm (by decide) rfl rfl rfl (Nat.le_of_ble_eq_true rfl) dX7_of_7 ⟨Nat.zero_le _, Nat.zero_le _⟩) hS (fun v_11 I_5 R_6 J_7 AI_8 AJ_9 AR_10 H locs zv_11 hp_12 hH hS => ?_)
  dsimp only at hp_12
  obtain ⟨rfl, rfl, rfl, rfl, rfl, rfl, q_13, qis⟩ := hp_12
  refine z_if_ne (tgt := 15) F dX7_of_10 (by decide) zv_11 (fun c_14 => ?_) (fun c_14 => ?_)
  · refine lv_iload_n F.1 F.2.1 dX7_of_15 rfl (lv_at hl 2 rfl) ?_
    have ec_15 : (iI wh).toInt = wh := iI_val zwh
    by_cases c_15 : wh < 0 ∨ 8 < wh
    · refine lv_tableOut (tgt := 159) F.1 F.2.1 dX7_of_16 (by rw [ec_15]; exact c_15) (by decide) ?_
      refine z_iconst F dX7_of_159 ?_
      exact g_iret F hr hlk hH hS hz ⟨by decide, by decide⟩ ⟨rfl, rfl, rfl, rfl, rfl, hv, nf, ⟨by (try dsimp only); exact i8, by (try dsimp only); exact i9, by (try dsimp only); exact i10⟩, Or.inr ⟨⟨by omega, by omega⟩, Or.inr (Or.inr (Or.inr (Or.inr (Or.inr (Or.inr (Or.inr (Or.inr (Or.inr (⟨by omega, rfl⟩)))))))))⟩⟩ dX7_of_160
    by_cases c_15_0 : wh = 0
    · refine lv_tableIn (tgt := 68) (off := 52) F.1 F.2.1 dX7_of_16 (by rw [ec_15]; omega) (by rw [ec_15]; omega) (by rw [ec_15, c_15_0]; rfl) (by decide) ?_
      refine lv_aload_n F.1 F.2.1 dX7_of_68 rfl (lv_at hl 0 rfl) ?_
      refine lv_iload_n F.1 F.2.1 dX7_of_69 rfl (lv_at hl 1 rfl) ?_
      refine g_calli (g_runV (As := [.int (iI rr)]) (rest := []) (ci := 7) F hl.1 hH hS hz (c_X7_kindOf l g gh T I_1 R J AI AJ AR mo rr zrr hv hm hT (by omega)) (cwV 1 F.2.2.2.2.1 (good_up gT_X7_kindOf) rfl rfl rfl hdX7_kindOf ⟨Nat.le_of_ble_eq_true rfl, Nat.le_of_ble_eq_true rfl⟩) hm (by decide) rfl rfl rfl (Nat.le_of_ble_eq_true rfl) dX7_of_70 ⟨Nat.zero_le _, Nat.zero_le _⟩) hS (fun v_22 I_16 R_17 J_18 AI_19 AJ_20 AR_21 H locs zv_22 hp_23 hH hS => ?_)
      dsimp only at hp_23
      obtain ⟨rfl, rfl, rfl, rfl, rfl, rfl, qv⟩ := hp_23
      exact g_iret F hr hlk hH hS hz zv_22 ⟨rfl, rfl, rfl, rfl, rfl, hv, nf, ⟨by (try dsimp only); exact i8, by (try dsimp only); exact i9, by (try dsimp only); exact i10⟩, Or.inr ⟨⟨by omega, by omega⟩, Or.inl ⟨by omega, qv⟩⟩⟩ dX7_of_73
    by_cases c_15_1 : wh = 1
    · refine lv_tableIn (tgt := 74) (off := 58) F.1 F.2.1 dX7_of_16 (by rw [ec_15]; omega) (by rw [ec_15]; omega) (by rw [ec_15, c_15_1]; rfl) (by decide) ?_
      refine lv_aload_n F.1 F.2.1 dX7_of_74 rfl (lv_at hl 0 rfl) ?_
      refine lv_iload_n F.1 F.2.1 dX7_of_75 rfl (lv_at hl 1 rfl) ?_
      refine g_calli (g_runV (As := [.int (iI rr)]) (rest := []) (ci := 7) F hl.1 hH hS hz (c_X7_columnsOf l g gh T I_1 R J AI AJ AR mo rr zrr hv hm hT (by omega)) (cwV 1 F.2.2.2.2.1 (good_up gT_X7_columnsOf) rfl rfl rfl hdX7_columnsOf ⟨Nat.le_of_ble_eq_true rfl, Nat.le_of_ble_eq_true rfl⟩) hm (by decide) rfl rfl rfl (Nat.le_of_ble_eq_true rfl) dX7_of_76 ⟨Nat.zero_le _, Nat.zero_le _⟩) hS (fun v_30 I_24 R_25 J_26 AI_27 AJ_28 AR_29 H locs zv_30 hp_31 hH hS => ?_)
      dsimp only at hp_31
      obtain ⟨rfl, rfl, rfl, rfl, rfl, rfl, qv⟩ := hp_31
      exact g_iret F hr hlk hH hS hz zv_30 ⟨rfl, rfl, rfl, rfl, rfl, hv, nf, ⟨by (try dsimp only); exact i8, by (try dsimp only); exact i9, by (try dsimp only); exact i10⟩, Or.inr ⟨⟨by omega, by omega⟩, Or.inr (Or.inl ⟨by omega, qv⟩)⟩⟩ dX7_of_79
    by_cases c_15_2 : wh = 2
    · refine lv_tableIn (tgt := 80) (off := 64) F.1 F.2.1 dX7_of_16 (by rw [ec_15]; omega) (by rw [ec_15]; omega) (by rw [ec_15, c_15_2]; rfl) (by decide) ?_
      refine lv_aload_n F.1 F.2.1 dX7_of_80 rfl (lv_at hl 0 rfl) ?_
      refine lv_iload_n F.1 F.2.1 dX7_of_81 rfl (lv_at hl 1 rfl) ?_
      refine g_calli (g_runV (As := [.int (iI rr)]) (rest := []) (ci := 7) F hl.1 hH hS hz (c_X7_firstOf l g gh T I_1 R J AI AJ AR mo rr zrr hv hm hT (by omega)) (cwV 1 F.2.2.2.2.1 (good_up gT_X7_firstOf) rfl rfl rfl hdX7_firstOf ⟨Nat.le_of_ble_eq_true rfl, Nat.le_of_ble_eq_true rfl⟩) hm (by decide) rfl rfl rfl (Nat.le_of_ble_eq_true rfl) dX7_of_82 ⟨Nat.zero_le _, Nat.zero_le _⟩) hS (fun v_38 I_32 R_33 J_34 AI_35 AJ_36 AR_37 H locs zv_38 hp_39 hH hS => ?_)
      dsimp only at hp_39
      obtain ⟨rfl, rfl, rfl, rfl, rfl, rfl, qv⟩ := hp_39
      exact g_iret F hr hlk hH hS hz zv_38 ⟨rfl, rfl, rfl, rfl, rfl, hv, nf, ⟨by (try dsimp only); exact i8, by (try dsimp only); exact i9, by (try dsimp only); exact i10⟩, Or.inr ⟨⟨by omega, by omega⟩, Or.inr (Or.inr (Or.inl ⟨by omega, qv⟩))⟩⟩ dX7_of_85
    by_cases c_15_3 : wh = 3
    · refine lv_tableIn (tgt := 86) (off := 70) F.1 F.2.1 dX7_of_16 (by rw [ec_15]; omega) (by rw [ec_15]; omega) (by rw [ec_15, c_15_3]; rfl) (by decide) ?_
      refine lv_aload_n F.1 F.2.1 dX7_of_86 rfl (lv_at hl 0 rfl) ?_
      refine lv_iload_n F.1 F.2.1 dX7_of_87 rfl (lv_at hl 1 rfl) ?_
      refine g_calli (g_runV (As := [.int (iI rr)]) (rest := []) (ci := 7) F hl.1 hH hS hz (c_X7_secondOf l g gh T I_1 R J AI AJ AR mo rr zrr hv hm hT (by omega)) (cwV 1 F.2.2.2.2.1 (good_up gT_X7_secondOf) rfl rfl rfl hdX7_secondOf ⟨Nat.le_of_ble_eq_true rfl, Nat.le_of_ble_eq_true rfl⟩) hm (by decide) rfl rfl rfl (Nat.le_of_ble_eq_true rfl) dX7_of_88 ⟨Nat.zero_le _, Nat.zero_le _⟩) hS (fun v_46 I_40 R_41 J_42 AI_43 AJ_44 AR_45 H locs zv_46 hp_47 hH hS => ?_)
      dsimp only at hp_47
      obtain ⟨rfl, rfl, rfl, rfl, rfl, rfl, qv⟩ := hp_47
      exact g_iret F hr hlk hH hS hz zv_46 ⟨rfl, rfl, rfl, rfl, rfl, hv, nf, ⟨by (try dsimp only); exact i8, by (try dsimp only); exact i9, by (try dsimp only); exact i10⟩, Or.inr ⟨⟨by omega, by omega⟩, Or.inr (Or.inr (Or.inr (Or.inl ⟨by omega, qv⟩)))⟩⟩ dX7_of_91
    by_cases c_15_4 : wh = 4
    · refine lv_tableIn (tgt := 92) (off := 76) F.1 F.2.1 dX7_of_16 (by rw [ec_15]; omega) (by rw [ec_15]; omega) (by rw [ec_15, c_15_4]; rfl) (by decide) ?_
      refine lv_aload_n F.1 F.2.1 dX7_of_92 rfl (lv_at hl 0 rfl) ?_
      refine lv_iload_n F.1 F.2.1 dX7_of_93 rfl (lv_at hl 1 rfl) ?_
      refine g_calli (g_runV (As := [.int (iI rr)]) (rest := []) (ci := 7) F hl.1 hH hS hz (c_X7_hangsOnh16 l g gh T I_1 R J AI AJ AR mo rr zrr hv hm hT (by omega)) (cwV 1 F.2.2.2.2.1 (good_up gT_X7_hangsOn) rfl rfl rfl hdX7_hangsOn ⟨Nat.le_of_ble_eq_true rfl, Nat.le_of_ble_eq_true rfl⟩) hm (by decide) rfl rfl rfl (Nat.le_of_ble_eq_true rfl) dX7_of_94 ⟨Nat.zero_le _, Nat.zero_le _⟩) hS (fun v_54 I_48 R_49 J_50 AI_51 AJ_52 AR_53 H locs zv_54 hp_55 hH hS => ?_)
      dsimp only at hp_55
      obtain ⟨rfl, rfl, rfl, rfl, rfl, rfl, qhs⟩ := hp_55
      exact g_iret F hr hlk hH hS hz zv_54 ⟨rfl, rfl, rfl, rfl, rfl, hv, nf, ⟨by (try dsimp only); exact i8, by (try dsimp only); exact i9, by (try dsimp only); exact i10⟩, Or.inr ⟨⟨by omega, by omega⟩, Or.inr (Or.inr (Or.inr (Or.inr (Or.inl ⟨by omega, qhs⟩))))⟩⟩ dX7_of_97
    by_cases c_15_5 : wh = 5
    · refine lv_tableIn (tgt := 98) (off := 82) F.1 F.2.1 dX7_of_16 (by rw [ec_15]; omega) (by rw [ec_15]; omega) (by rw [ec_15, c_15_5]; rfl) (by decide) ?_
      refine lv_aload_n F.1 F.2.1 dX7_of_98 rfl (lv_at hl 0 rfl) ?_
      refine lv_iload_n F.1 F.2.1 dX7_of_99 rfl (lv_at hl 1 rfl) ?_
      refine g_calli (g_runV (As := [.int (iI rr)]) (rest := []) (ci := 7) F hl.1 hH hS hz (c_X7_hangOnh l g gh T I_1 R J AI AJ AR mo rr zrr hv hm hT) (cwV 1 F.2.2.2.2.1 (good_up gT_X7_hangOn) rfl rfl rfl hdX7_hangOn ⟨Nat.le_of_ble_eq_true rfl, Nat.le_of_ble_eq_true rfl⟩) hm (by decide) rfl rfl rfl (Nat.le_of_ble_eq_true rfl) dX7_of_100 ⟨Nat.zero_le _, Nat.zero_le _⟩) hS (fun v_62 I_56 R_57 J_58 AI_59 AJ_60 AR_61 H locs zv_62 hp_63 hH hS => ?_)
      dsimp only at hp_63
      obtain ⟨rfl, rfl, rfl, rfl, rfl, rfl, qho⟩ := hp_63
      exact g_iret F hr hlk hH hS hz zv_62 ⟨rfl, rfl, rfl, rfl, rfl, hv, nf, ⟨by (try dsimp only); exact i8, by (try dsimp only); exact i9, by (try dsimp only); exact i10⟩, Or.inr ⟨⟨by omega, by omega⟩, Or.inr (Or.inr (Or.inr (Or.inr (Or.inr (Or.inl ⟨by omega, by (try dsimp only); rw [qho, show I_1 mo 2 = I mo 2 by rw [eI_1, gup2_k _ _ (by decide)]]⟩)))))⟩⟩ dX7_of_103
    by_cases c_15_6 : wh = 6
    · refine lv_tableIn (tgt := 104) (off := 88) F.1 F.2.1 dX7_of_16 (by rw [ec_15]; omega) (by rw [ec_15]; omega) (by rw [ec_15, c_15_6]; rfl) (by decide) ?_
      refine lv_aload_n F.1 F.2.1 dX7_of_104 rfl (lv_at hl 0 rfl) ?_
      refine lv_iload_n F.1 F.2.1 dX7_of_105 rfl (lv_at hl 1 rfl) ?_
      refine g_calli (g_runV (As := [.int (iI rr)]) (rest := []) (ci := 7) F hl.1 hH hS hz (c_X7_farOfh16 l g gh T I_1 R J AI AJ AR mo rr zrr hv hm hT (by omega)) (cwV 1 F.2.2.2.2.1 (good_up gT_X7_farOf) rfl rfl rfl hdX7_farOf ⟨Nat.le_of_ble_eq_true rfl, Nat.le_of_ble_eq_true rfl⟩) hm (by decide) rfl rfl rfl (Nat.le_of_ble_eq_true rfl) dX7_of_106 ⟨Nat.zero_le _, Nat.zero_le _⟩) hS (fun v_70 I_64 R_65 J_66 AI_67 AJ_68 AR_69 H locs zv_70 hp_71 hH hS => ?_)
      dsimp only at hp_71
      obtain ⟨rfl, rfl, rfl, rfl, rfl, rfl, q_72, qds⟩ := hp_71
      exact g_iret F hr hlk hH hS hz zv_70 ⟨rfl, rfl, rfl, rfl, rfl, hv, nf, ⟨by (try dsimp only); exact i8, by (try dsimp only); exact i9, by (try dsimp only); exact i10⟩, Or.inr ⟨⟨by omega, by omega⟩, Or.inr (Or.inr (Or.inr (Or.inr (Or.inr (Or.inr (Or.inl ⟨by omega, qds⟩))))))⟩⟩ dX7_of_109
    by_cases c_15_7 : wh = 7
    · refine lv_tableIn (tgt := 110) (off := 94) F.1 F.2.1 dX7_of_16 (by rw [ec_15]; omega) (by rw [ec_15]; omega) (by rw [ec_15, c_15_7]; rfl) (by decide) ?_
      refine lv_aload_n F.1 F.2.1 dX7_of_110 rfl (lv_at hl 0 rfl) ?_
      refine g_getR (ci := 7) (k := 1) F hH rfl (by decide) iX7 hm (by decide) rfl (b := gh 51 0) (hv.1 mo hm).2.2.1.1 k13 dX7_of_111 ?_
      refine lv_iload_n F.1 F.2.1 dX7_of_114 rfl (lv_at hl 1 rfl) ?_
      have hx115 : 0 ≤ rr ∧ rr < ((16 : Nat) : Int) ∧ rr ≤ 2147483647 := ⟨by omega, by omega, by omega⟩
      refine g_lald F hH (hv.1 mo hm).2.2.1.2 hx115.1 hx115.2.1 hx115.2.2 dX7_of_115 ?_
      refine lv_topl (fun j_73 ej_73 => ?_)
      refine lv_lstore_n (lv' := [(3, .long j_73), (0, .ref mo), (1, .int (iI rr)), (2, .int (iI wh))]) F.1 F.2.1 dX7_of_116 rfl hl (by decide) rfl (fun ls hl => ?_)
      have cut_117_73 : ∀ (NN : Nat) (lw : Int64) (H : Heap) (locs : List Loc) (ls : Array Slot), (∃ jj : Nat, lw = kFb (AJ (gh 51 0) rr.toNat) jj ∧ ∀ i, i < jj → 256 ≤ (kFb (AJ (gh 51 0) rr.toNat) i).toInt) → ((lw.toInt).toNat : Int) < ((NN : Nat) : Int) → gH g I_1 R J AI AJ AR H → va_S (gA g) s.heap H locs → lv_has ls 5 [(3, .long lw), (0, .ref mo), (1, .int (iI rr)), (2, .int (iI wh))] → W p l e rmX7_ofh s m ([.ref mo, .int (iI rr), .int (iI wh)] : List Value).toArray below meth c H locs 0 0 (MQ below (gQi g (fun (z : Int) (w : gS) => R = w.2.1 ∧ J = w.2.2.1 ∧ AI = w.2.2.2.1 ∧ AJ = w.2.2.2.2.1 ∧ AR = w.2.2.2.2.2 ∧ (mInv g gh R (w.1) AI) ∧ (nF mo I (w.1)) ∧ ((w.1) mo 8 = I mo 8 ∧ (w.1) mo 9 = I mo 9 ∧ (w.1) mo 10 = I mo 10) ∧ (((rr < 0 ∨ (I mo 2).toInt ≤ rr) ∧ z = -1) ∨ ((0 ≤ rr ∧ rr < (I mo 2).toInt) ∧ kOf (tI T (40 * rr)) (tI T (40 * rr + 1)) (tI T (40 * rr + 2)) (tI T (40 * rr + 3)) (kHs (kTk T) (kTf T) (kTs T) 16 rr.toNat) (kHm (fun u => kHs (kTk T) (kTf T) (kTs T) 16 u) rr (I mo 2).toInt.toNat) (kDs (kTk T) (kTf T) (kTs T) 16 rr.toNat) (kLb (AJ (gh 51 0) rr.toNat)) (kLe (AJ (gh 51 0) rr.toNat)) wh z)))) ([.ref mo, .int (iI rr), .int (iI wh)] : List Value).toArray s 0 0 (gA g)) (F0 m 117 ls []) := by
        intro NN117
        induction NN117 with
        | zero =>
          intro lw H locs ls hlw hm117 hH hS hl
          exact absurd hm117 (by omega)
        | succ NN117 ih117 =>
          intro lw H locs ls hlw hm117 hH hS hl
          obtain ⟨jj, hl9, hle⟩ := hlw
          refine lv_lload_n F.1 F.2.1 dX7_of_117 rfl (lv_at hl 0 rfl) ?_
          refine lv_ldc2 (v := 256) F.1 F.2.1 F.2.2.2.1 (F.2.2.2.2.1 _ (List.mem_cons_of_mem _ cl_115)) dX7_of_118 ?_
          refine W.lcmp F.1 F.2.1 dX7_of_121 ?_
          refine z_top (fun v_75 zv_75 ev_75 => ?_)
          have lv_75 : v_75 = 0 ↔ lw = (256) := by rw [ev_75]; exact z_lcmp
          have hc9 : v_75 < 0 ↔ lw.toInt < (256 : Int64).toInt := by rw [ev_75]; exact z_lcmp_lt
          have hc8 : (256 : Int64).toInt = 256 := by decide
          refine z_if_lt (tgt := 134) F dX7_of_122 (by decide) zv_75 (fun c_76 => ?_) (fun c_76 => ?_)
          · refine lv_lload_n F.1 F.2.1 dX7_of_134 rfl (lv_at hl 0 rfl) ?_
            refine lv_l2i F.1 F.2.1 dX7_of_135 rfl ?_
            refine z_top (fun v_77 zv_77 ev_77 => ?_)
            refine z_bipush F dX7_of_136 (by decide) ?_
            refine z_isub F dX7_of_138 ?_
            refine z_norm (fun v_78 zv_78 ev_78 => ?_)
            refine z_iconst F dX7_of_139 ?_
            refine z_iadd F dX7_of_140 ?_
            refine z_norm (fun v_79 zv_79 ev_79 => ?_)
            exact g_iret F hr hlk hH hS hz zv_79 ⟨rfl, rfl, rfl, rfl, rfl, hv, nf, ⟨by (try dsimp only); exact i8, by (try dsimp only); exact i9, by (try dsimp only); exact i10⟩, Or.inr ⟨⟨by omega, by omega⟩, Or.inr (Or.inr (Or.inr (Or.inr (Or.inr (Or.inr (Or.inr (Or.inl ⟨by omega, ⟨jj, hle, by rw [← hl9]; omega, by (try dsimp only); rw [ev_79, ← iI_add, ev_78, iI_add, ev_77, hl9]⟩⟩)))))))⟩⟩ dX7_of_141
          · refine lv_lload_n F.1 F.2.1 dX7_of_125 rfl (lv_at hl 0 rfl) ?_
            refine lv_ldc2 (v := 256) F.1 F.2.1 F.2.2.2.1 (F.2.2.2.2.1 _ (List.mem_cons_of_mem _ cl_115)) dX7_of_126 ?_
            refine lv_ldiv F.1 F.2.1 dX7_of_129 (by decide) ?_
            refine lv_topl (fun j_80 ej_80 => ?_)
            have hd9 : (j_80).toInt < lw.toInt := by rw [ej_80]; exact z_ldiv256 (by omega)
            refine lv_lstore_n (lv' := [(3, .long j_80), (0, .ref mo), (1, .int (iI rr)), (2, .int (iI wh))]) F.1 F.2.1 dX7_of_130 rfl hl (by decide) rfl (fun ls hl => ?_)
            refine z_goto (tgt := 117) F dX7_of_131 (by decide) ?_
            exact ih117 j_80 H locs ls (⟨jj + 1, by rw [ej_80, hl9]; rfl, fun i hi => by by_cases q9 : i = jj; (· rw [q9, ← hl9]; omega); (· exact hle i (by omega))⟩) (by omega) hH hS (lv_sub hl [0, 1, 2, 3] rfl)
      exact cut_117_73 ((((j_73.toInt).toNat : Int) + 1 : Int).toNat) j_73 H locs ls (⟨0, ej_73, fun i hi => absurd hi (Nat.not_lt_zero i)⟩) (by omega) hH hS (lv_sub hl [0, 1, 2, 3] rfl)
    have c_15_8 : wh = 8 := by omega
    refine lv_tableIn (tgt := 142) (off := 126) F.1 F.2.1 dX7_of_16 (by rw [ec_15]; omega) (by rw [ec_15]; omega) (by rw [ec_15, c_15_8]; rfl) (by decide) ?_
    refine lv_aload_n F.1 F.2.1 dX7_of_142 rfl (lv_at hl 0 rfl) ?_
    refine g_getR (ci := 7) (k := 1) F hH rfl (by decide) iX7 hm (by decide) rfl (b := gh 51 0) (hv.1 mo hm).2.2.1.1 k13 dX7_of_143 ?_
    refine lv_iload_n F.1 F.2.1 dX7_of_146 rfl (lv_at hl 1 rfl) ?_
    have hx147 : 0 ≤ rr ∧ rr < ((16 : Nat) : Int) ∧ rr ≤ 2147483647 := ⟨by omega, by omega, by omega⟩
    refine g_lald F hH (hv.1 mo hm).2.2.1.2 hx147.1 hx147.2.1 hx147.2.2 dX7_of_147 ?_
    refine lv_topl (fun j_81 ej_81 => ?_)
    refine lv_ldc2 (v := 256) F.1 F.2.1 F.2.2.2.1 (F.2.2.2.2.1 _ (List.mem_cons_of_mem _ cl_115)) dX7_of_148 ?_
    refine lv_lrem F.1 F.2.1 dX7_of_151 (by decide) ?_
    refine lv_topl (fun j_82 ej_82 => ?_)
    refine lv_l2i F.1 F.2.1 dX7_of_152 rfl ?_
    refine z_top (fun v_83 zv_83 ev_83 => ?_)
    refine z_bipush F dX7_of_153 (by decide) ?_
    refine z_isub F dX7_of_155 ?_
    refine z_norm (fun v_84 zv_84 ev_84 => ?_)
    refine z_iconst F dX7_of_156 ?_
    refine z_iadd F dX7_of_157 ?_
    refine z_norm (fun v_85 zv_85 ev_85 => ?_)
    exact g_iret F hr hlk hH hS hz zv_85 ⟨rfl, rfl, rfl, rfl, rfl, hv, nf, ⟨by (try dsimp only); exact i8, by (try dsimp only); exact i9, by (try dsimp only); exact i10⟩, Or.inr ⟨⟨by omega, by omega⟩, Or.inr (Or.inr (Or.inr (Or.inr (Or.inr (Or.inr (Or.inr (Or.inr (Or.inl ⟨by omega, by (try dsimp only); rw [ev_85, ← iI_add, ev_84, iI_add, ev_83, ej_82, ej_81]; rfl⟩))))))))⟩⟩ dX7_of_158
  · refine z_iconst F dX7_of_13 ?_
    exact g_iret F hr hlk hH hS hz ⟨by decide, by decide⟩ ⟨rfl, rfl, rfl, rfl, rfl, hv, nf, ⟨by (try dsimp only); exact i8, by (try dsimp only); exact i9, by (try dsimp only); exact i10⟩, Or.inl ⟨by have q9 := qis (by omega); omega, rfl⟩⟩ dX7_of_14
