/-! String's methods with what they answer -/
theorem sTab_by {i : Nat} {q : String × Nat × String × List Int32} (h : sTab[i]? = some q) : ∀ k : Nat, 0 ≤ (q.2.2.2.getD k 0).toInt ∧ (q.2.2.2.getD k 0).toInt ≤ 127 := by
  have all : ∀ q ∈ sTab, ∀ x ∈ q.2.2.2, 0 ≤ (x : Int32).toInt ∧ (x : Int32).toInt ≤ 127 := by decide +kernel
  intro k
  by_cases hk : k < q.2.2.2.length
  · rw [List.getD_eq_getElem?_getD, List.getElem?_eq_getElem hk]
    exact all q (List.mem_of_getElem? h) _ (List.getElem_mem hk)
  · rw [List.getD_eq_getElem?_getD, List.getElem?_eq_none (by omega)]
    decide
theorem iI_and {z : Int} (h0 : 0 ≤ z) (h1 : z ≤ 127) : (iI z &&& iI 255).toInt = z := by
  have h : ∀ k : Nat, k < 128 → (iI (k : Int) &&& iI 255).toInt = (k : Int) := by decide +kernel
  have := h z.toNat (by omega)
  rwa [show ((z.toNat : Nat) : Int) = z by omega] at this
theorem z_i2b {z v : Int} (e : v = ((iI z).toInt8.toInt32).toInt) (h0 : 0 ≤ z) (h1 : z ≤ 127) : v = z := by
  have h : ∀ k : Nat, k < 128 → ((iI (k : Int)).toInt8.toInt32).toInt = (k : Int) := by decide +kernel
  have := h z.toNat (by omega)
  rw [show ((z.toNat : Nat) : Int) = z by omega] at this
  rw [e, this]
theorem z_i2cB {a b c : Int} (e1 : b = (iI a &&& iI 255).toInt) (e2 : c = (((iI b).toUInt32 % 65536).toInt32).toInt) (h0 : 0 ≤ a) (h1 : a ≤ 127) : c = a := by
  have h : ∀ k : Nat, k < 128 → ((((iI (k : Int)).toUInt32 % 65536).toInt32).toInt) = (k : Int) := by decide +kernel
  rw [iI_and h0 h1] at e1
  have := h a.toNat (by omega)
  rw [show ((a.toNat : Nat) : Int) = a by omega] at this
  rw [e2, e1, this]
theorem ix_mx {f : Nat → Int} {z ch m m' : Int} (h : (z = -1 ∧ ∀ j : Nat, (j : Int) < m → f j ≠ ch) ∨ (0 ≤ z ∧ z < m ∧ f z.toNat = ch)) (e : m = m') : (z = -1 ∧ ∀ j : Nat, (j : Int) < m' → f j ≠ ch) ∨ (0 ≤ z ∧ z < m' ∧ f z.toNat = ch) := by rw [← e]; exact h
theorem ix_step {P : Nat → Prop} {j : Int} (h : ∀ k : Nat, (k : Int) < j → P k) (h0 : 0 ≤ j) (hj : P j.toNat) : ∀ k : Nat, (k : Int) < j + 1 → P k := fun k hk => by
  by_cases q : (k : Int) = j
  · rw [show k = j.toNat by omega]; exact hj
  · exact h k (by omega)
def rmJ1_charAt_3b067f : Room := { frames := 2, cells := 0, slots := 0, locals := 43 }
set_option maxHeartbeats 4000000 in
set_option maxRecDepth 100000 in
theorem c_J1_charAt_3b067f (l : Launch) (g : gG) (i : Nat) (q : String × Nat × String × List Int32) (I : gI) (R : gR) (J : gJ) (AI : gI) (AJ : gJ) (AR : gR) (k : Int) (zk : zr k) (hq : sTab[i]? = some q) (h0 : 0 ≤ k) (h1 : k < ((q.2.2.2.length : Nat) : Int)) : gMet l g yJ1_charAt_3b067 wsJ1_charAt_3b067 rmJ1_charAt_3b067f [.ref (gSV g i), .int (iI k)] (I, R, J, AI, AJ, AR) (gQi g (fun (z : Int) (w : gS) => I = w.1 ∧ R = w.2.1 ∧ J = w.2.2.1 ∧ AI = w.2.2.2.1 ∧ AJ = w.2.2.2.2.1 ∧ AR = w.2.2.2.2.2 ∧ (z = (q.2.2.2.getD k.toNat 0).toInt))) := by
  refine gStart (cc := cJ1_charAt_3b067) (maxL := 2) (ret := (some (.char))) (by decide) rfl (Nat.le_of_ble_eq_true rfl) ?_
  intro p e s m below meth c ls F hr hlk hH hz hS hl
  have hl : lv_has ls 2 [(0, .ref (gSV g i)), (1, .int (iI k))] := hl
  have hS : va_S (gA g) s.heap s.heap [] := hS
  obtain ⟨H, hHe⟩ : ∃ H : Heap, H = s.heap := ⟨_, rfl⟩
  obtain ⟨locs, hlo⟩ : ∃ k : List Loc, k = [] := ⟨_, rfl⟩
  have hH : gH g I R J AI AJ AR H := by rw [hHe]; exact hH
  have hS : va_S (gA g) s.heap H locs := by rw [hHe, hlo]; exact hS
  suffices hw : W p l e rmJ1_charAt_3b067f s m ([.ref (gSV g i), .int (iI k)] : List Value).toArray below meth c H locs 0 0 (MQ below (gQi g (fun (z : Int) (w : gS) => I = w.1 ∧ R = w.2.1 ∧ J = w.2.2.1 ∧ AI = w.2.2.2.1 ∧ AJ = w.2.2.2.2.1 ∧ AR = w.2.2.2.2.2 ∧ (z = (q.2.2.2.getD k.toNat 0).toInt))) ([.ref (gSV g i), .int (iI k)] : List Value).toArray s 0 0 (gA g)) (F0 m 0 ls []) by
    rw [hHe, hlo] at hw; exact hw
  clear hHe hlo
  have hlen := sTab_len hq
  have hby := sTab_by hq
  refine lv_iload_n F.1 F.2.1 dJ1_charAt_3b067_0 rfl (lv_at hl 1 rfl) ?_
  refine lv_aload_n F.1 F.2.1 dJ1_charAt_3b067_1 rfl (lv_at hl 0 rfl) ?_
  refine va_tlen F.1 F.2.1 (F.2.2.2.2.2.2.1 i _ hq).2.2.2.2 hS (v := iI ((q.2.2.2.length : Nat) : Int)) (Int32.ofInt_eq_ofNat).symm dJ1_charAt_3b067_2 ?_
  refine g_callv (g_runS (As := [.int (iI k), .int (iI (((q.2.2.2.length : Nat) : Int)))]) (rest := []) F hl.1 hH hS hz (c_J0_checkIndex_df160 l g  I R J AI AJ AR k ((q.2.2.2.length : Nat) : Int) zk ⟨by omega, by omega⟩ (by omega) (by omega)) (va_cwS 2 F.2.2.2.2.1 gJ1_charAt_3b067_J0_checkIndex_df160 rfl rfl rfl hdJ0_checkIndex_df160.2 ⟨Nat.le_of_ble_eq_true rfl, Nat.le_of_ble_eq_true rfl⟩) rfl rfl (Nat.le_of_ble_eq_true rfl) dJ1_charAt_3b067_3 ⟨Nat.zero_le _, Nat.zero_le _⟩) hS (fun I_1 R_2 J_3 AI_4 AJ_5 AR_6 H locs hp_7 hH hS => ?_)
  dsimp only at hp_7
  obtain ⟨rfl, rfl, rfl, rfl, rfl, rfl⟩ := hp_7
  refine lv_aload_n F.1 F.2.1 dJ1_charAt_3b067_6 rfl (lv_at hl 0 rfl) ?_
  refine lv_iload_n F.1 F.2.1 dJ1_charAt_3b067_7 rfl (lv_at hl 1 rfl) ?_
  have hx8 : 0 ≤ k ∧ k < ((q.2.2.2.length : Nat) : Int) ∧ k ≤ 2147483647 := ⟨by omega, by omega, by omega⟩
  refine va_tb F.1 F.2.1 (F.2.2.2.2.2.2.1 i _ hq).2.2.2.2 hS (iI_in hx8.1 hx8.2.1 hx8.2.2) rfl dJ1_charAt_3b067_8 ?_
  refine z_top (fun v_8 zv_8 ev_8 => ?_)
  have e8 := ev_8
  rw [iI_nat h0 (by omega)] at e8
  have b8 := hby k.toNat
  refine z_sipush F dJ1_charAt_3b067_9 (by decide) ?_
  refine lv_iand F.1 F.2.1 dJ1_charAt_3b067_12 ?_
  refine z_top (fun v_9 zv_9 ev_9 => ?_)
  refine lv_i2c F.1 F.2.1 dJ1_charAt_3b067_13 rfl ?_
  refine z_top (fun v_10 zv_10 ev_10 => ?_)
  have hch := z_i2cB (ev_9) (ev_10) (by omega) (by omega)
  exact g_nret F hr hlk hH hS hz (nar_char (by omega) (by omega)) zv_10 ⟨rfl, rfl, rfl, rfl, rfl, rfl, by first | omega | rfl | (dsimp only; omega)⟩ dJ1_charAt_3b067_14

def rmJ0_charAt_5068ef : Room := { frames := 3, cells := 0, slots := 0, locals := 64 }
set_option maxHeartbeats 4000000 in
set_option maxRecDepth 100000 in
theorem c_J0_charAt_5068ef (l : Launch) (g : gG) (i : Nat) (q : String × Nat × String × List Int32) (I : gI) (R : gR) (J : gJ) (AI : gI) (AJ : gJ) (AR : gR) (k : Int) (zk : zr k) (hq : sTab[i]? = some q) (h0 : 0 ≤ k) (h1 : k < ((q.2.2.2.length : Nat) : Int)) : gMet l g yJ0_charAt_5068e wsJ0_charAt_5068e rmJ0_charAt_5068ef [.ref (gSK g i), .int (iI k)] (I, R, J, AI, AJ, AR) (gQi g (fun (z : Int) (w : gS) => I = w.1 ∧ R = w.2.1 ∧ J = w.2.2.1 ∧ AI = w.2.2.2.1 ∧ AJ = w.2.2.2.2.1 ∧ AR = w.2.2.2.2.2 ∧ (z = (q.2.2.2.getD k.toNat 0).toInt))) := by
  refine gStart (cc := cJ0_charAt_5068e) (maxL := 2) (ret := (some (.char))) (by decide) rfl (Nat.le_of_ble_eq_true rfl) ?_
  intro p e s m below meth c ls F hr hlk hH hz hS hl
  have hl : lv_has ls 2 [(0, .ref (gSK g i)), (1, .int (iI k))] := hl
  have hS : va_S (gA g) s.heap s.heap [] := hS
  obtain ⟨H, hHe⟩ : ∃ H : Heap, H = s.heap := ⟨_, rfl⟩
  obtain ⟨locs, hlo⟩ : ∃ k : List Loc, k = [] := ⟨_, rfl⟩
  have hH : gH g I R J AI AJ AR H := by rw [hHe]; exact hH
  have hS : va_S (gA g) s.heap H locs := by rw [hHe, hlo]; exact hS
  suffices hw : W p l e rmJ0_charAt_5068ef s m ([.ref (gSK g i), .int (iI k)] : List Value).toArray below meth c H locs 0 0 (MQ below (gQi g (fun (z : Int) (w : gS) => I = w.1 ∧ R = w.2.1 ∧ J = w.2.2.1 ∧ AI = w.2.2.2.1 ∧ AJ = w.2.2.2.2.1 ∧ AR = w.2.2.2.2.2 ∧ (z = (q.2.2.2.getD k.toNat 0).toInt))) ([.ref (gSK g i), .int (iI k)] : List Value).toArray s 0 0 (gA g)) (F0 m 0 ls []) by
    rw [hHe, hlo] at hw; exact hw
  clear hHe hlo
  have hlen := sTab_len hq
  have hby := sTab_by hq
  refine lv_aload_n F.1 F.2.1 dJ0_charAt_5068e_0 rfl (lv_at hl 0 rfl) ?_
  refine g_calli (g_runVS (As := []) (rest := []) F hl.1 hH hS hz hq (c_J0_isLatin1_aae02 l g i q I R J AI AJ AR  hq) (cwV 0 F.2.2.2.2.1 gJ0_charAt_5068e_J0_isLatin1_aae02 rfl rfl rfl hdJ0_isLatin1_aae02 ⟨Nat.le_of_ble_eq_true rfl, Nat.le_of_ble_eq_true rfl⟩) rfl rfl (Nat.le_of_ble_eq_true rfl) dJ0_charAt_5068e_1 ⟨Nat.zero_le _, Nat.zero_le _⟩) hS (fun v_7 I_1 R_2 J_3 AI_4 AJ_5 AR_6 H locs zv_7 hp_8 hH hS => ?_)
  dsimp only at hp_8
  obtain ⟨rfl, rfl, rfl, rfl, rfl, rfl, q_9⟩ := hp_8
  subst q_9
  refine z_if_eq (tgt := 16) F dJ0_charAt_5068e_4 (by decide) ⟨by decide, by decide⟩ (fun c_10 => ?_) (fun c_10 => ?_)
  · exact absurd trivial (by omega)
  · refine lv_aload_n F.1 F.2.1 dJ0_charAt_5068e_7 rfl (lv_at hl 0 rfl) ?_
    refine vk_getf F.1 F.2.1 (F.2.2.2.2.2.2.1 i _ hq).2.2.2.1 hS F.2.2.2.1 (F.2.2.2.2.1 _ (List.mem_of_getElem? (i := 1) rfl)) (fun _ h => h) dJ0_charAt_5068e_8 ?_
    refine lv_iload_n F.1 F.2.1 dJ0_charAt_5068e_11 rfl (lv_at hl 1 rfl) ?_
    refine g_calli (g_runS (As := [.ref (gSV g i), .int (iI k)]) (rest := []) F hl.1 hH hS hz (c_J1_charAt_3b067f l g i q I R J AI AJ AR k zk hq (by omega) (by omega)) (va_cwS 2 F.2.2.2.2.1 gJ0_charAt_5068e_J1_charAt_3b067 rfl rfl rfl hdJ1_charAt_3b067.2 ⟨Nat.le_of_ble_eq_true rfl, Nat.le_of_ble_eq_true rfl⟩) rfl rfl (Nat.le_of_ble_eq_true rfl) dJ0_charAt_5068e_12 ⟨Nat.zero_le _, Nat.zero_le _⟩) hS (fun v_17 I_11 R_12 J_13 AI_14 AJ_15 AR_16 H locs zv_17 hp_18 hH hS => ?_)
    dsimp only at hp_18
    obtain ⟨rfl, rfl, rfl, rfl, rfl, rfl, q_19⟩ := hp_18
    have bk := hby k.toNat
    exact g_nret F hr hlk hH hS hz (nar_char (by omega) (by omega)) zv_17 ⟨rfl, rfl, rfl, rfl, rfl, rfl, by first | omega | rfl | (dsimp only; omega)⟩ dJ0_charAt_5068e_15

def rmJ1_canEncode_9a6adf : Room := { frames := 0, cells := 0, slots := 0, locals := 0 }
set_option maxHeartbeats 4000000 in
set_option maxRecDepth 100000 in
theorem c_J1_canEncode_9a6adf (l : Launch) (g : gG)  (I : gI) (R : gR) (J : gJ) (AI : gI) (AJ : gJ) (AR : gR) (k : Int) (zk : zr k) : gMet l g yJ1_canEncode_9a6ad wsJ1_canEncode_9a6ad rmJ1_canEncode_9a6adf [.int (iI k)] (I, R, J, AI, AJ, AR) (gQi g (fun (z : Int) (w : gS) => I = w.1 ∧ R = w.2.1 ∧ J = w.2.2.1 ∧ AI = w.2.2.2.1 ∧ AJ = w.2.2.2.2.1 ∧ AR = w.2.2.2.2.2 ∧ ((z = 0 ∨ z = 1) ∧ (0 ≤ k → k ≤ 255 → z = 1)))) := by
  refine gStart (cc := cJ1_canEncode_9a6ad) (maxL := 1) (ret := (some (.boolean))) (by decide) rfl (Nat.le_of_ble_eq_true rfl) ?_
  intro p e s m below meth c ls F hr hlk hH hz hS hl
  have hl : lv_has ls 1 [(0, .int (iI k))] := hl
  have hS : va_S (gA g) s.heap s.heap [] := hS
  obtain ⟨H, hHe⟩ : ∃ H : Heap, H = s.heap := ⟨_, rfl⟩
  obtain ⟨locs, hlo⟩ : ∃ k : List Loc, k = [] := ⟨_, rfl⟩
  have hH : gH g I R J AI AJ AR H := by rw [hHe]; exact hH
  have hS : va_S (gA g) s.heap H locs := by rw [hHe, hlo]; exact hS
  suffices hw : W p l e rmJ1_canEncode_9a6adf s m ([.int (iI k)] : List Value).toArray below meth c H locs 0 0 (MQ below (gQi g (fun (z : Int) (w : gS) => I = w.1 ∧ R = w.2.1 ∧ J = w.2.2.1 ∧ AI = w.2.2.2.1 ∧ AJ = w.2.2.2.2.1 ∧ AR = w.2.2.2.2.2 ∧ ((z = 0 ∨ z = 1) ∧ (0 ≤ k → k ≤ 255 → z = 1)))) ([.int (iI k)] : List Value).toArray s 0 0 (gA g)) (F0 m 0 ls []) by
    rw [hHe, hlo] at hw; exact hw
  clear hHe hlo
  refine lv_iload_n F.1 F.2.1 dJ1_canEncode_9a6ad_0 rfl (lv_at hl 0 rfl) ?_
  refine z_if_lt (tgt := 15) F dJ1_canEncode_9a6ad_1 (by decide) zk (fun c_1 => ?_) (fun c_1 => ?_)
  · refine z_iconst F dJ1_canEncode_9a6ad_15 ?_
    exact g_zret F hr hlk hH hS hz (by omega) ⟨rfl, rfl, rfl, rfl, rfl, rfl, ⟨by omega, fun _ _ => by omega⟩⟩ dJ1_canEncode_9a6ad_16
  · refine lv_iload_n F.1 F.2.1 dJ1_canEncode_9a6ad_4 rfl (lv_at hl 0 rfl) ?_
    refine z_sipush F dJ1_canEncode_9a6ad_5 (by decide) ?_
    refine z_icmp_gt (tgt := 15) F dJ1_canEncode_9a6ad_8 (by decide) zk ⟨by decide, by decide⟩ (fun c_2 => ?_) (fun c_2 => ?_)
    · refine z_iconst F dJ1_canEncode_9a6ad_15 ?_
      exact g_zret F hr hlk hH hS hz (by omega) ⟨rfl, rfl, rfl, rfl, rfl, rfl, ⟨by omega, fun _ _ => by omega⟩⟩ dJ1_canEncode_9a6ad_16
    · refine z_iconst F dJ1_canEncode_9a6ad_11 ?_
      refine z_goto (tgt := 16) F dJ1_canEncode_9a6ad_12 (by decide) ?_
      exact g_zret F hr hlk hH hS hz (by omega) ⟨rfl, rfl, rfl, rfl, rfl, rfl, ⟨by omega, fun _ _ => by omega⟩⟩ dJ1_canEncode_9a6ad_16

def rmJ1_indexOfChar_4cfeff : Room := { frames := 0, cells := 0, slots := 0, locals := 0 }
set_option maxHeartbeats 4000000 in
set_option maxRecDepth 100000 in
theorem c_J1_indexOfChar_4cfeff (l : Launch) (g : gG) (i : Nat) (q : String × Nat × String × List Int32) (I : gI) (R : gR) (J : gJ) (AI : gI) (AJ : gJ) (AR : gR) (ch : Int) (fr : Int) (mx : Int) (zch : zr ch) (zfr : zr fr) (zmx : zr mx) (hq : sTab[i]? = some q) (hc : 0 ≤ ch ∧ ch ≤ 127) (h0 : fr = 0) (h1 : mx = ((q.2.2.2.length : Nat) : Int)) : gMet l g yJ1_indexOfChar_4cfef wsJ1_indexOfChar_4cfef rmJ1_indexOfChar_4cfeff [.ref (gSV g i), .int (iI ch), .int (iI fr), .int (iI mx)] (I, R, J, AI, AJ, AR) (gQi g (fun (z : Int) (w : gS) => I = w.1 ∧ R = w.2.1 ∧ J = w.2.2.1 ∧ AI = w.2.2.2.1 ∧ AJ = w.2.2.2.2.1 ∧ AR = w.2.2.2.2.2 ∧ ((z = -1 ∧ ∀ j : Nat, (j : Int) < mx → (q.2.2.2.getD j 0).toInt ≠ ch) ∨ (0 ≤ z ∧ z < mx ∧ (q.2.2.2.getD z.toNat 0).toInt = ch)))) := by
  refine gStart (cc := cJ1_indexOfChar_4cfef) (maxL := 6) (ret := (some (.int))) (by decide) rfl (Nat.le_of_ble_eq_true rfl) ?_
  intro p e s m below meth c ls F hr hlk hH hz hS hl
  have hl : lv_has ls 6 [(0, .ref (gSV g i)), (1, .int (iI ch)), (2, .int (iI fr)), (3, .int (iI mx))] := hl
  have hS : va_S (gA g) s.heap s.heap [] := hS
  obtain ⟨H, hHe⟩ : ∃ H : Heap, H = s.heap := ⟨_, rfl⟩
  obtain ⟨locs, hlo⟩ : ∃ k : List Loc, k = [] := ⟨_, rfl⟩
  have hH : gH g I R J AI AJ AR H := by rw [hHe]; exact hH
  have hS : va_S (gA g) s.heap H locs := by rw [hHe, hlo]; exact hS
  suffices hw : W p l e rmJ1_indexOfChar_4cfeff s m ([.ref (gSV g i), .int (iI ch), .int (iI fr), .int (iI mx)] : List Value).toArray below meth c H locs 0 0 (MQ below (gQi g (fun (z : Int) (w : gS) => I = w.1 ∧ R = w.2.1 ∧ J = w.2.2.1 ∧ AI = w.2.2.2.1 ∧ AJ = w.2.2.2.2.1 ∧ AR = w.2.2.2.2.2 ∧ ((z = -1 ∧ ∀ j : Nat, (j : Int) < mx → (q.2.2.2.getD j 0).toInt ≠ ch) ∨ (0 ≤ z ∧ z < mx ∧ (q.2.2.2.getD z.toNat 0).toInt = ch)))) ([.ref (gSV g i), .int (iI ch), .int (iI fr), .int (iI mx)] : List Value).toArray s 0 0 (gA g)) (F0 m 0 ls []) by
    rw [hHe, hlo] at hw; exact hw
  clear hHe hlo
  have hlen := sTab_len hq
  have hby := sTab_by hq
  refine lv_iload_n F.1 F.2.1 dJ1_indexOfChar_4cfef_0 rfl (lv_at hl 1 rfl) ?_
  refine lv_i2b F.1 F.2.1 dJ1_indexOfChar_4cfef_1 rfl ?_
  refine z_top (fun v_1 zv_1 ev_1 => ?_)
  have e1 := z_i2b ev_1 hc.1 hc.2
  refine lv_istore (lv' := [(4, .int (iI v_1)), (0, .ref (gSV g i)), (1, .int (iI ch)), (2, .int (iI fr)), (3, .int (iI mx))]) F.1 F.2.1 dJ1_indexOfChar_4cfef_2 hl (by decide) rfl (fun ls hl => ?_)
  refine lv_iload_n F.1 F.2.1 dJ1_indexOfChar_4cfef_4 rfl (lv_at hl 3 rfl) ?_
  refine lv_istore (lv' := [(5, .int (iI fr)), (4, .int (iI v_1)), (0, .ref (gSV g i)), (1, .int (iI ch)), (2, .int (iI fr)), (3, .int (iI mx))]) F.1 F.2.1 dJ1_indexOfChar_4cfef_5 hl (by decide) rfl (fun ls hl => ?_)
  have cut_7_1 : ∀ (NN : Nat) (j : Int) (H : Heap) (locs : List Loc) (ls : Array Slot), zr j → (0 ≤ j ∧ j ≤ mx) → (∀ k : Nat, (k : Int) < j → (q.2.2.2.getD k 0).toInt ≠ ch) → (mx - j) < ((NN : Nat) : Int) → gH g I R J AI AJ AR H → va_S (gA g) s.heap H locs → lv_has ls 6 [(5, .int (iI j)), (4, .int (iI v_1)), (0, .ref (gSV g i)), (1, .int (iI ch)), (2, .int (iI fr)), (3, .int (iI mx))] → W p l e rmJ1_indexOfChar_4cfeff s m ([.ref (gSV g i), .int (iI ch), .int (iI fr), .int (iI mx)] : List Value).toArray below meth c H locs 0 0 (MQ below (gQi g (fun (z : Int) (w : gS) => I = w.1 ∧ R = w.2.1 ∧ J = w.2.2.1 ∧ AI = w.2.2.2.1 ∧ AJ = w.2.2.2.2.1 ∧ AR = w.2.2.2.2.2 ∧ ((z = -1 ∧ ∀ j : Nat, (j : Int) < mx → (q.2.2.2.getD j 0).toInt ≠ ch) ∨ (0 ≤ z ∧ z < mx ∧ (q.2.2.2.getD z.toNat 0).toInt = ch)))) ([.ref (gSV g i), .int (iI ch), .int (iI fr), .int (iI mx)] : List Value).toArray s 0 0 (gA g)) (F0 m 7 ls []) := by
    intro NN7
    induction NN7 with
    | zero =>
      intro j H locs ls zj hj hf hm7 hH hS hl
      exact absurd hm7 (by omega)
    | succ NN7 ih7 =>
      intro j H locs ls zj hj hf hm7 hH hS hl
      refine lv_iload F.1 F.2.1 dJ1_indexOfChar_4cfef_7 (lv_at hl 0 rfl) ?_
      refine lv_iload_n F.1 F.2.1 dJ1_indexOfChar_4cfef_9 rfl (lv_at hl 5 rfl) ?_
      refine z_icmp_ge (tgt := 31) F dJ1_indexOfChar_4cfef_10 (by decide) zj zmx (fun c_3 => ?_) (fun c_3 => ?_)
      · refine z_iconst F dJ1_indexOfChar_4cfef_31 ?_
        exact g_iret F hr hlk hH hS hz ⟨by decide, by decide⟩ ⟨rfl, rfl, rfl, rfl, rfl, rfl, Or.inl ⟨rfl, fun k hk => hf k (by omega)⟩⟩ dJ1_indexOfChar_4cfef_32
      · refine lv_aload_n F.1 F.2.1 dJ1_indexOfChar_4cfef_13 rfl (lv_at hl 2 rfl) ?_
        refine lv_iload F.1 F.2.1 dJ1_indexOfChar_4cfef_14 (lv_at hl 0 rfl) ?_
        have hx16 : 0 ≤ j ∧ j < ((q.2.2.2.length : Nat) : Int) ∧ j ≤ 2147483647 := ⟨by omega, by omega, by omega⟩
        refine va_tb F.1 F.2.1 (F.2.2.2.2.2.2.1 i _ hq).2.2.2.2 hS (iI_in hx16.1 hx16.2.1 hx16.2.2) rfl dJ1_indexOfChar_4cfef_16 ?_
        refine z_top (fun v_4 zv_4 ev_4 => ?_)
        have e16 := ev_4
        rw [iI_nat (by omega) (by omega)] at e16
        refine lv_iload F.1 F.2.1 dJ1_indexOfChar_4cfef_17 (lv_at hl 1 rfl) ?_
        refine z_icmp_ne (tgt := 25) F dJ1_indexOfChar_4cfef_19 (by decide) zv_4 zv_1 (fun c_5 => ?_) (fun c_5 => ?_)
        · refine z_iinc (lv' := [(5, .int (iI (j + 1))), (4, .int (iI v_1)), (0, .ref (gSV g i)), (1, .int (iI ch)), (2, .int (iI fr)), (3, .int (iI mx))]) F dJ1_indexOfChar_4cfef_25 hl (k := 0) rfl (by decide) rfl (fun ls hl => ?_)
          refine z_goto (tgt := 7) F dJ1_indexOfChar_4cfef_28 (by decide) ?_
          exact ih7 (j + 1) H locs ls ⟨by omega, by omega⟩ (by omega) (by first | exact (fun k hk => absurd hk (by omega)) | exact ix_step hf (by omega) (by omega)) (by omega) hH hS (lv_sub hl [0, 1, 2, 3, 4, 5] rfl)
        · refine lv_iload F.1 F.2.1 dJ1_indexOfChar_4cfef_22 (lv_at hl 0 rfl) ?_
          exact g_iret F hr hlk hH hS hz zj ⟨rfl, rfl, rfl, rfl, rfl, rfl, Or.inr ⟨by omega, by omega, by omega⟩⟩ dJ1_indexOfChar_4cfef_24
  exact cut_7_1 (((mx - fr) + 1 : Int).toNat) fr H locs ls zfr (by omega) (by first | exact (fun k hk => absurd hk (by omega)) | exact ix_step hf (by omega) (by omega)) (by omega) hH hS (lv_sub hl [0, 1, 2, 3, 4, 5] rfl)

def rmJ1_indexOf_4cfeff : Room := { frames := 1, cells := 0, slots := 0, locals := 40 }
set_option maxHeartbeats 4000000 in
set_option maxRecDepth 100000 in
theorem c_J1_indexOf_4cfeff (l : Launch) (g : gG) (i : Nat) (q : String × Nat × String × List Int32) (I : gI) (R : gR) (J : gJ) (AI : gI) (AJ : gJ) (AR : gR) (ch : Int) (fr : Int) (mx : Int) (zch : zr ch) (zfr : zr fr) (zmx : zr mx) (hq : sTab[i]? = some q) (hc : 0 ≤ ch ∧ ch ≤ 127) (h0 : fr = 0) (h1 : mx = ((q.2.2.2.length : Nat) : Int)) : gMet l g yJ1_indexOf_4cfef wsJ1_indexOf_4cfef rmJ1_indexOf_4cfeff [.ref (gSV g i), .int (iI ch), .int (iI fr), .int (iI mx)] (I, R, J, AI, AJ, AR) (gQi g (fun (z : Int) (w : gS) => I = w.1 ∧ R = w.2.1 ∧ J = w.2.2.1 ∧ AI = w.2.2.2.1 ∧ AJ = w.2.2.2.2.1 ∧ AR = w.2.2.2.2.2 ∧ ((z = -1 ∧ ∀ j : Nat, (j : Int) < mx → (q.2.2.2.getD j 0).toInt ≠ ch) ∨ (0 ≤ z ∧ z < mx ∧ (q.2.2.2.getD z.toNat 0).toInt = ch)))) := by
  refine gStart (cc := cJ1_indexOf_4cfef) (maxL := 4) (ret := (some (.int))) (by decide) rfl (Nat.le_of_ble_eq_true rfl) ?_
  intro p e s m below meth c ls F hr hlk hH hz hS hl
  have hl : lv_has ls 4 [(0, .ref (gSV g i)), (1, .int (iI ch)), (2, .int (iI fr)), (3, .int (iI mx))] := hl
  have hS : va_S (gA g) s.heap s.heap [] := hS
  obtain ⟨H, hHe⟩ : ∃ H : Heap, H = s.heap := ⟨_, rfl⟩
  obtain ⟨locs, hlo⟩ : ∃ k : List Loc, k = [] := ⟨_, rfl⟩
  have hH : gH g I R J AI AJ AR H := by rw [hHe]; exact hH
  have hS : va_S (gA g) s.heap H locs := by rw [hHe, hlo]; exact hS
  suffices hw : W p l e rmJ1_indexOf_4cfeff s m ([.ref (gSV g i), .int (iI ch), .int (iI fr), .int (iI mx)] : List Value).toArray below meth c H locs 0 0 (MQ below (gQi g (fun (z : Int) (w : gS) => I = w.1 ∧ R = w.2.1 ∧ J = w.2.2.1 ∧ AI = w.2.2.2.1 ∧ AJ = w.2.2.2.2.1 ∧ AR = w.2.2.2.2.2 ∧ ((z = -1 ∧ ∀ j : Nat, (j : Int) < mx → (q.2.2.2.getD j 0).toInt ≠ ch) ∨ (0 ≤ z ∧ z < mx ∧ (q.2.2.2.getD z.toNat 0).toInt = ch)))) ([.ref (gSV g i), .int (iI ch), .int (iI fr), .int (iI mx)] : List Value).toArray s 0 0 (gA g)) (F0 m 0 ls []) by
    rw [hHe, hlo] at hw; exact hw
  clear hHe hlo
  have hlen := sTab_len hq
  have hby := sTab_by hq
  refine lv_iload_n F.1 F.2.1 dJ1_indexOf_4cfef_0 rfl (lv_at hl 1 rfl) ?_
  refine g_calli (g_runS (As := [.int (iI ch)]) (rest := []) F hl.1 hH hS hz (c_J1_canEncode_9a6adf l g  I R J AI AJ AR ch zch) (va_cwS 1 F.2.2.2.2.1 gJ1_indexOf_4cfef_J1_canEncode_9a6ad rfl rfl rfl hdJ1_canEncode_9a6ad.2 ⟨Nat.le_of_ble_eq_true rfl, Nat.le_of_ble_eq_true rfl⟩) rfl rfl (Nat.le_of_ble_eq_true rfl) dJ1_indexOf_4cfef_1 ⟨Nat.zero_le _, Nat.zero_le _⟩) hS (fun v_7 I_1 R_2 J_3 AI_4 AJ_5 AR_6 H locs zv_7 hp_8 hH hS => ?_)
  dsimp only at hp_8
  obtain ⟨rfl, rfl, rfl, rfl, rfl, rfl, q1⟩ := hp_8
  have q1b := q1.2 (by omega) (by omega)
  refine z_if_ne (tgt := 9) F dJ1_indexOf_4cfef_4 (by decide) zv_7 (fun c_9 => ?_) (fun c_9 => ?_)
  · refine lv_iload_n F.1 F.2.1 dJ1_indexOf_4cfef_9 rfl (lv_at hl 2 rfl) ?_
    refine z_iconst F dJ1_indexOf_4cfef_10 ?_
    refine z_mmax (rest := []) F hl.1 (List.mem_of_getElem? (i := 1) rfl) (List.mem_of_getElem? (i := 2) rfl) (List.mem_of_getElem? (i := 3) rfl) (List.mem_of_getElem? (i := 4) rfl) (Nat.le_of_ble_eq_true rfl) (Nat.le_of_ble_eq_true rfl) (Nat.zero_le _) (Nat.zero_le _) zfr ⟨by decide, by decide⟩ dJ1_indexOf_4cfef_11 (fun v_10 zv_10 qv_10 => ?_)
    refine lv_istore_n (lv' := [(2, .int (iI v_10)), (0, .ref (gSV g i)), (1, .int (iI ch)), (3, .int (iI mx))]) F.1 F.2.1 dJ1_indexOf_4cfef_14 rfl hl (by decide) rfl (fun ls hl => ?_)
    refine lv_iload_n F.1 F.2.1 dJ1_indexOf_4cfef_15 rfl (lv_at hl 3 rfl) ?_
    refine lv_aload_n F.1 F.2.1 dJ1_indexOf_4cfef_16 rfl (lv_at hl 1 rfl) ?_
    refine va_tlen F.1 F.2.1 (F.2.2.2.2.2.2.1 i _ hq).2.2.2.2 hS (v := iI ((q.2.2.2.length : Nat) : Int)) (Int32.ofInt_eq_ofNat).symm dJ1_indexOf_4cfef_17 ?_
    refine z_mmin (rest := []) F hl.1 (List.mem_of_getElem? (i := 5) rfl) (List.mem_of_getElem? (i := 6) rfl) (List.mem_of_getElem? (i := 3) rfl) (List.mem_of_getElem? (i := 7) rfl) (Nat.le_of_ble_eq_true rfl) (Nat.le_of_ble_eq_true rfl) (Nat.zero_le _) (Nat.zero_le _) zmx ⟨by omega, by omega⟩ dJ1_indexOf_4cfef_18 (fun v_11 zv_11 qv_11 => ?_)
    refine lv_istore_n (lv' := [(3, .int (iI v_11)), (2, .int (iI v_10)), (0, .ref (gSV g i)), (1, .int (iI ch))]) F.1 F.2.1 dJ1_indexOf_4cfef_21 rfl hl (by decide) rfl (fun ls hl => ?_)
    refine lv_iload_n F.1 F.2.1 dJ1_indexOf_4cfef_22 rfl (lv_at hl 1 rfl) ?_
    refine lv_iload_n F.1 F.2.1 dJ1_indexOf_4cfef_23 rfl (lv_at hl 0 rfl) ?_
    refine z_icmp_lt (tgt := 29) F dJ1_indexOf_4cfef_24 (by decide) zv_10 zv_11 (fun c_12 => ?_) (fun c_12 => ?_)
    · refine lv_aload_n F.1 F.2.1 dJ1_indexOf_4cfef_29 rfl (lv_at hl 2 rfl) ?_
      refine lv_iload_n F.1 F.2.1 dJ1_indexOf_4cfef_30 rfl (lv_at hl 3 rfl) ?_
      refine lv_iload_n F.1 F.2.1 dJ1_indexOf_4cfef_31 rfl (lv_at hl 1 rfl) ?_
      refine lv_iload_n F.1 F.2.1 dJ1_indexOf_4cfef_32 rfl (lv_at hl 0 rfl) ?_
      refine g_calli (g_runS (As := [.ref (gSV g i), .int (iI ch), .int (iI v_10), .int (iI v_11)]) (rest := []) F hl.1 hH hS hz (c_J1_indexOfChar_4cfeff l g i q I R J AI AJ AR ch v_10 v_11 zch zv_10 zv_11 hq (by omega) (by omega) (by omega)) (va_cwS 4 F.2.2.2.2.1 gJ1_indexOf_4cfef_J1_indexOfChar_4cfef rfl rfl rfl hdJ1_indexOfChar_4cfef.2 ⟨Nat.le_of_ble_eq_true rfl, Nat.le_of_ble_eq_true rfl⟩) rfl rfl (Nat.le_of_ble_eq_true rfl) dJ1_indexOf_4cfef_33 ⟨Nat.zero_le _, Nat.zero_le _⟩) hS (fun v_19 I_13 R_14 J_15 AI_16 AJ_17 AR_18 H locs zv_19 hp_20 hH hS => ?_)
      dsimp only at hp_20
      obtain ⟨rfl, rfl, rfl, rfl, rfl, rfl, q33⟩ := hp_20
      exact g_iret F hr hlk hH hS hz zv_19 ⟨rfl, rfl, rfl, rfl, rfl, rfl, ix_mx q33 (by omega)⟩ dJ1_indexOf_4cfef_36
    · refine z_iconst F dJ1_indexOf_4cfef_27 ?_
      exact g_iret F hr hlk hH hS hz ⟨by decide, by decide⟩ ⟨rfl, rfl, rfl, rfl, rfl, rfl, Or.inl ⟨rfl, fun k hk => absurd hk (by omega)⟩⟩ dJ1_indexOf_4cfef_28
  · refine z_iconst F dJ1_indexOf_4cfef_7 ?_
    exact g_iret F hr hlk hH hS hz ⟨by decide, by decide⟩ ⟨rfl, rfl, rfl, rfl, rfl, rfl, absurd trivial (by omega)⟩ dJ1_indexOf_4cfef_8

def rmJ0_indexOf_7cf53f : Room := { frames := 2, cells := 0, slots := 0, locals := 63 }
set_option maxHeartbeats 4000000 in
set_option maxRecDepth 100000 in
theorem c_J0_indexOf_7cf53f (l : Launch) (g : gG) (i : Nat) (q : String × Nat × String × List Int32) (I : gI) (R : gR) (J : gJ) (AI : gI) (AJ : gJ) (AR : gR) (ch : Int) (fr : Int) (zch : zr ch) (zfr : zr fr) (hq : sTab[i]? = some q) (hc : 0 ≤ ch ∧ ch ≤ 127) (h0 : fr = 0) : gMet l g yJ0_indexOf_7cf53 wsJ0_indexOf_7cf53 rmJ0_indexOf_7cf53f [.ref (gSK g i), .int (iI ch), .int (iI fr)] (I, R, J, AI, AJ, AR) (gQi g (fun (z : Int) (w : gS) => I = w.1 ∧ R = w.2.1 ∧ J = w.2.2.1 ∧ AI = w.2.2.2.1 ∧ AJ = w.2.2.2.2.1 ∧ AR = w.2.2.2.2.2 ∧ ((z = -1 ∧ ∀ j : Nat, (j : Int) < ((q.2.2.2.length : Nat) : Int) → (q.2.2.2.getD j 0).toInt ≠ ch) ∨ (0 ≤ z ∧ z < ((q.2.2.2.length : Nat) : Int) ∧ (q.2.2.2.getD z.toNat 0).toInt = ch)))) := by
  refine gStart (cc := cJ0_indexOf_7cf53) (maxL := 3) (ret := (some (.int))) (by decide) rfl (Nat.le_of_ble_eq_true rfl) ?_
  intro p e s m below meth c ls F hr hlk hH hz hS hl
  have hl : lv_has ls 3 [(0, .ref (gSK g i)), (1, .int (iI ch)), (2, .int (iI fr))] := hl
  have hS : va_S (gA g) s.heap s.heap [] := hS
  obtain ⟨H, hHe⟩ : ∃ H : Heap, H = s.heap := ⟨_, rfl⟩
  obtain ⟨locs, hlo⟩ : ∃ k : List Loc, k = [] := ⟨_, rfl⟩
  have hH : gH g I R J AI AJ AR H := by rw [hHe]; exact hH
  have hS : va_S (gA g) s.heap H locs := by rw [hHe, hlo]; exact hS
  suffices hw : W p l e rmJ0_indexOf_7cf53f s m ([.ref (gSK g i), .int (iI ch), .int (iI fr)] : List Value).toArray below meth c H locs 0 0 (MQ below (gQi g (fun (z : Int) (w : gS) => I = w.1 ∧ R = w.2.1 ∧ J = w.2.2.1 ∧ AI = w.2.2.2.1 ∧ AJ = w.2.2.2.2.1 ∧ AR = w.2.2.2.2.2 ∧ ((z = -1 ∧ ∀ j : Nat, (j : Int) < ((q.2.2.2.length : Nat) : Int) → (q.2.2.2.getD j 0).toInt ≠ ch) ∨ (0 ≤ z ∧ z < ((q.2.2.2.length : Nat) : Int) ∧ (q.2.2.2.getD z.toNat 0).toInt = ch)))) ([.ref (gSK g i), .int (iI ch), .int (iI fr)] : List Value).toArray s 0 0 (gA g)) (F0 m 0 ls []) by
    rw [hHe, hlo] at hw; exact hw
  clear hHe hlo
  have hlen := sTab_len hq
  have hby := sTab_by hq
  refine lv_aload_n F.1 F.2.1 dJ0_indexOf_7cf53_0 rfl (lv_at hl 0 rfl) ?_
  refine g_calli (g_runVS (As := []) (rest := []) F hl.1 hH hS hz hq (c_J0_isLatin1_aae02 l g i q I R J AI AJ AR  hq) (cwV 0 F.2.2.2.2.1 gJ0_indexOf_7cf53_J0_isLatin1_aae02 rfl rfl rfl hdJ0_isLatin1_aae02 ⟨Nat.le_of_ble_eq_true rfl, Nat.le_of_ble_eq_true rfl⟩) rfl rfl (Nat.le_of_ble_eq_true rfl) dJ0_indexOf_7cf53_1 ⟨Nat.zero_le _, Nat.zero_le _⟩) hS (fun v_7 I_1 R_2 J_3 AI_4 AJ_5 AR_6 H locs zv_7 hp_8 hH hS => ?_)
  dsimp only at hp_8
  obtain ⟨rfl, rfl, rfl, rfl, rfl, rfl, q_9⟩ := hp_8
  subst q_9
  refine z_if_eq (tgt := 23) F dJ0_indexOf_7cf53_4 (by decide) ⟨by decide, by decide⟩ (fun c_10 => ?_) (fun c_10 => ?_)
  · exact absurd trivial (by omega)
  · refine lv_aload_n F.1 F.2.1 dJ0_indexOf_7cf53_7 rfl (lv_at hl 0 rfl) ?_
    refine vk_getf F.1 F.2.1 (F.2.2.2.2.2.2.1 i _ hq).2.2.2.1 hS F.2.2.2.1 (F.2.2.2.2.1 _ (List.mem_of_getElem? (i := 1) rfl)) (fun _ h => h) dJ0_indexOf_7cf53_8 ?_
    refine lv_iload_n F.1 F.2.1 dJ0_indexOf_7cf53_11 rfl (lv_at hl 1 rfl) ?_
    refine lv_iload_n F.1 F.2.1 dJ0_indexOf_7cf53_12 rfl (lv_at hl 2 rfl) ?_
    refine lv_aload_n F.1 F.2.1 dJ0_indexOf_7cf53_13 rfl (lv_at hl 0 rfl) ?_
    refine g_calli (g_runVS (As := []) (rest := [.int (iI fr), .int (iI ch), .ref (gSV g i)]) F hl.1 hH hS hz hq (c_J0_length_8abf5 l g i q I R J AI AJ AR  hq) (cwV 0 F.2.2.2.2.1 gJ0_indexOf_7cf53_J0_length_8abf5 rfl rfl rfl hdJ0_length_8abf5 ⟨Nat.le_of_ble_eq_true rfl, Nat.le_of_ble_eq_true rfl⟩) rfl rfl (Nat.le_of_ble_eq_true rfl) dJ0_indexOf_7cf53_14 ⟨Nat.zero_le _, Nat.zero_le _⟩) hS (fun v_17 I_11 R_12 J_13 AI_14 AJ_15 AR_16 H locs zv_17 hp_18 hH hS => ?_)
    dsimp only at hp_18
    obtain ⟨rfl, rfl, rfl, rfl, rfl, rfl, q_19⟩ := hp_18
    refine g_calli (g_runS (As := [.ref (gSV g i), .int (iI ch), .int (iI fr), .int (iI v_17)]) (rest := []) F hl.1 hH hS hz (c_J1_indexOf_4cfeff l g i q I R J AI AJ AR ch fr v_17 zch zfr zv_17 hq (by omega) (by omega) (by omega)) (va_cwS 4 F.2.2.2.2.1 gJ0_indexOf_7cf53_J1_indexOf_4cfef rfl rfl rfl hdJ1_indexOf_4cfef.2 ⟨Nat.le_of_ble_eq_true rfl, Nat.le_of_ble_eq_true rfl⟩) rfl rfl (Nat.le_of_ble_eq_true rfl) dJ0_indexOf_7cf53_17 ⟨Nat.zero_le _, Nat.zero_le _⟩) hS (fun v_26 I_20 R_21 J_22 AI_23 AJ_24 AR_25 H locs zv_26 hp_27 hH hS => ?_)
    dsimp only at hp_27
    obtain ⟨rfl, rfl, rfl, rfl, rfl, rfl, q17⟩ := hp_27
    refine z_goto (tgt := 36) F dJ0_indexOf_7cf53_20 (by decide) ?_
    exact g_iret F hr hlk hH hS hz zv_26 ⟨rfl, rfl, rfl, rfl, rfl, rfl, ix_mx q17 (by omega)⟩ dJ0_indexOf_7cf53_36

def rmJ0_indexOf_0f7a4f : Room := { frames := 3, cells := 0, slots := 0, locals := 85 }
set_option maxHeartbeats 4000000 in
set_option maxRecDepth 100000 in
theorem c_J0_indexOf_0f7a4f (l : Launch) (g : gG) (i : Nat) (q : String × Nat × String × List Int32) (I : gI) (R : gR) (J : gJ) (AI : gI) (AJ : gJ) (AR : gR) (ch : Int) (zch : zr ch) (hq : sTab[i]? = some q) (hc : 0 ≤ ch ∧ ch ≤ 127) : gMet l g yJ0_indexOf_0f7a4 wsJ0_indexOf_0f7a4 rmJ0_indexOf_0f7a4f [.ref (gSK g i), .int (iI ch)] (I, R, J, AI, AJ, AR) (gQi g (fun (z : Int) (w : gS) => I = w.1 ∧ R = w.2.1 ∧ J = w.2.2.1 ∧ AI = w.2.2.2.1 ∧ AJ = w.2.2.2.2.1 ∧ AR = w.2.2.2.2.2 ∧ ((z = -1 ∧ ∀ j : Nat, (j : Int) < ((q.2.2.2.length : Nat) : Int) → (q.2.2.2.getD j 0).toInt ≠ ch) ∨ (0 ≤ z ∧ z < ((q.2.2.2.length : Nat) : Int) ∧ (q.2.2.2.getD z.toNat 0).toInt = ch)))) := by
  refine gStart (cc := cJ0_indexOf_0f7a4) (maxL := 2) (ret := (some (.int))) (by decide) rfl (Nat.le_of_ble_eq_true rfl) ?_
  intro p e s m below meth c ls F hr hlk hH hz hS hl
  have hl : lv_has ls 2 [(0, .ref (gSK g i)), (1, .int (iI ch))] := hl
  have hS : va_S (gA g) s.heap s.heap [] := hS
  obtain ⟨H, hHe⟩ : ∃ H : Heap, H = s.heap := ⟨_, rfl⟩
  obtain ⟨locs, hlo⟩ : ∃ k : List Loc, k = [] := ⟨_, rfl⟩
  have hH : gH g I R J AI AJ AR H := by rw [hHe]; exact hH
  have hS : va_S (gA g) s.heap H locs := by rw [hHe, hlo]; exact hS
  suffices hw : W p l e rmJ0_indexOf_0f7a4f s m ([.ref (gSK g i), .int (iI ch)] : List Value).toArray below meth c H locs 0 0 (MQ below (gQi g (fun (z : Int) (w : gS) => I = w.1 ∧ R = w.2.1 ∧ J = w.2.2.1 ∧ AI = w.2.2.2.1 ∧ AJ = w.2.2.2.2.1 ∧ AR = w.2.2.2.2.2 ∧ ((z = -1 ∧ ∀ j : Nat, (j : Int) < ((q.2.2.2.length : Nat) : Int) → (q.2.2.2.getD j 0).toInt ≠ ch) ∨ (0 ≤ z ∧ z < ((q.2.2.2.length : Nat) : Int) ∧ (q.2.2.2.getD z.toNat 0).toInt = ch)))) ([.ref (gSK g i), .int (iI ch)] : List Value).toArray s 0 0 (gA g)) (F0 m 0 ls []) by
    rw [hHe, hlo] at hw; exact hw
  clear hHe hlo
  have hlen := sTab_len hq
  have hby := sTab_by hq
  refine lv_aload_n F.1 F.2.1 dJ0_indexOf_0f7a4_0 rfl (lv_at hl 0 rfl) ?_
  refine lv_iload_n F.1 F.2.1 dJ0_indexOf_0f7a4_1 rfl (lv_at hl 1 rfl) ?_
  refine z_iconst F dJ0_indexOf_0f7a4_2 ?_
  refine g_calli (g_runVS (As := [.int (iI ch), .int (iI 0)]) (rest := []) F hl.1 hH hS hz hq (c_J0_indexOf_7cf53f l g i q I R J AI AJ AR ch 0 zch ⟨by decide, by decide⟩ hq (by omega) rfl) (cwV 2 F.2.2.2.2.1 gJ0_indexOf_0f7a4_J0_indexOf_7cf53 rfl rfl rfl hdJ0_indexOf_7cf53 ⟨Nat.le_of_ble_eq_true rfl, Nat.le_of_ble_eq_true rfl⟩) rfl rfl (Nat.le_of_ble_eq_true rfl) dJ0_indexOf_0f7a4_3 ⟨Nat.zero_le _, Nat.zero_le _⟩) hS (fun v_7 I_1 R_2 J_3 AI_4 AJ_5 AR_6 H locs zv_7 hp_8 hH hS => ?_)
  dsimp only at hp_8
  obtain ⟨rfl, rfl, rfl, rfl, rfl, rfl, qx⟩ := hp_8
  exact g_iret F hr hlk hH hS hz zv_7 ⟨rfl, rfl, rfl, rfl, rfl, rfl, qx⟩ dJ0_indexOf_0f7a4_6
