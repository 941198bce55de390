def rmJ0_coder_7d493 : Room := { frames := 0, cells := 0, slots := 0, locals := 0 }
theorem hdJ0_coder_7d493 : yJ0_coder_7d493.cls = RJ0 ∧ yJ0_coder_7d493.cls ≠ "java/lang/invoke/MethodHandle" ∧ yJ0_coder_7d493.cls ≠ "java/lang/invoke/VarHandle" ∧ (parseMethodDescriptor yJ0_coder_7d493.desc).map (fun d => d.parameters.length) = some 0 := by decide +kernel
set_option maxHeartbeats 4000000 in
set_option maxRecDepth 100000 in
theorem c_J0_coder_7d493 (l : Launch) (g : gG) (i : Nat) (q : String × Nat × String × List Int32) (I : gI) (R : gR) (J : gJ) (AI : gI) (AJ : gJ) (AR : gR)  (hq : sTab[i]? = some q) : gMet l g yJ0_coder_7d493 wsJ0_coder_7d493 rmJ0_coder_7d493 [.ref (gSK g i)] (I, R, J, AI, AJ, AR) (gQi g (fun (z : Int) (w : gS) => I = w.1 ∧ R = w.2.1 ∧ J = w.2.2.1 ∧ AI = w.2.2.2.1 ∧ AJ = w.2.2.2.2.1 ∧ AR = w.2.2.2.2.2 ∧ (z = 0))) := by
  refine gStart (cc := cJ0_coder_7d493) (maxL := 1) (ret := (some (.byte))) (by decide) rfl (Nat.le_of_ble_eq_true rfl) ?_
  intro p e s m below meth c ls F hr hlk hH hz hS hl
  have hl : lv_has ls 1 [(0, .ref (gSK g i))] := hl
  have hS : va_S (gA g) s.heap s.heap [] := hS
  obtain ⟨H, hHe⟩ : ∃ H : Heap, H = s.heap := ⟨_, rfl⟩
  obtain ⟨locs, hlo⟩ : ∃ k : List Loc, k = [] := ⟨_, rfl⟩
  have hH : gH g I R J AI AJ AR H := by rw [hHe]; exact hH
  have hS : va_S (gA g) s.heap H locs := by rw [hHe, hlo]; exact hS
  suffices hw : W p l e rmJ0_coder_7d493 s m ([.ref (gSK g i)] : List Value).toArray below meth c H locs 0 0 (MQ below (gQi g (fun (z : Int) (w : gS) => I = w.1 ∧ R = w.2.1 ∧ J = w.2.2.1 ∧ AI = w.2.2.2.1 ∧ AJ = w.2.2.2.2.1 ∧ AR = w.2.2.2.2.2 ∧ (z = 0))) ([.ref (gSK g i)] : List Value).toArray s 0 0 (gA g)) (F0 m 0 ls []) by
    rw [hHe, hlo] at hw; exact hw
  clear hHe hlo
  have hlen := sTab_len hq
  refine va_gets F.1 F.2.1 F.2.2.2.2.2.2.2.1 hS F.2.2.2.1 (F.2.2.2.2.1 _ (List.mem_of_getElem? (i := 1) rfl)) (fun _ h => h) dJ0_coder_7d493_0 ?_
  refine z_if_eq (tgt := 13) F dJ0_coder_7d493_3 (by decide) ⟨by decide, by decide⟩ (fun c_1 => ?_) (fun c_1 => ?_)
  · exact absurd trivial (by omega)
  · refine lv_aload_n F.1 F.2.1 dJ0_coder_7d493_6 rfl (lv_at hl 0 rfl) ?_
    refine vk_getf F.1 F.2.1 (F.2.2.2.2.2.2.1 i _ hq).2.2.1 hS F.2.2.2.1 (F.2.2.2.2.1 _ (List.mem_of_getElem? (i := 2) rfl)) (fun _ h => h) dJ0_coder_7d493_7 ?_
    refine z_goto (tgt := 14) F dJ0_coder_7d493_10 (by decide) ?_
    exact g_nret F hr hlk hH hS hz (nar_byte (by omega) (by omega)) ⟨by decide, by decide⟩ ⟨rfl, rfl, rfl, rfl, rfl, rfl, rfl⟩ dJ0_coder_7d493_14

def rmJ0_isLatin1_aae02 : Room := { frames := 0, cells := 0, slots := 0, locals := 0 }
theorem hdJ0_isLatin1_aae02 : yJ0_isLatin1_aae02.cls = RJ0 ∧ yJ0_isLatin1_aae02.cls ≠ "java/lang/invoke/MethodHandle" ∧ yJ0_isLatin1_aae02.cls ≠ "java/lang/invoke/VarHandle" ∧ (parseMethodDescriptor yJ0_isLatin1_aae02.desc).map (fun d => d.parameters.length) = some 0 := by decide +kernel
set_option maxHeartbeats 4000000 in
set_option maxRecDepth 100000 in
theorem c_J0_isLatin1_aae02 (l : Launch) (g : gG) (i : Nat) (q : String × Nat × String × List Int32) (I : gI) (R : gR) (J : gJ) (AI : gI) (AJ : gJ) (AR : gR)  (hq : sTab[i]? = some q) : gMet l g yJ0_isLatin1_aae02 wsJ0_isLatin1_aae02 rmJ0_isLatin1_aae02 [.ref (gSK g i)] (I, R, J, AI, AJ, AR) (gQi g (fun (z : Int) (w : gS) => I = w.1 ∧ R = w.2.1 ∧ J = w.2.2.1 ∧ AI = w.2.2.2.1 ∧ AJ = w.2.2.2.2.1 ∧ AR = w.2.2.2.2.2 ∧ (z = 1))) := by
  refine gStart (cc := cJ0_isLatin1_aae02) (maxL := 1) (ret := (some (.boolean))) (by decide) rfl (Nat.le_of_ble_eq_true rfl) ?_
  intro p e s m below meth c ls F hr hlk hH hz hS hl
  have hl : lv_has ls 1 [(0, .ref (gSK g i))] := hl
  have hS : va_S (gA g) s.heap s.heap [] := hS
  obtain ⟨H, hHe⟩ : ∃ H : Heap, H = s.heap := ⟨_, rfl⟩
  obtain ⟨locs, hlo⟩ : ∃ k : List Loc, k = [] := ⟨_, rfl⟩
  have hH : gH g I R J AI AJ AR H := by rw [hHe]; exact hH
  have hS : va_S (gA g) s.heap H locs := by rw [hHe, hlo]; exact hS
  suffices hw : W p l e rmJ0_isLatin1_aae02 s m ([.ref (gSK g i)] : List Value).toArray below meth c H locs 0 0 (MQ below (gQi g (fun (z : Int) (w : gS) => I = w.1 ∧ R = w.2.1 ∧ J = w.2.2.1 ∧ AI = w.2.2.2.1 ∧ AJ = w.2.2.2.2.1 ∧ AR = w.2.2.2.2.2 ∧ (z = 1))) ([.ref (gSK g i)] : List Value).toArray s 0 0 (gA g)) (F0 m 0 ls []) by
    rw [hHe, hlo] at hw; exact hw
  clear hHe hlo
  have hlen := sTab_len hq
  refine va_gets F.1 F.2.1 F.2.2.2.2.2.2.2.1 hS F.2.2.2.1 (F.2.2.2.2.1 _ (List.mem_of_getElem? (i := 1) rfl)) (fun _ h => h) dJ0_isLatin1_aae02_0 ?_
  refine z_if_eq (tgt := 17) F dJ0_isLatin1_aae02_3 (by decide) ⟨by decide, by decide⟩ (fun c_1 => ?_) (fun c_1 => ?_)
  · exact absurd trivial (by omega)
  · refine lv_aload_n F.1 F.2.1 dJ0_isLatin1_aae02_6 rfl (lv_at hl 0 rfl) ?_
    refine vk_getf F.1 F.2.1 (F.2.2.2.2.2.2.1 i _ hq).2.2.1 hS F.2.2.2.1 (F.2.2.2.2.1 _ (List.mem_of_getElem? (i := 2) rfl)) (fun _ h => h) dJ0_isLatin1_aae02_7 ?_
    refine z_if_ne (tgt := 17) F dJ0_isLatin1_aae02_10 (by decide) ⟨by decide, by decide⟩ (fun c_2 => ?_) (fun c_2 => ?_)
    · exact absurd trivial (by omega)
    · refine z_iconst F dJ0_isLatin1_aae02_13 ?_
      refine z_goto (tgt := 18) F dJ0_isLatin1_aae02_14 (by decide) ?_
      exact g_zret F hr hlk hH hS hz (by omega) ⟨rfl, rfl, rfl, rfl, rfl, rfl, rfl⟩ dJ0_isLatin1_aae02_18

def rmJ0_length_8abf5 : Room := { frames := 1, cells := 0, slots := 0, locals := 20 }
theorem hdJ0_length_8abf5 : yJ0_length_8abf5.cls = RJ0 ∧ yJ0_length_8abf5.cls ≠ "java/lang/invoke/MethodHandle" ∧ yJ0_length_8abf5.cls ≠ "java/lang/invoke/VarHandle" ∧ (parseMethodDescriptor yJ0_length_8abf5.desc).map (fun d => d.parameters.length) = some 0 := by decide +kernel
set_option maxHeartbeats 4000000 in
set_option maxRecDepth 100000 in
theorem c_J0_length_8abf5 (l : Launch) (g : gG) (i : Nat) (q : String × Nat × String × List Int32) (I : gI) (R : gR) (J : gJ) (AI : gI) (AJ : gJ) (AR : gR)  (hq : sTab[i]? = some q) : gMet l g yJ0_length_8abf5 wsJ0_length_8abf5 rmJ0_length_8abf5 [.ref (gSK g i)] (I, R, J, AI, AJ, AR) (gQi g (fun (z : Int) (w : gS) => I = w.1 ∧ R = w.2.1 ∧ J = w.2.2.1 ∧ AI = w.2.2.2.1 ∧ AJ = w.2.2.2.2.1 ∧ AR = w.2.2.2.2.2 ∧ (z = ((q.2.2.2.length : Nat) : Int)))) := by
  refine gStart (cc := cJ0_length_8abf5) (maxL := 1) (ret := (some (.int))) (by decide) rfl (Nat.le_of_ble_eq_true rfl) ?_
  intro p e s m below meth c ls F hr hlk hH hz hS hl
  have hl : lv_has ls 1 [(0, .ref (gSK g i))] := hl
  have hS : va_S (gA g) s.heap s.heap [] := hS
  obtain ⟨H, hHe⟩ : ∃ H : Heap, H = s.heap := ⟨_, rfl⟩
  obtain ⟨locs, hlo⟩ : ∃ k : List Loc, k = [] := ⟨_, rfl⟩
  have hH : gH g I R J AI AJ AR H := by rw [hHe]; exact hH
  have hS : va_S (gA g) s.heap H locs := by rw [hHe, hlo]; exact hS
  suffices hw : W p l e rmJ0_length_8abf5 s m ([.ref (gSK g i)] : List Value).toArray below meth c H locs 0 0 (MQ below (gQi g (fun (z : Int) (w : gS) => I = w.1 ∧ R = w.2.1 ∧ J = w.2.2.1 ∧ AI = w.2.2.2.1 ∧ AJ = w.2.2.2.2.1 ∧ AR = w.2.2.2.2.2 ∧ (z = ((q.2.2.2.length : Nat) : Int)))) ([.ref (gSK g i)] : List Value).toArray s 0 0 (gA g)) (F0 m 0 ls []) by
    rw [hHe, hlo] at hw; exact hw
  clear hHe hlo
  have hlen := sTab_len hq
  refine lv_aload_n F.1 F.2.1 dJ0_length_8abf5_0 rfl (lv_at hl 0 rfl) ?_
  refine vk_getf F.1 F.2.1 (F.2.2.2.2.2.2.1 i _ hq).2.2.2.1 hS F.2.2.2.1 (F.2.2.2.2.1 _ (List.mem_of_getElem? (i := 1) rfl)) (fun _ h => h) dJ0_length_8abf5_1 ?_
  refine va_tlen F.1 F.2.1 (F.2.2.2.2.2.2.1 i _ hq).2.2.2.2 hS (v := iI ((q.2.2.2.length : Nat) : Int)) (Int32.ofInt_eq_ofNat).symm dJ0_length_8abf5_4 ?_
  refine lv_aload_n F.1 F.2.1 dJ0_length_8abf5_5 rfl (lv_at hl 0 rfl) ?_
  refine g_calli (g_runVS (As := []) (rest := [.int (iI (((q.2.2.2.length : Nat) : Int)))]) F hl.1 hH hS hz hq (c_J0_coder_7d493 l g i q I R J AI AJ AR  hq) (cwV 0 F.2.2.2.2.1 gJ0_length_8abf5_J0_coder_7d493 rfl rfl rfl hdJ0_coder_7d493 ⟨Nat.le_of_ble_eq_true rfl, Nat.le_of_ble_eq_true rfl⟩) rfl rfl (Nat.le_of_ble_eq_true rfl) dJ0_length_8abf5_6 ⟨Nat.zero_le _, Nat.zero_le _⟩) hS (fun v_7 I_1 R_2 J_3 AI_4 AJ_5 AR_6 H locs zv_7 hp_8 hH hS => ?_)
  dsimp only at hp_8
  obtain ⟨rfl, rfl, rfl, rfl, rfl, rfl, q_9⟩ := hp_8
  subst q_9
  refine z_ishr0 F dJ0_length_8abf5_9 ?_
  exact g_iret F hr hlk hH hS hz ⟨by omega, by omega⟩ ⟨rfl, rfl, rfl, rfl, rfl, rfl, rfl⟩ dJ0_length_8abf5_10

def rmJ3_checkIndex_8e157n : Room := { frames := 0, cells := 0, slots := 0, locals := 0 }
set_option maxHeartbeats 4000000 in
set_option maxRecDepth 100000 in
theorem c_J3_checkIndex_8e157n (l : Launch) (g : gG)  (I : gI) (R : gR) (J : gJ) (AI : gI) (AJ : gJ) (AR : gR) (k : Int) (n : Int) (zk : zr k) (zn : zr n) (h0 : 0 ≤ k) (h1 : k < n) : gMet l g yJ3_checkIndex_8e157 wsJ3_checkIndex_8e157 rmJ3_checkIndex_8e157n [.int (iI k), .int (iI n), .null] (I, R, J, AI, AJ, AR) (gQi g (fun (z : Int) (w : gS) => I = w.1 ∧ R = w.2.1 ∧ J = w.2.2.1 ∧ AI = w.2.2.2.1 ∧ AJ = w.2.2.2.2.1 ∧ AR = w.2.2.2.2.2)) := by
  refine gStart (cc := cJ3_checkIndex_8e157) (maxL := 3) (ret := (some (.int))) (by decide) rfl (Nat.le_of_ble_eq_true rfl) ?_
  intro p e s m below meth c ls F hr hlk hH hz hS hl
  have hl : lv_has ls 3 [(0, .int (iI k)), (1, .int (iI n)), (2, .null)] := hl
  have hS : va_S (gA g) s.heap s.heap [] := hS
  obtain ⟨H, hHe⟩ : ∃ H : Heap, H = s.heap := ⟨_, rfl⟩
  obtain ⟨locs, hlo⟩ : ∃ k : List Loc, k = [] := ⟨_, rfl⟩
  have hH : gH g I R J AI AJ AR H := by rw [hHe]; exact hH
  have hS : va_S (gA g) s.heap H locs := by rw [hHe, hlo]; exact hS
  suffices hw : W p l e rmJ3_checkIndex_8e157n s m ([.int (iI k), .int (iI n), .null] : List Value).toArray below meth c H locs 0 0 (MQ below (gQi g (fun (z : Int) (w : gS) => I = w.1 ∧ R = w.2.1 ∧ J = w.2.2.1 ∧ AI = w.2.2.2.1 ∧ AJ = w.2.2.2.2.1 ∧ AR = w.2.2.2.2.2)) ([.int (iI k), .int (iI n), .null] : List Value).toArray s 0 0 (gA g)) (F0 m 0 ls []) by
    rw [hHe, hlo] at hw; exact hw
  clear hHe hlo
  refine lv_iload_n F.1 F.2.1 dJ3_checkIndex_8e157_0 rfl (lv_at hl 0 rfl) ?_
  refine z_if_lt (tgt := 9) F dJ3_checkIndex_8e157_1 (by decide) zk (fun c_1 => ?_) (fun c_1 => ?_)
  · exact absurd trivial (by omega)
  · refine lv_iload_n F.1 F.2.1 dJ3_checkIndex_8e157_4 rfl (lv_at hl 0 rfl) ?_
    refine lv_iload_n F.1 F.2.1 dJ3_checkIndex_8e157_5 rfl (lv_at hl 1 rfl) ?_
    refine z_icmp_lt (tgt := 16) F dJ3_checkIndex_8e157_6 (by decide) zk zn (fun c_2 => ?_) (fun c_2 => ?_)
    · refine lv_iload_n F.1 F.2.1 dJ3_checkIndex_8e157_16 rfl (lv_at hl 0 rfl) ?_
      exact g_iret F hr hlk hH hS hz zk ⟨rfl, rfl, rfl, rfl, rfl, rfl⟩ dJ3_checkIndex_8e157_17
    · exact absurd trivial (by omega)

def rmJ3_checkIndex_8e157 : Room := { frames := 0, cells := 0, slots := 0, locals := 0 }
theorem hdJ3_checkIndex_8e157 : yJ3_checkIndex_8e157.cls = RJ3 ∧ yJ3_checkIndex_8e157.cls ≠ "java/lang/invoke/MethodHandle" ∧ yJ3_checkIndex_8e157.cls ≠ "java/lang/invoke/VarHandle" ∧ (parseMethodDescriptor yJ3_checkIndex_8e157.desc).map (fun d => d.parameters.length) = some 3 := by decide +kernel
set_option maxHeartbeats 4000000 in
set_option maxRecDepth 100000 in
theorem c_J3_checkIndex_8e157 (l : Launch) (g : gG)  (I : gI) (R : gR) (J : gJ) (AI : gI) (AJ : gJ) (AR : gR) (k : Int) (n : Int) (f : Nat) (zk : zr k) (zn : zr n) (h0 : 0 ≤ k) (h1 : k < n) : gMet l g yJ3_checkIndex_8e157 wsJ3_checkIndex_8e157 rmJ3_checkIndex_8e157 [.int (iI k), .int (iI n), .ref f] (I, R, J, AI, AJ, AR) (gQi g (fun (z : Int) (w : gS) => I = w.1 ∧ R = w.2.1 ∧ J = w.2.2.1 ∧ AI = w.2.2.2.1 ∧ AJ = w.2.2.2.2.1 ∧ AR = w.2.2.2.2.2)) := by
  refine gStart (cc := cJ3_checkIndex_8e157) (maxL := 3) (ret := (some (.int))) (by decide) rfl (Nat.le_of_ble_eq_true rfl) ?_
  intro p e s m below meth c ls F hr hlk hH hz hS hl
  have hl : lv_has ls 3 [(0, .int (iI k)), (1, .int (iI n)), (2, .ref f)] := hl
  have hS : va_S (gA g) s.heap s.heap [] := hS
  obtain ⟨H, hHe⟩ : ∃ H : Heap, H = s.heap := ⟨_, rfl⟩
  obtain ⟨locs, hlo⟩ : ∃ k : List Loc, k = [] := ⟨_, rfl⟩
  have hH : gH g I R J AI AJ AR H := by rw [hHe]; exact hH
  have hS : va_S (gA g) s.heap H locs := by rw [hHe, hlo]; exact hS
  suffices hw : W p l e rmJ3_checkIndex_8e157 s m ([.int (iI k), .int (iI n), .ref f] : List Value).toArray below meth c H locs 0 0 (MQ below (gQi g (fun (z : Int) (w : gS) => I = w.1 ∧ R = w.2.1 ∧ J = w.2.2.1 ∧ AI = w.2.2.2.1 ∧ AJ = w.2.2.2.2.1 ∧ AR = w.2.2.2.2.2)) ([.int (iI k), .int (iI n), .ref f] : List Value).toArray s 0 0 (gA g)) (F0 m 0 ls []) by
    rw [hHe, hlo] at hw; exact hw
  clear hHe hlo
  refine lv_iload_n F.1 F.2.1 dJ3_checkIndex_8e157_0 rfl (lv_at hl 0 rfl) ?_
  refine z_if_lt (tgt := 9) F dJ3_checkIndex_8e157_1 (by decide) zk (fun c_1 => ?_) (fun c_1 => ?_)
  · exact absurd trivial (by omega)
  · refine lv_iload_n F.1 F.2.1 dJ3_checkIndex_8e157_4 rfl (lv_at hl 0 rfl) ?_
    refine lv_iload_n F.1 F.2.1 dJ3_checkIndex_8e157_5 rfl (lv_at hl 1 rfl) ?_
    refine z_icmp_lt (tgt := 16) F dJ3_checkIndex_8e157_6 (by decide) zk zn (fun c_2 => ?_) (fun c_2 => ?_)
    · refine lv_iload_n F.1 F.2.1 dJ3_checkIndex_8e157_16 rfl (lv_at hl 0 rfl) ?_
      exact g_iret F hr hlk hH hS hz zk ⟨rfl, rfl, rfl, rfl, rfl, rfl⟩ dJ3_checkIndex_8e157_17
    · exact absurd trivial (by omega)

def rmJ0_checkIndex_df160 : Room := { frames := 1, cells := 0, slots := 0, locals := 22 }
theorem hdJ0_checkIndex_df160 : yJ0_checkIndex_df160.cls = RJ0 ∧ yJ0_checkIndex_df160.cls ≠ "java/lang/invoke/MethodHandle" ∧ yJ0_checkIndex_df160.cls ≠ "java/lang/invoke/VarHandle" ∧ (parseMethodDescriptor yJ0_checkIndex_df160.desc).map (fun d => d.parameters.length) = some 2 := by decide +kernel
set_option maxHeartbeats 4000000 in
set_option maxRecDepth 100000 in
theorem c_J0_checkIndex_df160 (l : Launch) (g : gG)  (I : gI) (R : gR) (J : gJ) (AI : gI) (AJ : gJ) (AR : gR) (k : Int) (n : Int) (zk : zr k) (zn : zr n) (h0 : 0 ≤ k) (h1 : k < n) : gMet l g yJ0_checkIndex_df160 wsJ0_checkIndex_df160 rmJ0_checkIndex_df160 [.int (iI k), .int (iI n)] (I, R, J, AI, AJ, AR) (gQv g (fun w : gS => I = w.1 ∧ R = w.2.1 ∧ J = w.2.2.1 ∧ AI = w.2.2.2.1 ∧ AJ = w.2.2.2.2.1 ∧ AR = w.2.2.2.2.2)) := by
  refine gStart (cc := cJ0_checkIndex_df160) (maxL := 2) (ret := none) (by decide) rfl (Nat.le_of_ble_eq_true rfl) ?_
  intro p e s m below meth c ls F hr hlk hH hz hS hl
  have hl : lv_has ls 2 [(0, .int (iI k)), (1, .int (iI n))] := hl
  have hS : va_S (gA g) s.heap s.heap [] := hS
  obtain ⟨H, hHe⟩ : ∃ H : Heap, H = s.heap := ⟨_, rfl⟩
  obtain ⟨locs, hlo⟩ : ∃ k : List Loc, k = [] := ⟨_, rfl⟩
  have hH : gH g I R J AI AJ AR H := by rw [hHe]; exact hH
  have hS : va_S (gA g) s.heap H locs := by rw [hHe, hlo]; exact hS
  suffices hw : W p l e rmJ0_checkIndex_df160 s m ([.int (iI k), .int (iI n)] : List Value).toArray below meth c H locs 0 0 (MQ below (gQv g (fun w : gS => I = w.1 ∧ R = w.2.1 ∧ J = w.2.2.1 ∧ AI = w.2.2.2.1 ∧ AJ = w.2.2.2.2.1 ∧ AR = w.2.2.2.2.2)) ([.int (iI k), .int (iI n)] : List Value).toArray s 0 0 (gA g)) (F0 m 0 ls []) by
    rw [hHe, hlo] at hw; exact hw
  clear hHe hlo
  refine lv_iload_n F.1 F.2.1 dJ0_checkIndex_df160_0 rfl (lv_at hl 0 rfl) ?_
  refine lv_iload_n F.1 F.2.1 dJ0_checkIndex_df160_1 rfl (lv_at hl 1 rfl) ?_
  rcases F.2.2.2.2.2.2.2.2 with hz0 | ⟨t0, hz0⟩
  · refine va_gets F.1 F.2.1 hz0 hS F.2.2.2.1 (F.2.2.2.2.1 _ (List.mem_of_getElem? (i := 1) rfl)) (fun _ h => h) dJ0_checkIndex_df160_2 ?_
    refine g_calli (g_runS (As := [.int (iI k), .int (iI n), .null]) (rest := []) F hl.1 hH hS hz (c_J3_checkIndex_8e157n l g  I R J AI AJ AR k n zk zn (by omega) (by omega)) (va_cwS 3 F.2.2.2.2.1 gJ0_checkIndex_df160_J3_checkIndex_8e157 rfl rfl rfl hdJ3_checkIndex_8e157.2 ⟨Nat.le_of_ble_eq_true rfl, Nat.le_of_ble_eq_true rfl⟩) rfl rfl (Nat.le_of_ble_eq_true rfl) dJ0_checkIndex_df160_5 ⟨Nat.zero_le _, Nat.zero_le _⟩) hS (fun v_7 I_1 R_2 J_3 AI_4 AJ_5 AR_6 H locs zv_7 hp_8 hH hS => ?_)
    dsimp only at hp_8
    obtain ⟨rfl, rfl, rfl, rfl, rfl, rfl⟩ := hp_8
    refine lv_pop F.1 F.2.1 dJ0_checkIndex_df160_8 rfl ?_
    exact g_vret F hr hlk hH hS hz ⟨rfl, rfl, rfl, rfl, rfl, rfl⟩ dJ0_checkIndex_df160_9
  · refine va_gets F.1 F.2.1 hz0 hS F.2.2.2.1 (F.2.2.2.2.1 _ (List.mem_of_getElem? (i := 1) rfl)) (fun _ h => h) dJ0_checkIndex_df160_2 ?_
    refine g_calli (g_runS (As := [.int (iI k), .int (iI n), .ref t0]) (rest := []) F hl.1 hH hS hz (c_J3_checkIndex_8e157 l g  I R J AI AJ AR k n t0 zk zn (by omega) (by omega)) (va_cwS 3 F.2.2.2.2.1 gJ0_checkIndex_df160_J3_checkIndex_8e157 rfl rfl rfl hdJ3_checkIndex_8e157.2 ⟨Nat.le_of_ble_eq_true rfl, Nat.le_of_ble_eq_true rfl⟩) rfl rfl (Nat.le_of_ble_eq_true rfl) dJ0_checkIndex_df160_5 ⟨Nat.zero_le _, Nat.zero_le _⟩) hS (fun v_15 I_9 R_10 J_11 AI_12 AJ_13 AR_14 H locs zv_15 hp_16 hH hS => ?_)
    dsimp only at hp_16
    obtain ⟨rfl, rfl, rfl, rfl, rfl, rfl⟩ := hp_16
    refine lv_pop F.1 F.2.1 dJ0_checkIndex_df160_8 rfl ?_
    exact g_vret F hr hlk hH hS hz ⟨rfl, rfl, rfl, rfl, rfl, rfl⟩ dJ0_checkIndex_df160_9

def rmJ1_charAt_3b067 : Room := { frames := 2, cells := 0, slots := 0, locals := 43 }
theorem hdJ1_charAt_3b067 : yJ1_charAt_3b067.cls = RJ1 ∧ yJ1_charAt_3b067.cls ≠ "java/lang/invoke/MethodHandle" ∧ yJ1_charAt_3b067.cls ≠ "java/lang/invoke/VarHandle" ∧ (parseMethodDescriptor yJ1_charAt_3b067.desc).map (fun d => d.parameters.length) = some 2 := by decide +kernel
set_option maxHeartbeats 4000000 in
set_option maxRecDepth 100000 in
theorem c_J1_charAt_3b067 (l : Launch) (g : gG) (i : Nat) (q : String × Nat × String × List Int32) (I : gI) (R : gR) (J : gJ) (AI : gI) (AJ : gJ) (AR : gR) (k : Int) (zk : zr k) (hq : sTab[i]? = some q) (h0 : 0 ≤ k) (h1 : k < ((q.2.2.2.length : Nat) : Int)) : gMet l g yJ1_charAt_3b067 wsJ1_charAt_3b067 rmJ1_charAt_3b067 [.ref (gSV g i), .int (iI k)] (I, R, J, AI, AJ, AR) (gQi g (fun (z : Int) (w : gS) => I = w.1 ∧ R = w.2.1 ∧ J = w.2.2.1 ∧ AI = w.2.2.2.1 ∧ AJ = w.2.2.2.2.1 ∧ AR = w.2.2.2.2.2 ∧ (0 ≤ z ∧ z ≤ 65535))) := by
  refine gStart (cc := cJ1_charAt_3b067) (maxL := 2) (ret := (some (.char))) (by decide) rfl (Nat.le_of_ble_eq_true rfl) ?_
  intro p e s m below meth c ls F hr hlk hH hz hS hl
  have hl : lv_has ls 2 [(0, .ref (gSV g i)), (1, .int (iI k))] := hl
  have hS : va_S (gA g) s.heap s.heap [] := hS
  obtain ⟨H, hHe⟩ : ∃ H : Heap, H = s.heap := ⟨_, rfl⟩
  obtain ⟨locs, hlo⟩ : ∃ k : List Loc, k = [] := ⟨_, rfl⟩
  have hH : gH g I R J AI AJ AR H := by rw [hHe]; exact hH
  have hS : va_S (gA g) s.heap H locs := by rw [hHe, hlo]; exact hS
  suffices hw : W p l e rmJ1_charAt_3b067 s m ([.ref (gSV g i), .int (iI k)] : List Value).toArray below meth c H locs 0 0 (MQ below (gQi g (fun (z : Int) (w : gS) => I = w.1 ∧ R = w.2.1 ∧ J = w.2.2.1 ∧ AI = w.2.2.2.1 ∧ AJ = w.2.2.2.2.1 ∧ AR = w.2.2.2.2.2 ∧ (0 ≤ z ∧ z ≤ 65535))) ([.ref (gSV g i), .int (iI k)] : List Value).toArray s 0 0 (gA g)) (F0 m 0 ls []) by
    rw [hHe, hlo] at hw; exact hw
  clear hHe hlo
  have hlen := sTab_len hq
  refine lv_iload_n F.1 F.2.1 dJ1_charAt_3b067_0 rfl (lv_at hl 1 rfl) ?_
  refine lv_aload_n F.1 F.2.1 dJ1_charAt_3b067_1 rfl (lv_at hl 0 rfl) ?_
  refine va_tlen F.1 F.2.1 (F.2.2.2.2.2.2.1 i _ hq).2.2.2.2 hS (v := iI ((q.2.2.2.length : Nat) : Int)) (Int32.ofInt_eq_ofNat).symm dJ1_charAt_3b067_2 ?_
  refine g_callv (g_runS (As := [.int (iI k), .int (iI (((q.2.2.2.length : Nat) : Int)))]) (rest := []) F hl.1 hH hS hz (c_J0_checkIndex_df160 l g  I R J AI AJ AR k ((q.2.2.2.length : Nat) : Int) zk ⟨by omega, by omega⟩ (by omega) (by omega)) (va_cwS 2 F.2.2.2.2.1 gJ1_charAt_3b067_J0_checkIndex_df160 rfl rfl rfl hdJ0_checkIndex_df160.2 ⟨Nat.le_of_ble_eq_true rfl, Nat.le_of_ble_eq_true rfl⟩) rfl rfl (Nat.le_of_ble_eq_true rfl) dJ1_charAt_3b067_3 ⟨Nat.zero_le _, Nat.zero_le _⟩) hS (fun I_1 R_2 J_3 AI_4 AJ_5 AR_6 H locs hp_7 hH hS => ?_)
  dsimp only at hp_7
  obtain ⟨rfl, rfl, rfl, rfl, rfl, rfl⟩ := hp_7
  refine lv_aload_n F.1 F.2.1 dJ1_charAt_3b067_6 rfl (lv_at hl 0 rfl) ?_
  refine lv_iload_n F.1 F.2.1 dJ1_charAt_3b067_7 rfl (lv_at hl 1 rfl) ?_
  have hx8 : 0 ≤ k ∧ k < ((q.2.2.2.length : Nat) : Int) ∧ k ≤ 2147483647 := ⟨by omega, by omega, by omega⟩
  refine va_tb F.1 F.2.1 (F.2.2.2.2.2.2.1 i _ hq).2.2.2.2 hS (iI_in hx8.1 hx8.2.1 hx8.2.2) rfl dJ1_charAt_3b067_8 ?_
  refine z_top (fun v_8 zv_8 ev_8 => ?_)
  refine z_sipush F dJ1_charAt_3b067_9 (by decide) ?_
  refine lv_iand F.1 F.2.1 dJ1_charAt_3b067_12 ?_
  refine z_top (fun v_9 zv_9 ev_9 => ?_)
  refine lv_i2c F.1 F.2.1 dJ1_charAt_3b067_13 rfl ?_
  refine z_top (fun v_10 zv_10 ev_10 => ?_)
  have hch := z_i2c ev_10
  exact g_nret F hr hlk hH hS hz (nar_char (by omega) (by omega)) zv_10 ⟨rfl, rfl, rfl, rfl, rfl, rfl, by first | omega | rfl | (dsimp only; omega)⟩ dJ1_charAt_3b067_14

def rmJ0_charAt_5068e : Room := { frames := 3, cells := 0, slots := 0, locals := 64 }
theorem hdJ0_charAt_5068e : yJ0_charAt_5068e.cls = RJ0 ∧ yJ0_charAt_5068e.cls ≠ "java/lang/invoke/MethodHandle" ∧ yJ0_charAt_5068e.cls ≠ "java/lang/invoke/VarHandle" ∧ (parseMethodDescriptor yJ0_charAt_5068e.desc).map (fun d => d.parameters.length) = some 1 := by decide +kernel
set_option maxHeartbeats 4000000 in
set_option maxRecDepth 100000 in
theorem c_J0_charAt_5068e (l : Launch) (g : gG) (i : Nat) (q : String × Nat × String × List Int32) (I : gI) (R : gR) (J : gJ) (AI : gI) (AJ : gJ) (AR : gR) (k : Int) (zk : zr k) (hq : sTab[i]? = some q) (h0 : 0 ≤ k) (h1 : k < ((q.2.2.2.length : Nat) : Int)) : gMet l g yJ0_charAt_5068e wsJ0_charAt_5068e rmJ0_charAt_5068e [.ref (gSK g i), .int (iI k)] (I, R, J, AI, AJ, AR) (gQi g (fun (z : Int) (w : gS) => I = w.1 ∧ R = w.2.1 ∧ J = w.2.2.1 ∧ AI = w.2.2.2.1 ∧ AJ = w.2.2.2.2.1 ∧ AR = w.2.2.2.2.2 ∧ (0 ≤ z ∧ z ≤ 65535))) := by
  refine gStart (cc := cJ0_charAt_5068e) (maxL := 2) (ret := (some (.char))) (by decide) rfl (Nat.le_of_ble_eq_true rfl) ?_
  intro p e s m below meth c ls F hr hlk hH hz hS hl
  have hl : lv_has ls 2 [(0, .ref (gSK g i)), (1, .int (iI k))] := hl
  have hS : va_S (gA g) s.heap s.heap [] := hS
  obtain ⟨H, hHe⟩ : ∃ H : Heap, H = s.heap := ⟨_, rfl⟩
  obtain ⟨locs, hlo⟩ : ∃ k : List Loc, k = [] := ⟨_, rfl⟩
  have hH : gH g I R J AI AJ AR H := by rw [hHe]; exact hH
  have hS : va_S (gA g) s.heap H locs := by rw [hHe, hlo]; exact hS
  suffices hw : W p l e rmJ0_charAt_5068e s m ([.ref (gSK g i), .int (iI k)] : List Value).toArray below meth c H locs 0 0 (MQ below (gQi g (fun (z : Int) (w : gS) => I = w.1 ∧ R = w.2.1 ∧ J = w.2.2.1 ∧ AI = w.2.2.2.1 ∧ AJ = w.2.2.2.2.1 ∧ AR = w.2.2.2.2.2 ∧ (0 ≤ z ∧ z ≤ 65535))) ([.ref (gSK g i), .int (iI k)] : List Value).toArray s 0 0 (gA g)) (F0 m 0 ls []) by
    rw [hHe, hlo] at hw; exact hw
  clear hHe hlo
  have hlen := sTab_len hq
  refine lv_aload_n F.1 F.2.1 dJ0_charAt_5068e_0 rfl (lv_at hl 0 rfl) ?_
  refine g_calli (g_runVS (As := []) (rest := []) F hl.1 hH hS hz hq (c_J0_isLatin1_aae02 l g i q I R J AI AJ AR  hq) (cwV 0 F.2.2.2.2.1 gJ0_charAt_5068e_J0_isLatin1_aae02 rfl rfl rfl hdJ0_isLatin1_aae02 ⟨Nat.le_of_ble_eq_true rfl, Nat.le_of_ble_eq_true rfl⟩) rfl rfl (Nat.le_of_ble_eq_true rfl) dJ0_charAt_5068e_1 ⟨Nat.zero_le _, Nat.zero_le _⟩) hS (fun v_7 I_1 R_2 J_3 AI_4 AJ_5 AR_6 H locs zv_7 hp_8 hH hS => ?_)
  dsimp only at hp_8
  obtain ⟨rfl, rfl, rfl, rfl, rfl, rfl, q_9⟩ := hp_8
  subst q_9
  refine z_if_eq (tgt := 16) F dJ0_charAt_5068e_4 (by decide) ⟨by decide, by decide⟩ (fun c_10 => ?_) (fun c_10 => ?_)
  · exact absurd trivial (by omega)
  · refine lv_aload_n F.1 F.2.1 dJ0_charAt_5068e_7 rfl (lv_at hl 0 rfl) ?_
    refine vk_getf F.1 F.2.1 (F.2.2.2.2.2.2.1 i _ hq).2.2.2.1 hS F.2.2.2.1 (F.2.2.2.2.1 _ (List.mem_of_getElem? (i := 1) rfl)) (fun _ h => h) dJ0_charAt_5068e_8 ?_
    refine lv_iload_n F.1 F.2.1 dJ0_charAt_5068e_11 rfl (lv_at hl 1 rfl) ?_
    refine g_calli (g_runS (As := [.ref (gSV g i), .int (iI k)]) (rest := []) F hl.1 hH hS hz (c_J1_charAt_3b067 l g i q I R J AI AJ AR k zk hq (by omega) (by omega)) (va_cwS 2 F.2.2.2.2.1 gJ0_charAt_5068e_J1_charAt_3b067 rfl rfl rfl hdJ1_charAt_3b067.2 ⟨Nat.le_of_ble_eq_true rfl, Nat.le_of_ble_eq_true rfl⟩) rfl rfl (Nat.le_of_ble_eq_true rfl) dJ0_charAt_5068e_12 ⟨Nat.zero_le _, Nat.zero_le _⟩) hS (fun v_17 I_11 R_12 J_13 AI_14 AJ_15 AR_16 H locs zv_17 hp_18 hH hS => ?_)
    dsimp only at hp_18
    obtain ⟨rfl, rfl, rfl, rfl, rfl, rfl, q_19⟩ := hp_18
    exact g_nret F hr hlk hH hS hz (nar_char (by omega) (by omega)) zv_17 ⟨rfl, rfl, rfl, rfl, rfl, rfl, by first | omega | rfl | (dsimp only; omega)⟩ dJ0_charAt_5068e_15

def rmJ1_canEncode_9a6ad : Room := { frames := 0, cells := 0, slots := 0, locals := 0 }
theorem hdJ1_canEncode_9a6ad : yJ1_canEncode_9a6ad.cls = RJ1 ∧ yJ1_canEncode_9a6ad.cls ≠ "java/lang/invoke/MethodHandle" ∧ yJ1_canEncode_9a6ad.cls ≠ "java/lang/invoke/VarHandle" ∧ (parseMethodDescriptor yJ1_canEncode_9a6ad.desc).map (fun d => d.parameters.length) = some 1 := by decide +kernel
set_option maxHeartbeats 4000000 in
set_option maxRecDepth 100000 in
theorem c_J1_canEncode_9a6ad (l : Launch) (g : gG)  (I : gI) (R : gR) (J : gJ) (AI : gI) (AJ : gJ) (AR : gR) (k : Int) (zk : zr k) : gMet l g yJ1_canEncode_9a6ad wsJ1_canEncode_9a6ad rmJ1_canEncode_9a6ad [.int (iI k)] (I, R, J, AI, AJ, AR) (gQi g (fun (z : Int) (w : gS) => I = w.1 ∧ R = w.2.1 ∧ J = w.2.2.1 ∧ AI = w.2.2.2.1 ∧ AJ = w.2.2.2.2.1 ∧ AR = w.2.2.2.2.2 ∧ (z = 0 ∨ z = 1))) := by
  refine gStart (cc := cJ1_canEncode_9a6ad) (maxL := 1) (ret := (some (.boolean))) (by decide) rfl (Nat.le_of_ble_eq_true rfl) ?_
  intro p e s m below meth c ls F hr hlk hH hz hS hl
  have hl : lv_has ls 1 [(0, .int (iI k))] := hl
  have hS : va_S (gA g) s.heap s.heap [] := hS
  obtain ⟨H, hHe⟩ : ∃ H : Heap, H = s.heap := ⟨_, rfl⟩
  obtain ⟨locs, hlo⟩ : ∃ k : List Loc, k = [] := ⟨_, rfl⟩
  have hH : gH g I R J AI AJ AR H := by rw [hHe]; exact hH
  have hS : va_S (gA g) s.heap H locs := by rw [hHe, hlo]; exact hS
  suffices hw : W p l e rmJ1_canEncode_9a6ad s m ([.int (iI k)] : List Value).toArray below meth c H locs 0 0 (MQ below (gQi g (fun (z : Int) (w : gS) => I = w.1 ∧ R = w.2.1 ∧ J = w.2.2.1 ∧ AI = w.2.2.2.1 ∧ AJ = w.2.2.2.2.1 ∧ AR = w.2.2.2.2.2 ∧ (z = 0 ∨ z = 1))) ([.int (iI k)] : List Value).toArray s 0 0 (gA g)) (F0 m 0 ls []) by
    rw [hHe, hlo] at hw; exact hw
  clear hHe hlo
  refine lv_iload_n F.1 F.2.1 dJ1_canEncode_9a6ad_0 rfl (lv_at hl 0 rfl) ?_
  refine z_if_lt (tgt := 15) F dJ1_canEncode_9a6ad_1 (by decide) zk (fun c_1 => ?_) (fun c_1 => ?_)
  · refine z_iconst F dJ1_canEncode_9a6ad_15 ?_
    exact g_zret F hr hlk hH hS hz (by omega) ⟨rfl, rfl, rfl, rfl, rfl, rfl, by first | omega | rfl | (dsimp only; omega)⟩ dJ1_canEncode_9a6ad_16
  · refine lv_iload_n F.1 F.2.1 dJ1_canEncode_9a6ad_4 rfl (lv_at hl 0 rfl) ?_
    refine z_sipush F dJ1_canEncode_9a6ad_5 (by decide) ?_
    refine z_icmp_gt (tgt := 15) F dJ1_canEncode_9a6ad_8 (by decide) zk ⟨by decide, by decide⟩ (fun c_2 => ?_) (fun c_2 => ?_)
    · refine z_iconst F dJ1_canEncode_9a6ad_15 ?_
      exact g_zret F hr hlk hH hS hz (by omega) ⟨rfl, rfl, rfl, rfl, rfl, rfl, by first | omega | rfl | (dsimp only; omega)⟩ dJ1_canEncode_9a6ad_16
    · refine z_iconst F dJ1_canEncode_9a6ad_11 ?_
      refine z_goto (tgt := 16) F dJ1_canEncode_9a6ad_12 (by decide) ?_
      exact g_zret F hr hlk hH hS hz (by omega) ⟨rfl, rfl, rfl, rfl, rfl, rfl, by first | omega | rfl | (dsimp only; omega)⟩ dJ1_canEncode_9a6ad_16

def rmJ1_indexOfChar_4cfef : Room := { frames := 0, cells := 0, slots := 0, locals := 0 }
theorem hdJ1_indexOfChar_4cfef : yJ1_indexOfChar_4cfef.cls = RJ1 ∧ yJ1_indexOfChar_4cfef.cls ≠ "java/lang/invoke/MethodHandle" ∧ yJ1_indexOfChar_4cfef.cls ≠ "java/lang/invoke/VarHandle" ∧ (parseMethodDescriptor yJ1_indexOfChar_4cfef.desc).map (fun d => d.parameters.length) = some 4 := by decide +kernel
set_option maxHeartbeats 4000000 in
set_option maxRecDepth 100000 in
theorem c_J1_indexOfChar_4cfef (l : Launch) (g : gG) (i : Nat) (q : String × Nat × String × List Int32) (I : gI) (R : gR) (J : gJ) (AI : gI) (AJ : gJ) (AR : gR) (ch : Int) (fr : Int) (mx : Int) (zch : zr ch) (zfr : zr fr) (zmx : zr mx) (hq : sTab[i]? = some q) (h0 : 0 ≤ fr) (h1 : mx ≤ ((q.2.2.2.length : Nat) : Int)) (h2 : fr ≤ mx) : gMet l g yJ1_indexOfChar_4cfef wsJ1_indexOfChar_4cfef rmJ1_indexOfChar_4cfef [.ref (gSV g i), .int (iI ch), .int (iI fr), .int (iI mx)] (I, R, J, AI, AJ, AR) (gQi g (fun (z : Int) (w : gS) => I = w.1 ∧ R = w.2.1 ∧ J = w.2.2.1 ∧ AI = w.2.2.2.1 ∧ AJ = w.2.2.2.2.1 ∧ AR = w.2.2.2.2.2 ∧ (-1 ≤ z ∧ z ≤ 2000000000))) := by
  refine gStart (cc := cJ1_indexOfChar_4cfef) (maxL := 6) (ret := (some (.int))) (by decide) rfl (Nat.le_of_ble_eq_true rfl) ?_
  intro p e s m below meth c ls F hr hlk hH hz hS hl
  have hl : lv_has ls 6 [(0, .ref (gSV g i)), (1, .int (iI ch)), (2, .int (iI fr)), (3, .int (iI mx))] := hl
  have hS : va_S (gA g) s.heap s.heap [] := hS
  obtain ⟨H, hHe⟩ : ∃ H : Heap, H = s.heap := ⟨_, rfl⟩
  obtain ⟨locs, hlo⟩ : ∃ k : List Loc, k = [] := ⟨_, rfl⟩
  have hH : gH g I R J AI AJ AR H := by rw [hHe]; exact hH
  have hS : va_S (gA g) s.heap H locs := by rw [hHe, hlo]; exact hS
  suffices hw : W p l e rmJ1_indexOfChar_4cfef s m ([.ref (gSV g i), .int (iI ch), .int (iI fr), .int (iI mx)] : List Value).toArray below meth c H locs 0 0 (MQ below (gQi g (fun (z : Int) (w : gS) => I = w.1 ∧ R = w.2.1 ∧ J = w.2.2.1 ∧ AI = w.2.2.2.1 ∧ AJ = w.2.2.2.2.1 ∧ AR = w.2.2.2.2.2 ∧ (-1 ≤ z ∧ z ≤ 2000000000))) ([.ref (gSV g i), .int (iI ch), .int (iI fr), .int (iI mx)] : List Value).toArray s 0 0 (gA g)) (F0 m 0 ls []) by
    rw [hHe, hlo] at hw; exact hw
  clear hHe hlo
  have hlen := sTab_len hq
  refine lv_iload_n F.1 F.2.1 dJ1_indexOfChar_4cfef_0 rfl (lv_at hl 1 rfl) ?_
  refine lv_i2b F.1 F.2.1 dJ1_indexOfChar_4cfef_1 rfl ?_
  refine z_top (fun v_1 zv_1 ev_1 => ?_)
  refine lv_istore (lv' := [(4, .int (iI v_1)), (0, .ref (gSV g i)), (1, .int (iI ch)), (2, .int (iI fr)), (3, .int (iI mx))]) F.1 F.2.1 dJ1_indexOfChar_4cfef_2 hl (by decide) rfl (fun ls hl => ?_)
  refine lv_iload_n F.1 F.2.1 dJ1_indexOfChar_4cfef_4 rfl (lv_at hl 3 rfl) ?_
  refine lv_istore (lv' := [(5, .int (iI fr)), (4, .int (iI v_1)), (0, .ref (gSV g i)), (1, .int (iI ch)), (2, .int (iI fr)), (3, .int (iI mx))]) F.1 F.2.1 dJ1_indexOfChar_4cfef_5 hl (by decide) rfl (fun ls hl => ?_)
  have cut_7_1 : ∀ (NN : Nat) (j : Int) (H : Heap) (locs : List Loc) (ls : Array Slot), zr j → (0 ≤ j ∧ j ≤ mx) → (mx - j) < ((NN : Nat) : Int) → gH g I R J AI AJ AR H → va_S (gA g) s.heap H locs → lv_has ls 6 [(5, .int (iI j)), (4, .int (iI v_1)), (0, .ref (gSV g i)), (1, .int (iI ch)), (2, .int (iI fr)), (3, .int (iI mx))] → W p l e rmJ1_indexOfChar_4cfef s m ([.ref (gSV g i), .int (iI ch), .int (iI fr), .int (iI mx)] : List Value).toArray below meth c H locs 0 0 (MQ below (gQi g (fun (z : Int) (w : gS) => I = w.1 ∧ R = w.2.1 ∧ J = w.2.2.1 ∧ AI = w.2.2.2.1 ∧ AJ = w.2.2.2.2.1 ∧ AR = w.2.2.2.2.2 ∧ (-1 ≤ z ∧ z ≤ 2000000000))) ([.ref (gSV g i), .int (iI ch), .int (iI fr), .int (iI mx)] : List Value).toArray s 0 0 (gA g)) (F0 m 7 ls []) := by
    intro NN7
    induction NN7 with
    | zero =>
      intro j H locs ls zj hj hm7 hH hS hl
      exact absurd hm7 (by omega)
    | succ NN7 ih7 =>
      intro j H locs ls zj hj hm7 hH hS hl
      refine lv_iload F.1 F.2.1 dJ1_indexOfChar_4cfef_7 (lv_at hl 0 rfl) ?_
      refine lv_iload_n F.1 F.2.1 dJ1_indexOfChar_4cfef_9 rfl (lv_at hl 5 rfl) ?_
      refine z_icmp_ge (tgt := 31) F dJ1_indexOfChar_4cfef_10 (by decide) zj zmx (fun c_3 => ?_) (fun c_3 => ?_)
      · refine z_iconst F dJ1_indexOfChar_4cfef_31 ?_
        exact g_iret F hr hlk hH hS hz ⟨by decide, by decide⟩ ⟨rfl, rfl, rfl, rfl, rfl, rfl, by first | omega | rfl | (dsimp only; omega)⟩ dJ1_indexOfChar_4cfef_32
      · refine lv_aload_n F.1 F.2.1 dJ1_indexOfChar_4cfef_13 rfl (lv_at hl 2 rfl) ?_
        refine lv_iload F.1 F.2.1 dJ1_indexOfChar_4cfef_14 (lv_at hl 0 rfl) ?_
        have hx16 : 0 ≤ j ∧ j < ((q.2.2.2.length : Nat) : Int) ∧ j ≤ 2147483647 := ⟨by omega, by omega, by omega⟩
        refine va_tb F.1 F.2.1 (F.2.2.2.2.2.2.1 i _ hq).2.2.2.2 hS (iI_in hx16.1 hx16.2.1 hx16.2.2) rfl dJ1_indexOfChar_4cfef_16 ?_
        refine z_top (fun v_4 zv_4 ev_4 => ?_)
        refine lv_iload F.1 F.2.1 dJ1_indexOfChar_4cfef_17 (lv_at hl 1 rfl) ?_
        refine z_icmp_ne (tgt := 25) F dJ1_indexOfChar_4cfef_19 (by decide) zv_4 zv_1 (fun c_5 => ?_) (fun c_5 => ?_)
        · refine z_iinc (lv' := [(5, .int (iI (j + 1))), (4, .int (iI v_1)), (0, .ref (gSV g i)), (1, .int (iI ch)), (2, .int (iI fr)), (3, .int (iI mx))]) F dJ1_indexOfChar_4cfef_25 hl (k := 0) rfl (by decide) rfl (fun ls hl => ?_)
          refine z_goto (tgt := 7) F dJ1_indexOfChar_4cfef_28 (by decide) ?_
          exact ih7 (j + 1) H locs ls ⟨by omega, by omega⟩ (by omega) (by omega) hH hS (lv_sub hl [0, 1, 2, 3, 4, 5] rfl)
        · refine lv_iload F.1 F.2.1 dJ1_indexOfChar_4cfef_22 (lv_at hl 0 rfl) ?_
          exact g_iret F hr hlk hH hS hz zj ⟨rfl, rfl, rfl, rfl, rfl, rfl, by first | omega | rfl | (dsimp only; omega)⟩ dJ1_indexOfChar_4cfef_24
  exact cut_7_1 (((mx - fr) + 1 : Int).toNat) fr H locs ls zfr (by omega) (by omega) hH hS (lv_sub hl [0, 1, 2, 3, 4, 5] rfl)

def rmJ1_indexOf_4cfef : Room := { frames := 1, cells := 0, slots := 0, locals := 40 }
theorem hdJ1_indexOf_4cfef : yJ1_indexOf_4cfef.cls = RJ1 ∧ yJ1_indexOf_4cfef.cls ≠ "java/lang/invoke/MethodHandle" ∧ yJ1_indexOf_4cfef.cls ≠ "java/lang/invoke/VarHandle" ∧ (parseMethodDescriptor yJ1_indexOf_4cfef.desc).map (fun d => d.parameters.length) = some 4 := by decide +kernel
set_option maxHeartbeats 4000000 in
set_option maxRecDepth 100000 in
theorem c_J1_indexOf_4cfef (l : Launch) (g : gG) (i : Nat) (q : String × Nat × String × List Int32) (I : gI) (R : gR) (J : gJ) (AI : gI) (AJ : gJ) (AR : gR) (ch : Int) (fr : Int) (mx : Int) (zch : zr ch) (zfr : zr fr) (zmx : zr mx) (hq : sTab[i]? = some q) (h0 : fr = 0) (h1 : mx = ((q.2.2.2.length : Nat) : Int)) : gMet l g yJ1_indexOf_4cfef wsJ1_indexOf_4cfef rmJ1_indexOf_4cfef [.ref (gSV g i), .int (iI ch), .int (iI fr), .int (iI mx)] (I, R, J, AI, AJ, AR) (gQi g (fun (z : Int) (w : gS) => I = w.1 ∧ R = w.2.1 ∧ J = w.2.2.1 ∧ AI = w.2.2.2.1 ∧ AJ = w.2.2.2.2.1 ∧ AR = w.2.2.2.2.2 ∧ (-1 ≤ z ∧ z ≤ 2000000000))) := by
  refine gStart (cc := cJ1_indexOf_4cfef) (maxL := 4) (ret := (some (.int))) (by decide) rfl (Nat.le_of_ble_eq_true rfl) ?_
  intro p e s m below meth c ls F hr hlk hH hz hS hl
  have hl : lv_has ls 4 [(0, .ref (gSV g i)), (1, .int (iI ch)), (2, .int (iI fr)), (3, .int (iI mx))] := hl
  have hS : va_S (gA g) s.heap s.heap [] := hS
  obtain ⟨H, hHe⟩ : ∃ H : Heap, H = s.heap := ⟨_, rfl⟩
  obtain ⟨locs, hlo⟩ : ∃ k : List Loc, k = [] := ⟨_, rfl⟩
  have hH : gH g I R J AI AJ AR H := by rw [hHe]; exact hH
  have hS : va_S (gA g) s.heap H locs := by rw [hHe, hlo]; exact hS
  suffices hw : W p l e rmJ1_indexOf_4cfef s m ([.ref (gSV g i), .int (iI ch), .int (iI fr), .int (iI mx)] : List Value).toArray below meth c H locs 0 0 (MQ below (gQi g (fun (z : Int) (w : gS) => I = w.1 ∧ R = w.2.1 ∧ J = w.2.2.1 ∧ AI = w.2.2.2.1 ∧ AJ = w.2.2.2.2.1 ∧ AR = w.2.2.2.2.2 ∧ (-1 ≤ z ∧ z ≤ 2000000000))) ([.ref (gSV g i), .int (iI ch), .int (iI fr), .int (iI mx)] : List Value).toArray s 0 0 (gA g)) (F0 m 0 ls []) by
    rw [hHe, hlo] at hw; exact hw
  clear hHe hlo
  have hlen := sTab_len hq
  refine lv_iload_n F.1 F.2.1 dJ1_indexOf_4cfef_0 rfl (lv_at hl 1 rfl) ?_
  refine g_calli (g_runS (As := [.int (iI ch)]) (rest := []) F hl.1 hH hS hz (c_J1_canEncode_9a6ad l g  I R J AI AJ AR ch zch) (va_cwS 1 F.2.2.2.2.1 gJ1_indexOf_4cfef_J1_canEncode_9a6ad rfl rfl rfl hdJ1_canEncode_9a6ad.2 ⟨Nat.le_of_ble_eq_true rfl, Nat.le_of_ble_eq_true rfl⟩) rfl rfl (Nat.le_of_ble_eq_true rfl) dJ1_indexOf_4cfef_1 ⟨Nat.zero_le _, Nat.zero_le _⟩) hS (fun v_7 I_1 R_2 J_3 AI_4 AJ_5 AR_6 H locs zv_7 hp_8 hH hS => ?_)
  dsimp only at hp_8
  obtain ⟨rfl, rfl, rfl, rfl, rfl, rfl, q_9⟩ := hp_8
  refine z_if_ne (tgt := 9) F dJ1_indexOf_4cfef_4 (by decide) zv_7 (fun c_10 => ?_) (fun c_10 => ?_)
  · refine lv_iload_n F.1 F.2.1 dJ1_indexOf_4cfef_9 rfl (lv_at hl 2 rfl) ?_
    refine z_iconst F dJ1_indexOf_4cfef_10 ?_
    refine z_mmax (rest := []) F hl.1 (List.mem_of_getElem? (i := 1) rfl) (List.mem_of_getElem? (i := 2) rfl) (List.mem_of_getElem? (i := 3) rfl) (List.mem_of_getElem? (i := 4) rfl) (Nat.le_of_ble_eq_true rfl) (Nat.le_of_ble_eq_true rfl) (Nat.zero_le _) (Nat.zero_le _) zfr ⟨by decide, by decide⟩ dJ1_indexOf_4cfef_11 (fun v_11 zv_11 qv_11 => ?_)
    refine lv_istore_n (lv' := [(2, .int (iI v_11)), (0, .ref (gSV g i)), (1, .int (iI ch)), (3, .int (iI mx))]) F.1 F.2.1 dJ1_indexOf_4cfef_14 rfl hl (by decide) rfl (fun ls hl => ?_)
    refine lv_iload_n F.1 F.2.1 dJ1_indexOf_4cfef_15 rfl (lv_at hl 3 rfl) ?_
    refine lv_aload_n F.1 F.2.1 dJ1_indexOf_4cfef_16 rfl (lv_at hl 1 rfl) ?_
    refine va_tlen F.1 F.2.1 (F.2.2.2.2.2.2.1 i _ hq).2.2.2.2 hS (v := iI ((q.2.2.2.length : Nat) : Int)) (Int32.ofInt_eq_ofNat).symm dJ1_indexOf_4cfef_17 ?_
    refine z_mmin (rest := []) F hl.1 (List.mem_of_getElem? (i := 5) rfl) (List.mem_of_getElem? (i := 6) rfl) (List.mem_of_getElem? (i := 3) rfl) (List.mem_of_getElem? (i := 7) rfl) (Nat.le_of_ble_eq_true rfl) (Nat.le_of_ble_eq_true rfl) (Nat.zero_le _) (Nat.zero_le _) zmx ⟨by omega, by omega⟩ dJ1_indexOf_4cfef_18 (fun v_12 zv_12 qv_12 => ?_)
    refine lv_istore_n (lv' := [(3, .int (iI v_12)), (2, .int (iI v_11)), (0, .ref (gSV g i)), (1, .int (iI ch))]) F.1 F.2.1 dJ1_indexOf_4cfef_21 rfl hl (by decide) rfl (fun ls hl => ?_)
    refine lv_iload_n F.1 F.2.1 dJ1_indexOf_4cfef_22 rfl (lv_at hl 1 rfl) ?_
    refine lv_iload_n F.1 F.2.1 dJ1_indexOf_4cfef_23 rfl (lv_at hl 0 rfl) ?_
    refine z_icmp_lt (tgt := 29) F dJ1_indexOf_4cfef_24 (by decide) zv_11 zv_12 (fun c_13 => ?_) (fun c_13 => ?_)
    · refine lv_aload_n F.1 F.2.1 dJ1_indexOf_4cfef_29 rfl (lv_at hl 2 rfl) ?_
      refine lv_iload_n F.1 F.2.1 dJ1_indexOf_4cfef_30 rfl (lv_at hl 3 rfl) ?_
      refine lv_iload_n F.1 F.2.1 dJ1_indexOf_4cfef_31 rfl (lv_at hl 1 rfl) ?_
      refine lv_iload_n F.1 F.2.1 dJ1_indexOf_4cfef_32 rfl (lv_at hl 0 rfl) ?_
      refine g_calli (g_runS (As := [.ref (gSV g i), .int (iI ch), .int (iI v_11), .int (iI v_12)]) (rest := []) F hl.1 hH hS hz (c_J1_indexOfChar_4cfef l g i q I R J AI AJ AR ch v_11 v_12 zch zv_11 zv_12 hq (by omega) (by omega) (by omega)) (va_cwS 4 F.2.2.2.2.1 gJ1_indexOf_4cfef_J1_indexOfChar_4cfef rfl rfl rfl hdJ1_indexOfChar_4cfef.2 ⟨Nat.le_of_ble_eq_true rfl, Nat.le_of_ble_eq_true rfl⟩) rfl rfl (Nat.le_of_ble_eq_true rfl) dJ1_indexOf_4cfef_33 ⟨Nat.zero_le _, Nat.zero_le _⟩) hS (fun v_20 I_14 R_15 J_16 AI_17 AJ_18 AR_19 H locs zv_20 hp_21 hH hS => ?_)
      dsimp only at hp_21
      obtain ⟨rfl, rfl, rfl, rfl, rfl, rfl, q_22⟩ := hp_21
      exact g_iret F hr hlk hH hS hz zv_20 ⟨rfl, rfl, rfl, rfl, rfl, rfl, by first | omega | rfl | (dsimp only; omega)⟩ dJ1_indexOf_4cfef_36
    · refine z_iconst F dJ1_indexOf_4cfef_27 ?_
      exact g_iret F hr hlk hH hS hz ⟨by decide, by decide⟩ ⟨rfl, rfl, rfl, rfl, rfl, rfl, by first | omega | rfl | (dsimp only; omega)⟩ dJ1_indexOf_4cfef_28
  · refine z_iconst F dJ1_indexOf_4cfef_7 ?_
    exact g_iret F hr hlk hH hS hz ⟨by decide, by decide⟩ ⟨rfl, rfl, rfl, rfl, rfl, rfl, by first | omega | rfl | (dsimp only; omega)⟩ dJ1_indexOf_4cfef_8

def rmJ0_indexOf_7cf53 : Room := { frames := 2, cells := 0, slots := 0, locals := 63 }
theorem hdJ0_indexOf_7cf53 : yJ0_indexOf_7cf53.cls = RJ0 ∧ yJ0_indexOf_7cf53.cls ≠ "java/lang/invoke/MethodHandle" ∧ yJ0_indexOf_7cf53.cls ≠ "java/lang/invoke/VarHandle" ∧ (parseMethodDescriptor yJ0_indexOf_7cf53.desc).map (fun d => d.parameters.length) = some 2 := by decide +kernel
set_option maxHeartbeats 4000000 in
set_option maxRecDepth 100000 in
theorem c_J0_indexOf_7cf53 (l : Launch) (g : gG) (i : Nat) (q : String × Nat × String × List Int32) (I : gI) (R : gR) (J : gJ) (AI : gI) (AJ : gJ) (AR : gR) (ch : Int) (fr : Int) (zch : zr ch) (zfr : zr fr) (hq : sTab[i]? = some q) (h0 : fr = 0) : gMet l g yJ0_indexOf_7cf53 wsJ0_indexOf_7cf53 rmJ0_indexOf_7cf53 [.ref (gSK g i), .int (iI ch), .int (iI fr)] (I, R, J, AI, AJ, AR) (gQi g (fun (z : Int) (w : gS) => I = w.1 ∧ R = w.2.1 ∧ J = w.2.2.1 ∧ AI = w.2.2.2.1 ∧ AJ = w.2.2.2.2.1 ∧ AR = w.2.2.2.2.2 ∧ (-1 ≤ z ∧ z ≤ 2000000000))) := by
  refine gStart (cc := cJ0_indexOf_7cf53) (maxL := 3) (ret := (some (.int))) (by decide) rfl (Nat.le_of_ble_eq_true rfl) ?_
  intro p e s m below meth c ls F hr hlk hH hz hS hl
  have hl : lv_has ls 3 [(0, .ref (gSK g i)), (1, .int (iI ch)), (2, .int (iI fr))] := hl
  have hS : va_S (gA g) s.heap s.heap [] := hS
  obtain ⟨H, hHe⟩ : ∃ H : Heap, H = s.heap := ⟨_, rfl⟩
  obtain ⟨locs, hlo⟩ : ∃ k : List Loc, k = [] := ⟨_, rfl⟩
  have hH : gH g I R J AI AJ AR H := by rw [hHe]; exact hH
  have hS : va_S (gA g) s.heap H locs := by rw [hHe, hlo]; exact hS
  suffices hw : W p l e rmJ0_indexOf_7cf53 s m ([.ref (gSK g i), .int (iI ch), .int (iI fr)] : List Value).toArray below meth c H locs 0 0 (MQ below (gQi g (fun (z : Int) (w : gS) => I = w.1 ∧ R = w.2.1 ∧ J = w.2.2.1 ∧ AI = w.2.2.2.1 ∧ AJ = w.2.2.2.2.1 ∧ AR = w.2.2.2.2.2 ∧ (-1 ≤ z ∧ z ≤ 2000000000))) ([.ref (gSK g i), .int (iI ch), .int (iI fr)] : List Value).toArray s 0 0 (gA g)) (F0 m 0 ls []) by
    rw [hHe, hlo] at hw; exact hw
  clear hHe hlo
  have hlen := sTab_len hq
  refine lv_aload_n F.1 F.2.1 dJ0_indexOf_7cf53_0 rfl (lv_at hl 0 rfl) ?_
  refine g_calli (g_runVS (As := []) (rest := []) F hl.1 hH hS hz hq (c_J0_isLatin1_aae02 l g i q I R J AI AJ AR  hq) (cwV 0 F.2.2.2.2.1 gJ0_indexOf_7cf53_J0_isLatin1_aae02 rfl rfl rfl hdJ0_isLatin1_aae02 ⟨Nat.le_of_ble_eq_true rfl, Nat.le_of_ble_eq_true rfl⟩) rfl rfl (Nat.le_of_ble_eq_true rfl) dJ0_indexOf_7cf53_1 ⟨Nat.zero_le _, Nat.zero_le _⟩) hS (fun v_7 I_1 R_2 J_3 AI_4 AJ_5 AR_6 H locs zv_7 hp_8 hH hS => ?_)
  dsimp only at hp_8
  obtain ⟨rfl, rfl, rfl, rfl, rfl, rfl, q_9⟩ := hp_8
  subst q_9
  refine z_if_eq (tgt := 23) F dJ0_indexOf_7cf53_4 (by decide) ⟨by decide, by decide⟩ (fun c_10 => ?_) (fun c_10 => ?_)
  · exact absurd trivial (by omega)
  · refine lv_aload_n F.1 F.2.1 dJ0_indexOf_7cf53_7 rfl (lv_at hl 0 rfl) ?_
    refine vk_getf F.1 F.2.1 (F.2.2.2.2.2.2.1 i _ hq).2.2.2.1 hS F.2.2.2.1 (F.2.2.2.2.1 _ (List.mem_of_getElem? (i := 1) rfl)) (fun _ h => h) dJ0_indexOf_7cf53_8 ?_
    refine lv_iload_n F.1 F.2.1 dJ0_indexOf_7cf53_11 rfl (lv_at hl 1 rfl) ?_
    refine lv_iload_n F.1 F.2.1 dJ0_indexOf_7cf53_12 rfl (lv_at hl 2 rfl) ?_
    refine lv_aload_n F.1 F.2.1 dJ0_indexOf_7cf53_13 rfl (lv_at hl 0 rfl) ?_
    refine g_calli (g_runVS (As := []) (rest := [.int (iI fr), .int (iI ch), .ref (gSV g i)]) F hl.1 hH hS hz hq (c_J0_length_8abf5 l g i q I R J AI AJ AR  hq) (cwV 0 F.2.2.2.2.1 gJ0_indexOf_7cf53_J0_length_8abf5 rfl rfl rfl hdJ0_length_8abf5 ⟨Nat.le_of_ble_eq_true rfl, Nat.le_of_ble_eq_true rfl⟩) rfl rfl (Nat.le_of_ble_eq_true rfl) dJ0_indexOf_7cf53_14 ⟨Nat.zero_le _, Nat.zero_le _⟩) hS (fun v_17 I_11 R_12 J_13 AI_14 AJ_15 AR_16 H locs zv_17 hp_18 hH hS => ?_)
    dsimp only at hp_18
    obtain ⟨rfl, rfl, rfl, rfl, rfl, rfl, q_19⟩ := hp_18
    refine g_calli (g_runS (As := [.ref (gSV g i), .int (iI ch), .int (iI fr), .int (iI v_17)]) (rest := []) F hl.1 hH hS hz (c_J1_indexOf_4cfef l g i q I R J AI AJ AR ch fr v_17 zch zfr zv_17 hq (by omega) (by omega)) (va_cwS 4 F.2.2.2.2.1 gJ0_indexOf_7cf53_J1_indexOf_4cfef rfl rfl rfl hdJ1_indexOf_4cfef.2 ⟨Nat.le_of_ble_eq_true rfl, Nat.le_of_ble_eq_true rfl⟩) rfl rfl (Nat.le_of_ble_eq_true rfl) dJ0_indexOf_7cf53_17 ⟨Nat.zero_le _, Nat.zero_le _⟩) hS (fun v_26 I_20 R_21 J_22 AI_23 AJ_24 AR_25 H locs zv_26 hp_27 hH hS => ?_)
    dsimp only at hp_27
    obtain ⟨rfl, rfl, rfl, rfl, rfl, rfl, q_28⟩ := hp_27
    refine z_goto (tgt := 36) F dJ0_indexOf_7cf53_20 (by decide) ?_
    exact g_iret F hr hlk hH hS hz zv_26 ⟨rfl, rfl, rfl, rfl, rfl, rfl, by first | omega | rfl | (dsimp only; omega)⟩ dJ0_indexOf_7cf53_36

def rmJ0_indexOf_0f7a4 : Room := { frames := 3, cells := 0, slots := 0, locals := 85 }
theorem hdJ0_indexOf_0f7a4 : yJ0_indexOf_0f7a4.cls = RJ0 ∧ yJ0_indexOf_0f7a4.cls ≠ "java/lang/invoke/MethodHandle" ∧ yJ0_indexOf_0f7a4.cls ≠ "java/lang/invoke/VarHandle" ∧ (parseMethodDescriptor yJ0_indexOf_0f7a4.desc).map (fun d => d.parameters.length) = some 1 := by decide +kernel
set_option maxHeartbeats 4000000 in
set_option maxRecDepth 100000 in
theorem c_J0_indexOf_0f7a4 (l : Launch) (g : gG) (i : Nat) (q : String × Nat × String × List Int32) (I : gI) (R : gR) (J : gJ) (AI : gI) (AJ : gJ) (AR : gR) (ch : Int) (zch : zr ch) (hq : sTab[i]? = some q) : gMet l g yJ0_indexOf_0f7a4 wsJ0_indexOf_0f7a4 rmJ0_indexOf_0f7a4 [.ref (gSK g i), .int (iI ch)] (I, R, J, AI, AJ, AR) (gQi g (fun (z : Int) (w : gS) => I = w.1 ∧ R = w.2.1 ∧ J = w.2.2.1 ∧ AI = w.2.2.2.1 ∧ AJ = w.2.2.2.2.1 ∧ AR = w.2.2.2.2.2 ∧ (-1 ≤ z ∧ z ≤ 2000000000))) := by
  refine gStart (cc := cJ0_indexOf_0f7a4) (maxL := 2) (ret := (some (.int))) (by decide) rfl (Nat.le_of_ble_eq_true rfl) ?_
  intro p e s m below meth c ls F hr hlk hH hz hS hl
  have hl : lv_has ls 2 [(0, .ref (gSK g i)), (1, .int (iI ch))] := hl
  have hS : va_S (gA g) s.heap s.heap [] := hS
  obtain ⟨H, hHe⟩ : ∃ H : Heap, H = s.heap := ⟨_, rfl⟩
  obtain ⟨locs, hlo⟩ : ∃ k : List Loc, k = [] := ⟨_, rfl⟩
  have hH : gH g I R J AI AJ AR H := by rw [hHe]; exact hH
  have hS : va_S (gA g) s.heap H locs := by rw [hHe, hlo]; exact hS
  suffices hw : W p l e rmJ0_indexOf_0f7a4 s m ([.ref (gSK g i), .int (iI ch)] : List Value).toArray below meth c H locs 0 0 (MQ below (gQi g (fun (z : Int) (w : gS) => I = w.1 ∧ R = w.2.1 ∧ J = w.2.2.1 ∧ AI = w.2.2.2.1 ∧ AJ = w.2.2.2.2.1 ∧ AR = w.2.2.2.2.2 ∧ (-1 ≤ z ∧ z ≤ 2000000000))) ([.ref (gSK g i), .int (iI ch)] : List Value).toArray s 0 0 (gA g)) (F0 m 0 ls []) by
    rw [hHe, hlo] at hw; exact hw
  clear hHe hlo
  have hlen := sTab_len hq
  refine lv_aload_n F.1 F.2.1 dJ0_indexOf_0f7a4_0 rfl (lv_at hl 0 rfl) ?_
  refine lv_iload_n F.1 F.2.1 dJ0_indexOf_0f7a4_1 rfl (lv_at hl 1 rfl) ?_
  refine z_iconst F dJ0_indexOf_0f7a4_2 ?_
  refine g_calli (g_runVS (As := [.int (iI ch), .int (iI 0)]) (rest := []) F hl.1 hH hS hz hq (c_J0_indexOf_7cf53 l g i q I R J AI AJ AR ch 0 zch ⟨by decide, by decide⟩ hq (by omega)) (cwV 2 F.2.2.2.2.1 gJ0_indexOf_0f7a4_J0_indexOf_7cf53 rfl rfl rfl hdJ0_indexOf_7cf53 ⟨Nat.le_of_ble_eq_true rfl, Nat.le_of_ble_eq_true rfl⟩) rfl rfl (Nat.le_of_ble_eq_true rfl) dJ0_indexOf_0f7a4_3 ⟨Nat.zero_le _, Nat.zero_le _⟩) hS (fun v_7 I_1 R_2 J_3 AI_4 AJ_5 AR_6 H locs zv_7 hp_8 hH hS => ?_)
  dsimp only at hp_8
  obtain ⟨rfl, rfl, rfl, rfl, rfl, rfl, q_9⟩ := hp_8
  exact g_iret F hr hlk hH hS hz zv_7 ⟨rfl, rfl, rfl, rfl, rfl, rfl, by first | omega | rfl | (dsimp only; omega)⟩ dJ0_indexOf_0f7a4_6
