theorem nx_bl {b : tTx} {n e0 : Nat} {k : Int} (h : tSk b n e0 = tSk b n k.toNat ∧ k ≤ (n : Int) ∧ (e0 : Int) ≤ k) (h0 : k < (n : Int)) (hb : tBl (b k.toNat)) : tSk b n e0 = tSk b n (k + 1).toNat ∧ k + 1 ≤ (n : Int) ∧ (e0 : Int) ≤ k + 1 := by
  refine ⟨?_, by omega, by omega⟩
  rw [h.1, tSk_b (by omega) hb, show (k + 1).toNat = k.toNat + 1 by omega]
theorem nx_sk {b : tTx} {n e0 : Nat} {k : Int} (h : tSk b n e0 = tSk b n k.toNat ∧ k ≤ (n : Int) ∧ (e0 : Int) ≤ k) (h0 : 0 ≤ k) (hb : (n : Int) ≤ k ∨ ¬ tBl (b k.toNat)) : tSk b n e0 = k.toNat := by
  rw [h.1]
  by_cases q : k < (n : Int)
  · exact tSk_s (by omega) (by omega)
  · exact tSk_n (by omega)
theorem tDc_one {b : tTx} {k : Nat} (h : ¬ tDg (b k)) : tDc b k 2 = if tDg (b (k + 1)) then 1 else 0 := by
  show 0 + (if tDg (b (k + 0)) then 1 else 0) + (if tDg (b (k + 1)) then 1 else 0) = _
  rw [if_neg (show ¬ tDg (b (k + 0)) from h)]; omega
theorem tKm {b : tTx} {k m : Nat} {lt nu tok : Int} (hm : 1 ≤ m) (hl : lt = (m : Int) - (tDc b k m : Int)) (hn : nu = tNq b k m) (hr : -128 ≤ b k ∧ b k ≤ 127)
    (h : (lt = (m : Int) ∧ (m : Int) ≤ 8 ∧ tok = 2 ∧ ¬ ((m : Int) = 2 ∧ b k % 256 = 99 ∧ lt = 1 ∧ nu < 4)) ∨ (lt = 0 ∧ (m : Int) ≤ 4 ∧ tok = 3) ∨ ((m : Int) = 2 ∧ b k % 256 = 99 ∧ lt = 1 ∧ nu < 4 ∧ tok = 1) ∨ (¬ (lt = (m : Int) ∧ (m : Int) ≤ 8) ∧ ¬ (lt = 0 ∧ (m : Int) ≤ 4) ∧ ¬ ((m : Int) = 2 ∧ b k % 256 = 99 ∧ lt = 1 ∧ nu < 4) ∧ tok = 5)) : tok = tkM (tKr b k m) := by
  unfold tKr
  by_cases a : tDc b k m = 0 ∧ m ≤ 8
  · rw [if_pos a]; show tok = 2; omega
  · rw [if_neg a]
    by_cases c : tDc b k m = m ∧ m ≤ 4
    · rw [if_pos c]; show tok = 3; omega
    · rw [if_neg c]
      by_cases d : m = 2 ∧ b k = 99 ∧ 48 ≤ b (k + 1) ∧ b (k + 1) ≤ 51
      · rw [if_pos d]
        obtain ⟨d1, d2, d3, d4⟩ := d
        subst d1
        have e := tDc_one (b := b) (k := k) (by omega)
        rw [if_pos (by omega)] at e
        rw [tNq_2 (by omega) (by omega)] at hn
        show tok = 1
        omega
      · rw [if_neg d]
        show tok = 5
        by_cases q : m = 2 ∧ b k = 99
        · obtain ⟨q1, q2⟩ := q
          subst q1
          have e := tDc_one (b := b) (k := k) (by omega)
          by_cases r : tDg (b (k + 1))
          · rw [if_pos r] at e
            rw [tNq_2 (by omega) r] at hn
            omega
          · rw [if_neg r] at e
            omega
        · omega
theorem tDc_L {b : tTx} {lt lt2 e1 kp n z : Int} (h : lt = e1 - kp - (tDc b kp.toNat (e1 - kp).toNat : Int) ∧ e1 ≤ n) (hr : tRu (b e1.toNat)) (h0 : 0 ≤ kp ∧ kp ≤ e1) (h1 : e1 + 1 ≤ n) (h2 : (lt2 = lt + 1 ∧ ¬ tDg (b e1.toNat)) ∨ (lt2 = lt ∧ tDg (b e1.toNat))) : lt2 = e1 + 1 - kp - (tDc b kp.toNat (e1 + 1 - kp).toNat : Int) ∧ e1 + 1 ≤ n := by
  refine ⟨?_, h1⟩
  rw [show (e1 + 1 - kp).toNat = (e1 - kp).toNat + 1 by omega, tDc, show kp.toNat + (e1 - kp).toNat = e1.toNat by omega]
  rcases h2 with ⟨a, c⟩ | ⟨a, c⟩
  · rw [if_neg c]; omega
  · rw [if_pos c]; omega
theorem tMw_8 {b : tTx} {e1 kp : Int} {w : Int64} (h : w = tMw b kp.toNat (e1 - kp).toNat) (h0 : 0 ≤ kp ∧ kp ≤ e1) (h8 : 8 ≤ e1 - kp) : w = tMw b kp.toNat (e1 + 1 - kp).toNat := by
  rw [show (e1 + 1 - kp).toNat = (e1 - kp).toNat + 1 by omega, tMw, if_neg (by omega)]; exact h
theorem tNq_y {b : tTx} {e1 kp x y : Int} (h : x = tNq b kp.toNat (e1 - kp).toNat) (h0 : 0 ≤ kp ∧ kp ≤ e1) (h4 : e1 - kp < 4) (hd : tDg (b e1.toNat)) (hy : y = 10 * x + b e1.toNat - 48) : y = tNq b kp.toNat (e1 + 1 - kp).toNat := by
  rw [show (e1 + 1 - kp).toNat = (e1 - kp).toNat + 1 by omega, tNq, show kp.toNat + (e1 - kp).toNat = e1.toNat by omega, if_pos ⟨by omega, hd⟩, ← h]; exact hy
theorem tNq_n {b : tTx} {e1 kp x : Int} (h : x = tNq b kp.toNat (e1 - kp).toNat) (h0 : 0 ≤ kp ∧ kp ≤ e1) (hd : 4 ≤ e1 - kp ∨ ¬ tDg (b e1.toNat)) : x = tNq b kp.toNat (e1 + 1 - kp).toNat := by
  rw [show (e1 + 1 - kp).toNat = (e1 - kp).toNat + 1 by omega, tNq, show kp.toNat + (e1 - kp).toNat = e1.toNat by omega, if_neg (fun q => by rcases hd with a | a; (· omega); (· exact a q.2))]; exact h
theorem tRn_M {b : tTx} {n : Nat} {e1 kp : Int} (hru : ∀ j : Nat, kp.toNat ≤ j → (j : Int) < e1 → tRu (b j)) (h0 : 0 ≤ kp ∧ kp ≤ e1) (h1 : e1 ≤ (n : Int)) (h2 : (n : Int) ≤ e1 ∨ ¬ tRu (b e1.toNat)) : tRn b n kp.toNat = e1.toNat :=
  tRn_at (by omega) (by omega) (fun j hj hl => hru j hj (by omega)) (fun q => by rcases h2 with a | a; (· omega); (· exact a))
def rmX7_byteAtf : Room := { frames := 0, cells := 0, slots := 0, locals := 0 }
set_option maxHeartbeats 4000000 in
set_option maxRecDepth 100000 in
/-- a byte -/
theorem c_X7_byteAtf (l : Launch) (g : gG) (gh : gGh) (T : Nat → Int32) (b : tTx) (n : Nat) (I : gI) (R : gR) (J : gJ) (AI : gI) (AJ : gJ) (AR : gR) (mo : Nat) (kp : Int) (zkp : zr kp) (hv : mInv g gh R I AI) (hm : gO g mo 7) (hT : AI (gh 50 0) = T) (h0 : 0 ≤ kp) (hb : ∀ k : Nat, k < n → (AI (gh 65 0) k).toInt = b k % 256) (hr7 : ∀ k : Nat, -128 ≤ b k ∧ b k ≤ 127) (hsz : (I mo 18).toInt = (n : Int)) (hn9 : n ≤ 900) : gMet l g yX7_byteAt tsX7_byteAt rmX7_byteAtf [.ref mo, .int (iI kp)] (I, R, J, AI, AJ, AR) (gQi g (fun (z : Int) (w : gS) => I = w.1 ∧ R = w.2.1 ∧ J = w.2.2.1 ∧ AI = w.2.2.2.1 ∧ AJ = w.2.2.2.2.1 ∧ AR = w.2.2.2.2.2 ∧ ((I mo 18).toInt ≤ kp → z = -1) ∧ (((n : Int) ≤ kp → z = -1) ∧ (kp < (n : Int) → z = b kp.toNat % 256)))) := by
  refine gStart (cc := cX7_byteAt) (maxL := 2) (ret := (some (.int))) (by decide) rfl (Nat.le_of_ble_eq_true rfl) ?_
  intro p e s m below meth c ls F hr hlk hH hz hS hl
  have hl : lv_has ls 2 [(0, .ref mo), (1, .int (iI kp))] := hl
  have hS : va_S (gA g) s.heap s.heap [] := hS
  obtain ⟨H, hHe⟩ : ∃ H : Heap, H = s.heap := ⟨_, rfl⟩
  obtain ⟨locs, hlo⟩ : ∃ k : List Loc, k = [] := ⟨_, rfl⟩
  have hH : gH g I R J AI AJ AR H := by rw [hHe]; exact hH
  have hS : va_S (gA g) s.heap H locs := by rw [hHe, hlo]; exact hS
  suffices hw : W p l e rmX7_byteAtf s m ([.ref mo, .int (iI kp)] : List Value).toArray below meth c H locs 0 0 (MQ below (gQi g (fun (z : Int) (w : gS) => I = w.1 ∧ R = w.2.1 ∧ J = w.2.2.1 ∧ AI = w.2.2.2.1 ∧ AJ = w.2.2.2.2.1 ∧ AR = w.2.2.2.2.2 ∧ ((I mo 18).toInt ≤ kp → z = -1) ∧ (((n : Int) ≤ kp → z = -1) ∧ (kp < (n : Int) → z = b kp.toNat % 256)))) ([.ref mo, .int (iI kp)] : List Value).toArray s 0 0 (gA g)) (F0 m 0 ls []) by
    rw [hHe, hlo] at hw; exact hw
  clear hHe hlo
  have iX7 : ∀ w ∈ u_ws RX7 TX7 32, w ∈ tsX7_byteAt := fun w h => List.mem_cons_of_mem _ (inTB7 w h)
  have k78 : Cond.fieldLink RX7 78 (TX7 18).1 (TX7 18).2.1 (TX7 18).2.2.1 ∈ tsX7_byteAt := List.mem_cons_of_mem _ fl_78
  have k39 : Cond.fieldLink RX7 39 (TX7 15).1 (TX7 15).2.1 (TX7 15).2.2.1 ∈ tsX7_byteAt := List.mem_cons_of_mem _ fl_39
  refine lv_iload_n F.1 F.2.1 dX7_byteAt_0 rfl (lv_at hl 1 rfl) ?_
  refine lv_aload_n F.1 F.2.1 dX7_byteAt_1 rfl (lv_at hl 0 rfl) ?_
  refine g_getI (ci := 7) (k := 18) F hH rfl (by decide) iX7 hm (by decide) rfl k78 dX7_byteAt_2 ?_
  have b_1 := mJ hv hm
  unfold mNum1 at b_1
  refine z_icmp_ge (tgt := 17) F dX7_byteAt_5 (by decide) zkp (zr_t _) (fun c_2 => ?_) (fun c_2 => ?_)
  · refine z_iconst F dX7_byteAt_17 ?_
    exact g_iret F hr hlk hH hS hz ⟨by decide, by decide⟩ ⟨rfl, rfl, rfl, rfl, rfl, rfl, fun _ => by omega, by first | exact ⟨fun h => absurd h (by omega), fun _ => t13⟩ | exact ⟨fun _ => rfl, fun h => absurd h (by omega)⟩⟩ dX7_byteAt_18
  · refine lv_aload_n F.1 F.2.1 dX7_byteAt_8 rfl (lv_at hl 0 rfl) ?_
    obtain ⟨r_3a, r_3b⟩ : R mo 15 = some (gh 65 0) ∧ gAr g (gh 65 0) 9 936 := mR hv hm (q := (15, 936)) (by decide)
    refine g_getR (ci := 7) (k := 15) F hH rfl (by decide) iX7 hm (by decide) rfl (b := gh 65 0) r_3a k39 dX7_byteAt_9 ?_
    refine lv_iload_n F.1 F.2.1 dX7_byteAt_12 rfl (lv_at hl 1 rfl) ?_
    have hx13 : 0 ≤ kp ∧ kp < ((936 : Nat) : Int) ∧ kp ≤ 2147483647 := ⟨by omega, by omega, by omega⟩
    refine g_iald F hH r_3b hx13.1 hx13.2.1 hx13.2.2 dX7_byteAt_13 ?_
    refine z_name (fun v_4 ev_4 => ?_)
    have zv_4 : zr v_4 := by rw [ev_4]; exact zr_t _
    have t13 : v_4 = b kp.toNat % 256 := by rw [ev_4]; exact hb _ (by omega)
    refine z_goto (tgt := 18) F dX7_byteAt_14 (by decide) ?_
    exact g_iret F hr hlk hH hS hz zv_4 ⟨rfl, rfl, rfl, rfl, rfl, rfl, fun _ => by omega, by first | exact ⟨fun h => absurd h (by omega), fun _ => t13⟩ | exact ⟨fun _ => rfl, fun h => absurd h (by omega)⟩⟩ dX7_byteAt_18

def rmX7_isSmallf : Room := { frames := 0, cells := 0, slots := 0, locals := 0 }
set_option maxHeartbeats 4000000 in
set_option maxRecDepth 100000 in
/-- a letter -/
theorem c_X7_isSmallf (l : Launch) (g : gG)  (I : gI) (R : gR) (J : gJ) (AI : gI) (AJ : gJ) (AR : gR) (ch : Int) (zch : zr ch) : gMet l g yX7_isSmall tsX7_isSmall rmX7_isSmallf [.int (iI ch)] (I, R, J, AI, AJ, AR) (gQi g (fun (z : Int) (w : gS) => I = w.1 ∧ R = w.2.1 ∧ J = w.2.2.1 ∧ AI = w.2.2.2.1 ∧ AJ = w.2.2.2.2.1 ∧ AR = w.2.2.2.2.2 ∧ ((z = 0 ∨ z = 1) ∧ (z = 1 → 97 ≤ ch ∧ ch ≤ 122)) ∧ (z = 1 ↔ 97 ≤ ch ∧ ch ≤ 122))) := by
  refine gStart (cc := cX7_isSmall) (maxL := 1) (ret := (some (.boolean))) (by decide) rfl (Nat.le_of_ble_eq_true rfl) ?_
  intro p e s m below meth c ls F hr hlk hH hz hS hl
  have hl : lv_has ls 1 [(0, .int (iI ch))] := hl
  have hS : va_S (gA g) s.heap s.heap [] := hS
  obtain ⟨H, hHe⟩ : ∃ H : Heap, H = s.heap := ⟨_, rfl⟩
  obtain ⟨locs, hlo⟩ : ∃ k : List Loc, k = [] := ⟨_, rfl⟩
  have hH : gH g I R J AI AJ AR H := by rw [hHe]; exact hH
  have hS : va_S (gA g) s.heap H locs := by rw [hHe, hlo]; exact hS
  suffices hw : W p l e rmX7_isSmallf s m ([.int (iI ch)] : List Value).toArray below meth c H locs 0 0 (MQ below (gQi g (fun (z : Int) (w : gS) => I = w.1 ∧ R = w.2.1 ∧ J = w.2.2.1 ∧ AI = w.2.2.2.1 ∧ AJ = w.2.2.2.2.1 ∧ AR = w.2.2.2.2.2 ∧ ((z = 0 ∨ z = 1) ∧ (z = 1 → 97 ≤ ch ∧ ch ≤ 122)) ∧ (z = 1 ↔ 97 ≤ ch ∧ ch ≤ 122))) ([.int (iI ch)] : List Value).toArray s 0 0 (gA g)) (F0 m 0 ls []) by
    rw [hHe, hlo] at hw; exact hw
  clear hHe hlo
  refine lv_iload_n F.1 F.2.1 dX7_isSmall_0 rfl (lv_at hl 0 rfl) ?_
  refine z_bipush F dX7_isSmall_1 (by decide) ?_
  refine z_icmp_lt (tgt := 16) F dX7_isSmall_3 (by decide) zch ⟨by decide, by decide⟩ (fun c_1 => ?_) (fun c_1 => ?_)
  · refine z_iconst F dX7_isSmall_16 ?_
    exact g_zret F hr hlk hH hS hz (by omega) ⟨rfl, rfl, rfl, rfl, rfl, rfl, ⟨by omega, fun _ => by omega⟩, by first | omega | rfl | (dsimp only; omega)⟩ dX7_isSmall_17
  · refine lv_iload_n F.1 F.2.1 dX7_isSmall_6 rfl (lv_at hl 0 rfl) ?_
    refine z_bipush F dX7_isSmall_7 (by decide) ?_
    refine z_icmp_gt (tgt := 16) F dX7_isSmall_9 (by decide) zch ⟨by decide, by decide⟩ (fun c_2 => ?_) (fun c_2 => ?_)
    · refine z_iconst F dX7_isSmall_16 ?_
      exact g_zret F hr hlk hH hS hz (by omega) ⟨rfl, rfl, rfl, rfl, rfl, rfl, ⟨by omega, fun _ => by omega⟩, by first | omega | rfl | (dsimp only; omega)⟩ dX7_isSmall_17
    · refine z_iconst F dX7_isSmall_12 ?_
      refine z_goto (tgt := 17) F dX7_isSmall_13 (by decide) ?_
      exact g_zret F hr hlk hH hS hz (by omega) ⟨rfl, rfl, rfl, rfl, rfl, rfl, ⟨by omega, fun _ => by omega⟩, by first | omega | rfl | (dsimp only; omega)⟩ dX7_isSmall_17

def rmX7_isDigitf : Room := { frames := 0, cells := 0, slots := 0, locals := 0 }
set_option maxHeartbeats 4000000 in
set_option maxRecDepth 100000 in
/-- a digit -/
theorem c_X7_isDigitf (l : Launch) (g : gG)  (I : gI) (R : gR) (J : gJ) (AI : gI) (AJ : gJ) (AR : gR) (ch : Int) (zch : zr ch) : gMet l g yX7_isDigit tsX7_isDigit rmX7_isDigitf [.int (iI ch)] (I, R, J, AI, AJ, AR) (gQi g (fun (z : Int) (w : gS) => I = w.1 ∧ R = w.2.1 ∧ J = w.2.2.1 ∧ AI = w.2.2.2.1 ∧ AJ = w.2.2.2.2.1 ∧ AR = w.2.2.2.2.2 ∧ ((z = 0 ∨ z = 1) ∧ (z = 1 → 48 ≤ ch ∧ ch ≤ 57)) ∧ (z = 1 ↔ tDg ch))) := by
  refine gStart (cc := cX7_isDigit) (maxL := 1) (ret := (some (.boolean))) (by decide) rfl (Nat.le_of_ble_eq_true rfl) ?_
  intro p e s m below meth c ls F hr hlk hH hz hS hl
  have hl : lv_has ls 1 [(0, .int (iI ch))] := hl
  have hS : va_S (gA g) s.heap s.heap [] := hS
  obtain ⟨H, hHe⟩ : ∃ H : Heap, H = s.heap := ⟨_, rfl⟩
  obtain ⟨locs, hlo⟩ : ∃ k : List Loc, k = [] := ⟨_, rfl⟩
  have hH : gH g I R J AI AJ AR H := by rw [hHe]; exact hH
  have hS : va_S (gA g) s.heap H locs := by rw [hHe, hlo]; exact hS
  suffices hw : W p l e rmX7_isDigitf s m ([.int (iI ch)] : List Value).toArray below meth c H locs 0 0 (MQ below (gQi g (fun (z : Int) (w : gS) => I = w.1 ∧ R = w.2.1 ∧ J = w.2.2.1 ∧ AI = w.2.2.2.1 ∧ AJ = w.2.2.2.2.1 ∧ AR = w.2.2.2.2.2 ∧ ((z = 0 ∨ z = 1) ∧ (z = 1 → 48 ≤ ch ∧ ch ≤ 57)) ∧ (z = 1 ↔ tDg ch))) ([.int (iI ch)] : List Value).toArray s 0 0 (gA g)) (F0 m 0 ls []) by
    rw [hHe, hlo] at hw; exact hw
  clear hHe hlo
  refine lv_iload_n F.1 F.2.1 dX7_isDigit_0 rfl (lv_at hl 0 rfl) ?_
  refine z_bipush F dX7_isDigit_1 (by decide) ?_
  refine z_icmp_lt (tgt := 16) F dX7_isDigit_3 (by decide) zch ⟨by decide, by decide⟩ (fun c_1 => ?_) (fun c_1 => ?_)
  · refine z_iconst F dX7_isDigit_16 ?_
    exact g_zret F hr hlk hH hS hz (by omega) ⟨rfl, rfl, rfl, rfl, rfl, rfl, ⟨by omega, fun _ => by omega⟩, by first | omega | rfl | (dsimp only; omega)⟩ dX7_isDigit_17
  · refine lv_iload_n F.1 F.2.1 dX7_isDigit_6 rfl (lv_at hl 0 rfl) ?_
    refine z_bipush F dX7_isDigit_7 (by decide) ?_
    refine z_icmp_gt (tgt := 16) F dX7_isDigit_9 (by decide) zch ⟨by decide, by decide⟩ (fun c_2 => ?_) (fun c_2 => ?_)
    · refine z_iconst F dX7_isDigit_16 ?_
      exact g_zret F hr hlk hH hS hz (by omega) ⟨rfl, rfl, rfl, rfl, rfl, rfl, ⟨by omega, fun _ => by omega⟩, by first | omega | rfl | (dsimp only; omega)⟩ dX7_isDigit_17
    · refine z_iconst F dX7_isDigit_12 ?_
      refine z_goto (tgt := 17) F dX7_isDigit_13 (by decide) ?_
      exact g_zret F hr hlk hH hS hz (by omega) ⟨rfl, rfl, rfl, rfl, rfl, rfl, ⟨by omega, fun _ => by omega⟩, by first | omega | rfl | (dsimp only; omega)⟩ dX7_isDigit_17

def rmX7_runsf : Room := { frames := 1, cells := 0, slots := 0, locals := 21 }
set_option maxHeartbeats 4000000 in
set_option maxRecDepth 100000 in
/-- a run of letters and digits -/
theorem c_X7_runsf (l : Launch) (g : gG) (gh : gGh) (T : Nat → Int32) (b : tTx) (n : Nat) (I : gI) (R : gR) (J : gJ) (AI : gI) (AJ : gJ) (AR : gR) (mo : Nat) (kp : Int) (zkp : zr kp) (hv : mInv g gh R I AI) (hm : gO g mo 7) (hT : AI (gh 50 0) = T) (hE : (I mo 20).toInt ≤ 936) (h0 : 0 ≤ kp ∧ kp ≤ 936) (ht : (I mo 21).toInt = 5) (hb : ∀ k : Nat, k < n → (AI (gh 65 0) k).toInt = b k % 256) (hr7 : ∀ k : Nat, -128 ≤ b k ∧ b k ≤ 127) (hsz : (I mo 18).toInt = (n : Int)) (hn9 : n ≤ 900) (hkn : kp < (n : Int)) (hkr : tRu (b kp.toNat)) : gMet l g yX7_runs tsX7_runs rmX7_runsf [.ref mo, .int (iI kp)] (I, R, J, AI, AJ, AR) (gQv g (fun w : gS => R = w.2.1 ∧ AI = w.2.2.2.1 ∧ AJ = w.2.2.2.2.1 ∧ AR = w.2.2.2.2.2 ∧ (mInv g gh R (w.1) AI) ∧ (qF mo I (w.1)) ∧ (((w.1) mo 20).toInt ≤ 936 ∧ (I mo 24).toInt ≤ ((w.1) mo 24).toInt) ∧ (((w.1) mo 24).toInt = (I mo 24).toInt) ∧ (((w.1) mo 20).toInt = (tRn b n kp.toNat : Int)) ∧ (((w.1) mo 21).toInt = tkM (tKr b kp.toNat (tRn b n kp.toNat - kp.toNat))) ∧ (((w.1) mo 23).toInt = tNq b kp.toNat (tRn b n kp.toNat - kp.toNat)) ∧ (((w.1) mo 19).toInt = (I mo 19).toInt) ∧ ((w.2.2.1) mo 22 = tMw b kp.toNat (tRn b n kp.toNat - kp.toNat)))) := by
  refine gStart (cc := cX7_runs) (maxL := 5) (ret := none) (by decide) rfl (Nat.le_of_ble_eq_true rfl) ?_
  intro p e s m below meth c ls F hr hlk hH hz hS hl
  have hl : lv_has ls 5 [(0, .ref mo), (1, .int (iI kp))] := hl
  have hS : va_S (gA g) s.heap s.heap [] := hS
  obtain ⟨H, hHe⟩ : ∃ H : Heap, H = s.heap := ⟨_, rfl⟩
  obtain ⟨locs, hlo⟩ : ∃ k : List Loc, k = [] := ⟨_, rfl⟩
  have hH : gH g I R J AI AJ AR H := by rw [hHe]; exact hH
  have hS : va_S (gA g) s.heap H locs := by rw [hHe, hlo]; exact hS
  suffices hw : W p l e rmX7_runsf s m ([.ref mo, .int (iI kp)] : List Value).toArray below meth c H locs 0 0 (MQ below (gQv g (fun w : gS => R = w.2.1 ∧ AI = w.2.2.2.1 ∧ AJ = w.2.2.2.2.1 ∧ AR = w.2.2.2.2.2 ∧ (mInv g gh R (w.1) AI) ∧ (qF mo I (w.1)) ∧ (((w.1) mo 20).toInt ≤ 936 ∧ (I mo 24).toInt ≤ ((w.1) mo 24).toInt) ∧ (((w.1) mo 24).toInt = (I mo 24).toInt) ∧ (((w.1) mo 20).toInt = (tRn b n kp.toNat : Int)) ∧ (((w.1) mo 21).toInt = tkM (tKr b kp.toNat (tRn b n kp.toNat - kp.toNat))) ∧ (((w.1) mo 23).toInt = tNq b kp.toNat (tRn b n kp.toNat - kp.toNat)) ∧ (((w.1) mo 19).toInt = (I mo 19).toInt) ∧ ((w.2.2.1) mo 22 = tMw b kp.toNat (tRn b n kp.toNat - kp.toNat)))) ([.ref mo, .int (iI kp)] : List Value).toArray s 0 0 (gA g)) (F0 m 0 ls []) by
    rw [hHe, hlo] at hw; exact hw
  clear hHe hlo
  have pf : qF mo I I := qF_r
  have hb0 := mJ hv hm
  unfold mNum1 at hb0
  have iX7 : ∀ w ∈ u_ws RX7 TX7 32, w ∈ tsX7_runs := fun w h => List.mem_cons_of_mem _ (inTB7 w h)
  have k111 : Cond.fieldLink RX7 111 (TX7 22).1 (TX7 22).2.1 (TX7 22).2.2.1 ∈ tsX7_runs := List.mem_cons_of_mem _ fl_111
  have k97 : Cond.fieldLink RX7 97 (TX7 23).1 (TX7 23).2.1 (TX7 23).2.2.1 ∈ tsX7_runs := List.mem_cons_of_mem _ fl_97
  have k84 : Cond.fieldLink RX7 84 (TX7 20).1 (TX7 20).2.1 (TX7 20).2.2.1 ∈ tsX7_runs := List.mem_cons_of_mem _ fl_84
  have k94 : Cond.fieldLink RX7 94 (TX7 21).1 (TX7 21).2.1 (TX7 21).2.2.1 ∈ tsX7_runs := List.mem_cons_of_mem _ fl_94
  have k39 : Cond.fieldLink RX7 39 (TX7 15).1 (TX7 15).2.1 (TX7 15).2.2.1 ∈ tsX7_runs := List.mem_cons_of_mem _ fl_39
  refine z_iconst F dX7_runs_0 ?_
  refine lv_istore_n (lv' := [(2, .int (iI 0)), (0, .ref mo), (1, .int (iI kp))]) F.1 F.2.1 dX7_runs_1 rfl hl (by decide) rfl (fun ls hl => ?_)
  refine lv_iload_n F.1 F.2.1 dX7_runs_2 rfl (lv_at hl 2 rfl) ?_
  refine lv_istore_n (lv' := [(3, .int (iI kp)), (2, .int (iI 0)), (0, .ref mo), (1, .int (iI kp))]) F.1 F.2.1 dX7_runs_3 rfl hl (by decide) rfl (fun ls hl => ?_)
  refine lv_aload_n F.1 F.2.1 dX7_runs_4 rfl (lv_at hl 2 rfl) ?_
  refine lv_lconst (v := 0) F.1 F.2.1 dX7_runs_5 (by decide) ?_
  refine g_putJ (ci := 7) (k := 22) F hH hS rfl (by decide) iX7 hm (by decide) tyX7 tyX7_ok nmX7 rfl rfl rfl k111 dX7_runs_6 (fun H locs hH hS => ?_)
  obtain ⟨J_2, eJ_2⟩ : ∃ qQ, qQ = gup2 J mo 22 (0) := ⟨_, rfl⟩
  rw [← eJ_2] at hH
  have kJ_2 : ∀ b, b ≠ mo → J_2 b = J b := fun b hb => by rw [eJ_2]; exact funext fun j => gup2_a _ _ hb
  have hw0 : J_2 mo 22 = 0 := by rw [eJ_2, gup2_s]
  refine lv_aload_n F.1 F.2.1 dX7_runs_9 rfl (lv_at hl 2 rfl) ?_
  refine z_iconst F dX7_runs_10 ?_
  refine g_putI (ci := 7) (k := 23) F hH hS rfl (by decide) iX7 hm (by decide) tyX7 tyX7_ok nmX7 rfl rfl rfl k97 dX7_runs_11 (fun H locs hH hS => ?_)
  obtain ⟨I_3, eI_3⟩ : ∃ qQ, qQ = gup2 I mo 23 (iI (0)) := ⟨_, rfl⟩
  rw [← eI_3] at hH
  have kI_3 : ∀ b, b ≠ mo → I_3 b = I b := fun b hb => by rw [eI_3]; exact funext fun j => gup2_a _ _ hb
  have w_4 : (I_3 mo 23).toInt = 0 := by rw [eI_3, gup2_s]; exact iI_val ⟨by decide, by decide⟩
  have hv : mInv g gh R I_3 AI := by rw [eI_3]; exact mP23 hv hm ⟨by decide, by decide⟩ (by omega)
  have pf : qF mo I I_3 := qF_t pf (by rw [eI_3]; exact qF_p (by decide))
  have u_5_2 : (I_3 mo 2).toInt = (I mo 2).toInt := by rw [pf 2 (by decide) (by decide) (by decide) (by decide) (by decide)]
  have u_5_5 : (I_3 mo 5).toInt = (I mo 5).toInt := by rw [pf 5 (by decide) (by decide) (by decide) (by decide) (by decide)]
  have u_5_14 : (I_3 mo 14).toInt = (I mo 14).toInt := by rw [pf 14 (by decide) (by decide) (by decide) (by decide) (by decide)]
  have u_5_16 : (I_3 mo 16).toInt = (I mo 16).toInt := by rw [pf 16 (by decide) (by decide) (by decide) (by decide) (by decide)]
  have u_5_18 : (I_3 mo 18).toInt = (I mo 18).toInt := by rw [pf 18 (by decide) (by decide) (by decide) (by decide) (by decide)]
  have w_4_k19 : (I_3 mo 19).toInt = (I mo 19).toInt := by rw [eI_3, gup2_k _ _ (by decide)]
  have w_4_k20 : (I_3 mo 20).toInt = (I mo 20).toInt := by rw [eI_3, gup2_k _ _ (by decide)]
  have w_4_k21 : (I_3 mo 21).toInt = (I mo 21).toInt := by rw [eI_3, gup2_k _ _ (by decide)]
  have w_4_k24 : (I_3 mo 24).toInt = (I mo 24).toInt := by rw [eI_3, gup2_k _ _ (by decide)]
  have cut_14_7 : ∀ (NN : Nat) (lt e1 : Int) (I_6 : gI) (J_7 : gJ) (H : Heap) (locs : List Loc) (ls : Array Slot), zr lt → zr e1 → (mInv g gh R I_6 AI) → (qF mo I I_6) → (kp ≤ e1 ∧ e1 ≤ 936 ∧ 0 ≤ lt ∧ lt ≤ e1 - kp ∧ (I_6 mo 21).toInt = 5 ∧ (I_6 mo 20).toInt ≤ 936 ∧ (I_6 mo 24).toInt = (I mo 24).toInt) → (((I_6 mo 23).toInt = 0 ∧ e1 = kp ∨ 0 ≤ (I_6 mo 23).toInt ∧ (e1 - kp = 1 ∧ (I_6 mo 23).toInt ≤ 9 ∨ e1 - kp = 2 ∧ (I_6 mo 23).toInt ≤ 99 ∨ e1 - kp = 3 ∧ (I_6 mo 23).toInt ≤ 999 ∨ 4 ≤ e1 - kp ∧ (I_6 mo 23).toInt ≤ 9999))) → (∀ j : Nat, kp.toNat ≤ j → (j : Int) < e1 → tRu (b j)) → (lt = e1 - kp - (tDc b kp.toNat (e1 - kp).toNat : Int) ∧ e1 ≤ (n : Int)) → ((I_6 mo 23).toInt = tNq b kp.toNat (e1 - kp).toNat) → (J_7 mo 22 = tMw b kp.toNat (e1 - kp).toNat) → ((I_6 mo 19).toInt = (I mo 19).toInt) → (936 - e1) < ((NN : Nat) : Int) → gH g I_6 R J_7 AI AJ AR H → va_S (gA g) s.heap H locs → lv_has ls 5 [(3, .int (iI e1)), (2, .int (iI lt)), (0, .ref mo), (1, .int (iI kp))] → W p l e rmX7_runsf s m ([.ref mo, .int (iI kp)] : List Value).toArray below meth c H locs 0 0 (MQ below (gQv g (fun w : gS => R = w.2.1 ∧ AI = w.2.2.2.1 ∧ AJ = w.2.2.2.2.1 ∧ AR = w.2.2.2.2.2 ∧ (mInv g gh R (w.1) AI) ∧ (qF mo I (w.1)) ∧ (((w.1) mo 20).toInt ≤ 936 ∧ (I mo 24).toInt ≤ ((w.1) mo 24).toInt) ∧ (((w.1) mo 24).toInt = (I mo 24).toInt) ∧ (((w.1) mo 20).toInt = (tRn b n kp.toNat : Int)) ∧ (((w.1) mo 21).toInt = tkM (tKr b kp.toNat (tRn b n kp.toNat - kp.toNat))) ∧ (((w.1) mo 23).toInt = tNq b kp.toNat (tRn b n kp.toNat - kp.toNat)) ∧ (((w.1) mo 19).toInt = (I mo 19).toInt) ∧ ((w.2.2.1) mo 22 = tMw b kp.toNat (tRn b n kp.toNat - kp.toNat)))) ([.ref mo, .int (iI kp)] : List Value).toArray s 0 0 (gA g)) (F0 m 14 ls []) := by
    intro NN14
    induction NN14 with
    | zero =>
      intro lt e1 I_6 J_7 H locs ls zlt ze1 hv pf hx hnum hrun hlt hnq hw h19 hm14 hH hS hl
      exact absurd hm14 (by omega)
    | succ NN14 ih14 =>
      intro lt e1 I_6 J_7 H locs ls zlt ze1 hv pf hx hnum hrun hlt hnq hw h19 hm14 hH hS hl
      have uc_2 : (I_6 mo 2).toInt = (I mo 2).toInt := by rw [pf 2 (by decide) (by decide) (by decide) (by decide) (by decide)]
      have uc_5 : (I_6 mo 5).toInt = (I mo 5).toInt := by rw [pf 5 (by decide) (by decide) (by decide) (by decide) (by decide)]
      have uc_14 : (I_6 mo 14).toInt = (I mo 14).toInt := by rw [pf 14 (by decide) (by decide) (by decide) (by decide) (by decide)]
      have uc_16 : (I_6 mo 16).toInt = (I mo 16).toInt := by rw [pf 16 (by decide) (by decide) (by decide) (by decide) (by decide)]
      have uc_18 : (I_6 mo 18).toInt = (I mo 18).toInt := by rw [pf 18 (by decide) (by decide) (by decide) (by decide) (by decide)]
      have hq9 := tNq_9 (b := b) (k := kp.toNat) (m := (e1 - kp).toNat)
      have cut_36_8 : ∀ (H : Heap) (locs : List Loc) (ls : Array Slot), (e1 < (I mo 18).toInt) → (e1 < (n : Int) ∧ tRu (b e1.toNat)) → gH g I_6 R J_7 AI AJ AR H → va_S (gA g) s.heap H locs → lv_has ls 5 [(3, .int (iI e1)), (2, .int (iI lt)), (0, .ref mo), (1, .int (iI kp))] → W p l e rmX7_runsf s m ([.ref mo, .int (iI kp)] : List Value).toArray below meth c H locs 0 0 (MQ below (gQv g (fun w : gS => R = w.2.1 ∧ AI = w.2.2.2.1 ∧ AJ = w.2.2.2.2.1 ∧ AR = w.2.2.2.2.2 ∧ (mInv g gh R (w.1) AI) ∧ (qF mo I (w.1)) ∧ (((w.1) mo 20).toInt ≤ 936 ∧ (I mo 24).toInt ≤ ((w.1) mo 24).toInt) ∧ (((w.1) mo 24).toInt = (I mo 24).toInt) ∧ (((w.1) mo 20).toInt = (tRn b n kp.toNat : Int)) ∧ (((w.1) mo 21).toInt = tkM (tKr b kp.toNat (tRn b n kp.toNat - kp.toNat))) ∧ (((w.1) mo 23).toInt = tNq b kp.toNat (tRn b n kp.toNat - kp.toNat)) ∧ (((w.1) mo 19).toInt = (I mo 19).toInt) ∧ ((w.2.2.1) mo 22 = tMw b kp.toNat (tRn b n kp.toNat - kp.toNat)))) ([.ref mo, .int (iI kp)] : List Value).toArray s 0 0 (gA g)) (F0 m 36 ls []) := by
        intro H locs ls h36 h36 hH hS hl
        refine lv_aload_n F.1 F.2.1 dX7_runs_36 rfl (lv_at hl 2 rfl) ?_
        refine lv_iload_n F.1 F.2.1 dX7_runs_37 rfl (lv_at hl 0 rfl) ?_
        have b_10 := mJ hv hm
        unfold mNum1 at b_10
        refine g_calli (g_runV (As := [.int (iI e1)]) (rest := []) (ci := 7) F hl.1 hH hS hz (c_X7_byteAtf l g gh T b n I_6 R J_7 AI AJ AR mo e1 ze1 hv hm hT (by omega) hb hr7 (by omega) (by omega)) (cwV 1 F.2.2.2.2.1 (good_up gT_X7_byteAt) rfl rfl rfl hdX7_byteAt ⟨Nat.le_of_ble_eq_true rfl, Nat.le_of_ble_eq_true rfl⟩) hm (by decide) rfl rfl rfl (Nat.le_of_ble_eq_true rfl) dX7_runs_38 ⟨Nat.zero_le _, Nat.zero_le _⟩) hS (fun v_17 I_11 R_12 J_13 AI_14 AJ_15 AR_16 H locs zv_17 hp_18 hH hS => ?_)
        dsimp only at hp_18
        obtain ⟨rfl, rfl, rfl, rfl, rfl, rfl, q_19, q38⟩ := hp_18
        have t38 : v_17 = b e1.toNat % 256 := q38.2 (by omega)
        have r38 := hr7 e1.toNat
        refine lv_istore (lv' := [(4, .int (iI v_17)), (3, .int (iI e1)), (2, .int (iI lt)), (0, .ref mo), (1, .int (iI kp))]) F.1 F.2.1 dX7_runs_41 hl (by decide) rfl (fun ls hl => ?_)
        have cut_54_19 : ∀ (lt2 : Int) (H : Heap) (locs : List Loc) (ls : Array Slot), zr lt2 → (0 ≤ lt2 ∧ lt2 ≤ e1 - kp + 1) → (lt2 = e1 + 1 - kp - (tDc b kp.toNat (e1 + 1 - kp).toNat : Int) ∧ e1 + 1 ≤ (n : Int)) → gH g I_6 R J_7 AI AJ AR H → va_S (gA g) s.heap H locs → lv_has ls 5 [(4, .int (iI v_17)), (3, .int (iI e1)), (2, .int (iI lt2)), (0, .ref mo), (1, .int (iI kp))] → W p l e rmX7_runsf s m ([.ref mo, .int (iI kp)] : List Value).toArray below meth c H locs 0 0 (MQ below (gQv g (fun w : gS => R = w.2.1 ∧ AI = w.2.2.2.1 ∧ AJ = w.2.2.2.2.1 ∧ AR = w.2.2.2.2.2 ∧ (mInv g gh R (w.1) AI) ∧ (qF mo I (w.1)) ∧ (((w.1) mo 20).toInt ≤ 936 ∧ (I mo 24).toInt ≤ ((w.1) mo 24).toInt) ∧ (((w.1) mo 24).toInt = (I mo 24).toInt) ∧ (((w.1) mo 20).toInt = (tRn b n kp.toNat : Int)) ∧ (((w.1) mo 21).toInt = tkM (tKr b kp.toNat (tRn b n kp.toNat - kp.toNat))) ∧ (((w.1) mo 23).toInt = tNq b kp.toNat (tRn b n kp.toNat - kp.toNat)) ∧ (((w.1) mo 19).toInt = (I mo 19).toInt) ∧ ((w.2.2.1) mo 22 = tMw b kp.toNat (tRn b n kp.toNat - kp.toNat)))) ([.ref mo, .int (iI kp)] : List Value).toArray s 0 0 (gA g)) (F0 m 54 ls []) := by
          intro lt2 H locs ls zlt2 hl2 hl3 hH hS hl
          have cut_78_21 : ∀ (J_21 : gJ) (H : Heap) (locs : List Loc) (ls : Array Slot), (mInv g gh R I_6 AI) → (J_21 mo 22 = tMw b kp.toNat (e1 + 1 - kp).toNat) → gH g I_6 R J_21 AI AJ AR H → va_S (gA g) s.heap H locs → lv_has ls 5 [(4, .int (iI v_17)), (3, .int (iI e1)), (2, .int (iI lt2)), (0, .ref mo), (1, .int (iI kp))] → W p l e rmX7_runsf s m ([.ref mo, .int (iI kp)] : List Value).toArray below meth c H locs 0 0 (MQ below (gQv g (fun w : gS => R = w.2.1 ∧ AI = w.2.2.2.1 ∧ AJ = w.2.2.2.2.1 ∧ AR = w.2.2.2.2.2 ∧ (mInv g gh R (w.1) AI) ∧ (qF mo I (w.1)) ∧ (((w.1) mo 20).toInt ≤ 936 ∧ (I mo 24).toInt ≤ ((w.1) mo 24).toInt) ∧ (((w.1) mo 24).toInt = (I mo 24).toInt) ∧ (((w.1) mo 20).toInt = (tRn b n kp.toNat : Int)) ∧ (((w.1) mo 21).toInt = tkM (tKr b kp.toNat (tRn b n kp.toNat - kp.toNat))) ∧ (((w.1) mo 23).toInt = tNq b kp.toNat (tRn b n kp.toNat - kp.toNat)) ∧ (((w.1) mo 19).toInt = (I mo 19).toInt) ∧ ((w.2.2.1) mo 22 = tMw b kp.toNat (tRn b n kp.toNat - kp.toNat)))) ([.ref mo, .int (iI kp)] : List Value).toArray s 0 0 (gA g)) (F0 m 78 ls []) := by
            intro J_21 H locs ls hv hw2 hH hS hl
            have cut_110_23 : ∀ (I_23 : gI) (H : Heap) (locs : List Loc) (ls : Array Slot), (mInv g gh R I_23 AI) → (qF mo I I_23) → ((I_23 mo 21).toInt = 5 ∧ (I_23 mo 20).toInt ≤ 936 ∧ (I_23 mo 24).toInt = (I mo 24).toInt) → ((0 ≤ (I_23 mo 23).toInt ∧ (e1 - kp = 0 ∧ (I_23 mo 23).toInt ≤ 9 ∨ e1 - kp = 1 ∧ (I_23 mo 23).toInt ≤ 99 ∨ e1 - kp = 2 ∧ (I_23 mo 23).toInt ≤ 999 ∨ 3 ≤ e1 - kp ∧ (I_23 mo 23).toInt ≤ 9999))) → ((I_23 mo 23).toInt = tNq b kp.toNat (e1 + 1 - kp).toNat) → ((I_23 mo 19).toInt = (I mo 19).toInt) → gH g I_23 R J_21 AI AJ AR H → va_S (gA g) s.heap H locs → lv_has ls 5 [(4, .int (iI v_17)), (3, .int (iI e1)), (2, .int (iI lt2)), (0, .ref mo), (1, .int (iI kp))] → W p l e rmX7_runsf s m ([.ref mo, .int (iI kp)] : List Value).toArray below meth c H locs 0 0 (MQ below (gQv g (fun w : gS => R = w.2.1 ∧ AI = w.2.2.2.1 ∧ AJ = w.2.2.2.2.1 ∧ AR = w.2.2.2.2.2 ∧ (mInv g gh R (w.1) AI) ∧ (qF mo I (w.1)) ∧ (((w.1) mo 20).toInt ≤ 936 ∧ (I mo 24).toInt ≤ ((w.1) mo 24).toInt) ∧ (((w.1) mo 24).toInt = (I mo 24).toInt) ∧ (((w.1) mo 20).toInt = (tRn b n kp.toNat : Int)) ∧ (((w.1) mo 21).toInt = tkM (tKr b kp.toNat (tRn b n kp.toNat - kp.toNat))) ∧ (((w.1) mo 23).toInt = tNq b kp.toNat (tRn b n kp.toNat - kp.toNat)) ∧ (((w.1) mo 19).toInt = (I mo 19).toInt) ∧ ((w.2.2.1) mo 22 = tMw b kp.toNat (tRn b n kp.toNat - kp.toNat)))) ([.ref mo, .int (iI kp)] : List Value).toArray s 0 0 (gA g)) (F0 m 110 ls []) := by
              intro I_23 H locs ls hv pf hx2 hnum2 hnq2 h19b hH hS hl
              have uc_2 : (I_23 mo 2).toInt = (I mo 2).toInt := by rw [pf 2 (by decide) (by decide) (by decide) (by decide) (by decide)]
              have uc_5 : (I_23 mo 5).toInt = (I mo 5).toInt := by rw [pf 5 (by decide) (by decide) (by decide) (by decide) (by decide)]
              have uc_14 : (I_23 mo 14).toInt = (I mo 14).toInt := by rw [pf 14 (by decide) (by decide) (by decide) (by decide) (by decide)]
              have uc_16 : (I_23 mo 16).toInt = (I mo 16).toInt := by rw [pf 16 (by decide) (by decide) (by decide) (by decide) (by decide)]
              have uc_18 : (I_23 mo 18).toInt = (I mo 18).toInt := by rw [pf 18 (by decide) (by decide) (by decide) (by decide) (by decide)]
              refine z_iinc (lv' := [(3, .int (iI (e1 + 1))), (4, .int (iI v_17)), (2, .int (iI lt2)), (0, .ref mo), (1, .int (iI kp))]) F dX7_runs_110 hl (k := 1) rfl (by decide) rfl (fun ls hl => ?_)
              refine z_goto (tgt := 14) F dX7_runs_113 (by decide) ?_
              exact ih14 lt2 (e1 + 1) I_23 J_21 H locs ls zlt2 ⟨by omega, by omega⟩ hv pf (by omega) (by omega) (by first | exact (fun j h1 h2 => absurd h2 (by omega)) | exact ru_1 hrun h36.2 (by omega)) (by first | exact hl3 | exact ⟨by rw [show (kp - kp).toNat = 0 by omega]; show (0 : Int) = _ - ((0 : Nat) : Int); omega, by omega⟩) (by first | exact hnq2 | (rw [show (kp - kp).toNat = 0 by omega]; show _ = (0 : Int); omega)) (by first | exact hw2 | (rw [show (kp - kp).toNat = 0 by omega]; exact hw0)) (by omega) (by omega) hH hS (lv_sub hl [0, 2, 3, 4] rfl)
            refine lv_iload_n F.1 F.2.1 dX7_runs_78 rfl (lv_at hl 1 rfl) ?_
            refine lv_iload_n F.1 F.2.1 dX7_runs_79 rfl (lv_at hl 4 rfl) ?_
            refine z_isub F dX7_runs_80 ?_
            refine z_iconst F dX7_runs_81 ?_
            refine z_icmp_ge (tgt := 110) F dX7_runs_82 (by decide) ⟨by omega, by omega⟩ ⟨by decide, by decide⟩ (fun c_25 => ?_) (fun c_25 => ?_)
            · exact cut_110_23 I_6 H locs ls hv pf (by omega) (by omega) (by first | exact tNq_y hnq (by omega) (by omega) (by omega) (by omega) | exact tNq_n hnq (by omega) (by omega)) (by omega) hH hS (lv_sub hl [0, 1, 2, 3, 4] rfl)
            · refine lv_iload F.1 F.2.1 dX7_runs_85 (lv_at hl 0 rfl) ?_
              refine g_calli (g_runS (As := [.int (iI v_17)]) (rest := []) F hl.1 hH hS hz (c_X7_isDigitf l g  I_6 R J_21 AI AJ AR v_17 zv_17) (va_cwS 1 F.2.2.2.2.1 (good_up gT_X7_isDigit) rfl rfl rfl hdX7_isDigit.2 ⟨Nat.le_of_ble_eq_true rfl, Nat.le_of_ble_eq_true rfl⟩) rfl rfl (Nat.le_of_ble_eq_true rfl) dX7_runs_87 ⟨Nat.zero_le _, Nat.zero_le _⟩) hS (fun v_32 I_26 R_27 J_28 AI_29 AJ_30 AR_31 H locs zv_32 hp_33 hH hS => ?_)
              dsimp only at hp_33
              obtain ⟨rfl, rfl, rfl, rfl, rfl, rfl, q87, q87b⟩ := hp_33
              refine z_if_eq (tgt := 110) F dX7_runs_90 (by decide) zv_32 (fun c_34 => ?_) (fun c_34 => ?_)
              · exact cut_110_23 I_6 H locs ls hv pf (by omega) (by omega) (by first | exact tNq_y hnq (by omega) (by omega) (by omega) (by omega) | exact tNq_n hnq (by omega) (by omega)) (by omega) hH hS (lv_sub hl [0, 1, 2, 3, 4] rfl)
              · refine lv_aload_n F.1 F.2.1 dX7_runs_93 rfl (lv_at hl 3 rfl) ?_
                refine z_bipush F dX7_runs_94 (by decide) ?_
                refine lv_aload_n F.1 F.2.1 dX7_runs_96 rfl (lv_at hl 3 rfl) ?_
                refine g_getI (ci := 7) (k := 23) F hH rfl (by decide) iX7 hm (by decide) rfl k97 dX7_runs_97 ?_
                refine z_imul F dX7_runs_100 ?_
                refine lv_iload F.1 F.2.1 dX7_runs_101 (lv_at hl 0 rfl) ?_
                refine z_iadd F dX7_runs_103 ?_
                refine z_bipush F dX7_runs_104 (by decide) ?_
                refine z_isub F dX7_runs_106 ?_
                refine g_putI (ci := 7) (k := 23) F hH hS rfl (by decide) iX7 hm (by decide) tyX7 tyX7_ok nmX7 rfl rfl rfl k97 dX7_runs_107 (fun H locs hH hS => ?_)
                obtain ⟨I_35, eI_35⟩ : ∃ qQ, qQ = gup2 I_6 mo 23 (iI (((10 * ((I_6 mo 23).toInt)) + v_17) - 48)) := ⟨_, rfl⟩
                rw [← eI_35] at hH
                have kI_35 : ∀ b, b ≠ mo → I_35 b = I_6 b := fun b hb => by rw [eI_35]; exact funext fun j => gup2_a _ _ hb
                have w_36 : (I_35 mo 23).toInt = ((10 * ((I_6 mo 23).toInt)) + v_17) - 48 := by rw [eI_35, gup2_s]; exact iI_val ⟨by omega, by omega⟩
                have hv : mInv g gh R I_35 AI := by rw [eI_35]; exact mP23 hv hm ⟨by omega, by omega⟩ (by omega)
                have pf : qF mo I I_35 := qF_t pf (by rw [eI_35]; exact qF_p (by decide))
                have u_37_2 : (I_35 mo 2).toInt = (I mo 2).toInt := by rw [pf 2 (by decide) (by decide) (by decide) (by decide) (by decide)]
                have u_37_5 : (I_35 mo 5).toInt = (I mo 5).toInt := by rw [pf 5 (by decide) (by decide) (by decide) (by decide) (by decide)]
                have u_37_14 : (I_35 mo 14).toInt = (I mo 14).toInt := by rw [pf 14 (by decide) (by decide) (by decide) (by decide) (by decide)]
                have u_37_16 : (I_35 mo 16).toInt = (I mo 16).toInt := by rw [pf 16 (by decide) (by decide) (by decide) (by decide) (by decide)]
                have u_37_18 : (I_35 mo 18).toInt = (I mo 18).toInt := by rw [pf 18 (by decide) (by decide) (by decide) (by decide) (by decide)]
                have w_36_k19 : (I_35 mo 19).toInt = (I_6 mo 19).toInt := by rw [eI_35, gup2_k _ _ (by decide)]
                have w_36_k20 : (I_35 mo 20).toInt = (I_6 mo 20).toInt := by rw [eI_35, gup2_k _ _ (by decide)]
                have w_36_k21 : (I_35 mo 21).toInt = (I_6 mo 21).toInt := by rw [eI_35, gup2_k _ _ (by decide)]
                have w_36_k24 : (I_35 mo 24).toInt = (I_6 mo 24).toInt := by rw [eI_35, gup2_k _ _ (by decide)]
                exact cut_110_23 I_35 H locs ls hv pf (by omega) (by omega) (by first | exact tNq_y hnq (by omega) (by omega) (by omega) (by omega) | exact tNq_n hnq (by omega) (by omega)) (by omega) hH hS (lv_sub hl [0, 1, 2, 3, 4] rfl)
          refine lv_iload_n F.1 F.2.1 dX7_runs_54 rfl (lv_at hl 1 rfl) ?_
          refine lv_iload_n F.1 F.2.1 dX7_runs_55 rfl (lv_at hl 4 rfl) ?_
          refine z_isub F dX7_runs_56 ?_
          refine z_bipush F dX7_runs_57 (by decide) ?_
          refine z_icmp_ge (tgt := 78) F dX7_runs_59 (by decide) ⟨by omega, by omega⟩ ⟨by decide, by decide⟩ (fun c_38 => ?_) (fun c_38 => ?_)
          · exact cut_78_21 J_7 H locs ls hv (by first | exact hw2 | exact tMw_8 hw (by omega) (by omega)) hH hS (lv_sub hl [0, 1, 2, 3, 4] rfl)
          · refine lv_aload_n F.1 F.2.1 dX7_runs_62 rfl (lv_at hl 3 rfl) ?_
            refine lv_ldc2 (v := 256) F.1 F.2.1 F.2.2.2.1 (F.2.2.2.2.1 _ (List.mem_cons_of_mem _ cl_115)) dX7_runs_63 ?_
            refine lv_aload_n F.1 F.2.1 dX7_runs_66 rfl (lv_at hl 3 rfl) ?_
            refine g_getJ (ci := 7) (k := 22) F hH rfl (by decide) iX7 hm (by decide) rfl k111 dX7_runs_67 ?_
            refine lv_topl (fun j_39 ej_39 => ?_)
            refine lv_lmul F.1 F.2.1 dX7_runs_70 ?_
            refine lv_topl (fun j_40 ej_40 => ?_)
            refine lv_iload F.1 F.2.1 dX7_runs_71 (lv_at hl 0 rfl) ?_
            refine lv_i2l F.1 F.2.1 dX7_runs_73 rfl ?_
            refine lv_topl (fun j_41 ej_41 => ?_)
            refine lv_ladd F.1 F.2.1 dX7_runs_74 ?_
            refine lv_topl (fun j_42 ej_42 => ?_)
            refine g_putJ (ci := 7) (k := 22) F hH hS rfl (by decide) iX7 hm (by decide) tyX7 tyX7_ok nmX7 rfl rfl rfl k111 dX7_runs_75 (fun H locs hH hS => ?_)
            obtain ⟨J_43, eJ_43⟩ : ∃ qQ, qQ = gup2 J_7 mo 22 (j_42) := ⟨_, rfl⟩
            rw [← eJ_43] at hH
            have kJ_43 : ∀ b, b ≠ mo → J_43 b = J_7 b := fun b hb => by rw [eJ_43]; exact funext fun j => gup2_a _ _ hb
            have hw2 : J_43 mo 22 = tMw b kp.toNat (e1 + 1 - kp).toNat := by rw [show (e1 + 1 - kp).toNat = (e1 - kp).toNat + 1 by omega, tMw, if_pos (by omega), show kp.toNat + (e1 - kp).toNat = e1.toNat by omega, eJ_43, gup2_s, ej_42, ej_41, ej_40, ej_39, hw, t38]
            exact cut_78_21 J_43 H locs ls hv (by first | exact hw2 | exact tMw_8 hw (by omega) (by omega)) hH hS (lv_sub hl [0, 1, 2, 3, 4] rfl)
        refine lv_iload F.1 F.2.1 dX7_runs_43 (lv_at hl 0 rfl) ?_
        refine g_calli (g_runS (As := [.int (iI v_17)]) (rest := []) F hl.1 hH hS hz (c_X7_isSmallf l g  I_6 R J_7 AI AJ AR v_17 zv_17) (va_cwS 1 F.2.2.2.2.1 (good_up gT_X7_isSmall) rfl rfl rfl hdX7_isSmall.2 ⟨Nat.le_of_ble_eq_true rfl, Nat.le_of_ble_eq_true rfl⟩) rfl rfl (Nat.le_of_ble_eq_true rfl) dX7_runs_45 ⟨Nat.zero_le _, Nat.zero_le _⟩) hS (fun v_50 I_44 R_45 J_46 AI_47 AJ_48 AR_49 H locs zv_50 hp_51 hH hS => ?_)
        dsimp only at hp_51
        obtain ⟨rfl, rfl, rfl, rfl, rfl, rfl, q45, q45b⟩ := hp_51
        refine z_if_eq (tgt := 54) F dX7_runs_48 (by decide) zv_50 (fun c_52 => ?_) (fun c_52 => ?_)
        · exact cut_54_19 lt H locs ls zlt (by omega) (tDc_L hlt h36.2 (by omega) (by omega) (by omega)) hH hS (lv_sub hl [0, 1, 2, 3, 4] rfl)
        · refine z_iinc (lv' := [(2, .int (iI (lt + 1))), (4, .int (iI v_17)), (3, .int (iI e1)), (0, .ref mo), (1, .int (iI kp))]) F dX7_runs_51 hl (k := 2) rfl (by decide) rfl (fun ls hl => ?_)
          exact cut_54_19 (lt + 1) H locs ls ⟨by omega, by omega⟩ (by omega) (tDc_L hlt h36.2 (by omega) (by omega) (by omega)) hH hS (lv_sub hl [1, 2, 0, 3, 4] rfl)
      have cut_116_52 : ∀ (H : Heap) (locs : List Loc) (ls : Array Slot), (tRn b n kp.toNat = e1.toNat) → (1 ≤ e1 - kp) → gH g I_6 R J_7 AI AJ AR H → va_S (gA g) s.heap H locs → lv_has ls 5 [(3, .int (iI e1)), (2, .int (iI lt)), (0, .ref mo), (1, .int (iI kp))] → W p l e rmX7_runsf s m ([.ref mo, .int (iI kp)] : List Value).toArray below meth c H locs 0 0 (MQ below (gQv g (fun w : gS => R = w.2.1 ∧ AI = w.2.2.2.1 ∧ AJ = w.2.2.2.2.1 ∧ AR = w.2.2.2.2.2 ∧ (mInv g gh R (w.1) AI) ∧ (qF mo I (w.1)) ∧ (((w.1) mo 20).toInt ≤ 936 ∧ (I mo 24).toInt ≤ ((w.1) mo 24).toInt) ∧ (((w.1) mo 24).toInt = (I mo 24).toInt) ∧ (((w.1) mo 20).toInt = (tRn b n kp.toNat : Int)) ∧ (((w.1) mo 21).toInt = tkM (tKr b kp.toNat (tRn b n kp.toNat - kp.toNat))) ∧ (((w.1) mo 23).toInt = tNq b kp.toNat (tRn b n kp.toNat - kp.toNat)) ∧ (((w.1) mo 19).toInt = (I mo 19).toInt) ∧ ((w.2.2.1) mo 22 = tMw b kp.toNat (tRn b n kp.toNat - kp.toNat)))) ([.ref mo, .int (iI kp)] : List Value).toArray s 0 0 (gA g)) (F0 m 116 ls []) := by
        intro H locs ls hend hge hH hS hl
        refine lv_aload_n F.1 F.2.1 dX7_runs_116 rfl (lv_at hl 2 rfl) ?_
        refine lv_iload_n F.1 F.2.1 dX7_runs_117 rfl (lv_at hl 0 rfl) ?_
        refine g_putI (ci := 7) (k := 20) F hH hS rfl (by decide) iX7 hm (by decide) tyX7 tyX7_ok nmX7 rfl rfl rfl k84 dX7_runs_118 (fun H locs hH hS => ?_)
        obtain ⟨I_54, eI_54⟩ : ∃ qQ, qQ = gup2 I_6 mo 20 (iI (e1)) := ⟨_, rfl⟩
        rw [← eI_54] at hH
        have kI_54 : ∀ b, b ≠ mo → I_54 b = I_6 b := fun b hb => by rw [eI_54]; exact funext fun j => gup2_a _ _ hb
        have w_55 : (I_54 mo 20).toInt = e1 := by rw [eI_54, gup2_s]; exact iI_val ze1
        have hv : mInv g gh R I_54 AI := by rw [eI_54]; exact mP20 hv hm (by omega) (by omega)
        have pf : qF mo I I_54 := qF_t pf (by rw [eI_54]; exact qF_p (by decide))
        have u_56_2 : (I_54 mo 2).toInt = (I mo 2).toInt := by rw [pf 2 (by decide) (by decide) (by decide) (by decide) (by decide)]
        have u_56_5 : (I_54 mo 5).toInt = (I mo 5).toInt := by rw [pf 5 (by decide) (by decide) (by decide) (by decide) (by decide)]
        have u_56_14 : (I_54 mo 14).toInt = (I mo 14).toInt := by rw [pf 14 (by decide) (by decide) (by decide) (by decide) (by decide)]
        have u_56_16 : (I_54 mo 16).toInt = (I mo 16).toInt := by rw [pf 16 (by decide) (by decide) (by decide) (by decide) (by decide)]
        have u_56_18 : (I_54 mo 18).toInt = (I mo 18).toInt := by rw [pf 18 (by decide) (by decide) (by decide) (by decide) (by decide)]
        have w_55_k19 : (I_54 mo 19).toInt = (I_6 mo 19).toInt := by rw [eI_54, gup2_k _ _ (by decide)]
        have w_55_k21 : (I_54 mo 21).toInt = (I_6 mo 21).toInt := by rw [eI_54, gup2_k _ _ (by decide)]
        have w_55_k23 : (I_54 mo 23).toInt = (I_6 mo 23).toInt := by rw [eI_54, gup2_k _ _ (by decide)]
        have w_55_k24 : (I_54 mo 24).toInt = (I_6 mo 24).toInt := by rw [eI_54, gup2_k _ _ (by decide)]
        obtain ⟨nu, enu⟩ : ∃ q, q = (I_54 mo 23).toInt := ⟨_, rfl⟩
        have hnu : 0 ≤ nu := by omega
        refine lv_iload_n F.1 F.2.1 dX7_runs_121 rfl (lv_at hl 0 rfl) ?_
        refine lv_iload_n F.1 F.2.1 dX7_runs_122 rfl (lv_at hl 3 rfl) ?_
        refine z_isub F dX7_runs_123 ?_
        refine lv_istore (lv' := [(4, .int (iI (e1 - kp))), (3, .int (iI e1)), (2, .int (iI lt)), (0, .ref mo), (1, .int (iI kp))]) F.1 F.2.1 dX7_runs_124 hl (by decide) rfl (fun ls hl => ?_)
        have cut_159_57 : ∀ (I_57 : gI) (H : Heap) (locs : List Loc) (ls : Array Slot), (mInv g gh R I_57 AI) → (qF mo I I_57) → ((I_57 mo 21).toInt ≠ 1 ∧ (I_57 mo 23).toInt = nu ∧ (I_57 mo 20).toInt ≤ 936 ∧ (I_57 mo 24).toInt = (I mo 24).toInt) → ((I_57 mo 20).toInt = e1 ∧ (I_57 mo 19).toInt = (I mo 19).toInt ∧ ((lt = e1 - kp ∧ e1 - kp ≤ 8 ∧ (I_57 mo 21).toInt = 2) ∨ (lt = 0 ∧ e1 - kp ≤ 4 ∧ 1 ≤ e1 - kp ∧ (I_57 mo 21).toInt = 3) ∨ (¬ (lt = e1 - kp ∧ e1 - kp ≤ 8) ∧ ¬ (lt = 0 ∧ e1 - kp ≤ 4) ∧ (I_57 mo 21).toInt = 5))) → gH g I_57 R J_7 AI AJ AR H → va_S (gA g) s.heap H locs → lv_has ls 5 [(4, .int (iI (e1 - kp))), (3, .int (iI e1)), (2, .int (iI lt)), (0, .ref mo), (1, .int (iI kp))] → W p l e rmX7_runsf s m ([.ref mo, .int (iI kp)] : List Value).toArray below meth c H locs 0 0 (MQ below (gQv g (fun w : gS => R = w.2.1 ∧ AI = w.2.2.2.1 ∧ AJ = w.2.2.2.2.1 ∧ AR = w.2.2.2.2.2 ∧ (mInv g gh R (w.1) AI) ∧ (qF mo I (w.1)) ∧ (((w.1) mo 20).toInt ≤ 936 ∧ (I mo 24).toInt ≤ ((w.1) mo 24).toInt) ∧ (((w.1) mo 24).toInt = (I mo 24).toInt) ∧ (((w.1) mo 20).toInt = (tRn b n kp.toNat : Int)) ∧ (((w.1) mo 21).toInt = tkM (tKr b kp.toNat (tRn b n kp.toNat - kp.toNat))) ∧ (((w.1) mo 23).toInt = tNq b kp.toNat (tRn b n kp.toNat - kp.toNat)) ∧ (((w.1) mo 19).toInt = (I mo 19).toInt) ∧ ((w.2.2.1) mo 22 = tMw b kp.toNat (tRn b n kp.toNat - kp.toNat)))) ([.ref mo, .int (iI kp)] : List Value).toArray s 0 0 (gA g)) (F0 m 159 ls []) := by
          intro I_57 H locs ls hv pf h159 h159b hH hS hl
          have uc_2 : (I_57 mo 2).toInt = (I mo 2).toInt := by rw [pf 2 (by decide) (by decide) (by decide) (by decide) (by decide)]
          have uc_5 : (I_57 mo 5).toInt = (I mo 5).toInt := by rw [pf 5 (by decide) (by decide) (by decide) (by decide) (by decide)]
          have uc_14 : (I_57 mo 14).toInt = (I mo 14).toInt := by rw [pf 14 (by decide) (by decide) (by decide) (by decide) (by decide)]
          have uc_16 : (I_57 mo 16).toInt = (I mo 16).toInt := by rw [pf 16 (by decide) (by decide) (by decide) (by decide) (by decide)]
          have uc_18 : (I_57 mo 18).toInt = (I mo 18).toInt := by rw [pf 18 (by decide) (by decide) (by decide) (by decide) (by decide)]
          refine lv_iload F.1 F.2.1 dX7_runs_159 (lv_at hl 0 rfl) ?_
          refine z_iconst F dX7_runs_161 ?_
          refine z_icmp_ne (tgt := 194) F dX7_runs_162 (by decide) ⟨by omega, by omega⟩ ⟨by decide, by decide⟩ (fun c_59 => ?_) (fun c_59 => ?_)
          · exact g_vret F hr hlk hH hS hz ⟨rfl, rfl, rfl, rfl, hv, pf, by first | omega | rfl | (dsimp only; omega), by first | omega | rfl | (dsimp only; omega), by rw [hend]; omega, by rw [hend, show e1.toNat - kp.toNat = (e1 - kp).toNat by omega]; exact tKm (lt := lt) (nu := nu) (by omega) (by omega) (by rw [enu, hnq]) (hr7 _) (by omega), by rw [hend, show e1.toNat - kp.toNat = (e1 - kp).toNat by omega, ← hnq]; omega, by first | omega | rfl | (dsimp only; omega), by rw [hend, show e1.toNat - kp.toNat = (e1 - kp).toNat by omega]; exact hw⟩ dX7_runs_194
          · refine lv_aload_n F.1 F.2.1 dX7_runs_165 rfl (lv_at hl 3 rfl) ?_
            obtain ⟨r_60a, r_60b⟩ : R mo 15 = some (gh 65 0) ∧ gAr g (gh 65 0) 9 936 := mR hv hm (q := (15, 936)) (by decide)
            refine g_getR (ci := 7) (k := 15) F hH rfl (by decide) iX7 hm (by decide) rfl (b := gh 65 0) r_60a k39 dX7_runs_166 ?_
            refine lv_iload_n F.1 F.2.1 dX7_runs_169 rfl (lv_at hl 4 rfl) ?_
            have hx170 : 0 ≤ kp ∧ kp < ((936 : Nat) : Int) ∧ kp ≤ 2147483647 := ⟨by omega, by omega, by omega⟩
            refine g_iald F hH r_60b hx170.1 hx170.2.1 hx170.2.2 dX7_runs_170 ?_
            refine z_name (fun v_61 ev_61 => ?_)
            have zv_61 : zr v_61 := by rw [ev_61]; exact zr_t _
            have t170 : v_61 = b kp.toNat % 256 := by rw [ev_61]; exact hb _ (by omega)
            refine z_bipush F dX7_runs_171 (by decide) ?_
            refine z_icmp_ne (tgt := 194) F dX7_runs_173 (by decide) zv_61 ⟨by decide, by decide⟩ (fun c_62 => ?_) (fun c_62 => ?_)
            · exact g_vret F hr hlk hH hS hz ⟨rfl, rfl, rfl, rfl, hv, pf, by first | omega | rfl | (dsimp only; omega), by first | omega | rfl | (dsimp only; omega), by rw [hend]; omega, by rw [hend, show e1.toNat - kp.toNat = (e1 - kp).toNat by omega]; exact tKm (lt := lt) (nu := nu) (by omega) (by omega) (by rw [enu, hnq]) (hr7 _) (by omega), by rw [hend, show e1.toNat - kp.toNat = (e1 - kp).toNat by omega, ← hnq]; omega, by first | omega | rfl | (dsimp only; omega), by rw [hend, show e1.toNat - kp.toNat = (e1 - kp).toNat by omega]; exact hw⟩ dX7_runs_194
            · refine lv_iload_n F.1 F.2.1 dX7_runs_176 rfl (lv_at hl 2 rfl) ?_
              refine z_iconst F dX7_runs_177 ?_
              refine z_icmp_ne (tgt := 194) F dX7_runs_178 (by decide) zlt ⟨by decide, by decide⟩ (fun c_63 => ?_) (fun c_63 => ?_)
              · exact g_vret F hr hlk hH hS hz ⟨rfl, rfl, rfl, rfl, hv, pf, by first | omega | rfl | (dsimp only; omega), by first | omega | rfl | (dsimp only; omega), by rw [hend]; omega, by rw [hend, show e1.toNat - kp.toNat = (e1 - kp).toNat by omega]; exact tKm (lt := lt) (nu := nu) (by omega) (by omega) (by rw [enu, hnq]) (hr7 _) (by omega), by rw [hend, show e1.toNat - kp.toNat = (e1 - kp).toNat by omega, ← hnq]; omega, by first | omega | rfl | (dsimp only; omega), by rw [hend, show e1.toNat - kp.toNat = (e1 - kp).toNat by omega]; exact hw⟩ dX7_runs_194
              · refine lv_aload_n F.1 F.2.1 dX7_runs_181 rfl (lv_at hl 3 rfl) ?_
                refine g_getI (ci := 7) (k := 23) F hH rfl (by decide) iX7 hm (by decide) rfl k97 dX7_runs_182 ?_
                have b_64 := mJ hv hm
                unfold mNum1 at b_64
                refine z_iconst F dX7_runs_185 ?_
                refine z_icmp_ge (tgt := 194) F dX7_runs_186 (by decide) (zr_t _) ⟨by decide, by decide⟩ (fun c_65 => ?_) (fun c_65 => ?_)
                · exact g_vret F hr hlk hH hS hz ⟨rfl, rfl, rfl, rfl, hv, pf, by first | omega | rfl | (dsimp only; omega), by first | omega | rfl | (dsimp only; omega), by rw [hend]; omega, by rw [hend, show e1.toNat - kp.toNat = (e1 - kp).toNat by omega]; exact tKm (lt := lt) (nu := nu) (by omega) (by omega) (by rw [enu, hnq]) (hr7 _) (by omega), by rw [hend, show e1.toNat - kp.toNat = (e1 - kp).toNat by omega, ← hnq]; omega, by first | omega | rfl | (dsimp only; omega), by rw [hend, show e1.toNat - kp.toNat = (e1 - kp).toNat by omega]; exact hw⟩ dX7_runs_194
                · refine lv_aload_n F.1 F.2.1 dX7_runs_189 rfl (lv_at hl 3 rfl) ?_
                  refine z_iconst F dX7_runs_190 ?_
                  refine g_putI (ci := 7) (k := 21) F hH hS rfl (by decide) iX7 hm (by decide) tyX7 tyX7_ok nmX7 rfl rfl rfl k94 dX7_runs_191 (fun H locs hH hS => ?_)
                  obtain ⟨I_66, eI_66⟩ : ∃ qQ, qQ = gup2 I_57 mo 21 (iI (1)) := ⟨_, rfl⟩
                  rw [← eI_66] at hH
                  have kI_66 : ∀ b, b ≠ mo → I_66 b = I_57 b := fun b hb => by rw [eI_66]; exact funext fun j => gup2_a _ _ hb
                  have w_67 : (I_66 mo 21).toInt = 1 := by rw [eI_66, gup2_s]; exact iI_val ⟨by decide, by decide⟩
                  have hv : mInv g gh R I_66 AI := by rw [eI_66]; exact mP21 hv hm ⟨by decide, by decide⟩ (by omega)
                  have pf : qF mo I I_66 := qF_t pf (by rw [eI_66]; exact qF_p (by decide))
                  have u_68_2 : (I_66 mo 2).toInt = (I mo 2).toInt := by rw [pf 2 (by decide) (by decide) (by decide) (by decide) (by decide)]
                  have u_68_5 : (I_66 mo 5).toInt = (I mo 5).toInt := by rw [pf 5 (by decide) (by decide) (by decide) (by decide) (by decide)]
                  have u_68_14 : (I_66 mo 14).toInt = (I mo 14).toInt := by rw [pf 14 (by decide) (by decide) (by decide) (by decide) (by decide)]
                  have u_68_16 : (I_66 mo 16).toInt = (I mo 16).toInt := by rw [pf 16 (by decide) (by decide) (by decide) (by decide) (by decide)]
                  have u_68_18 : (I_66 mo 18).toInt = (I mo 18).toInt := by rw [pf 18 (by decide) (by decide) (by decide) (by decide) (by decide)]
                  have w_67_k19 : (I_66 mo 19).toInt = (I_57 mo 19).toInt := by rw [eI_66, gup2_k _ _ (by decide)]
                  have w_67_k20 : (I_66 mo 20).toInt = (I_57 mo 20).toInt := by rw [eI_66, gup2_k _ _ (by decide)]
                  have w_67_k23 : (I_66 mo 23).toInt = (I_57 mo 23).toInt := by rw [eI_66, gup2_k _ _ (by decide)]
                  have w_67_k24 : (I_66 mo 24).toInt = (I_57 mo 24).toInt := by rw [eI_66, gup2_k _ _ (by decide)]
                  exact g_vret F hr hlk hH hS hz ⟨rfl, rfl, rfl, rfl, hv, pf, by first | omega | rfl | (dsimp only; omega), by first | omega | rfl | (dsimp only; omega), by rw [hend]; omega, by rw [hend, show e1.toNat - kp.toNat = (e1 - kp).toNat by omega]; exact tKm (lt := lt) (nu := nu) (by omega) (by omega) (by rw [enu, hnq]) (hr7 _) (by omega), by rw [hend, show e1.toNat - kp.toNat = (e1 - kp).toNat by omega, ← hnq]; omega, by first | omega | rfl | (dsimp only; omega), by rw [hend, show e1.toNat - kp.toNat = (e1 - kp).toNat by omega]; exact hw⟩ dX7_runs_194
        refine lv_iload_n F.1 F.2.1 dX7_runs_126 rfl (lv_at hl 2 rfl) ?_
        refine lv_iload F.1 F.2.1 dX7_runs_127 (lv_at hl 0 rfl) ?_
        refine z_icmp_ne (tgt := 144) F dX7_runs_129 (by decide) zlt ⟨by omega, by omega⟩ (fun c_69 => ?_) (fun c_69 => ?_)
        · refine lv_iload_n F.1 F.2.1 dX7_runs_144 rfl (lv_at hl 2 rfl) ?_
          refine z_if_ne (tgt := 159) F dX7_runs_145 (by decide) zlt (fun c_70 => ?_) (fun c_70 => ?_)
          · exact cut_159_57 I_54 H locs ls hv pf (by omega) (by omega) hH hS (lv_sub hl [0, 1, 2, 3, 4] rfl)
          · refine lv_iload F.1 F.2.1 dX7_runs_148 (lv_at hl 0 rfl) ?_
            refine z_iconst F dX7_runs_150 ?_
            refine z_icmp_ge (tgt := 159) F dX7_runs_151 (by decide) ⟨by omega, by omega⟩ ⟨by decide, by decide⟩ (fun c_71 => ?_) (fun c_71 => ?_)
            · exact cut_159_57 I_54 H locs ls hv pf (by omega) (by omega) hH hS (lv_sub hl [0, 1, 2, 3, 4] rfl)
            · refine lv_aload_n F.1 F.2.1 dX7_runs_154 rfl (lv_at hl 3 rfl) ?_
              refine z_iconst F dX7_runs_155 ?_
              refine g_putI (ci := 7) (k := 21) F hH hS rfl (by decide) iX7 hm (by decide) tyX7 tyX7_ok nmX7 rfl rfl rfl k94 dX7_runs_156 (fun H locs hH hS => ?_)
              obtain ⟨I_72, eI_72⟩ : ∃ qQ, qQ = gup2 I_54 mo 21 (iI (3)) := ⟨_, rfl⟩
              rw [← eI_72] at hH
              have kI_72 : ∀ b, b ≠ mo → I_72 b = I_54 b := fun b hb => by rw [eI_72]; exact funext fun j => gup2_a _ _ hb
              have w_73 : (I_72 mo 21).toInt = 3 := by rw [eI_72, gup2_s]; exact iI_val ⟨by decide, by decide⟩
              have hv : mInv g gh R I_72 AI := by rw [eI_72]; exact mP21 hv hm ⟨by decide, by decide⟩ (by omega)
              have pf : qF mo I I_72 := qF_t pf (by rw [eI_72]; exact qF_p (by decide))
              have u_74_2 : (I_72 mo 2).toInt = (I mo 2).toInt := by rw [pf 2 (by decide) (by decide) (by decide) (by decide) (by decide)]
              have u_74_5 : (I_72 mo 5).toInt = (I mo 5).toInt := by rw [pf 5 (by decide) (by decide) (by decide) (by decide) (by decide)]
              have u_74_14 : (I_72 mo 14).toInt = (I mo 14).toInt := by rw [pf 14 (by decide) (by decide) (by decide) (by decide) (by decide)]
              have u_74_16 : (I_72 mo 16).toInt = (I mo 16).toInt := by rw [pf 16 (by decide) (by decide) (by decide) (by decide) (by decide)]
              have u_74_18 : (I_72 mo 18).toInt = (I mo 18).toInt := by rw [pf 18 (by decide) (by decide) (by decide) (by decide) (by decide)]
              have w_73_k19 : (I_72 mo 19).toInt = (I_54 mo 19).toInt := by rw [eI_72, gup2_k _ _ (by decide)]
              have w_73_k20 : (I_72 mo 20).toInt = (I_54 mo 20).toInt := by rw [eI_72, gup2_k _ _ (by decide)]
              have w_73_k23 : (I_72 mo 23).toInt = (I_54 mo 23).toInt := by rw [eI_72, gup2_k _ _ (by decide)]
              have w_73_k24 : (I_72 mo 24).toInt = (I_54 mo 24).toInt := by rw [eI_72, gup2_k _ _ (by decide)]
              exact cut_159_57 I_72 H locs ls hv pf (by omega) (by omega) hH hS (lv_sub hl [0, 1, 2, 3, 4] rfl)
        · refine lv_iload F.1 F.2.1 dX7_runs_132 (lv_at hl 0 rfl) ?_
          refine z_bipush F dX7_runs_134 (by decide) ?_
          refine z_icmp_ge (tgt := 144) F dX7_runs_136 (by decide) ⟨by omega, by omega⟩ ⟨by decide, by decide⟩ (fun c_75 => ?_) (fun c_75 => ?_)
          · refine lv_iload_n F.1 F.2.1 dX7_runs_144 rfl (lv_at hl 2 rfl) ?_
            refine z_if_ne (tgt := 159) F dX7_runs_145 (by decide) zlt (fun c_76 => ?_) (fun c_76 => ?_)
            · exact cut_159_57 I_54 H locs ls hv pf (by omega) (by omega) hH hS (lv_sub hl [0, 1, 2, 3, 4] rfl)
            · refine lv_iload F.1 F.2.1 dX7_runs_148 (lv_at hl 0 rfl) ?_
              refine z_iconst F dX7_runs_150 ?_
              refine z_icmp_ge (tgt := 159) F dX7_runs_151 (by decide) ⟨by omega, by omega⟩ ⟨by decide, by decide⟩ (fun c_77 => ?_) (fun c_77 => ?_)
              · exact cut_159_57 I_54 H locs ls hv pf (by omega) (by omega) hH hS (lv_sub hl [0, 1, 2, 3, 4] rfl)
              · refine lv_aload_n F.1 F.2.1 dX7_runs_154 rfl (lv_at hl 3 rfl) ?_
                refine z_iconst F dX7_runs_155 ?_
                refine g_putI (ci := 7) (k := 21) F hH hS rfl (by decide) iX7 hm (by decide) tyX7 tyX7_ok nmX7 rfl rfl rfl k94 dX7_runs_156 (fun H locs hH hS => ?_)
                obtain ⟨I_78, eI_78⟩ : ∃ qQ, qQ = gup2 I_54 mo 21 (iI (3)) := ⟨_, rfl⟩
                rw [← eI_78] at hH
                have kI_78 : ∀ b, b ≠ mo → I_78 b = I_54 b := fun b hb => by rw [eI_78]; exact funext fun j => gup2_a _ _ hb
                have w_79 : (I_78 mo 21).toInt = 3 := by rw [eI_78, gup2_s]; exact iI_val ⟨by decide, by decide⟩
                have hv : mInv g gh R I_78 AI := by rw [eI_78]; exact mP21 hv hm ⟨by decide, by decide⟩ (by omega)
                have pf : qF mo I I_78 := qF_t pf (by rw [eI_78]; exact qF_p (by decide))
                have u_80_2 : (I_78 mo 2).toInt = (I mo 2).toInt := by rw [pf 2 (by decide) (by decide) (by decide) (by decide) (by decide)]
                have u_80_5 : (I_78 mo 5).toInt = (I mo 5).toInt := by rw [pf 5 (by decide) (by decide) (by decide) (by decide) (by decide)]
                have u_80_14 : (I_78 mo 14).toInt = (I mo 14).toInt := by rw [pf 14 (by decide) (by decide) (by decide) (by decide) (by decide)]
                have u_80_16 : (I_78 mo 16).toInt = (I mo 16).toInt := by rw [pf 16 (by decide) (by decide) (by decide) (by decide) (by decide)]
                have u_80_18 : (I_78 mo 18).toInt = (I mo 18).toInt := by rw [pf 18 (by decide) (by decide) (by decide) (by decide) (by decide)]
                have w_79_k19 : (I_78 mo 19).toInt = (I_54 mo 19).toInt := by rw [eI_78, gup2_k _ _ (by decide)]
                have w_79_k20 : (I_78 mo 20).toInt = (I_54 mo 20).toInt := by rw [eI_78, gup2_k _ _ (by decide)]
                have w_79_k23 : (I_78 mo 23).toInt = (I_54 mo 23).toInt := by rw [eI_78, gup2_k _ _ (by decide)]
                have w_79_k24 : (I_78 mo 24).toInt = (I_54 mo 24).toInt := by rw [eI_78, gup2_k _ _ (by decide)]
                exact cut_159_57 I_78 H locs ls hv pf (by omega) (by omega) hH hS (lv_sub hl [0, 1, 2, 3, 4] rfl)
          · refine lv_aload_n F.1 F.2.1 dX7_runs_139 rfl (lv_at hl 3 rfl) ?_
            refine z_iconst F dX7_runs_140 ?_
            refine g_putI (ci := 7) (k := 21) F hH hS rfl (by decide) iX7 hm (by decide) tyX7 tyX7_ok nmX7 rfl rfl rfl k94 dX7_runs_141 (fun H locs hH hS => ?_)
            obtain ⟨I_81, eI_81⟩ : ∃ qQ, qQ = gup2 I_54 mo 21 (iI (2)) := ⟨_, rfl⟩
            rw [← eI_81] at hH
            have kI_81 : ∀ b, b ≠ mo → I_81 b = I_54 b := fun b hb => by rw [eI_81]; exact funext fun j => gup2_a _ _ hb
            have w_82 : (I_81 mo 21).toInt = 2 := by rw [eI_81, gup2_s]; exact iI_val ⟨by decide, by decide⟩
            have hv : mInv g gh R I_81 AI := by rw [eI_81]; exact mP21 hv hm ⟨by decide, by decide⟩ (by omega)
            have pf : qF mo I I_81 := qF_t pf (by rw [eI_81]; exact qF_p (by decide))
            have u_83_2 : (I_81 mo 2).toInt = (I mo 2).toInt := by rw [pf 2 (by decide) (by decide) (by decide) (by decide) (by decide)]
            have u_83_5 : (I_81 mo 5).toInt = (I mo 5).toInt := by rw [pf 5 (by decide) (by decide) (by decide) (by decide) (by decide)]
            have u_83_14 : (I_81 mo 14).toInt = (I mo 14).toInt := by rw [pf 14 (by decide) (by decide) (by decide) (by decide) (by decide)]
            have u_83_16 : (I_81 mo 16).toInt = (I mo 16).toInt := by rw [pf 16 (by decide) (by decide) (by decide) (by decide) (by decide)]
            have u_83_18 : (I_81 mo 18).toInt = (I mo 18).toInt := by rw [pf 18 (by decide) (by decide) (by decide) (by decide) (by decide)]
            have w_82_k19 : (I_81 mo 19).toInt = (I_54 mo 19).toInt := by rw [eI_81, gup2_k _ _ (by decide)]
            have w_82_k20 : (I_81 mo 20).toInt = (I_54 mo 20).toInt := by rw [eI_81, gup2_k _ _ (by decide)]
            have w_82_k23 : (I_81 mo 23).toInt = (I_54 mo 23).toInt := by rw [eI_81, gup2_k _ _ (by decide)]
            have w_82_k24 : (I_81 mo 24).toInt = (I_54 mo 24).toInt := by rw [eI_81, gup2_k _ _ (by decide)]
            refine lv_iload_n F.1 F.2.1 dX7_runs_144 rfl (lv_at hl 2 rfl) ?_
            refine z_if_ne (tgt := 159) F dX7_runs_145 (by decide) zlt (fun c_84 => ?_) (fun c_84 => ?_)
            · exact cut_159_57 I_81 H locs ls hv pf (by omega) (by omega) hH hS (lv_sub hl [0, 1, 2, 3, 4] rfl)
            · refine lv_iload F.1 F.2.1 dX7_runs_148 (lv_at hl 0 rfl) ?_
              refine z_iconst F dX7_runs_150 ?_
              refine z_icmp_ge (tgt := 159) F dX7_runs_151 (by decide) ⟨by omega, by omega⟩ ⟨by decide, by decide⟩ (fun c_85 => ?_) (fun c_85 => ?_)
              · exact cut_159_57 I_81 H locs ls hv pf (by omega) (by omega) hH hS (lv_sub hl [0, 1, 2, 3, 4] rfl)
              · refine lv_aload_n F.1 F.2.1 dX7_runs_154 rfl (lv_at hl 3 rfl) ?_
                refine z_iconst F dX7_runs_155 ?_
                refine g_putI (ci := 7) (k := 21) F hH hS rfl (by decide) iX7 hm (by decide) tyX7 tyX7_ok nmX7 rfl rfl rfl k94 dX7_runs_156 (fun H locs hH hS => ?_)
                obtain ⟨I_86, eI_86⟩ : ∃ qQ, qQ = gup2 I_81 mo 21 (iI (3)) := ⟨_, rfl⟩
                rw [← eI_86] at hH
                have kI_86 : ∀ b, b ≠ mo → I_86 b = I_81 b := fun b hb => by rw [eI_86]; exact funext fun j => gup2_a _ _ hb
                have w_87 : (I_86 mo 21).toInt = 3 := by rw [eI_86, gup2_s]; exact iI_val ⟨by decide, by decide⟩
                have hv : mInv g gh R I_86 AI := by rw [eI_86]; exact mP21 hv hm ⟨by decide, by decide⟩ (by omega)
                have pf : qF mo I I_86 := qF_t pf (by rw [eI_86]; exact qF_p (by decide))
                have u_88_2 : (I_86 mo 2).toInt = (I mo 2).toInt := by rw [pf 2 (by decide) (by decide) (by decide) (by decide) (by decide)]
                have u_88_5 : (I_86 mo 5).toInt = (I mo 5).toInt := by rw [pf 5 (by decide) (by decide) (by decide) (by decide) (by decide)]
                have u_88_14 : (I_86 mo 14).toInt = (I mo 14).toInt := by rw [pf 14 (by decide) (by decide) (by decide) (by decide) (by decide)]
                have u_88_16 : (I_86 mo 16).toInt = (I mo 16).toInt := by rw [pf 16 (by decide) (by decide) (by decide) (by decide) (by decide)]
                have u_88_18 : (I_86 mo 18).toInt = (I mo 18).toInt := by rw [pf 18 (by decide) (by decide) (by decide) (by decide) (by decide)]
                have w_87_k19 : (I_86 mo 19).toInt = (I_81 mo 19).toInt := by rw [eI_86, gup2_k _ _ (by decide)]
                have w_87_k20 : (I_86 mo 20).toInt = (I_81 mo 20).toInt := by rw [eI_86, gup2_k _ _ (by decide)]
                have w_87_k23 : (I_86 mo 23).toInt = (I_81 mo 23).toInt := by rw [eI_86, gup2_k _ _ (by decide)]
                have w_87_k24 : (I_86 mo 24).toInt = (I_81 mo 24).toInt := by rw [eI_86, gup2_k _ _ (by decide)]
                exact cut_159_57 I_86 H locs ls hv pf (by omega) (by omega) hH hS (lv_sub hl [0, 1, 2, 3, 4] rfl)
      refine lv_aload_n F.1 F.2.1 dX7_runs_14 rfl (lv_at hl 2 rfl) ?_
      refine lv_iload_n F.1 F.2.1 dX7_runs_15 rfl (lv_at hl 0 rfl) ?_
      have b_89 := mJ hv hm
      unfold mNum1 at b_89
      refine g_calli (g_runV (As := [.int (iI e1)]) (rest := []) (ci := 7) F hl.1 hH hS hz (c_X7_byteAtf l g gh T b n I_6 R J_7 AI AJ AR mo e1 ze1 hv hm hT (by omega) hb hr7 (by omega) (by omega)) (cwV 1 F.2.2.2.2.1 (good_up gT_X7_byteAt) rfl rfl rfl hdX7_byteAt ⟨Nat.le_of_ble_eq_true rfl, Nat.le_of_ble_eq_true rfl⟩) hm (by decide) rfl rfl rfl (Nat.le_of_ble_eq_true rfl) dX7_runs_16 ⟨Nat.zero_le _, Nat.zero_le _⟩) hS (fun v_96 I_90 R_91 J_92 AI_93 AJ_94 AR_95 H locs zv_96 hp_97 hH hS => ?_)
      dsimp only at hp_97
      obtain ⟨rfl, rfl, rfl, rfl, rfl, rfl, q_98, q16⟩ := hp_97
      have r16 := hr7 e1.toNat
      refine g_calli (g_runS (As := [.int (iI v_96)]) (rest := []) F hl.1 hH hS hz (c_X7_isSmallf l g  I_6 R J_7 AI AJ AR v_96 zv_96) (va_cwS 1 F.2.2.2.2.1 (good_up gT_X7_isSmall) rfl rfl rfl hdX7_isSmall.2 ⟨Nat.le_of_ble_eq_true rfl, Nat.le_of_ble_eq_true rfl⟩) rfl rfl (Nat.le_of_ble_eq_true rfl) dX7_runs_19 ⟨Nat.zero_le _, Nat.zero_le _⟩) hS (fun v_105 I_99 R_100 J_101 AI_102 AJ_103 AR_104 H locs zv_105 hp_106 hH hS => ?_)
      dsimp only at hp_106
      obtain ⟨rfl, rfl, rfl, rfl, rfl, rfl, q19, q19b⟩ := hp_106
      refine z_if_ne (tgt := 36) F dX7_runs_22 (by decide) zv_105 (fun c_107 => ?_) (fun c_107 => ?_)
      · exact cut_36_8 H locs ls (by omega) (by omega) hH hS (lv_sub hl [0, 1, 2, 3] rfl)
      · refine lv_aload_n F.1 F.2.1 dX7_runs_25 rfl (lv_at hl 2 rfl) ?_
        refine lv_iload_n F.1 F.2.1 dX7_runs_26 rfl (lv_at hl 0 rfl) ?_
        refine g_calli (g_runV (As := [.int (iI e1)]) (rest := []) (ci := 7) F hl.1 hH hS hz (c_X7_byteAtf l g gh T b n I_6 R J_7 AI AJ AR mo e1 ze1 hv hm hT (by omega) hb hr7 (by omega) (by omega)) (cwV 1 F.2.2.2.2.1 (good_up gT_X7_byteAt) rfl rfl rfl hdX7_byteAt ⟨Nat.le_of_ble_eq_true rfl, Nat.le_of_ble_eq_true rfl⟩) hm (by decide) rfl rfl rfl (Nat.le_of_ble_eq_true rfl) dX7_runs_27 ⟨Nat.zero_le _, Nat.zero_le _⟩) hS (fun v_114 I_108 R_109 J_110 AI_111 AJ_112 AR_113 H locs zv_114 hp_115 hH hS => ?_)
        dsimp only at hp_115
        obtain ⟨rfl, rfl, rfl, rfl, rfl, rfl, q_116, q27⟩ := hp_115
        refine g_calli (g_runS (As := [.int (iI v_114)]) (rest := []) F hl.1 hH hS hz (c_X7_isDigitf l g  I_6 R J_7 AI AJ AR v_114 zv_114) (va_cwS 1 F.2.2.2.2.1 (good_up gT_X7_isDigit) rfl rfl rfl hdX7_isDigit.2 ⟨Nat.le_of_ble_eq_true rfl, Nat.le_of_ble_eq_true rfl⟩) rfl rfl (Nat.le_of_ble_eq_true rfl) dX7_runs_30 ⟨Nat.zero_le _, Nat.zero_le _⟩) hS (fun v_123 I_117 R_118 J_119 AI_120 AJ_121 AR_122 H locs zv_123 hp_124 hH hS => ?_)
        dsimp only at hp_124
        obtain ⟨rfl, rfl, rfl, rfl, rfl, rfl, q30, q30b⟩ := hp_124
        refine z_if_eq (tgt := 116) F dX7_runs_33 (by decide) zv_123 (fun c_125 => ?_) (fun c_125 => ?_)
        · exact cut_116_52 H locs ls (tRn_M hrun (by omega) (by omega) (by omega)) (by omega) hH hS (lv_sub hl [0, 1, 2, 3] rfl)
        · exact cut_36_8 H locs ls (by omega) (by omega) hH hS (lv_sub hl [0, 1, 2, 3] rfl)
  exact cut_14_7 (((936 - kp) + 1 : Int).toNat) 0 kp I_3 J_2 H locs ls ⟨by decide, by decide⟩ zkp hv pf (by omega) (by omega) (by first | exact (fun j h1 h2 => absurd h2 (by omega)) | exact ru_1 hrun h36.2 (by omega)) (by first | exact hl3 | exact ⟨by rw [show (kp - kp).toNat = 0 by omega]; show (0 : Int) = _ - ((0 : Nat) : Int); omega, by omega⟩) (by first | exact hnq2 | (rw [show (kp - kp).toNat = 0 by omega]; show _ = (0 : Int); omega)) (by first | exact hw2 | (rw [show (kp - kp).toNat = 0 by omega]; exact hw0)) (by omega) (by omega) hH hS (lv_sub hl [0, 1, 2, 3] rfl)

def rmX7_nextf : Room := { frames := 2, cells := 0, slots := 0, locals := 45 }
set_option maxHeartbeats 4000000 in
set_option maxRecDepth 100000 in
/-- the next token -/
theorem c_X7_nextf (l : Launch) (g : gG) (gh : gGh) (T : Nat → Int32) (b : tTx) (n : Nat) (e0 : Nat) (I : gI) (R : gR) (J : gJ) (AI : gI) (AJ : gJ) (AR : gR) (mo : Nat) (hv : mInv g gh R I AI) (hm : gO g mo 7) (hT : AI (gh 50 0) = T) (hE : (I mo 20).toInt ≤ 936) (hb : ∀ k : Nat, k < n → (AI (gh 65 0) k).toInt = b k % 256) (hr7 : ∀ k : Nat, -128 ≤ b k ∧ b k ≤ 127) (hsz : (I mo 18).toInt = (n : Int)) (hn9 : n ≤ 900) (he0 : (I mo 24).toInt = 0 → (I mo 20).toInt = (e0 : Int)) (he1 : e0 ≤ n) : gMet l g yX7_next tsX7_next rmX7_nextf [.ref mo] (I, R, J, AI, AJ, AR) (gQv g (fun w : gS => R = w.2.1 ∧ AI = w.2.2.2.1 ∧ AJ = w.2.2.2.2.1 ∧ AR = w.2.2.2.2.2 ∧ (mInv g gh R (w.1) AI) ∧ (qF mo I (w.1)) ∧ (((w.1) mo 20).toInt ≤ 936 ∧ (I mo 24).toInt ≤ ((w.1) mo 24).toInt) ∧ (((w.1) mo 24).toInt = (I mo 24).toInt) ∧ ((I mo 24).toInt = 0 → tMk b n (tSk b n e0) ((w.1) mo) ((w.2.2.1) mo 22)) ∧ ((I mo 24).toInt ≠ 0 → (w.1) mo = I mo ∧ (w.2.2.1) mo 22 = J mo 22))) := by
  refine gStart (cc := cX7_next) (maxL := 3) (ret := none) (by decide) rfl (Nat.le_of_ble_eq_true rfl) ?_
  intro p e s m below meth c ls F hr hlk hH hz hS hl
  have hl : lv_has ls 3 [(0, .ref mo)] := hl
  have hS : va_S (gA g) s.heap s.heap [] := hS
  obtain ⟨H, hHe⟩ : ∃ H : Heap, H = s.heap := ⟨_, rfl⟩
  obtain ⟨locs, hlo⟩ : ∃ k : List Loc, k = [] := ⟨_, rfl⟩
  have hH : gH g I R J AI AJ AR H := by rw [hHe]; exact hH
  have hS : va_S (gA g) s.heap H locs := by rw [hHe, hlo]; exact hS
  suffices hw : W p l e rmX7_nextf s m ([.ref mo] : List Value).toArray below meth c H locs 0 0 (MQ below (gQv g (fun w : gS => R = w.2.1 ∧ AI = w.2.2.2.1 ∧ AJ = w.2.2.2.2.1 ∧ AR = w.2.2.2.2.2 ∧ (mInv g gh R (w.1) AI) ∧ (qF mo I (w.1)) ∧ (((w.1) mo 20).toInt ≤ 936 ∧ (I mo 24).toInt ≤ ((w.1) mo 24).toInt) ∧ (((w.1) mo 24).toInt = (I mo 24).toInt) ∧ ((I mo 24).toInt = 0 → tMk b n (tSk b n e0) ((w.1) mo) ((w.2.2.1) mo 22)) ∧ ((I mo 24).toInt ≠ 0 → (w.1) mo = I mo ∧ (w.2.2.1) mo 22 = J mo 22))) ([.ref mo] : List Value).toArray s 0 0 (gA g)) (F0 m 0 ls []) by
    rw [hHe, hlo] at hw; exact hw
  clear hHe hlo
  have pf : qF mo I I := qF_r
  have hb0 := mJ hv hm
  unfold mNum1 at hb0
  have iX7 : ∀ w ∈ u_ws RX7 TX7 32, w ∈ tsX7_next := fun w h => List.mem_cons_of_mem _ (inTB7 w h)
  have k81 : Cond.fieldLink RX7 81 (TX7 24).1 (TX7 24).2.1 (TX7 24).2.2.1 ∈ tsX7_next := List.mem_cons_of_mem _ fl_81
  have k84 : Cond.fieldLink RX7 84 (TX7 20).1 (TX7 20).2.1 (TX7 20).2.2.1 ∈ tsX7_next := List.mem_cons_of_mem _ fl_84
  have k91 : Cond.fieldLink RX7 91 (TX7 19).1 (TX7 19).2.1 (TX7 19).2.2.1 ∈ tsX7_next := List.mem_cons_of_mem _ fl_91
  have k94 : Cond.fieldLink RX7 94 (TX7 21).1 (TX7 21).2.1 (TX7 21).2.2.1 ∈ tsX7_next := List.mem_cons_of_mem _ fl_94
  have k97 : Cond.fieldLink RX7 97 (TX7 23).1 (TX7 23).2.1 (TX7 23).2.2.1 ∈ tsX7_next := List.mem_cons_of_mem _ fl_97
  refine lv_aload_n F.1 F.2.1 dX7_next_0 rfl (lv_at hl 0 rfl) ?_
  refine g_getI (ci := 7) (k := 24) F hH rfl (by decide) iX7 hm (by decide) rfl k81 dX7_next_1 ?_
  have b_1 := mJ hv hm
  unfold mNum1 at b_1
  refine z_if_le (tgt := 8) F dX7_next_4 (by decide) (zr_t _) (fun c_2 => ?_) (fun c_2 => ?_)
  · refine lv_aload_n F.1 F.2.1 dX7_next_8 rfl (lv_at hl 0 rfl) ?_
    refine g_getI (ci := 7) (k := 20) F hH rfl (by decide) iX7 hm (by decide) rfl k84 dX7_next_9 ?_
    refine lv_istore_n (lv' := [(1, .int (iI ((I mo 20).toInt))), (0, .ref mo)]) F.1 F.2.1 dX7_next_12 rfl hl (by decide) rfl (fun ls hl => ?_)
    have cut_13_2 : ∀ (NN : Nat) (k : Int) (H : Heap) (locs : List Loc) (ls : Array Slot), zr k → (0 ≤ k ∧ k ≤ 936) → (tSk b n e0 = tSk b n k.toNat ∧ k ≤ (n : Int) ∧ (e0 : Int) ≤ k) → (936 - k) < ((NN : Nat) : Int) → gH g I R J AI AJ AR H → va_S (gA g) s.heap H locs → lv_has ls 3 [(1, .int (iI k)), (0, .ref mo)] → W p l e rmX7_nextf s m ([.ref mo] : List Value).toArray below meth c H locs 0 0 (MQ below (gQv g (fun w : gS => R = w.2.1 ∧ AI = w.2.2.2.1 ∧ AJ = w.2.2.2.2.1 ∧ AR = w.2.2.2.2.2 ∧ (mInv g gh R (w.1) AI) ∧ (qF mo I (w.1)) ∧ (((w.1) mo 20).toInt ≤ 936 ∧ (I mo 24).toInt ≤ ((w.1) mo 24).toInt) ∧ (((w.1) mo 24).toInt = (I mo 24).toInt) ∧ ((I mo 24).toInt = 0 → tMk b n (tSk b n e0) ((w.1) mo) ((w.2.2.1) mo 22)) ∧ ((I mo 24).toInt ≠ 0 → (w.1) mo = I mo ∧ (w.2.2.1) mo 22 = J mo 22))) ([.ref mo] : List Value).toArray s 0 0 (gA g)) (F0 m 13 ls []) := by
      intro NN13
      induction NN13 with
      | zero =>
        intro k H locs ls zk hk hsk hm13 hH hS hl
        exact absurd hm13 (by omega)
      | succ NN13 ih13 =>
        intro k H locs ls zk hk hsk hm13 hH hS hl
        have rk := hr7 k.toNat
        refine lv_aload_n F.1 F.2.1 dX7_next_13 rfl (lv_at hl 1 rfl) ?_
        refine lv_iload_n F.1 F.2.1 dX7_next_14 rfl (lv_at hl 0 rfl) ?_
        refine g_calli (g_runV (As := [.int (iI k)]) (rest := []) (ci := 7) F hl.1 hH hS hz (c_X7_byteAtf l g gh T b n I R J AI AJ AR mo k zk hv hm hT (by omega) hb hr7 (by omega) (by omega)) (cwV 1 F.2.2.2.2.1 (good_up gT_X7_byteAt) rfl rfl rfl hdX7_byteAt ⟨Nat.le_of_ble_eq_true rfl, Nat.le_of_ble_eq_true rfl⟩) hm (by decide) rfl rfl rfl (Nat.le_of_ble_eq_true rfl) dX7_next_15 ⟨Nat.zero_le _, Nat.zero_le _⟩) hS (fun v_10 I_4 R_5 J_6 AI_7 AJ_8 AR_9 H locs zv_10 hp_11 hH hS => ?_)
        dsimp only at hp_11
        obtain ⟨rfl, rfl, rfl, rfl, rfl, rfl, q_12, q15⟩ := hp_11
        refine z_bipush F dX7_next_18 (by decide) ?_
        refine z_icmp_eq (tgt := 33) F dX7_next_20 (by decide) zv_10 ⟨by decide, by decide⟩ (fun c_13 => ?_) (fun c_13 => ?_)
        · refine z_iinc (lv' := [(1, .int (iI (k + 1))), (0, .ref mo)]) F dX7_next_33 hl (k := 0) rfl (by decide) rfl (fun ls hl => ?_)
          refine z_goto (tgt := 13) F dX7_next_36 (by decide) ?_
          exact ih13 (k + 1) H locs ls ⟨by omega, by omega⟩ (by omega) (by first | exact ⟨by rw [show (I mo 20).toInt = (e0 : Int) from he0 (by omega)]; rfl, by omega, by omega⟩ | exact nx_bl hsk (by omega) (by omega)) (by omega) hH hS (lv_sub hl [0, 1] rfl)
        · refine lv_aload_n F.1 F.2.1 dX7_next_23 rfl (lv_at hl 1 rfl) ?_
          refine lv_iload_n F.1 F.2.1 dX7_next_24 rfl (lv_at hl 0 rfl) ?_
          refine g_calli (g_runV (As := [.int (iI k)]) (rest := []) (ci := 7) F hl.1 hH hS hz (c_X7_byteAtf l g gh T b n I R J AI AJ AR mo k zk hv hm hT (by omega) hb hr7 (by omega) (by omega)) (cwV 1 F.2.2.2.2.1 (good_up gT_X7_byteAt) rfl rfl rfl hdX7_byteAt ⟨Nat.le_of_ble_eq_true rfl, Nat.le_of_ble_eq_true rfl⟩) hm (by decide) rfl rfl rfl (Nat.le_of_ble_eq_true rfl) dX7_next_25 ⟨Nat.zero_le _, Nat.zero_le _⟩) hS (fun v_20 I_14 R_15 J_16 AI_17 AJ_18 AR_19 H locs zv_20 hp_21 hH hS => ?_)
          dsimp only at hp_21
          obtain ⟨rfl, rfl, rfl, rfl, rfl, rfl, q_22, q25⟩ := hp_21
          refine z_bipush F dX7_next_28 (by decide) ?_
          refine z_icmp_ne (tgt := 39) F dX7_next_30 (by decide) zv_20 ⟨by decide, by decide⟩ (fun c_23 => ?_) (fun c_23 => ?_)
          · have hske : tSk b n e0 = k.toNat := nx_sk hsk (by omega) (by omega)
            refine lv_aload_n F.1 F.2.1 dX7_next_39 rfl (lv_at hl 1 rfl) ?_
            refine lv_iload_n F.1 F.2.1 dX7_next_40 rfl (lv_at hl 0 rfl) ?_
            refine g_putI (ci := 7) (k := 19) F hH hS rfl (by decide) iX7 hm (by decide) tyX7 tyX7_ok nmX7 rfl rfl rfl k91 dX7_next_41 (fun H locs hH hS => ?_)
            obtain ⟨I_24, eI_24⟩ : ∃ qQ, qQ = gup2 I mo 19 (iI (k)) := ⟨_, rfl⟩
            rw [← eI_24] at hH
            have kI_24 : ∀ b, b ≠ mo → I_24 b = I b := fun b hb => by rw [eI_24]; exact funext fun j => gup2_a _ _ hb
            have w_25 : (I_24 mo 19).toInt = k := by rw [eI_24, gup2_s]; exact iI_val zk
            have hv : mInv g gh R I_24 AI := by rw [eI_24]; exact mP19 hv hm (by omega) (by omega)
            have pf : qF mo I I_24 := qF_t pf (by rw [eI_24]; exact qF_p (by decide))
            have u_26_2 : (I_24 mo 2).toInt = (I mo 2).toInt := by rw [pf 2 (by decide) (by decide) (by decide) (by decide) (by decide)]
            have u_26_5 : (I_24 mo 5).toInt = (I mo 5).toInt := by rw [pf 5 (by decide) (by decide) (by decide) (by decide) (by decide)]
            have u_26_14 : (I_24 mo 14).toInt = (I mo 14).toInt := by rw [pf 14 (by decide) (by decide) (by decide) (by decide) (by decide)]
            have u_26_16 : (I_24 mo 16).toInt = (I mo 16).toInt := by rw [pf 16 (by decide) (by decide) (by decide) (by decide) (by decide)]
            have u_26_18 : (I_24 mo 18).toInt = (I mo 18).toInt := by rw [pf 18 (by decide) (by decide) (by decide) (by decide) (by decide)]
            have w_25_k20 : (I_24 mo 20).toInt = (I mo 20).toInt := by rw [eI_24, gup2_k _ _ (by decide)]
            have w_25_k21 : (I_24 mo 21).toInt = (I mo 21).toInt := by rw [eI_24, gup2_k _ _ (by decide)]
            have w_25_k23 : (I_24 mo 23).toInt = (I mo 23).toInt := by rw [eI_24, gup2_k _ _ (by decide)]
            have w_25_k24 : (I_24 mo 24).toInt = (I mo 24).toInt := by rw [eI_24, gup2_k _ _ (by decide)]
            refine lv_aload_n F.1 F.2.1 dX7_next_44 rfl (lv_at hl 1 rfl) ?_
            refine lv_iload_n F.1 F.2.1 dX7_next_45 rfl (lv_at hl 0 rfl) ?_
            refine z_iconst F dX7_next_46 ?_
            refine z_iadd F dX7_next_47 ?_
            refine g_putI (ci := 7) (k := 20) F hH hS rfl (by decide) iX7 hm (by decide) tyX7 tyX7_ok nmX7 rfl rfl rfl k84 dX7_next_48 (fun H locs hH hS => ?_)
            obtain ⟨I_27, eI_27⟩ : ∃ qQ, qQ = gup2 I_24 mo 20 (iI (k + 1)) := ⟨_, rfl⟩
            rw [← eI_27] at hH
            have kI_27 : ∀ b, b ≠ mo → I_27 b = I_24 b := fun b hb => by rw [eI_27]; exact funext fun j => gup2_a _ _ hb
            have w_28 : (I_27 mo 20).toInt = k + 1 := by rw [eI_27, gup2_s]; exact iI_val ⟨by omega, by omega⟩
            have hv : mInv g gh R I_27 AI := by rw [eI_27]; exact mP20 hv hm (by omega) (by omega)
            have pf : qF mo I I_27 := qF_t pf (by rw [eI_27]; exact qF_p (by decide))
            have u_29_2 : (I_27 mo 2).toInt = (I mo 2).toInt := by rw [pf 2 (by decide) (by decide) (by decide) (by decide) (by decide)]
            have u_29_5 : (I_27 mo 5).toInt = (I mo 5).toInt := by rw [pf 5 (by decide) (by decide) (by decide) (by decide) (by decide)]
            have u_29_14 : (I_27 mo 14).toInt = (I mo 14).toInt := by rw [pf 14 (by decide) (by decide) (by decide) (by decide) (by decide)]
            have u_29_16 : (I_27 mo 16).toInt = (I mo 16).toInt := by rw [pf 16 (by decide) (by decide) (by decide) (by decide) (by decide)]
            have u_29_18 : (I_27 mo 18).toInt = (I mo 18).toInt := by rw [pf 18 (by decide) (by decide) (by decide) (by decide) (by decide)]
            have w_28_k19 : (I_27 mo 19).toInt = (I_24 mo 19).toInt := by rw [eI_27, gup2_k _ _ (by decide)]
            have w_28_k21 : (I_27 mo 21).toInt = (I_24 mo 21).toInt := by rw [eI_27, gup2_k _ _ (by decide)]
            have w_28_k23 : (I_27 mo 23).toInt = (I_24 mo 23).toInt := by rw [eI_27, gup2_k _ _ (by decide)]
            have w_28_k24 : (I_27 mo 24).toInt = (I_24 mo 24).toInt := by rw [eI_27, gup2_k _ _ (by decide)]
            refine lv_aload_n F.1 F.2.1 dX7_next_51 rfl (lv_at hl 1 rfl) ?_
            refine lv_iload_n F.1 F.2.1 dX7_next_52 rfl (lv_at hl 0 rfl) ?_
            have b_30 := mJ hv hm
            unfold mNum1 at b_30
            refine g_calli (g_runV (As := [.int (iI k)]) (rest := []) (ci := 7) F hl.1 hH hS hz (c_X7_byteAtf l g gh T b n I_27 R J AI AJ AR mo k zk hv hm hT (by omega) hb hr7 (by omega) (by omega)) (cwV 1 F.2.2.2.2.1 (good_up gT_X7_byteAt) rfl rfl rfl hdX7_byteAt ⟨Nat.le_of_ble_eq_true rfl, Nat.le_of_ble_eq_true rfl⟩) hm (by decide) rfl rfl rfl (Nat.le_of_ble_eq_true rfl) dX7_next_53 ⟨Nat.zero_le _, Nat.zero_le _⟩) hS (fun v_37 I_31 R_32 J_33 AI_34 AJ_35 AR_36 H locs zv_37 hp_38 hH hS => ?_)
            dsimp only at hp_38
            obtain ⟨rfl, rfl, rfl, rfl, rfl, rfl, q_39, q53⟩ := hp_38
            refine lv_istore_n (lv' := [(2, .int (iI v_37)), (1, .int (iI k)), (0, .ref mo)]) F.1 F.2.1 dX7_next_56 rfl hl (by decide) rfl (fun ls hl => ?_)
            refine lv_aload_n F.1 F.2.1 dX7_next_57 rfl (lv_at hl 2 rfl) ?_
            refine z_iconst F dX7_next_58 ?_
            refine g_putI (ci := 7) (k := 21) F hH hS rfl (by decide) iX7 hm (by decide) tyX7 tyX7_ok nmX7 rfl rfl rfl k94 dX7_next_59 (fun H locs hH hS => ?_)
            obtain ⟨I_40, eI_40⟩ : ∃ qQ, qQ = gup2 I_27 mo 21 (iI (5)) := ⟨_, rfl⟩
            rw [← eI_40] at hH
            have kI_40 : ∀ b, b ≠ mo → I_40 b = I_27 b := fun b hb => by rw [eI_40]; exact funext fun j => gup2_a _ _ hb
            have w_41 : (I_40 mo 21).toInt = 5 := by rw [eI_40, gup2_s]; exact iI_val ⟨by decide, by decide⟩
            have hv : mInv g gh R I_40 AI := by rw [eI_40]; exact mP21 hv hm ⟨by decide, by decide⟩ (by omega)
            have pf : qF mo I I_40 := qF_t pf (by rw [eI_40]; exact qF_p (by decide))
            have u_42_2 : (I_40 mo 2).toInt = (I mo 2).toInt := by rw [pf 2 (by decide) (by decide) (by decide) (by decide) (by decide)]
            have u_42_5 : (I_40 mo 5).toInt = (I mo 5).toInt := by rw [pf 5 (by decide) (by decide) (by decide) (by decide) (by decide)]
            have u_42_14 : (I_40 mo 14).toInt = (I mo 14).toInt := by rw [pf 14 (by decide) (by decide) (by decide) (by decide) (by decide)]
            have u_42_16 : (I_40 mo 16).toInt = (I mo 16).toInt := by rw [pf 16 (by decide) (by decide) (by decide) (by decide) (by decide)]
            have u_42_18 : (I_40 mo 18).toInt = (I mo 18).toInt := by rw [pf 18 (by decide) (by decide) (by decide) (by decide) (by decide)]
            have w_41_k19 : (I_40 mo 19).toInt = (I_27 mo 19).toInt := by rw [eI_40, gup2_k _ _ (by decide)]
            have w_41_k20 : (I_40 mo 20).toInt = (I_27 mo 20).toInt := by rw [eI_40, gup2_k _ _ (by decide)]
            have w_41_k23 : (I_40 mo 23).toInt = (I_27 mo 23).toInt := by rw [eI_40, gup2_k _ _ (by decide)]
            have w_41_k24 : (I_40 mo 24).toInt = (I_27 mo 24).toInt := by rw [eI_40, gup2_k _ _ (by decide)]
            refine lv_aload_n F.1 F.2.1 dX7_next_62 rfl (lv_at hl 2 rfl) ?_
            refine lv_iload_n F.1 F.2.1 dX7_next_63 rfl (lv_at hl 0 rfl) ?_
            refine g_putI (ci := 7) (k := 23) F hH hS rfl (by decide) iX7 hm (by decide) tyX7 tyX7_ok nmX7 rfl rfl rfl k97 dX7_next_64 (fun H locs hH hS => ?_)
            obtain ⟨I_43, eI_43⟩ : ∃ qQ, qQ = gup2 I_40 mo 23 (iI (v_37)) := ⟨_, rfl⟩
            rw [← eI_43] at hH
            have kI_43 : ∀ b, b ≠ mo → I_43 b = I_40 b := fun b hb => by rw [eI_43]; exact funext fun j => gup2_a _ _ hb
            have w_44 : (I_43 mo 23).toInt = v_37 := by rw [eI_43, gup2_s]; exact iI_val zv_37
            have hv : mInv g gh R I_43 AI := by rw [eI_43]; exact mP23 hv hm zv_37 (by omega)
            have pf : qF mo I I_43 := qF_t pf (by rw [eI_43]; exact qF_p (by decide))
            have u_45_2 : (I_43 mo 2).toInt = (I mo 2).toInt := by rw [pf 2 (by decide) (by decide) (by decide) (by decide) (by decide)]
            have u_45_5 : (I_43 mo 5).toInt = (I mo 5).toInt := by rw [pf 5 (by decide) (by decide) (by decide) (by decide) (by decide)]
            have u_45_14 : (I_43 mo 14).toInt = (I mo 14).toInt := by rw [pf 14 (by decide) (by decide) (by decide) (by decide) (by decide)]
            have u_45_16 : (I_43 mo 16).toInt = (I mo 16).toInt := by rw [pf 16 (by decide) (by decide) (by decide) (by decide) (by decide)]
            have u_45_18 : (I_43 mo 18).toInt = (I mo 18).toInt := by rw [pf 18 (by decide) (by decide) (by decide) (by decide) (by decide)]
            have w_44_k19 : (I_43 mo 19).toInt = (I_40 mo 19).toInt := by rw [eI_43, gup2_k _ _ (by decide)]
            have w_44_k20 : (I_43 mo 20).toInt = (I_40 mo 20).toInt := by rw [eI_43, gup2_k _ _ (by decide)]
            have w_44_k21 : (I_43 mo 21).toInt = (I_40 mo 21).toInt := by rw [eI_43, gup2_k _ _ (by decide)]
            have w_44_k24 : (I_43 mo 24).toInt = (I_40 mo 24).toInt := by rw [eI_43, gup2_k _ _ (by decide)]
            refine lv_iload_n F.1 F.2.1 dX7_next_67 rfl (lv_at hl 0 rfl) ?_
            refine z_iconst F dX7_next_68 ?_
            refine z_icmp_ne (tgt := 85) F dX7_next_69 (by decide) zv_37 ⟨by decide, by decide⟩ (fun c_46 => ?_) (fun c_46 => ?_)
            · refine lv_iload_n F.1 F.2.1 dX7_next_85 rfl (lv_at hl 0 rfl) ?_
              refine z_bipush F dX7_next_86 (by decide) ?_
              refine z_icmp_eq (tgt := 127) F dX7_next_88 (by decide) zv_37 ⟨by decide, by decide⟩ (fun c_47 => ?_) (fun c_47 => ?_)
              · refine lv_aload_n F.1 F.2.1 dX7_next_127 rfl (lv_at hl 2 rfl) ?_
                refine z_iconst F dX7_next_128 ?_
                refine g_putI (ci := 7) (k := 21) F hH hS rfl (by decide) iX7 hm (by decide) tyX7 tyX7_ok nmX7 rfl rfl rfl k94 dX7_next_129 (fun H locs hH hS => ?_)
                obtain ⟨I_48, eI_48⟩ : ∃ qQ, qQ = gup2 I_43 mo 21 (iI (4)) := ⟨_, rfl⟩
                rw [← eI_48] at hH
                have kI_48 : ∀ b, b ≠ mo → I_48 b = I_43 b := fun b hb => by rw [eI_48]; exact funext fun j => gup2_a _ _ hb
                have w_49 : (I_48 mo 21).toInt = 4 := by rw [eI_48, gup2_s]; exact iI_val ⟨by decide, by decide⟩
                have hv : mInv g gh R I_48 AI := by rw [eI_48]; exact mP21 hv hm ⟨by decide, by decide⟩ (by omega)
                have pf : qF mo I I_48 := qF_t pf (by rw [eI_48]; exact qF_p (by decide))
                have u_50_2 : (I_48 mo 2).toInt = (I mo 2).toInt := by rw [pf 2 (by decide) (by decide) (by decide) (by decide) (by decide)]
                have u_50_5 : (I_48 mo 5).toInt = (I mo 5).toInt := by rw [pf 5 (by decide) (by decide) (by decide) (by decide) (by decide)]
                have u_50_14 : (I_48 mo 14).toInt = (I mo 14).toInt := by rw [pf 14 (by decide) (by decide) (by decide) (by decide) (by decide)]
                have u_50_16 : (I_48 mo 16).toInt = (I mo 16).toInt := by rw [pf 16 (by decide) (by decide) (by decide) (by decide) (by decide)]
                have u_50_18 : (I_48 mo 18).toInt = (I mo 18).toInt := by rw [pf 18 (by decide) (by decide) (by decide) (by decide) (by decide)]
                have w_49_k19 : (I_48 mo 19).toInt = (I_43 mo 19).toInt := by rw [eI_48, gup2_k _ _ (by decide)]
                have w_49_k20 : (I_48 mo 20).toInt = (I_43 mo 20).toInt := by rw [eI_48, gup2_k _ _ (by decide)]
                have w_49_k23 : (I_48 mo 23).toInt = (I_43 mo 23).toInt := by rw [eI_48, gup2_k _ _ (by decide)]
                have w_49_k24 : (I_48 mo 24).toInt = (I_43 mo 24).toInt := by rw [eI_48, gup2_k _ _ (by decide)]
                refine z_goto (tgt := 154) F dX7_next_132 (by decide) ?_
                exact g_vret F hr hlk hH hS hz ⟨rfl, rfl, rfl, rfl, hv, pf, by first | omega | rfl | (dsimp only; omega), by first | omega | rfl | (dsimp only; omega), fun _ => by rw [hske]; first | exact tMk_run (by omega) (by omega) (by omega) q20 q21 q23 qw | exact tMk_end (by omega) (by omega) (by omega) (by omega) (by omega) | exact tMk_sg (by omega) (by omega) (by omega) (by omega) (by omega), fun h => absurd h (by omega)⟩ dX7_next_154
              · refine lv_iload_n F.1 F.2.1 dX7_next_91 rfl (lv_at hl 0 rfl) ?_
                refine z_bipush F dX7_next_92 (by decide) ?_
                refine z_icmp_eq (tgt := 127) F dX7_next_94 (by decide) zv_37 ⟨by decide, by decide⟩ (fun c_51 => ?_) (fun c_51 => ?_)
                · refine lv_aload_n F.1 F.2.1 dX7_next_127 rfl (lv_at hl 2 rfl) ?_
                  refine z_iconst F dX7_next_128 ?_
                  refine g_putI (ci := 7) (k := 21) F hH hS rfl (by decide) iX7 hm (by decide) tyX7 tyX7_ok nmX7 rfl rfl rfl k94 dX7_next_129 (fun H locs hH hS => ?_)
                  obtain ⟨I_52, eI_52⟩ : ∃ qQ, qQ = gup2 I_43 mo 21 (iI (4)) := ⟨_, rfl⟩
                  rw [← eI_52] at hH
                  have kI_52 : ∀ b, b ≠ mo → I_52 b = I_43 b := fun b hb => by rw [eI_52]; exact funext fun j => gup2_a _ _ hb
                  have w_53 : (I_52 mo 21).toInt = 4 := by rw [eI_52, gup2_s]; exact iI_val ⟨by decide, by decide⟩
                  have hv : mInv g gh R I_52 AI := by rw [eI_52]; exact mP21 hv hm ⟨by decide, by decide⟩ (by omega)
                  have pf : qF mo I I_52 := qF_t pf (by rw [eI_52]; exact qF_p (by decide))
                  have u_54_2 : (I_52 mo 2).toInt = (I mo 2).toInt := by rw [pf 2 (by decide) (by decide) (by decide) (by decide) (by decide)]
                  have u_54_5 : (I_52 mo 5).toInt = (I mo 5).toInt := by rw [pf 5 (by decide) (by decide) (by decide) (by decide) (by decide)]
                  have u_54_14 : (I_52 mo 14).toInt = (I mo 14).toInt := by rw [pf 14 (by decide) (by decide) (by decide) (by decide) (by decide)]
                  have u_54_16 : (I_52 mo 16).toInt = (I mo 16).toInt := by rw [pf 16 (by decide) (by decide) (by decide) (by decide) (by decide)]
                  have u_54_18 : (I_52 mo 18).toInt = (I mo 18).toInt := by rw [pf 18 (by decide) (by decide) (by decide) (by decide) (by decide)]
                  have w_53_k19 : (I_52 mo 19).toInt = (I_43 mo 19).toInt := by rw [eI_52, gup2_k _ _ (by decide)]
                  have w_53_k20 : (I_52 mo 20).toInt = (I_43 mo 20).toInt := by rw [eI_52, gup2_k _ _ (by decide)]
                  have w_53_k23 : (I_52 mo 23).toInt = (I_43 mo 23).toInt := by rw [eI_52, gup2_k _ _ (by decide)]
                  have w_53_k24 : (I_52 mo 24).toInt = (I_43 mo 24).toInt := by rw [eI_52, gup2_k _ _ (by decide)]
                  refine z_goto (tgt := 154) F dX7_next_132 (by decide) ?_
                  exact g_vret F hr hlk hH hS hz ⟨rfl, rfl, rfl, rfl, hv, pf, by first | omega | rfl | (dsimp only; omega), by first | omega | rfl | (dsimp only; omega), fun _ => by rw [hske]; first | exact tMk_run (by omega) (by omega) (by omega) q20 q21 q23 qw | exact tMk_end (by omega) (by omega) (by omega) (by omega) (by omega) | exact tMk_sg (by omega) (by omega) (by omega) (by omega) (by omega), fun h => absurd h (by omega)⟩ dX7_next_154
                · refine lv_iload_n F.1 F.2.1 dX7_next_97 rfl (lv_at hl 0 rfl) ?_
                  refine z_bipush F dX7_next_98 (by decide) ?_
                  refine z_icmp_eq (tgt := 127) F dX7_next_100 (by decide) zv_37 ⟨by decide, by decide⟩ (fun c_55 => ?_) (fun c_55 => ?_)
                  · refine lv_aload_n F.1 F.2.1 dX7_next_127 rfl (lv_at hl 2 rfl) ?_
                    refine z_iconst F dX7_next_128 ?_
                    refine g_putI (ci := 7) (k := 21) F hH hS rfl (by decide) iX7 hm (by decide) tyX7 tyX7_ok nmX7 rfl rfl rfl k94 dX7_next_129 (fun H locs hH hS => ?_)
                    obtain ⟨I_56, eI_56⟩ : ∃ qQ, qQ = gup2 I_43 mo 21 (iI (4)) := ⟨_, rfl⟩
                    rw [← eI_56] at hH
                    have kI_56 : ∀ b, b ≠ mo → I_56 b = I_43 b := fun b hb => by rw [eI_56]; exact funext fun j => gup2_a _ _ hb
                    have w_57 : (I_56 mo 21).toInt = 4 := by rw [eI_56, gup2_s]; exact iI_val ⟨by decide, by decide⟩
                    have hv : mInv g gh R I_56 AI := by rw [eI_56]; exact mP21 hv hm ⟨by decide, by decide⟩ (by omega)
                    have pf : qF mo I I_56 := qF_t pf (by rw [eI_56]; exact qF_p (by decide))
                    have u_58_2 : (I_56 mo 2).toInt = (I mo 2).toInt := by rw [pf 2 (by decide) (by decide) (by decide) (by decide) (by decide)]
                    have u_58_5 : (I_56 mo 5).toInt = (I mo 5).toInt := by rw [pf 5 (by decide) (by decide) (by decide) (by decide) (by decide)]
                    have u_58_14 : (I_56 mo 14).toInt = (I mo 14).toInt := by rw [pf 14 (by decide) (by decide) (by decide) (by decide) (by decide)]
                    have u_58_16 : (I_56 mo 16).toInt = (I mo 16).toInt := by rw [pf 16 (by decide) (by decide) (by decide) (by decide) (by decide)]
                    have u_58_18 : (I_56 mo 18).toInt = (I mo 18).toInt := by rw [pf 18 (by decide) (by decide) (by decide) (by decide) (by decide)]
                    have w_57_k19 : (I_56 mo 19).toInt = (I_43 mo 19).toInt := by rw [eI_56, gup2_k _ _ (by decide)]
                    have w_57_k20 : (I_56 mo 20).toInt = (I_43 mo 20).toInt := by rw [eI_56, gup2_k _ _ (by decide)]
                    have w_57_k23 : (I_56 mo 23).toInt = (I_43 mo 23).toInt := by rw [eI_56, gup2_k _ _ (by decide)]
                    have w_57_k24 : (I_56 mo 24).toInt = (I_43 mo 24).toInt := by rw [eI_56, gup2_k _ _ (by decide)]
                    refine z_goto (tgt := 154) F dX7_next_132 (by decide) ?_
                    exact g_vret F hr hlk hH hS hz ⟨rfl, rfl, rfl, rfl, hv, pf, by first | omega | rfl | (dsimp only; omega), by first | omega | rfl | (dsimp only; omega), fun _ => by rw [hske]; first | exact tMk_run (by omega) (by omega) (by omega) q20 q21 q23 qw | exact tMk_end (by omega) (by omega) (by omega) (by omega) (by omega) | exact tMk_sg (by omega) (by omega) (by omega) (by omega) (by omega), fun h => absurd h (by omega)⟩ dX7_next_154
                  · refine lv_iload_n F.1 F.2.1 dX7_next_103 rfl (lv_at hl 0 rfl) ?_
                    refine z_bipush F dX7_next_104 (by decide) ?_
                    refine z_icmp_eq (tgt := 127) F dX7_next_106 (by decide) zv_37 ⟨by decide, by decide⟩ (fun c_59 => ?_) (fun c_59 => ?_)
                    · refine lv_aload_n F.1 F.2.1 dX7_next_127 rfl (lv_at hl 2 rfl) ?_
                      refine z_iconst F dX7_next_128 ?_
                      refine g_putI (ci := 7) (k := 21) F hH hS rfl (by decide) iX7 hm (by decide) tyX7 tyX7_ok nmX7 rfl rfl rfl k94 dX7_next_129 (fun H locs hH hS => ?_)
                      obtain ⟨I_60, eI_60⟩ : ∃ qQ, qQ = gup2 I_43 mo 21 (iI (4)) := ⟨_, rfl⟩
                      rw [← eI_60] at hH
                      have kI_60 : ∀ b, b ≠ mo → I_60 b = I_43 b := fun b hb => by rw [eI_60]; exact funext fun j => gup2_a _ _ hb
                      have w_61 : (I_60 mo 21).toInt = 4 := by rw [eI_60, gup2_s]; exact iI_val ⟨by decide, by decide⟩
                      have hv : mInv g gh R I_60 AI := by rw [eI_60]; exact mP21 hv hm ⟨by decide, by decide⟩ (by omega)
                      have pf : qF mo I I_60 := qF_t pf (by rw [eI_60]; exact qF_p (by decide))
                      have u_62_2 : (I_60 mo 2).toInt = (I mo 2).toInt := by rw [pf 2 (by decide) (by decide) (by decide) (by decide) (by decide)]
                      have u_62_5 : (I_60 mo 5).toInt = (I mo 5).toInt := by rw [pf 5 (by decide) (by decide) (by decide) (by decide) (by decide)]
                      have u_62_14 : (I_60 mo 14).toInt = (I mo 14).toInt := by rw [pf 14 (by decide) (by decide) (by decide) (by decide) (by decide)]
                      have u_62_16 : (I_60 mo 16).toInt = (I mo 16).toInt := by rw [pf 16 (by decide) (by decide) (by decide) (by decide) (by decide)]
                      have u_62_18 : (I_60 mo 18).toInt = (I mo 18).toInt := by rw [pf 18 (by decide) (by decide) (by decide) (by decide) (by decide)]
                      have w_61_k19 : (I_60 mo 19).toInt = (I_43 mo 19).toInt := by rw [eI_60, gup2_k _ _ (by decide)]
                      have w_61_k20 : (I_60 mo 20).toInt = (I_43 mo 20).toInt := by rw [eI_60, gup2_k _ _ (by decide)]
                      have w_61_k23 : (I_60 mo 23).toInt = (I_43 mo 23).toInt := by rw [eI_60, gup2_k _ _ (by decide)]
                      have w_61_k24 : (I_60 mo 24).toInt = (I_43 mo 24).toInt := by rw [eI_60, gup2_k _ _ (by decide)]
                      refine z_goto (tgt := 154) F dX7_next_132 (by decide) ?_
                      exact g_vret F hr hlk hH hS hz ⟨rfl, rfl, rfl, rfl, hv, pf, by first | omega | rfl | (dsimp only; omega), by first | omega | rfl | (dsimp only; omega), fun _ => by rw [hske]; first | exact tMk_run (by omega) (by omega) (by omega) q20 q21 q23 qw | exact tMk_end (by omega) (by omega) (by omega) (by omega) (by omega) | exact tMk_sg (by omega) (by omega) (by omega) (by omega) (by omega), fun h => absurd h (by omega)⟩ dX7_next_154
                    · refine lv_iload_n F.1 F.2.1 dX7_next_109 rfl (lv_at hl 0 rfl) ?_
                      refine z_bipush F dX7_next_110 (by decide) ?_
                      refine z_icmp_eq (tgt := 127) F dX7_next_112 (by decide) zv_37 ⟨by decide, by decide⟩ (fun c_63 => ?_) (fun c_63 => ?_)
                      · refine lv_aload_n F.1 F.2.1 dX7_next_127 rfl (lv_at hl 2 rfl) ?_
                        refine z_iconst F dX7_next_128 ?_
                        refine g_putI (ci := 7) (k := 21) F hH hS rfl (by decide) iX7 hm (by decide) tyX7 tyX7_ok nmX7 rfl rfl rfl k94 dX7_next_129 (fun H locs hH hS => ?_)
                        obtain ⟨I_64, eI_64⟩ : ∃ qQ, qQ = gup2 I_43 mo 21 (iI (4)) := ⟨_, rfl⟩
                        rw [← eI_64] at hH
                        have kI_64 : ∀ b, b ≠ mo → I_64 b = I_43 b := fun b hb => by rw [eI_64]; exact funext fun j => gup2_a _ _ hb
                        have w_65 : (I_64 mo 21).toInt = 4 := by rw [eI_64, gup2_s]; exact iI_val ⟨by decide, by decide⟩
                        have hv : mInv g gh R I_64 AI := by rw [eI_64]; exact mP21 hv hm ⟨by decide, by decide⟩ (by omega)
                        have pf : qF mo I I_64 := qF_t pf (by rw [eI_64]; exact qF_p (by decide))
                        have u_66_2 : (I_64 mo 2).toInt = (I mo 2).toInt := by rw [pf 2 (by decide) (by decide) (by decide) (by decide) (by decide)]
                        have u_66_5 : (I_64 mo 5).toInt = (I mo 5).toInt := by rw [pf 5 (by decide) (by decide) (by decide) (by decide) (by decide)]
                        have u_66_14 : (I_64 mo 14).toInt = (I mo 14).toInt := by rw [pf 14 (by decide) (by decide) (by decide) (by decide) (by decide)]
                        have u_66_16 : (I_64 mo 16).toInt = (I mo 16).toInt := by rw [pf 16 (by decide) (by decide) (by decide) (by decide) (by decide)]
                        have u_66_18 : (I_64 mo 18).toInt = (I mo 18).toInt := by rw [pf 18 (by decide) (by decide) (by decide) (by decide) (by decide)]
                        have w_65_k19 : (I_64 mo 19).toInt = (I_43 mo 19).toInt := by rw [eI_64, gup2_k _ _ (by decide)]
                        have w_65_k20 : (I_64 mo 20).toInt = (I_43 mo 20).toInt := by rw [eI_64, gup2_k _ _ (by decide)]
                        have w_65_k23 : (I_64 mo 23).toInt = (I_43 mo 23).toInt := by rw [eI_64, gup2_k _ _ (by decide)]
                        have w_65_k24 : (I_64 mo 24).toInt = (I_43 mo 24).toInt := by rw [eI_64, gup2_k _ _ (by decide)]
                        refine z_goto (tgt := 154) F dX7_next_132 (by decide) ?_
                        exact g_vret F hr hlk hH hS hz ⟨rfl, rfl, rfl, rfl, hv, pf, by first | omega | rfl | (dsimp only; omega), by first | omega | rfl | (dsimp only; omega), fun _ => by rw [hske]; first | exact tMk_run (by omega) (by omega) (by omega) q20 q21 q23 qw | exact tMk_end (by omega) (by omega) (by omega) (by omega) (by omega) | exact tMk_sg (by omega) (by omega) (by omega) (by omega) (by omega), fun h => absurd h (by omega)⟩ dX7_next_154
                      · refine lv_iload_n F.1 F.2.1 dX7_next_115 rfl (lv_at hl 0 rfl) ?_
                        refine z_bipush F dX7_next_116 (by decide) ?_
                        refine z_icmp_eq (tgt := 127) F dX7_next_118 (by decide) zv_37 ⟨by decide, by decide⟩ (fun c_67 => ?_) (fun c_67 => ?_)
                        · refine lv_aload_n F.1 F.2.1 dX7_next_127 rfl (lv_at hl 2 rfl) ?_
                          refine z_iconst F dX7_next_128 ?_
                          refine g_putI (ci := 7) (k := 21) F hH hS rfl (by decide) iX7 hm (by decide) tyX7 tyX7_ok nmX7 rfl rfl rfl k94 dX7_next_129 (fun H locs hH hS => ?_)
                          obtain ⟨I_68, eI_68⟩ : ∃ qQ, qQ = gup2 I_43 mo 21 (iI (4)) := ⟨_, rfl⟩
                          rw [← eI_68] at hH
                          have kI_68 : ∀ b, b ≠ mo → I_68 b = I_43 b := fun b hb => by rw [eI_68]; exact funext fun j => gup2_a _ _ hb
                          have w_69 : (I_68 mo 21).toInt = 4 := by rw [eI_68, gup2_s]; exact iI_val ⟨by decide, by decide⟩
                          have hv : mInv g gh R I_68 AI := by rw [eI_68]; exact mP21 hv hm ⟨by decide, by decide⟩ (by omega)
                          have pf : qF mo I I_68 := qF_t pf (by rw [eI_68]; exact qF_p (by decide))
                          have u_70_2 : (I_68 mo 2).toInt = (I mo 2).toInt := by rw [pf 2 (by decide) (by decide) (by decide) (by decide) (by decide)]
                          have u_70_5 : (I_68 mo 5).toInt = (I mo 5).toInt := by rw [pf 5 (by decide) (by decide) (by decide) (by decide) (by decide)]
                          have u_70_14 : (I_68 mo 14).toInt = (I mo 14).toInt := by rw [pf 14 (by decide) (by decide) (by decide) (by decide) (by decide)]
                          have u_70_16 : (I_68 mo 16).toInt = (I mo 16).toInt := by rw [pf 16 (by decide) (by decide) (by decide) (by decide) (by decide)]
                          have u_70_18 : (I_68 mo 18).toInt = (I mo 18).toInt := by rw [pf 18 (by decide) (by decide) (by decide) (by decide) (by decide)]
                          have w_69_k19 : (I_68 mo 19).toInt = (I_43 mo 19).toInt := by rw [eI_68, gup2_k _ _ (by decide)]
                          have w_69_k20 : (I_68 mo 20).toInt = (I_43 mo 20).toInt := by rw [eI_68, gup2_k _ _ (by decide)]
                          have w_69_k23 : (I_68 mo 23).toInt = (I_43 mo 23).toInt := by rw [eI_68, gup2_k _ _ (by decide)]
                          have w_69_k24 : (I_68 mo 24).toInt = (I_43 mo 24).toInt := by rw [eI_68, gup2_k _ _ (by decide)]
                          refine z_goto (tgt := 154) F dX7_next_132 (by decide) ?_
                          exact g_vret F hr hlk hH hS hz ⟨rfl, rfl, rfl, rfl, hv, pf, by first | omega | rfl | (dsimp only; omega), by first | omega | rfl | (dsimp only; omega), fun _ => by rw [hske]; first | exact tMk_run (by omega) (by omega) (by omega) q20 q21 q23 qw | exact tMk_end (by omega) (by omega) (by omega) (by omega) (by omega) | exact tMk_sg (by omega) (by omega) (by omega) (by omega) (by omega), fun h => absurd h (by omega)⟩ dX7_next_154
                        · refine lv_iload_n F.1 F.2.1 dX7_next_121 rfl (lv_at hl 0 rfl) ?_
                          refine z_bipush F dX7_next_122 (by decide) ?_
                          refine z_icmp_ne (tgt := 135) F dX7_next_124 (by decide) zv_37 ⟨by decide, by decide⟩ (fun c_71 => ?_) (fun c_71 => ?_)
                          · refine lv_iload_n F.1 F.2.1 dX7_next_135 rfl (lv_at hl 0 rfl) ?_
                            refine g_calli (g_runS (As := [.int (iI v_37)]) (rest := []) F hl.1 hH hS hz (c_X7_isSmallf l g  I_43 R J AI AJ AR v_37 zv_37) (va_cwS 1 F.2.2.2.2.1 (good_up gT_X7_isSmall) rfl rfl rfl hdX7_isSmall.2 ⟨Nat.le_of_ble_eq_true rfl, Nat.le_of_ble_eq_true rfl⟩) rfl rfl (Nat.le_of_ble_eq_true rfl) dX7_next_136 ⟨Nat.zero_le _, Nat.zero_le _⟩) hS (fun v_78 I_72 R_73 J_74 AI_75 AJ_76 AR_77 H locs zv_78 hp_79 hH hS => ?_)
                            dsimp only at hp_79
                            obtain ⟨rfl, rfl, rfl, rfl, rfl, rfl, q_80, q136⟩ := hp_79
                            refine z_if_ne (tgt := 149) F dX7_next_139 (by decide) zv_78 (fun c_81 => ?_) (fun c_81 => ?_)
                            · refine lv_aload_n F.1 F.2.1 dX7_next_149 rfl (lv_at hl 2 rfl) ?_
                              refine lv_iload_n F.1 F.2.1 dX7_next_150 rfl (lv_at hl 1 rfl) ?_
                              have b_82 := mJ hv hm
                              unfold mNum1 at b_82
                              refine g_callv (g_runV (As := [.int (iI k)]) (rest := []) (ci := 7) F hl.1 hH hS hz (c_X7_runsf l g gh T b n I_43 R J AI AJ AR mo k zk hv hm hT (by omega) (by omega) (by omega) hb hr7 (by omega) (by omega) (by omega) (by omega)) (cwV 1 F.2.2.2.2.1 (good_up gT_X7_runs) rfl rfl rfl hdX7_runs ⟨Nat.le_of_ble_eq_true rfl, Nat.le_of_ble_eq_true rfl⟩) hm (by decide) rfl rfl rfl (Nat.le_of_ble_eq_true rfl) dX7_next_151 ⟨Nat.zero_le _, Nat.zero_le _⟩) hS (fun I_83 R_84 J_85 AI_86 AJ_87 AR_88 H locs hp_89 hH hS => ?_)
                              dsimp only at hp_89
                              obtain ⟨rfl, rfl, rfl, rfl, hv, pfq, q_90, q_91, q20, q21, q23, q19, qw⟩ := hp_89
                              have pf := qF_t pf pfq
                              have u_92_2 : (I_83 mo 2).toInt = (I mo 2).toInt := by rw [pf 2 (by decide) (by decide) (by decide) (by decide) (by decide)]
                              have u_92_5 : (I_83 mo 5).toInt = (I mo 5).toInt := by rw [pf 5 (by decide) (by decide) (by decide) (by decide) (by decide)]
                              have u_92_14 : (I_83 mo 14).toInt = (I mo 14).toInt := by rw [pf 14 (by decide) (by decide) (by decide) (by decide) (by decide)]
                              have u_92_16 : (I_83 mo 16).toInt = (I mo 16).toInt := by rw [pf 16 (by decide) (by decide) (by decide) (by decide) (by decide)]
                              have u_92_18 : (I_83 mo 18).toInt = (I mo 18).toInt := by rw [pf 18 (by decide) (by decide) (by decide) (by decide) (by decide)]
                              exact g_vret F hr hlk hH hS hz ⟨rfl, rfl, rfl, rfl, hv, pf, by first | omega | rfl | (dsimp only; omega), by first | omega | rfl | (dsimp only; omega), fun _ => by rw [hske]; first | exact tMk_run (by omega) (by omega) (by omega) q20 q21 q23 qw | exact tMk_end (by omega) (by omega) (by omega) (by omega) (by omega) | exact tMk_sg (by omega) (by omega) (by omega) (by omega) (by omega), fun h => absurd h (by omega)⟩ dX7_next_154
                            · refine lv_iload_n F.1 F.2.1 dX7_next_142 rfl (lv_at hl 0 rfl) ?_
                              refine g_calli (g_runS (As := [.int (iI v_37)]) (rest := []) F hl.1 hH hS hz (c_X7_isDigitf l g  I_43 R J AI AJ AR v_37 zv_37) (va_cwS 1 F.2.2.2.2.1 (good_up gT_X7_isDigit) rfl rfl rfl hdX7_isDigit.2 ⟨Nat.le_of_ble_eq_true rfl, Nat.le_of_ble_eq_true rfl⟩) rfl rfl (Nat.le_of_ble_eq_true rfl) dX7_next_143 ⟨Nat.zero_le _, Nat.zero_le _⟩) hS (fun v_99 I_93 R_94 J_95 AI_96 AJ_97 AR_98 H locs zv_99 hp_100 hH hS => ?_)
                              dsimp only at hp_100
                              obtain ⟨rfl, rfl, rfl, rfl, rfl, rfl, q_101, q143⟩ := hp_100
                              refine z_if_eq (tgt := 154) F dX7_next_146 (by decide) zv_99 (fun c_102 => ?_) (fun c_102 => ?_)
                              · exact g_vret F hr hlk hH hS hz ⟨rfl, rfl, rfl, rfl, hv, pf, by first | omega | rfl | (dsimp only; omega), by first | omega | rfl | (dsimp only; omega), fun _ => by rw [hske]; first | exact tMk_run (by omega) (by omega) (by omega) q20 q21 q23 qw | exact tMk_end (by omega) (by omega) (by omega) (by omega) (by omega) | exact tMk_sg (by omega) (by omega) (by omega) (by omega) (by omega), fun h => absurd h (by omega)⟩ dX7_next_154
                              · refine lv_aload_n F.1 F.2.1 dX7_next_149 rfl (lv_at hl 2 rfl) ?_
                                refine lv_iload_n F.1 F.2.1 dX7_next_150 rfl (lv_at hl 1 rfl) ?_
                                have b_103 := mJ hv hm
                                unfold mNum1 at b_103
                                refine g_callv (g_runV (As := [.int (iI k)]) (rest := []) (ci := 7) F hl.1 hH hS hz (c_X7_runsf l g gh T b n I_43 R J AI AJ AR mo k zk hv hm hT (by omega) (by omega) (by omega) hb hr7 (by omega) (by omega) (by omega) (by omega)) (cwV 1 F.2.2.2.2.1 (good_up gT_X7_runs) rfl rfl rfl hdX7_runs ⟨Nat.le_of_ble_eq_true rfl, Nat.le_of_ble_eq_true rfl⟩) hm (by decide) rfl rfl rfl (Nat.le_of_ble_eq_true rfl) dX7_next_151 ⟨Nat.zero_le _, Nat.zero_le _⟩) hS (fun I_104 R_105 J_106 AI_107 AJ_108 AR_109 H locs hp_110 hH hS => ?_)
                                dsimp only at hp_110
                                obtain ⟨rfl, rfl, rfl, rfl, hv, pfq, q_111, q_112, q20, q21, q23, q19, qw⟩ := hp_110
                                have pf := qF_t pf pfq
                                have u_113_2 : (I_104 mo 2).toInt = (I mo 2).toInt := by rw [pf 2 (by decide) (by decide) (by decide) (by decide) (by decide)]
                                have u_113_5 : (I_104 mo 5).toInt = (I mo 5).toInt := by rw [pf 5 (by decide) (by decide) (by decide) (by decide) (by decide)]
                                have u_113_14 : (I_104 mo 14).toInt = (I mo 14).toInt := by rw [pf 14 (by decide) (by decide) (by decide) (by decide) (by decide)]
                                have u_113_16 : (I_104 mo 16).toInt = (I mo 16).toInt := by rw [pf 16 (by decide) (by decide) (by decide) (by decide) (by decide)]
                                have u_113_18 : (I_104 mo 18).toInt = (I mo 18).toInt := by rw [pf 18 (by decide) (by decide) (by decide) (by decide) (by decide)]
                                exact g_vret F hr hlk hH hS hz ⟨rfl, rfl, rfl, rfl, hv, pf, by first | omega | rfl | (dsimp only; omega), by first | omega | rfl | (dsimp only; omega), fun _ => by rw [hske]; first | exact tMk_run (by omega) (by omega) (by omega) q20 q21 q23 qw | exact tMk_end (by omega) (by omega) (by omega) (by omega) (by omega) | exact tMk_sg (by omega) (by omega) (by omega) (by omega) (by omega), fun h => absurd h (by omega)⟩ dX7_next_154
                          · refine lv_aload_n F.1 F.2.1 dX7_next_127 rfl (lv_at hl 2 rfl) ?_
                            refine z_iconst F dX7_next_128 ?_
                            refine g_putI (ci := 7) (k := 21) F hH hS rfl (by decide) iX7 hm (by decide) tyX7 tyX7_ok nmX7 rfl rfl rfl k94 dX7_next_129 (fun H locs hH hS => ?_)
                            obtain ⟨I_114, eI_114⟩ : ∃ qQ, qQ = gup2 I_43 mo 21 (iI (4)) := ⟨_, rfl⟩
                            rw [← eI_114] at hH
                            have kI_114 : ∀ b, b ≠ mo → I_114 b = I_43 b := fun b hb => by rw [eI_114]; exact funext fun j => gup2_a _ _ hb
                            have w_115 : (I_114 mo 21).toInt = 4 := by rw [eI_114, gup2_s]; exact iI_val ⟨by decide, by decide⟩
                            have hv : mInv g gh R I_114 AI := by rw [eI_114]; exact mP21 hv hm ⟨by decide, by decide⟩ (by omega)
                            have pf : qF mo I I_114 := qF_t pf (by rw [eI_114]; exact qF_p (by decide))
                            have u_116_2 : (I_114 mo 2).toInt = (I mo 2).toInt := by rw [pf 2 (by decide) (by decide) (by decide) (by decide) (by decide)]
                            have u_116_5 : (I_114 mo 5).toInt = (I mo 5).toInt := by rw [pf 5 (by decide) (by decide) (by decide) (by decide) (by decide)]
                            have u_116_14 : (I_114 mo 14).toInt = (I mo 14).toInt := by rw [pf 14 (by decide) (by decide) (by decide) (by decide) (by decide)]
                            have u_116_16 : (I_114 mo 16).toInt = (I mo 16).toInt := by rw [pf 16 (by decide) (by decide) (by decide) (by decide) (by decide)]
                            have u_116_18 : (I_114 mo 18).toInt = (I mo 18).toInt := by rw [pf 18 (by decide) (by decide) (by decide) (by decide) (by decide)]
                            have w_115_k19 : (I_114 mo 19).toInt = (I_43 mo 19).toInt := by rw [eI_114, gup2_k _ _ (by decide)]
                            have w_115_k20 : (I_114 mo 20).toInt = (I_43 mo 20).toInt := by rw [eI_114, gup2_k _ _ (by decide)]
                            have w_115_k23 : (I_114 mo 23).toInt = (I_43 mo 23).toInt := by rw [eI_114, gup2_k _ _ (by decide)]
                            have w_115_k24 : (I_114 mo 24).toInt = (I_43 mo 24).toInt := by rw [eI_114, gup2_k _ _ (by decide)]
                            refine z_goto (tgt := 154) F dX7_next_132 (by decide) ?_
                            exact g_vret F hr hlk hH hS hz ⟨rfl, rfl, rfl, rfl, hv, pf, by first | omega | rfl | (dsimp only; omega), by first | omega | rfl | (dsimp only; omega), fun _ => by rw [hske]; first | exact tMk_run (by omega) (by omega) (by omega) q20 q21 q23 qw | exact tMk_end (by omega) (by omega) (by omega) (by omega) (by omega) | exact tMk_sg (by omega) (by omega) (by omega) (by omega) (by omega), fun h => absurd h (by omega)⟩ dX7_next_154
            · refine lv_aload_n F.1 F.2.1 dX7_next_72 rfl (lv_at hl 2 rfl) ?_
              refine z_iconst F dX7_next_73 ?_
              refine g_putI (ci := 7) (k := 21) F hH hS rfl (by decide) iX7 hm (by decide) tyX7 tyX7_ok nmX7 rfl rfl rfl k94 dX7_next_74 (fun H locs hH hS => ?_)
              obtain ⟨I_117, eI_117⟩ : ∃ qQ, qQ = gup2 I_43 mo 21 (iI (0)) := ⟨_, rfl⟩
              rw [← eI_117] at hH
              have kI_117 : ∀ b, b ≠ mo → I_117 b = I_43 b := fun b hb => by rw [eI_117]; exact funext fun j => gup2_a _ _ hb
              have w_118 : (I_117 mo 21).toInt = 0 := by rw [eI_117, gup2_s]; exact iI_val ⟨by decide, by decide⟩
              have hv : mInv g gh R I_117 AI := by rw [eI_117]; exact mP21 hv hm ⟨by decide, by decide⟩ (by omega)
              have pf : qF mo I I_117 := qF_t pf (by rw [eI_117]; exact qF_p (by decide))
              have u_119_2 : (I_117 mo 2).toInt = (I mo 2).toInt := by rw [pf 2 (by decide) (by decide) (by decide) (by decide) (by decide)]
              have u_119_5 : (I_117 mo 5).toInt = (I mo 5).toInt := by rw [pf 5 (by decide) (by decide) (by decide) (by decide) (by decide)]
              have u_119_14 : (I_117 mo 14).toInt = (I mo 14).toInt := by rw [pf 14 (by decide) (by decide) (by decide) (by decide) (by decide)]
              have u_119_16 : (I_117 mo 16).toInt = (I mo 16).toInt := by rw [pf 16 (by decide) (by decide) (by decide) (by decide) (by decide)]
              have u_119_18 : (I_117 mo 18).toInt = (I mo 18).toInt := by rw [pf 18 (by decide) (by decide) (by decide) (by decide) (by decide)]
              have w_118_k19 : (I_117 mo 19).toInt = (I_43 mo 19).toInt := by rw [eI_117, gup2_k _ _ (by decide)]
              have w_118_k20 : (I_117 mo 20).toInt = (I_43 mo 20).toInt := by rw [eI_117, gup2_k _ _ (by decide)]
              have w_118_k23 : (I_117 mo 23).toInt = (I_43 mo 23).toInt := by rw [eI_117, gup2_k _ _ (by decide)]
              have w_118_k24 : (I_117 mo 24).toInt = (I_43 mo 24).toInt := by rw [eI_117, gup2_k _ _ (by decide)]
              refine lv_aload_n F.1 F.2.1 dX7_next_77 rfl (lv_at hl 2 rfl) ?_
              refine lv_iload_n F.1 F.2.1 dX7_next_78 rfl (lv_at hl 1 rfl) ?_
              refine g_putI (ci := 7) (k := 20) F hH hS rfl (by decide) iX7 hm (by decide) tyX7 tyX7_ok nmX7 rfl rfl rfl k84 dX7_next_79 (fun H locs hH hS => ?_)
              obtain ⟨I_120, eI_120⟩ : ∃ qQ, qQ = gup2 I_117 mo 20 (iI (k)) := ⟨_, rfl⟩
              rw [← eI_120] at hH
              have kI_120 : ∀ b, b ≠ mo → I_120 b = I_117 b := fun b hb => by rw [eI_120]; exact funext fun j => gup2_a _ _ hb
              have w_121 : (I_120 mo 20).toInt = k := by rw [eI_120, gup2_s]; exact iI_val zk
              have hv : mInv g gh R I_120 AI := by rw [eI_120]; exact mP20 hv hm (by omega) (by omega)
              have pf : qF mo I I_120 := qF_t pf (by rw [eI_120]; exact qF_p (by decide))
              have u_122_2 : (I_120 mo 2).toInt = (I mo 2).toInt := by rw [pf 2 (by decide) (by decide) (by decide) (by decide) (by decide)]
              have u_122_5 : (I_120 mo 5).toInt = (I mo 5).toInt := by rw [pf 5 (by decide) (by decide) (by decide) (by decide) (by decide)]
              have u_122_14 : (I_120 mo 14).toInt = (I mo 14).toInt := by rw [pf 14 (by decide) (by decide) (by decide) (by decide) (by decide)]
              have u_122_16 : (I_120 mo 16).toInt = (I mo 16).toInt := by rw [pf 16 (by decide) (by decide) (by decide) (by decide) (by decide)]
              have u_122_18 : (I_120 mo 18).toInt = (I mo 18).toInt := by rw [pf 18 (by decide) (by decide) (by decide) (by decide) (by decide)]
              have w_121_k19 : (I_120 mo 19).toInt = (I_117 mo 19).toInt := by rw [eI_120, gup2_k _ _ (by decide)]
              have w_121_k21 : (I_120 mo 21).toInt = (I_117 mo 21).toInt := by rw [eI_120, gup2_k _ _ (by decide)]
              have w_121_k23 : (I_120 mo 23).toInt = (I_117 mo 23).toInt := by rw [eI_120, gup2_k _ _ (by decide)]
              have w_121_k24 : (I_120 mo 24).toInt = (I_117 mo 24).toInt := by rw [eI_120, gup2_k _ _ (by decide)]
              refine z_goto (tgt := 154) F dX7_next_82 (by decide) ?_
              exact g_vret F hr hlk hH hS hz ⟨rfl, rfl, rfl, rfl, hv, pf, by first | omega | rfl | (dsimp only; omega), by first | omega | rfl | (dsimp only; omega), fun _ => by rw [hske]; first | exact tMk_run (by omega) (by omega) (by omega) q20 q21 q23 qw | exact tMk_end (by omega) (by omega) (by omega) (by omega) (by omega) | exact tMk_sg (by omega) (by omega) (by omega) (by omega) (by omega), fun h => absurd h (by omega)⟩ dX7_next_154
          · refine z_iinc (lv' := [(1, .int (iI (k + 1))), (0, .ref mo)]) F dX7_next_33 hl (k := 0) rfl (by decide) rfl (fun ls hl => ?_)
            refine z_goto (tgt := 13) F dX7_next_36 (by decide) ?_
            exact ih13 (k + 1) H locs ls ⟨by omega, by omega⟩ (by omega) (by first | exact ⟨by rw [show (I mo 20).toInt = (e0 : Int) from he0 (by omega)]; rfl, by omega, by omega⟩ | exact nx_bl hsk (by omega) (by omega)) (by omega) hH hS (lv_sub hl [0, 1] rfl)
    exact cut_13_2 (((936 - ((I mo 20).toInt)) + 1 : Int).toNat) ((I mo 20).toInt) H locs ls (zr_t _) (by omega) (by first | exact ⟨by rw [show (I mo 20).toInt = (e0 : Int) from he0 (by omega)]; rfl, by omega, by omega⟩ | exact nx_bl hsk (by omega) (by omega)) (by omega) hH hS (lv_sub hl [0, 1] rfl)
  · exact g_vret F hr hlk hH hS hz ⟨rfl, rfl, rfl, rfl, hv, pf, by first | omega | rfl | (dsimp only; omega), by first | omega | rfl | (dsimp only; omega), fun h => absurd h (by omega), fun _ => ⟨rfl, rfl⟩⟩ dX7_next_7
