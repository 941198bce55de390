/-! the tape's bytes: what the class puts, what the reference puts -/
def cBs (v : Int64) (sh : Int) : Int32 := vp_nar .byte (iI ((iI (((v.toUInt64 >>> ((iI sh).toInt64.toUInt64 &&& Int64.toUInt64 63)).toInt64.toInt32).toInt)).toInt8.toInt32.toInt))
def mBs (v : Int64) (sh : Int) : Int32 := iI ((iI (((v >>> ((iI sh).toInt64 &&& 63)).toInt32).toInt) &&& iI 255).toInt)
theorem fd3 {A0 A1 A2 A3 : Nat → Int32} {c1 c2 c3 : Nat → Int32} {L L1 L2 : Int} (h1 : ∀ k : Nat, (k : Int) < L ∨ L + 8 ≤ (k : Int) → A1 k = A0 k) (k1 : ∀ i : Nat, i < 8 → A1 (L.toNat + i) = c1 i) (h2 : ∀ k : Nat, (k : Int) < L1 ∨ L1 + 8 ≤ (k : Int) → A2 k = A1 k) (k2 : ∀ i : Nat, i < 8 → A2 (L1.toNat + i) = c2 i) (h3 : ∀ k : Nat, (k : Int) < L2 ∨ L2 + 8 ≤ (k : Int) → A3 k = A2 k) (k3 : ∀ i : Nat, i < 8 → A3 (L2.toNat + i) = c3 i)
    (h0 : 0 ≤ L) (e1 : L1 = L + 8) (e2 : L2 = L + 16) : (∀ k : Nat, (k : Int) < L ∨ L + 24 ≤ (k : Int) → A3 k = A0 k) ∧ (∀ i : Nat, i < 8 → A3 (L.toNat + 0 + i) = c1 i) ∧ (∀ i : Nat, i < 8 → A3 (L.toNat + 8 + i) = c2 i) ∧ ∀ i : Nat, i < 8 → A3 (L.toNat + 16 + i) = c3 i := by
  refine ⟨fun k hk => (h3 k (by omega)).trans ((h2 k (by omega)).trans (h1 k (by omega))), fun i hi => ?_, fun i hi => ?_, fun i hi => ?_⟩
  · rw [h3 _ (Or.inl (by omega)), h2 _ (Or.inl (by omega))]; exact k1 i hi
  · rw [h3 _ (Or.inl (by omega)), show L.toNat + 8 + i = L1.toNat + i by omega]; exact k2 i hi
  · rw [show L.toNat + 16 + i = L2.toNat + i by omega]; exact k3 i hi
def rmX6_putBytesf : Room := { frames := 0, cells := 0, slots := 0, locals := 0 }
set_option maxHeartbeats 4000000 in
set_option maxRecDepth 100000 in
/-- eight bytes -/
theorem c_X6_putBytesf (l : Launch) (g : gG) (gh : gGh) (I : gI) (R : gR) (J : gJ) (AI : gI) (AJ : gJ) (AR : gR) (x : Nat) (v8 : Int64) (hR : R x 0 = some (gh 28 0) ∧ gAr g (gh 28 0) 8 936) (hx1 : gO g x 6) (h0 : (I x 1).toInt ≤ 928) (h1 : 0 ≤ (I x 1).toInt) : gMet l g yX6_putBytes wsX6_putBytes rmX6_putBytesf [.ref x, .long v8] (I, R, J, AI, AJ, AR) (gQv g (fun w : gS => R = w.2.1 ∧ J = w.2.2.1 ∧ AJ = w.2.2.2.2.1 ∧ AR = w.2.2.2.2.2 ∧ (∀ b, b ≠ x → (w.1) b = I b) ∧ (∀ j, j ≠ 1 → (w.1) x j = I x j) ∧ (∀ b, b ≠ gh 28 0 → (w.2.2.2.1) b = AI b) ∧ (((w.1) x 1).toInt = (I x 1).toInt + 8) ∧ (∀ k : Nat, (k : Int) < (I x 1).toInt ∨ (I x 1).toInt + 8 ≤ (k : Int) → (w.2.2.2.1) (gh 28 0) k = AI (gh 28 0) k) ∧ (∀ i : Nat, i < 8 → (w.2.2.2.1) (gh 28 0) ((I x 1).toInt.toNat + i) = cBs v8 (56 - 8 * (i : Int))))) := by
  refine gStart (cc := cX6_putBytes) (maxL := 4) (ret := none) (by decide) rfl (Nat.le_of_ble_eq_true rfl) ?_
  intro p e s m below meth c ls F hr hlk hH hz hS hl
  have hl : lv_has ls 4 [(0, .ref x), (1, .long v8)] := hl
  have hS : va_S (gA g) s.heap s.heap [] := hS
  obtain ⟨H, hHe⟩ : ∃ H : Heap, H = s.heap := ⟨_, rfl⟩
  obtain ⟨locs, hlo⟩ : ∃ k : List Loc, k = [] := ⟨_, rfl⟩
  have hH : gH g I R J AI AJ AR H := by rw [hHe]; exact hH
  have hS : va_S (gA g) s.heap H locs := by rw [hHe, hlo]; exact hS
  suffices hw : W p l e rmX6_putBytesf s m ([.ref x, .long v8] : List Value).toArray below meth c H locs 0 0 (MQ below (gQv g (fun w : gS => R = w.2.1 ∧ J = w.2.2.1 ∧ AJ = w.2.2.2.2.1 ∧ AR = w.2.2.2.2.2 ∧ (∀ b, b ≠ x → (w.1) b = I b) ∧ (∀ j, j ≠ 1 → (w.1) x j = I x j) ∧ (∀ b, b ≠ gh 28 0 → (w.2.2.2.1) b = AI b) ∧ (((w.1) x 1).toInt = (I x 1).toInt + 8) ∧ (∀ k : Nat, (k : Int) < (I x 1).toInt ∨ (I x 1).toInt + 8 ≤ (k : Int) → (w.2.2.2.1) (gh 28 0) k = AI (gh 28 0) k) ∧ (∀ i : Nat, i < 8 → (w.2.2.2.1) (gh 28 0) ((I x 1).toInt.toNat + i) = cBs v8 (56 - 8 * (i : Int))))) ([.ref x, .long v8] : List Value).toArray s 0 0 (gA g)) (F0 m 0 ls []) by
    rw [hHe, hlo] at hw; exact hw
  clear hHe hlo
  have fj : ∀ j, j ≠ 1 → I x j = I x j := fun _ _ => rfl
  have ft : ∀ k : Nat, (k : Int) < (I x 1).toInt ∨ (I x 1).toInt + 8 ≤ (k : Int) → AI (gh 28 0) k = AI (gh 28 0) k := fun _ _ => rfl
  have iX6 : ∀ w ∈ u_ws RX6 TX6 18, w ∈ wsX6_putBytes := (by decide +kernel)
  have k9 : Cond.fieldLink RX6 9 (TX6 0).1 (TX6 0).2.1 (TX6 0).2.2.1 ∈ wsX6_putBytes := List.mem_of_getElem? (i := 1) rfl
  have k77 : Cond.fieldLink RX6 77 (TX6 1).1 (TX6 1).2.1 (TX6 1).2.2.1 ∈ wsX6_putBytes := List.mem_of_getElem? (i := 2) rfl
  refine z_bipush F dX6_putBytes_0 (by decide) ?_
  refine lv_istore_n (lv' := [(3, .int (iI 56)), (0, .ref x), (1, .long v8)]) F.1 F.2.1 dX6_putBytes_2 rfl hl (by decide) rfl (fun ls hl => ?_)
  have cut_3_2 : ∀ (NN : Nat) (sh : Int) (I_1 : gI) (AI_2 : gI) (H : Heap) (locs : List Loc) (ls : Array Slot), zr sh → (∀ b, b ≠ x → I_1 b = I b) → (∀ j, j ≠ 1 → I_1 x j = I x j) → (∀ b, b ≠ gh 28 0 → AI_2 b = AI b) → (∀ k : Nat, (k : Int) < (I x 1).toInt ∨ (I x 1).toInt + 8 ≤ (k : Int) → AI_2 (gh 28 0) k = AI (gh 28 0) k) → (∀ i : Nat, 8 * (i : Int) < 56 - sh → AI_2 (gh 28 0) ((I x 1).toInt.toNat + i) = cBs v8 (56 - 8 * (i : Int))) → (-8 ≤ sh ∧ sh ≤ 56 ∧ 8 * ((I_1 x 1).toInt - (I x 1).toInt) = 56 - sh ∧ (8 ∣ sh)) → (sh + 8) < ((NN : Nat) : Int) → gH g I_1 R J AI_2 AJ AR H → va_S (gA g) s.heap H locs → lv_has ls 4 [(3, .int (iI sh)), (0, .ref x), (1, .long v8)] → W p l e rmX6_putBytesf s m ([.ref x, .long v8] : List Value).toArray below meth c H locs 0 0 (MQ below (gQv g (fun w : gS => R = w.2.1 ∧ J = w.2.2.1 ∧ AJ = w.2.2.2.2.1 ∧ AR = w.2.2.2.2.2 ∧ (∀ b, b ≠ x → (w.1) b = I b) ∧ (∀ j, j ≠ 1 → (w.1) x j = I x j) ∧ (∀ b, b ≠ gh 28 0 → (w.2.2.2.1) b = AI b) ∧ (((w.1) x 1).toInt = (I x 1).toInt + 8) ∧ (∀ k : Nat, (k : Int) < (I x 1).toInt ∨ (I x 1).toInt + 8 ≤ (k : Int) → (w.2.2.2.1) (gh 28 0) k = AI (gh 28 0) k) ∧ (∀ i : Nat, i < 8 → (w.2.2.2.1) (gh 28 0) ((I x 1).toInt.toNat + i) = cBs v8 (56 - 8 * (i : Int))))) ([.ref x, .long v8] : List Value).toArray s 0 0 (gA g)) (F0 m 3 ls []) := by
    intro NN3
    induction NN3 with
    | zero =>
      intro sh I_1 AI_2 H locs ls zsh fx fj fa ft fc hs hm3 hH hS hl
      exact absurd hm3 (by omega)
    | succ NN3 ih3 =>
      intro sh I_1 AI_2 H locs ls zsh fx fj fa ft fc hs hm3 hH hS hl
      refine lv_iload_n F.1 F.2.1 dX6_putBytes_3 rfl (lv_at hl 0 rfl) ?_
      refine z_if_lt (tgt := 37) F dX6_putBytes_4 (by decide) zsh (fun c_4 => ?_) (fun c_4 => ?_)
      · exact g_vret F hr hlk hH hS hz ⟨rfl, rfl, rfl, rfl, fun b hb => fx b hb, fj, fun b hb => fa b hb, by first | omega | rfl | (dsimp only; omega), ft, (fun i hi => fc i (by omega))⟩ dX6_putBytes_37
      · refine lv_aload_n F.1 F.2.1 dX6_putBytes_7 rfl (lv_at hl 1 rfl) ?_
        refine g_getR (ci := 6) (k := 0) F hH rfl (by decide) iX6 hx1 (by decide) rfl (b := gh 28 0) hR.1 k9 dX6_putBytes_8 ?_
        refine lv_aload_n F.1 F.2.1 dX6_putBytes_11 rfl (lv_at hl 1 rfl) ?_
        refine g_getI (ci := 6) (k := 1) F hH rfl (by decide) iX6 hx1 (by decide) rfl k77 dX6_putBytes_12 ?_
        refine lv_lload_n F.1 F.2.1 dX6_putBytes_15 rfl (lv_at hl 2 rfl) ?_
        refine lv_iload_n F.1 F.2.1 dX6_putBytes_16 rfl (lv_at hl 0 rfl) ?_
        refine lv_lushr F.1 F.2.1 dX6_putBytes_17 rfl ?_
        refine lv_topl (fun j_5 ej_5 => ?_)
        refine lv_l2i F.1 F.2.1 dX6_putBytes_18 rfl ?_
        refine z_top (fun v_6 zv_6 ev_6 => ?_)
        refine lv_i2b F.1 F.2.1 dX6_putBytes_19 rfl ?_
        refine z_top (fun v_7 zv_7 ev_7 => ?_)
        have hx20 : 0 ≤ ((I_1 x 1).toInt) ∧ ((I_1 x 1).toInt) < ((936 : Nat) : Int) ∧ ((I_1 x 1).toInt) ≤ 2147483647 := ⟨by omega, by omega, by omega⟩
        refine g_bast F hH hS hR.2 hx20.1 hx20.2.1 hx20.2.2 dX6_putBytes_20 (fun H locs hH hS => ?_)
        obtain ⟨AI_8, eAI_8⟩ : ∃ qQ, qQ = gup2 AI_2 (gh 28 0) (((I_1 x 1).toInt)).toNat (vp_nar .byte (iI (v_7))) := ⟨_, rfl⟩
        rw [← eAI_8] at hH
        have kAI_8 : ∀ b, b ≠ (gh 28 0) → AI_8 b = AI_2 b := fun b hb => by rw [eAI_8]; exact funext fun j => gup2_a _ _ hb
        have ft : ∀ k : Nat, (k : Int) < (I x 1).toInt ∨ (I x 1).toInt + 8 ≤ (k : Int) → AI_8 (gh 28 0) k = AI (gh 28 0) k := fun k hk => by rw [eAI_8, gup2_k _ _ (by omega)]; exact ft k hk
        have fc : ∀ i : Nat, 8 * (i : Int) < 64 - sh → AI_8 (gh 28 0) ((I x 1).toInt.toNat + i) = cBs v8 (56 - 8 * (i : Int)) := fun i hi => by
          by_cases hq : 8 * (i : Int) = 56 - sh
          · rw [eAI_8, gup2_e _ _ (by omega), show 56 - 8 * (i : Int) = sh by omega, ev_7, ev_6, ej_5]; rfl
          · rw [eAI_8, gup2_k _ _ (by omega)]; exact fc i (by omega)
        refine lv_aload_n F.1 F.2.1 dX6_putBytes_21 rfl (lv_at hl 1 rfl) ?_
        refine lv_dup F.1 F.2.1 dX6_putBytes_22 rfl ?_
        refine g_getI (ci := 6) (k := 1) F hH rfl (by decide) iX6 hx1 (by decide) rfl k77 dX6_putBytes_23 ?_
        refine z_iconst F dX6_putBytes_26 ?_
        refine z_iadd F dX6_putBytes_27 ?_
        refine g_putI (ci := 6) (k := 1) F hH hS rfl (by decide) iX6 hx1 (by decide) tyX6 tyX6_ok nmX6 rfl rfl rfl k77 dX6_putBytes_28 (fun H locs hH hS => ?_)
        obtain ⟨I_9, eI_9⟩ : ∃ qQ, qQ = gup2 I_1 x 1 (iI (((I_1 x 1).toInt) + 1)) := ⟨_, rfl⟩
        rw [← eI_9] at hH
        have kI_9 : ∀ b, b ≠ x → I_9 b = I_1 b := fun b hb => by rw [eI_9]; exact funext fun j => gup2_a _ _ hb
        have w1 : (I_9 x 1).toInt = (I_1 x 1).toInt + 1 := by rw [eI_9, gup2_s]; exact iI_val ⟨by omega, by omega⟩
        have fj : ∀ j, j ≠ 1 → I_9 x j = I x j := fun j hj => by rw [eI_9, gup2_k _ _ hj]; exact fj j hj
        refine z_iinc (lv' := [(3, .int (iI (sh + (-8)))), (0, .ref x), (1, .long v8)]) F dX6_putBytes_31 hl (k := 0) rfl (by decide) rfl (fun ls hl => ?_)
        refine z_goto (tgt := 3) F dX6_putBytes_34 (by decide) ?_
        exact ih3 (sh + (-8)) I_9 AI_8 H locs ls ⟨by omega, by omega⟩ (fun b hb => (kI_9 b hb).trans (fx b hb)) fj (fun b hb => (kAI_8 b hb).trans (fa b hb)) ft (fun i hi => by first | exact fc i (by omega) | exact absurd hi (by omega)) (by omega) (by omega) hH hS (lv_sub hl [0, 1, 2] rfl)
  exact cut_3_2 (((56 + 8) + 1 : Int).toNat) 56 I AI H locs ls ⟨by decide, by decide⟩ (fun _ _ => rfl) fj (fun _ _ => rfl) ft (fun i hi => by first | exact fc i (by omega) | exact absurd hi (by omega)) (by omega) (by omega) hH hS (lv_sub hl [0, 1, 2] rfl)

def rmX6_feedf : Room := { frames := 1, cells := 0, slots := 0, locals := 23 }
set_option maxHeartbeats 4000000 in
set_option maxRecDepth 100000 in
/-- 24 bytes -/
theorem c_X6_feedf (l : Launch) (g : gG) (gh : gGh) (pA bA nA : Nat) (I : gI) (R : gR) (J : gJ) (AI : gI) (AJ : gJ) (AR : gR) (x : Nat) (b1 : Int64) (b2 : Int64) (b3 : Int64) (hv : gInv g gh R AR I AI) (hx : xS g gh R AR x pA bA nA) : gMet l g yX6_feed wsX6_feed rmX6_feedf [.ref x, .long b1, .long b2, .long b3] (I, R, J, AI, AJ, AR) (gQi g (fun (z : Int) (w : gS) => R = w.2.1 ∧ J = w.2.2.1 ∧ AJ = w.2.2.2.2.1 ∧ AR = w.2.2.2.2.2 ∧ (∀ b, b ≠ x → (w.1) b = I b) ∧ (∀ j, j ≠ 1 → (w.1) x j = I x j) ∧ (∀ b, b ≠ gh 28 0 → (w.2.2.2.1) b = AI b) ∧ ((936 < (I x 1).toInt + 24 ∧ z = -1 ∧ ((w.1) x 1).toInt = (I x 1).toInt ∧ (w.2.2.2.1) (gh 28 0) = AI (gh 28 0)) ∨ ((I x 1).toInt + 24 ≤ 936 ∧ z = (I x 1).toInt + 24 ∧ ((w.1) x 1).toInt = (I x 1).toInt + 24 ∧ (∀ k : Nat, (k : Int) < (I x 1).toInt ∨ (I x 1).toInt + 24 ≤ (k : Int) → (w.2.2.2.1) (gh 28 0) k = AI (gh 28 0) k) ∧ (∀ i : Nat, i < 8 → (w.2.2.2.1) (gh 28 0) ((I x 1).toInt.toNat + 0 + i) = cBs b1 (56 - 8 * (i : Int))) ∧ (∀ i : Nat, i < 8 → (w.2.2.2.1) (gh 28 0) ((I x 1).toInt.toNat + 8 + i) = cBs b2 (56 - 8 * (i : Int))) ∧ (∀ i : Nat, i < 8 → (w.2.2.2.1) (gh 28 0) ((I x 1).toInt.toNat + 16 + i) = cBs b3 (56 - 8 * (i : Int))))))) := by
  refine gStart (cc := cX6_feed) (maxL := 7) (ret := (some (.int))) (by decide) rfl (Nat.le_of_ble_eq_true rfl) ?_
  intro p e s m below meth c ls F hr hlk hH hz hS hl
  have hl : lv_has ls 7 [(0, .ref x), (1, .long b1), (3, .long b2), (5, .long b3)] := hl
  have hS : va_S (gA g) s.heap s.heap [] := hS
  obtain ⟨H, hHe⟩ : ∃ H : Heap, H = s.heap := ⟨_, rfl⟩
  obtain ⟨locs, hlo⟩ : ∃ k : List Loc, k = [] := ⟨_, rfl⟩
  have hH : gH g I R J AI AJ AR H := by rw [hHe]; exact hH
  have hS : va_S (gA g) s.heap H locs := by rw [hHe, hlo]; exact hS
  suffices hw : W p l e rmX6_feedf s m ([.ref x, .long b1, .long b2, .long b3] : List Value).toArray below meth c H locs 0 0 (MQ below (gQi g (fun (z : Int) (w : gS) => R = w.2.1 ∧ J = w.2.2.1 ∧ AJ = w.2.2.2.2.1 ∧ AR = w.2.2.2.2.2 ∧ (∀ b, b ≠ x → (w.1) b = I b) ∧ (∀ j, j ≠ 1 → (w.1) x j = I x j) ∧ (∀ b, b ≠ gh 28 0 → (w.2.2.2.1) b = AI b) ∧ ((936 < (I x 1).toInt + 24 ∧ z = -1 ∧ ((w.1) x 1).toInt = (I x 1).toInt ∧ (w.2.2.2.1) (gh 28 0) = AI (gh 28 0)) ∨ ((I x 1).toInt + 24 ≤ 936 ∧ z = (I x 1).toInt + 24 ∧ ((w.1) x 1).toInt = (I x 1).toInt + 24 ∧ (∀ k : Nat, (k : Int) < (I x 1).toInt ∨ (I x 1).toInt + 24 ≤ (k : Int) → (w.2.2.2.1) (gh 28 0) k = AI (gh 28 0) k) ∧ (∀ i : Nat, i < 8 → (w.2.2.2.1) (gh 28 0) ((I x 1).toInt.toNat + 0 + i) = cBs b1 (56 - 8 * (i : Int))) ∧ (∀ i : Nat, i < 8 → (w.2.2.2.1) (gh 28 0) ((I x 1).toInt.toNat + 8 + i) = cBs b2 (56 - 8 * (i : Int))) ∧ (∀ i : Nat, i < 8 → (w.2.2.2.1) (gh 28 0) ((I x 1).toInt.toNat + 16 + i) = cBs b3 (56 - 8 * (i : Int))))))) ([.ref x, .long b1, .long b2, .long b3] : List Value).toArray s 0 0 (gA g)) (F0 m 0 ls []) by
    rw [hHe, hlo] at hw; exact hw
  clear hHe hlo
  have iX6 : ∀ w ∈ u_ws RX6 TX6 18, w ∈ wsX6_feed := (by decide +kernel)
  have k77 : Cond.fieldLink RX6 77 (TX6 1).1 (TX6 1).2.1 (TX6 1).2.2.1 ∈ wsX6_feed := List.mem_of_getElem? (i := 1) rfl
  refine lv_aload_n F.1 F.2.1 dX6_feed_0 rfl (lv_at hl 0 rfl) ?_
  refine g_getI (ci := 6) (k := 1) F hH rfl (by decide) iX6 hx.1 (by decide) rfl k77 dX6_feed_1 ?_
  have b_1 := gI_x hv hx.1
  refine z_bipush F dX6_feed_4 (by decide) ?_
  refine z_iadd F dX6_feed_6 ?_
  refine z_sipush F dX6_feed_7 (by decide) ?_
  refine z_icmp_le (tgt := 15) F dX6_feed_10 (by decide) ⟨by omega, by omega⟩ ⟨by decide, by decide⟩ (fun c_2 => ?_) (fun c_2 => ?_)
  · refine lv_aload_n F.1 F.2.1 dX6_feed_15 rfl (lv_at hl 0 rfl) ?_
    refine lv_lload_n F.1 F.2.1 dX6_feed_16 rfl (lv_at hl 1 rfl) ?_
    refine g_callv (g_runV (As := [.long b1]) (rest := []) (ci := 6) F hl.1 hH hS hz (c_X6_putBytesf l g gh I R J AI AJ AR x b1 (gR_x0 hv hx.1) hx.1 (by omega) (by omega)) (cwV 1 F.2.2.2.2.1 gX6_feed_X6_putBytes rfl rfl rfl hdX6_putBytes ⟨Nat.le_of_ble_eq_true rfl, Nat.le_of_ble_eq_true rfl⟩) hx.1 (by decide) rfl rfl rfl (Nat.le_of_ble_eq_true rfl) dX6_feed_17 ⟨Nat.zero_le _, Nat.zero_le _⟩) hS (fun I_3 R_4 J_5 AI_6 AJ_7 AR_8 H locs hp_9 hH hS => ?_)
    dsimp only at hp_9
    obtain ⟨rfl, rfl, rfl, rfl, fI1, fj1, fA1, w1, ft1, fc1⟩ := hp_9
    refine lv_aload_n F.1 F.2.1 dX6_feed_20 rfl (lv_at hl 0 rfl) ?_
    refine lv_lload_n F.1 F.2.1 dX6_feed_21 rfl (lv_at hl 2 rfl) ?_
    have b_10 := gI_x hv hx.1
    refine g_callv (g_runV (As := [.long b2]) (rest := []) (ci := 6) F hl.1 hH hS hz (c_X6_putBytesf l g gh I_3 R J AI_6 AJ AR x b2 (gR_x0 hv hx.1) hx.1 (by omega) (by omega)) (cwV 1 F.2.2.2.2.1 gX6_feed_X6_putBytes rfl rfl rfl hdX6_putBytes ⟨Nat.le_of_ble_eq_true rfl, Nat.le_of_ble_eq_true rfl⟩) hx.1 (by decide) rfl rfl rfl (Nat.le_of_ble_eq_true rfl) dX6_feed_22 ⟨Nat.zero_le _, Nat.zero_le _⟩) hS (fun I_11 R_12 J_13 AI_14 AJ_15 AR_16 H locs hp_17 hH hS => ?_)
    dsimp only at hp_17
    obtain ⟨rfl, rfl, rfl, rfl, fI2, fj2, fA2, w2, ft2, fc2⟩ := hp_17
    refine lv_aload_n F.1 F.2.1 dX6_feed_25 rfl (lv_at hl 0 rfl) ?_
    refine lv_lload F.1 F.2.1 dX6_feed_26 (lv_at hl 3 rfl) ?_
    have b_18 := gI_x hv hx.1
    refine g_callv (g_runV (As := [.long b3]) (rest := []) (ci := 6) F hl.1 hH hS hz (c_X6_putBytesf l g gh I_11 R J AI_14 AJ AR x b3 (gR_x0 hv hx.1) hx.1 (by omega) (by omega)) (cwV 1 F.2.2.2.2.1 gX6_feed_X6_putBytes rfl rfl rfl hdX6_putBytes ⟨Nat.le_of_ble_eq_true rfl, Nat.le_of_ble_eq_true rfl⟩) hx.1 (by decide) rfl rfl rfl (Nat.le_of_ble_eq_true rfl) dX6_feed_28 ⟨Nat.zero_le _, Nat.zero_le _⟩) hS (fun I_19 R_20 J_21 AI_22 AJ_23 AR_24 H locs hp_25 hH hS => ?_)
    dsimp only at hp_25
    obtain ⟨rfl, rfl, rfl, rfl, fI3, fj3, fA3, w3, ft3, fc3⟩ := hp_25
    refine lv_aload_n F.1 F.2.1 dX6_feed_31 rfl (lv_at hl 0 rfl) ?_
    refine g_getI (ci := 6) (k := 1) F hH rfl (by decide) iX6 hx.1 (by decide) rfl k77 dX6_feed_32 ?_
    have b_26 := gI_x hv hx.1
    exact g_iret F hr hlk hH hS hz (zr_t _) ⟨rfl, rfl, rfl, rfl, fun b hb => ((fI3 b hb).trans (fI2 b hb)).trans (fI1 b hb), (fun j hj => (fj3 j hj).trans ((fj2 j hj).trans (fj1 j hj))), fun b hb => ((fA3 b hb).trans (fA2 b hb)).trans (fA1 b hb), Or.inr ⟨by omega, by omega, (by first | omega | rfl | (dsimp only; omega)), fd3 ft1 fc1 ft2 fc2 ft3 fc3 (by omega) (by omega) (by omega)⟩⟩ dX6_feed_35
  · refine z_iconst F dX6_feed_13 ?_
    exact g_iret F hr hlk hH hS hz ⟨by decide, by decide⟩ ⟨rfl, rfl, rfl, rfl, fun _ _ => rfl, (fun _ _ => rfl), fun _ _ => rfl, Or.inl ⟨by omega, rfl, (by first | omega | rfl | (dsimp only; omega)), rfl⟩⟩ dX6_feed_14

def rmX7_eightf : Room := { frames := 0, cells := 0, slots := 0, locals := 0 }
set_option maxHeartbeats 4000000 in
set_option maxRecDepth 100000 in
/-- eight bytes -/
theorem c_X7_eightf (l : Launch) (g : gG) (gh : gGh) (I : gI) (R : gR) (J : gJ) (AI : gI) (AJ : gJ) (AR : gR) (mo : Nat) (v8 : Int64) (hR : R mo 15 = some (gh 65 0) ∧ gAr g (gh 65 0) 9 936) (hm : gO g mo 7) (h0 : (I mo 16).toInt ≤ 928) (h1 : 0 ≤ (I mo 16).toInt) : gMet l g yX7_eight tsX7_eight rmX7_eightf [.ref mo, .long v8] (I, R, J, AI, AJ, AR) (gQv g (fun w : gS => R = w.2.1 ∧ J = w.2.2.1 ∧ AJ = w.2.2.2.2.1 ∧ AR = w.2.2.2.2.2 ∧ (∀ b, b ≠ mo → (w.1) b = I b) ∧ (∀ j, j ≠ 16 → (w.1) mo j = I mo j) ∧ (∀ b, b ≠ gh 65 0 → (w.2.2.2.1) b = AI b) ∧ (((w.1) mo 16).toInt = (I mo 16).toInt + 8) ∧ (∀ k : Nat, (k : Int) < (I mo 16).toInt ∨ (I mo 16).toInt + 8 ≤ (k : Int) → (w.2.2.2.1) (gh 65 0) k = AI (gh 65 0) k) ∧ (∀ i : Nat, i < 8 → (w.2.2.2.1) (gh 65 0) ((I mo 16).toInt.toNat + i) = mBs v8 (56 - 8 * (i : Int))))) := by
  refine gStart (cc := cX7_eight) (maxL := 4) (ret := none) (by decide) rfl (Nat.le_of_ble_eq_true rfl) ?_
  intro p e s m below meth c ls F hr hlk hH hz hS hl
  have hl : lv_has ls 4 [(0, .ref mo), (1, .long v8)] := hl
  have hS : va_S (gA g) s.heap s.heap [] := hS
  obtain ⟨H, hHe⟩ : ∃ H : Heap, H = s.heap := ⟨_, rfl⟩
  obtain ⟨locs, hlo⟩ : ∃ k : List Loc, k = [] := ⟨_, rfl⟩
  have hH : gH g I R J AI AJ AR H := by rw [hHe]; exact hH
  have hS : va_S (gA g) s.heap H locs := by rw [hHe, hlo]; exact hS
  suffices hw : W p l e rmX7_eightf s m ([.ref mo, .long v8] : List Value).toArray below meth c H locs 0 0 (MQ below (gQv g (fun w : gS => R = w.2.1 ∧ J = w.2.2.1 ∧ AJ = w.2.2.2.2.1 ∧ AR = w.2.2.2.2.2 ∧ (∀ b, b ≠ mo → (w.1) b = I b) ∧ (∀ j, j ≠ 16 → (w.1) mo j = I mo j) ∧ (∀ b, b ≠ gh 65 0 → (w.2.2.2.1) b = AI b) ∧ (((w.1) mo 16).toInt = (I mo 16).toInt + 8) ∧ (∀ k : Nat, (k : Int) < (I mo 16).toInt ∨ (I mo 16).toInt + 8 ≤ (k : Int) → (w.2.2.2.1) (gh 65 0) k = AI (gh 65 0) k) ∧ (∀ i : Nat, i < 8 → (w.2.2.2.1) (gh 65 0) ((I mo 16).toInt.toNat + i) = mBs v8 (56 - 8 * (i : Int))))) ([.ref mo, .long v8] : List Value).toArray s 0 0 (gA g)) (F0 m 0 ls []) by
    rw [hHe, hlo] at hw; exact hw
  clear hHe hlo
  have fj : ∀ j, j ≠ 16 → I mo j = I mo j := fun _ _ => rfl
  have ft : ∀ k : Nat, (k : Int) < (I mo 16).toInt ∨ (I mo 16).toInt + 8 ≤ (k : Int) → AI (gh 65 0) k = AI (gh 65 0) k := fun _ _ => rfl
  have iX7 : ∀ w ∈ u_ws RX7 TX7 32, w ∈ tsX7_eight := fun w h => List.mem_cons_of_mem _ (inTB7 w h)
  have k39 : Cond.fieldLink RX7 39 (TX7 15).1 (TX7 15).2.1 (TX7 15).2.2.1 ∈ tsX7_eight := List.mem_cons_of_mem _ fl_39
  have k71 : Cond.fieldLink RX7 71 (TX7 16).1 (TX7 16).2.1 (TX7 16).2.2.1 ∈ tsX7_eight := List.mem_cons_of_mem _ fl_71
  refine z_bipush F dX7_eight_0 (by decide) ?_
  refine lv_istore_n (lv' := [(3, .int (iI 56)), (0, .ref mo), (1, .long v8)]) F.1 F.2.1 dX7_eight_2 rfl hl (by decide) rfl (fun ls hl => ?_)
  have cut_3_2 : ∀ (NN : Nat) (sh : Int) (I_1 : gI) (AI_2 : gI) (H : Heap) (locs : List Loc) (ls : Array Slot), zr sh → (∀ b, b ≠ mo → I_1 b = I b) → (∀ j, j ≠ 16 → I_1 mo j = I mo j) → (∀ b, b ≠ gh 65 0 → AI_2 b = AI b) → (∀ k : Nat, (k : Int) < (I mo 16).toInt ∨ (I mo 16).toInt + 8 ≤ (k : Int) → AI_2 (gh 65 0) k = AI (gh 65 0) k) → (∀ i : Nat, 8 * (i : Int) < 56 - sh → AI_2 (gh 65 0) ((I mo 16).toInt.toNat + i) = mBs v8 (56 - 8 * (i : Int))) → (-8 ≤ sh ∧ sh ≤ 56 ∧ 8 * ((I_1 mo 16).toInt - (I mo 16).toInt) = 56 - sh ∧ (8 ∣ sh)) → (sh + 8) < ((NN : Nat) : Int) → gH g I_1 R J AI_2 AJ AR H → va_S (gA g) s.heap H locs → lv_has ls 4 [(3, .int (iI sh)), (0, .ref mo), (1, .long v8)] → W p l e rmX7_eightf s m ([.ref mo, .long v8] : List Value).toArray below meth c H locs 0 0 (MQ below (gQv g (fun w : gS => R = w.2.1 ∧ J = w.2.2.1 ∧ AJ = w.2.2.2.2.1 ∧ AR = w.2.2.2.2.2 ∧ (∀ b, b ≠ mo → (w.1) b = I b) ∧ (∀ j, j ≠ 16 → (w.1) mo j = I mo j) ∧ (∀ b, b ≠ gh 65 0 → (w.2.2.2.1) b = AI b) ∧ (((w.1) mo 16).toInt = (I mo 16).toInt + 8) ∧ (∀ k : Nat, (k : Int) < (I mo 16).toInt ∨ (I mo 16).toInt + 8 ≤ (k : Int) → (w.2.2.2.1) (gh 65 0) k = AI (gh 65 0) k) ∧ (∀ i : Nat, i < 8 → (w.2.2.2.1) (gh 65 0) ((I mo 16).toInt.toNat + i) = mBs v8 (56 - 8 * (i : Int))))) ([.ref mo, .long v8] : List Value).toArray s 0 0 (gA g)) (F0 m 3 ls []) := by
    intro NN3
    induction NN3 with
    | zero =>
      intro sh I_1 AI_2 H locs ls zsh fx fj fa ft fc hs hm3 hH hS hl
      exact absurd hm3 (by omega)
    | succ NN3 ih3 =>
      intro sh I_1 AI_2 H locs ls zsh fx fj fa ft fc hs hm3 hH hS hl
      refine lv_iload_n F.1 F.2.1 dX7_eight_3 rfl (lv_at hl 0 rfl) ?_
      refine z_if_lt (tgt := 40) F dX7_eight_4 (by decide) zsh (fun c_4 => ?_) (fun c_4 => ?_)
      · exact g_vret F hr hlk hH hS hz ⟨rfl, rfl, rfl, rfl, fun b hb => fx b hb, fj, fun b hb => fa b hb, by first | omega | rfl | (dsimp only; omega), ft, (fun i hi => fc i (by omega))⟩ dX7_eight_40
      · refine lv_aload_n F.1 F.2.1 dX7_eight_7 rfl (lv_at hl 1 rfl) ?_
        refine g_getR (ci := 7) (k := 15) F hH rfl (by decide) iX7 hm (by decide) rfl (b := gh 65 0) hR.1 k39 dX7_eight_8 ?_
        refine lv_aload_n F.1 F.2.1 dX7_eight_11 rfl (lv_at hl 1 rfl) ?_
        refine g_getI (ci := 7) (k := 16) F hH rfl (by decide) iX7 hm (by decide) rfl k71 dX7_eight_12 ?_
        refine lv_lload_n F.1 F.2.1 dX7_eight_15 rfl (lv_at hl 2 rfl) ?_
        refine lv_iload_n F.1 F.2.1 dX7_eight_16 rfl (lv_at hl 0 rfl) ?_
        refine lv_lshr F.1 F.2.1 dX7_eight_17 rfl ?_
        refine lv_topl (fun j_5 ej_5 => ?_)
        refine lv_l2i F.1 F.2.1 dX7_eight_18 rfl ?_
        refine z_top (fun v_6 zv_6 ev_6 => ?_)
        refine z_sipush F dX7_eight_19 (by decide) ?_
        refine lv_iand F.1 F.2.1 dX7_eight_22 ?_
        refine z_top (fun v_7 zv_7 ev_7 => ?_)
        have hx23 : 0 ≤ ((I_1 mo 16).toInt) ∧ ((I_1 mo 16).toInt) < ((936 : Nat) : Int) ∧ ((I_1 mo 16).toInt) ≤ 2147483647 := ⟨by omega, by omega, by omega⟩
        refine g_iast F hH hS hR.2 hx23.1 hx23.2.1 hx23.2.2 dX7_eight_23 (fun H locs hH hS => ?_)
        obtain ⟨AI_8, eAI_8⟩ : ∃ qQ, qQ = gup2 AI_2 (gh 65 0) (((I_1 mo 16).toInt)).toNat (iI (v_7)) := ⟨_, rfl⟩
        rw [← eAI_8] at hH
        have kAI_8 : ∀ b, b ≠ (gh 65 0) → AI_8 b = AI_2 b := fun b hb => by rw [eAI_8]; exact funext fun j => gup2_a _ _ hb
        have ft : ∀ k : Nat, (k : Int) < (I mo 16).toInt ∨ (I mo 16).toInt + 8 ≤ (k : Int) → AI_8 (gh 65 0) k = AI (gh 65 0) k := fun k hk => by rw [eAI_8, gup2_k _ _ (by omega)]; exact ft k hk
        have fc : ∀ i : Nat, 8 * (i : Int) < 64 - sh → AI_8 (gh 65 0) ((I mo 16).toInt.toNat + i) = mBs v8 (56 - 8 * (i : Int)) := fun i hi => by
          by_cases hq : 8 * (i : Int) = 56 - sh
          · rw [eAI_8, gup2_e _ _ (by omega), show 56 - 8 * (i : Int) = sh by omega, ev_7, ev_6, ej_5]; rfl
          · rw [eAI_8, gup2_k _ _ (by omega)]; exact fc i (by omega)
        refine lv_aload_n F.1 F.2.1 dX7_eight_24 rfl (lv_at hl 1 rfl) ?_
        refine lv_dup F.1 F.2.1 dX7_eight_25 rfl ?_
        refine g_getI (ci := 7) (k := 16) F hH rfl (by decide) iX7 hm (by decide) rfl k71 dX7_eight_26 ?_
        refine z_iconst F dX7_eight_29 ?_
        refine z_iadd F dX7_eight_30 ?_
        refine g_putI (ci := 7) (k := 16) F hH hS rfl (by decide) iX7 hm (by decide) tyX7 tyX7_ok nmX7 rfl rfl rfl k71 dX7_eight_31 (fun H locs hH hS => ?_)
        obtain ⟨I_9, eI_9⟩ : ∃ qQ, qQ = gup2 I_1 mo 16 (iI (((I_1 mo 16).toInt) + 1)) := ⟨_, rfl⟩
        rw [← eI_9] at hH
        have kI_9 : ∀ b, b ≠ mo → I_9 b = I_1 b := fun b hb => by rw [eI_9]; exact funext fun j => gup2_a _ _ hb
        have w1 : (I_9 mo 16).toInt = (I_1 mo 16).toInt + 1 := by rw [eI_9, gup2_s]; exact iI_val ⟨by omega, by omega⟩
        have fj : ∀ j, j ≠ 16 → I_9 mo j = I mo j := fun j hj => by rw [eI_9, gup2_k _ _ hj]; exact fj j hj
        refine z_iinc (lv' := [(3, .int (iI (sh + (-8)))), (0, .ref mo), (1, .long v8)]) F dX7_eight_34 hl (k := 0) rfl (by decide) rfl (fun ls hl => ?_)
        refine z_goto (tgt := 3) F dX7_eight_37 (by decide) ?_
        exact ih3 (sh + (-8)) I_9 AI_8 H locs ls ⟨by omega, by omega⟩ (fun b hb => (kI_9 b hb).trans (fx b hb)) fj (fun b hb => (kAI_8 b hb).trans (fa b hb)) ft (fun i hi => by first | exact fc i (by omega) | exact absurd hi (by omega)) (by omega) (by omega) hH hS (lv_sub hl [0, 1, 2] rfl)
  exact cut_3_2 (((56 + 8) + 1 : Int).toNat) 56 I AI H locs ls ⟨by decide, by decide⟩ (fun _ _ => rfl) fj (fun _ _ => rfl) ft (fun i hi => by first | exact fc i (by omega) | exact absurd hi (by omega)) (by omega) (by omega) hH hS (lv_sub hl [0, 1, 2] rfl)

def rmX7_feedf : Room := { frames := 1, cells := 0, slots := 0, locals := 23 }
set_option maxHeartbeats 4000000 in
set_option maxRecDepth 100000 in
/-- 24 bytes -/
theorem c_X7_feedf (l : Launch) (g : gG) (gh : gGh) (I : gI) (R : gR) (J : gJ) (AI : gI) (AJ : gJ) (AR : gR) (mo : Nat) (b1 : Int64) (b2 : Int64) (b3 : Int64) (hv : mInv g gh R I AI) (hm : gO g mo 7) : gMet l g yX7_feed tsX7_feed rmX7_feedf [.ref mo, .long b1, .long b2, .long b3] (I, R, J, AI, AJ, AR) (gQi g (fun (z : Int) (w : gS) => R = w.2.1 ∧ J = w.2.2.1 ∧ AJ = w.2.2.2.2.1 ∧ AR = w.2.2.2.2.2 ∧ (∀ b, b ≠ mo → (w.1) b = I b) ∧ (∀ j, j ≠ 16 → j ≠ 17 → (w.1) mo j = I mo j) ∧ (∀ b, b ≠ gh 65 0 → (w.2.2.2.1) b = AI b) ∧ ((936 < (I mo 16).toInt + 24 ∧ z = -1 ∧ ((w.1) mo 16).toInt = (I mo 16).toInt ∧ (w.2.2.2.1) (gh 65 0) = AI (gh 65 0)) ∨ ((I mo 16).toInt + 24 ≤ 936 ∧ z = (I mo 16).toInt + 24 ∧ ((w.1) mo 16).toInt = (I mo 16).toInt + 24 ∧ (∀ k : Nat, (k : Int) < (I mo 16).toInt ∨ (I mo 16).toInt + 24 ≤ (k : Int) → (w.2.2.2.1) (gh 65 0) k = AI (gh 65 0) k) ∧ (∀ i : Nat, i < 8 → (w.2.2.2.1) (gh 65 0) ((I mo 16).toInt.toNat + 0 + i) = mBs b1 (56 - 8 * (i : Int))) ∧ (∀ i : Nat, i < 8 → (w.2.2.2.1) (gh 65 0) ((I mo 16).toInt.toNat + 8 + i) = mBs b2 (56 - 8 * (i : Int))) ∧ (∀ i : Nat, i < 8 → (w.2.2.2.1) (gh 65 0) ((I mo 16).toInt.toNat + 16 + i) = mBs b3 (56 - 8 * (i : Int))))))) := by
  refine gStart (cc := cX7_feed) (maxL := 7) (ret := (some (.int))) (by decide) rfl (Nat.le_of_ble_eq_true rfl) ?_
  intro p e s m below meth c ls F hr hlk hH hz hS hl
  have hl : lv_has ls 7 [(0, .ref mo), (1, .long b1), (3, .long b2), (5, .long b3)] := hl
  have hS : va_S (gA g) s.heap s.heap [] := hS
  obtain ⟨H, hHe⟩ : ∃ H : Heap, H = s.heap := ⟨_, rfl⟩
  obtain ⟨locs, hlo⟩ : ∃ k : List Loc, k = [] := ⟨_, rfl⟩
  have hH : gH g I R J AI AJ AR H := by rw [hHe]; exact hH
  have hS : va_S (gA g) s.heap H locs := by rw [hHe, hlo]; exact hS
  suffices hw : W p l e rmX7_feedf s m ([.ref mo, .long b1, .long b2, .long b3] : List Value).toArray below meth c H locs 0 0 (MQ below (gQi g (fun (z : Int) (w : gS) => R = w.2.1 ∧ J = w.2.2.1 ∧ AJ = w.2.2.2.2.1 ∧ AR = w.2.2.2.2.2 ∧ (∀ b, b ≠ mo → (w.1) b = I b) ∧ (∀ j, j ≠ 16 → j ≠ 17 → (w.1) mo j = I mo j) ∧ (∀ b, b ≠ gh 65 0 → (w.2.2.2.1) b = AI b) ∧ ((936 < (I mo 16).toInt + 24 ∧ z = -1 ∧ ((w.1) mo 16).toInt = (I mo 16).toInt ∧ (w.2.2.2.1) (gh 65 0) = AI (gh 65 0)) ∨ ((I mo 16).toInt + 24 ≤ 936 ∧ z = (I mo 16).toInt + 24 ∧ ((w.1) mo 16).toInt = (I mo 16).toInt + 24 ∧ (∀ k : Nat, (k : Int) < (I mo 16).toInt ∨ (I mo 16).toInt + 24 ≤ (k : Int) → (w.2.2.2.1) (gh 65 0) k = AI (gh 65 0) k) ∧ (∀ i : Nat, i < 8 → (w.2.2.2.1) (gh 65 0) ((I mo 16).toInt.toNat + 0 + i) = mBs b1 (56 - 8 * (i : Int))) ∧ (∀ i : Nat, i < 8 → (w.2.2.2.1) (gh 65 0) ((I mo 16).toInt.toNat + 8 + i) = mBs b2 (56 - 8 * (i : Int))) ∧ (∀ i : Nat, i < 8 → (w.2.2.2.1) (gh 65 0) ((I mo 16).toInt.toNat + 16 + i) = mBs b3 (56 - 8 * (i : Int))))))) ([.ref mo, .long b1, .long b2, .long b3] : List Value).toArray s 0 0 (gA g)) (F0 m 0 ls []) by
    rw [hHe, hlo] at hw; exact hw
  clear hHe hlo
  have iX7 : ∀ w ∈ u_ws RX7 TX7 32, w ∈ tsX7_feed := fun w h => List.mem_cons_of_mem _ (inTB7 w h)
  have k60 : Cond.fieldLink RX7 60 (TX7 17).1 (TX7 17).2.1 (TX7 17).2.2.1 ∈ tsX7_feed := List.mem_cons_of_mem _ fl_60
  have k71 : Cond.fieldLink RX7 71 (TX7 16).1 (TX7 16).2.1 (TX7 16).2.2.1 ∈ tsX7_feed := List.mem_cons_of_mem _ fl_71
  refine lv_aload_n F.1 F.2.1 dX7_feed_0 rfl (lv_at hl 0 rfl) ?_
  refine z_iconst F dX7_feed_1 ?_
  refine g_putI (ci := 7) (k := 17) F hH hS rfl (by decide) iX7 hm (by decide) tyX7 tyX7_ok nmX7 rfl rfl rfl k60 dX7_feed_2 (fun H locs hH hS => ?_)
  obtain ⟨I_1, eI_1⟩ : ∃ qQ, qQ = gup2 I mo 17 (iI (0)) := ⟨_, rfl⟩
  rw [← eI_1] at hH
  have kI_1 : ∀ b, b ≠ mo → I_1 b = I b := fun b hb => by rw [eI_1]; exact funext fun j => gup2_a _ _ hb
  have w0 : (I_1 mo 16).toInt = (I mo 16).toInt := by rw [eI_1, gup2_k _ _ (by decide)]
  have fj0 : ∀ j, j ≠ 17 → I_1 mo j = I mo j := fun j hj => by rw [eI_1, gup2_k _ _ hj]
  have b0 := mJ hv hm
  unfold mNum1 at b0
  refine lv_aload_n F.1 F.2.1 dX7_feed_5 rfl (lv_at hl 0 rfl) ?_
  refine g_getI (ci := 7) (k := 16) F hH rfl (by decide) iX7 hm (by decide) rfl k71 dX7_feed_6 ?_
  have b_2 := mJ hv hm
  unfold mNum1 at b_2
  refine z_bipush F dX7_feed_9 (by decide) ?_
  refine z_iadd F dX7_feed_11 ?_
  refine z_sipush F dX7_feed_12 (by decide) ?_
  refine z_icmp_le (tgt := 20) F dX7_feed_15 (by decide) ⟨by omega, by omega⟩ ⟨by decide, by decide⟩ (fun c_3 => ?_) (fun c_3 => ?_)
  · refine lv_aload_n F.1 F.2.1 dX7_feed_20 rfl (lv_at hl 0 rfl) ?_
    refine lv_lload_n F.1 F.2.1 dX7_feed_21 rfl (lv_at hl 1 rfl) ?_
    refine g_callv (g_runV (As := [.long b1]) (rest := []) (ci := 7) F hl.1 hH hS hz (c_X7_eightf l g gh I_1 R J AI AJ AR mo b1 (mR hv hm (q := (15, 936)) (by decide)) hm (by omega) (by omega)) (cwV 1 F.2.2.2.2.1 (good_up gT_X7_eight) rfl rfl rfl hdX7_eight ⟨Nat.le_of_ble_eq_true rfl, Nat.le_of_ble_eq_true rfl⟩) hm (by decide) rfl rfl rfl (Nat.le_of_ble_eq_true rfl) dX7_feed_22 ⟨Nat.zero_le _, Nat.zero_le _⟩) hS (fun I_4 R_5 J_6 AI_7 AJ_8 AR_9 H locs hp_10 hH hS => ?_)
    dsimp only at hp_10
    obtain ⟨rfl, rfl, rfl, rfl, fI1, fj1, fA1, w1, ft1, fc1⟩ := hp_10
    rw [w0] at ft1 fc1 w1
    refine lv_aload_n F.1 F.2.1 dX7_feed_25 rfl (lv_at hl 0 rfl) ?_
    refine lv_lload_n F.1 F.2.1 dX7_feed_26 rfl (lv_at hl 2 rfl) ?_
    have b_11 := mJ hv hm
    unfold mNum1 at b_11
    refine g_callv (g_runV (As := [.long b2]) (rest := []) (ci := 7) F hl.1 hH hS hz (c_X7_eightf l g gh I_4 R J AI_7 AJ AR mo b2 (mR hv hm (q := (15, 936)) (by decide)) hm (by omega) (by omega)) (cwV 1 F.2.2.2.2.1 (good_up gT_X7_eight) rfl rfl rfl hdX7_eight ⟨Nat.le_of_ble_eq_true rfl, Nat.le_of_ble_eq_true rfl⟩) hm (by decide) rfl rfl rfl (Nat.le_of_ble_eq_true rfl) dX7_feed_27 ⟨Nat.zero_le _, Nat.zero_le _⟩) hS (fun I_12 R_13 J_14 AI_15 AJ_16 AR_17 H locs hp_18 hH hS => ?_)
    dsimp only at hp_18
    obtain ⟨rfl, rfl, rfl, rfl, fI2, fj2, fA2, w2, ft2, fc2⟩ := hp_18
    refine lv_aload_n F.1 F.2.1 dX7_feed_30 rfl (lv_at hl 0 rfl) ?_
    refine lv_lload F.1 F.2.1 dX7_feed_31 (lv_at hl 3 rfl) ?_
    have b_19 := mJ hv hm
    unfold mNum1 at b_19
    refine g_callv (g_runV (As := [.long b3]) (rest := []) (ci := 7) F hl.1 hH hS hz (c_X7_eightf l g gh I_12 R J AI_15 AJ AR mo b3 (mR hv hm (q := (15, 936)) (by decide)) hm (by omega) (by omega)) (cwV 1 F.2.2.2.2.1 (good_up gT_X7_eight) rfl rfl rfl hdX7_eight ⟨Nat.le_of_ble_eq_true rfl, Nat.le_of_ble_eq_true rfl⟩) hm (by decide) rfl rfl rfl (Nat.le_of_ble_eq_true rfl) dX7_feed_33 ⟨Nat.zero_le _, Nat.zero_le _⟩) hS (fun I_20 R_21 J_22 AI_23 AJ_24 AR_25 H locs hp_26 hH hS => ?_)
    dsimp only at hp_26
    obtain ⟨rfl, rfl, rfl, rfl, fI3, fj3, fA3, w3, ft3, fc3⟩ := hp_26
    refine lv_aload_n F.1 F.2.1 dX7_feed_36 rfl (lv_at hl 0 rfl) ?_
    refine g_getI (ci := 7) (k := 16) F hH rfl (by decide) iX7 hm (by decide) rfl k71 dX7_feed_37 ?_
    have b_27 := mJ hv hm
    unfold mNum1 at b_27
    exact g_iret F hr hlk hH hS hz (zr_t _) ⟨rfl, rfl, rfl, rfl, fun b hb => (((fI3 b hb).trans (fI2 b hb)).trans (fI1 b hb)).trans (kI_1 b hb), (fun j hj h2 => (fj3 j hj).trans ((fj2 j hj).trans ((fj1 j hj).trans (fj0 j h2)))), fun b hb => ((fA3 b hb).trans (fA2 b hb)).trans (fA1 b hb), Or.inr ⟨by omega, by omega, (by first | omega | rfl | (dsimp only; omega)), fd3 ft1 fc1 ft2 fc2 ft3 fc3 (by omega) (by omega) (by omega)⟩⟩ dX7_feed_40
  · refine z_iconst F dX7_feed_18 ?_
    exact g_iret F hr hlk hH hS hz ⟨by decide, by decide⟩ ⟨rfl, rfl, rfl, rfl, fun b hb => kI_1 b hb, (fun j _ h2 => fj0 j h2), fun _ _ => rfl, Or.inl ⟨by omega, rfl, (by first | omega | rfl | (dsimp only; omega)), rfl⟩⟩ dX7_feed_19
