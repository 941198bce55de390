section
/-! the tape's bytes: what the class puts, what the reference puts -/
def cBs (v : Int64) (sh : Int) : Int32 := vp_nar .byte (iI ((iI (((v.toUInt64 >>> ((iI sh).toInt64.toUInt64 &&& Int64.toUInt64 63)).toInt64.toInt32).toInt)).toInt8.toInt32.toInt))
def mBs (v : Int64) (sh : Int) : Int32 := iI ((iI (((v >>> ((iI sh).toInt64 &&& 63)).toInt32).toInt) &&& iI 255).toInt)
theorem fd3 {A0 A1 A2 A3 : Nat → Int32} {c1 c2 c3 : Nat → Int32} {L L1 L2 : Int} (h1 : ∀ k : Nat, (k : Int) < L ∨ L + 8 ≤ (k : Int) → A1 k = A0 k) (k1 : ∀ i : Nat, i < 8 → A1 (L.toNat + i) = c1 i) (h2 : ∀ k : Nat, (k : Int) < L1 ∨ L1 + 8 ≤ (k : Int) → A2 k = A1 k) (k2 : ∀ i : Nat, i < 8 → A2 (L1.toNat + i) = c2 i) (h3 : ∀ k : Nat, (k : Int) < L2 ∨ L2 + 8 ≤ (k : Int) → A3 k = A2 k) (k3 : ∀ i : Nat, i < 8 → A3 (L2.toNat + i) = c3 i)
    (h0 : 0 ≤ L) (e1 : L1 = L + 8) (e2 : L2 = L + 16) : (∀ k : Nat, (k : Int) < L ∨ L + 24 ≤ (k : Int) → A3 k = A0 k) ∧ (∀ i : Nat, i < 8 → A3 (L.toNat + 0 + i) = c1 i) ∧ (∀ i : Nat, i < 8 → A3 (L.toNat + 8 + i) = c2 i) ∧ ∀ i : Nat, i < 8 → A3 (L.toNat + 16 + i) = c3 i := by
  refine ⟨fun k hk => (h3 k (by omega)).trans ((h2 k (by omega)).trans (h1 k (by omega))), fun i hi => ?_, fun i hi => ?_, fun i hi => ?_⟩
  · rw [h3 _ (Or.inl (by omega)), h2 _ (Or.inl (by omega))]; exact k1 i hi
  · rw [h3 _ (Or.inl (by omega)), show L.toNat + 8 + i = L1.toNat + i by omega]; exact k2 i hi
  · rw [show L.toNat + 16 + i = L2.toNat + i by omega]; exact k3 i hi
def rmX6_putBytesf : Room := { frames := 0, cells := 0, slots := 0, locals := 0 }
set_option maxHeartbeats 4000000 in
set_option maxRecDepth 100000 in
/-- eight bytes -/
theorem c_X6_putBytesf (l : Launch) (g : gG) (gh : gGh) (I : gI) (R : gR) (J : gJ) (AI : gI) (AJ : gJ) (AR : gR) (x : Nat) (v8 : Int64) (hR : R x 0 = some (gh 28 0) ∧ gAr g (gh 28 0) 8 936) (hx1 : gO g x 6) (h0 : (I x 1).toInt ≤ 928) (h1 : 0 ≤ (I x 1).toInt) : gMet l g yX6_putBytes wsX6_putBytes rmX6_putBytesf [.ref x, .long v8] (I, R, J, AI, AJ, AR) (gQv g (fun w : gS => R = w.2.1 ∧ J = w.2.2.1 ∧ AJ = w.2.2.2.2.1 ∧ AR = w.2.2.2.2.2 ∧ (∀ b, b ≠ x → (w.1) b = I b) ∧ (∀ j, j ≠ 1 → (w.1) x j = I x j) ∧ (∀ b, b ≠ gh 28 0 → (w.2.2.2.1) b = AI b) ∧ (((w.1) x 1).toInt = (I x 1).toInt + 8) ∧ (∀ k : Nat, (k : Int) < (I x 1).toInt ∨ (I x 1).toInt + 8 ≤ (k : Int) → (w.2.2.2.1) (gh 28 0) k = AI (gh 28 0) k) ∧ (∀ i : Nat, i < 8 → (w.2.2.2.1) (gh 28 0) ((I x 1).toInt.toNat + i) = cBs v8 (56 - 8 * (i : Int))))) := by
  refine gStart (cc := cX6_putBytes) (maxL := 4) (ret := none) (by decide) rfl (Nat.le_of_ble_eq_true rfl) ?_
  intro p e s m below meth c ls F hr hlk hH hz hS hl
  have hl : lv_has ls 4 [(0, .ref x), (1, .long v8)] := hl
  have hS : va_S (gA g) s.heap s.heap [] := hS
  obtain ⟨H, hHe⟩ : ∃ H : Heap, H = s.heap := ⟨_, rfl⟩
  obtain ⟨locs, hlo⟩ : ∃ k : List Loc, k = [] := ⟨_, rfl⟩
  have hH : gH g I R J AI AJ AR H := by rw [hHe]; exact hH
  have hS : va_S (gA g) s.heap H locs := by rw [hHe, hlo]; exact hS
  suffices hw : W p l e rmX6_putBytesf s m ([.ref x, .long v8] : List Value).toArray below meth c H locs 0 0 (MQ below (gQv g (fun w : gS => R = w.2.1 ∧ J = w.2.2.1 ∧ AJ = w.2.2.2.2.1 ∧ AR = w.2.2.2.2.2 ∧ (∀ b, b ≠ x → (w.1) b = I b) ∧ (∀ j, j ≠ 1 → (w.1) x j = I x j) ∧ (∀ b, b ≠ gh 28 0 → (w.2.2.2.1) b = AI b) ∧ (((w.1) x 1).toInt = (I x 1).toInt + 8) ∧ (∀ k : Nat, (k : Int) < (I x 1).toInt ∨ (I x 1).toInt + 8 ≤ (k : Int) → (w.2.2.2.1) (gh 28 0) k = AI (gh 28 0) k) ∧ (∀ i : Nat, i < 8 → (w.2.2.2.1) (gh 28 0) ((I x 1).toInt.toNat + i) = cBs v8 (56 - 8 * (i : Int))))) ([.ref x, .long v8] : List Value).toArray s 0 0 (gA g)) (F0 m 0 ls []) by
    rw [hHe, hlo] at hw; exact hw
  clear hHe hlo
  have fj : ∀ j, j ≠ 1 → I x j = I x j := fun _ _ => rfl
  have ft : ∀ k : Nat, (k : Int) < (I x 1).toInt ∨ (I x 1).toInt + 8 ≤ (k : Int) → AI (gh 28 0) k = AI (gh 28 0) k := fun _ _ => rfl
  have iX6 : ∀ w ∈ u_ws RX6 TX6 18, w ∈ wsX6_putBytes := (by decide +kernel)
  have k9 : Cond.fieldLink RX6 9 (TX6 0).1 (TX6 0).2.1 (TX6 0).2.2.1 ∈ wsX6_putBytes := List.mem_of_getElem? (i := 1) rfl
  have k77 : Cond.fieldLink RX6 77 (TX6 1).1 (TX6 1).2.1 (TX6 1).2.2.1 ∈ wsX6_putBytes := List.mem_of_getElem? (i := 2) rfl
  refine z_bipush F dX6_putBytes_0 (by decide) ?_
  refine lv_istore_n (lv' := [(3, .int (iI 56)), (0, .ref x), (1, .long v8)]) F.1 F.2.1 dX6_putBytes_2 rfl hl (by decide) rfl (fun ls hl => ?_)
  have cut_3_2 : ∀ (NN : Nat) (sh : Int) (I_1 : gI) (AI_2 : gI) (H : Heap) (locs : List Loc) (ls : Array Slot), zr sh → (∀ b, b ≠ x → I_1 b = I b) → (∀ j, j ≠ 1 → I_1 x j = I x j) → (∀ b, b ≠ gh 28 0 → AI_2 b = AI b) → (∀ k : Nat, (k : Int) < (I x 1).toInt ∨ (I x 1).toInt + 8 ≤ (k : Int) → AI_2 (gh 28 0) k = AI (gh 28 0) k) → (∀ i : Nat, 8 * (i : Int) < 56 - sh → AI_2 (gh 28 0) ((I x 1).toInt.toNat + i) = cBs v8 (56 - 8 * (i : Int))) → (-8 ≤ sh ∧ sh ≤ 56 ∧ 8 * ((I_1 x 1).toInt - (I x 1).toInt) = 56 - sh ∧ (8 ∣ sh)) → (sh + 8) < ((NN : Nat) : Int) → gH g I_1 R J AI_2 AJ AR H → va_S (gA g) s.heap H locs → lv_has ls 4 [(3, .int (iI sh)), (0, .ref x), (1, .long v8)] → W p l e rmX6_putBytesf s m ([.ref x, .long v8] : List Value).toArray below meth c H locs 0 0 (MQ below (gQv g (fun w : gS => R = w.2.1 ∧ J = w.2.2.1 ∧ AJ = w.2.2.2.2.1 ∧ AR = w.2.2.2.2.2 ∧ (∀ b, b ≠ x → (w.1) b = I b) ∧ (∀ j, j ≠ 1 → (w.1) x j = I x j) ∧ (∀ b, b ≠ gh 28 0 → (w.2.2.2.1) b = AI b) ∧ (((w.1) x 1).toInt = (I x 1).toInt + 8) ∧ (∀ k : Nat, (k : Int) < (I x 1).toInt ∨ (I x 1).toInt + 8 ≤ (k : Int) → (w.2.2.2.1) (gh 28 0) k = AI (gh 28 0) k) ∧ (∀ i : Nat, i < 8 → (w.2.2.2.1) (gh 28 0) ((I x 1).toInt.toNat + i) = cBs v8 (56 - 8 * (i : Int))))) ([.ref x, .long v8] : List Value).toArray s 0 0 (gA g)) (F0 m 3 ls []) := by
    intro NN3
    induction NN3 with
    | zero =>
      intro sh I_1 AI_2 H locs ls zsh fx fj fa ft fc hs hm3 hH hS hl
      exact absurd hm3 (by omega)
    | succ NN3 ih3 =>
      intro sh I_1 AI_2 H locs ls zsh fx fj fa ft fc hs hm3 hH hS hl
      refine lv_iload_n F.1 F.2.1 dX6_putBytes_3 rfl (lv_at hl 0 rfl) ?_
      refine z_if_lt (tgt := 37) F dX6_putBytes_4 (by decide) zsh (fun c_4 => ?_) (fun c_4 => ?_)
      · exact g_vret F hr hlk hH hS hz ⟨rfl, rfl, rfl, rfl, fun b hb => fx b hb, fj, fun b hb => fa b hb, by first | omega | rfl | (dsimp only; omega), ft, (fun i hi => fc i (by omega))⟩ dX6_putBytes_37
      · refine lv_aload_n F.1 F.2.1 dX6_putBytes_7 rfl (lv_at hl 1 rfl) ?_
        refine g_getR (ci := 6) (k := 0) F hH rfl (by decide) iX6 hx1 (by decide) rfl (b := gh 28 0) hR.1 k9 dX6_putBytes_8 ?_
        refine lv_aload_n F.1 F.2.1 dX6_putBytes_11 rfl (lv_at hl 1 rfl) ?_
        refine g_getI (ci := 6) (k := 1) F hH rfl (by decide) iX6 hx1 (by decide) rfl k77 dX6_putBytes_12 ?_
        refine lv_lload_n F.1 F.2.1 dX6_putBytes_15 rfl (lv_at hl 2 rfl) ?_
        refine lv_iload_n F.1 F.2.1 dX6_putBytes_16 rfl (lv_at hl 0 rfl) ?_
        refine lv_lushr F.1 F.2.1 dX6_putBytes_17 rfl ?_
        refine lv_topl (fun j_5 ej_5 => ?_)
        refine lv_l2i F.1 F.2.1 dX6_putBytes_18 rfl ?_
        refine z_top (fun v_6 zv_6 ev_6 => ?_)
        refine lv_i2b F.1 F.2.1 dX6_putBytes_19 rfl ?_
        refine z_top (fun v_7 zv_7 ev_7 => ?_)
        have hx20 : 0 ≤ ((I_1 x 1).toInt) ∧ ((I_1 x 1).toInt) < ((936 : Nat) : Int) ∧ ((I_1 x 1).toInt) ≤ 2147483647 := ⟨by omega, by omega, by omega⟩
        refine g_bast F hH hS hR.2 hx20.1 hx20.2.1 hx20.2.2 dX6_putBytes_20 (fun H locs hH hS => ?_)
        obtain ⟨AI_8, eAI_8⟩ : ∃ qQ, qQ = gup2 AI_2 (gh 28 0) (((I_1 x 1).toInt)).toNat (vp_nar .byte (iI (v_7))) := ⟨_, rfl⟩
        rw [← eAI_8] at hH
        have kAI_8 : ∀ b, b ≠ (gh 28 0) → AI_8 b = AI_2 b := fun b hb => by rw [eAI_8]; exact funext fun j => gup2_a _ _ hb
        have ft : ∀ k : Nat, (k : Int) < (I x 1).toInt ∨ (I x 1).toInt + 8 ≤ (k : Int) → AI_8 (gh 28 0) k = AI (gh 28 0) k := fun k hk => by rw [eAI_8, gup2_k _ _ (by omega)]; exact ft k hk
        have fc : ∀ i : Nat, 8 * (i : Int) < 64 - sh → AI_8 (gh 28 0) ((I x 1).toInt.toNat + i) = cBs v8 (56 - 8 * (i : Int)) := fun i hi => by
          by_cases hq : 8 * (i : Int) = 56 - sh
          · rw [eAI_8, gup2_e _ _ (by omega), show 56 - 8 * (i : Int) = sh by omega, ev_7, ev_6, ej_5]; rfl
          · rw [eAI_8, gup2_k _ _ (by omega)]; exact fc i (by omega)
        refine lv_aload_n F.1 F.2.1 dX6_putBytes_21 rfl (lv_at hl 1 rfl) ?_
        refine lv_dup F.1 F.2.1 dX6_putBytes_22 rfl ?_
        refine g_getI (ci := 6) (k := 1) F hH rfl (by decide) iX6 hx1 (by decide) rfl k77 dX6_putBytes_23 ?_
        refine z_iconst F dX6_putBytes_26 ?_
        refine z_iadd F dX6_putBytes_27 ?_
        refine g_putI (ci := 6) (k := 1) F hH hS rfl (by decide) iX6 hx1 (by decide) tyX6 tyX6_ok nmX6 rfl rfl rfl k77 dX6_putBytes_28 (fun H locs hH hS => ?_)
        obtain ⟨I_9, eI_9⟩ : ∃ qQ, qQ = gup2 I_1 x 1 (iI (((I_1 x 1).toInt) + 1)) := ⟨_, rfl⟩
        rw [← eI_9] at hH
        have kI_9 : ∀ b, b ≠ x → I_9 b = I_1 b := fun b hb => by rw [eI_9]; exact funext fun j => gup2_a _ _ hb
        have w1 : (I_9 x 1).toInt = (I_1 x 1).toInt + 1 := by rw [eI_9, gup2_s]; exact iI_val ⟨by omega, by omega⟩
        have fj : ∀ j, j ≠ 1 → I_9 x j = I x j := fun j hj => by rw [eI_9, gup2_k _ _ hj]; exact fj j hj
        refine z_iinc (lv' := [(3, .int (iI (sh + (-8)))), (0, .ref x), (1, .long v8)]) F dX6_putBytes_31 hl (k := 0) rfl (by decide) rfl (fun ls hl => ?_)
        refine z_goto (tgt := 3) F dX6_putBytes_34 (by decide) ?_
        exact ih3 (sh + (-8)) I_9 AI_8 H locs ls ⟨by omega, by omega⟩ (fun b hb => (kI_9 b hb).trans (fx b hb)) fj (fun b hb => (kAI_8 b hb).trans (fa b hb)) ft (fun i hi => by first | exact fc i (by omega) | exact absurd hi (by omega)) (by omega) (by omega) hH hS (lv_sub hl [0, 1, 2] rfl)
  exact cut_3_2 (((56 + 8) + 1 : Int).toNat) 56 I AI H locs ls ⟨by decide, by decide⟩ (fun _ _ => rfl) fj (fun _ _ => rfl) ft (fun i hi => by first | exact fc i (by omega) | exact absurd hi (by omega)) (by omega) (by omega) hH hS (lv_sub hl [0, 1, 2] rfl)

def rmX6_feedf : Room := { frames := 1, cells := 0, slots := 0, locals := 23 }
set_option maxHeartbeats 4000000 in
set_option maxRecDepth 100000 in
/-- 24 bytes -/
theorem c_X6_feedf (l : Launch) (g : gG) (gh : gGh) (pA bA nA : Nat) (I : gI) (R : gR) (J : gJ) (AI : gI) (AJ : gJ) (AR : gR) (x : Nat) (b1 : Int64) (b2 : Int64) (b3 : Int64) (hv : gInv g gh R AR I AI) (hx : xS g gh R AR x pA bA nA) : gMet l g yX6_feed wsX6_feed rmX6_feedf [.ref x, .long b1, .long b2, .long b3] (I, R, J, AI, AJ, AR) (gQi g (fun (z : Int) (w : gS) => R = w.2.1 ∧ J = w.2.2.1 ∧ AJ = w.2.2.2.2.1 ∧ AR = w.2.2.2.2.2 ∧ (∀ b, b ≠ x → (w.1) b = I b) ∧ (∀ j, j ≠ 1 → (w.1) x j = I x j) ∧ (∀ b, b ≠ gh 28 0 → (w.2.2.2.1) b = AI b) ∧ ((936 < (I x 1).toInt + 24 ∧ z = -1 ∧ ((w.1) x 1).toInt = (I x 1).toInt ∧ (w.2.2.2.1) (gh 28 0) = AI (gh 28 0)) ∨ ((I x 1).toInt + 24 ≤ 936 ∧ z = (I x 1).toInt + 24 ∧ ((w.1) x 1).toInt = (I x 1).toInt + 24 ∧ (∀ k : Nat, (k : Int) < (I x 1).toInt ∨ (I x 1).toInt + 24 ≤ (k : Int) → (w.2.2.2.1) (gh 28 0) k = AI (gh 28 0) k) ∧ (∀ i : Nat, i < 8 → (w.2.2.2.1) (gh 28 0) ((I x 1).toInt.toNat + 0 + i) = cBs b1 (56 - 8 * (i : Int))) ∧ (∀ i : Nat, i < 8 → (w.2.2.2.1) (gh 28 0) ((I x 1).toInt.toNat + 8 + i) = cBs b2 (56 - 8 * (i : Int))) ∧ (∀ i : Nat, i < 8 → (w.2.2.2.1) (gh 28 0) ((I x 1).toInt.toNat + 16 + i) = cBs b3 (56 - 8 * (i : Int))))))) := by
  refine gStart (cc := cX6_feed) (maxL := 7) (ret := (some (.int))) (by decide) rfl (Nat.le_of_ble_eq_true rfl) ?_
  intro p e s m below meth c ls F hr hlk hH hz hS hl
  have hl : lv_has ls 7 [(0, .ref x), (1, .long b1), (3, .long b2), (5, .long b3)] := hl
  have hS : va_S (gA g) s.heap s.heap [] := hS
  obtain ⟨H, hHe⟩ : ∃ H : Heap, H = s.heap := ⟨_, rfl⟩
  obtain ⟨locs, hlo⟩ : ∃ k : List Loc, k = [] := ⟨_, rfl⟩
  have hH : gH g I R J AI AJ AR H := by rw [hHe]; exact hH
  have hS : va_S (gA g) s.heap H locs := by rw [hHe, hlo]; exact hS
  suffices hw : W p l e rmX6_feedf s m ([.ref x, .long b1, .long b2, .long b3] : List Value).toArray below meth c H locs 0 0 (MQ below (gQi g (fun (z : Int) (w : gS) => R = w.2.1 ∧ J = w.2.2.1 ∧ AJ = w.2.2.2.2.1 ∧ AR = w.2.2.2.2.2 ∧ (∀ b, b ≠ x → (w.1) b = I b) ∧ (∀ j, j ≠ 1 → (w.1) x j = I x j) ∧ (∀ b, b ≠ gh 28 0 → (w.2.2.2.1) b = AI b) ∧ ((936 < (I x 1).toInt + 24 ∧ z = -1 ∧ ((w.1) x 1).toInt = (I x 1).toInt ∧ (w.2.2.2.1) (gh 28 0) = AI (gh 28 0)) ∨ ((I x 1).toInt + 24 ≤ 936 ∧ z = (I x 1).toInt + 24 ∧ ((w.1) x 1).toInt = (I x 1).toInt + 24 ∧ (∀ k : Nat, (k : Int) < (I x 1).toInt ∨ (I x 1).toInt + 24 ≤ (k : Int) → (w.2.2.2.1) (gh 28 0) k = AI (gh 28 0) k) ∧ (∀ i : Nat, i < 8 → (w.2.2.2.1) (gh 28 0) ((I x 1).toInt.toNat + 0 + i) = cBs b1 (56 - 8 * (i : Int))) ∧ (∀ i : Nat, i < 8 → (w.2.2.2.1) (gh 28 0) ((I x 1).toInt.toNat + 8 + i) = cBs b2 (56 - 8 * (i : Int))) ∧ (∀ i : Nat, i < 8 → (w.2.2.2.1) (gh 28 0) ((I x 1).toInt.toNat + 16 + i) = cBs b3 (56 - 8 * (i : Int))))))) ([.ref x, .long b1, .long b2, .long b3] : List Value).toArray s 0 0 (gA g)) (F0 m 0 ls []) by
    rw [hHe, hlo] at hw; exact hw
  clear hHe hlo
  have iX6 : ∀ w ∈ u_ws RX6 TX6 18, w ∈ wsX6_feed := (by decide +kernel)
  have k77 : Cond.fieldLink RX6 77 (TX6 1).1 (TX6 1).2.1 (TX6 1).2.2.1 ∈ wsX6_feed := List.mem_of_getElem? (i := 1) rfl
  refine lv_aload_n F.1 F.2.1 dX6_feed_0 rfl (lv_at hl 0 rfl) ?_
  refine g_getI (ci := 6) (k := 1) F hH rfl (by decide) iX6 hx.1 (by decide) rfl k77 dX6_feed_1 ?_
  have b_1 := gI_x hv hx.1
  refine z_bipush F dX6_feed_4 (by decide) ?_
  refine z_iadd F dX6_feed_6 ?_
  refine z_sipush F dX6_feed_7 (by decide) ?_
  refine z_icmp_le (tgt := 15) F dX6_feed_10 (by decide) ⟨by omega, by omega⟩ ⟨by decide, by decide⟩ (fun c_2 => ?_) (fun c_2 => ?_)
  · refine lv_aload_n F.1 F.2.1 dX6_feed_15 rfl (lv_at hl 0 rfl) ?_
    refine lv_lload_n F.1 F.2.1 dX6_feed_16 rfl (lv_at hl 1 rfl) ?_
    refine g_callv (g_runV (As := [.long b1]) (rest := []) (ci := 6) F hl.1 hH hS hz (c_X6_putBytesf l g gh I R J AI AJ AR x b1 (gR_x0 hv hx.1) hx.1 (by omega) (by omega)) (cwV 1 F.2.2.2.2.1 gX6_feed_X6_putBytes rfl rfl rfl hdX6_putBytes ⟨Nat.le_of_ble_eq_true rfl, Nat.le_of_ble_eq_true rfl⟩) hx.1 (by decide) rfl rfl rfl (Nat.le_of_ble_eq_true rfl) dX6_feed_17 ⟨Nat.zero_le _, Nat.zero_le _⟩) hS (fun I_3 R_4 J_5 AI_6 AJ_7 AR_8 H locs hp_9 hH hS => ?_)
    dsimp only at hp_9
    obtain ⟨rfl, rfl, rfl, rfl, fI1, fj1, fA1, w1, ft1, fc1⟩ := hp_9
    refine lv_aload_n F.1 F.2.1 dX6_feed_20 rfl (lv_at hl 0 rfl) ?_
    refine lv_lload_n F.1 F.2.1 dX6_feed_21 rfl (lv_at hl 2 rfl) ?_
    have b_10 := gI_x hv hx.1
    refine g_callv (g_runV (As := [.long b2]) (rest := []) (ci := 6) F hl.1 hH hS hz (c_X6_putBytesf l g gh I_3 R J AI_6 AJ AR x b2 (gR_x0 hv hx.1) hx.1 (by omega) (by omega)) (cwV 1 F.2.2.2.2.1 gX6_feed_X6_putBytes rfl rfl rfl hdX6_putBytes ⟨Nat.le_of_ble_eq_true rfl, Nat.le_of_ble_eq_true rfl⟩) hx.1 (by decide) rfl rfl rfl (Nat.le_of_ble_eq_true rfl) dX6_feed_22 ⟨Nat.zero_le _, Nat.zero_le _⟩) hS (fun I_11 R_12 J_13 AI_14 AJ_15 AR_16 H locs hp_17 hH hS => ?_)
    dsimp only at hp_17
    obtain ⟨rfl, rfl, rfl, rfl, fI2, fj2, fA2, w2, ft2, fc2⟩ := hp_17
    refine lv_aload_n F.1 F.2.1 dX6_feed_25 rfl (lv_at hl 0 rfl) ?_
    refine lv_lload F.1 F.2.1 dX6_feed_26 (lv_at hl 3 rfl) ?_
    have b_18 := gI_x hv hx.1
    refine g_callv (g_runV (As := [.long b3]) (rest := []) (ci := 6) F hl.1 hH hS hz (c_X6_putBytesf l g gh I_11 R J AI_14 AJ AR x b3 (gR_x0 hv hx.1) hx.1 (by omega) (by omega)) (cwV 1 F.2.2.2.2.1 gX6_feed_X6_putBytes rfl rfl rfl hdX6_putBytes ⟨Nat.le_of_ble_eq_true rfl, Nat.le_of_ble_eq_true rfl⟩) hx.1 (by decide) rfl rfl rfl (Nat.le_of_ble_eq_true rfl) dX6_feed_28 ⟨Nat.zero_le _, Nat.zero_le _⟩) hS (fun I_19 R_20 J_21 AI_22 AJ_23 AR_24 H locs hp_25 hH hS => ?_)
    dsimp only at hp_25
    obtain ⟨rfl, rfl, rfl, rfl, fI3, fj3, fA3, w3, ft3, fc3⟩ := hp_25
    refine lv_aload_n F.1 F.2.1 dX6_feed_31 rfl (lv_at hl 0 rfl) ?_
    refine g_getI (ci := 6) (k := 1) F hH rfl (by decide) iX6 hx.1 (by decide) rfl k77 dX6_feed_32 ?_
    have b_26 := gI_x hv hx.1
    exact g_iret F hr hlk hH hS hz (zr_t _) ⟨rfl, rfl, rfl, rfl, fun b hb => ((fI3 b hb).trans (fI2 b hb)).trans (fI1 b hb), (fun j hj => (fj3 j hj).trans ((fj2 j hj).trans (fj1 j hj))), fun b hb => ((fA3 b hb).trans (fA2 b hb)).trans (fA1 b hb), Or.inr ⟨by omega, by omega, (by first | omega | rfl | (dsimp only; omega)), fd3 ft1 fc1 ft2 fc2 ft3 fc3 (by omega) (by omega) (by omega)⟩⟩ dX6_feed_35
  · refine z_iconst F dX6_feed_13 ?_
    exact g_iret F hr hlk hH hS hz ⟨by decide, by decide⟩ ⟨rfl, rfl, rfl, rfl, fun _ _ => rfl, (fun _ _ => rfl), fun _ _ => rfl, Or.inl ⟨by omega, rfl, (by first | omega | rfl | (dsimp only; omega)), rfl⟩⟩ dX6_feed_14

def rmX7_eightf : Room := { frames := 0, cells := 0, slots := 0, locals := 0 }
set_option maxHeartbeats 4000000 in
set_option maxRecDepth 100000 in
/-- eight bytes -/
theorem c_X7_eightf (l : Launch) (g : gG) (gh : gGh) (I : gI) (R : gR) (J : gJ) (AI : gI) (AJ : gJ) (AR : gR) (mo : Nat) (v8 : Int64) (hR : R mo 15 = some (gh 65 0) ∧ gAr g (gh 65 0) 9 936) (hm : gO g mo 7) (h0 : (I mo 16).toInt ≤ 928) (h1 : 0 ≤ (I mo 16).toInt) : gMet l g yX7_eight tsX7_eight rmX7_eightf [.ref mo, .long v8] (I, R, J, AI, AJ, AR) (gQv g (fun w : gS => R = w.2.1 ∧ J = w.2.2.1 ∧ AJ = w.2.2.2.2.1 ∧ AR = w.2.2.2.2.2 ∧ (∀ b, b ≠ mo → (w.1) b = I b) ∧ (∀ j, j ≠ 16 → (w.1) mo j = I mo j) ∧ (∀ b, b ≠ gh 65 0 → (w.2.2.2.1) b = AI b) ∧ (((w.1) mo 16).toInt = (I mo 16).toInt + 8) ∧ (∀ k : Nat, (k : Int) < (I mo 16).toInt ∨ (I mo 16).toInt + 8 ≤ (k : Int) → (w.2.2.2.1) (gh 65 0) k = AI (gh 65 0) k) ∧ (∀ i : Nat, i < 8 → (w.2.2.2.1) (gh 65 0) ((I mo 16).toInt.toNat + i) = mBs v8 (56 - 8 * (i : Int))))) := by
  refine gStart (cc := cX7_eight) (maxL := 4) (ret := none) (by decide) rfl (Nat.le_of_ble_eq_true rfl) ?_
  intro p e s m below meth c ls F hr hlk hH hz hS hl
  have hl : lv_has ls 4 [(0, .ref mo), (1, .long v8)] := hl
  have hS : va_S (gA g) s.heap s.heap [] := hS
  obtain ⟨H, hHe⟩ : ∃ H : Heap, H = s.heap := ⟨_, rfl⟩
  obtain ⟨locs, hlo⟩ : ∃ k : List Loc, k = [] := ⟨_, rfl⟩
  have hH : gH g I R J AI AJ AR H := by rw [hHe]; exact hH
  have hS : va_S (gA g) s.heap H locs := by rw [hHe, hlo]; exact hS
  suffices hw : W p l e rmX7_eightf s m ([.ref mo, .long v8] : List Value).toArray below meth c H locs 0 0 (MQ below (gQv g (fun w : gS => R = w.2.1 ∧ J = w.2.2.1 ∧ AJ = w.2.2.2.2.1 ∧ AR = w.2.2.2.2.2 ∧ (∀ b, b ≠ mo → (w.1) b = I b) ∧ (∀ j, j ≠ 16 → (w.1) mo j = I mo j) ∧ (∀ b, b ≠ gh 65 0 → (w.2.2.2.1) b = AI b) ∧ (((w.1) mo 16).toInt = (I mo 16).toInt + 8) ∧ (∀ k : Nat, (k : Int) < (I mo 16).toInt ∨ (I mo 16).toInt + 8 ≤ (k : Int) → (w.2.2.2.1) (gh 65 0) k = AI (gh 65 0) k) ∧ (∀ i : Nat, i < 8 → (w.2.2.2.1) (gh 65 0) ((I mo 16).toInt.toNat + i) = mBs v8 (56 - 8 * (i : Int))))) ([.ref mo, .long v8] : List Value).toArray s 0 0 (gA g)) (F0 m 0 ls []) by
    rw [hHe, hlo] at hw; exact hw
  clear hHe hlo
  have fj : ∀ j, j ≠ 16 → I mo j = I mo j := fun _ _ => rfl
  have ft : ∀ k : Nat, (k : Int) < (I mo 16).toInt ∨ (I mo 16).toInt + 8 ≤ (k : Int) → AI (gh 65 0) k = AI (gh 65 0) k := fun _ _ => rfl
  have iX7 : ∀ w ∈ u_ws RX7 TX7 32, w ∈ tsX7_eight := fun w h => List.mem_cons_of_mem _ (inTB7 w h)
  have k39 : Cond.fieldLink RX7 39 (TX7 15).1 (TX7 15).2.1 (TX7 15).2.2.1 ∈ tsX7_eight := List.mem_cons_of_mem _ fl_39
  have k71 : Cond.fieldLink RX7 71 (TX7 16).1 (TX7 16).2.1 (TX7 16).2.2.1 ∈ tsX7_eight := List.mem_cons_of_mem _ fl_71
  refine z_bipush F dX7_eight_0 (by decide) ?_
  refine lv_istore_n (lv' := [(3, .int (iI 56)), (0, .ref mo), (1, .long v8)]) F.1 F.2.1 dX7_eight_2 rfl hl (by decide) rfl (fun ls hl => ?_)
  have cut_3_2 : ∀ (NN : Nat) (sh : Int) (I_1 : gI) (AI_2 : gI) (H : Heap) (locs : List Loc) (ls : Array Slot), zr sh → (∀ b, b ≠ mo → I_1 b = I b) → (∀ j, j ≠ 16 → I_1 mo j = I mo j) → (∀ b, b ≠ gh 65 0 → AI_2 b = AI b) → (∀ k : Nat, (k : Int) < (I mo 16).toInt ∨ (I mo 16).toInt + 8 ≤ (k : Int) → AI_2 (gh 65 0) k = AI (gh 65 0) k) → (∀ i : Nat, 8 * (i : Int) < 56 - sh → AI_2 (gh 65 0) ((I mo 16).toInt.toNat + i) = mBs v8 (56 - 8 * (i : Int))) → (-8 ≤ sh ∧ sh ≤ 56 ∧ 8 * ((I_1 mo 16).toInt - (I mo 16).toInt) = 56 - sh ∧ (8 ∣ sh)) → (sh + 8) < ((NN : Nat) : Int) → gH g I_1 R J AI_2 AJ AR H → va_S (gA g) s.heap H locs → lv_has ls 4 [(3, .int (iI sh)), (0, .ref mo), (1, .long v8)] → W p l e rmX7_eightf s m ([.ref mo, .long v8] : List Value).toArray below meth c H locs 0 0 (MQ below (gQv g (fun w : gS => R = w.2.1 ∧ J = w.2.2.1 ∧ AJ = w.2.2.2.2.1 ∧ AR = w.2.2.2.2.2 ∧ (∀ b, b ≠ mo → (w.1) b = I b) ∧ (∀ j, j ≠ 16 → (w.1) mo j = I mo j) ∧ (∀ b, b ≠ gh 65 0 → (w.2.2.2.1) b = AI b) ∧ (((w.1) mo 16).toInt = (I mo 16).toInt + 8) ∧ (∀ k : Nat, (k : Int) < (I mo 16).toInt ∨ (I mo 16).toInt + 8 ≤ (k : Int) → (w.2.2.2.1) (gh 65 0) k = AI (gh 65 0) k) ∧ (∀ i : Nat, i < 8 → (w.2.2.2.1) (gh 65 0) ((I mo 16).toInt.toNat + i) = mBs v8 (56 - 8 * (i : Int))))) ([.ref mo, .long v8] : List Value).toArray s 0 0 (gA g)) (F0 m 3 ls []) := by
    intro NN3
    induction NN3 with
    | zero =>
      intro sh I_1 AI_2 H locs ls zsh fx fj fa ft fc hs hm3 hH hS hl
      exact absurd hm3 (by omega)
    | succ NN3 ih3 =>
      intro sh I_1 AI_2 H locs ls zsh fx fj fa ft fc hs hm3 hH hS hl
      refine lv_iload_n F.1 F.2.1 dX7_eight_3 rfl (lv_at hl 0 rfl) ?_
      refine z_if_lt (tgt := 40) F dX7_eight_4 (by decide) zsh (fun c_4 => ?_) (fun c_4 => ?_)
      · exact g_vret F hr hlk hH hS hz ⟨rfl, rfl, rfl, rfl, fun b hb => fx b hb, fj, fun b hb => fa b hb, by first | omega | rfl | (dsimp only; omega), ft, (fun i hi => fc i (by omega))⟩ dX7_eight_40
      · refine lv_aload_n F.1 F.2.1 dX7_eight_7 rfl (lv_at hl 1 rfl) ?_
        refine g_getR (ci := 7) (k := 15) F hH rfl (by decide) iX7 hm (by decide) rfl (b := gh 65 0) hR.1 k39 dX7_eight_8 ?_
        refine lv_aload_n F.1 F.2.1 dX7_eight_11 rfl (lv_at hl 1 rfl) ?_
        refine g_getI (ci := 7) (k := 16) F hH rfl (by decide) iX7 hm (by decide) rfl k71 dX7_eight_12 ?_
        refine lv_lload_n F.1 F.2.1 dX7_eight_15 rfl (lv_at hl 2 rfl) ?_
        refine lv_iload_n F.1 F.2.1 dX7_eight_16 rfl (lv_at hl 0 rfl) ?_
        refine lv_lshr F.1 F.2.1 dX7_eight_17 rfl ?_
        refine lv_topl (fun j_5 ej_5 => ?_)
        refine lv_l2i F.1 F.2.1 dX7_eight_18 rfl ?_
        refine z_top (fun v_6 zv_6 ev_6 => ?_)
        refine z_sipush F dX7_eight_19 (by decide) ?_
        refine lv_iand F.1 F.2.1 dX7_eight_22 ?_
        refine z_top (fun v_7 zv_7 ev_7 => ?_)
        have hx23 : 0 ≤ ((I_1 mo 16).toInt) ∧ ((I_1 mo 16).toInt) < ((936 : Nat) : Int) ∧ ((I_1 mo 16).toInt) ≤ 2147483647 := ⟨by omega, by omega, by omega⟩
        refine g_iast F hH hS hR.2 hx23.1 hx23.2.1 hx23.2.2 dX7_eight_23 (fun H locs hH hS => ?_)
        obtain ⟨AI_8, eAI_8⟩ : ∃ qQ, qQ = gup2 AI_2 (gh 65 0) (((I_1 mo 16).toInt)).toNat (iI (v_7)) := ⟨_, rfl⟩
        rw [← eAI_8] at hH
        have kAI_8 : ∀ b, b ≠ (gh 65 0) → AI_8 b = AI_2 b := fun b hb => by rw [eAI_8]; exact funext fun j => gup2_a _ _ hb
        have ft : ∀ k : Nat, (k : Int) < (I mo 16).toInt ∨ (I mo 16).toInt + 8 ≤ (k : Int) → AI_8 (gh 65 0) k = AI (gh 65 0) k := fun k hk => by rw [eAI_8, gup2_k _ _ (by omega)]; exact ft k hk
        have fc : ∀ i : Nat, 8 * (i : Int) < 64 - sh → AI_8 (gh 65 0) ((I mo 16).toInt.toNat + i) = mBs v8 (56 - 8 * (i : Int)) := fun i hi => by
          by_cases hq : 8 * (i : Int) = 56 - sh
          · rw [eAI_8, gup2_e _ _ (by omega), show 56 - 8 * (i : Int) = sh by omega, ev_7, ev_6, ej_5]; rfl
          · rw [eAI_8, gup2_k _ _ (by omega)]; exact fc i (by omega)
        refine lv_aload_n F.1 F.2.1 dX7_eight_24 rfl (lv_at hl 1 rfl) ?_
        refine lv_dup F.1 F.2.1 dX7_eight_25 rfl ?_
        refine g_getI (ci := 7) (k := 16) F hH rfl (by decide) iX7 hm (by decide) rfl k71 dX7_eight_26 ?_
        refine z_iconst F dX7_eight_29 ?_
        refine z_iadd F dX7_eight_30 ?_
        refine g_putI (ci := 7) (k := 16) F hH hS rfl (by decide) iX7 hm (by decide) tyX7 tyX7_ok nmX7 rfl rfl rfl k71 dX7_eight_31 (fun H locs hH hS => ?_)
        obtain ⟨I_9, eI_9⟩ : ∃ qQ, qQ = gup2 I_1 mo 16 (iI (((I_1 mo 16).toInt) + 1)) := ⟨_, rfl⟩
        rw [← eI_9] at hH
        have kI_9 : ∀ b, b ≠ mo → I_9 b = I_1 b := fun b hb => by rw [eI_9]; exact funext fun j => gup2_a _ _ hb
        have w1 : (I_9 mo 16).toInt = (I_1 mo 16).toInt + 1 := by rw [eI_9, gup2_s]; exact iI_val ⟨by omega, by omega⟩
        have fj : ∀ j, j ≠ 16 → I_9 mo j = I mo j := fun j hj => by rw [eI_9, gup2_k _ _ hj]; exact fj j hj
        refine z_iinc (lv' := [(3, .int (iI (sh + (-8)))), (0, .ref mo), (1, .long v8)]) F dX7_eight_34 hl (k := 0) rfl (by decide) rfl (fun ls hl => ?_)
        refine z_goto (tgt := 3) F dX7_eight_37 (by decide) ?_
        exact ih3 (sh + (-8)) I_9 AI_8 H locs ls ⟨by omega, by omega⟩ (fun b hb => (kI_9 b hb).trans (fx b hb)) fj (fun b hb => (kAI_8 b hb).trans (fa b hb)) ft (fun i hi => by first | exact fc i (by omega) | exact absurd hi (by omega)) (by omega) (by omega) hH hS (lv_sub hl [0, 1, 2] rfl)
  exact cut_3_2 (((56 + 8) + 1 : Int).toNat) 56 I AI H locs ls ⟨by decide, by decide⟩ (fun _ _ => rfl) fj (fun _ _ => rfl) ft (fun i hi => by first | exact fc i (by omega) | exact absurd hi (by omega)) (by omega) (by omega) hH hS (lv_sub hl [0, 1, 2] rfl)

def rmX7_feedf : Room := { frames := 1, cells := 0, slots := 0, locals := 23 }
set_option maxHeartbeats 4000000 in
set_option maxRecDepth 100000 in
/-- 24 bytes -/
theorem c_X7_feedf (l : Launch) (g : gG) (gh : gGh) (I : gI) (R : gR) (J : gJ) (AI : gI) (AJ : gJ) (AR : gR) (mo : Nat) (b1 : Int64) (b2 : Int64) (b3 : Int64) (hv : mInv g gh R I AI) (hm : gO g mo 7) : gMet l g yX7_feed tsX7_feed rmX7_feedf [.ref mo, .long b1, .long b2, .long b3] (I, R, J, AI, AJ, AR) (gQi g (fun (z : Int) (w : gS) => R = w.2.1 ∧ J = w.2.2.1 ∧ AJ = w.2.2.2.2.1 ∧ AR = w.2.2.2.2.2 ∧ (∀ b, b ≠ mo → (w.1) b = I b) ∧ (∀ j, j ≠ 16 → j ≠ 17 → (w.1) mo j = I mo j) ∧ (∀ b, b ≠ gh 65 0 → (w.2.2.2.1) b = AI b) ∧ ((936 < (I mo 16).toInt + 24 ∧ z = -1 ∧ ((w.1) mo 16).toInt = (I mo 16).toInt ∧ (w.2.2.2.1) (gh 65 0) = AI (gh 65 0)) ∨ ((I mo 16).toInt + 24 ≤ 936 ∧ z = (I mo 16).toInt + 24 ∧ ((w.1) mo 16).toInt = (I mo 16).toInt + 24 ∧ (∀ k : Nat, (k : Int) < (I mo 16).toInt ∨ (I mo 16).toInt + 24 ≤ (k : Int) → (w.2.2.2.1) (gh 65 0) k = AI (gh 65 0) k) ∧ (∀ i : Nat, i < 8 → (w.2.2.2.1) (gh 65 0) ((I mo 16).toInt.toNat + 0 + i) = mBs b1 (56 - 8 * (i : Int))) ∧ (∀ i : Nat, i < 8 → (w.2.2.2.1) (gh 65 0) ((I mo 16).toInt.toNat + 8 + i) = mBs b2 (56 - 8 * (i : Int))) ∧ (∀ i : Nat, i < 8 → (w.2.2.2.1) (gh 65 0) ((I mo 16).toInt.toNat + 16 + i) = mBs b3 (56 - 8 * (i : Int))))))) := by
  refine gStart (cc := cX7_feed) (maxL := 7) (ret := (some (.int))) (by decide) rfl (Nat.le_of_ble_eq_true rfl) ?_
  intro p e s m below meth c ls F hr hlk hH hz hS hl
  have hl : lv_has ls 7 [(0, .ref mo), (1, .long b1), (3, .long b2), (5, .long b3)] := hl
  have hS : va_S (gA g) s.heap s.heap [] := hS
  obtain ⟨H, hHe⟩ : ∃ H : Heap, H = s.heap := ⟨_, rfl⟩
  obtain ⟨locs, hlo⟩ : ∃ k : List Loc, k = [] := ⟨_, rfl⟩
  have hH : gH g I R J AI AJ AR H := by rw [hHe]; exact hH
  have hS : va_S (gA g) s.heap H locs := by rw [hHe, hlo]; exact hS
  suffices hw : W p l e rmX7_feedf s m ([.ref mo, .long b1, .long b2, .long b3] : List Value).toArray below meth c H locs 0 0 (MQ below (gQi g (fun (z : Int) (w : gS) => R = w.2.1 ∧ J = w.2.2.1 ∧ AJ = w.2.2.2.2.1 ∧ AR = w.2.2.2.2.2 ∧ (∀ b, b ≠ mo → (w.1) b = I b) ∧ (∀ j, j ≠ 16 → j ≠ 17 → (w.1) mo j = I mo j) ∧ (∀ b, b ≠ gh 65 0 → (w.2.2.2.1) b = AI b) ∧ ((936 < (I mo 16).toInt + 24 ∧ z = -1 ∧ ((w.1) mo 16).toInt = (I mo 16).toInt ∧ (w.2.2.2.1) (gh 65 0) = AI (gh 65 0)) ∨ ((I mo 16).toInt + 24 ≤ 936 ∧ z = (I mo 16).toInt + 24 ∧ ((w.1) mo 16).toInt = (I mo 16).toInt + 24 ∧ (∀ k : Nat, (k : Int) < (I mo 16).toInt ∨ (I mo 16).toInt + 24 ≤ (k : Int) → (w.2.2.2.1) (gh 65 0) k = AI (gh 65 0) k) ∧ (∀ i : Nat, i < 8 → (w.2.2.2.1) (gh 65 0) ((I mo 16).toInt.toNat + 0 + i) = mBs b1 (56 - 8 * (i : Int))) ∧ (∀ i : Nat, i < 8 → (w.2.2.2.1) (gh 65 0) ((I mo 16).toInt.toNat + 8 + i) = mBs b2 (56 - 8 * (i : Int))) ∧ (∀ i : Nat, i < 8 → (w.2.2.2.1) (gh 65 0) ((I mo 16).toInt.toNat + 16 + i) = mBs b3 (56 - 8 * (i : Int))))))) ([.ref mo, .long b1, .long b2, .long b3] : List Value).toArray s 0 0 (gA g)) (F0 m 0 ls []) by
    rw [hHe, hlo] at hw; exact hw
  clear hHe hlo
  have iX7 : ∀ w ∈ u_ws RX7 TX7 32, w ∈ tsX7_feed := fun w h => List.mem_cons_of_mem _ (inTB7 w h)
  have k60 : Cond.fieldLink RX7 60 (TX7 17).1 (TX7 17).2.1 (TX7 17).2.2.1 ∈ tsX7_feed := List.mem_cons_of_mem _ fl_60
  have k71 : Cond.fieldLink RX7 71 (TX7 16).1 (TX7 16).2.1 (TX7 16).2.2.1 ∈ tsX7_feed := List.mem_cons_of_mem _ fl_71
  refine lv_aload_n F.1 F.2.1 dX7_feed_0 rfl (lv_at hl 0 rfl) ?_
  refine z_iconst F dX7_feed_1 ?_
  refine g_putI (ci := 7) (k := 17) F hH hS rfl (by decide) iX7 hm (by decide) tyX7 tyX7_ok nmX7 rfl rfl rfl k60 dX7_feed_2 (fun H locs hH hS => ?_)
  obtain ⟨I_1, eI_1⟩ : ∃ qQ, qQ = gup2 I mo 17 (iI (0)) := ⟨_, rfl⟩
  rw [← eI_1] at hH
  have kI_1 : ∀ b, b ≠ mo → I_1 b = I b := fun b hb => by rw [eI_1]; exact funext fun j => gup2_a _ _ hb
  have w0 : (I_1 mo 16).toInt = (I mo 16).toInt := by rw [eI_1, gup2_k _ _ (by decide)]
  have fj0 : ∀ j, j ≠ 17 → I_1 mo j = I mo j := fun j hj => by rw [eI_1, gup2_k _ _ hj]
  have b0 := mJ hv hm
  unfold mNum1 at b0
  refine lv_aload_n F.1 F.2.1 dX7_feed_5 rfl (lv_at hl 0 rfl) ?_
  refine g_getI (ci := 7) (k := 16) F hH rfl (by decide) iX7 hm (by decide) rfl k71 dX7_feed_6 ?_
  have b_2 := mJ hv hm
  unfold mNum1 at b_2
  refine z_bipush F dX7_feed_9 (by decide) ?_
  refine z_iadd F dX7_feed_11 ?_
  refine z_sipush F dX7_feed_12 (by decide) ?_
  refine z_icmp_le (tgt := 20) F dX7_feed_15 (by decide) ⟨by omega, by omega⟩ ⟨by decide, by decide⟩ (fun c_3 => ?_) (fun c_3 => ?_)
  · refine lv_aload_n F.1 F.2.1 dX7_feed_20 rfl (lv_at hl 0 rfl) ?_
    refine lv_lload_n F.1 F.2.1 dX7_feed_21 rfl (lv_at hl 1 rfl) ?_
    refine g_callv (g_runV (As := [.long b1]) (rest := []) (ci := 7) F hl.1 hH hS hz (c_X7_eightf l g gh I_1 R J AI AJ AR mo b1 (mR hv hm (q := (15, 936)) (by decide)) hm (by omega) (by omega)) (cwV 1 F.2.2.2.2.1 (good_up gT_X7_eight) rfl rfl rfl hdX7_eight ⟨Nat.le_of_ble_eq_true rfl, Nat.le_of_ble_eq_true rfl⟩) hm (by decide) rfl rfl rfl (Nat.le_of_ble_eq_true rfl) dX7_feed_22 ⟨Nat.zero_le _, Nat.zero_le _⟩) hS (fun I_4 R_5 J_6 AI_7 AJ_8 AR_9 H locs hp_10 hH hS => ?_)
    dsimp only at hp_10
    obtain ⟨rfl, rfl, rfl, rfl, fI1, fj1, fA1, w1, ft1, fc1⟩ := hp_10
    rw [w0] at ft1 fc1 w1
    refine lv_aload_n F.1 F.2.1 dX7_feed_25 rfl (lv_at hl 0 rfl) ?_
    refine lv_lload_n F.1 F.2.1 dX7_feed_26 rfl (lv_at hl 2 rfl) ?_
    have b_11 := mJ hv hm
    unfold mNum1 at b_11
    refine g_callv (g_runV (As := [.long b2]) (rest := []) (ci := 7) F hl.1 hH hS hz (c_X7_eightf l g gh I_4 R J AI_7 AJ AR mo b2 (mR hv hm (q := (15, 936)) (by decide)) hm (by omega) (by omega)) (cwV 1 F.2.2.2.2.1 (good_up gT_X7_eight) rfl rfl rfl hdX7_eight ⟨Nat.le_of_ble_eq_true rfl, Nat.le_of_ble_eq_true rfl⟩) hm (by decide) rfl rfl rfl (Nat.le_of_ble_eq_true rfl) dX7_feed_27 ⟨Nat.zero_le _, Nat.zero_le _⟩) hS (fun I_12 R_13 J_14 AI_15 AJ_16 AR_17 H locs hp_18 hH hS => ?_)
    dsimp only at hp_18
    obtain ⟨rfl, rfl, rfl, rfl, fI2, fj2, fA2, w2, ft2, fc2⟩ := hp_18
    refine lv_aload_n F.1 F.2.1 dX7_feed_30 rfl (lv_at hl 0 rfl) ?_
    refine lv_lload F.1 F.2.1 dX7_feed_31 (lv_at hl 3 rfl) ?_
    have b_19 := mJ hv hm
    unfold mNum1 at b_19
    refine g_callv (g_runV (As := [.long b3]) (rest := []) (ci := 7) F hl.1 hH hS hz (c_X7_eightf l g gh I_12 R J AI_15 AJ AR mo b3 (mR hv hm (q := (15, 936)) (by decide)) hm (by omega) (by omega)) (cwV 1 F.2.2.2.2.1 (good_up gT_X7_eight) rfl rfl rfl hdX7_eight ⟨Nat.le_of_ble_eq_true rfl, Nat.le_of_ble_eq_true rfl⟩) hm (by decide) rfl rfl rfl (Nat.le_of_ble_eq_true rfl) dX7_feed_33 ⟨Nat.zero_le _, Nat.zero_le _⟩) hS (fun I_20 R_21 J_22 AI_23 AJ_24 AR_25 H locs hp_26 hH hS => ?_)
    dsimp only at hp_26
    obtain ⟨rfl, rfl, rfl, rfl, fI3, fj3, fA3, w3, ft3, fc3⟩ := hp_26
    refine lv_aload_n F.1 F.2.1 dX7_feed_36 rfl (lv_at hl 0 rfl) ?_
    refine g_getI (ci := 7) (k := 16) F hH rfl (by decide) iX7 hm (by decide) rfl k71 dX7_feed_37 ?_
    have b_27 := mJ hv hm
    unfold mNum1 at b_27
    exact g_iret F hr hlk hH hS hz (zr_t _) ⟨rfl, rfl, rfl, rfl, fun b hb => (((fI3 b hb).trans (fI2 b hb)).trans (fI1 b hb)).trans (kI_1 b hb), (fun j hj h2 => (fj3 j hj).trans ((fj2 j hj).trans ((fj1 j hj).trans (fj0 j h2)))), fun b hb => ((fA3 b hb).trans (fA2 b hb)).trans (fA1 b hb), Or.inr ⟨by omega, by omega, (by first | omega | rfl | (dsimp only; omega)), fd3 ft1 fc1 ft2 fc2 ft3 fc3 (by omega) (by omega) (by omega)⟩⟩ dX7_feed_40
  · refine z_iconst F dX7_feed_18 ?_
    exact g_iret F hr hlk hH hS hz ⟨by decide, by decide⟩ ⟨rfl, rfl, rfl, rfl, fun b hb => kI_1 b hb, (fun j _ h2 => fj0 j h2), fun _ _ => rfl, Or.inl ⟨by omega, rfl, (by first | omega | rfl | (dsimp only; omega)), rfl⟩⟩ dX7_feed_19
end
section
/-! String's methods with what they answer -/
theorem sTab_by {i : Nat} {q : String × Nat × String × List Int32} (h : sTab[i]? = some q) : ∀ k : Nat, 0 ≤ (q.2.2.2.getD k 0).toInt ∧ (q.2.2.2.getD k 0).toInt ≤ 127 := by
  have all : ∀ q ∈ sTab, ∀ x ∈ q.2.2.2, 0 ≤ (x : Int32).toInt ∧ (x : Int32).toInt ≤ 127 := by decide +kernel
  intro k
  by_cases hk : k < q.2.2.2.length
  · rw [List.getD_eq_getElem?_getD, List.getElem?_eq_getElem hk]
    exact all q (List.mem_of_getElem? h) _ (List.getElem_mem hk)
  · rw [List.getD_eq_getElem?_getD, List.getElem?_eq_none (by omega)]
    decide
theorem iI_and {z : Int} (h0 : 0 ≤ z) (h1 : z ≤ 127) : (iI z &&& iI 255).toInt = z := by
  have h : ∀ k : Nat, k < 128 → (iI (k : Int) &&& iI 255).toInt = (k : Int) := by decide +kernel
  have := h z.toNat (by omega)
  rwa [show ((z.toNat : Nat) : Int) = z by omega] at this
theorem z_i2b {z v : Int} (e : v = ((iI z).toInt8.toInt32).toInt) (h0 : 0 ≤ z) (h1 : z ≤ 127) : v = z := by
  have h : ∀ k : Nat, k < 128 → ((iI (k : Int)).toInt8.toInt32).toInt = (k : Int) := by decide +kernel
  have := h z.toNat (by omega)
  rw [show ((z.toNat : Nat) : Int) = z by omega] at this
  rw [e, this]
theorem z_i2cB {a b c : Int} (e1 : b = (iI a &&& iI 255).toInt) (e2 : c = (((iI b).toUInt32 % 65536).toInt32).toInt) (h0 : 0 ≤ a) (h1 : a ≤ 127) : c = a := by
  have h : ∀ k : Nat, k < 128 → ((((iI (k : Int)).toUInt32 % 65536).toInt32).toInt) = (k : Int) := by decide +kernel
  rw [iI_and h0 h1] at e1
  have := h a.toNat (by omega)
  rw [show ((a.toNat : Nat) : Int) = a by omega] at this
  rw [e2, e1, this]
theorem ix_mx {f : Nat → Int} {z ch m m' : Int} (h : (z = -1 ∧ ∀ j : Nat, (j : Int) < m → f j ≠ ch) ∨ (0 ≤ z ∧ z < m ∧ f z.toNat = ch)) (e : m = m') : (z = -1 ∧ ∀ j : Nat, (j : Int) < m' → f j ≠ ch) ∨ (0 ≤ z ∧ z < m' ∧ f z.toNat = ch) := by rw [← e]; exact h
theorem ix_step {P : Nat → Prop} {j : Int} (h : ∀ k : Nat, (k : Int) < j → P k) (h0 : 0 ≤ j) (hj : P j.toNat) : ∀ k : Nat, (k : Int) < j + 1 → P k := fun k hk => by
  by_cases q : (k : Int) = j
  · rw [show k = j.toNat by omega]; exact hj
  · exact h k (by omega)
def rmJ1_charAt_3b067f : Room := { frames := 2, cells := 0, slots := 0, locals := 43 }
set_option maxHeartbeats 4000000 in
set_option maxRecDepth 100000 in
theorem c_J1_charAt_3b067f (l : Launch) (g : gG) (i : Nat) (q : String × Nat × String × List Int32) (I : gI) (R : gR) (J : gJ) (AI : gI) (AJ : gJ) (AR : gR) (k : Int) (zk : zr k) (hq : sTab[i]? = some q) (h0 : 0 ≤ k) (h1 : k < ((q.2.2.2.length : Nat) : Int)) : gMet l g yJ1_charAt_3b067 wsJ1_charAt_3b067 rmJ1_charAt_3b067f [.ref (gSV g i), .int (iI k)] (I, R, J, AI, AJ, AR) (gQi g (fun (z : Int) (w : gS) => I = w.1 ∧ R = w.2.1 ∧ J = w.2.2.1 ∧ AI = w.2.2.2.1 ∧ AJ = w.2.2.2.2.1 ∧ AR = w.2.2.2.2.2 ∧ (z = (q.2.2.2.getD k.toNat 0).toInt))) := by
  refine gStart (cc := cJ1_charAt_3b067) (maxL := 2) (ret := (some (.char))) (by decide) rfl (Nat.le_of_ble_eq_true rfl) ?_
  intro p e s m below meth c ls F hr hlk hH hz hS hl
  have hl : lv_has ls 2 [(0, .ref (gSV g i)), (1, .int (iI k))] := hl
  have hS : va_S (gA g) s.heap s.heap [] := hS
  obtain ⟨H, hHe⟩ : ∃ H : Heap, H = s.heap := ⟨_, rfl⟩
  obtain ⟨locs, hlo⟩ : ∃ k : List Loc, k = [] := ⟨_, rfl⟩
  have hH : gH g I R J AI AJ AR H := by rw [hHe]; exact hH
  have hS : va_S (gA g) s.heap H locs := by rw [hHe, hlo]; exact hS
  suffices hw : W p l e rmJ1_charAt_3b067f s m ([.ref (gSV g i), .int (iI k)] : List Value).toArray below meth c H locs 0 0 (MQ below (gQi g (fun (z : Int) (w : gS) => I = w.1 ∧ R = w.2.1 ∧ J = w.2.2.1 ∧ AI = w.2.2.2.1 ∧ AJ = w.2.2.2.2.1 ∧ AR = w.2.2.2.2.2 ∧ (z = (q.2.2.2.getD k.toNat 0).toInt))) ([.ref (gSV g i), .int (iI k)] : List Value).toArray s 0 0 (gA g)) (F0 m 0 ls []) by
    rw [hHe, hlo] at hw; exact hw
  clear hHe hlo
  have hlen := sTab_len hq
  have hby := sTab_by hq
  refine lv_iload_n F.1 F.2.1 dJ1_charAt_3b067_0 rfl (lv_at hl 1 rfl) ?_
  refine lv_aload_n F.1 F.2.1 dJ1_charAt_3b067_1 rfl (lv_at hl 0 rfl) ?_
  refine va_tlen F.1 F.2.1 (F.2.2.2.2.2.2.1 i _ hq).2.2.2.2 hS (v := iI ((q.2.2.2.length : Nat) : Int)) (Int32.ofInt_eq_ofNat).symm dJ1_charAt_3b067_2 ?_
  refine g_callv (g_runS (As := [.int (iI k), .int (iI (((q.2.2.2.length : Nat) : Int)))]) (rest := []) F hl.1 hH hS hz (c_J0_checkIndex_df160 l g  I R J AI AJ AR k ((q.2.2.2.length : Nat) : Int) zk ⟨by omega, by omega⟩ (by omega) (by omega)) (va_cwS 2 F.2.2.2.2.1 gJ1_charAt_3b067_J0_checkIndex_df160 rfl rfl rfl hdJ0_checkIndex_df160.2 ⟨Nat.le_of_ble_eq_true rfl, Nat.le_of_ble_eq_true rfl⟩) rfl rfl (Nat.le_of_ble_eq_true rfl) dJ1_charAt_3b067_3 ⟨Nat.zero_le _, Nat.zero_le _⟩) hS (fun I_1 R_2 J_3 AI_4 AJ_5 AR_6 H locs hp_7 hH hS => ?_)
  dsimp only at hp_7
  obtain ⟨rfl, rfl, rfl, rfl, rfl, rfl⟩ := hp_7
  refine lv_aload_n F.1 F.2.1 dJ1_charAt_3b067_6 rfl (lv_at hl 0 rfl) ?_
  refine lv_iload_n F.1 F.2.1 dJ1_charAt_3b067_7 rfl (lv_at hl 1 rfl) ?_
  have hx8 : 0 ≤ k ∧ k < ((q.2.2.2.length : Nat) : Int) ∧ k ≤ 2147483647 := ⟨by omega, by omega, by omega⟩
  refine va_tb F.1 F.2.1 (F.2.2.2.2.2.2.1 i _ hq).2.2.2.2 hS (iI_in hx8.1 hx8.2.1 hx8.2.2) rfl dJ1_charAt_3b067_8 ?_
  refine z_top (fun v_8 zv_8 ev_8 => ?_)
  have e8 := ev_8
  rw [iI_nat h0 (by omega)] at e8
  have b8 := hby k.toNat
  refine z_sipush F dJ1_charAt_3b067_9 (by decide) ?_
  refine lv_iand F.1 F.2.1 dJ1_charAt_3b067_12 ?_
  refine z_top (fun v_9 zv_9 ev_9 => ?_)
  refine lv_i2c F.1 F.2.1 dJ1_charAt_3b067_13 rfl ?_
  refine z_top (fun v_10 zv_10 ev_10 => ?_)
  have hch := z_i2cB (ev_9) (ev_10) (by omega) (by omega)
  exact g_nret F hr hlk hH hS hz (nar_char (by omega) (by omega)) zv_10 ⟨rfl, rfl, rfl, rfl, rfl, rfl, by first | omega | rfl | (dsimp only; omega)⟩ dJ1_charAt_3b067_14

def rmJ0_charAt_5068ef : Room := { frames := 3, cells := 0, slots := 0, locals := 64 }
set_option maxHeartbeats 4000000 in
set_option maxRecDepth 100000 in
theorem c_J0_charAt_5068ef (l : Launch) (g : gG) (i : Nat) (q : String × Nat × String × List Int32) (I : gI) (R : gR) (J : gJ) (AI : gI) (AJ : gJ) (AR : gR) (k : Int) (zk : zr k) (hq : sTab[i]? = some q) (h0 : 0 ≤ k) (h1 : k < ((q.2.2.2.length : Nat) : Int)) : gMet l g yJ0_charAt_5068e wsJ0_charAt_5068e rmJ0_charAt_5068ef [.ref (gSK g i), .int (iI k)] (I, R, J, AI, AJ, AR) (gQi g (fun (z : Int) (w : gS) => I = w.1 ∧ R = w.2.1 ∧ J = w.2.2.1 ∧ AI = w.2.2.2.1 ∧ AJ = w.2.2.2.2.1 ∧ AR = w.2.2.2.2.2 ∧ (z = (q.2.2.2.getD k.toNat 0).toInt))) := by
  refine gStart (cc := cJ0_charAt_5068e) (maxL := 2) (ret := (some (.char))) (by decide) rfl (Nat.le_of_ble_eq_true rfl) ?_
  intro p e s m below meth c ls F hr hlk hH hz hS hl
  have hl : lv_has ls 2 [(0, .ref (gSK g i)), (1, .int (iI k))] := hl
  have hS : va_S (gA g) s.heap s.heap [] := hS
  obtain ⟨H, hHe⟩ : ∃ H : Heap, H = s.heap := ⟨_, rfl⟩
  obtain ⟨locs, hlo⟩ : ∃ k : List Loc, k = [] := ⟨_, rfl⟩
  have hH : gH g I R J AI AJ AR H := by rw [hHe]; exact hH
  have hS : va_S (gA g) s.heap H locs := by rw [hHe, hlo]; exact hS
  suffices hw : W p l e rmJ0_charAt_5068ef s m ([.ref (gSK g i), .int (iI k)] : List Value).toArray below meth c H locs 0 0 (MQ below (gQi g (fun (z : Int) (w : gS) => I = w.1 ∧ R = w.2.1 ∧ J = w.2.2.1 ∧ AI = w.2.2.2.1 ∧ AJ = w.2.2.2.2.1 ∧ AR = w.2.2.2.2.2 ∧ (z = (q.2.2.2.getD k.toNat 0).toInt))) ([.ref (gSK g i), .int (iI k)] : List Value).toArray s 0 0 (gA g)) (F0 m 0 ls []) by
    rw [hHe, hlo] at hw; exact hw
  clear hHe hlo
  have hlen := sTab_len hq
  have hby := sTab_by hq
  refine lv_aload_n F.1 F.2.1 dJ0_charAt_5068e_0 rfl (lv_at hl 0 rfl) ?_
  refine g_calli (g_runVS (As := []) (rest := []) F hl.1 hH hS hz hq (c_J0_isLatin1_aae02 l g i q I R J AI AJ AR  hq) (cwV 0 F.2.2.2.2.1 gJ0_charAt_5068e_J0_isLatin1_aae02 rfl rfl rfl hdJ0_isLatin1_aae02 ⟨Nat.le_of_ble_eq_true rfl, Nat.le_of_ble_eq_true rfl⟩) rfl rfl (Nat.le_of_ble_eq_true rfl) dJ0_charAt_5068e_1 ⟨Nat.zero_le _, Nat.zero_le _⟩) hS (fun v_7 I_1 R_2 J_3 AI_4 AJ_5 AR_6 H locs zv_7 hp_8 hH hS => ?_)
  dsimp only at hp_8
  obtain ⟨rfl, rfl, rfl, rfl, rfl, rfl, q_9⟩ := hp_8
  subst q_9
  refine z_if_eq (tgt := 16) F dJ0_charAt_5068e_4 (by decide) ⟨by decide, by decide⟩ (fun c_10 => ?_) (fun c_10 => ?_)
  · exact absurd trivial (by omega)
  · refine lv_aload_n F.1 F.2.1 dJ0_charAt_5068e_7 rfl (lv_at hl 0 rfl) ?_
    refine vk_getf F.1 F.2.1 (F.2.2.2.2.2.2.1 i _ hq).2.2.2.1 hS F.2.2.2.1 (F.2.2.2.2.1 _ (List.mem_of_getElem? (i := 1) rfl)) (fun _ h => h) dJ0_charAt_5068e_8 ?_
    refine lv_iload_n F.1 F.2.1 dJ0_charAt_5068e_11 rfl (lv_at hl 1 rfl) ?_
    refine g_calli (g_runS (As := [.ref (gSV g i), .int (iI k)]) (rest := []) F hl.1 hH hS hz (c_J1_charAt_3b067f l g i q I R J AI AJ AR k zk hq (by omega) (by omega)) (va_cwS 2 F.2.2.2.2.1 gJ0_charAt_5068e_J1_charAt_3b067 rfl rfl rfl hdJ1_charAt_3b067.2 ⟨Nat.le_of_ble_eq_true rfl, Nat.le_of_ble_eq_true rfl⟩) rfl rfl (Nat.le_of_ble_eq_true rfl) dJ0_charAt_5068e_12 ⟨Nat.zero_le _, Nat.zero_le _⟩) hS (fun v_17 I_11 R_12 J_13 AI_14 AJ_15 AR_16 H locs zv_17 hp_18 hH hS => ?_)
    dsimp only at hp_18
    obtain ⟨rfl, rfl, rfl, rfl, rfl, rfl, q_19⟩ := hp_18
    have bk := hby k.toNat
    exact g_nret F hr hlk hH hS hz (nar_char (by omega) (by omega)) zv_17 ⟨rfl, rfl, rfl, rfl, rfl, rfl, by first | omega | rfl | (dsimp only; omega)⟩ dJ0_charAt_5068e_15

def rmJ1_canEncode_9a6adf : Room := { frames := 0, cells := 0, slots := 0, locals := 0 }
set_option maxHeartbeats 4000000 in
set_option maxRecDepth 100000 in
theorem c_J1_canEncode_9a6adf (l : Launch) (g : gG)  (I : gI) (R : gR) (J : gJ) (AI : gI) (AJ : gJ) (AR : gR) (k : Int) (zk : zr k) : gMet l g yJ1_canEncode_9a6ad wsJ1_canEncode_9a6ad rmJ1_canEncode_9a6adf [.int (iI k)] (I, R, J, AI, AJ, AR) (gQi g (fun (z : Int) (w : gS) => I = w.1 ∧ R = w.2.1 ∧ J = w.2.2.1 ∧ AI = w.2.2.2.1 ∧ AJ = w.2.2.2.2.1 ∧ AR = w.2.2.2.2.2 ∧ ((z = 0 ∨ z = 1) ∧ (0 ≤ k → k ≤ 255 → z = 1)))) := by
  refine gStart (cc := cJ1_canEncode_9a6ad) (maxL := 1) (ret := (some (.boolean))) (by decide) rfl (Nat.le_of_ble_eq_true rfl) ?_
  intro p e s m below meth c ls F hr hlk hH hz hS hl
  have hl : lv_has ls 1 [(0, .int (iI k))] := hl
  have hS : va_S (gA g) s.heap s.heap [] := hS
  obtain ⟨H, hHe⟩ : ∃ H : Heap, H = s.heap := ⟨_, rfl⟩
  obtain ⟨locs, hlo⟩ : ∃ k : List Loc, k = [] := ⟨_, rfl⟩
  have hH : gH g I R J AI AJ AR H := by rw [hHe]; exact hH
  have hS : va_S (gA g) s.heap H locs := by rw [hHe, hlo]; exact hS
  suffices hw : W p l e rmJ1_canEncode_9a6adf s m ([.int (iI k)] : List Value).toArray below meth c H locs 0 0 (MQ below (gQi g (fun (z : Int) (w : gS) => I = w.1 ∧ R = w.2.1 ∧ J = w.2.2.1 ∧ AI = w.2.2.2.1 ∧ AJ = w.2.2.2.2.1 ∧ AR = w.2.2.2.2.2 ∧ ((z = 0 ∨ z = 1) ∧ (0 ≤ k → k ≤ 255 → z = 1)))) ([.int (iI k)] : List Value).toArray s 0 0 (gA g)) (F0 m 0 ls []) by
    rw [hHe, hlo] at hw; exact hw
  clear hHe hlo
  refine lv_iload_n F.1 F.2.1 dJ1_canEncode_9a6ad_0 rfl (lv_at hl 0 rfl) ?_
  refine z_if_lt (tgt := 15) F dJ1_canEncode_9a6ad_1 (by decide) zk (fun c_1 => ?_) (fun c_1 => ?_)
  · refine z_iconst F dJ1_canEncode_9a6ad_15 ?_
    exact g_zret F hr hlk hH hS hz (by omega) ⟨rfl, rfl, rfl, rfl, rfl, rfl, ⟨by omega, fun _ _ => by omega⟩⟩ dJ1_canEncode_9a6ad_16
  · refine lv_iload_n F.1 F.2.1 dJ1_canEncode_9a6ad_4 rfl (lv_at hl 0 rfl) ?_
    refine z_sipush F dJ1_canEncode_9a6ad_5 (by decide) ?_
    refine z_icmp_gt (tgt := 15) F dJ1_canEncode_9a6ad_8 (by decide) zk ⟨by decide, by decide⟩ (fun c_2 => ?_) (fun c_2 => ?_)
    · refine z_iconst F dJ1_canEncode_9a6ad_15 ?_
      exact g_zret F hr hlk hH hS hz (by omega) ⟨rfl, rfl, rfl, rfl, rfl, rfl, ⟨by omega, fun _ _ => by omega⟩⟩ dJ1_canEncode_9a6ad_16
    · refine z_iconst F dJ1_canEncode_9a6ad_11 ?_
      refine z_goto (tgt := 16) F dJ1_canEncode_9a6ad_12 (by decide) ?_
      exact g_zret F hr hlk hH hS hz (by omega) ⟨rfl, rfl, rfl, rfl, rfl, rfl, ⟨by omega, fun _ _ => by omega⟩⟩ dJ1_canEncode_9a6ad_16

def rmJ1_indexOfChar_4cfeff : Room := { frames := 0, cells := 0, slots := 0, locals := 0 }
set_option maxHeartbeats 4000000 in
set_option maxRecDepth 100000 in
theorem c_J1_indexOfChar_4cfeff (l : Launch) (g : gG) (i : Nat) (q : String × Nat × String × List Int32) (I : gI) (R : gR) (J : gJ) (AI : gI) (AJ : gJ) (AR : gR) (ch : Int) (fr : Int) (mx : Int) (zch : zr ch) (zfr : zr fr) (zmx : zr mx) (hq : sTab[i]? = some q) (hc : 0 ≤ ch ∧ ch ≤ 127) (h0 : fr = 0) (h1 : mx = ((q.2.2.2.length : Nat) : Int)) : gMet l g yJ1_indexOfChar_4cfef wsJ1_indexOfChar_4cfef rmJ1_indexOfChar_4cfeff [.ref (gSV g i), .int (iI ch), .int (iI fr), .int (iI mx)] (I, R, J, AI, AJ, AR) (gQi g (fun (z : Int) (w : gS) => I = w.1 ∧ R = w.2.1 ∧ J = w.2.2.1 ∧ AI = w.2.2.2.1 ∧ AJ = w.2.2.2.2.1 ∧ AR = w.2.2.2.2.2 ∧ ((z = -1 ∧ ∀ j : Nat, (j : Int) < mx → (q.2.2.2.getD j 0).toInt ≠ ch) ∨ (0 ≤ z ∧ z < mx ∧ (q.2.2.2.getD z.toNat 0).toInt = ch)))) := by
  refine gStart (cc := cJ1_indexOfChar_4cfef) (maxL := 6) (ret := (some (.int))) (by decide) rfl (Nat.le_of_ble_eq_true rfl) ?_
  intro p e s m below meth c ls F hr hlk hH hz hS hl
  have hl : lv_has ls 6 [(0, .ref (gSV g i)), (1, .int (iI ch)), (2, .int (iI fr)), (3, .int (iI mx))] := hl
  have hS : va_S (gA g) s.heap s.heap [] := hS
  obtain ⟨H, hHe⟩ : ∃ H : Heap, H = s.heap := ⟨_, rfl⟩
  obtain ⟨locs, hlo⟩ : ∃ k : List Loc, k = [] := ⟨_, rfl⟩
  have hH : gH g I R J AI AJ AR H := by rw [hHe]; exact hH
  have hS : va_S (gA g) s.heap H locs := by rw [hHe, hlo]; exact hS
  suffices hw : W p l e rmJ1_indexOfChar_4cfeff s m ([.ref (gSV g i), .int (iI ch), .int (iI fr), .int (iI mx)] : List Value).toArray below meth c H locs 0 0 (MQ below (gQi g (fun (z : Int) (w : gS) => I = w.1 ∧ R = w.2.1 ∧ J = w.2.2.1 ∧ AI = w.2.2.2.1 ∧ AJ = w.2.2.2.2.1 ∧ AR = w.2.2.2.2.2 ∧ ((z = -1 ∧ ∀ j : Nat, (j : Int) < mx → (q.2.2.2.getD j 0).toInt ≠ ch) ∨ (0 ≤ z ∧ z < mx ∧ (q.2.2.2.getD z.toNat 0).toInt = ch)))) ([.ref (gSV g i), .int (iI ch), .int (iI fr), .int (iI mx)] : List Value).toArray s 0 0 (gA g)) (F0 m 0 ls []) by
    rw [hHe, hlo] at hw; exact hw
  clear hHe hlo
  have hlen := sTab_len hq
  have hby := sTab_by hq
  refine lv_iload_n F.1 F.2.1 dJ1_indexOfChar_4cfef_0 rfl (lv_at hl 1 rfl) ?_
  refine lv_i2b F.1 F.2.1 dJ1_indexOfChar_4cfef_1 rfl ?_
  refine z_top (fun v_1 zv_1 ev_1 => ?_)
  have e1 := z_i2b ev_1 hc.1 hc.2
  refine lv_istore (lv' := [(4, .int (iI v_1)), (0, .ref (gSV g i)), (1, .int (iI ch)), (2, .int (iI fr)), (3, .int (iI mx))]) F.1 F.2.1 dJ1_indexOfChar_4cfef_2 hl (by decide) rfl (fun ls hl => ?_)
  refine lv_iload_n F.1 F.2.1 dJ1_indexOfChar_4cfef_4 rfl (lv_at hl 3 rfl) ?_
  refine lv_istore (lv' := [(5, .int (iI fr)), (4, .int (iI v_1)), (0, .ref (gSV g i)), (1, .int (iI ch)), (2, .int (iI fr)), (3, .int (iI mx))]) F.1 F.2.1 dJ1_indexOfChar_4cfef_5 hl (by decide) rfl (fun ls hl => ?_)
  have cut_7_1 : ∀ (NN : Nat) (j : Int) (H : Heap) (locs : List Loc) (ls : Array Slot), zr j → (0 ≤ j ∧ j ≤ mx) → (∀ k : Nat, (k : Int) < j → (q.2.2.2.getD k 0).toInt ≠ ch) → (mx - j) < ((NN : Nat) : Int) → gH g I R J AI AJ AR H → va_S (gA g) s.heap H locs → lv_has ls 6 [(5, .int (iI j)), (4, .int (iI v_1)), (0, .ref (gSV g i)), (1, .int (iI ch)), (2, .int (iI fr)), (3, .int (iI mx))] → W p l e rmJ1_indexOfChar_4cfeff s m ([.ref (gSV g i), .int (iI ch), .int (iI fr), .int (iI mx)] : List Value).toArray below meth c H locs 0 0 (MQ below (gQi g (fun (z : Int) (w : gS) => I = w.1 ∧ R = w.2.1 ∧ J = w.2.2.1 ∧ AI = w.2.2.2.1 ∧ AJ = w.2.2.2.2.1 ∧ AR = w.2.2.2.2.2 ∧ ((z = -1 ∧ ∀ j : Nat, (j : Int) < mx → (q.2.2.2.getD j 0).toInt ≠ ch) ∨ (0 ≤ z ∧ z < mx ∧ (q.2.2.2.getD z.toNat 0).toInt = ch)))) ([.ref (gSV g i), .int (iI ch), .int (iI fr), .int (iI mx)] : List Value).toArray s 0 0 (gA g)) (F0 m 7 ls []) := by
    intro NN7
    induction NN7 with
    | zero =>
      intro j H locs ls zj hj hf hm7 hH hS hl
      exact absurd hm7 (by omega)
    | succ NN7 ih7 =>
      intro j H locs ls zj hj hf hm7 hH hS hl
      refine lv_iload F.1 F.2.1 dJ1_indexOfChar_4cfef_7 (lv_at hl 0 rfl) ?_
      refine lv_iload_n F.1 F.2.1 dJ1_indexOfChar_4cfef_9 rfl (lv_at hl 5 rfl) ?_
      refine z_icmp_ge (tgt := 31) F dJ1_indexOfChar_4cfef_10 (by decide) zj zmx (fun c_3 => ?_) (fun c_3 => ?_)
      · refine z_iconst F dJ1_indexOfChar_4cfef_31 ?_
        exact g_iret F hr hlk hH hS hz ⟨by decide, by decide⟩ ⟨rfl, rfl, rfl, rfl, rfl, rfl, Or.inl ⟨rfl, fun k hk => hf k (by omega)⟩⟩ dJ1_indexOfChar_4cfef_32
      · refine lv_aload_n F.1 F.2.1 dJ1_indexOfChar_4cfef_13 rfl (lv_at hl 2 rfl) ?_
        refine lv_iload F.1 F.2.1 dJ1_indexOfChar_4cfef_14 (lv_at hl 0 rfl) ?_
        have hx16 : 0 ≤ j ∧ j < ((q.2.2.2.length : Nat) : Int) ∧ j ≤ 2147483647 := ⟨by omega, by omega, by omega⟩
        refine va_tb F.1 F.2.1 (F.2.2.2.2.2.2.1 i _ hq).2.2.2.2 hS (iI_in hx16.1 hx16.2.1 hx16.2.2) rfl dJ1_indexOfChar_4cfef_16 ?_
        refine z_top (fun v_4 zv_4 ev_4 => ?_)
        have e16 := ev_4
        rw [iI_nat (by omega) (by omega)] at e16
        refine lv_iload F.1 F.2.1 dJ1_indexOfChar_4cfef_17 (lv_at hl 1 rfl) ?_
        refine z_icmp_ne (tgt := 25) F dJ1_indexOfChar_4cfef_19 (by decide) zv_4 zv_1 (fun c_5 => ?_) (fun c_5 => ?_)
        · refine z_iinc (lv' := [(5, .int (iI (j + 1))), (4, .int (iI v_1)), (0, .ref (gSV g i)), (1, .int (iI ch)), (2, .int (iI fr)), (3, .int (iI mx))]) F dJ1_indexOfChar_4cfef_25 hl (k := 0) rfl (by decide) rfl (fun ls hl => ?_)
          refine z_goto (tgt := 7) F dJ1_indexOfChar_4cfef_28 (by decide) ?_
          exact ih7 (j + 1) H locs ls ⟨by omega, by omega⟩ (by omega) (by first | exact (fun k hk => absurd hk (by omega)) | exact ix_step hf (by omega) (by omega)) (by omega) hH hS (lv_sub hl [0, 1, 2, 3, 4, 5] rfl)
        · refine lv_iload F.1 F.2.1 dJ1_indexOfChar_4cfef_22 (lv_at hl 0 rfl) ?_
          exact g_iret F hr hlk hH hS hz zj ⟨rfl, rfl, rfl, rfl, rfl, rfl, Or.inr ⟨by omega, by omega, by omega⟩⟩ dJ1_indexOfChar_4cfef_24
  exact cut_7_1 (((mx - fr) + 1 : Int).toNat) fr H locs ls zfr (by omega) (by first | exact (fun k hk => absurd hk (by omega)) | exact ix_step hf (by omega) (by omega)) (by omega) hH hS (lv_sub hl [0, 1, 2, 3, 4, 5] rfl)

def rmJ1_indexOf_4cfeff : Room := { frames := 1, cells := 0, slots := 0, locals := 40 }
set_option maxHeartbeats 4000000 in
set_option maxRecDepth 100000 in
theorem c_J1_indexOf_4cfeff (l : Launch) (g : gG) (i : Nat) (q : String × Nat × String × List Int32) (I : gI) (R : gR) (J : gJ) (AI : gI) (AJ : gJ) (AR : gR) (ch : Int) (fr : Int) (mx : Int) (zch : zr ch) (zfr : zr fr) (zmx : zr mx) (hq : sTab[i]? = some q) (hc : 0 ≤ ch ∧ ch ≤ 127) (h0 : fr = 0) (h1 : mx = ((q.2.2.2.length : Nat) : Int)) : gMet l g yJ1_indexOf_4cfef wsJ1_indexOf_4cfef rmJ1_indexOf_4cfeff [.ref (gSV g i), .int (iI ch), .int (iI fr), .int (iI mx)] (I, R, J, AI, AJ, AR) (gQi g (fun (z : Int) (w : gS) => I = w.1 ∧ R = w.2.1 ∧ J = w.2.2.1 ∧ AI = w.2.2.2.1 ∧ AJ = w.2.2.2.2.1 ∧ AR = w.2.2.2.2.2 ∧ ((z = -1 ∧ ∀ j : Nat, (j : Int) < mx → (q.2.2.2.getD j 0).toInt ≠ ch) ∨ (0 ≤ z ∧ z < mx ∧ (q.2.2.2.getD z.toNat 0).toInt = ch)))) := by
  refine gStart (cc := cJ1_indexOf_4cfef) (maxL := 4) (ret := (some (.int))) (by decide) rfl (Nat.le_of_ble_eq_true rfl) ?_
  intro p e s m below meth c ls F hr hlk hH hz hS hl
  have hl : lv_has ls 4 [(0, .ref (gSV g i)), (1, .int (iI ch)), (2, .int (iI fr)), (3, .int (iI mx))] := hl
  have hS : va_S (gA g) s.heap s.heap [] := hS
  obtain ⟨H, hHe⟩ : ∃ H : Heap, H = s.heap := ⟨_, rfl⟩
  obtain ⟨locs, hlo⟩ : ∃ k : List Loc, k = [] := ⟨_, rfl⟩
  have hH : gH g I R J AI AJ AR H := by rw [hHe]; exact hH
  have hS : va_S (gA g) s.heap H locs := by rw [hHe, hlo]; exact hS
  suffices hw : W p l e rmJ1_indexOf_4cfeff s m ([.ref (gSV g i), .int (iI ch), .int (iI fr), .int (iI mx)] : List Value).toArray below meth c H locs 0 0 (MQ below (gQi g (fun (z : Int) (w : gS) => I = w.1 ∧ R = w.2.1 ∧ J = w.2.2.1 ∧ AI = w.2.2.2.1 ∧ AJ = w.2.2.2.2.1 ∧ AR = w.2.2.2.2.2 ∧ ((z = -1 ∧ ∀ j : Nat, (j : Int) < mx → (q.2.2.2.getD j 0).toInt ≠ ch) ∨ (0 ≤ z ∧ z < mx ∧ (q.2.2.2.getD z.toNat 0).toInt = ch)))) ([.ref (gSV g i), .int (iI ch), .int (iI fr), .int (iI mx)] : List Value).toArray s 0 0 (gA g)) (F0 m 0 ls []) by
    rw [hHe, hlo] at hw; exact hw
  clear hHe hlo
  have hlen := sTab_len hq
  have hby := sTab_by hq
  refine lv_iload_n F.1 F.2.1 dJ1_indexOf_4cfef_0 rfl (lv_at hl 1 rfl) ?_
  refine g_calli (g_runS (As := [.int (iI ch)]) (rest := []) F hl.1 hH hS hz (c_J1_canEncode_9a6adf l g  I R J AI AJ AR ch zch) (va_cwS 1 F.2.2.2.2.1 gJ1_indexOf_4cfef_J1_canEncode_9a6ad rfl rfl rfl hdJ1_canEncode_9a6ad.2 ⟨Nat.le_of_ble_eq_true rfl, Nat.le_of_ble_eq_true rfl⟩) rfl rfl (Nat.le_of_ble_eq_true rfl) dJ1_indexOf_4cfef_1 ⟨Nat.zero_le _, Nat.zero_le _⟩) hS (fun v_7 I_1 R_2 J_3 AI_4 AJ_5 AR_6 H locs zv_7 hp_8 hH hS => ?_)
  dsimp only at hp_8
  obtain ⟨rfl, rfl, rfl, rfl, rfl, rfl, q1⟩ := hp_8
  have q1b := q1.2 (by omega) (by omega)
  refine z_if_ne (tgt := 9) F dJ1_indexOf_4cfef_4 (by decide) zv_7 (fun c_9 => ?_) (fun c_9 => ?_)
  · refine lv_iload_n F.1 F.2.1 dJ1_indexOf_4cfef_9 rfl (lv_at hl 2 rfl) ?_
    refine z_iconst F dJ1_indexOf_4cfef_10 ?_
    refine z_mmax (rest := []) F hl.1 (List.mem_of_getElem? (i := 1) rfl) (List.mem_of_getElem? (i := 2) rfl) (List.mem_of_getElem? (i := 3) rfl) (List.mem_of_getElem? (i := 4) rfl) (Nat.le_of_ble_eq_true rfl) (Nat.le_of_ble_eq_true rfl) (Nat.zero_le _) (Nat.zero_le _) zfr ⟨by decide, by decide⟩ dJ1_indexOf_4cfef_11 (fun v_10 zv_10 qv_10 => ?_)
    refine lv_istore_n (lv' := [(2, .int (iI v_10)), (0, .ref (gSV g i)), (1, .int (iI ch)), (3, .int (iI mx))]) F.1 F.2.1 dJ1_indexOf_4cfef_14 rfl hl (by decide) rfl (fun ls hl => ?_)
    refine lv_iload_n F.1 F.2.1 dJ1_indexOf_4cfef_15 rfl (lv_at hl 3 rfl) ?_
    refine lv_aload_n F.1 F.2.1 dJ1_indexOf_4cfef_16 rfl (lv_at hl 1 rfl) ?_
    refine va_tlen F.1 F.2.1 (F.2.2.2.2.2.2.1 i _ hq).2.2.2.2 hS (v := iI ((q.2.2.2.length : Nat) : Int)) (Int32.ofInt_eq_ofNat).symm dJ1_indexOf_4cfef_17 ?_
    refine z_mmin (rest := []) F hl.1 (List.mem_of_getElem? (i := 5) rfl) (List.mem_of_getElem? (i := 6) rfl) (List.mem_of_getElem? (i := 3) rfl) (List.mem_of_getElem? (i := 7) rfl) (Nat.le_of_ble_eq_true rfl) (Nat.le_of_ble_eq_true rfl) (Nat.zero_le _) (Nat.zero_le _) zmx ⟨by omega, by omega⟩ dJ1_indexOf_4cfef_18 (fun v_11 zv_11 qv_11 => ?_)
    refine lv_istore_n (lv' := [(3, .int (iI v_11)), (2, .int (iI v_10)), (0, .ref (gSV g i)), (1, .int (iI ch))]) F.1 F.2.1 dJ1_indexOf_4cfef_21 rfl hl (by decide) rfl (fun ls hl => ?_)
    refine lv_iload_n F.1 F.2.1 dJ1_indexOf_4cfef_22 rfl (lv_at hl 1 rfl) ?_
    refine lv_iload_n F.1 F.2.1 dJ1_indexOf_4cfef_23 rfl (lv_at hl 0 rfl) ?_
    refine z_icmp_lt (tgt := 29) F dJ1_indexOf_4cfef_24 (by decide) zv_10 zv_11 (fun c_12 => ?_) (fun c_12 => ?_)
    · refine lv_aload_n F.1 F.2.1 dJ1_indexOf_4cfef_29 rfl (lv_at hl 2 rfl) ?_
      refine lv_iload_n F.1 F.2.1 dJ1_indexOf_4cfef_30 rfl (lv_at hl 3 rfl) ?_
      refine lv_iload_n F.1 F.2.1 dJ1_indexOf_4cfef_31 rfl (lv_at hl 1 rfl) ?_
      refine lv_iload_n F.1 F.2.1 dJ1_indexOf_4cfef_32 rfl (lv_at hl 0 rfl) ?_
      refine g_calli (g_runS (As := [.ref (gSV g i), .int (iI ch), .int (iI v_10), .int (iI v_11)]) (rest := []) F hl.1 hH hS hz (c_J1_indexOfChar_4cfeff l g i q I R J AI AJ AR ch v_10 v_11 zch zv_10 zv_11 hq (by omega) (by omega) (by omega)) (va_cwS 4 F.2.2.2.2.1 gJ1_indexOf_4cfef_J1_indexOfChar_4cfef rfl rfl rfl hdJ1_indexOfChar_4cfef.2 ⟨Nat.le_of_ble_eq_true rfl, Nat.le_of_ble_eq_true rfl⟩) rfl rfl (Nat.le_of_ble_eq_true rfl) dJ1_indexOf_4cfef_33 ⟨Nat.zero_le _, Nat.zero_le _⟩) hS (fun v_19 I_13 R_14 J_15 AI_16 AJ_17 AR_18 H locs zv_19 hp_20 hH hS => ?_)
      dsimp only at hp_20
      obtain ⟨rfl, rfl, rfl, rfl, rfl, rfl, q33⟩ := hp_20
      exact g_iret F hr hlk hH hS hz zv_19 ⟨rfl, rfl, rfl, rfl, rfl, rfl, ix_mx q33 (by omega)⟩ dJ1_indexOf_4cfef_36
    · refine z_iconst F dJ1_indexOf_4cfef_27 ?_
      exact g_iret F hr hlk hH hS hz ⟨by decide, by decide⟩ ⟨rfl, rfl, rfl, rfl, rfl, rfl, Or.inl ⟨rfl, fun k hk => absurd hk (by omega)⟩⟩ dJ1_indexOf_4cfef_28
  · refine z_iconst F dJ1_indexOf_4cfef_7 ?_
    exact g_iret F hr hlk hH hS hz ⟨by decide, by decide⟩ ⟨rfl, rfl, rfl, rfl, rfl, rfl, absurd trivial (by omega)⟩ dJ1_indexOf_4cfef_8

def rmJ0_indexOf_7cf53f : Room := { frames := 2, cells := 0, slots := 0, locals := 63 }
set_option maxHeartbeats 4000000 in
set_option maxRecDepth 100000 in
theorem c_J0_indexOf_7cf53f (l : Launch) (g : gG) (i : Nat) (q : String × Nat × String × List Int32) (I : gI) (R : gR) (J : gJ) (AI : gI) (AJ : gJ) (AR : gR) (ch : Int) (fr : Int) (zch : zr ch) (zfr : zr fr) (hq : sTab[i]? = some q) (hc : 0 ≤ ch ∧ ch ≤ 127) (h0 : fr = 0) : gMet l g yJ0_indexOf_7cf53 wsJ0_indexOf_7cf53 rmJ0_indexOf_7cf53f [.ref (gSK g i), .int (iI ch), .int (iI fr)] (I, R, J, AI, AJ, AR) (gQi g (fun (z : Int) (w : gS) => I = w.1 ∧ R = w.2.1 ∧ J = w.2.2.1 ∧ AI = w.2.2.2.1 ∧ AJ = w.2.2.2.2.1 ∧ AR = w.2.2.2.2.2 ∧ ((z = -1 ∧ ∀ j : Nat, (j : Int) < ((q.2.2.2.length : Nat) : Int) → (q.2.2.2.getD j 0).toInt ≠ ch) ∨ (0 ≤ z ∧ z < ((q.2.2.2.length : Nat) : Int) ∧ (q.2.2.2.getD z.toNat 0).toInt = ch)))) := by
  refine gStart (cc := cJ0_indexOf_7cf53) (maxL := 3) (ret := (some (.int))) (by decide) rfl (Nat.le_of_ble_eq_true rfl) ?_
  intro p e s m below meth c ls F hr hlk hH hz hS hl
  have hl : lv_has ls 3 [(0, .ref (gSK g i)), (1, .int (iI ch)), (2, .int (iI fr))] := hl
  have hS : va_S (gA g) s.heap s.heap [] := hS
  obtain ⟨H, hHe⟩ : ∃ H : Heap, H = s.heap := ⟨_, rfl⟩
  obtain ⟨locs, hlo⟩ : ∃ k : List Loc, k = [] := ⟨_, rfl⟩
  have hH : gH g I R J AI AJ AR H := by rw [hHe]; exact hH
  have hS : va_S (gA g) s.heap H locs := by rw [hHe, hlo]; exact hS
  suffices hw : W p l e rmJ0_indexOf_7cf53f s m ([.ref (gSK g i), .int (iI ch), .int (iI fr)] : List Value).toArray below meth c H locs 0 0 (MQ below (gQi g (fun (z : Int) (w : gS) => I = w.1 ∧ R = w.2.1 ∧ J = w.2.2.1 ∧ AI = w.2.2.2.1 ∧ AJ = w.2.2.2.2.1 ∧ AR = w.2.2.2.2.2 ∧ ((z = -1 ∧ ∀ j : Nat, (j : Int) < ((q.2.2.2.length : Nat) : Int) → (q.2.2.2.getD j 0).toInt ≠ ch) ∨ (0 ≤ z ∧ z < ((q.2.2.2.length : Nat) : Int) ∧ (q.2.2.2.getD z.toNat 0).toInt = ch)))) ([.ref (gSK g i), .int (iI ch), .int (iI fr)] : List Value).toArray s 0 0 (gA g)) (F0 m 0 ls []) by
    rw [hHe, hlo] at hw; exact hw
  clear hHe hlo
  have hlen := sTab_len hq
  have hby := sTab_by hq
  refine lv_aload_n F.1 F.2.1 dJ0_indexOf_7cf53_0 rfl (lv_at hl 0 rfl) ?_
  refine g_calli (g_runVS (As := []) (rest := []) F hl.1 hH hS hz hq (c_J0_isLatin1_aae02 l g i q I R J AI AJ AR  hq) (cwV 0 F.2.2.2.2.1 gJ0_indexOf_7cf53_J0_isLatin1_aae02 rfl rfl rfl hdJ0_isLatin1_aae02 ⟨Nat.le_of_ble_eq_true rfl, Nat.le_of_ble_eq_true rfl⟩) rfl rfl (Nat.le_of_ble_eq_true rfl) dJ0_indexOf_7cf53_1 ⟨Nat.zero_le _, Nat.zero_le _⟩) hS (fun v_7 I_1 R_2 J_3 AI_4 AJ_5 AR_6 H locs zv_7 hp_8 hH hS => ?_)
  dsimp only at hp_8
  obtain ⟨rfl, rfl, rfl, rfl, rfl, rfl, q_9⟩ := hp_8
  subst q_9
  refine z_if_eq (tgt := 23) F dJ0_indexOf_7cf53_4 (by decide) ⟨by decide, by decide⟩ (fun c_10 => ?_) (fun c_10 => ?_)
  · exact absurd trivial (by omega)
  · refine lv_aload_n F.1 F.2.1 dJ0_indexOf_7cf53_7 rfl (lv_at hl 0 rfl) ?_
    refine vk_getf F.1 F.2.1 (F.2.2.2.2.2.2.1 i _ hq).2.2.2.1 hS F.2.2.2.1 (F.2.2.2.2.1 _ (List.mem_of_getElem? (i := 1) rfl)) (fun _ h => h) dJ0_indexOf_7cf53_8 ?_
    refine lv_iload_n F.1 F.2.1 dJ0_indexOf_7cf53_11 rfl (lv_at hl 1 rfl) ?_
    refine lv_iload_n F.1 F.2.1 dJ0_indexOf_7cf53_12 rfl (lv_at hl 2 rfl) ?_
    refine lv_aload_n F.1 F.2.1 dJ0_indexOf_7cf53_13 rfl (lv_at hl 0 rfl) ?_
    refine g_calli (g_runVS (As := []) (rest := [.int (iI fr), .int (iI ch), .ref (gSV g i)]) F hl.1 hH hS hz hq (c_J0_length_8abf5 l g i q I R J AI AJ AR  hq) (cwV 0 F.2.2.2.2.1 gJ0_indexOf_7cf53_J0_length_8abf5 rfl rfl rfl hdJ0_length_8abf5 ⟨Nat.le_of_ble_eq_true rfl, Nat.le_of_ble_eq_true rfl⟩) rfl rfl (Nat.le_of_ble_eq_true rfl) dJ0_indexOf_7cf53_14 ⟨Nat.zero_le _, Nat.zero_le _⟩) hS (fun v_17 I_11 R_12 J_13 AI_14 AJ_15 AR_16 H locs zv_17 hp_18 hH hS => ?_)
    dsimp only at hp_18
    obtain ⟨rfl, rfl, rfl, rfl, rfl, rfl, q_19⟩ := hp_18
    refine g_calli (g_runS (As := [.ref (gSV g i), .int (iI ch), .int (iI fr), .int (iI v_17)]) (rest := []) F hl.1 hH hS hz (c_J1_indexOf_4cfeff l g i q I R J AI AJ AR ch fr v_17 zch zfr zv_17 hq (by omega) (by omega) (by omega)) (va_cwS 4 F.2.2.2.2.1 gJ0_indexOf_7cf53_J1_indexOf_4cfef rfl rfl rfl hdJ1_indexOf_4cfef.2 ⟨Nat.le_of_ble_eq_true rfl, Nat.le_of_ble_eq_true rfl⟩) rfl rfl (Nat.le_of_ble_eq_true rfl) dJ0_indexOf_7cf53_17 ⟨Nat.zero_le _, Nat.zero_le _⟩) hS (fun v_26 I_20 R_21 J_22 AI_23 AJ_24 AR_25 H locs zv_26 hp_27 hH hS => ?_)
    dsimp only at hp_27
    obtain ⟨rfl, rfl, rfl, rfl, rfl, rfl, q17⟩ := hp_27
    refine z_goto (tgt := 36) F dJ0_indexOf_7cf53_20 (by decide) ?_
    exact g_iret F hr hlk hH hS hz zv_26 ⟨rfl, rfl, rfl, rfl, rfl, rfl, ix_mx q17 (by omega)⟩ dJ0_indexOf_7cf53_36

def rmJ0_indexOf_0f7a4f : Room := { frames := 3, cells := 0, slots := 0, locals := 85 }
set_option maxHeartbeats 4000000 in
set_option maxRecDepth 100000 in
theorem c_J0_indexOf_0f7a4f (l : Launch) (g : gG) (i : Nat) (q : String × Nat × String × List Int32) (I : gI) (R : gR) (J : gJ) (AI : gI) (AJ : gJ) (AR : gR) (ch : Int) (zch : zr ch) (hq : sTab[i]? = some q) (hc : 0 ≤ ch ∧ ch ≤ 127) : gMet l g yJ0_indexOf_0f7a4 wsJ0_indexOf_0f7a4 rmJ0_indexOf_0f7a4f [.ref (gSK g i), .int (iI ch)] (I, R, J, AI, AJ, AR) (gQi g (fun (z : Int) (w : gS) => I = w.1 ∧ R = w.2.1 ∧ J = w.2.2.1 ∧ AI = w.2.2.2.1 ∧ AJ = w.2.2.2.2.1 ∧ AR = w.2.2.2.2.2 ∧ ((z = -1 ∧ ∀ j : Nat, (j : Int) < ((q.2.2.2.length : Nat) : Int) → (q.2.2.2.getD j 0).toInt ≠ ch) ∨ (0 ≤ z ∧ z < ((q.2.2.2.length : Nat) : Int) ∧ (q.2.2.2.getD z.toNat 0).toInt = ch)))) := by
  refine gStart (cc := cJ0_indexOf_0f7a4) (maxL := 2) (ret := (some (.int))) (by decide) rfl (Nat.le_of_ble_eq_true rfl) ?_
  intro p e s m below meth c ls F hr hlk hH hz hS hl
  have hl : lv_has ls 2 [(0, .ref (gSK g i)), (1, .int (iI ch))] := hl
  have hS : va_S (gA g) s.heap s.heap [] := hS
  obtain ⟨H, hHe⟩ : ∃ H : Heap, H = s.heap := ⟨_, rfl⟩
  obtain ⟨locs, hlo⟩ : ∃ k : List Loc, k = [] := ⟨_, rfl⟩
  have hH : gH g I R J AI AJ AR H := by rw [hHe]; exact hH
  have hS : va_S (gA g) s.heap H locs := by rw [hHe, hlo]; exact hS
  suffices hw : W p l e rmJ0_indexOf_0f7a4f s m ([.ref (gSK g i), .int (iI ch)] : List Value).toArray below meth c H locs 0 0 (MQ below (gQi g (fun (z : Int) (w : gS) => I = w.1 ∧ R = w.2.1 ∧ J = w.2.2.1 ∧ AI = w.2.2.2.1 ∧ AJ = w.2.2.2.2.1 ∧ AR = w.2.2.2.2.2 ∧ ((z = -1 ∧ ∀ j : Nat, (j : Int) < ((q.2.2.2.length : Nat) : Int) → (q.2.2.2.getD j 0).toInt ≠ ch) ∨ (0 ≤ z ∧ z < ((q.2.2.2.length : Nat) : Int) ∧ (q.2.2.2.getD z.toNat 0).toInt = ch)))) ([.ref (gSK g i), .int (iI ch)] : List Value).toArray s 0 0 (gA g)) (F0 m 0 ls []) by
    rw [hHe, hlo] at hw; exact hw
  clear hHe hlo
  have hlen := sTab_len hq
  have hby := sTab_by hq
  refine lv_aload_n F.1 F.2.1 dJ0_indexOf_0f7a4_0 rfl (lv_at hl 0 rfl) ?_
  refine lv_iload_n F.1 F.2.1 dJ0_indexOf_0f7a4_1 rfl (lv_at hl 1 rfl) ?_
  refine z_iconst F dJ0_indexOf_0f7a4_2 ?_
  refine g_calli (g_runVS (As := [.int (iI ch), .int (iI 0)]) (rest := []) F hl.1 hH hS hz hq (c_J0_indexOf_7cf53f l g i q I R J AI AJ AR ch 0 zch ⟨by decide, by decide⟩ hq (by omega) rfl) (cwV 2 F.2.2.2.2.1 gJ0_indexOf_0f7a4_J0_indexOf_7cf53 rfl rfl rfl hdJ0_indexOf_7cf53 ⟨Nat.le_of_ble_eq_true rfl, Nat.le_of_ble_eq_true rfl⟩) rfl rfl (Nat.le_of_ble_eq_true rfl) dJ0_indexOf_0f7a4_3 ⟨Nat.zero_le _, Nat.zero_le _⟩) hS (fun v_7 I_1 R_2 J_3 AI_4 AJ_5 AR_6 H locs zv_7 hp_8 hH hS => ?_)
  dsimp only at hp_8
  obtain ⟨rfl, rfl, rfl, rfl, rfl, rfl, qx⟩ := hp_8
  exact g_iret F hr hlk hH hS hz zv_7 ⟨rfl, rfl, rfl, rfl, rfl, rfl, qx⟩ dJ0_indexOf_0f7a4_6
end
section
/-! the tokens of a text, as both sides read them: b its bytes (from -128 to 127), n its length -/
abbrev tTx : Type := Nat → Int
abbrev tDg (c : Int) : Prop := 48 ≤ c ∧ c ≤ 57
abbrev tRu (c : Int) : Prop := (48 ≤ c ∧ c ≤ 57) ∨ (97 ≤ c ∧ c ≤ 122)
abbrev tBl (c : Int) : Prop := c = 32 ∨ c = 10
abbrev tSg (c : Int) : Prop := c = 61 ∨ c = 60 ∨ c = 62 ∨ c = 43 ∨ c = 45 ∨ c = 44 ∨ c = 59
def tSkF (b : tTx) : Nat → Nat → Nat
  | 0, k => k
  | f + 1, k => if tBl (b k) then tSkF b f (k + 1) else k
/-- the first place from k on that is no blank -/
def tSk (b : tTx) (n k : Nat) : Nat := tSkF b (n - k) k
def tRnF (b : tTx) : Nat → Nat → Nat
  | 0, k => k
  | f + 1, k => if tRu (b k) then tRnF b f (k + 1) else k
/-- the end of a run -/
def tRn (b : tTx) (n k : Nat) : Nat := tRnF b (n - k) k
theorem tSk_n {b : tTx} {n k : Nat} (h : n ≤ k) : tSk b n k = k := by unfold tSk; rw [show n - k = 0 by omega]; rfl
theorem tSk_b {b : tTx} {n k : Nat} (h : k < n) (hb : tBl (b k)) : tSk b n k = tSk b n (k + 1) := by
  unfold tSk; rw [show n - k = (n - (k + 1)) + 1 by omega, tSkF, if_pos hb]
theorem tSk_s {b : tTx} {n k : Nat} (h : k < n) (hb : ¬ tBl (b k)) : tSk b n k = k := by
  unfold tSk; rw [show n - k = (n - (k + 1)) + 1 by omega, tSkF, if_neg hb]
theorem tRn_n {b : tTx} {n k : Nat} (h : n ≤ k) : tRn b n k = k := by unfold tRn; rw [show n - k = 0 by omega]; rfl
theorem tRn_b {b : tTx} {n k : Nat} (h : k < n) (hb : tRu (b k)) : tRn b n k = tRn b n (k + 1) := by
  unfold tRn; rw [show n - k = (n - (k + 1)) + 1 by omega, tRnF, if_pos hb]
theorem tRn_s {b : tTx} {n k : Nat} (h : k < n) (hb : ¬ tRu (b k)) : tRn b n k = k := by
  unfold tRn; rw [show n - k = (n - (k + 1)) + 1 by omega, tRnF, if_neg hb]
theorem tRnF_le {b : tTx} : ∀ (f k : Nat), k ≤ tRnF b f k ∧ tRnF b f k ≤ k + f ∧ (∀ j, k ≤ j → j < tRnF b f k → tRu (b j)) ∧ (tRnF b f k < k + f → ¬ tRu (b (tRnF b f k)))
  | 0, k => ⟨Nat.le_refl _, Nat.le_refl _, fun j h1 h2 => absurd h2 (by show ¬ j < k; omega), fun h => absurd h (by show ¬ k < k + 0; omega)⟩
  | f + 1, k => by
    rw [tRnF]
    by_cases h : tRu (b k)
    · rw [if_pos h]
      obtain ⟨h1, h2, h3, h4⟩ := tRnF_le (b := b) f (k + 1)
      refine ⟨by omega, by omega, fun j hj hl => ?_, fun hl => h4 (by omega)⟩
      by_cases q : j = k
      · rw [q]; exact h
      · exact h3 j (by omega) hl
    · rw [if_neg h]
      exact ⟨Nat.le_refl _, by omega, fun j h1 h2 => absurd h2 (by omega), fun _ => h⟩
theorem tRn_le {b : tTx} {n k : Nat} (h : k ≤ n) : k ≤ tRn b n k ∧ tRn b n k ≤ n ∧ (∀ j, k ≤ j → j < tRn b n k → tRu (b j)) ∧ (tRn b n k < n → ¬ tRu (b (tRn b n k))) := by
  obtain ⟨h1, h2, h3, h4⟩ := tRnF_le (b := b) (n - k) k
  exact ⟨h1, by unfold tRn; omega, h3, fun q => h4 (by unfold tRn at q; omega)⟩
/-- where all to e are of the run, and e is none or the end -/
theorem tRn_at {b : tTx} {n : Nat} : ∀ {k e : Nat}, k ≤ e → e ≤ n → (∀ j, k ≤ j → j < e → tRu (b j)) → (e < n → ¬ tRu (b e)) → tRn b n k = e := by
  intro k e h1 h2 h3 h4
  obtain ⟨g1, g2, g3, g4⟩ := tRn_le (b := b) (n := n) (k := k) (by omega)
  rcases Nat.lt_trichotomy (tRn b n k) e with q | q | q
  · exact absurd (h3 _ g1 q) (g4 (by omega))
  · exact q
  · exact absurd (g3 e h1 q) (h4 (by omega))
theorem tSkF_le {b : tTx} : ∀ (f k : Nat), k ≤ tSkF b f k ∧ tSkF b f k ≤ k + f ∧ (tSkF b f k < k + f → ¬ tBl (b (tSkF b f k)))
  | 0, k => ⟨Nat.le_refl _, Nat.le_refl _, fun h => absurd h (by show ¬ k < k + 0; omega)⟩
  | f + 1, k => by
    rw [tSkF]
    by_cases h : tBl (b k)
    · rw [if_pos h]
      obtain ⟨h1, h2, h4⟩ := tSkF_le (b := b) f (k + 1)
      exact ⟨by omega, by omega, fun hl => h4 (by omega)⟩
    · rw [if_neg h]
      exact ⟨Nat.le_refl _, by omega, fun _ => h⟩
theorem tSk_le {b : tTx} {n k : Nat} (h : k ≤ n) : k ≤ tSk b n k ∧ tSk b n k ≤ n ∧ (tSk b n k < n → ¬ tBl (b (tSk b n k))) := by
  obtain ⟨h1, h2, h4⟩ := tSkF_le (b := b) (n - k) k
  exact ⟨h1, by unfold tSk; omega, fun q => h4 (by unfold tSk at q; omega)⟩
/-- the end of the token at k -/
def tNd (b : tTx) (n k : Nat) : Nat := if n ≤ k then n else if tRu (b k) then tRn b n k else k + 1
/-- where the tokens stand; behind the last one the end again and again -/
def tPs (b : tTx) (n : Nat) : Nat → Nat
  | 0 => tSk b n 0
  | j + 1 => tSk b n (tNd b n (tPs b n j))
theorem tNd_le {b : tTx} {n k : Nat} : tNd b n k ≤ n ∧ (k < n → k < tNd b n k) := by
  unfold tNd
  by_cases h : n ≤ k
  · rw [if_pos h]; exact ⟨Nat.le_refl _, fun q => absurd q (by omega)⟩
  · rw [if_neg h]
    by_cases q : tRu (b k)
    · rw [if_pos q]
      have g := tRn_le (b := b) (n := n) (k := k + 1) (by omega)
      rw [tRn_b (by omega) q]
      exact ⟨g.2.1, fun _ => by omega⟩
    · rw [if_neg q]; exact ⟨by omega, fun _ => by omega⟩
theorem tPs_le {b : tTx} {n : Nat} : ∀ j, tPs b n j ≤ n
  | 0 => (tSk_le (Nat.zero_le n)).2.1
  | j + 1 => (tSk_le tNd_le.1).2.1
/-- digits among the first m from k on; their number; the letters of a name as the class packs them, as the reference does -/
def tDc (b : tTx) (k : Nat) : Nat → Nat
  | 0 => 0
  | m + 1 => tDc b k m + (if tDg (b (k + m)) then 1 else 0)
def tNb (b : tTx) (k : Nat) : Nat → Int
  | 0 => 0
  | m + 1 => 10 * tNb b k m + b (k + m) - 48
def tNm (b : tTx) (k : Nat) : Nat → Int64
  | 0 => 0
  | m + 1 => (tNm b k m <<< ((iI 5).toInt64 &&& 63)) ||| (iI (b (k + m) - 97 + 1)).toInt64
theorem tDc_le {b : tTx} {k : Nat} : ∀ m, tDc b k m ≤ m
  | 0 => Nat.le_refl _
  | m + 1 => by
    have := tDc_le (b := b) (k := k) m
    rw [tDc]
    by_cases h : tDg (b (k + m))
    · rw [if_pos h]; omega
    · rw [if_neg h]; omega
theorem tDc_all {b : tTx} {k : Nat} : ∀ {m}, tDc b k m = m → ∀ j, j < m → tDg (b (k + j))
  | 0, _ => fun j hj => absurd hj (by omega)
  | m + 1, h => fun j hj => by
    have g := tDc_le (b := b) (k := k) m
    rw [tDc] at h
    by_cases q : tDg (b (k + m))
    · rw [if_pos q] at h
      by_cases qj : j = m
      · rw [qj]; exact q
      · exact tDc_all (m := m) (by omega) j (by omega)
    · rw [if_neg q] at h; omega
theorem tDc_none {b : tTx} {k : Nat} : ∀ {m}, tDc b k m = 0 → ∀ j, j < m → ¬ tDg (b (k + j))
  | 0, _ => fun j hj => absurd hj (by omega)
  | m + 1, h => fun j hj => by
    rw [tDc] at h
    by_cases q : tDg (b (k + m))
    · rw [if_pos q] at h; omega
    · rw [if_neg q] at h
      by_cases qj : j = m
      · rw [qj]; exact q
      · exact tDc_none (m := m) (by omega) j (by omega)
theorem tNb_le {b : tTx} {k : Nat} : ∀ {m}, (∀ j, j < m → tDg (b (k + j))) → 0 ≤ tNb b k m ∧ tNb b k m ≤ 10 ^ m - 1
  | 0, _ => by show (0 : Int) ≤ 0 ∧ (0 : Int) ≤ 10 ^ 0 - 1; decide
  | m + 1, h => by
    have g := tNb_le (b := b) (k := k) (m := m) (fun j hj => h j (by omega))
    have q := h m (by omega)
    rw [tNb, Int.pow_succ]
    omega
/-- the words of the language: their lengths and letters; the number of the word that stands at k, m letters long -/
def wTab : List (Nat × Nat) := [(0, 5), (6, 6), (13, 7), (21, 4), (26, 5), (32, 5), (38, 8), (47, 5), (53, 4), (58, 4), (63, 5), (69, 3), (73, 2), (76, 2), (79, 4), (84, 4), (89, 5), (95, 3), (99, 5), (105, 4)]
def wBy : List Int32 := [116, 97, 98, 108, 101, 32, 115, 101, 108, 101, 99, 116, 32, 112, 114, 111, 106, 101, 99, 116, 32, 106, 111, 105, 110, 32, 117, 110, 105, 111, 110, 32, 109, 105, 110, 117, 115, 32, 100, 105, 115, 116, 105, 110, 99, 116, 32, 103, 114, 111, 117, 112, 32, 114, 105, 110, 103, 32, 118, 105, 101, 119, 32, 119, 104, 101, 114, 101, 32, 97, 110, 100, 32, 111, 110, 32, 98, 121, 32, 119, 105, 116, 104, 32, 107, 101, 101, 112, 32, 99, 111, 117, 110, 116, 32, 115, 117, 109, 32, 108, 101, 97, 115, 116, 32, 109, 111, 115, 116, 32]
def wSt (w : Nat) : Nat := (wTab.getD w (110, 0)).1
def wLn (w : Nat) : Nat := (wTab.getD w (110, 0)).2
def wCh (j : Nat) : Int := (wBy.getD j 0).toInt
abbrev tWa (b : tTx) (k m w : Nat) : Prop := wLn w = m ∧ ∀ j, j < m → wCh (wSt w + j) = b (k + j)
def tWf (b : tTx) (k m : Nat) : Nat → Nat → Int
  | 0, _ => -1
  | f + 1, w => if tWa b k m w then (w : Int) else tWf b k m f (w + 1)
def tWn (b : tTx) (k m : Nat) : Int := tWf b k m 20 0
theorem tWf_at {b : tTx} {k m : Nat} : ∀ (f w v : Nat), w ≤ v → v < w + f → tWa b k m v → (∀ u, w ≤ u → u < v → ¬ tWa b k m u) → tWf b k m f w = (v : Int)
  | 0, w, v, h1, h2, _, _ => absurd h2 (by omega)
  | f + 1, w, v, h1, h2, h3, h4 => by
    rw [tWf]
    by_cases q : w = v
    · rw [q, if_pos h3]
    · rw [if_neg (h4 w (Nat.le_refl _) (by omega))]
      exact tWf_at f (w + 1) v (by omega) (by omega) h3 (fun u hu => h4 u (by omega))
theorem tWf_no {b : tTx} {k m : Nat} : ∀ (f w : Nat), (∀ u, w ≤ u → u < w + f → ¬ tWa b k m u) → tWf b k m f w = -1
  | 0, _, _ => rfl
  | f + 1, w, h => by
    rw [tWf, if_neg (h w (Nat.le_refl _) (by omega))]
    exact tWf_no f (w + 1) (fun u hu hl => h u (by omega) (by omega))
theorem tWn_at {b : tTx} {k m v : Nat} (hv : v < 20) (h : tWa b k m v) (hn : ∀ u, u < v → ¬ tWa b k m u) : tWn b k m = (v : Int) := tWf_at 20 0 v (Nat.zero_le _) (by omega) h (fun u _ hu => hn u hu)
theorem tWn_no {b : tTx} {k m : Nat} (hn : ∀ u, u < 20 → ¬ tWa b k m u) : tWn b k m = -1 := tWf_no 20 0 (fun u _ hu => hn u (by omega))
/-- kind (0 the end, 1 bad, 2 a column, 3 a word, 4 a number, else the sign), value and name of the token at k -/
def tKr (b : tTx) (k m : Nat) : Int := if tDc b k m = 0 ∧ m ≤ 8 then 3 else if tDc b k m = m ∧ m ≤ 4 then 4 else if m = 2 ∧ b k = 99 ∧ 48 ≤ b (k + 1) ∧ b (k + 1) ≤ 51 then 2 else 1
def tKd (b : tTx) (n k : Nat) : Int := if n ≤ k then 0 else if tRu (b k) then tKr b k (tRn b n k - k) else if tSg (b k) then b k else 1
def tVr (b : tTx) (k m : Nat) : Int := if tKr b k m = 3 then tWn b k m else if tKr b k m = 4 then tNb b k m else if tKr b k m = 2 then b (k + 1) - 48 else 0
def tVl (b : tTx) (n k : Nat) : Int := if n ≤ k then 0 else if tRu (b k) then tVr b k (tRn b n k - k) else 0
def tNa (b : tTx) (n k : Nat) : Int64 := if n ≤ k then 0 else if tRu (b k) then (if tKr b k (tRn b n k - k) = 3 then tNm b k (tRn b n k - k) else 0) else 0
/-- the class's rows of tokens hold the token at place k as the j-th -/
def tAt (gh : gGh) (AI : gI) (AJ : gJ) (j : Nat) (kd pl vl : Int) (nm : Int64) : Prop := (AI (gh 24 0) j).toInt = kd ∧ (AI (gh 25 0) j).toInt = pl ∧ (AI (gh 26 0) j).toInt = vl ∧ AJ (gh 27 0) j = nm
def tOk (gh : gGh) (AI : gI) (AJ : gJ) (b : tTx) (n j : Nat) : Prop := tAt gh AI AJ j (tKd b n (tPs b n j)) (tPs b n j : Int) (tVl b n (tPs b n j)) (tNa b n (tPs b n j))
end
