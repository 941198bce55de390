/-! the law's loop -/
set_option maxHeartbeats 4000000 in
set_option maxRecDepth 100000 in
theorem l_step {p : Program} {l : Launch} {e : Env} {s : State} {m : MethodId} {below : List Frame} {meth : Method} {c : Code} {g : gG} {b L : Nat} {xs : Nat → Int32} {i : Int} {cells slots : Nat} (C : lF p l s m c g b L xs) (hi0 : 0 ≤ i) (hi7 : i + 7 ≤ (L : Int)) (hcs : cells + 1 ≤ 601024 ∧ slots + 6 ≤ 7293034) (K : lK p l e s m below meth c g b i cells slots)
    {I : gI} {R : gR} {J : gJ} {AI : gI} {AJ : gJ} {AR : gR} {H : Heap} {locs : List Loc} {ls : Array Slot} (hI : lInv g I R AI AR) (hH : gH (gW g (I, AI)) I R J AI AJ AR H) (hS : va_S (gA g) s.heap H locs) (hl : lv_has ls 7 (lV g b i)) (v : Int32) :
    W p l e room_1 s m #[Value.ref b] below meth c H locs cells slots (lw_Z below #[Value.ref b] s) (F0 m 40 ls [.int v]) := by
  have F := C.1 (I, AI)
  have hv : v.toInt < 0 ∨ 21 < v.toInt ∨ v.toInt = 0 ∨ v.toInt = 1 ∨ v.toInt = 2 ∨ v.toInt = 3 ∨ v.toInt = 4 ∨ v.toInt = 5 ∨ v.toInt = 6 ∨ v.toInt = 7 ∨ v.toInt = 8 ∨ v.toInt = 9 ∨ v.toInt = 10 ∨ v.toInt = 11 ∨ v.toInt = 12 ∨ v.toInt = 13 ∨ v.toInt = 14 ∨ v.toInt = 15 ∨ v.toInt = 16 ∨ v.toInt = 17 ∨ v.toInt = 18 ∨ v.toInt = 19 ∨ v.toInt = 20 ∨ v.toInt = 21 := by omega
  rcases hv with hv | hv | hv | hv | hv | hv | hv | hv | hv | hv | hv | hv | hv | hv | hv | hv | hv | hv | hv | hv | hv | hv | hv | hv
  · exact lv_tableOut (tgt := 1068) F.1 F.2.1 dL_law_40 (Or.inl hv) (by decide) (W.widen (Nat.le_add_right _ _) (Nat.le_add_right _ _) (K I R J AI AJ AR H locs ls hI hH hS hl))
  · exact lv_tableOut (tgt := 1068) F.1 F.2.1 dL_law_40 (Or.inr hv) (by decide) (W.widen (Nat.le_add_right _ _) (Nat.le_add_right _ _) (K I R J AI AJ AR H locs ls hI hH hS hl))
  · exact lv_tableIn (off := 104) (tgt := 144) F.1 F.2.1 dL_law_40 (by omega) (by omega) (by rw [hv]; rfl) (by decide) (lc_0 C hi0 hi7 hcs K hI hH hS hl)
  · exact lv_tableIn (off := 251) (tgt := 291) F.1 F.2.1 dL_law_40 (by omega) (by omega) (by rw [hv]; rfl) (by decide) (lc_1 C hi0 hi7 hcs K hI hH hS hl)
  · exact lv_tableIn (off := 276) (tgt := 316) F.1 F.2.1 dL_law_40 (by omega) (by omega) (by rw [hv]; rfl) (by decide) (lc_2 C hi0 hi7 hcs K hI hH hS hl)
  · exact lv_tableIn (off := 289) (tgt := 329) F.1 F.2.1 dL_law_40 (by omega) (by omega) (by rw [hv]; rfl) (by decide) (lc_3 C hi0 hi7 hcs K hI hH hS hl)
  · exact lv_tableIn (off := 376) (tgt := 416) F.1 F.2.1 dL_law_40 (by omega) (by omega) (by rw [hv]; rfl) (by decide) (lc_4 C hi0 hi7 hcs K hI hH hS hl)
  · exact lv_tableIn (off := 416) (tgt := 456) F.1 F.2.1 dL_law_40 (by omega) (by omega) (by rw [hv]; rfl) (by decide) (lc_5 C hi0 hi7 hcs K hI hH hS hl)
  · exact lv_tableIn (off := 429) (tgt := 469) F.1 F.2.1 dL_law_40 (by omega) (by omega) (by rw [hv]; rfl) (by decide) (lc_6 C hi0 hi7 hcs K hI hH hS hl)
  · exact lv_tableIn (off := 442) (tgt := 482) F.1 F.2.1 dL_law_40 (by omega) (by omega) (by rw [hv]; rfl) (by decide) (lc_7 C hi0 hi7 hcs K hI hH hS hl)
  · exact lv_tableIn (off := 467) (tgt := 507) F.1 F.2.1 dL_law_40 (by omega) (by omega) (by rw [hv]; rfl) (by decide) (lc_8 C hi0 hi7 hcs K hI hH hS hl)
  · exact lv_tableIn (off := 480) (tgt := 520) F.1 F.2.1 dL_law_40 (by omega) (by omega) (by rw [hv]; rfl) (by decide) (lc_9 C hi0 hi7 hcs K hI hH hS hl)
  · exact lv_tableIn (off := 505) (tgt := 545) F.1 F.2.1 dL_law_40 (by omega) (by omega) (by rw [hv]; rfl) (by decide) (lc_10 C hi0 hi7 hcs K hI hH hS hl)
  · exact lv_tableIn (off := 557) (tgt := 597) F.1 F.2.1 dL_law_40 (by omega) (by omega) (by rw [hv]; rfl) (by decide) (lc_11 C hi0 hi7 hcs K hI hH hS hl)
  · exact lv_tableIn (off := 633) (tgt := 673) F.1 F.2.1 dL_law_40 (by omega) (by omega) (by rw [hv]; rfl) (by decide) (lc_12 C hi0 hi7 hcs K hI hH hS hl)
  · exact lv_tableIn (off := 689) (tgt := 729) F.1 F.2.1 dL_law_40 (by omega) (by omega) (by rw [hv]; rfl) (by decide) (lc_13 C hi0 hi7 hcs K hI hH hS hl)
  · exact lv_tableIn (off := 714) (tgt := 754) F.1 F.2.1 dL_law_40 (by omega) (by omega) (by rw [hv]; rfl) (by decide) (lc_14 C hi0 hi7 hcs K hI hH hS hl)
  · exact lv_tableIn (off := 766) (tgt := 806) F.1 F.2.1 dL_law_40 (by omega) (by omega) (by rw [hv]; rfl) (by decide) (lc_15 C hi0 hi7 hcs K hI hH hS hl)
  · exact lv_tableIn (off := 791) (tgt := 831) F.1 F.2.1 dL_law_40 (by omega) (by omega) (by rw [hv]; rfl) (by decide) (lc_16 C hi0 hi7 hcs K hI hH hS hl)
  · exact lv_tableIn (off := 864) (tgt := 904) F.1 F.2.1 dL_law_40 (by omega) (by omega) (by rw [hv]; rfl) (by decide) (lc_17 C hi0 hi7 hcs K hI hH hS hl)
  · exact lv_tableIn (off := 889) (tgt := 929) F.1 F.2.1 dL_law_40 (by omega) (by omega) (by rw [hv]; rfl) (by decide) (lc_18 C hi0 hi7 hcs K hI hH hS hl)
  · exact lv_tableIn (off := 914) (tgt := 954) F.1 F.2.1 dL_law_40 (by omega) (by omega) (by rw [hv]; rfl) (by decide) (lc_19 C hi0 hi7 hcs K hI hH hS hl)
  · exact lv_tableIn (off := 951) (tgt := 991) F.1 F.2.1 dL_law_40 (by omega) (by omega) (by rw [hv]; rfl) (by decide) (lc_20 C hi0 hi7 hcs K hI hH hS hl)
  · exact lv_tableIn (off := 1003) (tgt := 1043) F.1 F.2.1 dL_law_40 (by omega) (by omega) (by rw [hv]; rfl) (by decide) (lc_21 C hi0 hi7 hcs K hI hH hS hl)
set_option maxHeartbeats 4000000 in
set_option maxRecDepth 100000 in
theorem l_loop {p : Program} {l : Launch} {e : Env} {s : State} {m : MethodId} {below : List Frame} {meth : Method} {c : Code} {g : gG} {b L : Nat} {xs : Nat → Int32} (C : lF p l s m c g b L xs) (hr : meth.sig.returnType = ret) (hlk : meth.locks = false) :
    ∀ (n k : Nat) (i : Int) (cells slots : Nat), i = 7 * (k : Int) → (L : Int) ≤ i + 7 * (n : Int) → k ≤ 600 → cells ≤ 223 + k → slots ≤ 198077 + 6 * k →
    ∀ (I : gI) (R : gR) (J : gJ) (AI : gI) (AJ : gJ) (AR : gR) (H : Heap) (locs : List Loc) (ls : Array Slot), lInv g I R AI AR → gH (gW g (I, AI)) I R J AI AJ AR H → va_S (gA g) s.heap H locs → lv_has ls 7 (lV g b i) →
      W p l e room_1 s m #[Value.ref b] below meth c H locs cells slots (lw_Z below #[Value.ref b] s) (F0 m 23 ls []) := by
  obtain ⟨Fa, Ta, hOK, hZ, hX, hbl, hL, hst⟩ := id C
  intro n
  induction n with
  | zero =>
    intro k i cells slots hi hn hk hc hs I R J AI AJ AR H locs ls hI hH hS hl
    have F := Fa (I, AI)
    refine lv_iload F.1 F.2.1 dL_law_23 (lv_at hl 0 rfl) ?_
    refine lv_aload_n F.1 F.2.1 dL_law_25 rfl (lv_at hl 1 rfl) ?_
    refine va_slen (A := gA g) F.1 F.2.1 hX hbl (fun h => by have h : gZ g ≤ b := h; omega) hS dL_law_26 ?_
    rw [show Int32.ofNat L = iI (L : Int) from Int32.ofInt_eq_ofNat.symm]
    refine z_bipush F dL_law_27 (by decide) ?_
    refine z_isub F dL_law_29 ?_
    refine z_icmp_gt (tgt := 1074) F dL_law_30 (by decide) ⟨by omega, by omega⟩ ⟨by omega, by omega⟩ (fun h => ?_) (fun h => False.elim (by omega))
    refine lv_iconst (v := 1) F.1 F.2.1 dL_law_1074 (by decide) ?_
    refine va_forget (fun q hq => ?_) (W.widen (by omega) (by omega) (lw_ret F.1 F.2.1 hr hlk dL_law_1075))
    have h9 : gZ g ≤ q.base := hS.2.2 q hq
    omega
  | succ n ih =>
    intro k i cells slots hi hn hk hc hs I R J AI AJ AR H locs ls hI hH hS hl
    have F := Fa (I, AI)
    refine lv_iload F.1 F.2.1 dL_law_23 (lv_at hl 0 rfl) ?_
    refine lv_aload_n F.1 F.2.1 dL_law_25 rfl (lv_at hl 1 rfl) ?_
    refine va_slen (A := gA g) F.1 F.2.1 hX hbl (fun h => by have h : gZ g ≤ b := h; omega) hS dL_law_26 ?_
    rw [show Int32.ofNat L = iI (L : Int) from Int32.ofInt_eq_ofNat.symm]
    refine z_bipush F dL_law_27 (by decide) ?_
    refine z_isub F dL_law_29 ?_
    refine z_icmp_gt (tgt := 1074) F dL_law_30 (by decide) ⟨by omega, by omega⟩ ⟨by omega, by omega⟩ (fun h => ?_) (fun h => ?_)
    · refine lv_iconst (v := 1) F.1 F.2.1 dL_law_1074 (by decide) ?_
      refine va_forget (fun q hq => ?_) (W.widen (by omega) (by omega) (lw_ret F.1 F.2.1 hr hlk dL_law_1075))
      have h9 : gZ g ≤ q.base := hS.2.2 q hq
      omega
    · obtain ⟨a0, za0, ha0⟩ := l_val xs i.toNat
      refine lv_aload_n F.1 F.2.1 dL_law_33 rfl (lv_at hl 1 rfl) ?_
      refine lv_iload F.1 F.2.1 dL_law_34 (lv_at hl 0 rfl) ?_
      refine l_sld F.1 F.2.1 hX hbl hZ hS (z := i) (by omega) (by omega) (by omega) ha0 dL_law_36 ?_
      refine z_bipush F dL_law_37 (by decide) ?_
      refine lv_iand F.1 F.2.1 dL_law_39 ?_
      refine l_step C (by omega) (by omega) ⟨by omega, by omega⟩ (fun I R J AI AJ AR H locs ls hI hH hS hl => ?_) hI hH hS hl _
      have F := Fa (I, AI)
      refine z_iinc (k := 0) (x := i) (lv' := lV g b (i + 7)) F dL_law_1068 hl rfl (by decide) rfl (fun ls hl => ?_)
      refine z_goto (tgt := 23) F dL_law_1071 (by decide) ?_
      exact ih (k + 1) (i + 7) (cells + 1) (slots + 6) (by omega) (by omega) (by omega) (by omega) (by omega) I R J AI AJ AR H locs ls hI hH hS hl
