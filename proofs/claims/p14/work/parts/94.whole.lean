set_option maxHeartbeats 4000000 in
set_option maxRecDepth 100000 in
theorem whole_start {p : Program} {e : Env} {s : State} {m : MethodId} {below : List Frame} {meth : Method} {c : Code} (l : Launch) (hflags : l.flags = flags0) {b L : Nat} {xs : Nat → Int32} (hL : L ≤ 3584) (C0 : lw_At p s m meth c b L xs) : W p l e room_1 s m #[Value.ref b] below meth c s.heap [] 0 0 (lw_Z below #[Value.ref b] s) (entryFrame m ([Value.ref b] : List Value).toArray 7) := by
  obtain ⟨hx, hb, hr, hml, hown, hts, hX, hbl, hlocks, hgv⟩ := C0
  have hA : ∀ a : Nat, a < s.heap.size → ¬ (fun q : Nat => s.heap.size ≤ q) a := fun a ha => Nat.not_le.mpr ha
  obtain ⟨D, Y, hK⟩ := l_known hts
  obtain ⟨SK, SV, hSt⟩ := l_str hgv hts hA
  obtain ⟨z1, z2, z3, z4⟩ := l_stat hgv hts hA
  obtain ⟨g, hg⟩ : ∃ g : gG, g = ((D, Y), (fun a => kT (a - s.heap.size), fun a => nT (a - s.heap.size)), ([], s.heap.size), (zA, zA), (SK, SV)) := ⟨_, rfl⟩
  have hZ : gZ g = s.heap.size := by rw [hg]
  have hOK : gOK g := by
    intro o ho
    rw [hg]
    exact ⟨congrArg kT (Nat.add_sub_cancel_left _ _), congrArg nT (Nat.add_sub_cancel_left _ _)⟩
  have hFg : gFix g p c cL_law 7 s #[Value.ref b] TB RL m := by
    rw [hg]
    exact ⟨hx, hb, hml, hown, fun w hw => hts w (List.mem_filter.mp hw).1, hK, hSt, z1, z2⟩
  have hTg : gThr g s := by
    rw [hg]
    exact ⟨z3, z4, fun w hw => dc_mv (List.all_eq_true.mp xB_dc w hw) (Vm.Alike.refl _) (hts w (nsT2 w hw))⟩
  have hNst : cNst s := l_nst hts
  have hst : l.stackTraces = false := by
    unfold Launch.stackTraces
    rw [hflags]
    decide +kernel
  have C : lF p l s m c g b L xs := ⟨fun M => hFg, fun M => hTg, hOK, hZ, hX, hbl, hL, hst⟩
  have hS : va_S (gA g) s.heap s.heap [] := va_S.rf
  have hH : cH g 0 0 s.heap := ⟨⟨fun k q h => (by have h : ([] : List (Nat × va_E))[k]? = some q := h; simp at h), fun i j p q h => (by have h : ([] : List (Nat × va_E))[i]? = some p := h; simp at h), fun k q h => (by have h : ([] : List (Nat × va_E))[k]? = some q := h; simp at h)⟩, by omega⟩
  have hl := lv_entry ([.ref b]) (n := 7) (Nat.le_of_ble_eq_true rfl)
  rw [lg_entry_eq]
  generalize (lg_sl ([.ref b]) ++ List.replicate (7 - (lg_sl ([.ref b])).length) Slot.unset).toArray = ls at hl ⊢
  have hl : lv_has ls 7 [(0, .ref b)] := hl
  have F := hFg
  have hcnt : s.heap.size + 0 = gZ g + 0 := by omega
  refine c_new (ci := 6) F hH hS hcnt rfl (by decide) inTB6 tyX6 tyX6_ok df6 (kK hOK (by decide) (by decide +kernel)) (cfr_of (by decide +kernel)) (TBm (tk1 (List.mem_of_getElem? (i := 20) rfl)) rfl) (TBm (tk1 (List.mem_of_getElem? (i := 21) rfl)) rfl) (TBm (tk1 (List.mem_of_getElem? (i := 1) rfl)) rfl) (Nat.le_of_ble_eq_true rfl) (Nat.le_of_ble_eq_true rfl) dL_law_0 (fun H hH hS => ?_)
  have hH : cH g 0 1 H := hH
  have hcnt : s.heap.size + 1 = gZ g + 1 := by omega
  refine lv_dup F.1 F.2.1 dL_law_3 rfl ?_
  refine c_callI (As := []) (rest := [.ref (gZ g + 0)]) (mc := 204) (ms := 57048) F hNst hl.1 hH hS hcnt (mk_X6_init l g hOK) (cwI 0 F.2.2.2.2.1 gTB_L_X6_init rfl rfl rfl (F.2.2.2.2.1 _ (TBm (tk1 (List.mem_of_getElem? (i := 1) rfl)) rfl)) (F.2.2.2.2.1 _ (TBm (tk1 (List.mem_of_getElem? (i := 22) rfl)) rfl)) (F.2.2.2.2.1 _ (TBm (tk1 (List.mem_of_getElem? (i := 23) rfl)) rfl)) rfl hdX6_init ⟨Nat.le_of_ble_eq_true rfl, Nat.le_of_ble_eq_true rfl⟩) rfl rfl (Nat.le_of_ble_eq_true rfl) dL_law_4 ⟨Nat.le_of_ble_eq_true rfl, Nat.le_of_ble_eq_true rfl⟩ (fun H locs hH hS => ?_)
  have hH : cH g 325 205 H := hH
  have hcnt : s.heap.size + 205 = gZ g + 205 := by omega
  refine W.widen (k := 205) (n := 57066) (Nat.le_of_ble_eq_true rfl) (Nat.le_of_ble_eq_true rfl) ?_
  refine lv_astore_n (lv' := [(1, .ref (gZ g + 0)), (0, .ref b)]) F.1 F.2.1 dL_law_7 rfl hl (by decide) rfl (fun ls hl => ?_)
  refine c_new (ci := 7) F hH hS hcnt rfl (by decide) inTB7 tyX7 tyX7_ok df7 (kK hOK (by decide) (by decide +kernel)) (cfr_of (by decide +kernel)) (TBm (tk5 (List.mem_of_getElem? (i := 27) rfl)) rfl) (TBm (tk5 (List.mem_of_getElem? (i := 28) rfl)) rfl) (TBm (tk1 (List.mem_of_getElem? (i := 8) rfl)) rfl) (Nat.le_of_ble_eq_true rfl) (Nat.le_of_ble_eq_true rfl) dL_law_8 (fun H hH hS => ?_)
  have hH : cH g 325 206 H := hH
  have hcnt : s.heap.size + 206 = gZ g + 206 := by omega
  refine lv_dup F.1 F.2.1 dL_law_11 rfl ?_
  refine c_callI (As := []) (rest := [.ref (gZ g + 205)]) (mc := 16) (ms := 140978) F hNst hl.1 hH hS hcnt (mk_X7_init l g hOK) (cwI 0 F.2.2.2.2.1 gTB_L_X7_init rfl rfl rfl (F.2.2.2.2.1 _ (TBm (tk1 (List.mem_of_getElem? (i := 8) rfl)) rfl)) (F.2.2.2.2.1 _ (TBm (tk5 (List.mem_of_getElem? (i := 29) rfl)) rfl)) (F.2.2.2.2.1 _ (TBm (tk5 (List.mem_of_getElem? (i := 30) rfl)) rfl)) rfl hdX7_init ⟨Nat.le_of_ble_eq_true rfl, Nat.le_of_ble_eq_true rfl⟩) rfl rfl (Nat.le_of_ble_eq_true rfl) dL_law_12 ⟨Nat.le_of_ble_eq_true rfl, Nat.le_of_ble_eq_true rfl⟩ (fun H locs hH hS => ?_)
  have hH : cH g 341 222 H := hH
  have hcnt : s.heap.size + 222 = gZ g + 222 := by omega
  refine W.widen (k := 222) (n := 198076) (Nat.le_of_ble_eq_true rfl) (Nat.le_of_ble_eq_true rfl) ?_
  refine lv_astore_n (lv' := [(2, .ref (gZ g + 205)), (1, .ref (gZ g + 0)), (0, .ref b)]) F.1 F.2.1 dL_law_15 rfl hl (by decide) rfl (fun ls hl => ?_)
  refine z_iconst F dL_law_16 ?_
  refine c_newA (ty := .long) (ck := 10) (i := 2) (N := 1) F hH hS hcnt rfl rfl (fun _ h => h) (fun _ => nc10) (by decide) (TBm (tk1 (List.mem_of_getElem? (i := 63) rfl)) rfl) (by decide) (by first | rfl | omega) (by omega) (by show _ * 8 ≤ _; omega) (Nat.le_of_ble_eq_true rfl) (Nat.le_of_ble_eq_true rfl) (kK hOK (by decide) (by decide +kernel)) (kN hOK (by decide) (by decide +kernel)) (cfr_of (by decide +kernel)) dL_law_17 (fun H hH hS => ?_)
  have hH : cH g 341 223 H := hH
  refine lv_astore_n (lv' := [(3, .ref (gZ g + 222)), (2, .ref (gZ g + 205)), (1, .ref (gZ g + 0)), (0, .ref b)]) F.1 F.2.1 dL_law_19 rfl hl (by decide) rfl (fun ls hl => ?_)
  refine z_iconst F dL_law_20 ?_
  refine lv_istore (lv' := [(4, .int (iI 0)), (3, .ref (gZ g + 222)), (2, .ref (gZ g + 205)), (1, .ref (gZ g + 0)), (0, .ref b)]) F.1 F.2.1 dL_law_21 hl (by decide) rfl (fun ls hl => ?_)
  refine l_loop C hr hlocks 600 0 0 223 198077 (by omega) (by omega) (by omega) (by omega) (by omega) (wI g 341) (wR g 341) zJ zA zJ (wA g 341) H _ ls ⟨s_inv hOK, s_minv hOK, gZ g + 42, gZ g + 8, gZ g + 80, gZ g + 113, s_xS hOK, wR_at (o := 2) (k := 1) (q := 8) (by decide +kernel), by omega, ⟨?_, fun k hk => ?_, fun k => ?_⟩, bEq_0 ?_ ?_, ⟨0, 0, fun _ => 0, ?_, ⟨Int.le_refl 0, Int.le_refl 0⟩, ⟨Nat.zero_le _, ?_⟩, fun r hr => absurd hr (by omega), fun r hr => absurd hr (Nat.not_lt_zero r)⟩, s_E8⟩ hH.1 hS (lv_sub hl [0, 4, 3, 2, 1] rfl)
  · rw [wI_0 (o := 0) (k := 1) (by decide +kernel), wI_0 (o := 205) (k := 16) (by decide +kernel)]
  · rw [wI_0 (o := 0) (k := 1) (by decide +kernel)] at hk
    have hk : (k : Int) < 0 := hk
    omega
  · show -128 ≤ (0 : Int32).toInt ∧ (0 : Int32).toInt ≤ 127
    decide
  · rw [wI_0 (o := 179) (k := 3) (by decide +kernel)]; rfl
  · rw [wI_0 (o := 205) (k := 14) (by decide +kernel)]; rfl
  · rw [wI_0 (o := 42) (k := 2) (by decide +kernel)]; rfl
  · rw [wI_0 (o := 205) (k := 2) (by decide +kernel)]; rfl
