theorem hdX1_ringIsUnlike : yX1_ringIsUnlike.cls = RX1 ∧ yX1_ringIsUnlike.cls ≠ "java/lang/invoke/MethodHandle" ∧ yX1_ringIsUnlike.cls ≠ "java/lang/invoke/VarHandle" ∧ (parseMethodDescriptor yX1_ringIsUnlike.desc).map (fun d => d.parameters.length) = some 0 := by decide +kernel
theorem hdX1_readClose : yX1_readClose.cls = RX1 ∧ yX1_readClose.cls ≠ "java/lang/invoke/MethodHandle" ∧ yX1_readClose.cls ≠ "java/lang/invoke/VarHandle" ∧ (parseMethodDescriptor yX1_readClose.desc).map (fun d => d.parameters.length) = some 0 := by decide +kernel
theorem hdX1_readBody : yX1_readBody.cls = RX1 ∧ yX1_readBody.cls ≠ "java/lang/invoke/MethodHandle" ∧ yX1_readBody.cls ≠ "java/lang/invoke/VarHandle" ∧ (parseMethodDescriptor yX1_readBody.desc).map (fun d => d.parameters.length) = some 0 := by decide +kernel
theorem hdX1_readNewName : yX1_readNewName.cls = RX1 ∧ yX1_readNewName.cls ≠ "java/lang/invoke/MethodHandle" ∧ yX1_readNewName.cls ≠ "java/lang/invoke/VarHandle" ∧ (parseMethodDescriptor yX1_readNewName.desc).map (fun d => d.parameters.length) = some 0 := by decide +kernel
theorem hdX1_readViewKind : yX1_readViewKind.cls = RX1 ∧ yX1_readViewKind.cls ≠ "java/lang/invoke/MethodHandle" ∧ yX1_readViewKind.cls ≠ "java/lang/invoke/VarHandle" ∧ (parseMethodDescriptor yX1_readViewKind.desc).map (fun d => d.parameters.length) = some 0 := by decide +kernel
theorem hdX1_readHead : yX1_readHead.cls = RX1 ∧ yX1_readHead.cls ≠ "java/lang/invoke/MethodHandle" ∧ yX1_readHead.cls ≠ "java/lang/invoke/VarHandle" ∧ (parseMethodDescriptor yX1_readHead.desc).map (fun d => d.parameters.length) = some 0 := by decide +kernel
def rmX1_exchangePlan : Room := { frames := 0, cells := 0, slots := 0, locals := 0 }
theorem hdX1_exchangePlan : yX1_exchangePlan.cls = RX1 ∧ yX1_exchangePlan.cls ≠ "java/lang/invoke/MethodHandle" ∧ yX1_exchangePlan.cls ≠ "java/lang/invoke/VarHandle" ∧ (parseMethodDescriptor yX1_exchangePlan.desc).map (fun d => d.parameters.length) = some 1 := by decide +kernel
set_option maxHeartbeats 4000000 in
set_option maxRecDepth 100000 in
/-- exchanges the plan -/
theorem c_X1_exchangePlan (l : Launch) (g : gG) (gh : gGh) (q : Nat) (I : gI) (R : gR) (J : gJ) (AI : gI) (AJ : gJ) (AR : gR) (a : Nat) (pl : Nat) (hv : gInv g gh R AR I AI) (h1 : gO g a 1) (hold : gO g pl 2) (hRq : R a 1 = some q) (hq : gO g q 2) : gMet l g yX1_exchangePlan wsX1_exchangePlan rmX1_exchangePlan [.ref a, .ref pl] (I, R, J, AI, AJ, AR) (gQr g (fun (z : Nat) (w : gS) => I = w.1 ∧ J = w.2.2.1 ∧ AI = w.2.2.2.1 ∧ AJ = w.2.2.2.2.1 ∧ AR = w.2.2.2.2.2 ∧ (gInv g gh (w.2.1) AR I AI) ∧ (∀ b, b ≠ a → (w.2.1) b = R b) ∧ (q = z) ∧ ((w.2.1) a 1 = some pl))) := by
  refine gStart (cc := cX1_exchangePlan) (maxL := 3) (ret := (some ((.object "BagTree$Plan")))) (by decide) rfl (Nat.le_of_ble_eq_true rfl) ?_
  intro p e s m below meth c ls F hr hlk hH hz hS hl
  have hl : lv_has ls 3 [(0, .ref a), (1, .ref pl)] := hl
  have hS : va_S (gA g) s.heap s.heap [] := hS
  obtain ⟨H, hHe⟩ : ∃ H : Heap, H = s.heap := ⟨_, rfl⟩
  obtain ⟨locs, hlo⟩ : ∃ k : List Loc, k = [] := ⟨_, rfl⟩
  have hH : gH g I R J AI AJ AR H := by rw [hHe]; exact hH
  have hS : va_S (gA g) s.heap H locs := by rw [hHe, hlo]; exact hS
  suffices hw : W p l e rmX1_exchangePlan s m ([.ref a, .ref pl] : List Value).toArray below meth c H locs 0 0 (MQ below (gQr g (fun (z : Nat) (w : gS) => I = w.1 ∧ J = w.2.2.1 ∧ AI = w.2.2.2.1 ∧ AJ = w.2.2.2.2.1 ∧ AR = w.2.2.2.2.2 ∧ (gInv g gh (w.2.1) AR I AI) ∧ (∀ b, b ≠ a → (w.2.1) b = R b) ∧ (q = z) ∧ ((w.2.1) a 1 = some pl))) ([.ref a, .ref pl] : List Value).toArray s 0 0 (gA g)) (F0 m 0 ls []) by
    rw [hHe, hlo] at hw; exact hw
  clear hHe hlo
  have iX1 : ∀ w ∈ u_ws RX1 TX1 4, w ∈ wsX1_exchangePlan := (by decide +kernel)
  have k21 : Cond.fieldLink RX1 21 (TX1 1).1 (TX1 1).2.1 (TX1 1).2.2.1 ∈ wsX1_exchangePlan := List.mem_of_getElem? (i := 1) rfl
  refine lv_aload_n F.1 F.2.1 dX1_exchangePlan_0 rfl (lv_at hl 0 rfl) ?_
  refine g_getR (ci := 1) (k := 1) F hH rfl (by decide) iX1 h1 (by decide) rfl (b := q) hRq k21 dX1_exchangePlan_1 ?_
  refine lv_astore_n (lv' := [(2, .ref q), (0, .ref a), (1, .ref pl)]) F.1 F.2.1 dX1_exchangePlan_4 rfl hl (by decide) rfl (fun ls hl => ?_)
  refine lv_aload_n F.1 F.2.1 dX1_exchangePlan_5 rfl (lv_at hl 1 rfl) ?_
  refine lv_aload_n F.1 F.2.1 dX1_exchangePlan_6 rfl (lv_at hl 2 rfl) ?_
  refine g_putR (ci := 1) (k := 1) F hH hS rfl (by decide) iX1 h1 (by decide) tyX1 tyX1_ok nmX1 rfl (ty := tyX1 1) rfl rfl rfl rfl k21 dX1_exchangePlan_7 (fun H locs hH hS => ?_)
  obtain ⟨R_1, eR_1⟩ : ∃ qQ, qQ = gup2 R a 1 (some (pl)) := ⟨_, rfl⟩
  rw [← eR_1] at hH
  have kR_1 : ∀ b, b ≠ a → R_1 b = R b := fun b hb => by rw [eR_1]; exact funext fun j => gup2_a _ _ hb
  have hv : gInv g gh R_1 AR I AI := by rw [eR_1]; exact gInv_Rplan hv h1 hold
  have ra1 : R_1 a 1 = some pl := by rw [eR_1, gup2_s]
  refine lv_aload_n F.1 F.2.1 dX1_exchangePlan_10 rfl (lv_at hl 0 rfl) ?_
  exact g_aret F hr (by first | exact Or.inl ⟨_, rfl⟩ | exact Or.inr ⟨_, rfl⟩) hlk hH hS hz ⟨rfl, rfl, rfl, rfl, rfl, hv, fun b hb => kR_1 b hb, rfl, ra1⟩ dX1_exchangePlan_11
