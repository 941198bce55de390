/-! THE CLAIM OUT OF ONE WALK OF THE LAW'S BODY. Your part is whole_start (and what it stands on); all else here is the same for every law, but numbers. -/
def R_law : String := "BagTreeLaw"
def lw_P (b : Addr) (xs : List Int32) (args : Array Value) (s : State) : Prop := args = #[.ref b] ∧ s.IntsAt b xs ∧ xs.length ≤ 3584 ∧ (Jvm.Cond.and given_1 narrow_1).before args s = true
def lw_Q (_ : Array Value) (s : State) (o : Outcome) (t : State) : Prop := o = .returned (some (.int 1)) ∧ Framed s o t [] 601024 7293034
def lw_Z (below : List Frame) (a : Array Value) (s : State) : State → Prop := fun t => ∃ o, t.status = .running ∧ Ended t below o ∧ lw_Q a s o t
/-- the law's own end, with 1 on the stack, nothing written that was there before, its room as the claim has it -/
theorem lw_ret {p : Program} {l : Launch} {e : Env} {s : State} {m : MethodId} {below : List Frame} {meth : Method} {c : Code} {b : Nat} (hx : p.tables.exec = Jvm.exec) (hb : c.code = code) (hr : meth.sig.returnType = ret) (hlocks : meth.locks = false) {pc : Nat} {H : Heap} {ls : Array Slot} (hdg : decode code pc = .ok (.ireturn, 1)) : W p l e room_1 s m #[Value.ref b] below meth c H [] 601024 7293034 (lw_Z below #[Value.ref b] s) (F0 m pc ls [.int 1]) := by
  intro T hT X
  obtain ⟨fs, hret, hrun, hended, hW, hframe⟩ := X.leave (v := some (.int 1)) (hlocks := hlocks) (fun h => by rw [hr] at h; cases h)
  have hmeth' : T.vm.method? m = some meth := X.method'
  refine ⟨T.setFrames fs, ?_, .returned (some (.int 1)), hrun, hended, rfl, ⟨_, rfl⟩, hW, hframe⟩
  jvm_step X.here [X.here.top, hx, hb, hdg, hmeth', hr, ret, narrow_b1]
  (try refine ⟨rfl, ?_⟩); (try refine ⟨rfl, ?_⟩)
  first | (intro acts; rw [hret _ acts rfl rfl rfl]) | rw [hret _ _ rfl rfl rfl]
  exact Steps.refl _
/-- what holds at the law's entry: the machine, the code, the tables' words (any of lw_tbl by 'hts w (by decide +kernel)'), the script of L ints xs at the cell b, what the Statement gives of the start (any of its parts by flat_of_before) -/
def lw_At (p : Program) (s : State) (m : MethodId) (meth : Method) (c : Code) (b L : Nat) (xs : Nat → Int32) : Prop :=
  p.tables.exec = Jvm.exec ∧ c.code = code ∧ meth.sig.returnType = ret ∧ c.maxLocals = 7 ∧ s.vm.findClass R_law = some m.cls ∧ (∀ w ∈ lw_tbl, w.before #[Value.ref b] s = true) ∧ va_X b L xs s s.heap ∧ b < s.heap.size ∧ meth.locks = false ∧ (Jvm.Cond.and given_1 narrow_1).before #[Value.ref b] s = true
/-! the law's loop: what holds at its head -/
abbrev lV (g : gG) (b : Nat) (i : Int) : List (Nat × Value) := [(4, .int (iI i)), (0, .ref b), (1, .ref (gZ g + 0)), (2, .ref (gZ g + 205)), (3, .ref (gZ g + 222))]
/-- what is fixed over the law's walk -/
def lF (p : Program) (l : Launch) (s : State) (m : MethodId) (c : Code) (g : gG) (b L : Nat) (xs : Nat → Int32) : Prop :=
  (∀ M : gI × gI, gFix (gW g M) p c cL_law 7 s #[Value.ref b] TB RL m) ∧ (∀ M : gI × gI, gThr (gW g M) s) ∧ gOK g ∧ gZ g = s.heap.size ∧ va_X b L xs s s.heap ∧ b < s.heap.size ∧ L ≤ 3584 ∧ l.stackTraces = false
/-- both systems are sound, and their tapes are of one length -/
def lInv (g : gG) (I : gI) (R : gR) (AI : gI) (AR : gR) : Prop :=
  gInv (gW g (I, AI)) (hG (gZ g)) R AR I AI ∧ mInv (gW g (I, AI)) (hG (gZ g)) R I AI ∧ (∃ pA bA nA : Nat, xS (gW g (I, AI)) (hG (gZ g)) R AR (gZ g + 0) pA bA nA) ∧ (I (gZ g + 0) 1).toInt = (I (gZ g + 205) 16).toInt
/-- from the loop's step on -/
def lK (p : Program) (l : Launch) (e : Env) (s : State) (m : MethodId) (below : List Frame) (meth : Method) (c : Code) (g : gG) (b : Nat) (i : Int) (cells slots : Nat) : Prop :=
  ∀ (I : gI) (R : gR) (J : gJ) (AI : gI) (AJ : gJ) (AR : gR) (H : Heap) (locs : List Loc) (ls : Array Slot), lInv g I R AI AR → gH (gW g (I, AI)) I R J AI AJ AR H → va_S (gA g) s.heap H locs → lv_has ls 7 (lV g b i) →
    W p l e room_1 s m #[Value.ref b] below meth c H locs (cells + 1) (slots + 6) (lw_Z below #[Value.ref b] s) (F0 m 1040 ls [])
theorem l_val (xs : Nat → Int32) (k : Nat) : ∃ a : Int, zr a ∧ xs k = iI a := ⟨(xs k).toInt, zr_t _, (iI_self _).symm⟩
theorem l_sld {p : Program} {l : Launch} {e : Env} {Rm : Room} {s : State} {m : MethodId} {args : Array Value} {below : List Frame} {meth : Method} {c : Code} {H : Heap} {locs : List Loc} {cells slots : Nat} {Q : State → Prop} {cc : ByteArray} {pc : Nat} {ls : Array Slot} {rest : List Value} {g : gG} {b L : Nat} {xs : Nat → Int32} {z a : Int}
    (hx : p.tables.exec = Jvm.exec) (hb : c.code = cc) (hX : va_X b L xs s s.heap) (hbl : b < s.heap.size) (hZ : gZ g = s.heap.size) (hS : va_S (gA g) s.heap H locs) (h0 : 0 ≤ z) (h1 : z < (L : Int)) (h2 : z ≤ 2147483647) (ha : xs z.toNat = iI a) (hd : decode cc pc = .ok (.iaload, 1))
    (k : W p l e Rm s m args below meth c H locs cells slots Q (F0 m (pc + 1) ls (.int (iI a) :: rest))) : W p l e Rm s m args below meth c H locs cells slots Q (F0 m pc ls (.int (iI z) :: .ref b :: rest)) :=
  va_sld (A := gA g) hx hb hX hbl (fun h => by have h : gZ g ≤ b := h; omega) hS (iI_in h0 h1 h2) hd (by rw [iI_nat h0 h2, ha]; exact k)
theorem l_mo {g : gG} {M : gI × gI} (hOK : gOK g) : gO (gW g M) (gZ g + 205) 7 := gO_i hOK (by decide) (by decide +kernel)
theorem l_ou {g : gG} {M : gI × gI} (hOK : gOK g) : gAr (gW g M) (gZ g + 222) 10 1 := gAr_i hOK (by decide) (by decide +kernel) (by decide +kernel)
theorem gH_W {g : gG} {M M' : gI × gI} {I : gI} {R : gR} {J : gJ} {AI : gI} {AJ : gJ} {AR : gR} {H : Heap} (h : gH (gW g M) I R J AI AJ AR H) : gH (gW g M') I R J AI AJ AR H := h
section LRun
variable {g : gG} {I : gI} {R : gR} {J : gJ} {AI : gI} {AJ : gJ} {AR : gR}
variable {p : Program} {l : Launch} {e : Env} {Rm : Room} {s : State} {m : MethodId} {args : Array Value} {below : List Frame} {meth : Method} {c : Code} {H : Heap} {locs : List Loc} {cells slots : Nat}
variable {cc : ByteArray} {pc nL : Nat} {ls : Array Slot} {rest st0 : List Value} {Ts : List Cond} {own : String} {y : MethodName} {bytes : ByteArray} {maxL n index : Nat} {ret : Option FieldType} {hh : List (Nat × Nat × Nat × Nat)} {ws : List Cond} {rm : Room} {As : List Value} {Qc : Array Value → State → Outcome → State → Prop} {px : gS → Prop}
/-- a static call of a method that catches -/
theorem g_runSXW (F : gFix g p c cc nL s args Ts own m) (hTh : gThr g s) (hls : ls.size = nL) (hH : gH g I R J AI AJ AR H) (hS : va_S (gA g) s.heap H locs) (hz : gZ g ≤ s.heap.size)
    (M : gMetX l g y ws rm As (I, R, J, AI, AJ, AR) Qc px) (cw : vx_CSW Rm s args own index y bytes maxL ret hh ws rm 1 6 n) (hn : As.length = n) (hst : st0 = As.reverse ++ rest) (hroom : (rest.map fun v => v.category).sum ≤ 8) (hdg : decode cc pc = .ok (.invokestatic index, 3)) (hcs : cells + 1 ≤ Rm.cells ∧ slots + 6 ≤ Rm.slots) :
    vx_Run p l e Rm s m args below meth c H locs cells slots 1 6 (F0 m pc ls st0) rest (Qc As.toArray) (vx_X px (gBX g) (gA g)) (gA g) :=
  vx_runSX (As := As) (rest := rest) ⟨F.1, F.2.1, F.2.2.1, F.2.2.2.1, F.2.2.2.2.1⟩ M cw ⟨gPreX_blind, g_preX F hTh hH hS hz⟩ rfl hn hls hst (lv_room (m := m) (pc := pc) (ls := ls) (rest := st0) hroom) hdg hcs
end LRun
section LBase
variable {g : gG} {I AI I1 AI1 I2 AI2 : gI} {R R1 AR AR1 : gR}
theorem l_mo1 (hOK : gOK g) (hv1 : gInv (gW g (I, AI)) (hG (gZ g)) R AR I1 AI1) : I1 (gZ g + 205) = I (gZ g + 205) := hv1.2.2.2.2.2.2.2.2.1 _ (l_mo hOK)
theorem l_mid (hmv : mInv (gW g (I, AI)) (hG (gZ g)) R I AI) (hv1 : gInv (gW g (I, AI)) (hG (gZ g)) R1 AR1 I1 AI1) (eR : ∀ q, gO (gW g (I, AI)) q 7 → R1 q = R q) : mInv (gW g (I1, AI1)) (hG (gZ g)) R1 I1 AI1 := by
  obtain ⟨h1, h2, -⟩ := hmv
  have e7 : ∀ b, gO (gW g (I, AI)) b 7 → I1 b = I b := hv1.2.2.2.2.2.2.2.2.1
  have e5 : ∀ b, hG (gZ g) 9 b = 5 → AI1 b = AI b := hv1.2.2.2.2.2.2.2.2.2
  refine ⟨fun m hm => ?_, fun m hm => ?_, fun _ _ _ _ => rfl, fun _ _ => rfl⟩
  · have hm : gO (gW g (I, AI)) m 7 := hm
    have q := h1 m hm
    rw [eR m hm]
    exact q
  · have hm : gO (gW g (I, AI)) m 7 := hm
    have q := h2 m hm
    have a5 : ∀ k n, (k, n) ∈ mTab → AI1 (hG (gZ g) (50 + k) 0) = AI (hG (gZ g) (50 + k) 0) := fun k n hn => e5 _ ((h1 m hm).2.1 (k, n) hn).2.2.1
    have b0 : AI1 (hG (gZ g) 50 0) = AI (hG (gZ g) 50 0) := a5 0 640 (by decide)
    have b3 : AI1 (hG (gZ g) 53 0) = AI (hG (gZ g) 53 0) := a5 3 640 (by decide)
    have b7 : AI1 (hG (gZ g) 57 0) = AI (hG (gZ g) 57 0) := a5 7 176 (by decide)
    have b11 : AI1 (hG (gZ g) 61 0) = AI (hG (gZ g) 61 0) := a5 11 41 (by decide)
    rw [e7 m hm]
    refine ⟨q.1, ?_⟩
    have q2 := q.2
    unfold mCon at q2 ⊢
    rw [b0, b3, b7, b11]
    exact q2
theorem l_end {pA bA nA : Nat} (hv1 : gInv (gW g (I, AI)) (hG (gZ g)) R AR I1 AI1) (hx1 : xS (gW g (I, AI)) (hG (gZ g)) R AR (gZ g + 0) pA bA nA) (hmv2 : mInv (gW g (I1, AI1)) (hG (gZ g)) R I2 AI2) (h : (I1 (gZ g + 0) 1).toInt = (I2 (gZ g + 205) 16).toInt) : lInv g I2 R AI2 AR := by
  have n1 : ∀ b c, gO (gW g (I2, AI2)) b c → c ≠ 7 → I2 b = I1 b := hmv2.2.2.1
  have n2 : ∀ b, hG (gZ g) 9 b ≠ 5 → AI2 b = AI1 b := hmv2.2.2.2
  obtain ⟨h1, h2, h3, h4, h5, h6, h7, h8⟩ := hv1
  have h1 : vRows (gW g (I2, AI2)) (hG (gZ g)) R I1 := h1
  have h2 : vC5 (gW g (I2, AI2)) (hG (gZ g)) AI1 := h2
  have h3 : vLine (gW g (I2, AI2)) (hG (gZ g)) R I1 AI1 := h3
  have h4 : vPlan (gW g (I2, AI2)) (hG (gZ g)) R AR I1 := h4
  have h5 : vX (gW g (I2, AI2)) (hG (gZ g)) R AR I1 := h5
  have h6 : vPr (gW g (I2, AI2)) (hG (gZ g)) R I1 := h6
  have h7 : vTk (gW g (I2, AI2)) (hG (gZ g)) R I1 AI1 := h7
  have h8 : vRk (gW g (I2, AI2)) (hG (gZ g)) R := h8.1
  have hx2 : xS (gW g (I2, AI2)) (hG (gZ g)) R AR (gZ g + 0) pA bA nA := hx1
  have m1 : mSh (gW g (I2, AI2)) (hG (gZ g)) R := hmv2.1
  have m2 : ∀ m, gO (gW g (I2, AI2)) m 7 → mNum (I2 m) ∧ mCon (hG (gZ g)) (I2 m) AI2 := hmv2.2.1
  refine ⟨⟨vRows_c h1 (fun b hb => n1 b 4 hb (by decide)), vC5_c h2 h1 (fun b hb => n2 b (by rw [hb]; decide)), vLine_c h3 (fun b hb => n1 b 0 hb (by decide)) (fun b hb => by rw [n1 b 2 hb (by decide)]) (fun b hb => n2 b (by rw [hb]; decide)), vPlan_c h4 (fun b hb => n1 b 2 hb (by decide)), vX_c h5 (fun b hb => n1 b 6 hb (by decide)), vPr_c h6 (fun b hb => n1 b 1 hb (by decide)), vTk_c h7 (fun b hb => n1 b 5 hb (by decide)) (fun b hb => n2 b (by rw [hb]; decide)) (fun b hb => n2 b (by rw [hb]; decide)), h8, fun _ _ => rfl, fun _ _ => rfl⟩, ⟨m1, m2, fun _ _ _ _ => rfl, fun _ _ => rfl⟩, ⟨pA, bA, nA, hx2⟩, ?_⟩
  rw [n1 (gZ g + 0) 6 hx2.1 (by decide)]
  exact h
end LBase
