/-! THE CLAIM OUT OF ONE WALK OF THE LAW'S BODY. Your part is whole_start (and what it stands on); all else here is the same for every law, but numbers. -/
def R_law : String := "BagTreeLaw"
def lw_P (b : Addr) (xs : List Int32) (args : Array Value) (s : State) : Prop := args = #[.ref b] ∧ s.IntsAt b xs ∧ xs.length ≤ 3584 ∧ (Jvm.Cond.and given_1 narrow_1).before args s = true
def lw_Q (_ : Array Value) (s : State) (o : Outcome) (t : State) : Prop := o = .returned (some (.int 1)) ∧ Framed s o t [] 601024 7293034
def lw_Z (below : List Frame) (a : Array Value) (s : State) : State → Prop := fun t => ∃ o, t.status = .running ∧ Ended t below o ∧ lw_Q a s o t
/-- the law's own end, with 1 on the stack, nothing written that was there before, its room as the claim has it -/
theorem lw_ret {p : Program} {l : Launch} {e : Env} {s : State} {m : MethodId} {below : List Frame} {meth : Method} {c : Code} {b : Nat} (hx : p.tables.exec = Jvm.exec) (hb : c.code = code) (hr : meth.sig.returnType = ret) (hlocks : meth.locks = false) {pc : Nat} {H : Heap} {ls : Array Slot} (hdg : decode code pc = .ok (.ireturn, 1)) : W p l e room_1 s m #[Value.ref b] below meth c H [] 601024 7293034 (lw_Z below #[Value.ref b] s) (F0 m pc ls [.int 1]) := by
  intro T hT X
  obtain ⟨fs, hret, hrun, hended, hW, hframe⟩ := X.leave (v := some (.int 1)) (hlocks := hlocks) (fun h => by rw [hr] at h; cases h)
  have hmeth' : T.vm.method? m = some meth := X.method'
  refine ⟨T.setFrames fs, ?_, .returned (some (.int 1)), hrun, hended, rfl, ⟨_, rfl⟩, hW, hframe⟩
  jvm_step X.here [X.here.top, hx, hb, hdg, hmeth', hr, ret, narrow_b1]
  (try refine ⟨rfl, ?_⟩); (try refine ⟨rfl, ?_⟩)
  first | (intro acts; rw [hret _ acts rfl rfl rfl]) | rw [hret _ _ rfl rfl rfl]
  exact Steps.refl _
/-- what holds at the law's entry: the machine, the code, the tables' words (any of lw_tbl by 'hts w (by decide +kernel)'), the script of L ints xs at the cell b, what the Statement gives of the start (any of its parts by flat_of_before) -/
def lw_At (p : Program) (s : State) (m : MethodId) (meth : Method) (c : Code) (b L : Nat) (xs : Nat → Int32) : Prop :=
  p.tables.exec = Jvm.exec ∧ c.code = code ∧ meth.sig.returnType = ret ∧ c.maxLocals = 7 ∧ s.vm.findClass R_law = some m.cls ∧ (∀ w ∈ lw_tbl, w.before #[Value.ref b] s = true) ∧ va_X b L xs s s.heap ∧ b < s.heap.size ∧ meth.locks = false ∧ (Jvm.Cond.and given_1 narrow_1).before #[Value.ref b] s = true
/-! the law's loop: what holds at its head -/
abbrev lV (g : gG) (b : Nat) (i : Int) : List (Nat × Value) := [(4, .int (iI i)), (0, .ref b), (1, .ref (gZ g + 0)), (2, .ref (gZ g + 205)), (3, .ref (gZ g + 222))]
/-- what is fixed over the law's walk -/
def lF (p : Program) (l : Launch) (s : State) (m : MethodId) (c : Code) (g : gG) (b L : Nat) (xs : Nat → Int32) : Prop :=
  (∀ M : gI × gI, gFix (gW g M) p c cL_law 7 s #[Value.ref b] TB RL m) ∧ (∀ M : gI × gI, gThr (gW g M) s) ∧ gOK g ∧ gZ g = s.heap.size ∧ va_X b L xs s s.heap ∧ b < s.heap.size ∧ L ≤ 3584 ∧ l.stackTraces = false
/-- both tapes hold one text: of one length, the reference's bytes are the class's taken without sign -/
def tEq (g : gG) (I AI : gI) : Prop :=
  (I (gZ g + 0) 1).toInt = (I (gZ g + 205) 16).toInt ∧ (∀ k : Nat, (k : Int) < (I (gZ g + 0) 1).toInt → AI (gZ g + 215) k = AI (gZ g + 1) k &&& 255) ∧ ∀ k : Nat, -128 ≤ (AI (gZ g + 1) k).toInt ∧ (AI (gZ g + 1) k).toInt ≤ 127
/-- both batches hold the same rows, in order -/
def bEq (g : gG) (I AI : gI) : Prop :=
  (I (gZ g + 179) 3).toInt = (I (gZ g + 205) 14).toInt ∧ (0 ≤ (I (gZ g + 179) 3).toInt ∧ (I (gZ g + 179) 3).toInt ≤ 40) ∧ (∀ i : Nat, (i : Int) < (I (gZ g + 179) 3).toInt → rwE (AI (gZ g + 180)) (AI (gZ g + 212)) (AI (gZ g + 213)) (AI (gZ g + 214)) i) ∧ srt 5 (AI (gZ g + 180)) (I (gZ g + 179) 3).toInt
/-- both plans have the same tables: how many, and their columns -/
def pEq (g : gG) (I : gI) (AR : gR) (AI : gI) (p : Nat) : Prop :=
  ∃ (nr : Nat) (tb : Int) (cl : Nat → Int), (I p 2).toInt = tb ∧ (0 ≤ tb ∧ tb ≤ (nr : Int)) ∧ (nr ≤ 16 ∧ (I (gZ g + 205) 2).toInt = (nr : Int)) ∧ (∀ r : Nat, (r : Int) < tb → ∀ y, AR (hG (gZ g) 6 p) r = some y → (I y 2).toInt = cl r) ∧ ∀ r : Nat, r < nr → tI (AI (gZ g + 206)) (40 * (r : Int) + 1) = cl r ∧ (tI (AI (gZ g + 206)) (40 * (r : Int)) = 0 ↔ (r : Int) < tb)
/-- the rest of what holds: the class's parts, the texts, the batches, the tables -/
def lX (g : gG) (I : gI) (R : gR) (AI : gI) (AR : gR) (pA q bA nA : Nat) : Prop :=
  xS (gW g (I, AI)) (hG (gZ g)) R AR (gZ g + 0) pA bA nA ∧ R (gZ g + 2) 1 = some q ∧ q ≠ pA ∧ tEq g I AI ∧ bEq g I AI ∧ pEq g I AR AI pA ∧ lE8 g I AR AI pA bA nA
def lInv (g : gG) (I : gI) (R : gR) (AI : gI) (AR : gR) : Prop :=
  gInv (gW g (I, AI)) (hG (gZ g)) R AR I AI ∧ mInv (gW g (I, AI)) (hGm (gZ g)) R I AI ∧ ∃ pA q bA nA : Nat, lX g I R AI AR pA q bA nA
/-- from the loop's step on -/
def lK (p : Program) (l : Launch) (e : Env) (s : State) (m : MethodId) (below : List Frame) (meth : Method) (c : Code) (g : gG) (b : Nat) (i : Int) (cells slots : Nat) : Prop :=
  ∀ (I : gI) (R : gR) (J : gJ) (AI : gI) (AJ : gJ) (AR : gR) (H : Heap) (locs : List Loc) (ls : Array Slot), lInv g I R AI AR → gH (gW g (I, AI)) I R J AI AJ AR H → va_S (gA g) s.heap H locs → lv_has ls 7 (lV g b i) →
    W p l e room_1 s m #[Value.ref b] below meth c H locs (cells + 1) (slots + 6) (lw_Z below #[Value.ref b] s) (F0 m 1068 ls [])
theorem l_val (xs : Nat → Int32) (k : Nat) : ∃ a : Int, zr a ∧ xs k = iI a := ⟨(xs k).toInt, zr_t _, (iI_self _).symm⟩
theorem l_sld {p : Program} {l : Launch} {e : Env} {Rm : Room} {s : State} {m : MethodId} {args : Array Value} {below : List Frame} {meth : Method} {c : Code} {H : Heap} {locs : List Loc} {cells slots : Nat} {Q : State → Prop} {cc : ByteArray} {pc : Nat} {ls : Array Slot} {rest : List Value} {g : gG} {b L : Nat} {xs : Nat → Int32} {z a : Int}
    (hx : p.tables.exec = Jvm.exec) (hb : c.code = cc) (hX : va_X b L xs s s.heap) (hbl : b < s.heap.size) (hZ : gZ g = s.heap.size) (hS : va_S (gA g) s.heap H locs) (h0 : 0 ≤ z) (h1 : z < (L : Int)) (h2 : z ≤ 2147483647) (ha : xs z.toNat = iI a) (hd : decode cc pc = .ok (.iaload, 1))
    (k : W p l e Rm s m args below meth c H locs cells slots Q (F0 m (pc + 1) ls (.int (iI a) :: rest))) : W p l e Rm s m args below meth c H locs cells slots Q (F0 m pc ls (.int (iI z) :: .ref b :: rest)) :=
  va_sld (A := gA g) hx hb hX hbl (fun h => by have h : gZ g ≤ b := h; omega) hS (iI_in h0 h1 h2) hd (by rw [iI_nat h0 h2, ha]; exact k)
theorem l_mo {g : gG} {M : gI × gI} (hOK : gOK g) : gO (gW g M) (gZ g + 205) 7 := gO_i hOK (by decide) (by decide +kernel)
theorem l_ou {g : gG} {M : gI × gI} (hOK : gOK g) : gAr (gW g M) (gZ g + 222) 10 1 := gAr_i hOK (by decide) (by decide +kernel) (by decide +kernel)
theorem gH_W {g : gG} {M M' : gI × gI} {I : gI} {R : gR} {J : gJ} {AI : gI} {AJ : gJ} {AR : gR} {H : Heap} (h : gH (gW g M) I R J AI AJ AR H) : gH (gW g M') I R J AI AJ AR H := h
section LRun
variable {g : gG} {I : gI} {R : gR} {J : gJ} {AI : gI} {AJ : gJ} {AR : gR}
variable {p : Program} {l : Launch} {e : Env} {Rm : Room} {s : State} {m : MethodId} {args : Array Value} {below : List Frame} {meth : Method} {c : Code} {H : Heap} {locs : List Loc} {cells slots : Nat}
variable {cc : ByteArray} {pc nL : Nat} {ls : Array Slot} {rest st0 : List Value} {Ts : List Cond} {own : String} {y : MethodName} {bytes : ByteArray} {maxL n index : Nat} {ret : Option FieldType} {hh : List (Nat × Nat × Nat × Nat)} {ws : List Cond} {rm : Room} {As : List Value} {Qc : Array Value → State → Outcome → State → Prop} {px : gS → Prop}
/-- a static call of a method that catches -/
theorem g_runSXW (F : gFix g p c cc nL s args Ts own m) (hTh : gThr g s) (hls : ls.size = nL) (hH : gH g I R J AI AJ AR H) (hS : va_S (gA g) s.heap H locs) (hz : gZ g ≤ s.heap.size)
    (M : gMetX l g y ws rm As (I, R, J, AI, AJ, AR) Qc px) (cw : vx_CSW Rm s args own index y bytes maxL ret hh ws rm 1 6 n) (hn : As.length = n) (hst : st0 = As.reverse ++ rest) (hroom : (rest.map fun v => v.category).sum ≤ 8) (hdg : decode cc pc = .ok (.invokestatic index, 3)) (hcs : cells + 1 ≤ Rm.cells ∧ slots + 6 ≤ Rm.slots) :
    vx_Run p l e Rm s m args below meth c H locs cells slots 1 6 (F0 m pc ls st0) rest (Qc As.toArray) (vx_X px (gBX g) (gA g)) (gA g) :=
  vx_runSX (As := As) (rest := rest) ⟨F.1, F.2.1, F.2.2.1, F.2.2.2.1, F.2.2.2.2.1⟩ M cw ⟨gPreX_blind, g_preX F hTh hH hS hz⟩ rfl hn hls hst (lv_room (m := m) (pc := pc) (ls := ls) (rest := st0) hroom) hdg hcs
end LRun
section LBase
variable {g : gG} {I AI I1 AI1 I2 AI2 : gI} {R R1 AR AR1 : gR}
abbrev hG0 (z : Nat) : gGh := ghF 0 (hG z)
theorem hGm_5 {z b : Nat} (h : hGm z 9 b = 5) : hG z 9 b = 5 := by
  by_cases q : b = z + 1 ∨ b = z + 212 ∨ b = z + 213 ∨ b = z + 214 ∨ b = z + 215
  · have h : (if b = z + 1 ∨ b = z + 212 ∨ b = z + 213 ∨ b = z + 214 ∨ b = z + 215 then 0 else hG z 9 b) = 5 := h
    rw [if_pos q] at h
    exact absurd h (by decide)
  · rw [hGm9 q] at h; exact h
theorem hGm_o {z b o : Nat} (h : b = z + o) (ho : o = 1 ∨ o = 212 ∨ o = 213 ∨ o = 214 ∨ o = 215) : hGm z 9 b ≠ 5 := by
  have e : hGm z 9 b = 0 := if_pos (by omega)
  rw [e]; decide
theorem hGm_c {z b : Nat} (h : hGm z 9 b = 5) : hGc z 9 b = 5 := by
  have e := hGm_5 h
  by_cases q : b = z + 1 ∨ b = z + 215
  · exact absurd h (by rcases q with q | q <;> exact hGm_o q (by decide))
  · rw [hGc9 q]; exact e
theorem l_t5 {M : gI × gI} {I' AI' : gI} (hv1 : gInv (gW g M) (hG0 (gZ g)) R AR I' AI') {o : Nat} (ho : t9 o = 5) : AI' (gZ g + o) = M.2 (gZ g + o) := hv1.2.2.2.2.2.2.2.2.2.1 _ (hG9.trans ho)
theorem l_mo1 (hOK : gOK g) (hv1 : gInv (gW g (I, AI)) (hG0 (gZ g)) R AR I1 AI1) : I1 (gZ g + 205) = I (gZ g + 205) := hv1.2.2.2.2.2.2.2.2.1 _ (l_mo hOK)
theorem l_fz (hOK : gOK g) {M : gI × gI} : gO (gW g M) (gZ g + 179) 4 ∧ hG (gZ g) 2 (gZ g + 179) = 5 := ⟨gO_i hOK (o := 179) (by decide) (by decide +kernel), hG2.trans (by decide +kernel)⟩
/-- the batch stays under a call that does not change it -/
theorem l_bz {M : gI × gI} {I' AI' : gI} (hv1 : gInv (gW g M) (hG (gZ g)) R AR I' AI') : I' (gZ g + 179) 3 = M.1 (gZ g + 179) 3 ∧ AI' (gZ g + 180) = M.2 (gZ g + 180) := (hv1.2.2.2.2.2.2.2.2.2.2 rfl).2.2
theorem l_len0 (hv : gInv (gW g (I, AI)) (hG (gZ g)) R AR I1 AI1) {pA bA nA : Nat} (hx : xS (gW g (I, AI)) (hG (gZ g)) R AR (gZ g + 0) pA bA nA) : 0 ≤ (I1 (gZ g + 0) 1).toInt := (hv.2.2.2.2.1 _ hx.1).2.2.2.2.2.2.2.2.2.2.2.2.2.1
theorem l_len9 (hv : gInv (gW g (I, AI)) (hG (gZ g)) R AR I1 AI1) {pA bA nA : Nat} (hx : xS (gW g (I, AI)) (hG (gZ g)) R AR (gZ g + 0) pA bA nA) : (I1 (gZ g + 0) 1).toInt ≤ 936 := (hv.2.2.2.2.1 _ hx.1).2.2.2.2.2.2.2.2.2.2.2.2.2.2.1
theorem l_mid (hmv : mInv (gW g (I, AI)) (hGm (gZ g)) R I AI) (hv1 : gInv (gW g (I, AI)) (hG0 (gZ g)) R1 AR1 I1 AI1) (eR : ∀ q, gO (gW g (I, AI)) q 7 → R1 q = R q) : mInv (gW g (I1, AI1)) (hGm (gZ g)) R1 I1 AI1 := by
  obtain ⟨h1, h2, -⟩ := hmv
  have e7 : ∀ b, gO (gW g (I, AI)) b 7 → I1 b = I b := hv1.2.2.2.2.2.2.2.2.1
  have b0 : AI1 (hGm (gZ g) 50 0) = AI (hGm (gZ g) 50 0) := l_t5 hv1 (o := 206) (by decide +kernel)
  have b3 : AI1 (hGm (gZ g) 53 0) = AI (hGm (gZ g) 53 0) := l_t5 hv1 (o := 208) (by decide +kernel)
  have b7 : AI1 (hGm (gZ g) 57 0) = AI (hGm (gZ g) 57 0) := l_t5 hv1 (o := 211) (by decide +kernel)
  have b11 : AI1 (hGm (gZ g) 61 0) = AI (hGm (gZ g) 61 0) := l_t5 hv1 (o := 212) (by decide +kernel)
  refine ⟨fun m hm => ?_, fun m hm => ?_, fun _ _ _ _ => rfl, fun _ _ => rfl⟩
  · have hm : gO (gW g (I, AI)) m 7 := hm
    have q := h1 m hm
    rw [eR m hm]
    exact q
  · have hm : gO (gW g (I, AI)) m 7 := hm
    have q := h2 m hm
    rw [e7 m hm]
    refine ⟨q.1, ?_⟩
    have q2 := q.2
    unfold mCon at q2 ⊢
    rw [b0, b3, b7, b11]
    exact q2
/-- the class's side over what the reference changed -/
theorem l_gI (hOK : gOK g) {M : gI × gI} (hv1 : gInv (gW g M) (hG0 (gZ g)) R AR I1 AI1) (n1 : ∀ b c, gO (gW g (I2, AI2)) b c → c ≠ 7 → I2 b = I1 b) (n2 : ∀ b n, hG (gZ g) 9 b = n → n ≠ 5 → AI2 b = AI1 b) : gInv (gW g (I2, AI2)) (hG (gZ g)) R AR I2 AI2 := by
  obtain ⟨h1, h2, h3, h4, h5, h6, h7, h8⟩ := hv1
  have h1 : vRows (gW g (I2, AI2)) (hG (gZ g)) R I1 := h1
  have h2 : vC5 (gW g (I2, AI2)) (hG (gZ g)) AI1 := h2
  have h3 : vLine (gW g (I2, AI2)) (hG (gZ g)) R I1 AI1 := h3
  have h4 : vPlan (gW g (I2, AI2)) (hG (gZ g)) R AR I1 := h4
  have h5 : vX (gW g (I2, AI2)) (hG (gZ g)) R AR I1 := h5
  have h6 : vPr (gW g (I2, AI2)) (hG (gZ g)) R I1 := h6
  have h7 : vTk (gW g (I2, AI2)) (hG (gZ g)) R I1 AI1 := h7
  have h8 : vRk (gW g (I2, AI2)) (hG (gZ g)) R := h8.1
  exact ⟨vRows_c h1 (fun b hb => n1 b 4 hb (by decide)), vC5_c h2 h1 (fun b hb => n2 b _ hb (by decide)), vLine_c h3 (fun b hb => n1 b 0 hb (by decide)) (fun b hb => by rw [n1 b 2 hb (by decide)]) (fun b hb => n2 b _ hb (by decide)), vPlan_c h4 (fun b hb => n1 b 2 hb (by decide)), vX_c h5 (fun b hb => n1 b 6 hb (by decide)), vPr_c h6 (fun b hb => n1 b 1 hb (by decide)), vTk_c h7 (fun b hb => n1 b 5 hb (by decide)) (fun b hb => n2 b _ hb (by decide)) (fun b hb => n2 b _ hb (by decide)), h8, fun _ _ => rfl, fun _ _ => rfl, fun _ => ⟨(l_fz hOK).1, (l_fz hOK (M := (I2, AI2))).2, rfl, rfl⟩⟩
/-- the texts over a call that does not feed -/
theorem tEq_c (h0 : tEq g I AI) (hl : (I2 (gZ g + 0) 1).toInt = (I2 (gZ g + 205) 16).toInt) (hle : (I2 (gZ g + 0) 1).toInt ≤ (I (gZ g + 0) 1).toInt) (e1 : AI2 (gZ g + 1) = AI (gZ g + 1)) (e2 : AI2 (gZ g + 215) = AI (gZ g + 215)) : tEq g I2 AI2 :=
  ⟨hl, fun k hk => by rw [e2, e1]; exact h0.2.1 k (by omega), fun k => by rw [e1]; exact h0.2.2 k⟩
theorem bEq_c (h0 : bEq g I AI) (e1 : I2 (gZ g + 179) 3 = I (gZ g + 179) 3) (e2 : (I2 (gZ g + 205) 14).toInt = (I (gZ g + 205) 14).toInt) (a0 : AI2 (gZ g + 180) = AI (gZ g + 180)) (a1 : AI2 (gZ g + 212) = AI (gZ g + 212)) (a2 : AI2 (gZ g + 213) = AI (gZ g + 213)) (a3 : AI2 (gZ g + 214) = AI (gZ g + 214)) : bEq g I2 AI2 := by
  unfold bEq at h0 ⊢
  rw [e1, e2, a0, a1, a2, a3]; exact h0
theorem bEq_0 (e1 : (I2 (gZ g + 179) 3).toInt = 0) (e2 : (I2 (gZ g + 205) 14).toInt = 0) : bEq g I2 AI2 := by
  unfold bEq
  rw [e1, e2]
  exact ⟨rfl, ⟨by decide, by decide⟩, fun i hi => absurd hi (by omega), fun i j _ hj => absurd hj (by omega)⟩
theorem l_y {M : gI × gI} {I0 AI0 : gI} {p r y : Nat} (hv : gInv (gW g M) (hG0 (gZ g)) R AR I0 AI0) (hp : gO (gW g M) p 2) (hr : r < 16) (hy : AR (hG (gZ g) 6 p) r = some y) : gO (gW g M) y 0 ∧ hG (gZ g) 4 y = p := by
  obtain ⟨y', hy', hyO, h4, -⟩ := (hv.2.2.2.1 p hp).1.2.2.1 r hr
  have hy' : AR (hG (gZ g) 6 p) r = some y' := hy'
  have ey : y = y' := Option.some.inj (hy.symm.trans hy')
  subst ey
  exact ⟨hyO, h4⟩
theorem pEq_c {M : gI × gI} {I0 AI0 : gI} {p : Nat} (hv : gInv (gW g M) (hG0 (gZ g)) R AR I0 AI0) (hp : gO (gW g M) p 2) (h0 : pEq g I AR AI p) (e1 : I2 p = I p) (ey : ∀ y, gO (gW g M) y 0 → hG (gZ g) 4 y = p → I2 y = I y) (e2 : (I2 (gZ g + 205) 2).toInt = (I (gZ g + 205) 2).toInt) (a0 : AI2 (gZ g + 206) = AI (gZ g + 206)) : pEq g I2 AR AI2 p := by
  obtain ⟨nr, tb, cl, h1, h2, h3, h4, h5⟩ := h0
  refine ⟨nr, tb, cl, by rw [e1]; exact h1, h2, ⟨h3.1, e2.trans h3.2⟩, fun r hr y hy => ?_, fun r hr => by rw [a0]; exact h5 r hr⟩
  obtain ⟨hyO, hy4⟩ := l_y hv hp (by omega) hy
  rw [ey y hyO hy4]
  exact h4 r hr y hy
/-- the end of a call of both -/
theorem l_end (hOK : gOK g) {pA q bA nA bA1 nA1 : Nat} (h0 : lX g I R AI AR pA q bA nA) (hv1 : gInv (gW g (I, AI)) (hG0 (gZ g)) R1 AR I1 AI1) (hx1 : xS (gW g (I, AI)) (hG (gZ g)) R1 AR (gZ g + 0) pA bA1 nA1) (hq1 : R1 (gZ g + 2) 1 = some q) (fI : ∀ b c, gO (gW g (I, AI)) b c → c ≠ 4 → c ≠ 6 → I1 b = I b)
    (hmv2 : mInv (gW g (I1, AI1)) (hGm (gZ g)) R1 I2 AI2) (ht : AI2 (gZ g + 206) = AI1 (gZ g + 206)) (h2 : (I2 (gZ g + 205) 2).toInt = (I1 (gZ g + 205) 2).toInt) (h : (I1 (gZ g + 0) 1).toInt = (I2 (gZ g + 205) 16).toInt) (hle : (I1 (gZ g + 0) 1).toInt ≤ (I (gZ g + 0) 1).toInt) (hB : bEq g I2 AI2) (hE8 : lE8 g I2 AR AI2 pA bA1 nA1) : lInv g I2 R1 AI2 AR := by
  have n1 : ∀ b c, gO (gW g (I2, AI2)) b c → c ≠ 7 → I2 b = I1 b := hmv2.2.2.1
  have n2 : ∀ b n, hG (gZ g) 9 b = n → n ≠ 5 → AI2 b = AI1 b := fun b n hb hn => hmv2.2.2.2 b (hGm_ne hb hn)
  have hx2 : xS (gW g (I2, AI2)) (hG (gZ g)) R1 AR (gZ g + 0) pA bA1 nA1 := hx1
  have m1 : mSh (gW g (I2, AI2)) (hGm (gZ g)) R1 := hmv2.1
  have m2 : ∀ m, gO (gW g (I2, AI2)) m 7 → mNum (I2 m) ∧ mCon (hGm (gZ g)) (I2 m) AI2 := hmv2.2.1
  have e0 : I2 (gZ g + 0) = I1 (gZ g + 0) := n1 _ 6 hx2.1 (by decide)
  have c1 : AI2 (gZ g + 1) = AI (gZ g + 1) := (hmv2.2.2.2 _ (hGm_o rfl (by decide))).trans (l_t5 hv1 (o := 1) (by decide +kernel))
  have c2 : AI2 (gZ g + 215) = AI (gZ g + 215) := (hmv2.2.2.2 _ (hGm_o rfl (by decide))).trans (l_t5 hv1 (o := 215) (by decide +kernel))
  have c3 : AI2 (gZ g + 206) = AI (gZ g + 206) := ht.trans (l_t5 hv1 (o := 206) (by decide +kernel))
  refine ⟨l_gI hOK hv1 n1 n2, ⟨m1, m2, fun _ _ _ _ => rfl, fun _ _ => rfl⟩, pA, q, bA1, nA1, hx2, hq1, h0.2.2.1, tEq_c h0.2.2.2.1 (by rw [e0]; exact h) (by rw [e0]; exact hle) c1 c2, hB, ?_, hE8⟩
  have hp : gO (gW g (I, AI)) pA 2 := hx1.2.2.1
  exact pEq_c hv1 hp h0.2.2.2.2.2.1 ((n1 pA 2 hp (by decide)).trans (fI pA 2 hp (by decide) (by decide))) (fun y hy _ => (n1 y 0 hy (by decide)).trans (fI y 0 hy (by decide) (by decide))) (h2.trans (by rw [l_mo1 hOK hv1])) c3
/-- the batch over a call of both that does not change it -/
theorem l_bk (hOK : gOK g) {R2 : gR} (h0 : bEq g I AI) (hv1 : gInv (gW g (I, AI)) (hG (gZ g)) R1 AR I1 AI1) (hmv2 : mInv (gW g (I1, AI1)) (hGm (gZ g)) R2 I2 AI2) (h14 : (I2 (gZ g + 205) 14).toInt = (I1 (gZ g + 205) 14).toInt) : bEq g I2 AI2 := by
  have hv0 : gInv (gW g (I, AI)) (hG0 (gZ g)) R1 AR I1 AI1 := gInv_dn hv1
  have n1 : ∀ b c, gO (gW g (I1, AI1)) b c → c ≠ 7 → I2 b = I1 b := hmv2.2.2.1
  have e : ∀ o, (o = 212 ∨ o = 213 ∨ o = 214) → AI2 (gZ g + o) = AI1 (gZ g + o) := fun o ho => hmv2.2.2.2 _ (hGm_o rfl (by omega))
  refine bEq_c h0 ?_ ?_ ?_ ?_ ?_ ?_
  · rw [n1 (gZ g + 179) 4 (l_fz hOK).1 (by decide)]; exact (l_bz hv1).1
  · rw [h14, l_mo1 hOK hv0]
  · exact (hmv2.2.2.2 _ (hGm_ne (hG9.trans (show t9 180 = 1 by decide +kernel)) (by decide))).trans (l_bz hv1).2
  · exact (e 212 (by decide)).trans (l_t5 hv0 (o := 212) (by decide +kernel))
  · exact (e 213 (by decide)).trans (l_t5 hv0 (o := 213) (by decide +kernel))
  · exact (e 214 (by decide)).trans (l_t5 hv0 (o := 214) (by decide +kernel))
/-- the class feeds -/
theorem l_feed1 (hOK : gOK g) {pA bA nA : Nat} (hv : gInv (gW g (I, AI)) (hG (gZ g)) R AR I AI) (hx : xS (gW g (I, AI)) (hG (gZ g)) R AR (gZ g + 0) pA bA nA) (f1 : ∀ b, b ≠ gZ g + 0 → I1 b = I b) (f2 : ∀ j, j ≠ 1 → I1 (gZ g + 0) j = I (gZ g + 0) j) (f3 : ∀ b, b ≠ gZ g + 1 → AI1 b = AI b) (hl : 0 ≤ (I1 (gZ g + 0) 1).toInt ∧ (I1 (gZ g + 0) 1).toInt ≤ 936) : gInv (gW g (I1, AI1)) (hG (gZ g)) R AR I1 AI1 := by
  obtain ⟨h1, h2, h3, h4, h5, h6, h7, h8⟩ := hv
  have h1 : vRows (gW g (I1, AI1)) (hG (gZ g)) R I := h1
  have h2 : vC5 (gW g (I1, AI1)) (hG (gZ g)) AI := h2
  have h3 : vLine (gW g (I1, AI1)) (hG (gZ g)) R I AI := h3
  have h4 : vPlan (gW g (I1, AI1)) (hG (gZ g)) R AR I := h4
  have h5 : vX (gW g (I1, AI1)) (hG (gZ g)) R AR I := h5
  have h6 : vPr (gW g (I1, AI1)) (hG (gZ g)) R I := h6
  have h7 : vTk (gW g (I1, AI1)) (hG (gZ g)) R I AI := h7
  have h8 : vRk (gW g (I1, AI1)) (hG (gZ g)) R := h8.1
  have hx1 : gO (gW g (I1, AI1)) (gZ g + 0) 6 := hx.1
  have n1 : ∀ b c, gO (gW g (I1, AI1)) b c → c ≠ 6 → I1 b = I b := fun b c hb hc => f1 b (gO_ne hb hx1 hc)
  have t1 : hG (gZ g) 9 (gZ g + 1) = 5 := hG9.trans (by decide +kernel)
  have n2 : ∀ b n, hG (gZ g) 9 b = n → n ≠ 5 → AI1 b = AI b := fun b n hb hn => f3 b (fun q => hn (by rw [← hb, q, t1]))
  refine ⟨vRows_c h1 (fun b hb => n1 b 4 hb (by decide)), vC5_c h2 h1 (fun b hb => n2 b _ hb (by decide)), vLine_c h3 (fun b hb => n1 b 0 hb (by decide)) (fun b hb => by rw [n1 b 2 hb (by decide)]) (fun b hb => n2 b _ hb (by decide)), vPlan_c h4 (fun b hb => n1 b 2 hb (by decide)), fun y hy => ?_, vPr_c h6 (fun b hb => n1 b 1 hb (by decide)), vTk_c h7 (fun b hb => n1 b 5 hb (by decide)) (fun b hb => n2 b _ hb (by decide)) (fun b hb => n2 b _ hb (by decide)), h8, fun _ _ => rfl, fun _ _ => rfl, fun _ => ⟨(l_fz hOK).1, (l_fz hOK (M := (I1, AI1))).2, rfl, rfl⟩⟩
  obtain ⟨a1, a2, a3, a4, a5, a6, a7, a8, a9, a10, a11, a12, a13, a14⟩ := h5 y hy
  refine ⟨a1, a2, a3, a4, a5, a6, a7, a8, a9, a10, a11, a12, a13, ?_⟩
  obtain ⟨o, ho, rfl, hk⟩ := gO_o hOK hy
  have e := tK6 o ho hk
  subst e
  rw [f2 14 (by decide), f2 15 (by decide)]
  exact ⟨hl.1, hl.2, a14.2.2⟩
theorem l_feed1m {pA bA nA : Nat} (hmv : mInv (gW g (I, AI)) (hGm (gZ g)) R I AI) (hx : xS (gW g (I, AI)) (hG (gZ g)) R AR (gZ g + 0) pA bA nA) (f1 : ∀ b, b ≠ gZ g + 0 → I1 b = I b) (f3 : ∀ b, b ≠ gZ g + 1 → AI1 b = AI b) : mInv (gW g (I1, AI1)) (hGm (gZ g)) R I1 AI1 := by
  obtain ⟨h1, h2, -⟩ := hmv
  refine ⟨h1, fun m hm => ?_, fun _ _ _ _ => rfl, fun _ _ => rfl⟩
  have hm : gO (gW g (I, AI)) m 7 := hm
  have q := h2 m hm
  have b0 : AI1 (hGm (gZ g) 50 0) = AI (hGm (gZ g) 50 0) := f3 _ (show gZ g + 206 ≠ gZ g + 1 by omega)
  have b3 : AI1 (hGm (gZ g) 53 0) = AI (hGm (gZ g) 53 0) := f3 _ (show gZ g + 208 ≠ gZ g + 1 by omega)
  have b7 : AI1 (hGm (gZ g) 57 0) = AI (hGm (gZ g) 57 0) := f3 _ (show gZ g + 211 ≠ gZ g + 1 by omega)
  have b11 : AI1 (hGm (gZ g) 61 0) = AI (hGm (gZ g) 61 0) := f3 _ (show gZ g + 212 ≠ gZ g + 1 by omega)
  rw [f1 m (gO_ne hm hx.1 (by decide))]
  refine ⟨q.1, ?_⟩
  have q2 := q.2
  unfold mCon at q2 ⊢
  rw [b0, b3, b7, b11]
  exact q2
/-- the reference feeds -/
theorem l_feed2m (hOK : gOK g) (hmv : mInv (gW g (I1, AI1)) (hGm (gZ g)) R I1 AI1) (f1 : ∀ b, b ≠ gZ g + 205 → I2 b = I1 b) (f2 : ∀ j, j ≠ 16 → j ≠ 17 → I2 (gZ g + 205) j = I1 (gZ g + 205) j) (f3 : ∀ b, b ≠ gZ g + 215 → AI2 b = AI1 b) (hl : 0 ≤ (I2 (gZ g + 205) 16).toInt ∧ (I2 (gZ g + 205) 16).toInt ≤ 936) : mInv (gW g (I2, AI2)) (hGm (gZ g)) R I2 AI2 := by
  obtain ⟨h1, h2, -⟩ := hmv
  refine ⟨h1, fun m hm => ?_, fun _ _ _ _ => rfl, fun _ _ => rfl⟩
  obtain ⟨o, ho, rfl, hk⟩ := gO_o hOK hm
  have e := tK7 o ho hk
  subst e
  have q := h2 _ (l_mo hOK)
  have b0 : AI2 (hGm (gZ g) 50 0) = AI1 (hGm (gZ g) 50 0) := f3 _ (show gZ g + 206 ≠ gZ g + 215 by omega)
  have b3 : AI2 (hGm (gZ g) 53 0) = AI1 (hGm (gZ g) 53 0) := f3 _ (show gZ g + 208 ≠ gZ g + 215 by omega)
  have b7 : AI2 (hGm (gZ g) 57 0) = AI1 (hGm (gZ g) 57 0) := f3 _ (show gZ g + 211 ≠ gZ g + 215 by omega)
  have b11 : AI2 (hGm (gZ g) 61 0) = AI1 (hGm (gZ g) 61 0) := f3 _ (show gZ g + 212 ≠ gZ g + 215 by omega)
  have q1 := q.1
  have q2 := q.2
  unfold mNum at q1
  unfold mCon at q2
  unfold mNum mCon
  rw [b0, b3, b7, b11, f2 2 (by decide) (by decide), f2 5 (by decide) (by decide), f2 8 (by decide) (by decide), f2 14 (by decide) (by decide), f2 18 (by decide) (by decide), f2 19 (by decide) (by decide), f2 20 (by decide) (by decide), f2 21 (by decide) (by decide), f2 23 (by decide) (by decide), f2 24 (by decide) (by decide), f2 26 (by decide) (by decide)]
  obtain ⟨c1, c2, c3, c4, c5, c6, c7, c8, c9, c10, c11⟩ := q1
  exact ⟨⟨c1, c2, c3, c4, c5, c6, c7, c8, hl.1, hl.2, c11⟩, q2⟩
/-- both feed the same three longs: the texts stay one -/
theorem l_feedT {b1 b2 b3 : Int64} {L : Int} {A0 A1 B0 B1 : Nat → Int32} (h0 : 0 ≤ L) (hA : ∀ k : Nat, (k : Int) < L → B0 k = A0 k &&& 255) (hr : ∀ k : Nat, -128 ≤ (A0 k).toInt ∧ (A0 k).toInt ≤ 127)
    (a : (∀ k : Nat, (k : Int) < L ∨ L + 24 ≤ (k : Int) → A1 k = A0 k) ∧ (∀ i : Nat, i < 8 → A1 (L.toNat + 0 + i) = cBs b1 (56 - 8 * (i : Int))) ∧ (∀ i : Nat, i < 8 → A1 (L.toNat + 8 + i) = cBs b2 (56 - 8 * (i : Int))) ∧ (∀ i : Nat, i < 8 → A1 (L.toNat + 16 + i) = cBs b3 (56 - 8 * (i : Int))))
    (b : (∀ k : Nat, (k : Int) < L ∨ L + 24 ≤ (k : Int) → B1 k = B0 k) ∧ (∀ i : Nat, i < 8 → B1 (L.toNat + 0 + i) = mBs b1 (56 - 8 * (i : Int))) ∧ (∀ i : Nat, i < 8 → B1 (L.toNat + 8 + i) = mBs b2 (56 - 8 * (i : Int))) ∧ (∀ i : Nat, i < 8 → B1 (L.toNat + 16 + i) = mBs b3 (56 - 8 * (i : Int)))) :
    (∀ k : Nat, (k : Int) < L + 24 → B1 k = A1 k &&& 255) ∧ ∀ k : Nat, -128 ≤ (A1 k).toInt ∧ (A1 k).toInt ≤ 127 := by
  obtain ⟨a0, a1, a2, a3⟩ := a
  obtain ⟨c0, c1, c2, c3⟩ := b
  have be : ∀ (v : Int64) (i : Nat), i < 8 → cBs v (56 - 8 * (i : Int)) &&& 255 = mBs v (56 - 8 * (i : Int)) := fun v i hi => by
    rw [show (56 : Int) - 8 * (i : Int) = ((56 - 8 * i : Nat) : Int) by omega]
    exact by_eq v (by omega)
  have sp : ∀ k : Nat, ((k : Int) < L ∨ L + 24 ≤ (k : Int)) ∨ (∃ i : Nat, i < 8 ∧ k = L.toNat + 0 + i) ∨ (∃ i : Nat, i < 8 ∧ k = L.toNat + 8 + i) ∨ (∃ i : Nat, i < 8 ∧ k = L.toNat + 16 + i) := fun k => by
    by_cases q0 : (k : Int) < L ∨ L + 24 ≤ (k : Int)
    · exact Or.inl q0
    · by_cases q1 : k < L.toNat + 8
      · exact Or.inr (Or.inl ⟨k - L.toNat, by omega, by omega⟩)
      · by_cases q2 : k < L.toNat + 16
        · exact Or.inr (Or.inr (Or.inl ⟨k - L.toNat - 8, by omega, by omega⟩))
        · exact Or.inr (Or.inr (Or.inr ⟨k - L.toNat - 16, by omega, by omega⟩))
  refine ⟨fun k hk => ?_, fun k => ?_⟩
  · rcases sp k with q | ⟨i, hi, rfl⟩ | ⟨i, hi, rfl⟩ | ⟨i, hi, rfl⟩
    · rw [a0 k q, c0 k q]; exact hA k (by omega)
    · rw [a1 i hi, c1 i hi]; exact (be b1 i hi).symm
    · rw [a2 i hi, c2 i hi]; exact (be b2 i hi).symm
    · rw [a3 i hi, c3 i hi]; exact (be b3 i hi).symm
  · rcases sp k with q | ⟨i, hi, rfl⟩ | ⟨i, hi, rfl⟩ | ⟨i, hi, rfl⟩
    · rw [a0 k q]; exact hr k
    · rw [a1 i hi]; exact by_r _ _
    · rw [a2 i hi]; exact by_r _ _
    · rw [a3 i hi]; exact by_r _ _
/-- what a feed's answer says of length and bytes -/
def fdP (f : Int64 → Int → Int32) (b1 b2 b3 : Int64) (L L' z : Int) (A A' : Nat → Int32) : Prop :=
  (936 < L + 24 ∧ z = -1 ∧ L' = L ∧ A' = A) ∨ (L + 24 ≤ 936 ∧ z = L + 24 ∧ L' = L + 24 ∧ (∀ k : Nat, (k : Int) < L ∨ L + 24 ≤ (k : Int) → A' k = A k) ∧ (∀ i : Nat, i < 8 → A' (L.toNat + 0 + i) = f b1 (56 - 8 * (i : Int))) ∧ (∀ i : Nat, i < 8 → A' (L.toNat + 8 + i) = f b2 (56 - 8 * (i : Int))) ∧ (∀ i : Nat, i < 8 → A' (L.toNat + 16 + i) = f b3 (56 - 8 * (i : Int))))
theorem fdP_l {f : Int64 → Int → Int32} {b1 b2 b3 : Int64} {L L' z : Int} {A A' : Nat → Int32} (h : fdP f b1 b2 b3 L L' z A A') (h0 : 0 ≤ L ∧ L ≤ 936) : 0 ≤ L' ∧ L' ≤ 936 := by
  rcases h with ⟨_, _, h, _⟩ | ⟨a, _, h, _⟩ <;> omega
theorem l_feed2 (hOK : gOK g) {pA q bA nA : Nat} {b1 b2 b3 : Int64} {v1 v2 : Int} (hX : lX g I R AI AR pA q bA nA) (hl0 : 0 ≤ (I (gZ g + 0) 1).toInt) (hv1 : gInv (gW g (I1, AI1)) (hG (gZ g)) R AR I1 AI1) (hmv : mInv (gW g (I1, AI1)) (hGm (gZ g)) R I1 AI1)
    (e1 : ∀ b, b ≠ gZ g + 0 → I1 b = I b) (e3 : ∀ b, b ≠ gZ g + 1 → AI1 b = AI b) (d1 : fdP cBs b1 b2 b3 (I (gZ g + 0) 1).toInt (I1 (gZ g + 0) 1).toInt v1 (AI (gZ g + 1)) (AI1 (gZ g + 1)))
    (f1 : ∀ b, b ≠ gZ g + 205 → I2 b = I1 b) (f2 : ∀ j, j ≠ 16 → j ≠ 17 → I2 (gZ g + 205) j = I1 (gZ g + 205) j) (f3 : ∀ b, b ≠ gZ g + 215 → AI2 b = AI1 b) (d2 : fdP mBs b1 b2 b3 (I1 (gZ g + 205) 16).toInt (I2 (gZ g + 205) 16).toInt v2 (AI1 (gZ g + 215)) (AI2 (gZ g + 215))) (hE8 : lE8 g I2 AR AI2 pA bA nA) : lInv g I2 R AI2 AR := by
  obtain ⟨hx, hq, hqp, h0, hB, hP, hE9⟩ := hX
  have i5 : I1 (gZ g + 205) = I (gZ g + 205) := e1 _ (by omega)
  have i0 : I2 (gZ g + 0) = I1 (gZ g + 0) := f1 _ (by omega)
  have a5 : AI1 (gZ g + 215) = AI (gZ g + 215) := e3 _ (by omega)
  have a1 : AI2 (gZ g + 1) = AI1 (gZ g + 1) := f3 _ (by omega)
  have t5 : hG (gZ g) 9 (gZ g + 215) = 5 := hG9.trans (by decide +kernel)
  have hx2 : xS (gW g (I2, AI2)) (hG (gZ g)) R AR (gZ g + 0) pA bA nA := hx
  have hx1 : xS (gW g (I1, AI1)) (hG (gZ g)) R AR (gZ g + 0) pA bA nA := hx
  have hmo : gO (gW g (I2, AI2)) (gZ g + 205) 7 := l_mo hOK
  have b9 : (I1 (gZ g + 0) 1).toInt ≤ 936 := l_len9 hv1 hx1
  rw [i5, a5, ← h0.1] at d2
  have hl9 : (I (gZ g + 0) 1).toInt ≤ 936 := by
    rcases d1 with ⟨_, _, h, _⟩ | ⟨a, _, h, _⟩ <;> omega
  have hb := fdP_l d2 ⟨hl0, hl9⟩
  have o5 : ∀ b c, gO (gW g (I, AI)) b c → c ≠ 6 → c ≠ 7 → I2 b = I b := fun b c hb h6 h7 => (f1 b (gO_ne hb (l_mo hOK) h7)).trans (e1 b (gO_ne hb hx.1 h6))
  have hA : ∀ o, o ≠ 1 → o ≠ 215 → AI2 (gZ g + o) = AI (gZ g + o) := fun o h1 h2 => (f3 _ (by omega)).trans (e3 _ (by omega))
  refine ⟨l_gI hOK (gInv_dn hv1) (fun b c hb hc => f1 b (gO_ne hb hmo hc)) (fun b n hb hn => f3 b (fun q => hn (by rw [← hb, q, t5]))), l_feed2m hOK hmv f1 f2 f3 hb, pA, q, bA, nA, hx2, hq, hqp, ?_, bEq_c hB (by rw [o5 (gZ g + 179) 4 (l_fz hOK).1 (by decide) (by decide)]) (by rw [f2 14 (by decide) (by decide), i5]) (hA 180 (by decide) (by decide)) (hA 212 (by decide) (by decide)) (hA 213 (by decide) (by decide)) (hA 214 (by decide) (by decide)), pEq_c (gInv_dn hv1) hx1.2.2.1 hP (o5 pA 2 hx.2.2.1 (by decide) (by decide)) (fun y hy _ => o5 y 0 hy (by decide) (by decide)) (by rw [f2 2 (by decide) (by decide), i5]) (hA 206 (by decide) (by decide)), hE8⟩
  unfold tEq
  rw [i0, a1]
  rcases d1 with ⟨x1, x2, x3, x4⟩ | ⟨x1, x2, x3, x4⟩
  · rcases d2 with ⟨y1, y2, y3, y4⟩ | ⟨y1, y2, y3, y4⟩
    · rw [x3, y3, x4, y4]
      exact ⟨rfl, h0.2.1, h0.2.2⟩
    · exact absurd y1 (by omega)
  · rcases d2 with ⟨y1, y2, y3, y4⟩ | ⟨y1, y2, y3, y4⟩
    · exact absurd y1 (by omega)
    · rw [x3, y3]
      exact ⟨rfl, l_feedT hl0 h0.2.1 h0.2.2 x4 y4⟩
/-- the text that both plans read -/
def lTx (g : gG) (AI : gI) : tTx := fun k => (AI (gZ g + 1) k).toInt
theorem lTx_m (h0 : tEq g I AI) (e : AI1 (gZ g + 215) = AI (gZ g + 215)) (k : Nat) (hk : k < (I (gZ g + 0) 1).toInt.toNat) : ((gM (gW g (I1, AI1))).2 (hGm (gZ g) 65 0) k).toInt = lTx g AI k % 256 := by
  show (AI1 (gZ g + 215) k).toInt = (AI (gZ g + 1) k).toInt % 256
  rw [e, h0.2.1 k (by omega)]
  exact by_n _ (h0.2.2 k)
/-- both plans have been called -/
theorem l_plan (hOK : gOK g) {pA q bA nA n : Nat} {J J1 : gJ} {b : tTx} {z : Int} (hX : lX g I R AI AR pA q bA nA) (hv1 : gInv (gW g (I, AI)) (hG0 (gZ g)) R1 AR I1 AI1) (e01 : (I1 (gZ g + 0) 1).toInt = 0) (p1 : plE (gW g (I, AI)) (hG0 (gZ g)) AR I J AI R1 I1 J1 AI1 (gZ g + 0) pA q bA nA b n z)
    (hmv2 : mInv (gW g (I1, AI1)) (hGm (gZ g)) R1 I2 AI2) (e02 : (I2 (gZ g + 205) 16).toInt = 0) (p2 : plM (hGm (gZ g)) (AI1 (gZ g + 206)) I1 I2 AI2 (gZ g + 205) b n z) (hl0 : 0 ≤ (I (gZ g + 0) 1).toInt) (hqO : gO (gW g (I, AI)) q 2) (hE8a : z < 0 → lE8 g I2 AR AI2 pA bA nA) (hE8b : 0 ≤ z → lE8 g I2 AR AI2 q bA nA) : lInv g I2 R1 AI2 AR := by
  obtain ⟨hx, hq, hqp, h0, hB, hP, hE9⟩ := hX
  have n1 : ∀ b c, gO (gW g (I2, AI2)) b c → c ≠ 7 → I2 b = I1 b := hmv2.2.2.1
  have n2 : ∀ b n, hG (gZ g) 9 b = n → n ≠ 5 → AI2 b = AI1 b := fun b n hb hn => hmv2.2.2.2 b (hGm_ne hb hn)
  have m1 : mSh (gW g (I2, AI2)) (hGm (gZ g)) R1 := hmv2.1
  have m2 : ∀ m, gO (gW g (I2, AI2)) m 7 → mNum (I2 m) ∧ mCon (hGm (gZ g)) (I2 m) AI2 := hmv2.2.1
  have c1 : AI2 (gZ g + 1) = AI (gZ g + 1) := (hmv2.2.2.2 _ (hGm_o rfl (by decide))).trans (l_t5 hv1 (o := 1) (by decide +kernel))
  have c2 : AI2 (gZ g + 215) = AI (gZ g + 215) := (hmv2.2.2.2 _ (hGm_o rfl (by decide))).trans (l_t5 hv1 (o := 215) (by decide +kernel))
  have e : ∀ o, (o = 212 ∨ o = 213 ∨ o = 214) → AI2 (gZ g + o) = AI1 (gZ g + o) := fun o ho => hmv2.2.2.2 _ (hGm_o rfl (by omega))
  have e0 : I2 (gZ g + 0) = I1 (gZ g + 0) := n1 _ 6 hx.1 (by decide)
  have tE : tEq g I2 AI2 := tEq_c h0 (by rw [e0, e01, e02]) (by rw [e0, e01]; exact hl0) c1 c2
  have i5 := l_mo1 hOK hv1
  have b179 : I2 (gZ g + 179) = I1 (gZ g + 179) := n1 _ 4 (l_fz hOK).1 (by decide)
  refine ⟨l_gI hOK hv1 n1 n2, ⟨m1, m2, fun _ _ _ _ => rfl, fun _ _ => rfl⟩, ?_⟩
  rcases p1 with ⟨z1, x1, x2, x3, x4, x5, x6⟩ | ⟨z1, x1, x2, x3, x4, x5⟩
  · rcases p2 with ⟨z2, y1, y2, y3⟩ | ⟨z2, _⟩
    · have x5 : I1 (gZ g + 179) 3 = I (gZ g + 179) 3 := x5
      have x6 : AI1 (gZ g + 180) = AI (gZ g + 180) := x6
      have y1 : AI2 (gZ g + 206) = AI1 (gZ g + 206) := y1
      refine ⟨pA, q, bA, nA, x1, x2, hqp, tE, bEq_c hB (by rw [b179]; exact x5) (by rw [y3, i5]) ((hmv2.2.2.2 _ (hGm_ne (hG9.trans (show t9 180 = 1 by decide +kernel)) (by decide))).trans x6) ((e 212 (by decide)).trans (l_t5 hv1 (o := 212) (by decide +kernel))) ((e 213 (by decide)).trans (l_t5 hv1 (o := 213) (by decide +kernel))) ((e 214 (by decide)).trans (l_t5 hv1 (o := 214) (by decide +kernel))), ?_, hE8a z1⟩
      exact pEq_c hv1 hx.2.2.1 hP ((n1 pA 2 hx.2.2.1 (by decide)).trans x3) (fun y hy h4 => (n1 y 0 hy (by decide)).trans (x4 y hy h4).1) (by rw [y2, i5]) (y1.trans (l_t5 hv1 (o := 206) (by decide +kernel)))
    · exfalso; omega
  · rcases p2 with ⟨z2, _⟩ | ⟨z2, y1, y2, y3⟩
    · exfalso; omega
    · have x5 : (I1 (gZ g + 179) 3).toInt = 0 := x5
      have k := sPlF_k b n
      refine ⟨q, pA, bA, nA, x1, x2, fun w => hqp w.symm, tE, bEq_0 (by rw [b179]; exact x5) y3, ⟨(sPlF b n).1, (sPlF b n).2.2.2, (sPlF b n).2.2.1, by rw [n1 q 2 hqO (by decide)]; exact x4, ⟨k.1, k.2.1⟩, ⟨x3.2.1, y1⟩, fun r hr y hy => ?_, fun r hr => ?_⟩, hE8b z1⟩
      · have k2 := k.2.1
        have h16 := x3.2.1
        have hr16 : r < (sPlF b n).1 := by omega
        obtain ⟨hyO, -⟩ := l_y hv1 hqO (show r < 16 by omega) hy
        rw [n1 y 0 hyO (by decide)]
        exact (x3.2.2.1 r hr16 y hy).2
      · have w := y2 r hr
        have w1 : tI (AI2 (gZ g + 206)) (40 * (r : Int) + 1) = (sPlF b n).2.2.1 r := w.1
        have w2 : tI (AI2 (gZ g + 206)) (40 * (r : Int)) = kdT b n ((sPlF b n).2.1 r) := w.2
        refine ⟨w1, ?_⟩
        rw [w2]
        exact k.2.2 r hr
/-- the reference's side, where its changes may change -/
theorem l_mc (hmv : mInv (gW g (I, AI)) (hGm (gZ g)) R I AI) : mInv (gW g (I, AI)) (hGc (gZ g)) R I AI := by
  obtain ⟨h1, h2, -⟩ := hmv
  refine ⟨fun m hm => ⟨(h1 m hm).1, fun q hq => ?_, (h1 m hm).2.2⟩, h2, fun _ _ _ _ => rfl, fun _ _ => rfl⟩
  have w := (h1 m hm).2.1 q hq
  exact ⟨w.1, w.2.1, fun a b c d => hGm_c (w.2.2.1 a b c d), w.2.2.2⟩
/-- both have changed their batches -/
theorem l_change (hOK : gOK g) {pA q bA nA : Nat} {u : Nat → Int} {v1 v2 tb n kd : Int} (hX : lX g I R AI AR pA q bA nA) (hk : 0 ≤ tb → (tb < (I pA 2).toInt ↔ tb < (I (gZ g + 205) 2).toInt ∧ kd = 0)) (hv1 : gInv (gW g (I, AI)) (hG0 (gZ g)) R AR I1 AI1) (f1 : ∀ b, b ≠ gZ g + 179 → I1 b = I b) (f2 : ∀ b, b ≠ gZ g + 187 → b ≠ gZ g + 180 → AI1 b = AI b)
    (c1 : chP (I pA 2).toInt tb n v1 (I (gZ g + 179) 3).toInt (I1 (gZ g + 179) 3).toInt (AI (gZ g + 180)) (AI1 (gZ g + 180)) u)
    (hmv2 : mInv (gW g (I1, AI1)) (hGc (gZ g)) R I2 AI2) (ht : AI2 (gZ g + 206) = AI1 (gZ g + 206)) (mf : mF (gZ g + 205) I1 I2)
    (c2 : chR (I1 (gZ g + 205) 2).toInt kd tb n v2 (I1 (gZ g + 205) 14).toInt (I2 (gZ g + 205) 14).toInt (AI1 (gZ g + 212)) (AI1 (gZ g + 213)) (AI1 (gZ g + 214)) (AI2 (gZ g + 212)) (AI2 (gZ g + 213)) (AI2 (gZ g + 214)) u) (hE8 : bEq g I2 AI2 → lE8 g I2 AR AI2 pA bA nA) : v1 = v2 ∧ lInv g I2 R AI2 AR := by
  obtain ⟨hx, hq, hqp, h0, hB, hP, hE9⟩ := hX
  have n1 : ∀ b c, gO (gW g (I2, AI2)) b c → c ≠ 7 → I2 b = I1 b := hmv2.2.2.1
  have n2 : ∀ b n, hG (gZ g) 9 b = n → n ≠ 5 → AI2 b = AI1 b := fun b n hb hn => hmv2.2.2.2 b (hGc_ne hb hn)
  have m2 : ∀ m, gO (gW g (I2, AI2)) m 7 → mNum (I2 m) ∧ mCon (hGm (gZ g)) (I2 m) AI2 := hmv2.2.1
  have i5 : I1 (gZ g + 205) = I (gZ g + 205) := f1 _ (by omega)
  have i0 : I2 (gZ g + 0) = I (gZ g + 0) := (n1 _ 6 hx.1 (by decide)).trans (f1 _ (by omega))
  have hA : ∀ o, o ≠ 187 → o ≠ 180 → AI1 (gZ g + o) = AI (gZ g + o) := fun o h1 h2 => f2 _ (by omega) (by omega)
  have tO : ∀ o, (o = 1 ∨ o = 215) → AI2 (gZ g + o) = AI1 (gZ g + o) := fun o ho => hmv2.2.2.2 _ (by
    have e : hGc (gZ g) 9 (gZ g + o) = 0 := if_pos (by omega)
    rw [e]; decide)
  have b179 : I2 (gZ g + 179) = I1 (gZ g + 179) := n1 _ 4 (l_fz hOK).1 (by decide)
  have c180 : AI2 (gZ g + 180) = AI1 (gZ g + 180) := n2 _ 1 (hG9.trans (by decide +kernel)) (by decide)
  have mfj : ∀ j, (j = 2 ∨ j = 16) → I2 (gZ g + 205) j = I1 (gZ g + 205) j := fun j hj => mf j (by omega) (by omega) (by omega) (by omega) (by omega) (by omega)
  rw [i5, hA 212 (by decide) (by decide), hA 213 (by decide) (by decide), hA 214 (by decide) (by decide), ← hB.1] at c2
  obtain ⟨r1, r2, r3, r4, r5⟩ := ch_eq hB.2.1 hB.2.2.1 hB.2.2.2 hk c1 c2
  have hBE : bEq g I2 AI2 := by
    unfold bEq
    rw [b179, c180]
    exact ⟨r2, r3, r4, r5⟩
  refine ⟨r1, l_gI hOK hv1 n1 n2, ⟨?_, m2, fun _ _ _ _ => rfl, fun _ _ => rfl⟩, pA, q, bA, nA, hx, hq, hqp, ?_, hBE, ?_, hE8 hBE⟩
  · intro m hm
    have w := hmv2.1 m hm
    refine ⟨w.1, fun q hq => ?_, w.2.2⟩
    have z := w.2.1 q hq
    refine ⟨z.1, z.2.1, fun a b c d => ?_, z.2.2.2⟩
    obtain ⟨o, ho, rfl, hk⟩ := gO_o hOK hm
    have e := tK7 o ho hk
    subst e
    have z2 := ((s_minv hOK).1 (gZ g + 205) (l_mo hOK)).2.1 q hq
    exact z2.2.2.1 a b c d
  · exact tEq_c h0 (by rw [i0, mfj 16 (by decide), i5]; exact h0.1) (by rw [i0]; exact Int.le_refl _) ((tO 1 (by decide)).trans (hA 1 (by decide) (by decide))) ((tO 215 (by decide)).trans (hA 215 (by decide) (by decide)))
  · exact pEq_c hv1 hx.2.2.1 hP ((n1 pA 2 hx.2.2.1 (by decide)).trans (f1 pA (gO_ne hx.2.2.1 (l_fz hOK).1 (by decide)))) (fun y hy _ => (n1 y 0 hy (by decide)).trans (f1 y (gO_ne hy (l_fz hOK).1 (by decide)))) (by rw [mfj 2 (by decide), i5]) (ht.trans (hA 206 (by decide) (by decide)))
theorem l_b0 (hOK : gOK g) (hmv2 : mInv (gW g (I1, AI1)) (hGm (gZ g)) R I2 AI2) (b0 : (I1 (gZ g + 179) 3).toInt = 0) (c0 : (I2 (gZ g + 205) 14).toInt = 0) : bEq g I2 AI2 := by
  have n1 : I2 (gZ g + 179) = I1 (gZ g + 179) := hmv2.2.2.1 _ 4 (l_fz hOK).1 (by decide)
  exact bEq_0 (by rw [n1]; exact b0) c0
theorem l_qO (hOK : gOK g) {q : Nat} (hv : gInv (gW g (I, AI)) (hG (gZ g)) R AR I AI) (hq : R (gZ g + 2) 1 = some q) : gO (gW g (I, AI)) q 2 := by
  obtain ⟨q', a, b⟩ := (hv.2.2.2.2.2.1 (gZ g + 2) (gO_i hOK (o := 2) (by decide) (by decide +kernel))).2.1
  have e : q' = q := Option.some.inj (a.symm.trans hq)
  rw [← e]; exact b
theorem l_h6 {o : Nat} (ho : o ≠ 1 ∧ o ≠ 215) (h9 : t9 o = 5) : hGc (gZ g) 9 (gZ g + o) = 5 := (hGc9 (by omega)).trans (hG9.trans h9)
theorem chR_u {many kd tb n z len len' : Int} {T V C T' V' C' : Nat → Int32} {u u' : Nat → Int} (h : chR many kd tb n z len len' T V C T' V' C' u) (e : 0 ≤ tb → tb < many → u = u') : chR many kd tb n z len len' T V C T' V' C' u' := by
  rcases h with h | ⟨h1, h2⟩
  · exact Or.inl h
  · exact Or.inr ⟨h1, e h1.1 h1.2.1 ▸ h2⟩
theorem l_chg (hOK : gOK g) {pA q bA nA nr : Nat} {tbs tb a b c d n v1 v2 : Int} {cl : Nat → Int} (hX : lX g I R AI AR pA q bA nA) (pe1 : (I pA 2).toInt = tbs) (pe2 : 0 ≤ tbs ∧ tbs ≤ (nr : Int)) (pe3 : nr ≤ 16 ∧ (I (gZ g + 205) 2).toInt = (nr : Int)) (pe5 : ∀ r : Nat, r < nr → tI (AI (gZ g + 206)) (40 * (r : Int) + 1) = cl r ∧ (tI (AI (gZ g + 206)) (40 * (r : Int)) = 0 ↔ (r : Int) < tbs))
    (hv1 : gInv (gW g (I, AI)) (hG0 (gZ g)) R AR I1 AI1) (f1 : ∀ b, b ≠ gZ g + 179 → I1 b = I b) (f2 : ∀ b, b ≠ gZ g + 187 → b ≠ gZ g + 180 → AI1 b = AI b)
    (c1 : chP (I pA 2).toInt tb n v1 (I (gZ g + 179) 3).toInt (I1 (gZ g + 179) 3).toInt (AI (gZ g + 180)) (AI1 (gZ g + 180)) (cky tb a b c d (cl tb.toNat)))
    (hmv2 : mInv (gW g (I1, AI1)) (hGc (gZ g)) R I2 AI2) (ht : AI2 (gZ g + 206) = AI1 (gZ g + 206)) (mf : mF (gZ g + 205) I1 I2)
    (c2 : chR (I1 (gZ g + 205) 2).toInt (tI (AI1 (gZ g + 206)) (40 * tb)) tb n v2 (I1 (gZ g + 205) 14).toInt (I2 (gZ g + 205) 14).toInt (AI1 (gZ g + 212)) (AI1 (gZ g + 213)) (AI1 (gZ g + 214)) (AI2 (gZ g + 212)) (AI2 (gZ g + 213)) (AI2 (gZ g + 214)) (cky tb a b c d (tI (AI1 (gZ g + 206)) (40 * tb + 1)))) (hE8 : bEq g I2 AI2 → lE8 g I2 AR AI2 pA bA nA) : v1 = v2 ∧ lInv g I2 R AI2 AR := by
  have e206 : AI1 (gZ g + 206) = AI (gZ g + 206) := f2 _ (by omega) (by omega)
  have i5 : I1 (gZ g + 205) = I (gZ g + 205) := f1 _ (by omega)
  refine l_change hOK hX (fun h0 => ?_) hv1 f1 f2 c1 hmv2 ht mf (chR_u c2 (fun h0 h1 => ?_)) hE8
  · rw [pe1, pe3.2, e206]
    by_cases w : tb < (nr : Int)
    · have z := (pe5 tb.toNat (by omega)).2
      rw [show 40 * ((tb.toNat : Nat) : Int) = 40 * tb by omega] at z
      omega
    · omega
  · rw [i5, pe3.2] at h1
    have z := (pe5 tb.toNat (by omega)).1
    rw [show 40 * ((tb.toNat : Nat) : Int) = 40 * tb by omega] at z
    rw [e206, z]
/-- both have changed their batches: the engine -/
theorem lE_chg (hOK : gOK g) {pA q bA nA nr : Nat} {R2 : gR} {tb a b c d n v1 : Int} {clp : Nat → Int} (hv : gInv (gW g (I, AI)) (hG0 (gZ g)) R AR I AI) (hX : lX g I R AI AR pA q bA nA) (hc : ∀ r : Nat, r < nr → tI (AI (gZ g + 206)) (40 * (r : Int) + 1) = clp r ∧ (tI (AI (gZ g + 206)) (40 * (r : Int)) = 0 ↔ (r : Int) < (I pA 2).toInt)) (hn : (I (gZ g + 205) 2).toInt = (nr : Int))
    (hv1 : gInv (gW g (I, AI)) (hG0 (gZ g)) R AR I1 AI1) (f1 : ∀ b, b ≠ gZ g + 179 → I1 b = I b) (f2 : ∀ b, b ≠ gZ g + 187 → b ≠ gZ g + 180 → AI1 b = AI b)
    (c1 : chP (I pA 2).toInt tb n v1 (I (gZ g + 179) 3).toInt (I1 (gZ g + 179) 3).toInt (AI (gZ g + 180)) (AI1 (gZ g + 180)) (cky tb a b c d (clp tb.toNat)))
    (hmv2 : mInv (gW g (I1, AI1)) (hGc (gZ g)) R2 I2 AI2) (ht : AI2 (gZ g + 206) = AI1 (gZ g + 206)) (mf : mF (gZ g + 205) I1 I2) (h8 : I2 (gZ g + 205) 8 = I1 (gZ g + 205) 8 ∧ I2 (gZ g + 205) 9 = I1 (gZ g + 205) 9 ∧ I2 (gZ g + 205) 10 = I1 (gZ g + 205) 10) (f3 : ∀ b, b ≠ gZ g + 212 → b ≠ gZ g + 213 → b ≠ gZ g + 214 → b ≠ gZ g + 217 → AI2 b = AI1 b) : bEq g I2 AI2 → lE8 g I2 AR AI2 pA bA nA := fun hBE => by
  obtain ⟨hx, hq, hqp, h0, hB, hP, nr8, tbs, cc, cl, hP8, hQ8, hB8⟩ := hX
  have ho := (l_fz hOK (M := (I, AI))).1
  have n1 : ∀ b c, gO (gW g (I2, AI2)) b c → c ≠ 7 → I2 b = I1 b := hmv2.2.2.1
  have n2 := e_n2c hmv2
  have hD := hQ8.2.2.2.1
  have k := kC_37 hv1 hx hD ho f1 f2
  have h2 : (I2 (gZ g + 205) 2).toInt = (I1 (gZ g + 205) 2).toInt := by rw [mf 2 (by decide) (by decide) (by decide) (by decide) (by decide) (by decide)]
  have ex : I2 (gZ g + 0) = I1 (gZ g + 0) := n1 _ 6 hx.1 (by decide)
  have fI : ∀ b c, gO (gW g (I, AI)) b c → c ≠ 4 → c ≠ 6 → I1 b = I b := fun b c hb h4 _ => f1 b (gO_ne hb ho h4)
  have q179 : I2 (gZ g + 179) = I1 (gZ g + 179) := n1 _ 4 (l_fz hOK (M := (I2, AI2))).1 (by decide)
  have q180 : AI2 (gZ g + 180) = AI1 (gZ g + 180) := n2 _ 1 (hG9.trans (by decide +kernel)) (by decide)
  have ht2 := hP8.2.1
  refine ⟨nr8, tbs, cc, cl, lP_k hOK hv1 hx.2.2.1 hP8 fI k.1 n1 n2 ht h2, lQ_k hOK hv1 hx hP8 hQ8 k.2.1 ⟨k.2.2.1 14 (by decide), k.2.2.1 15 (by decide)⟩ k.2.2.2 n1 n2 (s_g (fun b a1 a2 a3 a4 _ => f3 b a1 a2 a3 a4)) h8.1 ?_, ?_⟩
  · rw [ex, k.2.2.1 16 (by decide), k.2.2.1 17 (by decide), h8.2.1, h8.2.2, e_mo hOK hv1]; exact hQ8.2.1.2
  · have er : nr8 = nr := by have := hP8.2.2.2.2.1.1; omega
    subst er
    unfold lB8
    rw [q179, q180]
    have s := hBE.2.2.2
    rw [q179, q180] at s
    have l0 := hBE.2.1.1
    rw [q179] at l0
    rw [ht2] at c1
    exact lB_ch hP8 hB8 hB.2.1.1 (fun r hr => (hc r hr).1) rfl c1 s l0
/-- both have planned: the engine -/
theorem lE_plb (hOK : gOK g) {pA q bA nA n : Nat} {R2 : gR} {J J1 : gJ} {b : tTx} {z : Int} (hX : lX g I R AI AR pA q bA nA) (hv1 : gInv (gW g (I, AI)) (hG0 (gZ g)) R1 AR I1 AI1) (p1 : plE (gW g (I, AI)) (hG0 (gZ g)) AR I J AI R1 I1 J1 AI1 (gZ g + 0) pA q bA nA b n z) (pc : plC (gW g (I, AI)) (hG0 (gZ g)) AR I AI I1 AI1 (gZ g + 0) pA q bA b n z)
    (hmv2 : mInv (gW g (I1, AI1)) (hGm (gZ g)) R2 I2 AI2) (p2 : plM (hGm (gZ g)) (AI1 (gZ g + 206)) I1 I2 AI2 (gZ g + 205) b n z) (pn : plN (hGm (gZ g)) I1 AI1 I2 AI2 (gZ g + 205) b n z) (pk : plK (hGm (gZ g)) AI1 AI2) : (z < 0 → lE8 g I2 AR AI2 pA bA nA) ∧ (0 ≤ z → lE8 g I2 AR AI2 q bA nA) := by
  obtain ⟨hx, hq, hqp, h0, hB, hP, hE9⟩ := hX
  have ho := (l_fz hOK (M := (I, AI))).1
  have n1 := e_n1 hmv2
  have n2 := e_n2 hmv2
  have h56 : AI2 (hGm (gZ g) 56 0) = AI1 (hGm (gZ g) 56 0) := pk (gZ g + 210) (by show gZ g + 210 ≠ gZ g + 206; omega) (by show gZ g + 210 ≠ gZ g + 208; omega) (by show gZ g + 210 ≠ gZ g + 211; omega) (by show gZ g + 210 ≠ gZ g + 219; omega)
  refine ⟨fun hz => ?_, fun hz => ?_⟩
  · rcases p1 with ⟨_, x1, _, x3, x4, _, _⟩ | ⟨z1, _⟩
    · rcases pc with ⟨_, c1⟩ | ⟨z1, _⟩
      · rcases p2 with ⟨_, y1, y2, _⟩ | ⟨z1, _⟩
        · rcases pn with ⟨_, d1⟩ | ⟨z1, _⟩
          · exact lE_pn hOK hv1 x1 hE9 x3 (fun y hy h4 => (x4 y hy h4).1) c1 n1 n2 y1 y2 d1 h56 ho
          · exact absurd hz (by omega)
        · exact absurd hz (by omega)
      · exact absurd hz (by omega)
    · exact absurd hz (by omega)
  · rcases p1 with ⟨z1, _⟩ | ⟨_, x1, _, x3, x4, x5⟩
    · exact absurd hz (by omega)
    · rcases pc with ⟨z1, _⟩ | ⟨_, c1⟩
      · exact absurd hz (by omega)
      · rcases p2 with ⟨z1, _⟩ | ⟨_, y1, y2, _⟩
        · exact absurd hz (by omega)
        · rcases pn with ⟨z1, _⟩ | ⟨_, d1⟩
          · exact absurd hz (by omega)
          · obtain ⟨nr8, tbs, cc, cl, hP8, hQ8, hB8⟩ := hE9
            exact lE_pl hOK hv1 hx x1 hQ8.2.2.2.1 hQ8.2.2.2.2 ⟨x3, x4⟩ c1 n1 n2 ⟨y1, y2⟩ d1 x5 ho
end LBase
