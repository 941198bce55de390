/-! contracts over the store: from a world w to a world w' -/
def gHS (g : gG) (w : gS) (U : State) : Prop := gH g w.1 w.2.1 w.2.2.1 w.2.2.2.1 w.2.2.2.2.1 w.2.2.2.2.2 U.heap ∧ va_K (gD g) vwCl (gT g) U ∧ gZ g ≤ U.heap.size
def gPre (g : gG) (av : List Value) (w : gS) : Array Value → State → Prop := va_Pc av (fun U => gHS g w U ∧ gStr g U)
theorem gPre_blind {g : gG} {av : List Value} {w : gS} : FrameBlind (gPre g av w) := fun a U f mk q => ⟨q.1, ⟨q.2.1.1, va_K.moved (u := U) (U := U.calling f mk a) (Vm.Alike.refl U.vm) q.2.1.2.1, q.2.1.2.2⟩, gStr_same (U := U.calling f mk a) q.2.2 rfl rfl⟩
abbrev gQi (g : gG) (post : Int → gS → Prop) : Array Value → State → Outcome → State → Prop := va_Qi (S := gS) (fun r w => post r.toInt w) (gHS g) (gA g)
abbrev gQv (g : gG) (post : gS → Prop) : Array Value → State → Outcome → State → Prop := va_Qv (S := gS) post (gHS g) (gA g)
abbrev gQl (g : gG) (post : Int64 → gS → Prop) : Array Value → State → Outcome → State → Prop := va_Ql (S := gS) post (gHS g) (gA g)
abbrev gQr (g : gG) (post : Nat → gS → Prop) : Array Value → State → Outcome → State → Prop := va_Qr (S := gS) (fun _ => True) (fun w a t => gHS g w t ∧ post a w) (gA g)
abbrev gMet (l : Launch) (g : gG) (y : MethodName) (ws : List Cond) (rm : Room) (av : List Value) (w : gS) (Qc : Array Value → State → Outcome → State → Prop) : Prop := Met l y ws rm (gPre g av w) Qc 0 0 (gA g)
theorem gStart {l : Launch} {g : gG} {y : MethodName} {ws ws' : List Cond} {rm : Room} {av : List Value} {I : gI} {R : gR} {J : gJ} {AI : gI} {AJ : gJ} {AR : gR} {Qc : Array Value → State → Outcome → State → Prop} {cc : ByteArray} {maxL : Nat} {ret : Option FieldType}
    (hy : plainName y.cls = true) (hw : ws = Cond.code y cc maxL ret :: ws') (hav : (lg_sl av).length ≤ maxL)
    (body : ∀ (p : Program) (e : Env) (s : State) (m : MethodId) (below : List Frame) (meth : Method) (c : Code) (ls : Array Slot), gFix g p c cc maxL s av.toArray ws y.cls m → meth.sig.returnType = ret → meth.locks = false →
      gH g I R J AI AJ AR s.heap → gZ g ≤ s.heap.size → va_S (gA g) s.heap s.heap [] → lv_has ls maxL (lv_args 0 av) →
      W p l e rm s m av.toArray below meth c s.heap [] 0 0 (MQ below Qc av.toArray s 0 0 (gA g)) (F0 m 0 ls [])) : gMet l g y ws rm av (I, R, J, AI, AJ, AR) Qc := by
  refine Met.ofW (cc := cc) (maxL := maxL) (ret := ret) hy hw ?_
  intro p e s m args below meth c s₁ B hml hv
  obtain ⟨rfl, ⟨hH, hK, hz⟩, hG⟩ := hv
  rw [lg_entry_eq]
  exact body p e s m below meth c _ ⟨B.exec, B.bytes, hml, findClass_of_methodNamed B.named, atoms_spec (ws := ws) B.pre, hK, hG⟩ B.returns B.notSynchronized hH hz va_S.rf (lv_entry av hav)
section GCalls
variable {g : gG} {I : gI} {R : gR} {J : gJ} {AI : gI} {AJ : gJ} {AR : gR}
variable {p : Program} {l : Launch} {e : Env} {Rm : Room} {s : State} {m : MethodId} {args : Array Value} {below : List Frame} {meth : Method} {c : Code} {H : Heap} {locs : List Loc} {cells slots : Nat} {Q : State → Prop}
variable {cc : ByteArray} {pc nL : Nat} {ls : Array Slot} {rest st0 : List Value} {Ts : List Cond} {own C : String}
variable {y : MethodName} {bytes : ByteArray} {maxL n index b ci N : Nat} {T : u_T} {ret : Option FieldType} {ws : List Cond} {rm : Room} {As : List Value}
theorem z_norm {x : Int} (k : ∀ z : Int, zr z → iI z = iI x → W p l e Rm s m args below meth c H locs cells slots Q (F0 m pc ls (.int (iI z) :: rest))) : W p l e Rm s m args below meth c H locs cells slots Q (F0 m pc ls (.int (iI x) :: rest)) := by
  have h := k (iI x).toInt (zr_t _) (iI_self _)
  rwa [iI_self] at h
theorem g_recv (F : gFix g p c cc nL s args Ts own m) (hH : gH g I R J AI AJ AR H) (hb : gO g b ci) (hc8 : ci < 8) (hc : vwCl[ci]? = some (C, T, N)) : ∃ cell : Cell, H[b]? = some cell ∧ cell.vm.isStatics = false ∧ s.vm.findClass C = some cell.cls := by
  obtain ⟨q0, hq⟩ := g_at (I := I) (R := R) (J := J) (AI := AI) (AJ := AJ) (AR := AR) hb.1
  rw [gE_obj hb.2 hc8] at hq
  exact va_recv F.2.2.2.2.2.1 hH.1 hc hq
theorem g_pre (F : gFix g p c cc nL s args Ts own m) (hH : gH g I R J AI AJ AR H) (hS : va_S (gA g) s.heap H locs) (hz : gZ g ≤ s.heap.size) {av : List Value} : ∀ U : State, U.heap = H → s.WarmedH U.vm → gPre g av (I, R, J, AI, AJ, AR) av.toArray U := fun U hU hW =>
  ⟨rfl, ⟨by rw [hU]; exact hH, va_K.moved hW.alike F.2.2.2.2.2.1, by rw [hU]; exact Nat.le_trans hz hS.1⟩, gStr_mv F.2.2.2.2.2.2 hW (fun a h1 h2 => by rw [hU]; exact hS.2.1 a h1 h2)⟩
theorem g_runV {Qc : Array Value → State → Outcome → State → Prop} (F : gFix g p c cc nL s args Ts own m) (hls : ls.size = nL) (hH : gH g I R J AI AJ AR H) (hS : va_S (gA g) s.heap H locs) (hz : gZ g ≤ s.heap.size)
    (M : gMet l g y ws rm (.ref b :: As) (I, R, J, AI, AJ, AR) Qc) (cw : CallW Rm s args own C index y bytes maxL ret ws rm 0 0 n) (hb : gO g b ci) (hc8 : ci < 8) (hc : vwCl[ci]? = some (C, T, N)) (hn : As.length = n) (hst : st0 = As.reverse ++ .ref b :: rest) (hroom : (rest.map fun v => v.category).sum ≤ 8) (hdg : decode cc pc = .ok (.invokevirtual index, 3)) (hcs : cells ≤ Rm.cells ∧ slots ≤ Rm.slots) :
    va_Run p l e Rm s m args below meth c H locs cells slots 0 0 (F0 m pc ls st0) rest (Qc (Value.ref b :: As).toArray) (gA g) :=
  va_runV (As := As) (rest := rest) ⟨F.1, F.2.1, F.2.2.1, F.2.2.2.1, F.2.2.2.2.1⟩ M cw ⟨gPre_blind, g_recv F hH hb hc8 hc, g_pre F hH hS hz⟩ rfl hn hls hst (lv_room (m := m) (pc := pc) (ls := ls) (rest := st0) hroom) hdg hcs
theorem g_runS {Qc : Array Value → State → Outcome → State → Prop} (F : gFix g p c cc nL s args Ts own m) (hls : ls.size = nL) (hH : gH g I R J AI AJ AR H) (hS : va_S (gA g) s.heap H locs) (hz : gZ g ≤ s.heap.size)
    (M : gMet l g y ws rm As (I, R, J, AI, AJ, AR) Qc) (cw : CallB Rm s args own index y bytes maxL ret ws rm 0 0 n ∧ (Cond.static y).before args s = true) (hn : As.length = n) (hst : st0 = As.reverse ++ rest) (hroom : (rest.map fun v => v.category).sum ≤ 8) (hdg : decode cc pc = .ok (.invokestatic index, 3)) (hcs : cells ≤ Rm.cells ∧ slots ≤ Rm.slots) :
    va_Run p l e Rm s m args below meth c H locs cells slots 0 0 (F0 m pc ls st0) rest (Qc As.toArray) (gA g) :=
  va_runS (As := As) (rest := rest) ⟨F.1, F.2.1, F.2.2.1, F.2.2.2.1, F.2.2.2.2.1⟩ M cw ⟨gPre_blind, g_pre F hH hS hz⟩ rfl hn hls hst (lv_room (m := m) (pc := pc) (ls := ls) (rest := st0) hroom) hdg hcs
theorem g_calli {post : Int → gS → Prop} {a : Array Value} (hr : va_Run p l e Rm s m args below meth c H locs cells slots 0 0 (F0 m pc ls st0) rest (gQi g post a) (gA g)) (hS : va_S (gA g) s.heap H locs)
    (kk : ∀ (z : Int) (I : gI) (R : gR) (J : gJ) (AI : gI) (AJ : gJ) (AR : gR) (H1 : Heap) (locs1 : List Loc), zr z → post z (I, R, J, AI, AJ, AR) → gH g I R J AI AJ AR H1 → va_S (gA g) s.heap H1 locs1 → W p l e Rm s m args below meth c H1 locs1 cells slots Q (F0 m (pc + 3) ls (.int (iI z) :: rest))) : W p l e Rm s m args below meth c H locs cells slots Q (F0 m pc ls st0) := by
  refine va_calli hr hS (fun q _ h => h) (fun q h => h) (fun r w t H1 locs1 ht hvm hp hB hz1 hk1 hS1 => ?_)
  obtain ⟨I1, R1, J1, AI1, AJ1, AR1⟩ := w
  have h := kk r.toInt I1 R1 J1 AI1 AJ1 AR1 H1 locs1 (zr_t r) hp (by rw [← ht]; exact hB.1) hS1
  rwa [iI_self] at h
theorem g_callv {post : gS → Prop} {a : Array Value} (hr : va_Run p l e Rm s m args below meth c H locs cells slots 0 0 (F0 m pc ls st0) rest (gQv g post a) (gA g)) (hS : va_S (gA g) s.heap H locs)
    (kk : ∀ (I : gI) (R : gR) (J : gJ) (AI : gI) (AJ : gJ) (AR : gR) (H1 : Heap) (locs1 : List Loc), post (I, R, J, AI, AJ, AR) → gH g I R J AI AJ AR H1 → va_S (gA g) s.heap H1 locs1 → W p l e Rm s m args below meth c H1 locs1 cells slots Q (F0 m (pc + 3) ls rest)) : W p l e Rm s m args below meth c H locs cells slots Q (F0 m pc ls st0) := by
  refine va_callv hr hS (fun q _ h => h) (fun q h => h) (fun w t H1 locs1 ht hvm hp hB hz1 hk1 hS1 => ?_)
  obtain ⟨I1, R1, J1, AI1, AJ1, AR1⟩ := w
  exact kk I1 R1 J1 AI1 AJ1 AR1 H1 locs1 hp (by rw [← ht]; exact hB.1) hS1
theorem g_calll {post : Int64 → gS → Prop} {a : Array Value} (hr : va_Run p l e Rm s m args below meth c H locs cells slots 0 0 (F0 m pc ls st0) rest (gQl g post a) (gA g)) (hS : va_S (gA g) s.heap H locs)
    (kk : ∀ (z : Int64) (I : gI) (R : gR) (J : gJ) (AI : gI) (AJ : gJ) (AR : gR) (H1 : Heap) (locs1 : List Loc), post z (I, R, J, AI, AJ, AR) → gH g I R J AI AJ AR H1 → va_S (gA g) s.heap H1 locs1 → W p l e Rm s m args below meth c H1 locs1 cells slots Q (F0 m (pc + 3) ls (.long z :: rest))) : W p l e Rm s m args below meth c H locs cells slots Q (F0 m pc ls st0) := by
  refine va_calll hr hS (fun q _ h => h) (fun q h => h) (fun r w t H1 locs1 ht hvm hp hB hz1 hk1 hS1 => ?_)
  obtain ⟨I1, R1, J1, AI1, AJ1, AR1⟩ := w
  exact kk r I1 R1 J1 AI1 AJ1 AR1 H1 locs1 hp (by rw [← ht]; exact hB.1) hS1
theorem g_callr {post : Nat → gS → Prop} {a : Array Value} (hr : va_Run p l e Rm s m args below meth c H locs cells slots 0 0 (F0 m pc ls st0) rest (gQr g post a) (gA g)) (hS : va_S (gA g) s.heap H locs)
    (kk : ∀ (z : Nat) (I : gI) (R : gR) (J : gJ) (AI : gI) (AJ : gJ) (AR : gR) (H1 : Heap) (locs1 : List Loc), post z (I, R, J, AI, AJ, AR) → gH g I R J AI AJ AR H1 → va_S (gA g) s.heap H1 locs1 → W p l e Rm s m args below meth c H1 locs1 cells slots Q (F0 m (pc + 3) ls (.ref z :: rest))) : W p l e Rm s m args below meth c H locs cells slots Q (F0 m pc ls st0) := by
  refine va_callr hr hS (fun q _ h => h) (fun q h => h) (fun w ra t H1 locs1 ht hvm hp hB hz1 hk1 hS1 => ?_)
  obtain ⟨I1, R1, J1, AI1, AJ1, AR1⟩ := w
  exact kk ra I1 R1 J1 AI1 AJ1 AR1 H1 locs1 hB.2 (by rw [← ht]; exact hB.1.1) hS1
theorem z_b01 {z : Int} (h : z = 0 ∨ z = 1) : narrow .boolean (.int (iI z)) = .int (iI z) := by
  rcases h with h | h <;> subst h <;> decide
theorem g_iret (F : gFix g p c cc nL s args Ts own m) (hr : meth.sig.returnType = some .int) (hlk : meth.locks = false) (hH : gH g I R J AI AJ AR H) (hS : va_S (gA g) s.heap H locs) (hz : gZ g ≤ s.heap.size) {post : Int → gS → Prop} {z : Int} (hv : zr z) (hp : post z (I, R, J, AI, AJ, AR)) (hdg : decode cc pc = .ok (.ireturn, 1)) :
    W p l e Rm s m args below meth c H locs 0 0 (MQ below (gQi g post) args s 0 0 (gA g)) (F0 m pc ls [.int (iI z)]) :=
  W.iret F.1 F.2.1 hr (fun t ht hW => ⟨⟨iI z, (I, R, J, AI, AJ, AR), rfl, by show post (iI z).toInt _; rw [iI_val hv]; exact hp, by rw [ht]; exact hH, va_K.moved hW.alike F.2.2.2.2.2.1, by rw [ht]; exact Nat.le_trans hz hS.1⟩, hS.F ht⟩) hS.2.2 hdg hlk
theorem g_zret (F : gFix g p c cc nL s args Ts own m) (hr : meth.sig.returnType = some .boolean) (hlk : meth.locks = false) (hH : gH g I R J AI AJ AR H) (hS : va_S (gA g) s.heap H locs) (hz : gZ g ≤ s.heap.size) {post : Int → gS → Prop} {z : Int} (hv : z = 0 ∨ z = 1) (hp : post z (I, R, J, AI, AJ, AR)) (hdg : decode cc pc = .ok (.ireturn, 1)) :
    W p l e Rm s m args below meth c H locs 0 0 (MQ below (gQi g post) args s 0 0 (gA g)) (F0 m pc ls [.int (iI z)]) :=
  W.zret F.1 F.2.1 hr (z_b01 hv) (fun t ht hW => ⟨⟨iI z, (I, R, J, AI, AJ, AR), rfl, by show post (iI z).toInt _; rw [iI_val ⟨by omega, by omega⟩]; exact hp, by rw [ht]; exact hH, va_K.moved hW.alike F.2.2.2.2.2.1, by rw [ht]; exact Nat.le_trans hz hS.1⟩, hS.F ht⟩) hS.2.2 hdg hlk
theorem g_nret (F : gFix g p c cc nL s args Ts own m) {ty : FieldType} (hr : meth.sig.returnType = some ty) (hlk : meth.locks = false) (hH : gH g I R J AI AJ AR H) (hS : va_S (gA g) s.heap H locs) (hz : gZ g ≤ s.heap.size) {post : Int → gS → Prop} {z : Int} (hn : narrow ty (.int (iI z)) = .int (iI z)) (hv : zr z) (hp : post z (I, R, J, AI, AJ, AR)) (hdg : decode cc pc = .ok (.ireturn, 1)) :
    W p l e Rm s m args below meth c H locs 0 0 (MQ below (gQi g post) args s 0 0 (gA g)) (F0 m pc ls [.int (iI z)]) :=
  W.zret F.1 F.2.1 hr hn (fun t ht hW => ⟨⟨iI z, (I, R, J, AI, AJ, AR), rfl, by show post (iI z).toInt _; rw [iI_val hv]; exact hp, by rw [ht]; exact hH, va_K.moved hW.alike F.2.2.2.2.2.1, by rw [ht]; exact Nat.le_trans hz hS.1⟩, hS.F ht⟩) hS.2.2 hdg hlk
theorem g_recvS (F : gFix g p c cc nL s args Ts own m) (hS : va_S (gA g) s.heap H locs) {i : Nat} {q : String × Nat × String × List Int32} (hq : sTab[i]? = some q) : ∃ cell : Cell, H[gSK g i]? = some cell ∧ cell.vm.isStatics = false ∧ s.vm.findClass "java/lang/String" = some cell.cls := by
  obtain ⟨cell, h1, h2, h3, -⟩ := ((F.2.2.2.2.2.2.1 i q hq).2.1).kept hS.2.1
  exact ⟨cell, h1, h2, h3⟩
theorem g_runVS {Qc : Array Value → State → Outcome → State → Prop} (F : gFix g p c cc nL s args Ts own m) (hls : ls.size = nL) (hH : gH g I R J AI AJ AR H) (hS : va_S (gA g) s.heap H locs) (hz : gZ g ≤ s.heap.size) {i : Nat} {q : String × Nat × String × List Int32} (hq : sTab[i]? = some q)
    (M : gMet l g y ws rm (.ref (gSK g i) :: As) (I, R, J, AI, AJ, AR) Qc) (cw : CallW Rm s args own "java/lang/String" index y bytes maxL ret ws rm 0 0 n) (hn : As.length = n) (hst : st0 = As.reverse ++ .ref (gSK g i) :: rest) (hroom : (rest.map fun v => v.category).sum ≤ 8) (hdg : decode cc pc = .ok (.invokevirtual index, 3)) (hcs : cells ≤ Rm.cells ∧ slots ≤ Rm.slots) :
    va_Run p l e Rm s m args below meth c H locs cells slots 0 0 (F0 m pc ls st0) rest (Qc (Value.ref (gSK g i) :: As).toArray) (gA g) :=
  va_runV (As := As) (rest := rest) ⟨F.1, F.2.1, F.2.2.1, F.2.2.2.1, F.2.2.2.2.1⟩ M cw ⟨gPre_blind, g_recvS F hS hq, g_pre F hH hS hz⟩ rfl hn hls hst (lv_room (m := m) (pc := pc) (ls := ls) (rest := st0) hroom) hdg hcs
theorem g_lret (F : gFix g p c cc nL s args Ts own m) (hr : meth.sig.returnType = some .long) (hlk : meth.locks = false) (hH : gH g I R J AI AJ AR H) (hS : va_S (gA g) s.heap H locs) (hz : gZ g ≤ s.heap.size) {post : Int64 → gS → Prop} {z : Int64} (hp : post z (I, R, J, AI, AJ, AR)) (hdg : decode cc pc = .ok (.lreturn, 1)) :
    W p l e Rm s m args below meth c H locs 0 0 (MQ below (gQl g post) args s 0 0 (gA g)) (F0 m pc ls [.long z]) :=
  W.lret F.1 F.2.1 hr (fun t ht hW => ⟨⟨z, (I, R, J, AI, AJ, AR), rfl, hp, by rw [ht]; exact hH, va_K.moved hW.alike F.2.2.2.2.2.1, by rw [ht]; exact Nat.le_trans hz hS.1⟩, hS.F ht⟩) hS.2.2 hdg hlk
theorem g_vret (F : gFix g p c cc nL s args Ts own m) (hr : meth.sig.returnType = none) (hlk : meth.locks = false) (hH : gH g I R J AI AJ AR H) (hS : va_S (gA g) s.heap H locs) (hz : gZ g ≤ s.heap.size) {post : gS → Prop} (hp : post (I, R, J, AI, AJ, AR)) (hdg : decode cc pc = .ok (.return_, 1)) :
    W p l e Rm s m args below meth c H locs 0 0 (MQ below (gQv g post) args s 0 0 (gA g)) (F0 m pc ls []) :=
  W.vret F.1 F.2.1 hr (fun t ht hW => ⟨⟨(I, R, J, AI, AJ, AR), rfl, hp, by rw [ht]; exact hH, va_K.moved hW.alike F.2.2.2.2.2.1, by rw [ht]; exact Nat.le_trans hz hS.1⟩, hS.F ht⟩) hS.2.2 hdg hlk
theorem g_aret (F : gFix g p c cc nL s args Ts own m) {rt : FieldType} (hr : meth.sig.returnType = some rt) (hrt : (∃ n, rt = .object n) ∨ ∃ t, rt = .array t) (hlk : meth.locks = false) (hH : gH g I R J AI AJ AR H) (hS : va_S (gA g) s.heap H locs) (hz : gZ g ≤ s.heap.size) {post : Nat → gS → Prop} {z : Nat} (hp : post z (I, R, J, AI, AJ, AR)) (hdg : decode cc pc = .ok (.areturn, 1)) :
    W p l e Rm s m args below meth c H locs 0 0 (MQ below (gQr g post) args s 0 0 (gA g)) (F0 m pc ls [.ref z]) :=
  W.aret F.1 F.2.1 hr hrt (Or.inr ⟨z, rfl⟩) (fun t ht hW => ⟨⟨(I, R, J, AI, AJ, AR), z, rfl, trivial, ⟨by rw [ht]; exact hH, va_K.moved hW.alike F.2.2.2.2.2.1, by rw [ht]; exact Nat.le_trans hz hS.1⟩, hp⟩, hS.F ht⟩) hS.2.2 hdg hlk
end GCalls
