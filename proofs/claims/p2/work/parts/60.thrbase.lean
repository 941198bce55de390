/-! methods that may throw: contracts over the store -/
abbrev xE : String := "java/util/NoSuchElementException"
abbrev xN : List String := ["java/lang/RuntimeException", "java/lang/Exception"]
def isDC : Cond → Bool
  | .declares _ => true
  | .castable _ _ => true
  | _ => false
theorem dc_mv {w : Cond} {s U : State} {A B : Array Value} (h : isDC w = true) (hW : s.vm.Alike U.vm) (hw : w.before A s = true) : w.before B U = true := by
  cases w <;> first
    | exact absurd (show false = true from h) Bool.false_ne_true
    | exact va_tabs rfl (rfl : (s.setVm U.vm).vm = U.vm) (by rw [Cond.declares_setVm hW]; exact hw)
    | exact va_tabs rfl (rfl : (s.setVm U.vm).vm = U.vm) (by rw [Cond.castable_setVm hW]; exact hw)
theorem xB_dc : ((vx_atS RX6 136 xE xN).filter (fun w => !goodWord w)).all isDC = true := by decide +kernel
theorem xB_ot : (Cond.classLink RX6 132 xE :: Cond.initialized xE :: vx_atS RX6 136 xE xN).all vx_ot = true := by decide +kernel
/-- what a throw needs of the machine: two statics, four words -/
def gThr (g : gG) (U : State) : Prop := vx_Zq Bundle.tN "UNASSIGNED_STACK" Bundle.steD (gA g) U U.heap ∧ vx_Zq Bundle.tN "SUPPRESSED_SENTINEL" Bundle.listD (gA g) U U.heap ∧
  ∀ w ∈ (vx_atS RX6 136 xE xN).filter (fun w => !goodWord w), w.before #[] U = true
theorem gThr_mv {g : gG} {s U : State} (h : gThr g s) (hW : s.vm.Alike U.vm) (hq : ∀ a : Nat, a < s.heap.size → ¬ gA g a → U.heap[a]? = s.heap[a]?) : gThr g U :=
  ⟨(vx_Zq.moved hW h.1).kept hq, (vx_Zq.moved hW h.2.1).kept hq, fun w hw => dc_mv (List.all_eq_true.mp xB_dc w hw) hW (h.2.2 w hw)⟩
theorem gThr_same {g : gG} {s U : State} (h : gThr g s) (hv : U.vm = s.vm) (hh : U.heap = s.heap) : gThr g U := gThr_mv h (by rw [hv]; exact Vm.Alike.refl _) (fun a _ _ => by rw [hh])
def gPreX (g : gG) (av : List Value) (w : gS) : Array Value → State → Prop := va_Pc av (fun U => gHS g w U ∧ gStr g U ∧ gThr g U)
theorem gPreX_blind {g : gG} {av : List Value} {w : gS} : FrameBlind (gPreX g av w) := fun a U f mk q => ⟨q.1, ⟨q.2.1.1, va_K.moved (u := U) (U := U.calling f mk a) (Vm.Alike.refl U.vm) q.2.1.2.1, q.2.1.2.2⟩, gStr_same (U := U.calling f mk a) q.2.2.1 rfl rfl, gThr_same (U := U.calling f mk a) q.2.2.2 rfl rfl⟩
abbrev gBX (g : gG) : String → gS → State → Prop := fun E u t => E = xE ∧ gHS g u t
abbrev gMetX (l : Launch) (g : gG) (y : MethodName) (ws : List Cond) (rm : Room) (av : List Value) (w : gS) (Qc : Array Value → State → Outcome → State → Prop) (px : gS → Prop) : Prop := vx_Met l y ws rm (gPreX g av w) Qc (vx_X px (gBX g) (gA g)) 1 6 (gA g)
theorem gStartX {l : Launch} {g : gG} {y : MethodName} {ws ws' : List Cond} {rm : Room} {av : List Value} {I : gI} {R : gR} {J : gJ} {AI : gI} {AJ : gJ} {AR : gR} {Qc : Array Value → State → Outcome → State → Prop} {px : gS → Prop} {cc : ByteArray} {maxL : Nat} {ret : Option FieldType}
    (hy : plainName y.cls = true) (hw : ws = Cond.code y cc maxL ret :: ws') (hav : (lg_sl av).length ≤ maxL)
    (body : ∀ (p : Program) (e : Env) (s : State) (m : MethodId) (below : List Frame) (meth : Method) (c : Code) (ls : Array Slot), gFix g p c cc maxL s av.toArray ws y.cls m → meth.sig.returnType = ret → meth.locks = false →
      gH g I R J AI AJ AR s.heap → gZ g ≤ s.heap.size → va_S (gA g) s.heap s.heap [] → (∀ x ∈ c.exceptionTable.toList, False) → gThr g s → lv_has ls maxL (lv_args 0 av) →
      W p l e rm s m av.toArray below meth c s.heap [] 0 0 (vx_MQ below Qc (vx_X px (gBX g) (gA g)) av.toArray s 1 6 (gA g)) (F0 m 0 ls [])) : gMetX l g y ws rm av (I, R, J, AI, AJ, AR) Qc px := by
  refine vx_ofW (cc := cc) (maxL := maxL) (ret := ret) hy hw ?_
  intro p e s m args below meth c s₁ B hml hxt hv
  obtain ⟨rfl, ⟨hH, hK, hz⟩, hG, hTh⟩ := hv
  rw [lg_entry_eq]
  exact body p e s m below meth c _ ⟨B.exec, B.bytes, hml, findClass_of_methodNamed B.named, atoms_spec (ws := ws) B.pre, hK, hG⟩ B.returns B.notSynchronized hH hz va_S.rf hxt hTh (lv_entry av hav)
section GThrow
variable {g : gG} {I : gI} {R : gR} {J : gJ} {AI : gI} {AJ : gJ} {AR : gR}
variable {p : Program} {l : Launch} {e : Env} {Rm : Room} {s : State} {m : MethodId} {args : Array Value} {below : List Frame} {meth : Method} {c : Code} {H : Heap} {locs : List Loc} {cells slots : Nat} {Q : State → Prop}
variable {cc : ByteArray} {pc nL : Nat} {ls : Array Slot} {rest st0 : List Value} {Ts : List Cond} {own C : String}
variable {y : MethodName} {bytes : ByteArray} {maxL n index b ci N : Nat} {T : u_T} {ret : Option FieldType} {ws : List Cond} {rm : Room} {As : List Value}
variable {Qc : Array Value → State → Outcome → State → Prop} {px : gS → Prop}
theorem gH_kept {H1 : Heap} (hH : gH g I R J AI AJ AR H) (h : ∀ q : Nat, q < H.size → H1[q]? = H[q]?) : gH g I R J AI AJ AR H1 := ⟨hH.1.kept (fun k x hx => h x.1 ((hH.1 k x hx).lt)), hH.2⟩
theorem g_throw (F : gFix g p c cc nL s args Ts RX6 m) (hTh : gThr g s) (hst : l.stackTraces = false) (hH : gH g I R J AI AJ AR H) (hS : va_S (gA g) s.heap H locs) (hz : gZ g ≤ s.heap.size) (hxt : ∀ x ∈ c.exceptionTable.toList, False) (hlk : meth.locks = false) (hls : ls.size = nL)
    {i is : Nat} {tx : String} {bs : List Int32} (hq : sTab[i]? = some (RX6, is, tx, bs)) (hk : Cond.classLink RX6 132 xE ∈ Ts) (hi : Cond.initialized xE ∈ Ts) (hw : ∀ w ∈ (vx_atS RX6 136 xE xN).filter goodWord, w ∈ Ts)
    (d0 : decode cc pc = .ok (.new 132, 3)) (d3 : decode cc (pc + 3) = .ok (.dup, 1)) (d4 : decode cc (pc + 4) = .ok (.ldc is, 2)) (d6 : decode cc (pc + 6) = .ok (.invokespecial 136, 3)) (d9 : decode cc (pc + 9) = .ok (.athrow, 1))
    (hR1 : 5 < Rm.frames) (hR2 : 82 ≤ Rm.locals) (hR3 : 1 ≤ Rm.cells) (hR4 : 6 ≤ Rm.slots) (hp : px (I, R, J, AI, AJ, AR)) :
    W p l e Rm s m args below meth c H locs 0 0 (vx_MQ below Qc (vx_X px (gBX g) (gA g)) args s 1 6 (gA g)) (F0 m pc ls []) := by
  have F5 := F.2.2.2.2.1
  refine vx_throwS (rest := []) (A := gA g) F.1 F.2.1 hst (own := RX6) (cls := xE) (names := xN) F.2.2.2.1 (by decide) (by decide) (F5 _ hk) (F5 _ hi) (F.2.2.2.2.2.2.1 i _ hq).1 (vx_hat (fun w h => F5 w (hw w h)) (fun w h => h) (fun w h => dc_mv (List.all_eq_true.mp xB_dc w h) (Vm.Alike.refl _) (hTh.2.2 w h)))
    (fun w h => List.all_eq_true.mp xB_ot w h) hTh.1 hTh.2.1 hS (hls.trans F.2.2.1.symm) d0 d3 d4 d6 d9 (fun x hx => (hxt x hx).elim) hR1 hR2 (by omega) (by omega) hlk ?_ hS.2.2 (Nat.le_refl _) (Nat.le_refl _)
  intro t hvm hsz hk1
  exact ⟨(I, R, J, AI, AJ, AR), hp, ⟨rfl, gH_kept hH hk1, va_K.moved hvm F.2.2.2.2.2.1, Nat.le_trans hz (Nat.le_trans hS.1 hsz)⟩, Nat.le_trans hS.1 hsz, fun q h1 h2 => (hk1 q (Nat.lt_of_lt_of_le h1 hS.1)).trans (hS.2.1 q h1 h2)⟩
theorem g_iretX (F : gFix g p c cc nL s args Ts own m) (hr : meth.sig.returnType = some .int) (hlk : meth.locks = false) (hH : gH g I R J AI AJ AR H) (hS : va_S (gA g) s.heap H locs) (hz : gZ g ≤ s.heap.size) {XC : String → State → State → Prop} {post : Int → gS → Prop} {z : Int} (hv : zr z) (hp : post z (I, R, J, AI, AJ, AR)) (hc : cells ≤ 1) (hs : slots ≤ 6) (hdg : decode cc pc = .ok (.ireturn, 1)) :
    W p l e Rm s m args below meth c H locs cells slots (vx_MQ below (gQi g post) XC args s 1 6 (gA g)) (F0 m pc ls [.int (iI z)]) :=
  W.widen hc hs (vx_ret (W.iret F.1 F.2.1 hr (fun t ht hW => ⟨⟨iI z, (I, R, J, AI, AJ, AR), rfl, by show post (iI z).toInt _; rw [iI_val hv]; exact hp, by rw [ht]; exact hH, va_K.moved hW.alike F.2.2.2.2.2.1, by rw [ht]; exact Nat.le_trans hz hS.1⟩, hS.F ht⟩) hS.2.2 hdg hlk))
theorem g_preX (F : gFix g p c cc nL s args Ts own m) (hTh : gThr g s) (hH : gH g I R J AI AJ AR H) (hS : va_S (gA g) s.heap H locs) (hz : gZ g ≤ s.heap.size) {av : List Value} : ∀ U : State, U.heap = H → s.WarmedH U.vm → gPreX g av (I, R, J, AI, AJ, AR) av.toArray U := fun U hU hW =>
  ⟨rfl, ⟨by rw [hU]; exact hH, va_K.moved hW.alike F.2.2.2.2.2.1, by rw [hU]; exact Nat.le_trans hz hS.1⟩, gStr_mv F.2.2.2.2.2.2 hW (fun a h1 h2 => by rw [hU]; exact hS.2.1 a h1 h2), gThr_mv hTh hW.alike (fun a h1 h2 => by rw [hU]; exact hS.2.1 a h1 h2)⟩
theorem g_runSX (F : gFix g p c cc nL s args Ts own m) (hTh : gThr g s) (hls : ls.size = nL) (hH : gH g I R J AI AJ AR H) (hS : va_S (gA g) s.heap H locs) (hz : gZ g ≤ s.heap.size)
    (M : gMetX l g y ws rm As (I, R, J, AI, AJ, AR) Qc px) (cw : CallB Rm s args own index y bytes maxL ret ws rm 1 6 n ∧ (Cond.static y).before args s = true) (hn : As.length = n) (hst : st0 = As.reverse ++ rest) (hroom : (rest.map fun v => v.category).sum ≤ 8) (hdg : decode cc pc = .ok (.invokestatic index, 3)) (hcs : cells + 1 ≤ Rm.cells ∧ slots + 6 ≤ Rm.slots) :
    vx_Run p l e Rm s m args below meth c H locs cells slots 1 6 (F0 m pc ls st0) rest (Qc As.toArray) (vx_X px (gBX g) (gA g)) (gA g) :=
  vx_runS (As := As) (rest := rest) ⟨F.1, F.2.1, F.2.2.1, F.2.2.2.1, F.2.2.2.2.1⟩ M cw ⟨gPreX_blind, g_preX F hTh hH hS hz⟩ rfl hn hls hst (lv_room (m := m) (pc := pc) (ls := ls) (rest := st0) hroom) hdg hcs
theorem g_runVX (F : gFix g p c cc nL s args Ts own m) (hTh : gThr g s) (hls : ls.size = nL) (hH : gH g I R J AI AJ AR H) (hS : va_S (gA g) s.heap H locs) (hz : gZ g ≤ s.heap.size)
    (M : gMetX l g y ws rm (.ref b :: As) (I, R, J, AI, AJ, AR) Qc px) (cw : CallW Rm s args own C index y bytes maxL ret ws rm 1 6 n) (hb : gO g b ci) (hc8 : ci < 8) (hc : vwCl[ci]? = some (C, T, N)) (hn : As.length = n) (hst : st0 = As.reverse ++ .ref b :: rest) (hroom : (rest.map fun v => v.category).sum ≤ 8) (hdg : decode cc pc = .ok (.invokevirtual index, 3)) (hcs : cells + 1 ≤ Rm.cells ∧ slots + 6 ≤ Rm.slots) :
    vx_Run p l e Rm s m args below meth c H locs cells slots 1 6 (F0 m pc ls st0) rest (Qc (Value.ref b :: As).toArray) (vx_X px (gBX g) (gA g)) (gA g) :=
  vx_runV (As := As) (rest := rest) ⟨F.1, F.2.1, F.2.2.1, F.2.2.2.1, F.2.2.2.2.1⟩ M cw ⟨gPreX_blind, g_recv F hH hb hc8 hc, g_preX F hTh hH hS hz⟩ rfl hn hls hst (lv_room (m := m) (pc := pc) (ls := ls) (rest := st0) hroom) hdg hcs
theorem g_calliX {post : Int → gS → Prop} {a : Array Value} (hr : vx_Run p l e Rm s m args below meth c H locs cells slots 1 6 (F0 m pc ls st0) rest (gQi g post a) (vx_X px (gBX g) (gA g)) (gA g)) (hS : va_S (gA g) s.heap H locs)
    (kx : ∀ (ce : Cell) (q9 : Addr) (I : gI) (R : gR) (J : gJ) (AI : gI) (AJ : gJ) (AR : gR) (H1 : Heap) (locs1 : List Loc), px (I, R, J, AI, AJ, AR) → gH g I R J AI AJ AR H1 → va_S (gA g) s.heap H1 locs1 → H1[q9]? = some ce → ce.vm = .none → s.vm.findClass xE = some ce.cls → vx_W p l e Rm s m args below meth c H1 locs1 (cells + 1) (slots + 6) Q (F0 m pc ls rest) q9)
    (kk : ∀ (z : Int) (I : gI) (R : gR) (J : gJ) (AI : gI) (AJ : gJ) (AR : gR) (H1 : Heap) (locs1 : List Loc), zr z → post z (I, R, J, AI, AJ, AR) → gH g I R J AI AJ AR H1 → va_S (gA g) s.heap H1 locs1 → W p l e Rm s m args below meth c H1 locs1 (cells + 1) (slots + 6) Q (F0 m (pc + 3) ls (.int (iI z) :: rest))) : W p l e Rm s m args below meth c H locs cells slots Q (F0 m pc ls st0) := by
  refine vx_calli hr hS (fun q _ h => h) (fun q h => h) (fun q _ h => h) (fun E ce q9 w t H1 locs1 ht hvm hp hB hz1 hk1 hS1 h1 h2 h3 => ?_) (fun r w t H1 locs1 ht hvm hp hB hz1 hk1 hS1 => ?_)
  · obtain ⟨I1, R1, J1, AI1, AJ1, AR1⟩ := w
    obtain ⟨rfl, hB, -⟩ := hB
    exact kx ce q9 I1 R1 J1 AI1 AJ1 AR1 H1 locs1 hp (by rw [← ht]; exact hB) hS1 h1 h2 h3
  · obtain ⟨I1, R1, J1, AI1, AJ1, AR1⟩ := w
    have h := kk r.toInt I1 R1 J1 AI1 AJ1 AR1 H1 locs1 (zr_t r) hp (by rw [← ht]; exact hB.1) hS1
    rwa [iI_self] at h
/-- it goes on to the caller -/
theorem g_outX {px : gS → Prop} (F : gFix g p c cc nL s args Ts own m) (hH : gH g I R J AI AJ AR H) (hS : va_S (gA g) s.heap H locs) (hz : gZ g ≤ s.heap.size) (hxt : ∀ x ∈ c.exceptionTable.toList, False) (hlk : meth.locks = false) {ce : Cell} {q9 : Addr} (h1 : H[q9]? = some ce) (h2 : ce.vm = .none) (h3 : s.vm.findClass xE = some ce.cls) (hp : px (I, R, J, AI, AJ, AR)) (hc : cells ≤ 1) (hs : slots ≤ 6) :
    vx_W p l e Rm s m args below meth c H locs cells slots (vx_MQ below Qc (vx_X px (gBX g) (gA g)) args s 1 6 (gA g)) (F0 m pc ls rest) q9 :=
  vx_out (fun x hx => (hxt x hx).elim) hlk h1 h2 h3 (fun t ht hvm => ⟨(I, R, J, AI, AJ, AR), hp, ⟨rfl, by rw [ht]; exact hH, va_K.moved hvm F.2.2.2.2.2.1, by rw [ht]; exact Nat.le_trans hz hS.1⟩, hS.F ht⟩) hS.2.2 hc hs
/-- caught by the method's own row -/
theorem g_catch (F : gFix g p c cc nL s args Ts own m) (hTh : gThr g s) {a1 b1 h1 t1 : Nat} (hxt : c.exceptionTable.toList = tableOf [(a1, b1, h1, t1)]) (hcv : covers ⟨a1, b1, h1, t1⟩ pc = true) (h0 : t1 ≠ 0) (hlink : Cond.classLink own t1 xE ∈ Ts) {ce : Cell} {q9 : Addr} (e1 : H[q9]? = some ce) (e2 : ce.vm = .none) (e3 : s.vm.findClass xE = some ce.cls)
    (kk : W p l e Rm s m args below meth c H locs cells slots Q (F0 m h1 ls [.ref q9])) : vx_W p l e Rm s m args below meth c H locs cells slots Q (F0 m pc ls rest) q9 :=
  vx_catch F.2.2.2.1 [] ⟨a1, b1, h1, t1⟩ [] (hxt.trans rfl) (fun z hz => nomatch hz) hcv h0 (F.2.2.2.2.1 _ hlink) (dc_mv (s := s) (A := #[]) rfl (Vm.Alike.refl _) (hTh.2.2 (.castable xE xE) (by decide +kernel))) e1 e2 e3 kk
end GThrow
theorem gStartW {l : Launch} {g : gG} {y : MethodName} {ws ws' : List Cond} {rm : Room} {av : List Value} {I : gI} {R : gR} {J : gJ} {AI : gI} {AJ : gJ} {AR : gR} {Qc : Array Value → State → Outcome → State → Prop} {px : gS → Prop} {cc : ByteArray} {maxL : Nat} {ret : Option FieldType} {hh : List (Nat × Nat × Nat × Nat)}
    (hy : plainName y.cls = true) (hw : ws = Cond.codeWith y cc maxL ret hh :: ws') (hav : (lg_sl av).length ≤ maxL)
    (body : ∀ (p : Program) (e : Env) (s : State) (m : MethodId) (below : List Frame) (meth : Method) (c : Code) (ls : Array Slot), gFix g p c cc maxL s av.toArray ws y.cls m → meth.sig.returnType = ret → meth.locks = false →
      gH g I R J AI AJ AR s.heap → gZ g ≤ s.heap.size → va_S (gA g) s.heap s.heap [] → c.exceptionTable.toList = tableOf hh → gThr g s → lv_has ls maxL (lv_args 0 av) →
      W p l e rm s m av.toArray below meth c s.heap [] 0 0 (vx_MQ below Qc (vx_X px (gBX g) (gA g)) av.toArray s 1 6 (gA g)) (F0 m 0 ls [])) : gMetX l g y ws rm av (I, R, J, AI, AJ, AR) Qc px := by
  refine vx_ofWH (cc := cc) (maxL := maxL) (ret := ret) (hh := hh) hy hw ?_
  intro p e s m args below meth c s₁ B hml hv
  obtain ⟨rfl, ⟨hH, hK, hz⟩, hG, hTh⟩ := hv
  rw [lg_entry_eq]
  exact body p e s m below meth c _ ⟨B.exec, B.bytes, hml, findClass_of_methodNamed B.named, atoms_spec (ws := ws) B.pre, hK, hG⟩ B.returns B.notSynchronized hH hz va_S.rf (vx_table (x := y) B (atoms_spec (ws := ws) B.pre _ (by rw [hw]; exact List.mem_cons_self))) hTh (lv_entry av hav)
