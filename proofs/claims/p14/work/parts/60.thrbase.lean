section
/-! methods that may throw: contracts over the store -/
abbrev xE : String := "java/util/NoSuchElementException"
abbrev xN : List String := ["java/lang/RuntimeException", "java/lang/Exception"]
section NseCtor
/-- the words of 'new NoSuchElementException(text)' thrown at once: the constructor's own link is the index 13 -/
def nsAll : List Cond := Bundle.throwableAtoms ++ Bundle.throwableSAtoms ++ (Bundle.passSAtoms xE "java/lang/RuntimeException" 13 prog_24_method_4_code ++ Bundle.chainSAtoms "java/lang/RuntimeException" ["java/lang/Exception"]) ++
  [.methodLink RX6 136 (Bundle.initS xE), .instantiable xE 6, .castable xE xE, .selects xE Bundle.tFill0 Bundle.tFill0, .selects xE Bundle.tFill Bundle.tFill,
   .lays xE Bundle.tN "cause" "Ljava/lang/Throwable;", .lays xE Bundle.tN "stackTrace" Bundle.steD, .lays xE Bundle.tN "suppressedExceptions" Bundle.listD, .lays xE Bundle.tN "detailMessage" "Ljava/lang/String;",
   .isRef (.static Bundle.tN "UNASSIGNED_STACK" Bundle.steD), .isRef (.static Bundle.tN "SUPPRESSED_SENTINEL" Bundle.listD),
   .fieldLink Bundle.tN 198 Bundle.tN "backtrace" "Ljava/lang/Object;", .lays Bundle.tN Bundle.tN "backtrace" "Ljava/lang/Object;", .lays xE Bundle.tN "backtrace" "Ljava/lang/Object;"]
theorem ns_0 : decode prog_24_method_4_code 0 = .ok (.aload_n 0, 1) := by decide +kernel
theorem ns_1 : decode prog_24_method_4_code 1 = .ok (.aload_n 1, 1) := by decide +kernel
theorem ns_2 : decode prog_24_method_4_code 2 = .ok (.invokespecial 13, 3) := by decide +kernel
theorem ns_5 : decode prog_24_method_4_code 5 = .ok (.return_, 1) := by decide +kernel
theorem ns_chain {args : Array Value} {s : State} {pl : Platform} (hpl : pl.magicAccessors = ({} : Platform).magicAccessors) {top : MethodId} (htop : s.methodNamed? (Bundle.initS Bundle.tN) = some top) (h : ∀ w ∈ nsAll, w.before args s = true) :
    ∃ (P1 : PassC) (Ps : List PassC), Ps.length = 2 ∧ P1.LinksS pl s ∧ (∀ P, P ∈ Ps → P.LinksS pl s) ∧ s.methodNamed? (Bundle.initS xE) = some P1.m ∧ P1.sup = firstOf top (Ps.map (·.toPassT)) ∧ PassesOn top (Ps.map (·.toPassT)) := by
  obtain ⟨P, L, hm, hs⟩ := PassC.ofS_atoms (args := args) (s := s) hpl (X := xE) (Y := "java/lang/RuntimeException") (by decide) (by decide) ns_0 ns_1 ns_2 ns_5 (fun c hc => h c (by simp [nsAll, hc]))
  obtain ⟨P', Ps, hlen, L', hL, hm', hsup, hpass⟩ := Bundle.chainS (args := args) hpl htop ["java/lang/Exception"] "java/lang/RuntimeException" (by decide) (by decide) (fun c hc => h c (by simp [nsAll, hc]))
  exact ⟨P, P' :: Ps, by simp [hlen], L, List.forall_mem_cons.mpr ⟨L', hL⟩, hm, Option.some.inj (hs.symm.trans hm'), hsup, hpass⟩
variable {p : Program} {l : Launch} {e : Env} {R : Room} {s : State} {m₀ : MethodId} {args : Array Value} {below : List Frame} {meth : Method} {c : Code} {W : State} {locs : List Loc} {cells slots : Nat}
/-- follows the library's ctorThrowS (JvmDerived/BundleOwnThrow.lean), with this constructor's index and code; no word on the fields of what is thrown -/
theorem ns_ctor (X : Stand p l e R s m₀ args below meth c W locs cells slots) (hexec : p.tables.exec = Jvm.exec) (htr : e.platform.stackTraces = false)
    (hown : s.vm.findClass RX6 = some m₀.cls) (h : ∀ w ∈ nsAll, w.before args s = true) (hlocs : ∀ x ∈ locs, ∀ cell, s.heap[x.base]? = some cell → cell.vm.isStatics = false)
    {a : Addr} {cX : ClassId} {kX : Class} (hfX : s.vm.findClass xE = some cX) (hkX : s.vm.classes[cX]? = some kX) (hcell : W.heap[a]? = some (freshCell cX kX)) (hnew : s.heap.size ≤ a) {sa : Addr}
    {f : JFrame} (hf : f.method = m₀) (hsize : f.locals.size = c.maxLocals) (hlk : f.locked = none) (hent : f.entered = []) {rest : List Value} (hst : f.stack = .ref sa :: .ref a :: .ref a :: rest)
    (d6 : decode c.code f.pc = .ok (.invokespecial 136, 3)) (d9 : decode c.code (f.pc + 3) = .ok (.athrow, 1)) (hout : ∀ x ∈ c.exceptionTable.toList, covers x (f.pc + 3) = false)
    (hR1 : 5 < R.frames) (hR2 : 2 * f.monitorRoom + ((Value.ref a :: rest).map fun v => v.category).sum + 81 ≤ R.locals) (hlocks : meth.locks = false) :
    ∃ U : State, Steps p.tables e below (W.setTop f) U ∧ U.status = .running ∧ Ended U below (.threw a) ∧ s.WarmedH U.vm ∧ s.sameButNew ({ U with vm := s.vm } : State) locs cells slots ∧ ∃ ce, U.heap[a]? = some ce ∧ ce.vm = .none ∧ s.vm.findClass xE = some ce.cls := by
  have hpl : e.platform.magicAccessors = ({} : Platform).magicAccessors := by rw [X.admits.platform]
  have a' : ∀ x, x ∈ nsAll → x.holds args s none s [] = true := fun x hx => h x hx
  obtain ⟨T, Z0, L, -, Y⟩ := ThrowableC.of_atoms (args := args) (by rw [X.admits.platform]) (by rw [X.admits.platform]) hpl (fun x hx => h x (by simp [nsAll, hx]))
  obtain ⟨Z, M, LZ, LM, hnZ⟩ := Init0T.ofS_atoms (args := args) hpl L Y (fun x hx => h x (by simp [nsAll, hx]))
  obtain ⟨P1, Ps, hlen, L1, hL, hP1m, hlink1, hlink⟩ := ns_chain (args := args) hpl hnZ h
  have hfound : s.vm.findClass xE = some P1.m.cls := findClass_of_methodNamed hP1m
  cases Option.some.inj (hfX.symm.trans hfound)
  obtain ⟨c1, kX', hc1, hk, hord, -, -, hn6⟩ := Cond.instantiable_spec (a' (.instantiable xE 6) (by simp [nsAll]))
  cases Option.some.inj (hc1.symm.trans hfound)
  cases Option.some.inj (hkX.symm.trans hk)
  have sel : ∀ (y : MethodName) (m : MethodId), s.methodNamed? y = some m → (Cond.selects xE y y).holds args s none s [] = true → (s.methodFound? y.cls y.name y.desc = some m) → selectMethod e.platform s.vm P1.m.cls m = .method m := by
    intro y m hy hs hff
    obtain ⟨c2, r2, m2, q1, q2, q3, q4, -⟩ := Cond.selects_spec hs
    cases Option.some.inj (q1.symm.trans hfound)
    cases Option.some.inj (q2.symm.trans hff)
    cases Option.some.inj (q3.symm.trans hy)
    rw [Launch.admits_selectMethod X.admits]; exact q4
  have hsel0 := sel Bundle.tFill0 T.fill0 Y.fill0 (a' _ (by simp [nsAll])) (State.methodFound?_of_named Y.fill0 (by decide))
  have hselF := sel Bundle.tFill T.fill Y.fill (a' _ (by simp [nsAll])) (State.methodFound?_of_named Y.fill (by decide))
  obtain ⟨cellS0, hcS0, hiss⟩ := Y.statics
  obtain ⟨u0, hu0⟩ := Cond.staticRefV Y.unassigned L.unassignedStatic L.statics hcS0 hiss (a' (.isRef (.static Bundle.tN "UNASSIGNED_STACK" Bundle.steD)) (by simp [nsAll]))
  obtain ⟨sen, hsen⟩ := Cond.staticRefV Y.sentinel L.sentinelStatic L.statics hcS0 hiss (a' (.isRef (.static Bundle.tN "SUPPRESSED_SENTINEL" Bundle.listD)) (by simp [nsAll]))
  obtain ⟨ci198, i198, fB, hk198, hg198, ha198, hsB, -, hnB, htB, hffB⟩ := Cond.ownField (t := .object "java/lang/Object") Y.found L.cls (by decide +kernel) (a' (.fieldLink Bundle.tN 198 Bundle.tN "backtrace" "Ljava/lang/Object;") (by simp [nsAll])) (a' (.lays Bundle.tN Bundle.tN "backtrace" "Ljava/lang/Object;") (by simp [nsAll])) e.platform hpl
  obtain ⟨cellS, hcS', heS, -, hkeep⟩ := X.same.2.2.2.2.2 T.aS cellS0 hcS0
  have hcellS : W.heap[T.aS]? = some cellS := hcS'
  have hout' : ∀ i, (⟨T.aS, i⟩ : Loc) ∉ locs := fun i hmem => Bool.noConfusion ((hlocs _ hmem cellS0 hcS0).symm.trans hiss)
  have hknownS : cellS.vm ≠ .unknown := by
    rw [heS]; intro hu
    rw [show cellS0.vm = .unknown from hu] at hiss
    cases hiss
  have hneS : T.aS ≠ a := Nat.ne_of_lt (Nat.lt_of_lt_of_le (Array.getElem?_eq_some_iff.mp hcS0).1 hnew)
  obtain ⟨iM, hffM⟩ := Y.msg
  obtain ⟨tyC, dC, hdC, hdnC⟩ := Cond.laysAt hfound hk Y.cause (a' (.lays xE Bundle.tN "cause" "Ljava/lang/Throwable;") (by simp [nsAll]))
  obtain ⟨tyS, dS, hdS, hdnS⟩ := Cond.laysAt hfound hk Y.stack (a' (.lays xE Bundle.tN "stackTrace" Bundle.steD) (by simp [nsAll]))
  obtain ⟨tyP, dP, hdP, hdnP⟩ := Cond.laysAt hfound hk Y.supp (a' (.lays xE Bundle.tN "suppressedExceptions" Bundle.listD) (by simp [nsAll]))
  obtain ⟨tyM, dM, hdM, hdnM⟩ := Cond.laysAt hfound hk hffM (a' (.lays xE Bundle.tN "detailMessage" "Ljava/lang/String;") (by simp [nsAll]))
  obtain ⟨tyB, dB, hdB, hdnB⟩ := Cond.laysAt hfound hk hffB (a' (.lays xE Bundle.tN "backtrace" "Ljava/lang/Object;") (by simp [nsAll]))
  have bC := Cond.laysApart hdB hdC hdnB hdnC (by rw [hnB, Y.causeName]; decide)
  have bS := Cond.laysApart hdB hdS hdnB hdnS (by rw [hnB, Y.stackName]; decide)
  have bP := Cond.laysApart hdB hdP hdnB hdnP (by rw [hnB, Y.suppName]; decide)
  have hskip : SkipFacts T e.platform s (fun u => u) u0 ((preparedCellV T.toThrowableT (freshCell P1.m.cls kX) a u0 sen).withEntry W.cur) :=
    ⟨{ ci198 := ci198, i198 := i198, fBack := fB }, ⟨hk198, hg198, ha198, hsB⟩, by
      have := fresh_default (c := P1.m.cls) tyB
      rw [htB] at this
      simpa [preparedCellV, Cell.setSlot, Cell.withEntry, Array.getElem?_setIfInBounds, bC, bS, bP, bC.symm, bS.symm, bP.symm, defaultValue] using this, fun _ _ => rfl⟩
  obtain ⟨tm, methC, cdC, kC, vm₁, hnC, -, -, -, -, -, -, -, hW₁, st1⟩ := Steps.initColdS (tb := p.tables) (e := e) (below := below) (s := s) (U := W) X.here hexec X.warmed hpl hown (t := Bundle.initS xE) rfl rfl (by decide)
    (a' (.methodLink RX6 136 (Bundle.initS xE)) (by simp [nsAll])) (h (.instanceMethod (Bundle.initS xE)) (by simp [nsAll, Bundle.passSAtoms])) (bytes := prog_24_method_4_code) (maxL := 2) (h (.code (Bundle.initS xE) prog_24_method_4_code 2 none) (by simp [nsAll, Bundle.passSAtoms]))
    (f := f) hf (a := a) (msg := .ref sa) (rest := .ref a :: rest) hst d6
  cases Option.some.inj (hnC.symm.trans hP1m)
  have X₁ := X.noted hW₁
  obtain ⟨vm₂, X₂, st2⟩ := X₁.ctorMessageOffV hexec (g := { f with stack := .ref a :: rest }) hf hsize T L Z LZ M LM (P1 :: Ps) (List.forall_mem_cons.mpr ⟨L1, hL⟩) ⟨hlink1, hlink⟩ (u0 := u0) (sen := sen) (self := a) (msg := .ref sa) rfl (cell := freshCell P1.m.cls kX) (cellS := cellS)
    hcell (fun _ => by simp) (by simp) rfl rfl hsel0 hselF hcellS hneS hknownS (by rw [hkeep _ (hout' _)]; exact hu0) (by rw [hkeep _ (hout' _)]; exact hsen)
    (Takes.of_laid hk hord tyC (by rw [Y.causeType]; rfl)) (Takes.of_laid hk hord tyS (by rw [Y.stackType]; exact fits_refV_array _ u0)) (Takes.of_laid hk hord tyP (by rw [Y.suppType]; exact fits_refV_object _ sen))
    (Takes.of_laid hk hord tyM (by rw [Y.msgType]; exact fits_refV_object _ ⟨.ref sa, rfl⟩)) Y.objLocals hskip htr [] d6
    (by simp only [List.length_cons, hlen]; omega) (by simp only [List.length_cons, hlen]; exact hR2)
  obtain ⟨hwalk, hrun, hended, hWU, hsame⟩ := X₂.athrowLeaves hexec (g := { f with stack := .ref a :: rest, pc := f.pc + 3 }) hf hlk hent hout (a := a) (rest := rest) rfl d9
  have hlt : a < ((W.setVm vm₁).setVm vm₂).heap.size := (Array.getElem?_eq_some_iff.mp hcell).1
  have hU := heapAt_setCell_self (s := (W.setVm vm₁).setVm vm₂) (plainBareV T.toThrowableT (freshCell P1.m.cls kX) a u0 sen (.ref sa)) hlt
  refine ⟨_, st1 _ (fun acts => ?_), hrun, hended, hWU, hsame.weaken (fun y hy hlt' => ?_) (Nat.le_refl _) (Nat.le_refl _), _, hU, rfl, hfound⟩
  · rw [doInvoke_state]
    exact st2 _ hwalk
  · rcases List.mem_append.mp hy with h1 | h1
    · exact h1
    · have hb : y.base = a := by
        simp only [List.mem_cons, List.not_mem_nil, or_false] at h1
        rcases h1 with rfl | rfl | rfl | rfl | rfl <;> rfl
      exact absurd hlt' (by rw [hb]; exact Nat.not_lt.mpr hnew)
end NseCtor
def isDC : Cond → Bool
  | .declares _ => true
  | .castable _ _ => true
  | _ => false
theorem dc_mv {w : Cond} {s U : State} {A B : Array Value} (h : isDC w = true) (hW : s.vm.Alike U.vm) (hw : w.before A s = true) : w.before B U = true := by
  cases w <;> first
    | exact absurd (show false = true from h) Bool.false_ne_true
    | exact va_tabs rfl (rfl : (s.setVm U.vm).vm = U.vm) (by rw [Cond.declares_setVm hW]; exact hw)
    | exact va_tabs rfl (rfl : (s.setVm U.vm).vm = U.vm) (by rw [Cond.castable_setVm hW]; exact hw)
def nsW : List Cond := nsAll.filter vx_no
theorem xB_dc : (nsW.filter (fun w => !goodWord w)).all isDC = true := by decide +kernel
theorem xB_ot : (Cond.classLink RX6 132 xE :: Cond.initialized xE :: nsW).all vx_ot = true := by decide +kernel
theorem xE_link : Cond.classLink RX6 132 xE ∈ TB := TBm (tk4 (List.mem_of_getElem? (i := 156) rfl)) rfl
theorem xE_ini : Cond.initialized xE ∈ TB := TBm (tk1 (List.mem_of_getElem? (i := 19) rfl)) rfl
theorem nsTB0 : ∀ w ∈ nsAll, goodWord w = true → w ∈ TB := (List.forall_mem_cons.mpr ⟨fun _ => TBm (tk1 (List.mem_of_getElem? (i := 16) rfl)) rfl, (List.forall_mem_cons.mpr ⟨fun _ => TBm (tk4 (List.mem_of_getElem? (i := 178) rfl)) rfl, (List.forall_mem_cons.mpr ⟨fun _ => TBm (tk4 (List.mem_of_getElem? (i := 187) rfl)) rfl, (List.forall_mem_cons.mpr ⟨fun _ => TBm (tk4 (List.mem_of_getElem? (i := 189) rfl)) rfl, (List.forall_mem_cons.mpr ⟨fun _ => TBm (tk4 (List.mem_of_getElem? (i := 192) rfl)) rfl, (List.forall_mem_cons.mpr ⟨fun _ => TBm (tk4 (List.mem_of_getElem? (i := 194) rfl)) rfl, (List.forall_mem_cons.mpr ⟨fun _ => TBm (tk4 (List.mem_of_getElem? (i := 179) rfl)) rfl, (List.forall_mem_cons.mpr ⟨fun _ => TBm (tk4 (List.mem_of_getElem? (i := 180) rfl)) rfl, (List.forall_mem_cons.mpr ⟨fun _ => TBm (tk1 (List.mem_of_getElem? (i := 26) rfl)) rfl, (List.forall_mem_cons.mpr ⟨fun _ => TBm (tk1 (List.mem_of_getElem? (i := 27) rfl)) rfl, (List.forall_mem_cons.mpr ⟨fun _ => TBm (tk4 (List.mem_of_getElem? (i := 181) rfl)) rfl, (List.forall_mem_cons.mpr ⟨fun _ => TBm (tk4 (List.mem_of_getElem? (i := 186) rfl)) rfl, (List.forall_mem_cons.mpr ⟨fun _ => TBm (tk4 (List.mem_of_getElem? (i := 190) rfl)) rfl, (List.forall_mem_cons.mpr ⟨fun _ => TBm (tk4 (List.mem_of_getElem? (i := 210) rfl)) rfl, (List.forall_mem_cons.mpr ⟨fun _ => TBm (tk4 (List.mem_of_getElem? (i := 168) rfl)) rfl, (List.forall_mem_cons.mpr ⟨fun _ => TBm (tk4 (List.mem_of_getElem? (i := 211) rfl)) rfl, (List.forall_mem_cons.mpr ⟨fun _ => TBm (tk4 (List.mem_of_getElem? (i := 170) rfl)) rfl, (List.forall_mem_cons.mpr ⟨fun _ => TBm (tk4 (List.mem_of_getElem? (i := 212) rfl)) rfl, (List.forall_mem_cons.mpr ⟨fun _ => TBm (tk4 (List.mem_of_getElem? (i := 172) rfl)) rfl, (List.forall_mem_cons.mpr ⟨fun _ => TBm (tk4 (List.mem_of_getElem? (i := 182) rfl)) rfl, (List.forall_mem_cons.mpr ⟨fun h => Bool.noConfusion h, (List.forall_mem_cons.mpr ⟨fun _ => TBm (tk4 (List.mem_of_getElem? (i := 184) rfl)) rfl, (List.forall_mem_cons.mpr ⟨fun h => Bool.noConfusion h, (List.forall_mem_cons.mpr ⟨fun _ => TBm (tk4 (List.mem_of_getElem? (i := 174) rfl)) rfl, (List.forall_mem_cons.mpr ⟨fun _ => TBm (tk4 (List.mem_of_getElem? (i := 206) rfl)) rfl, (List.forall_mem_cons.mpr ⟨fun _ => TBm (tk4 (List.mem_of_getElem? (i := 207) rfl)) rfl, (List.forall_mem_cons.mpr ⟨fun _ => TBm (tk4 (List.mem_of_getElem? (i := 209) rfl)) rfl, (List.forall_mem_cons.mpr ⟨fun _ => TBm (tk4 (List.mem_of_getElem? (i := 174) rfl)) rfl, (List.forall_mem_cons.mpr ⟨fun _ => TBm (tk4 (List.mem_of_getElem? (i := 197) rfl)) rfl, (List.forall_mem_cons.mpr ⟨fun _ => TBm (tk4 (List.mem_of_getElem? (i := 198) rfl)) rfl, (List.forall_mem_cons.mpr ⟨fun _ => TBm (tk4 (List.mem_of_getElem? (i := 199) rfl)) rfl, (List.forall_mem_cons.mpr ⟨fun _ => TBm (tk4 (List.mem_of_getElem? (i := 200) rfl)) rfl, (List.forall_mem_cons.mpr ⟨fun h => Bool.noConfusion h, (List.forall_mem_cons.mpr ⟨fun _ => TBm (tk4 (List.mem_of_getElem? (i := 200) rfl)) rfl, (List.forall_mem_cons.mpr ⟨fun _ => TBm (tk4 (List.mem_of_getElem? (i := 201) rfl)) rfl, (List.forall_mem_cons.mpr ⟨fun _ => TBm (tk4 (List.mem_of_getElem? (i := 202) rfl)) rfl, (List.forall_mem_cons.mpr ⟨fun _ => TBm (tk4 (List.mem_of_getElem? (i := 203) rfl)) rfl, (List.forall_mem_cons.mpr ⟨fun h => Bool.noConfusion h, (List.forall_mem_cons.mpr ⟨fun _ => TBm (tk4 (List.mem_of_getElem? (i := 203) rfl)) rfl, (List.forall_mem_cons.mpr ⟨fun _ => TBm (tk4 (List.mem_of_getElem? (i := 204) rfl)) rfl, (List.forall_mem_cons.mpr ⟨fun _ => TBm (tk4 (List.mem_of_getElem? (i := 205) rfl)) rfl, (List.forall_mem_cons.mpr ⟨fun _ => TBm (tk4 (List.mem_of_getElem? (i := 206) rfl)) rfl, (List.forall_mem_cons.mpr ⟨fun h => Bool.noConfusion h, (List.forall_mem_cons.mpr ⟨fun _ => TBm (tk4 (List.mem_of_getElem? (i := 196) rfl)) rfl, (List.forall_mem_cons.mpr ⟨fun _ => TBm (tk4 (List.mem_of_getElem? (i := 157) rfl)) rfl, (List.forall_mem_cons.mpr ⟨fun h => Bool.noConfusion h, (List.forall_mem_cons.mpr ⟨fun _ => TBm (tk4 (List.mem_of_getElem? (i := 165) rfl)) rfl, (List.forall_mem_cons.mpr ⟨fun _ => TBm (tk4 (List.mem_of_getElem? (i := 166) rfl)) rfl, (List.forall_mem_cons.mpr ⟨fun _ => TBm (tk4 (List.mem_of_getElem? (i := 167) rfl)) rfl, (List.forall_mem_cons.mpr ⟨fun _ => TBm (tk4 (List.mem_of_getElem? (i := 169) rfl)) rfl, (List.forall_mem_cons.mpr ⟨fun _ => TBm (tk4 (List.mem_of_getElem? (i := 171) rfl)) rfl, (List.forall_mem_cons.mpr ⟨fun _ => TBm (tk4 (List.mem_of_getElem? (i := 173) rfl)) rfl, (List.forall_mem_cons.mpr ⟨fun h => Bool.noConfusion h, (List.forall_mem_cons.mpr ⟨fun h => Bool.noConfusion h, (List.forall_mem_cons.mpr ⟨fun _ => TBm (tk4 (List.mem_of_getElem? (i := 177) rfl)) rfl, (List.forall_mem_cons.mpr ⟨fun _ => TBm (tk4 (List.mem_of_getElem? (i := 176) rfl)) rfl, (List.forall_mem_cons.mpr ⟨fun _ => TBm (tk4 (List.mem_of_getElem? (i := 175) rfl)) rfl, (fun _ h => absurd h List.not_mem_nil)⟩)⟩)⟩)⟩)⟩)⟩)⟩)⟩)⟩)⟩)⟩)⟩)⟩)⟩)⟩)⟩)⟩)⟩)⟩)⟩)⟩)⟩)⟩)⟩)⟩)⟩)⟩)⟩)⟩)⟩)⟩)⟩)⟩)⟩)⟩)⟩)⟩)⟩)⟩)⟩)⟩)⟩)⟩)⟩)⟩)⟩)⟩)⟩)⟩)⟩)⟩)⟩)⟩)⟩)⟩)⟩)⟩)
theorem nsTB : ∀ w ∈ nsW.filter goodWord, w ∈ TB := fun w h => nsTB0 w (List.mem_filter.mp (List.mem_filter.mp h).1).1 (List.mem_filter.mp h).2
theorem nsT1 : ∀ w ∈ nsAll, vx_no w = true → (!goodWord w) = true → w ∈ lw_tbl := (List.forall_mem_cons.mpr ⟨fun h _ => tk1 (List.mem_of_getElem? (i := 16) rfl), (List.forall_mem_cons.mpr ⟨fun h _ => tk4 (List.mem_of_getElem? (i := 178) rfl), (List.forall_mem_cons.mpr ⟨fun h _ => tk4 (List.mem_of_getElem? (i := 187) rfl), (List.forall_mem_cons.mpr ⟨fun h _ => tk4 (List.mem_of_getElem? (i := 189) rfl), (List.forall_mem_cons.mpr ⟨fun h _ => tk4 (List.mem_of_getElem? (i := 192) rfl), (List.forall_mem_cons.mpr ⟨fun h _ => tk4 (List.mem_of_getElem? (i := 194) rfl), (List.forall_mem_cons.mpr ⟨fun h _ => tk4 (List.mem_of_getElem? (i := 179) rfl), (List.forall_mem_cons.mpr ⟨fun h _ => tk4 (List.mem_of_getElem? (i := 180) rfl), (List.forall_mem_cons.mpr ⟨fun h _ => tk1 (List.mem_of_getElem? (i := 26) rfl), (List.forall_mem_cons.mpr ⟨fun h _ => tk1 (List.mem_of_getElem? (i := 27) rfl), (List.forall_mem_cons.mpr ⟨fun h _ => tk4 (List.mem_of_getElem? (i := 181) rfl), (List.forall_mem_cons.mpr ⟨fun h _ => tk4 (List.mem_of_getElem? (i := 186) rfl), (List.forall_mem_cons.mpr ⟨fun h _ => tk4 (List.mem_of_getElem? (i := 190) rfl), (List.forall_mem_cons.mpr ⟨fun h _ => tk4 (List.mem_of_getElem? (i := 210) rfl), (List.forall_mem_cons.mpr ⟨fun h _ => tk4 (List.mem_of_getElem? (i := 168) rfl), (List.forall_mem_cons.mpr ⟨fun h _ => tk4 (List.mem_of_getElem? (i := 211) rfl), (List.forall_mem_cons.mpr ⟨fun h _ => tk4 (List.mem_of_getElem? (i := 170) rfl), (List.forall_mem_cons.mpr ⟨fun h _ => tk4 (List.mem_of_getElem? (i := 212) rfl), (List.forall_mem_cons.mpr ⟨fun h _ => tk4 (List.mem_of_getElem? (i := 172) rfl), (List.forall_mem_cons.mpr ⟨fun h _ => tk4 (List.mem_of_getElem? (i := 182) rfl), (List.forall_mem_cons.mpr ⟨fun h _ => Bool.noConfusion h, (List.forall_mem_cons.mpr ⟨fun h _ => tk4 (List.mem_of_getElem? (i := 184) rfl), (List.forall_mem_cons.mpr ⟨fun h _ => Bool.noConfusion h, (List.forall_mem_cons.mpr ⟨fun h _ => tk4 (List.mem_of_getElem? (i := 174) rfl), (List.forall_mem_cons.mpr ⟨fun h _ => tk4 (List.mem_of_getElem? (i := 206) rfl), (List.forall_mem_cons.mpr ⟨fun h _ => tk4 (List.mem_of_getElem? (i := 207) rfl), (List.forall_mem_cons.mpr ⟨fun h _ => tk4 (List.mem_of_getElem? (i := 209) rfl), (List.forall_mem_cons.mpr ⟨fun h _ => tk4 (List.mem_of_getElem? (i := 174) rfl), (List.forall_mem_cons.mpr ⟨fun h _ => tk4 (List.mem_of_getElem? (i := 197) rfl), (List.forall_mem_cons.mpr ⟨fun h _ => tk4 (List.mem_of_getElem? (i := 198) rfl), (List.forall_mem_cons.mpr ⟨fun h _ => tk4 (List.mem_of_getElem? (i := 199) rfl), (List.forall_mem_cons.mpr ⟨fun h _ => tk4 (List.mem_of_getElem? (i := 200) rfl), (List.forall_mem_cons.mpr ⟨fun h _ => tk4 (List.mem_of_getElem? (i := 160) rfl), (List.forall_mem_cons.mpr ⟨fun h _ => tk4 (List.mem_of_getElem? (i := 200) rfl), (List.forall_mem_cons.mpr ⟨fun h _ => tk4 (List.mem_of_getElem? (i := 201) rfl), (List.forall_mem_cons.mpr ⟨fun h _ => tk4 (List.mem_of_getElem? (i := 202) rfl), (List.forall_mem_cons.mpr ⟨fun h _ => tk4 (List.mem_of_getElem? (i := 203) rfl), (List.forall_mem_cons.mpr ⟨fun h _ => tk4 (List.mem_of_getElem? (i := 162) rfl), (List.forall_mem_cons.mpr ⟨fun h _ => tk4 (List.mem_of_getElem? (i := 203) rfl), (List.forall_mem_cons.mpr ⟨fun h _ => tk4 (List.mem_of_getElem? (i := 204) rfl), (List.forall_mem_cons.mpr ⟨fun h _ => tk4 (List.mem_of_getElem? (i := 205) rfl), (List.forall_mem_cons.mpr ⟨fun h _ => tk4 (List.mem_of_getElem? (i := 206) rfl), (List.forall_mem_cons.mpr ⟨fun h _ => tk4 (List.mem_of_getElem? (i := 164) rfl), (List.forall_mem_cons.mpr ⟨fun h _ => tk4 (List.mem_of_getElem? (i := 196) rfl), (List.forall_mem_cons.mpr ⟨fun h _ => tk4 (List.mem_of_getElem? (i := 157) rfl), (List.forall_mem_cons.mpr ⟨fun h _ => tk4 (List.mem_of_getElem? (i := 158) rfl), (List.forall_mem_cons.mpr ⟨fun h _ => tk4 (List.mem_of_getElem? (i := 165) rfl), (List.forall_mem_cons.mpr ⟨fun h _ => tk4 (List.mem_of_getElem? (i := 166) rfl), (List.forall_mem_cons.mpr ⟨fun h _ => tk4 (List.mem_of_getElem? (i := 167) rfl), (List.forall_mem_cons.mpr ⟨fun h _ => tk4 (List.mem_of_getElem? (i := 169) rfl), (List.forall_mem_cons.mpr ⟨fun h _ => tk4 (List.mem_of_getElem? (i := 171) rfl), (List.forall_mem_cons.mpr ⟨fun h _ => tk4 (List.mem_of_getElem? (i := 173) rfl), (List.forall_mem_cons.mpr ⟨fun h _ => Bool.noConfusion h, (List.forall_mem_cons.mpr ⟨fun h _ => Bool.noConfusion h, (List.forall_mem_cons.mpr ⟨fun h _ => tk4 (List.mem_of_getElem? (i := 177) rfl), (List.forall_mem_cons.mpr ⟨fun h _ => tk4 (List.mem_of_getElem? (i := 176) rfl), (List.forall_mem_cons.mpr ⟨fun h _ => tk4 (List.mem_of_getElem? (i := 175) rfl), (fun _ h => absurd h List.not_mem_nil)⟩)⟩)⟩)⟩)⟩)⟩)⟩)⟩)⟩)⟩)⟩)⟩)⟩)⟩)⟩)⟩)⟩)⟩)⟩)⟩)⟩)⟩)⟩)⟩)⟩)⟩)⟩)⟩)⟩)⟩)⟩)⟩)⟩)⟩)⟩)⟩)⟩)⟩)⟩)⟩)⟩)⟩)⟩)⟩)⟩)⟩)⟩)⟩)⟩)⟩)⟩)⟩)⟩)⟩)⟩)⟩)⟩)
theorem nsT2 : ∀ w ∈ nsW.filter (fun w => !goodWord w), w ∈ lw_tbl := fun w h => nsT1 w (List.mem_filter.mp (List.mem_filter.mp h).1).1 (List.mem_filter.mp (List.mem_filter.mp h).1).2 (List.mem_filter.mp h).2
section NsThrow
variable {p : Program} {l : Launch} {e : Env} {R : Room} {s : State} {m : MethodId} {args : Array Value} {below : List Frame} {meth : Method} {c : Code} {H : Heap} {locs : List Loc} {cells slots : Nat}
variable {ls : Array Slot} {rest : List Value} {free : Nat → Prop} {Qc : Array Value → State → Outcome → State → Prop} {XC : String → State → State → Prop}
/-- follows the skeleton's vx_throwS -/
theorem ns_throw {cc : ByteArray} {pc : Nat} (hexec : p.tables.exec = Jvm.exec) (hb : c.code = cc) (hl : l.stackTraces = false) {text : String} {is mc ms sa : Nat} {A : Nat → Prop} (hown : s.vm.findClass RX6 = some m.cls)
    (hk : (Cond.classLink RX6 132 xE).before args s = true) (hini : (Cond.initialized xE).before args s = true) (hstr : vk_R RX6 is text sa s) (hat : ∀ w ∈ nsW, w.before args s = true)
    (hU : vx_Zq Bundle.tN "UNASSIGNED_STACK" Bundle.steD A s s.heap) (hN : vx_Zq Bundle.tN "SUPPRESSED_SENTINEL" Bundle.listD A s s.heap) (hS : va_S A s.heap H locs) (hsize : ls.size = c.maxLocals)
    (d0 : decode cc pc = .ok (.new 132, 3)) (d3 : decode cc (pc + 3) = .ok (.dup, 1)) (d4 : decode cc (pc + 4) = .ok (.ldc is, 2)) (d6 : decode cc (pc + 6) = .ok (.invokespecial 136, 3)) (d9 : decode cc (pc + 9) = .ok (.athrow, 1))
    (hout : ∀ x ∈ c.exceptionTable.toList, covers x (pc + 9) = false)
    (hR1 : 5 < R.frames) (hR2 : (rest.map fun v => v.category).sum + 82 ≤ R.locals) (hR3 : cells + 1 ≤ R.cells) (hR4 : slots + 6 ≤ R.slots) (hlocks : meth.locks = false)
    (hx : ∀ t : State, s.vm.Alike t.vm → H.size ≤ t.heap.size → (∀ q : Nat, q < H.size → t.heap[q]? = H[q]?) → XC xE s t)
    (hf : ∀ z ∈ locs, free z.base) (hc : cells + 1 ≤ mc) (hs : slots + 6 ≤ ms) :
    W p l e R s m args below meth c H locs cells slots (vx_MQ below Qc XC args s mc ms free) (F0 m pc ls rest) := by
  intro T hT X
  have htr : e.platform.stackTraces = false := (show e.platform.stackTraces = l.stackTraces by rw [X.admits.platform]).trans hl
  have Y := vx_rebase X (R' := { frames := R.frames, locals := R.locals, cells := 1, slots := 6 }) (Nat.le_refl _) (Nat.le_refl _) hR3 hR4
  obtain ⟨s', hA⟩ : ∃ z, z = (T.setVm s.vm).setFrames (.invoking m args :: below) := ⟨_, rfl⟩
  rw [← hA] at Y
  have hvm : s'.vm = s.vm := by rw [hA]; rfl
  have hhp : s'.heap = H := by rw [hA]; exact hT
  have hW0 : s.WarmedH s'.vm := by rw [hvm]; exact State.WarmedH.refl s
  have ot : ∀ w ∈ Cond.classLink RX6 132 xE :: Cond.initialized xE :: nsW, w.before args s = true → w.before args s' = true := fun w hw h => vx_ot_at hW0 hvm.symm (List.all_eq_true.mp xB_ot w hw) h
  have hU' : vx_Zq Bundle.tN "UNASSIGNED_STACK" Bundle.steD A s' s'.heap := by rw [hhp]; exact vx_Zq.moved hW0.alike (hU.kept hS.2.1)
  have hN' : vx_Zq Bundle.tN "SUPPRESSED_SENTINEL" Bundle.listD A s' s'.heap := by rw [hhp]; exact vx_Zq.moved hW0.alike (hN.kept hS.2.1)
  have h : ∀ w ∈ nsAll, w.before args s' = true := vx_own (fun w hw => ot w (List.mem_cons_of_mem _ (List.mem_cons_of_mem _ hw)) (hat w hw)) (vx_isRefq hU'.1) (vx_isRefq hN'.1) hU'.2.word hN'.2.word
  have hown' : s'.vm.findClass RX6 = some m.cls := by rw [hvm]; exact hown
  obtain ⟨vm₁, cX, kX, hfX, hkX, -, -, X₁, st1⟩ := Y.newCold hexec (own := RX6) (C := xE) (index := 132) (n := 6) hown' (ot _ List.mem_cons_self hk) (h _ (by simp [nsAll])) (ot _ (List.mem_cons_of_mem _ List.mem_cons_self) hini)
    (g := F0 m pc ls rest) rfl (by rw [hb]; exact d0) (Nat.le_refl _) (Nat.le_refl _)
  generalize hT1 : (T.setVm vm₁).pushCell { cls := cX, slots := kX.instanceTypes.map defaultValue, vm := .none } = T1 at X₁ st1
  have hcat : (Value.ref T.heap.size).category = 1 := rfl
  have hcellA : T1.heap[T.heap.size]? = some (freshCell cX kX) := by rw [← hT1]; exact State.heap_pushCell_size _ _
  have d3' : decode c.code (pc + 3) = .ok (.dup, 1) := by rw [hb]; exact d3
  have d4' : decode c.code (pc + 4) = .ok (.ldc is, 2) := by rw [hb]; exact d4
  have hstr' : vk_R RX6 is text sa s' := vk_R.warm hW0 hstr
  obtain ⟨U, hsteps, hrun, hend, hW, hsame, ce, hce, hv0, hcl0⟩ := ns_ctor X₁ hexec htr hown' h (fun x hx => nomatch hx) hfX hkX hcellA (by rw [hhp, hT]; exact Nat.le_refl _) (sa := sa)
    (f := { method := m, pc := pc + 6, locals := ls, stack := .ref sa :: .ref T.heap.size :: .ref T.heap.size :: rest, locked := none }) rfl hsize rfl rfl (rest := rest) rfl
    (by rw [hb]; exact d6) (by rw [hb]; exact d9) hout hR1 (by simp only [List.map_cons, List.sum_cons, hcat]; omega) hlocks
  obtain ⟨f1, f2⟩ := vx_frame hsame
  rw [hhp] at f1 f2
  have hWs : s.WarmedH U.vm := State.WarmedH.trans hW0 hW
  have hcl : s.vm.findClass xE = some ce.cls := by rw [hvm] at hcl0; exact hcl0
  have hall : s.sameButNew ({ U with vm := s.vm } : State) locs mc ms := by
    subst hA
    obtain ⟨e1, e2⟩ := hsame
    rw [State.setFrames_setFrames] at e1
    have h2 : (T.setVm s.vm).sameButNew ({ U with vm := s.vm } : State) [] (0 + 1) (0 + 6) := ⟨e1, e2⟩
    have h3 := X.same.trans h2
    rw [List.append_nil] at h3
    exact h3.mono hc hs
  refine ⟨U, ?_, .threw T.heap.size, hrun, hend, Or.inr ⟨T.heap.size, rfl, xE, ce, locs, hx U hWs.alike f1 (fun q hq => f2 q hq (fun z hz => nomatch hz)), hce, hv0, hcl, hWs, hall, hf⟩⟩
  refine st1 _ ?_
  show Steps p.tables e below (T1.setTop { method := m, pc := pc + 3, locals := ls, stack := .ref T.heap.size :: rest, locked := none }) _
  jvm_step X₁.here [X₁.here.top, hexec, d3', Value.category]
  exact X₁.ldcString hexec (own := RX6) (text := text) (index := is) (a := sa) hown' hstr'.1 hstr'.2
    (g := { method := m, pc := pc + 4, locals := ls, stack := .ref T.heap.size :: .ref T.heap.size :: rest, locked := none }) rfl d4' _ hsteps
end NsThrow
/-- what a throw needs of the machine: two statics, four words -/
def gThr (g : gG) (U : State) : Prop := vx_Zq Bundle.tN "UNASSIGNED_STACK" Bundle.steD (gA g) U U.heap ∧ vx_Zq Bundle.tN "SUPPRESSED_SENTINEL" Bundle.listD (gA g) U U.heap ∧
  ∀ w ∈ nsW.filter (fun w => !goodWord w), w.before #[] U = true
theorem gThr_mv {g : gG} {s U : State} (h : gThr g s) (hW : s.vm.Alike U.vm) (hq : ∀ a : Nat, a < s.heap.size → ¬ gA g a → U.heap[a]? = s.heap[a]?) : gThr g U :=
  ⟨(vx_Zq.moved hW h.1).kept hq, (vx_Zq.moved hW h.2.1).kept hq, fun w hw => dc_mv (List.all_eq_true.mp xB_dc w hw) hW (h.2.2 w hw)⟩
theorem gThr_same {g : gG} {s U : State} (h : gThr g s) (hv : U.vm = s.vm) (hh : U.heap = s.heap) : gThr g U := gThr_mv h (by rw [hv]; exact Vm.Alike.refl _) (fun a _ _ => by rw [hh])
def gPreX (g : gG) (av : List Value) (w : gS) : Array Value → State → Prop := va_Pc av (fun U => gHS g w U ∧ gStr g U ∧ gThr g U)
theorem gPreX_blind {g : gG} {av : List Value} {w : gS} : FrameBlind (gPreX g av w) := fun a U f mk q => ⟨q.1, ⟨q.2.1.1, va_K.moved (u := U) (U := U.calling f mk a) (Vm.Alike.refl U.vm) q.2.1.2.1, q.2.1.2.2⟩, gStr_same (U := U.calling f mk a) q.2.2.1 rfl rfl, gThr_same (U := U.calling f mk a) q.2.2.2 rfl rfl⟩
abbrev gBX (g : gG) : String → gS → State → Prop := fun E u t => E = xE ∧ gHS g u t
abbrev gMetX (l : Launch) (g : gG) (y : MethodName) (ws : List Cond) (rm : Room) (av : List Value) (w : gS) (Qc : Array Value → State → Outcome → State → Prop) (px : gS → Prop) : Prop := vx_Met l y ws rm (gPreX g av w) Qc (vx_X px (gBX g) (gA g)) 1 6 (gA g)
theorem gStartX {l : Launch} {g : gG} {y : MethodName} {ws ws' : List Cond} {rm : Room} {av : List Value} {I : gI} {R : gR} {J : gJ} {AI : gI} {AJ : gJ} {AR : gR} {Qc : Array Value → State → Outcome → State → Prop} {px : gS → Prop} {cc : ByteArray} {maxL : Nat} {ret : Option FieldType}
    (hy : plainName y.cls = true) (hw : ws = Cond.code y cc maxL ret :: ws') (hav : (lg_sl av).length ≤ maxL)
    (body : ∀ (p : Program) (e : Env) (s : State) (m : MethodId) (below : List Frame) (meth : Method) (c : Code) (ls : Array Slot), gFix g p c cc maxL s av.toArray ws y.cls m → meth.sig.returnType = ret → meth.locks = false →
      gH g I R J AI AJ AR s.heap → gZ g ≤ s.heap.size → va_S (gA g) s.heap s.heap [] → (∀ x ∈ c.exceptionTable.toList, False) → gThr g s → lv_has ls maxL (lv_args 0 av) →
      W p l e rm s m av.toArray below meth c s.heap [] 0 0 (vx_MQ below Qc (vx_X px (gBX g) (gA g)) av.toArray s 1 6 (gA g)) (F0 m 0 ls [])) : gMetX l g y ws rm av (I, R, J, AI, AJ, AR) Qc px := by
  refine vx_ofW (cc := cc) (maxL := maxL) (ret := ret) hy hw ?_
  intro p e s m args below meth c s₁ B hml hxt hv
  obtain ⟨rfl, ⟨hH, hK, hz⟩, hG, hTh⟩ := hv
  rw [lg_entry_eq]
  exact body p e s m below meth c _ ⟨B.exec, B.bytes, hml, findClass_of_methodNamed B.named, atoms_spec (ws := ws) B.pre, hK, hG⟩ B.returns B.notSynchronized hH hz va_S.rf hxt hTh (lv_entry av hav)
section GThrow
variable {g : gG} {I : gI} {R : gR} {J : gJ} {AI : gI} {AJ : gJ} {AR : gR}
variable {p : Program} {l : Launch} {e : Env} {Rm : Room} {s : State} {m : MethodId} {args : Array Value} {below : List Frame} {meth : Method} {c : Code} {H : Heap} {locs : List Loc} {cells slots : Nat} {Q : State → Prop}
variable {cc : ByteArray} {pc nL : Nat} {ls : Array Slot} {rest st0 : List Value} {Ts : List Cond} {own C : String}
variable {y : MethodName} {bytes : ByteArray} {maxL n index b ci N : Nat} {T : u_T} {ret : Option FieldType} {ws : List Cond} {rm : Room} {As : List Value}
variable {Qc : Array Value → State → Outcome → State → Prop} {px : gS → Prop}
theorem gH_kept {H1 : Heap} (hH : gH g I R J AI AJ AR H) (h : ∀ q : Nat, q < H.size → H1[q]? = H[q]?) : gH g I R J AI AJ AR H1 := ⟨hH.1.kept (fun k x hx => h x.1 ((hH.1 k x hx).lt)), hH.2⟩
theorem g_throw (F : gFix g p c cc nL s args Ts RX6 m) (hTh : gThr g s) (hst : l.stackTraces = false) (hH : gH g I R J AI AJ AR H) (hS : va_S (gA g) s.heap H locs) (hz : gZ g ≤ s.heap.size) (hxt : ∀ x ∈ c.exceptionTable.toList, False) (hlk : meth.locks = false) (hls : ls.size = nL)
    {i is : Nat} {tx : String} {bs : List Int32} (hq : sTab[i]? = some (RX6, is, tx, bs)) (hTB : ∀ w ∈ TB, w ∈ Ts)
    (d0 : decode cc pc = .ok (.new 132, 3)) (d3 : decode cc (pc + 3) = .ok (.dup, 1)) (d4 : decode cc (pc + 4) = .ok (.ldc is, 2)) (d6 : decode cc (pc + 6) = .ok (.invokespecial 136, 3)) (d9 : decode cc (pc + 9) = .ok (.athrow, 1))
    (hR1 : 5 < Rm.frames) (hR2 : 82 ≤ Rm.locals) (hR3 : 1 ≤ Rm.cells) (hR4 : 6 ≤ Rm.slots) (hp : px (I, R, J, AI, AJ, AR)) :
    W p l e Rm s m args below meth c H locs 0 0 (vx_MQ below Qc (vx_X px (gBX g) (gA g)) args s 1 6 (gA g)) (F0 m pc ls []) := by
  have F5 := F.2.2.2.2.1
  refine ns_throw (rest := []) (A := gA g) F.1 F.2.1 hst F.2.2.2.1 (F5 _ (hTB _ xE_link)) (F5 _ (hTB _ xE_ini)) (F.2.2.2.2.2.2.1 i _ hq).1 (vx_hat (fun w h => F5 w (hTB w (nsTB w h))) (fun w h => h) (fun w h => dc_mv (List.all_eq_true.mp xB_dc w h) (Vm.Alike.refl _) (hTh.2.2 w h)))
    hTh.1 hTh.2.1 hS (hls.trans F.2.2.1.symm) d0 d3 d4 d6 d9 (fun x hx => (hxt x hx).elim) hR1 hR2 (by omega) (by omega) hlk ?_ hS.2.2 (Nat.le_refl _) (Nat.le_refl _)
  intro t hvm hsz hk1
  exact ⟨(I, R, J, AI, AJ, AR), hp, ⟨rfl, gH_kept hH hk1, va_K.moved hvm F.2.2.2.2.2.1, Nat.le_trans hz (Nat.le_trans hS.1 hsz)⟩, Nat.le_trans hS.1 hsz, fun q h1 h2 => (hk1 q (Nat.lt_of_lt_of_le h1 hS.1)).trans (hS.2.1 q h1 h2)⟩
theorem g_iretX (F : gFix g p c cc nL s args Ts own m) (hr : meth.sig.returnType = some .int) (hlk : meth.locks = false) (hH : gH g I R J AI AJ AR H) (hS : va_S (gA g) s.heap H locs) (hz : gZ g ≤ s.heap.size) {XC : String → State → State → Prop} {post : Int → gS → Prop} {z : Int} (hv : zr z) (hp : post z (I, R, J, AI, AJ, AR)) (hc : cells ≤ 1) (hs : slots ≤ 6) (hdg : decode cc pc = .ok (.ireturn, 1)) :
    W p l e Rm s m args below meth c H locs cells slots (vx_MQ below (gQi g post) XC args s 1 6 (gA g)) (F0 m pc ls [.int (iI z)]) :=
  W.widen hc hs (vx_ret (W.iret F.1 F.2.1 hr (fun t ht hW => ⟨⟨iI z, (I, R, J, AI, AJ, AR), rfl, by show post (iI z).toInt _; rw [iI_val hv]; exact hp, by rw [ht]; exact hH, va_K.moved hW.alike F.2.2.2.2.2.1, by rw [ht]; exact Nat.le_trans hz hS.1⟩, hS.F ht⟩) hS.2.2 hdg hlk))
theorem g_preX (F : gFix g p c cc nL s args Ts own m) (hTh : gThr g s) (hH : gH g I R J AI AJ AR H) (hS : va_S (gA g) s.heap H locs) (hz : gZ g ≤ s.heap.size) {av : List Value} : ∀ U : State, U.heap = H → s.WarmedH U.vm → gPreX g av (I, R, J, AI, AJ, AR) av.toArray U := fun U hU hW =>
  ⟨rfl, ⟨by rw [hU]; exact hH, va_K.moved hW.alike F.2.2.2.2.2.1, by rw [hU]; exact Nat.le_trans hz hS.1⟩, gStr_mv F.2.2.2.2.2.2 hW (fun a h1 h2 => by rw [hU]; exact hS.2.1 a h1 h2), gThr_mv hTh hW.alike (fun a h1 h2 => by rw [hU]; exact hS.2.1 a h1 h2)⟩
theorem g_runSX (F : gFix g p c cc nL s args Ts own m) (hTh : gThr g s) (hls : ls.size = nL) (hH : gH g I R J AI AJ AR H) (hS : va_S (gA g) s.heap H locs) (hz : gZ g ≤ s.heap.size)
    (M : gMetX l g y ws rm As (I, R, J, AI, AJ, AR) Qc px) (cw : CallB Rm s args own index y bytes maxL ret ws rm 1 6 n ∧ (Cond.static y).before args s = true) (hn : As.length = n) (hst : st0 = As.reverse ++ rest) (hroom : (rest.map fun v => v.category).sum ≤ 8) (hdg : decode cc pc = .ok (.invokestatic index, 3)) (hcs : cells + 1 ≤ Rm.cells ∧ slots + 6 ≤ Rm.slots) :
    vx_Run p l e Rm s m args below meth c H locs cells slots 1 6 (F0 m pc ls st0) rest (Qc As.toArray) (vx_X px (gBX g) (gA g)) (gA g) :=
  vx_runS (As := As) (rest := rest) ⟨F.1, F.2.1, F.2.2.1, F.2.2.2.1, F.2.2.2.2.1⟩ M cw ⟨gPreX_blind, g_preX F hTh hH hS hz⟩ rfl hn hls hst (lv_room (m := m) (pc := pc) (ls := ls) (rest := st0) hroom) hdg hcs
theorem g_runVX (F : gFix g p c cc nL s args Ts own m) (hTh : gThr g s) (hls : ls.size = nL) (hH : gH g I R J AI AJ AR H) (hS : va_S (gA g) s.heap H locs) (hz : gZ g ≤ s.heap.size)
    (M : gMetX l g y ws rm (.ref b :: As) (I, R, J, AI, AJ, AR) Qc px) (cw : CallW Rm s args own C index y bytes maxL ret ws rm 1 6 n) (hb : gO g b ci) (hc8 : ci < 8) (hc : vwCl[ci]? = some (C, T, N)) (hn : As.length = n) (hst : st0 = As.reverse ++ .ref b :: rest) (hroom : (rest.map fun v => v.category).sum ≤ 8) (hdg : decode cc pc = .ok (.invokevirtual index, 3)) (hcs : cells + 1 ≤ Rm.cells ∧ slots + 6 ≤ Rm.slots) :
    vx_Run p l e Rm s m args below meth c H locs cells slots 1 6 (F0 m pc ls st0) rest (Qc (Value.ref b :: As).toArray) (vx_X px (gBX g) (gA g)) (gA g) :=
  vx_runV (As := As) (rest := rest) ⟨F.1, F.2.1, F.2.2.1, F.2.2.2.1, F.2.2.2.2.1⟩ M cw ⟨gPreX_blind, g_recv F hH hb hc8 hc, g_preX F hTh hH hS hz⟩ rfl hn hls hst (lv_room (m := m) (pc := pc) (ls := ls) (rest := st0) hroom) hdg hcs
theorem g_calliX {post : Int → gS → Prop} {a : Array Value} (hr : vx_Run p l e Rm s m args below meth c H locs cells slots 1 6 (F0 m pc ls st0) rest (gQi g post a) (vx_X px (gBX g) (gA g)) (gA g)) (hS : va_S (gA g) s.heap H locs)
    (kx : ∀ (ce : Cell) (q9 : Addr) (I : gI) (R : gR) (J : gJ) (AI : gI) (AJ : gJ) (AR : gR) (H1 : Heap) (locs1 : List Loc), px (I, R, J, AI, AJ, AR) → gH g I R J AI AJ AR H1 → va_S (gA g) s.heap H1 locs1 → H1[q9]? = some ce → ce.vm = .none → s.vm.findClass xE = some ce.cls → vx_W p l e Rm s m args below meth c H1 locs1 (cells + 1) (slots + 6) Q (F0 m pc ls rest) q9)
    (kk : ∀ (z : Int) (I : gI) (R : gR) (J : gJ) (AI : gI) (AJ : gJ) (AR : gR) (H1 : Heap) (locs1 : List Loc), zr z → post z (I, R, J, AI, AJ, AR) → gH g I R J AI AJ AR H1 → va_S (gA g) s.heap H1 locs1 → W p l e Rm s m args below meth c H1 locs1 (cells + 1) (slots + 6) Q (F0 m (pc + 3) ls (.int (iI z) :: rest))) : W p l e Rm s m args below meth c H locs cells slots Q (F0 m pc ls st0) := by
  refine vx_calli hr hS (fun q _ h => h) (fun q h => h) (fun q _ h => h) (fun E ce q9 w t H1 locs1 ht hvm hp hB hz1 hk1 hS1 h1 h2 h3 => ?_) (fun r w t H1 locs1 ht hvm hp hB hz1 hk1 hS1 => ?_)
  · obtain ⟨I1, R1, J1, AI1, AJ1, AR1⟩ := w
    obtain ⟨rfl, hB, -⟩ := hB
    exact kx ce q9 I1 R1 J1 AI1 AJ1 AR1 H1 locs1 hp (by rw [← ht]; exact hB) hS1 h1 h2 h3
  · obtain ⟨I1, R1, J1, AI1, AJ1, AR1⟩ := w
    have h := kk r.toInt I1 R1 J1 AI1 AJ1 AR1 H1 locs1 (zr_t r) hp (by rw [← ht]; exact hB.1) hS1
    rwa [iI_self] at h
/-- it goes on to the caller -/
theorem g_outX {px : gS → Prop} (F : gFix g p c cc nL s args Ts own m) (hH : gH g I R J AI AJ AR H) (hS : va_S (gA g) s.heap H locs) (hz : gZ g ≤ s.heap.size) (hxt : ∀ x ∈ c.exceptionTable.toList, False) (hlk : meth.locks = false) {ce : Cell} {q9 : Addr} (h1 : H[q9]? = some ce) (h2 : ce.vm = .none) (h3 : s.vm.findClass xE = some ce.cls) (hp : px (I, R, J, AI, AJ, AR)) (hc : cells ≤ 1) (hs : slots ≤ 6) :
    vx_W p l e Rm s m args below meth c H locs cells slots (vx_MQ below Qc (vx_X px (gBX g) (gA g)) args s 1 6 (gA g)) (F0 m pc ls rest) q9 :=
  vx_out (fun x hx => (hxt x hx).elim) hlk h1 h2 h3 (fun t ht hvm => ⟨(I, R, J, AI, AJ, AR), hp, ⟨rfl, by rw [ht]; exact hH, va_K.moved hvm F.2.2.2.2.2.1, by rw [ht]; exact Nat.le_trans hz hS.1⟩, hS.F ht⟩) hS.2.2 hc hs
/-- caught by the method's own row -/
theorem g_catch (F : gFix g p c cc nL s args Ts own m) (hTh : gThr g s) {a1 b1 h1 t1 : Nat} (hxt : c.exceptionTable.toList = tableOf [(a1, b1, h1, t1)]) (hcv : covers ⟨a1, b1, h1, t1⟩ pc = true) (h0 : t1 ≠ 0) (hlink : Cond.classLink own t1 xE ∈ Ts) {ce : Cell} {q9 : Addr} (e1 : H[q9]? = some ce) (e2 : ce.vm = .none) (e3 : s.vm.findClass xE = some ce.cls)
    (kk : W p l e Rm s m args below meth c H locs cells slots Q (F0 m h1 ls [.ref q9])) : vx_W p l e Rm s m args below meth c H locs cells slots Q (F0 m pc ls rest) q9 :=
  vx_catch F.2.2.2.1 [] ⟨a1, b1, h1, t1⟩ [] (hxt.trans rfl) (fun z hz => nomatch hz) hcv h0 (F.2.2.2.2.1 _ hlink) (dc_mv (s := s) (A := #[]) rfl (Vm.Alike.refl _) (hTh.2.2 (.castable xE xE) (by decide +kernel))) e1 e2 e3 kk
end GThrow
theorem gStartW {l : Launch} {g : gG} {y : MethodName} {ws ws' : List Cond} {rm : Room} {av : List Value} {I : gI} {R : gR} {J : gJ} {AI : gI} {AJ : gJ} {AR : gR} {Qc : Array Value → State → Outcome → State → Prop} {px : gS → Prop} {cc : ByteArray} {maxL : Nat} {ret : Option FieldType} {hh : List (Nat × Nat × Nat × Nat)}
    (hy : plainName y.cls = true) (hw : ws = Cond.codeWith y cc maxL ret hh :: ws') (hav : (lg_sl av).length ≤ maxL)
    (body : ∀ (p : Program) (e : Env) (s : State) (m : MethodId) (below : List Frame) (meth : Method) (c : Code) (ls : Array Slot), gFix g p c cc maxL s av.toArray ws y.cls m → meth.sig.returnType = ret → meth.locks = false →
      gH g I R J AI AJ AR s.heap → gZ g ≤ s.heap.size → va_S (gA g) s.heap s.heap [] → c.exceptionTable.toList = tableOf hh → gThr g s → lv_has ls maxL (lv_args 0 av) →
      W p l e rm s m av.toArray below meth c s.heap [] 0 0 (vx_MQ below Qc (vx_X px (gBX g) (gA g)) av.toArray s 1 6 (gA g)) (F0 m 0 ls [])) : gMetX l g y ws rm av (I, R, J, AI, AJ, AR) Qc px := by
  refine vx_ofWH (cc := cc) (maxL := maxL) (ret := ret) (hh := hh) hy hw ?_
  intro p e s m args below meth c s₁ B hml hv
  obtain ⟨rfl, ⟨hH, hK, hz⟩, hG, hTh⟩ := hv
  rw [lg_entry_eq]
  exact body p e s m below meth c _ ⟨B.exec, B.bytes, hml, findClass_of_methodNamed B.named, atoms_spec (ws := ws) B.pre, hK, hG⟩ B.returns B.notSynchronized hH hz va_S.rf (vx_table (x := y) B (atoms_spec (ws := ws) B.pre _ (by rw [hw]; exact List.mem_cons_self))) hTh (lv_entry av hav)
end
section
def rmX6_pending : Room := { frames := 6, cells := 1, slots := 6, locals := 82 }
theorem hdX6_pending : yX6_pending.cls = RX6 ∧ yX6_pending.cls ≠ "java/lang/invoke/MethodHandle" ∧ yX6_pending.cls ≠ "java/lang/invoke/VarHandle" ∧ (parseMethodDescriptor yX6_pending.desc).map (fun d => d.parameters.length) = some 2 := by decide +kernel
set_option maxHeartbeats 4000000 in
set_option maxRecDepth 100000 in
/-- a change of the batch -/
theorem c_X6_pending (l : Launch) (g : gG) (gh : gGh) (pA bA nA : Nat) (I : gI) (R : gR) (J : gJ) (AI : gI) (AJ : gJ) (AR : gR) (x : Nat) (i : Int) (pl : Int) (zi : zr i) (zpl : zr pl) (hv : gInv g gh R AR I AI) (hx : xS g gh R AR x pA bA nA) (hst : l.stackTraces = false) : gMetX l g yX6_pending tsX6_pending rmX6_pending [.ref x, .int (iI i), .int (iI pl)] (I, R, J, AI, AJ, AR) (gQi g (fun (z : Int) (w : gS) => I = w.1 ∧ R = w.2.1 ∧ J = w.2.2.1 ∧ AI = w.2.2.2.1 ∧ AJ = w.2.2.2.2.1 ∧ AR = w.2.2.2.2.2)) (fun w : gS => I = w.1 ∧ R = w.2.1 ∧ J = w.2.2.1 ∧ AI = w.2.2.2.1 ∧ AJ = w.2.2.2.2.1 ∧ AR = w.2.2.2.2.2) := by
  refine gStartX (cc := cX6_pending) (maxL := 4) (ret := (some (.int))) (by decide) rfl (Nat.le_of_ble_eq_true rfl) ?_
  intro p e s m below meth c ls F hr hlk hH hz hS hxt hTh hl
  have hl : lv_has ls 4 [(0, .ref x), (1, .int (iI i)), (2, .int (iI pl))] := hl
  have hS : va_S (gA g) s.heap s.heap [] := hS
  obtain ⟨H, hHe⟩ : ∃ H : Heap, H = s.heap := ⟨_, rfl⟩
  obtain ⟨locs, hlo⟩ : ∃ k : List Loc, k = [] := ⟨_, rfl⟩
  have hH : gH g I R J AI AJ AR H := by rw [hHe]; exact hH
  have hS : va_S (gA g) s.heap H locs := by rw [hHe, hlo]; exact hS
  suffices hw : W p l e rmX6_pending s m ([.ref x, .int (iI i), .int (iI pl)] : List Value).toArray below meth c H locs 0 0 (vx_MQ below (gQi g (fun (z : Int) (w : gS) => I = w.1 ∧ R = w.2.1 ∧ J = w.2.2.1 ∧ AI = w.2.2.2.1 ∧ AJ = w.2.2.2.2.1 ∧ AR = w.2.2.2.2.2)) (vx_X (fun w : gS => I = w.1 ∧ R = w.2.1 ∧ J = w.2.2.1 ∧ AI = w.2.2.2.1 ∧ AJ = w.2.2.2.2.1 ∧ AR = w.2.2.2.2.2) (gBX g) (gA g)) ([.ref x, .int (iI i), .int (iI pl)] : List Value).toArray s 1 6 (gA g)) (F0 m 0 ls []) by
    rw [hHe, hlo] at hw; exact hw
  clear hHe hlo
  have iX6 : ∀ w ∈ u_ws RX6 TX6 18, w ∈ tsX6_pending := fun w h => List.mem_cons_of_mem _ (inTB6 w h)
  have iX4 : ∀ w ∈ u_ws RX4 TX4 4, w ∈ tsX6_pending := fun w h => List.mem_cons_of_mem _ (inTB4 w h)
  have iX2 : ∀ w ∈ u_ws RX2 TX2 3, w ∈ tsX6_pending := fun w h => List.mem_cons_of_mem _ (inTB2 w h)
  have iX0 : ∀ w ∈ u_ws RX0 TX0 15, w ∈ tsX6_pending := fun w h => List.mem_cons_of_mem _ (inTB0 w h)
  have k53 : Cond.fieldLink RX6 53 (TX6 8).1 (TX6 8).2.1 (TX6 8).2.2.1 ∈ tsX6_pending := List.mem_cons_of_mem _ (TBm (tk1 (List.mem_of_getElem? (i := 238) rfl)) rfl)
  have k99 : Cond.fieldLink RX6 99 (TX4 3).1 (TX4 3).2.1 (TX4 3).2.2.1 ∈ tsX6_pending := List.mem_cons_of_mem _ (TBm (tk1 (List.mem_of_getElem? (i := 217) rfl)) rfl)
  have k23 : Cond.fieldLink RX6 23 (TX6 3).1 (TX6 3).2.1 (TX6 3).2.2.1 ∈ tsX6_pending := List.mem_cons_of_mem _ (TBm (tk1 (List.mem_of_getElem? (i := 233) rfl)) rfl)
  have k113 : Cond.fieldLink RX6 113 (TX2 0).1 (TX2 0).2.1 (TX2 0).2.2.1 ∈ tsX6_pending := List.mem_cons_of_mem _ (TBm (tk1 (List.mem_of_getElem? (i := 156) rfl)) rfl)
  have k125 : Cond.fieldLink RX6 125 (TX0 2).1 (TX0 2).2.1 (TX0 2).2.2.1 ∈ tsX6_pending := List.mem_cons_of_mem _ (TBm (tk1 (List.mem_of_getElem? (i := 86) rfl)) rfl)
  refine lv_iload_n F.1 F.2.1 dX6_pending_0 rfl (lv_at hl 1 rfl) ?_
  refine z_iconst F dX6_pending_1 ?_
  refine z_icmp_ne (tgt := 13) F dX6_pending_2 (by decide) zi ⟨by decide, by decide⟩ (fun c_1 => ?_) (fun c_1 => ?_)
  · refine lv_iload_n F.1 F.2.1 dX6_pending_13 rfl (lv_at hl 1 rfl) ?_
    refine z_if_lt (tgt := 37) F dX6_pending_14 (by decide) zi (fun c_2 => ?_) (fun c_2 => ?_)
    · exact g_throw F hTh hst hH hS hz hxt hlk hl.1 (i := 2) rfl (fun w h => List.mem_cons_of_mem _ h) dX6_pending_37 dX6_pending_40 dX6_pending_41 dX6_pending_43 dX6_pending_46 (Nat.le_of_ble_eq_true rfl) (Nat.le_of_ble_eq_true rfl) (Nat.le_refl _) (Nat.le_refl _) ⟨rfl, rfl, rfl, rfl, rfl, rfl⟩
    · refine lv_iload_n F.1 F.2.1 dX6_pending_17 rfl (lv_at hl 1 rfl) ?_
      refine lv_aload_n F.1 F.2.1 dX6_pending_18 rfl (lv_at hl 0 rfl) ?_
      obtain ⟨r_3a, r_3b, r_3c, r_3d⟩ := gR_x8 hv hx.1
      refine g_getR (ci := 6) (k := 8) F hH rfl (by decide) iX6 hx.1 (by decide) rfl (b := gh 37 0) r_3a k53 dX6_pending_19 ?_
      refine g_getI (ci := 4) (k := 3) F hH rfl (by decide) iX4 r_3b (by decide) rfl k99 dX6_pending_22 ?_
      obtain ⟨b_4a, b_4b, b_4c, b_4d, b_4e, b_4f, b_4g, b_4h⟩ := gI_rows hv r_3b
      refine z_icmp_ge (tgt := 37) F dX6_pending_25 (by decide) zi (zr_t _) (fun c_5 => ?_) (fun c_5 => ?_)
      · exact g_throw F hTh hst hH hS hz hxt hlk hl.1 (i := 2) rfl (fun w h => List.mem_cons_of_mem _ h) dX6_pending_37 dX6_pending_40 dX6_pending_41 dX6_pending_43 dX6_pending_46 (Nat.le_of_ble_eq_true rfl) (Nat.le_of_ble_eq_true rfl) (Nat.le_refl _) (Nat.le_refl _) ⟨rfl, rfl, rfl, rfl, rfl, rfl⟩
      · refine lv_iload_n F.1 F.2.1 dX6_pending_28 rfl (lv_at hl 2 rfl) ?_
        refine z_if_lt (tgt := 37) F dX6_pending_29 (by decide) zpl (fun c_6 => ?_) (fun c_6 => ?_)
        · exact g_throw F hTh hst hH hS hz hxt hlk hl.1 (i := 2) rfl (fun w h => List.mem_cons_of_mem _ h) dX6_pending_37 dX6_pending_40 dX6_pending_41 dX6_pending_43 dX6_pending_46 (Nat.le_of_ble_eq_true rfl) (Nat.le_of_ble_eq_true rfl) (Nat.le_refl _) (Nat.le_refl _) ⟨rfl, rfl, rfl, rfl, rfl, rfl⟩
        · refine lv_iload_n F.1 F.2.1 dX6_pending_32 rfl (lv_at hl 2 rfl) ?_
          refine z_iconst F dX6_pending_33 ?_
          refine z_icmp_le (tgt := 47) F dX6_pending_34 (by decide) zpl ⟨by decide, by decide⟩ (fun c_7 => ?_) (fun c_7 => ?_)
          · refine lv_aload_n F.1 F.2.1 dX6_pending_47 rfl (lv_at hl 0 rfl) ?_
            refine g_getR (ci := 6) (k := 3) F hH rfl (by decide) iX6 hx.1 (by decide) rfl (b := pA) hx.2.1 k23 dX6_pending_48 ?_
            obtain ⟨r_8a, r_8b⟩ := gR_lines hv hx.2.2.1
            refine g_getR (ci := 2) (k := 0) F hH rfl (by decide) iX2 hx.2.2.1 (by decide) rfl (b := gh 6 pA) r_8a k113 dX6_pending_51 ?_
            refine lv_aload_n F.1 F.2.1 dX6_pending_54 rfl (lv_at hl 0 rfl) ?_
            refine g_getR (ci := 6) (k := 8) F hH rfl (by decide) iX6 hx.1 (by decide) rfl (b := gh 37 0) r_3a k53 dX6_pending_55 ?_
            refine lv_iload_n F.1 F.2.1 dX6_pending_58 rfl (lv_at hl 1 rfl) ?_
            refine z_iconst F dX6_pending_59 ?_
            refine g_calli (g_runV (As := [.int (iI i), .int (iI 0)]) (rest := [.ref (gh 6 pA)]) (ci := 4) F hl.1 hH hS hz (c_X4_cell l g gh I R J AI AJ AR (gh 37 0) i 0 zi ⟨by decide, by decide⟩ hv r_3b (by omega) (by omega) (by omega) (by omega)) (cwV 2 F.2.2.2.2.1 (good_up gTB_X6_pending_X4_cell) rfl rfl rfl hdX4_cell ⟨Nat.le_of_ble_eq_true rfl, Nat.le_of_ble_eq_true rfl⟩) r_3b (by decide) rfl rfl rfl (Nat.le_of_ble_eq_true rfl) dX6_pending_60 ⟨Nat.zero_le _, Nat.zero_le _⟩) hS (fun v_15 I_9 R_10 J_11 AI_12 AJ_13 AR_14 H locs zv_15 hp_16 hH hS => ?_)
            dsimp only at hp_16
            obtain ⟨rfl, rfl, rfl, rfl, rfl, rfl, qc⟩ := hp_16
            have hc5 := hv.2.1 (gh 37 0) r_3b r_3d i.toNat (by omega)
            rw [show 6 * i.toNat = (i * 6 + 0).toNat from by omega, ← qc] at hc5
            have hx63 : 0 ≤ v_15 ∧ v_15 < ((16 : Nat) : Int) ∧ v_15 ≤ 2147483647 := ⟨by omega, by omega, by omega⟩
            obtain ⟨y_17, y_17a, y_17b, y_17c, y_17d⟩ := gA_lines hv hx.2.2.1 (z := v_15) (by omega) (by omega)
            refine g_aldL F hH r_8b hx63.1 hx63.2.1 hx63.2.2 (b := y_17) y_17a dX6_pending_63 ?_
            refine g_getI (ci := 0) (k := 2) F hH rfl (by decide) iX0 y_17b (by decide) rfl k125 dX6_pending_64 ?_
            have b_18 := gI_line hv y_17b
            unfold vLineI at b_18
            refine lv_istore_n (lv' := [(3, .int (iI ((I y_17 2).toInt))), (0, .ref x), (1, .int (iI i)), (2, .int (iI pl))]) F.1 F.2.1 dX6_pending_67 rfl hl (by decide) rfl (fun ls hl => ?_)
            refine lv_iload_n F.1 F.2.1 dX6_pending_68 rfl (lv_at hl 3 rfl) ?_
            refine lv_iload_n F.1 F.2.1 dX6_pending_69 rfl (lv_at hl 0 rfl) ?_
            refine z_icmp_le (tgt := 88) F dX6_pending_70 (by decide) zpl (zr_t _) (fun c_19 => ?_) (fun c_19 => ?_)
            · refine lv_aload_n F.1 F.2.1 dX6_pending_88 rfl (lv_at hl 1 rfl) ?_
              refine g_getR (ci := 6) (k := 8) F hH rfl (by decide) iX6 hx.1 (by decide) rfl (b := gh 37 0) r_3a k53 dX6_pending_89 ?_
              refine lv_iload_n F.1 F.2.1 dX6_pending_92 rfl (lv_at hl 2 rfl) ?_
              refine lv_iload_n F.1 F.2.1 dX6_pending_93 rfl (lv_at hl 3 rfl) ?_
              refine g_calli (g_runV (As := [.int (iI i), .int (iI pl)]) (rest := []) (ci := 4) F hl.1 hH hS hz (c_X4_cell l g gh I R J AI AJ AR (gh 37 0) i pl zi zpl hv r_3b (by omega) (by omega) (by omega) (by omega)) (cwV 2 F.2.2.2.2.1 (good_up gTB_X6_pending_X4_cell) rfl rfl rfl hdX4_cell ⟨Nat.le_of_ble_eq_true rfl, Nat.le_of_ble_eq_true rfl⟩) r_3b (by decide) rfl rfl rfl (Nat.le_of_ble_eq_true rfl) dX6_pending_94 ⟨Nat.zero_le _, Nat.zero_le _⟩) hS (fun v_26 I_20 R_21 J_22 AI_23 AJ_24 AR_25 H locs zv_26 hp_27 hH hS => ?_)
              dsimp only at hp_27
              obtain ⟨rfl, rfl, rfl, rfl, rfl, rfl, q_28⟩ := hp_27
              exact g_iretX F hr hlk hH hS hz zv_26 ⟨rfl, rfl, rfl, rfl, rfl, rfl⟩ (by decide) (by decide) dX6_pending_97
            · refine lv_iload_n F.1 F.2.1 dX6_pending_73 rfl (lv_at hl 3 rfl) ?_
              refine z_iconst F dX6_pending_74 ?_
              refine z_icmp_ge (tgt := 88) F dX6_pending_75 (by decide) zpl ⟨by decide, by decide⟩ (fun c_29 => ?_) (fun c_29 => ?_)
              · refine lv_aload_n F.1 F.2.1 dX6_pending_88 rfl (lv_at hl 1 rfl) ?_
                refine g_getR (ci := 6) (k := 8) F hH rfl (by decide) iX6 hx.1 (by decide) rfl (b := gh 37 0) r_3a k53 dX6_pending_89 ?_
                refine lv_iload_n F.1 F.2.1 dX6_pending_92 rfl (lv_at hl 2 rfl) ?_
                refine lv_iload_n F.1 F.2.1 dX6_pending_93 rfl (lv_at hl 3 rfl) ?_
                refine g_calli (g_runV (As := [.int (iI i), .int (iI pl)]) (rest := []) (ci := 4) F hl.1 hH hS hz (c_X4_cell l g gh I R J AI AJ AR (gh 37 0) i pl zi zpl hv r_3b (by omega) (by omega) (by omega) (by omega)) (cwV 2 F.2.2.2.2.1 (good_up gTB_X6_pending_X4_cell) rfl rfl rfl hdX4_cell ⟨Nat.le_of_ble_eq_true rfl, Nat.le_of_ble_eq_true rfl⟩) r_3b (by decide) rfl rfl rfl (Nat.le_of_ble_eq_true rfl) dX6_pending_94 ⟨Nat.zero_le _, Nat.zero_le _⟩) hS (fun v_36 I_30 R_31 J_32 AI_33 AJ_34 AR_35 H locs zv_36 hp_37 hH hS => ?_)
                dsimp only at hp_37
                obtain ⟨rfl, rfl, rfl, rfl, rfl, rfl, q_38⟩ := hp_37
                exact g_iretX F hr hlk hH hS hz zv_36 ⟨rfl, rfl, rfl, rfl, rfl, rfl⟩ (by decide) (by decide) dX6_pending_97
              · exact g_throw F hTh hst hH hS hz hxt hlk hl.1 (i := 3) rfl (fun w h => List.mem_cons_of_mem _ h) dX6_pending_78 dX6_pending_81 dX6_pending_82 dX6_pending_84 dX6_pending_87 (Nat.le_of_ble_eq_true rfl) (Nat.le_of_ble_eq_true rfl) (Nat.le_refl _) (Nat.le_refl _) ⟨rfl, rfl, rfl, rfl, rfl, rfl⟩
          · exact g_throw F hTh hst hH hS hz hxt hlk hl.1 (i := 2) rfl (fun w h => List.mem_cons_of_mem _ h) dX6_pending_37 dX6_pending_40 dX6_pending_41 dX6_pending_43 dX6_pending_46 (Nat.le_of_ble_eq_true rfl) (Nat.le_of_ble_eq_true rfl) (Nat.le_refl _) (Nat.le_refl _) ⟨rfl, rfl, rfl, rfl, rfl, rfl⟩
  · refine lv_aload_n F.1 F.2.1 dX6_pending_5 rfl (lv_at hl 0 rfl) ?_
    obtain ⟨r_39a, r_39b, r_39c, r_39d⟩ := gR_x8 hv hx.1
    refine g_getR (ci := 6) (k := 8) F hH rfl (by decide) iX6 hx.1 (by decide) rfl (b := gh 37 0) r_39a k53 dX6_pending_6 ?_
    refine g_getI (ci := 4) (k := 3) F hH rfl (by decide) iX4 r_39b (by decide) rfl k99 dX6_pending_9 ?_
    obtain ⟨b_40a, b_40b, b_40c, b_40d, b_40e, b_40f, b_40g, b_40h⟩ := gI_rows hv r_39b
    exact g_iretX F hr hlk hH hS hz (zr_t _) ⟨rfl, rfl, rfl, rfl, rfl, rfl⟩ (by decide) (by decide) dX6_pending_12

theorem hdX6_tupleCell : yX6_tupleCell.cls = RX6 ∧ yX6_tupleCell.cls ≠ "java/lang/invoke/MethodHandle" ∧ yX6_tupleCell.cls ≠ "java/lang/invoke/VarHandle" ∧ (parseMethodDescriptor yX6_tupleCell.desc).map (fun d => d.parameters.length) = some 4 := by decide +kernel
theorem hdX6_at : yX6_at.cls = RX6 ∧ yX6_at.cls ≠ "java/lang/invoke/MethodHandle" ∧ yX6_at.cls ≠ "java/lang/invoke/VarHandle" ∧ (parseMethodDescriptor yX6_at.desc).map (fun d => d.parameters.length) = some 3 := by decide +kernel
theorem hdX6_movedAt : yX6_movedAt.cls = RX6 ∧ yX6_movedAt.cls ≠ "java/lang/invoke/MethodHandle" ∧ yX6_movedAt.cls ≠ "java/lang/invoke/VarHandle" ∧ (parseMethodDescriptor yX6_movedAt.desc).map (fun d => d.parameters.length) = some 3 := by decide +kernel
theorem hdX6_count : yX6_count.cls = RX6 ∧ yX6_count.cls ≠ "java/lang/invoke/MethodHandle" ∧ yX6_count.cls ≠ "java/lang/invoke/VarHandle" ∧ (parseMethodDescriptor yX6_count.desc).map (fun d => d.parameters.length) = some 5 := by decide +kernel
theorem hdX6_total : yX6_total.cls = RX6 ∧ yX6_total.cls ≠ "java/lang/invoke/MethodHandle" ∧ yX6_total.cls ≠ "java/lang/invoke/VarHandle" ∧ (parseMethodDescriptor yX6_total.desc).map (fun d => d.parameters.length) = some 1 := by decide +kernel
theorem hdX6_column : yX6_column.cls = RX6 ∧ yX6_column.cls ≠ "java/lang/invoke/MethodHandle" ∧ yX6_column.cls ≠ "java/lang/invoke/VarHandle" ∧ (parseMethodDescriptor yX6_column.desc).map (fun d => d.parameters.length) = some 3 := by decide +kernel
end
section
theorem ggL_pending_X6_pending : GoodIn wsL_pending wsX6_pending := goodIn_ca (goodIn_r _ [6, 7, 8, 9, 10, 11, 12, 13, 14, 15, 16, 17, 18, 19, 20, 21, 22, 23, 24, 25, 26, 27, 28, 29, 30, 31, 32, 33, 34, 35, 36, 37, 38, 39, 40, 41, 42, 43, 44, 45, 46, 47, 48, 49, 50, 51, 52, 53, 54, 55, 56, 57, 58, 59] (by decide +kernel) (by decide +kernel)) (goodIn_sub (fun _ h => List.mem_cons_of_mem _ (List.mem_append_right _ h)) (by decide +kernel))
theorem gL_pending_X6_pending : GoodIn wsL_pending (wsV RL 7 RX6 yX6_pending wsX6_pending) := goodIn_app (goodIn_of _ (by decide +kernel)) ggL_pending_X6_pending
theorem dL_pending_0 : decode cL_pending 0 = .ok (.aload_n 3, 1) := by decide +kernel
theorem dL_pending_1 : decode cL_pending 1 = .ok (.iconst 0, 1) := by decide +kernel
theorem dL_pending_2 : decode cL_pending 2 = .ok (.aload_n 0, 1) := by decide +kernel
theorem dL_pending_3 : decode cL_pending 3 = .ok (.iload_n 1, 1) := by decide +kernel
theorem dL_pending_4 : decode cL_pending 4 = .ok (.iload_n 2, 1) := by decide +kernel
theorem dL_pending_5 : decode cL_pending 5 = .ok (.invokevirtual 7, 3) := by decide +kernel
theorem dL_pending_8 : decode cL_pending 8 = .ok (.i2l, 1) := by decide +kernel
theorem dL_pending_9 : decode cL_pending 9 = .ok (.lastore, 1) := by decide +kernel
theorem dL_pending_10 : decode cL_pending 10 = .ok (.goto 7, 3) := by decide +kernel
theorem dL_pending_13 : decode cL_pending 13 = .ok (.astore 4, 2) := by decide +kernel
theorem dL_pending_15 : decode cL_pending 15 = .ok (.iconst 1, 1) := by decide +kernel
theorem dL_pending_16 : decode cL_pending 16 = .ok (.ireturn, 1) := by decide +kernel
theorem dL_pending_17 : decode cL_pending 17 = .ok (.iconst 0, 1) := by decide +kernel
theorem dL_pending_18 : decode cL_pending 18 = .ok (.ireturn, 1) := by decide +kernel
theorem ggL_at_X6_at : GoodIn wsL_at wsX6_at := goodIn_ca (goodIn_r _ [6, 7, 8, 9, 10, 11, 12, 13, 14, 15, 5, 16, 17, 18, 19, 20, 21, 22, 23, 24, 25, 26, 27, 28, 29, 30, 31, 32, 33, 34, 35, 36, 37, 38, 39, 40, 41, 42, 43, 44, 45, 46, 47, 48, 49, 50, 51, 52, 53, 54, 55, 56, 57, 58, 59, 60, 61, 62, 63, 64, 65, 66, 67, 68, 69, 70, 71, 72] (by decide +kernel) (by decide +kernel)) (goodIn_sub (fun _ h => List.mem_cons_of_mem _ (List.mem_append_right _ h)) (by decide +kernel))
theorem gL_at_X6_at : GoodIn wsL_at (wsV RL 15 RX6 yX6_at wsX6_at) := goodIn_app (goodIn_of _ (by decide +kernel)) ggL_at_X6_at
theorem dL_at_0 : decode cL_at 0 = .ok (.aload 4, 2) := by decide +kernel
theorem dL_at_2 : decode cL_at 2 = .ok (.iconst 0, 1) := by decide +kernel
theorem dL_at_3 : decode cL_at 3 = .ok (.aload_n 0, 1) := by decide +kernel
theorem dL_at_4 : decode cL_at 4 = .ok (.iload_n 1, 1) := by decide +kernel
theorem dL_at_5 : decode cL_at 5 = .ok (.iload_n 2, 1) := by decide +kernel
theorem dL_at_6 : decode cL_at 6 = .ok (.iload_n 3, 1) := by decide +kernel
theorem dL_at_7 : decode cL_at 7 = .ok (.invokevirtual 15, 3) := by decide +kernel
theorem dL_at_10 : decode cL_at 10 = .ok (.i2l, 1) := by decide +kernel
theorem dL_at_11 : decode cL_at 11 = .ok (.lastore, 1) := by decide +kernel
theorem dL_at_12 : decode cL_at 12 = .ok (.goto 7, 3) := by decide +kernel
theorem dL_at_15 : decode cL_at 15 = .ok (.astore 5, 2) := by decide +kernel
theorem dL_at_17 : decode cL_at 17 = .ok (.iconst 1, 1) := by decide +kernel
theorem dL_at_18 : decode cL_at 18 = .ok (.ireturn, 1) := by decide +kernel
theorem dL_at_19 : decode cL_at 19 = .ok (.iconst 0, 1) := by decide +kernel
theorem dL_at_20 : decode cL_at 20 = .ok (.ireturn, 1) := by decide +kernel
theorem ggL_count_X6_count : GoodIn wsL_count wsX6_count := goodIn_ca (goodIn_r _ [6, 7, 8, 9, 10, 11, 12, 13, 14, 15, 16, 5, 17, 18, 19, 20, 21, 22, 23, 24, 25, 26, 27, 28, 29, 30, 31, 32, 33, 34, 35, 36, 37, 38, 39, 40, 41, 42, 43, 44, 45, 46, 47, 48, 49, 50, 51, 52, 53, 54, 55, 56, 57, 58, 59, 60, 61, 62, 63, 64, 65, 66, 67, 68, 69, 70, 71, 72, 73, 74, 75, 76, 77, 78, 79, 80, 81, 82] (by decide +kernel) (by decide +kernel)) (goodIn_sub (fun _ h => List.mem_cons_of_mem _ (List.mem_append_right _ h)) (by decide +kernel))
theorem gL_count_X6_count : GoodIn wsL_count (wsV RL 19 RX6 yX6_count wsX6_count) := goodIn_app (goodIn_of _ (by decide +kernel)) ggL_count_X6_count
theorem dL_count_0 : decode cL_count 0 = .ok (.aload 6, 2) := by decide +kernel
theorem dL_count_2 : decode cL_count 2 = .ok (.iconst 0, 1) := by decide +kernel
theorem dL_count_3 : decode cL_count 3 = .ok (.aload_n 0, 1) := by decide +kernel
theorem dL_count_4 : decode cL_count 4 = .ok (.iload_n 1, 1) := by decide +kernel
theorem dL_count_5 : decode cL_count 5 = .ok (.iload_n 2, 1) := by decide +kernel
theorem dL_count_6 : decode cL_count 6 = .ok (.iload_n 3, 1) := by decide +kernel
theorem dL_count_7 : decode cL_count 7 = .ok (.iload 4, 2) := by decide +kernel
theorem dL_count_9 : decode cL_count 9 = .ok (.iload 5, 2) := by decide +kernel
theorem dL_count_11 : decode cL_count 11 = .ok (.invokevirtual 19, 3) := by decide +kernel
theorem dL_count_14 : decode cL_count 14 = .ok (.i2l, 1) := by decide +kernel
theorem dL_count_15 : decode cL_count 15 = .ok (.lastore, 1) := by decide +kernel
theorem dL_count_16 : decode cL_count 16 = .ok (.goto 7, 3) := by decide +kernel
theorem dL_count_19 : decode cL_count 19 = .ok (.astore 7, 2) := by decide +kernel
theorem dL_count_21 : decode cL_count 21 = .ok (.iconst 1, 1) := by decide +kernel
theorem dL_count_22 : decode cL_count 22 = .ok (.ireturn, 1) := by decide +kernel
theorem dL_count_23 : decode cL_count 23 = .ok (.iconst 0, 1) := by decide +kernel
theorem dL_count_24 : decode cL_count 24 = .ok (.ireturn, 1) := by decide +kernel
theorem ggL_total_X6_total : GoodIn wsL_total wsX6_total := goodIn_ca (goodIn_r _ [6, 7, 8, 9, 10, 11, 12, 13, 5, 14, 15, 16, 17, 18, 19, 20, 21, 22, 23, 24, 25, 26, 27, 28, 29, 30, 31, 32, 33, 34, 35, 36, 37, 38, 39, 40, 41, 42, 43, 44, 45, 46, 47, 48] (by decide +kernel) (by decide +kernel)) (goodIn_sub (fun _ h => List.mem_cons_of_mem _ (List.mem_append_right _ h)) (by decide +kernel))
theorem gL_total_X6_total : GoodIn wsL_total (wsV RL 23 RX6 yX6_total wsX6_total) := goodIn_app (goodIn_of _ (by decide +kernel)) ggL_total_X6_total
theorem dL_total_0 : decode cL_total 0 = .ok (.aload_n 2, 1) := by decide +kernel
theorem dL_total_1 : decode cL_total 1 = .ok (.iconst 0, 1) := by decide +kernel
theorem dL_total_2 : decode cL_total 2 = .ok (.aload_n 0, 1) := by decide +kernel
theorem dL_total_3 : decode cL_total 3 = .ok (.iload_n 1, 1) := by decide +kernel
theorem dL_total_4 : decode cL_total 4 = .ok (.invokevirtual 23, 3) := by decide +kernel
theorem dL_total_7 : decode cL_total 7 = .ok (.i2l, 1) := by decide +kernel
theorem dL_total_8 : decode cL_total 8 = .ok (.lastore, 1) := by decide +kernel
theorem dL_total_9 : decode cL_total 9 = .ok (.goto 6, 3) := by decide +kernel
theorem dL_total_12 : decode cL_total 12 = .ok (.astore_n 3, 1) := by decide +kernel
theorem dL_total_13 : decode cL_total 13 = .ok (.iconst 1, 1) := by decide +kernel
theorem dL_total_14 : decode cL_total 14 = .ok (.ireturn, 1) := by decide +kernel
theorem dL_total_15 : decode cL_total 15 = .ok (.iconst 0, 1) := by decide +kernel
theorem dL_total_16 : decode cL_total 16 = .ok (.ireturn, 1) := by decide +kernel
theorem ggL_movedAt_X6_movedAt : GoodIn wsL_movedAt wsX6_movedAt := goodIn_ca (goodIn_r _ [6, 7, 8, 9, 10, 11, 12, 13, 14, 15, 5, 16, 17, 18, 19, 20, 21, 22, 23, 24, 25, 26, 27, 28, 29, 30, 31, 32, 33, 34, 35, 36, 37, 38, 39, 40, 41, 42, 43, 44, 45, 46, 47, 48, 49, 50, 51, 52, 53, 54, 55, 56, 57, 58, 59, 60, 61, 62, 63, 64, 65, 66, 67, 68, 69, 70, 71, 72] (by decide +kernel) (by decide +kernel)) (goodIn_sub (fun _ h => List.mem_cons_of_mem _ (List.mem_append_right _ h)) (by decide +kernel))
theorem gL_movedAt_X6_movedAt : GoodIn wsL_movedAt (wsV RL 27 RX6 yX6_movedAt wsX6_movedAt) := goodIn_app (goodIn_of _ (by decide +kernel)) ggL_movedAt_X6_movedAt
theorem dL_movedAt_0 : decode cL_movedAt 0 = .ok (.aload 4, 2) := by decide +kernel
theorem dL_movedAt_2 : decode cL_movedAt 2 = .ok (.iconst 0, 1) := by decide +kernel
theorem dL_movedAt_3 : decode cL_movedAt 3 = .ok (.aload_n 0, 1) := by decide +kernel
theorem dL_movedAt_4 : decode cL_movedAt 4 = .ok (.iload_n 1, 1) := by decide +kernel
theorem dL_movedAt_5 : decode cL_movedAt 5 = .ok (.iload_n 2, 1) := by decide +kernel
theorem dL_movedAt_6 : decode cL_movedAt 6 = .ok (.iload_n 3, 1) := by decide +kernel
theorem dL_movedAt_7 : decode cL_movedAt 7 = .ok (.invokevirtual 27, 3) := by decide +kernel
theorem dL_movedAt_10 : decode cL_movedAt 10 = .ok (.i2l, 1) := by decide +kernel
theorem dL_movedAt_11 : decode cL_movedAt 11 = .ok (.lastore, 1) := by decide +kernel
theorem dL_movedAt_12 : decode cL_movedAt 12 = .ok (.goto 7, 3) := by decide +kernel
theorem dL_movedAt_15 : decode cL_movedAt 15 = .ok (.astore 5, 2) := by decide +kernel
theorem dL_movedAt_17 : decode cL_movedAt 17 = .ok (.iconst 1, 1) := by decide +kernel
theorem dL_movedAt_18 : decode cL_movedAt 18 = .ok (.ireturn, 1) := by decide +kernel
theorem dL_movedAt_19 : decode cL_movedAt 19 = .ok (.iconst 0, 1) := by decide +kernel
theorem dL_movedAt_20 : decode cL_movedAt 20 = .ok (.ireturn, 1) := by decide +kernel
theorem ggL_column_X6_column : GoodIn wsL_column wsX6_column := goodIn_ca (goodIn_r _ [6, 7, 8, 9, 10, 11, 12, 13, 14, 15, 16, 17, 5, 18, 19, 20, 21, 22, 23, 24, 25, 26, 27, 28, 29, 30, 31, 32, 33, 34, 35, 36, 37, 38, 39, 40, 41, 42, 43, 44, 45, 46, 47, 48, 49, 50, 51, 52, 53, 54, 55, 56, 57, 58, 59, 60, 61, 62, 63, 64, 65, 66, 67, 68, 69, 70, 71, 72, 73, 74, 75, 76, 77, 78, 79, 80, 81, 82, 83, 84, 85, 86, 87, 88, 89, 90, 91, 92, 93, 94, 95, 96, 97, 98, 99, 100, 101, 102, 103, 104, 105, 106, 107, 108, 109] (by decide +kernel) (by decide +kernel)) (goodIn_sub (fun _ h => List.mem_cons_of_mem _ (List.mem_append_right _ h)) (by decide +kernel))
theorem gL_column_X6_column : GoodIn wsL_column (wsV RL 30 RX6 yX6_column wsX6_column) := goodIn_app (goodIn_of _ (by decide +kernel)) ggL_column_X6_column
theorem dL_column_0 : decode cL_column 0 = .ok (.aload 4, 2) := by decide +kernel
theorem dL_column_2 : decode cL_column 2 = .ok (.iconst 0, 1) := by decide +kernel
theorem dL_column_3 : decode cL_column 3 = .ok (.aload_n 0, 1) := by decide +kernel
theorem dL_column_4 : decode cL_column 4 = .ok (.iload_n 1, 1) := by decide +kernel
theorem dL_column_5 : decode cL_column 5 = .ok (.iload_n 2, 1) := by decide +kernel
theorem dL_column_6 : decode cL_column 6 = .ok (.iload_n 3, 1) := by decide +kernel
theorem dL_column_7 : decode cL_column 7 = .ok (.invokevirtual 30, 3) := by decide +kernel
theorem dL_column_10 : decode cL_column 10 = .ok (.i2l, 1) := by decide +kernel
theorem dL_column_11 : decode cL_column 11 = .ok (.lastore, 1) := by decide +kernel
theorem dL_column_12 : decode cL_column 12 = .ok (.goto 7, 3) := by decide +kernel
theorem dL_column_15 : decode cL_column 15 = .ok (.astore 5, 2) := by decide +kernel
theorem dL_column_17 : decode cL_column 17 = .ok (.iconst 1, 1) := by decide +kernel
theorem dL_column_18 : decode cL_column 18 = .ok (.ireturn, 1) := by decide +kernel
theorem dL_column_19 : decode cL_column 19 = .ok (.iconst 0, 1) := by decide +kernel
theorem dL_column_20 : decode cL_column 20 = .ok (.ireturn, 1) := by decide +kernel
end
section
def rmL_pending : Room := { frames := 7, cells := 1, slots := 6, locals := 105 }
theorem hdL_pending : yL_pending.cls = RL ∧ yL_pending.cls ≠ "java/lang/invoke/MethodHandle" ∧ yL_pending.cls ≠ "java/lang/invoke/VarHandle" ∧ (parseMethodDescriptor yL_pending.desc).map (fun d => d.parameters.length) = some 4 := by decide +kernel
set_option maxHeartbeats 4000000 in
set_option maxRecDepth 100000 in
/-- pending, caught -/
theorem c_L_pending (l : Launch) (g : gG) (gh : gGh) (pA bA nA : Nat) (I : gI) (R : gR) (J : gJ) (AI : gI) (AJ : gJ) (AR : gR) (x : Nat) (i : Int) (pl : Int) (ou : Nat) (zi : zr i) (zpl : zr pl) (hv : gInv g gh R AR I AI) (hx : xS g gh R AR x pA bA nA) (hou : gAr g ou 10 1) (hst : l.stackTraces = false) : gMetX l g yL_pending tsL_pending rmL_pending [.ref x, .int (iI i), .int (iI pl), .ref ou] (I, R, J, AI, AJ, AR) (gQi g (fun (z : Int) (w : gS) => I = w.1 ∧ R = w.2.1 ∧ J = w.2.2.1 ∧ AI = w.2.2.2.1 ∧ AR = w.2.2.2.2.2 ∧ (gInv g gh R AR I AI) ∧ (z = 0 ∨ z = 1))) (fun _ : gS => False) := by
  refine gStartW (cc := cL_pending) (maxL := 5) (ret := (some (.int))) (by decide) rfl (Nat.le_of_ble_eq_true rfl) ?_
  intro p e s m below meth c ls F hr hlk hH hz hS hxt hTh hl
  have hl : lv_has ls 5 [(0, .ref x), (1, .int (iI i)), (2, .int (iI pl)), (3, .ref ou)] := hl
  have hS : va_S (gA g) s.heap s.heap [] := hS
  obtain ⟨H, hHe⟩ : ∃ H : Heap, H = s.heap := ⟨_, rfl⟩
  obtain ⟨locs, hlo⟩ : ∃ k : List Loc, k = [] := ⟨_, rfl⟩
  have hH : gH g I R J AI AJ AR H := by rw [hHe]; exact hH
  have hS : va_S (gA g) s.heap H locs := by rw [hHe, hlo]; exact hS
  suffices hw : W p l e rmL_pending s m ([.ref x, .int (iI i), .int (iI pl), .ref ou] : List Value).toArray below meth c H locs 0 0 (vx_MQ below (gQi g (fun (z : Int) (w : gS) => I = w.1 ∧ R = w.2.1 ∧ J = w.2.2.1 ∧ AI = w.2.2.2.1 ∧ AR = w.2.2.2.2.2 ∧ (gInv g gh R AR I AI) ∧ (z = 0 ∨ z = 1))) (vx_X (fun _ : gS => False) (gBX g) (gA g)) ([.ref x, .int (iI i), .int (iI pl), .ref ou] : List Value).toArray s 1 6 (gA g)) (F0 m 0 ls []) by
    rw [hHe, hlo] at hw; exact hw
  clear hHe hlo
  refine lv_aload_n F.1 F.2.1 dL_pending_0 rfl (lv_at hl 3 rfl) ?_
  refine z_iconst F dL_pending_1 ?_
  refine lv_aload_n F.1 F.2.1 dL_pending_2 rfl (lv_at hl 0 rfl) ?_
  refine lv_iload_n F.1 F.2.1 dL_pending_3 rfl (lv_at hl 1 rfl) ?_
  refine lv_iload_n F.1 F.2.1 dL_pending_4 rfl (lv_at hl 2 rfl) ?_
  refine g_calliX (g_runVX (As := [.int (iI i), .int (iI pl)]) (rest := [.int (iI 0), .ref ou]) (ci := 6) F hTh hl.1 hH hS hz (c_X6_pending l g gh pA bA nA I R J AI AJ AR x i pl zi zpl hv hx hst) (cwV 2 F.2.2.2.2.1 (good_up gTB_L_pending_X6_pending) rfl rfl rfl hdX6_pending ⟨Nat.le_of_ble_eq_true rfl, Nat.le_of_ble_eq_true rfl⟩) hx.1 (by decide) rfl rfl rfl (Nat.le_of_ble_eq_true rfl) dL_pending_5 ⟨Nat.le_refl _, Nat.le_refl _⟩) hS (fun ce9 q9 I_1 R_2 J_3 AI_4 AJ_5 AR_6 H locs hp hH hS h1 h2 h3 => ?_) (fun z I_1 R_2 J_3 AI_4 AJ_5 AR_6 H locs zz hp hH hS => ?_)
  · dsimp only at hp
    obtain ⟨rfl, rfl, rfl, rfl, rfl, rfl⟩ := hp
    refine g_catch F hTh hxt (by decide) (by decide) (List.mem_cons_of_mem _ (TBm (tk4 (List.mem_of_getElem? (i := 151) rfl)) rfl)) h1 h2 h3 ?_
    refine lv_astore (lv' := [(4, .ref q9), (0, .ref x), (1, .int (iI i)), (2, .int (iI pl)), (3, .ref ou)]) F.1 F.2.1 dL_pending_13 hl (by decide) rfl (fun ls hl => ?_)
    refine z_iconst F dL_pending_15 ?_
    exact g_iretX F hr hlk hH hS hz ⟨by decide, by decide⟩ ⟨rfl, rfl, rfl, rfl, rfl, hv, by first | omega | rfl | (dsimp only; omega)⟩ (by decide) (by decide) dL_pending_16
  dsimp only at hp
  obtain ⟨rfl, rfl, rfl, rfl, rfl, rfl⟩ := hp
  refine lv_i2l F.1 F.2.1 dL_pending_8 rfl ?_
  refine lv_topl (fun j_7 ej_7 => ?_)
  have hx9 : 0 ≤ (0 : Int) ∧ (0 : Int) < ((1 : Nat) : Int) ∧ (0 : Int) ≤ 2147483647 := ⟨by omega, by omega, by omega⟩
  refine g_last F hH hS hou hx9.1 hx9.2.1 hx9.2.2 dL_pending_9 (fun H locs hH hS => ?_)
  obtain ⟨AJ_8, eAJ_8⟩ : ∃ qQ, qQ = gup2 AJ ou ((0 : Int)).toNat (j_7) := ⟨_, rfl⟩
  rw [← eAJ_8] at hH
  have kAJ_8 : ∀ b, b ≠ ou → AJ_8 b = AJ b := fun b hb => by rw [eAJ_8]; exact funext fun j => gup2_a _ _ hb
  refine z_goto (tgt := 17) F dL_pending_10 (by decide) ?_
  refine z_iconst F dL_pending_17 ?_
  exact g_iretX F hr hlk hH hS hz ⟨by decide, by decide⟩ ⟨rfl, rfl, rfl, rfl, rfl, hv, by first | omega | rfl | (dsimp only; omega)⟩ (by decide) (by decide) dL_pending_18

theorem hdL_at : yL_at.cls = RL ∧ yL_at.cls ≠ "java/lang/invoke/MethodHandle" ∧ yL_at.cls ≠ "java/lang/invoke/VarHandle" ∧ (parseMethodDescriptor yL_at.desc).map (fun d => d.parameters.length) = some 5 := by decide +kernel
theorem hdL_count : yL_count.cls = RL ∧ yL_count.cls ≠ "java/lang/invoke/MethodHandle" ∧ yL_count.cls ≠ "java/lang/invoke/VarHandle" ∧ (parseMethodDescriptor yL_count.desc).map (fun d => d.parameters.length) = some 7 := by decide +kernel
theorem hdL_total : yL_total.cls = RL ∧ yL_total.cls ≠ "java/lang/invoke/MethodHandle" ∧ yL_total.cls ≠ "java/lang/invoke/VarHandle" ∧ (parseMethodDescriptor yL_total.desc).map (fun d => d.parameters.length) = some 3 := by decide +kernel
theorem hdL_movedAt : yL_movedAt.cls = RL ∧ yL_movedAt.cls ≠ "java/lang/invoke/MethodHandle" ∧ yL_movedAt.cls ≠ "java/lang/invoke/VarHandle" ∧ (parseMethodDescriptor yL_movedAt.desc).map (fun d => d.parameters.length) = some 5 := by decide +kernel
theorem hdL_column : yL_column.cls = RL ∧ yL_column.cls ≠ "java/lang/invoke/MethodHandle" ∧ yL_column.cls ≠ "java/lang/invoke/VarHandle" ∧ (parseMethodDescriptor yL_column.desc).map (fun d => d.parameters.length) = some 5 := by decide +kernel
end
