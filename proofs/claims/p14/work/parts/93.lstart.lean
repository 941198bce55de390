/-! the law's start: the tables' words, the strings, the two systems made -/
def sConds (q : String × Nat × String × List Int32) : List Cond :=
  .exactly (.string q.1 q.2.1) "java/lang/String" :: .eq (.field (.string q.1 q.2.1) "java/lang/String" "coder" "B") (.int 0) :: .arrayOf (.field (.string q.1 q.2.1) "java/lang/String" "value" "[B") .byte :: .eq (.length (.field (.string q.1 q.2.1) "java/lang/String" "value" "[B")) (.int (Int32.ofNat q.2.2.2.length)) ::
    (List.range q.2.2.2.length).map (fun j => .eq (.elem (.field (.string q.1 q.2.1) "java/lang/String" "value" "[B") (.int (Int32.ofNat j))) (.int (q.2.2.2.getD j 0)))
theorem sFlat : (flatC (Jvm.Cond.and given_1 narrow_1)).drop 39 = sTab.flatMap sConds := by decide +kernel
theorem sLen : ∀ q ∈ sTab, q.2.2.2.length < 2 ^ 31 := by decide +kernel
theorem sRef : ∀ q ∈ sTab, Cond.stringRef q.1 q.2.1 q.2.2.1 ∈ lw_tbl := (List.forall_mem_cons.mpr ⟨tk2 (List.mem_of_getElem? (i := 82) rfl), (List.forall_mem_cons.mpr ⟨tk2 (List.mem_of_getElem? (i := 144) rfl), (List.forall_mem_cons.mpr ⟨tk4 (List.mem_of_getElem? (i := 195) rfl), (List.forall_mem_cons.mpr ⟨tk4 (List.mem_of_getElem? (i := 221) rfl), (List.forall_mem_cons.mpr ⟨tk4 (List.mem_of_getElem? (i := 229) rfl), (List.forall_mem_cons.mpr ⟨tk4 (List.mem_of_getElem? (i := 233) rfl), (List.forall_mem_cons.mpr ⟨tk5 (List.mem_of_getElem? (i := 26) rfl), (List.forall_mem_cons.mpr ⟨tk5 (List.mem_of_getElem? (i := 173) rfl), (List.forall_mem_cons.mpr ⟨tk5 (List.mem_of_getElem? (i := 199) rfl), (List.forall_mem_cons.mpr ⟨tk5 (List.mem_of_getElem? (i := 200) rfl), (List.forall_mem_cons.mpr ⟨tk5 (List.mem_of_getElem? (i := 201) rfl), (List.forall_mem_cons.mpr ⟨tk5 (List.mem_of_getElem? (i := 202) rfl), (List.forall_mem_cons.mpr ⟨tk5 (List.mem_of_getElem? (i := 203) rfl), (List.forall_mem_cons.mpr ⟨tk5 (List.mem_of_getElem? (i := 204) rfl), (List.forall_mem_cons.mpr ⟨tk5 (List.mem_of_getElem? (i := 205) rfl), (List.forall_mem_cons.mpr ⟨tk5 (List.mem_of_getElem? (i := 206) rfl), (List.forall_mem_cons.mpr ⟨tk5 (List.mem_of_getElem? (i := 207) rfl), (List.forall_mem_cons.mpr ⟨tk5 (List.mem_of_getElem? (i := 208) rfl), (List.forall_mem_cons.mpr ⟨tk5 (List.mem_of_getElem? (i := 209) rfl), (List.forall_mem_cons.mpr ⟨tk5 (List.mem_of_getElem? (i := 210) rfl), (List.forall_mem_cons.mpr ⟨tk5 (List.mem_of_getElem? (i := 211) rfl), (List.forall_mem_cons.mpr ⟨tk5 (List.mem_of_getElem? (i := 212) rfl), (List.forall_mem_cons.mpr ⟨tk5 (List.mem_of_getElem? (i := 213) rfl), (List.forall_mem_cons.mpr ⟨tk5 (List.mem_of_getElem? (i := 214) rfl), (List.forall_mem_cons.mpr ⟨tk5 (List.mem_of_getElem? (i := 215) rfl), (List.forall_mem_cons.mpr ⟨tk5 (List.mem_of_getElem? (i := 216) rfl), (List.forall_mem_cons.mpr ⟨tk5 (List.mem_of_getElem? (i := 217) rfl), (fun _ h => absurd h List.not_mem_nil)⟩)⟩)⟩)⟩)⟩)⟩)⟩)⟩)⟩)⟩)⟩)⟩)⟩)⟩)⟩)⟩)⟩)⟩)⟩)⟩)⟩)⟩)⟩)⟩)⟩)⟩)⟩)
theorem sIn {args : Array Value} {s : State} (h : (Jvm.Cond.and given_1 narrow_1).before args s = true) {i : Nat} {q : String × Nat × String × List Int32} (hq : sTab[i]? = some q) : ∀ w ∈ sConds q, w.before args s = true :=
  fun w hw => flat_of_before _ h w (List.mem_of_mem_drop (i := 39) (by rw [sFlat]; exact List.mem_flatMap.mpr ⟨q, List.mem_of_getElem? hq, hw⟩))
theorem sOne {args : Array Value} {s : State} {A : Nat → Prop} (h : (Jvm.Cond.and given_1 narrow_1).before args s = true) (hA : ∀ a : Nat, a < s.heap.size → ¬ A a) {i : Nat} {q : String × Nat × String × List Int32} (hq : sTab[i]? = some q) :
    ∃ r : Nat × Nat, (Term.string q.1 q.2.1).eval args s none [] s = some (.ref r.1) ∧ sS1 q.2.2.2 r.1 r.2 A s s.heap := by
  have hw := sIn h hq
  have hex : (Cond.exactly (.string q.1 q.2.1) "java/lang/String").before args s = true := hw _ List.mem_cons_self
  have hco : (Cond.eq (.field (.string q.1 q.2.1) "java/lang/String" "coder" "B") (.int 0)).before args s = true := hw _ (List.mem_cons_of_mem _ List.mem_cons_self)
  have har : (Cond.arrayOf (.field (.string q.1 q.2.1) "java/lang/String" "value" "[B") .byte).before args s = true := hw _ (List.mem_cons_of_mem _ (List.mem_cons_of_mem _ List.mem_cons_self))
  have hle : (Cond.eq (.length (.field (.string q.1 q.2.1) "java/lang/String" "value" "[B")) (.int (Int32.ofNat q.2.2.2.length))).before args s = true := hw _ (List.mem_cons_of_mem _ (List.mem_cons_of_mem _ (List.mem_cons_of_mem _ List.mem_cons_self)))
  have hel : ∀ j : Nat, j < q.2.2.2.length → (Cond.eq (.elem (.field (.string q.1 q.2.1) "java/lang/String" "value" "[B") (.int (Int32.ofNat j))) (.int (q.2.2.2.getD j 0))).before args s = true := fun j hj =>
    hw _ (List.mem_cons_of_mem _ (List.mem_cons_of_mem _ (List.mem_cons_of_mem _ (List.mem_cons_of_mem _ (List.mem_map.mpr ⟨j, List.mem_range.mpr hj, rfl⟩)))))
  obtain ⟨a, c, cA, kA, q1, q2, q3, q4, q5, q6, -⟩ := Cond.exactly_spec (args := args) (first := s) (o := none) (s := s) (idx := []) (t := .string q.1 q.2.1) (cls := "java/lang/String") hex
  obtain ⟨t, ht, hT⟩ := va_Tof (f := fun j => .int (q.2.2.2.getD j 0)) (A := A) (sLen q (List.mem_of_getElem? hq)) har (va_eqt hle) (fun j hj => va_eqt (hel j hj)) hA
  exact ⟨(a, t), q1, ⟨cA, q3, q5, by rw [q6]; exact q2, hA a (Array.getElem?_eq_some_iff.mp q3).1⟩, vk_OFof q1 (va_eqt hco) hA, vk_OFof q1 ht hA, hT⟩
theorem l_str {args : Array Value} {s : State} {A : Nat → Prop} (h : (Jvm.Cond.and given_1 narrow_1).before args s = true) (hts : ∀ w ∈ lw_tbl, w.before args s = true) (hA : ∀ a : Nat, a < s.heap.size → ¬ A a) :
    ∃ SK SV : Nat → Nat, ∀ (i : Nat) (q : String × Nat × String × List Int32), sTab[i]? = some q → vk_R q.1 q.2.1 q.2.2.1 (SK i) s ∧ sS1 q.2.2.2 (SK i) (SV i) A s s.heap := by
  have h0 : ∀ i : Nat, ∃ r : Nat × Nat, ∀ q, sTab[i]? = some q → vk_R q.1 q.2.1 q.2.2.1 r.1 s ∧ sS1 q.2.2.2 r.1 r.2 A s s.heap := by
    intro i
    cases hc : sTab[i]? with
    | none => exact ⟨(0, 0), fun q hq => nomatch hq⟩
    | some q0 =>
      obtain ⟨r, h1, h2⟩ := sOne h hA hc
      exact ⟨r, fun q hq => by cases hq; exact ⟨vk_R.of (hts _ (sRef q0 (List.mem_of_getElem? hc))) h1, h2⟩⟩
  obtain ⟨ad, had⟩ := Classical.axiomOfChoice h0
  exact ⟨fun i => (ad i).1, fun i => (ad i).2, fun i q hq => had i q hq⟩
/-- classes and array classes as the tables have them -/
theorem l_known {args : Array Value} {s : State} (hts : ∀ w ∈ lw_tbl, w.before args s = true) : ∃ (D : va_G) (Y : Nat → ClassId), va_K D vwCl [(Y 8, .byte), (Y 9, .int), (Y 10, .long), (Y 11, .object RX0), (Y 12, .object RX4)] s := by
  have htb : ∀ w ∈ TB, w.before args s = true := fun w hw => hts w (List.mem_filter.mp hw).1
  obtain ⟨c0, f0, hn0⟩ := u_known (C := RX0) (T := TX0) (N := 15) (n := 15) htb inTB0 (htb _ (TBm (tk1 (List.mem_of_getElem? (i := 72) rfl)) rfl))
  obtain ⟨c1, f1, hn1⟩ := u_known (C := RX1) (T := TX1) (N := 4) (n := 4) htb inTB1 (htb _ (TBm (tk1 (List.mem_of_getElem? (i := 29) rfl)) rfl))
  obtain ⟨c2, f2, hn2⟩ := u_known (C := RX2) (T := TX2) (N := 3) (n := 3) htb inTB2 (htb _ (TBm (tk1 (List.mem_of_getElem? (i := 65) rfl)) rfl))
  obtain ⟨c3, f3, hn3⟩ := u_known (C := RX3) (T := TX3) (N := 3) (n := 3) htb inTB3 (htb _ (TBm (tk1 (List.mem_of_getElem? (i := 186) rfl)) rfl))
  obtain ⟨c4, f4, hn4⟩ := u_known (C := RX4) (T := TX4) (N := 4) (n := 4) htb inTB4 (htb _ (TBm (tk1 (List.mem_of_getElem? (i := 206) rfl)) rfl))
  obtain ⟨c5, f5, hn5⟩ := u_known (C := RX5) (T := TX5) (N := 5) (n := 5) htb inTB5 (htb _ (TBm (tk1 (List.mem_of_getElem? (i := 35) rfl)) rfl))
  obtain ⟨c6, f6, hn6⟩ := u_known (C := RX6) (T := TX6) (N := 18) (n := 18) htb inTB6 (htb _ (TBm (tk1 (List.mem_of_getElem? (i := 21) rfl)) rfl))
  obtain ⟨c7, f7, hn7⟩ := u_known (C := RX7) (T := TX7) (N := 32) (n := 32) htb inTB7 (htb _ (TBm (tk5 (List.mem_of_getElem? (i := 28) rfl)) rfl))
  obtain ⟨yb, kb, ob, b1, b2, b3⟩ := Cond.arrayClass_spec (args := args) (first := s) (o := none) (s := s) (idx := []) (type := .byte) (htb _ (TBm (tk1 (List.mem_of_getElem? (i := 61) rfl)) rfl))
  obtain ⟨yi, ki, oi, i1, i2, i3⟩ := Cond.arrayClass_spec (args := args) (first := s) (o := none) (s := s) (idx := []) (type := .int) (htb _ (TBm (tk1 (List.mem_of_getElem? (i := 62) rfl)) rfl))
  obtain ⟨yj, kj, oj, j1, j2, j3⟩ := Cond.arrayClass_spec (args := args) (first := s) (o := none) (s := s) (idx := []) (type := .long) (htb _ (TBm (tk1 (List.mem_of_getElem? (i := 63) rfl)) rfl))
  obtain ⟨ox, yx, kx, x1, -, x2, x3, x4⟩ := Cond.arrayOver_spec (args := args) (first := s) (o := none) (s := s) (idx := []) (n := RX0) (hts _ (tk1 (List.mem_of_getElem? (i := 71) rfl)))
  obtain ⟨ow, yw, kw, w1, -, w2, w3, w4⟩ := Cond.arrayOver_spec (args := args) (first := s) (o := none) (s := s) (idx := []) (n := RX4) (hts _ (tk1 (List.mem_of_getElem? (i := 205) rfl)))
  refine ⟨(fun k => [c0, c1, c2, c3, c4, c5, c6, c7].getD k c0, fun k => [f0, f1, f2, f3, f4, f5, f6, f7].getD k f0), fun k => [yb, yi, yj, yx, yw].getD (k - 8) yb, fun k q hq => ?_, fun k q hq => ?_⟩
  · match k, hq with
    | 0, hq => cases hq; exact hn0
    | 1, hq => cases hq; exact hn1
    | 2, hq => cases hq; exact hn2
    | 3, hq => cases hq; exact hn3
    | 4, hq => cases hq; exact hn4
    | 5, hq => cases hq; exact hn5
    | 6, hq => cases hq; exact hn6
    | 7, hq => cases hq; exact hn7
    | k + 8, hq => exact absurd hq (by simp)
  · match k, hq with
    | 0, hq => cases hq; exact ⟨fun n z => ⟨fun k h => (by cases h), kb, b2, ob, b3⟩, b1⟩
    | 1, hq => cases hq; exact ⟨fun n z => ⟨fun k h => (by cases h), ki, i2, oi, i3⟩, i1⟩
    | 2, hq => cases hq; exact ⟨fun n z => ⟨fun k h => (by cases h), kj, j2, oj, j3⟩, j1⟩
    | 3, hq => cases hq; exact ⟨fun n z => ⟨fun k h => (by cases h), kx, x2, ox, x3⟩, kx, ox, x2, x3, x1, x4⟩
    | 4, hq => cases hq; exact ⟨fun n z => ⟨fun k h => (by cases h), kw, w2, ow, w3⟩, kw, ow, w2, w3, w1, w4⟩
    | k + 5, hq => exact absurd hq (by simp)
theorem l_nst {args : Array Value} {s : State} (hts : ∀ w ∈ lw_tbl, w.before args s = true) : cNst s :=
  ⟨va_Nw.of rfl (hts _ (tk1 (List.mem_of_getElem? (i := 30) rfl))), va_Nw.of rfl (hts _ (tk1 (List.mem_of_getElem? (i := 187) rfl))), va_Nw.of rfl (hts _ (tk1 (List.mem_of_getElem? (i := 36) rfl))), va_Nw.of rfl (hts _ (tk1 (List.mem_of_getElem? (i := 73) rfl))), va_AO.of (hts _ (tk1 (List.mem_of_getElem? (i := 71) rfl))), va_AO.of (hts _ (tk1 (List.mem_of_getElem? (i := 205) rfl)))⟩
theorem l_stat {args : Array Value} {s : State} {A : Nat → Prop} (h : (Jvm.Cond.and given_1 narrow_1).before args s = true) (hts : ∀ w ∈ lw_tbl, w.before args s = true) (hA : ∀ a : Nat, a < s.heap.size → ¬ A a) :
    va_Z "java/lang/String" "COMPACT_STRINGS" "Z" (.int (iI 1)) A s s.heap ∧ va_Zq "jdk/internal/util/Preconditions" "SIOOBE_FORMATTER" "Ljava/util/function/BiFunction;" A s s.heap ∧ vx_Zq Bundle.tN "UNASSIGNED_STACK" Bundle.steD A s s.heap ∧ vx_Zq Bundle.tN "SUPPRESSED_SENTINEL" Bundle.listD A s s.heap := by
  have hs := flat_of_before _ h
  exact ⟨va_Zof (hts _ (tk2 (List.mem_of_getElem? (i := 92) rfl))) (hts _ (tk1 (List.mem_of_getElem? (i := 9) rfl))) (va_eqt (hs (.eq (.static "java/lang/String" "COMPACT_STRINGS" "Z") (.int 1)) (by decide +kernel))) hA,
    va_Zqof (hts _ (tk2 (List.mem_of_getElem? (i := 108) rfl))) (hts _ (tk1 (List.mem_of_getElem? (i := 11) rfl))) (hs _ (by decide +kernel)) hA,
    vx_Zqof (hts _ (tk4 (List.mem_of_getElem? (i := 183) rfl))) (hts _ (tk1 (List.mem_of_getElem? (i := 16) rfl))) (hs _ (by decide +kernel)) hA, vx_Zqof (hts _ (tk4 (List.mem_of_getElem? (i := 185) rfl))) (hts _ (tk1 (List.mem_of_getElem? (i := 16) rfl))) (hs _ (by decide +kernel)) hA⟩
