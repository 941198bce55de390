section
/-! numbers: every int of the walk is iI z with z : Int -/
def iI (z : Int) : Int32 := Int32.ofInt z
abbrev zr (z : Int) : Prop := -2147483648 ≤ z ∧ z ≤ 2147483647
theorem iI_self (x : Int32) : iI x.toInt = x := Int32.ofInt_toInt x
theorem iI_val {z : Int} (h : zr z) : (iI z).toInt = z := Int32.toInt_ofInt_of_le (by omega) (by omega)
theorem zr_t (x : Int32) : zr x.toInt := ⟨by have := Int32.le_toInt x; omega, by have := Int32.toInt_lt x; omega⟩
theorem iI_add (a b : Int) : iI a + iI b = iI (a + b) := (Int32.ofInt_add a b).symm
theorem iI_sub (a b : Int) : iI a - iI b = iI (a - b) := (Int32.ofInt_sub a b).symm
theorem iI_mul (a b : Int) : iI a * iI b = iI (a * b) := (Int32.ofInt_mul a b).symm
theorem iI_neg (a : Int) : -iI a = iI (-a) := (Int32.ofInt_neg a).symm
theorem iI_0 : iI 0 = 0 := rfl
theorem zr_0 : zr 0 := ⟨by decide, by decide⟩
theorem iI_le {a b : Int} (ha : zr a) (hb : zr b) : iI a ≤ iI b ↔ a ≤ b := by rw [Int32.le_iff_toInt_le, iI_val ha, iI_val hb]
theorem iI_lt {a b : Int} (ha : zr a) (hb : zr b) : iI a < iI b ↔ a < b := by rw [Int32.lt_iff_toInt_lt, iI_val ha, iI_val hb]
theorem iI_eq {a b : Int} (ha : zr a) (hb : zr b) : iI a = iI b ↔ a = b := by rw [← Int32.toInt_inj, iI_val ha, iI_val hb]
theorem iI_nat {z : Int} (h0 : 0 ≤ z) (h : z ≤ 2147483647) : (iI z).toNatClampNeg = z.toNat := by
  rw [← Int32.toNat_toInt, iI_val ⟨by omega, h⟩]
theorem iI_in {z : Int} {n : Nat} (h0 : 0 ≤ z) (h1 : z < (n : Int)) (h : z ≤ 2147483647) : vp_in (iI z) n := by
  rw [vp_in_iff, iI_val ⟨by omega, h⟩]
  exact ⟨h0, h1⟩
/-! the store: int, reference and long fields by address and place; arrays of ints (bytes), longs, references -/
def gup2 {α : Type} (f : Nat → Nat → α) (a k : Nat) (v : α) : Nat → Nat → α := fun b j => if b = a ∧ j = k then v else f b j
def gup1 {α : Type} (f : Nat → Nat → α) (a : Nat) (v : Nat → α) : Nat → Nat → α := fun b => if b = a then v else f b
theorem gup2_s {α : Type} (f : Nat → Nat → α) (a k : Nat) (v : α) : gup2 f a k v a k = v := if_pos ⟨rfl, rfl⟩
theorem gup2_k {α : Type} (f : Nat → Nat → α) {a k b j : Nat} (v : α) (h : j ≠ k) : gup2 f a k v b j = f b j := if_neg (fun q => h q.2)
theorem gup2_a {α : Type} (f : Nat → Nat → α) {a k b j : Nat} (v : α) (h : b ≠ a) : gup2 f a k v b j = f b j := if_neg (fun q => h q.1)
theorem gup1_s {α : Type} (f : Nat → Nat → α) (a : Nat) (v : Nat → α) : gup1 f a v a = v := if_pos rfl
theorem gup1_a {α : Type} (f : Nat → Nat → α) {a b : Nat} (v : Nat → α) (h : b ≠ a) : gup1 f a v b = f b := if_neg h
abbrev gI : Type := Nat → Nat → Int32
abbrev gG : Type := (va_G × (Nat → ClassId)) × ((Nat → Nat) × (Nat → Nat)) × (List Nat × Nat) × (gI × gI) × ((Nat → Nat) × (Nat → Nat))
abbrev gD (g : gG) : va_G := g.1.1
abbrev gY (g : gG) : Nat → ClassId := g.1.2
abbrev gK (g : gG) : Nat → Nat := g.2.1.1
abbrev gN (g : gG) : Nat → Nat := g.2.1.2
abbrev gL (g : gG) : List Nat := g.2.2.1.1
abbrev gZ (g : gG) : Nat := g.2.2.1.2
/-- what the other side's objects hold: int fields, int arrays -/
abbrev gM (g : gG) : gI × gI := g.2.2.2.1
/-- where the String constants lie, and their bytes -/
abbrev gSK (g : gG) : Nat → Nat := g.2.2.2.2.1
abbrev gSV (g : gG) : Nat → Nat := g.2.2.2.2.2
abbrev gR : Type := Nat → Nat → Option Nat
abbrev gJ : Type := Nat → Nat → Int64
abbrev gS : Type := gI × gR × gJ × gI × gJ × gR
/-- field kinds of a class by its number: 0 int, 1 long, 2 reference -/
def gft : Nat → List Nat
  | 0 => [0, 1, 0, 0, 0, 0, 0, 2, 0, 0, 0, 0, 0, 0, 0]
  | 1 => [2, 2, 2, 0]
  | 2 => [2, 0, 0]
  | 3 => [2, 2, 2]
  | 4 => [0, 0, 2, 0]
  | 5 => [2, 2, 2, 2, 0]
  | 6 => [2, 0, 2, 2, 2, 2, 2, 2, 2, 2, 2, 2, 2, 2, 0, 0, 0, 0]
  | _ => [2, 2, 0, 2, 2, 0, 2, 2, 0, 0, 0, 2, 2, 2, 0, 2, 0, 0, 0, 0, 0, 0, 1, 0, 0, 2, 0, 2, 2, 2, 2, 2]
def gV (I : gI) (R : gR) (J : gJ) (a k t : Nat) : Value := match t with
  | 0 => .int (I a k)
  | 1 => .long (J a k)
  | _ => va_rf (R a k)
def gFs (I : gI) (R : gR) (J : gJ) (a : Nat) (ts : List Nat) : List Value := ts.mapIdx (fun k t => gV I R J a k t)
def gX (k : Nat) (x : Nat → Int32) (y : Nat → Int64) (z : Nat → Option Nat) : (Nat → Int32) ⊕ (Nat → Int64) ⊕ (Nat → UInt32) ⊕ (Nat → UInt64) ⊕ (Nat → Option Nat) :=
  if k < 10 then .inl x else if k = 10 then .inr (.inl y) else .inr (.inr (.inr (.inr z)))
def gE (g : gG) (I : gI) (R : gR) (J : gJ) (AI : gI) (AJ : gJ) (AR : gR) (a : Nat) : va_E :=
  if gK g a < 8 then .inr (gK g a, gFs I R J a (gft (gK g a))) else .inl (gY g (gK g a), gN g a, gX (gK g a) (AI a) (AJ a) (AR a))
def gA (g : gG) : Nat → Prop := fun q => gZ g ≤ q
def gH (g : gG) (I : gI) (R : gR) (J : gJ) (AI : gI) (AJ : gJ) (AR : gR) (H : Heap) : Prop :=
  va_P (gD g) vwCl (va_pl (gL g) (gE g I R J AI AJ AR)) H ∧ va_D (gA g) (va_pl (gL g) (gE g I R J AI AJ AR))
def gT (g : gG) : List (ClassId × FieldType) := [(gY g 8, .byte), (gY g 9, .int), (gY g 10, .long), (gY g 11, .object RX0), (gY g 12, .object RX4)]
/-- an object of class c; an array of kind c with n places -/
def gO (g : gG) (a c : Nat) : Prop := a ∈ gL g ∧ gK g a = c
def gAr (g : gG) (a c n : Nat) : Prop := a ∈ gL g ∧ gK g a = c ∧ gN g a = n
def sTab : List (String × Nat × String × List Int32) := [
  ("BagTree$Tokens", 63, "table select project join union minus distinct group ring view where and on by with keep count sum least most ", [116, 97, 98, 108, 101, 32, 115, 101, 108, 101, 99, 116, 32, 112, 114, 111, 106, 101, 99, 116, 32, 106, 111, 105, 110, 32, 117, 110, 105, 111, 110, 32, 109, 105, 110, 117, 115, 32, 100, 105, 115, 116, 105, 110, 99, 116, 32, 103, 114, 111, 117, 112, 32, 114, 105, 110, 103, 32, 118, 105, 101, 119, 32, 119, 104, 101, 114, 101, 32, 97, 110, 100, 32, 111, 110, 32, 98, 121, 32, 119, 105, 116, 104, 32, 107, 101, 101, 112, 32, 99, 111, 117, 110, 116, 32, 115, 117, 109, 32, 108, 101, 97, 115, 116, 32, 109, 111, 115, 116, 32]),
  ("BagTree$Tokens", 37, "=<>+-,;", [61, 60, 62, 43, 45, 44, 59]),
  ("BagTree", 134, "no such change", [110, 111, 32, 115, 117, 99, 104, 32, 99, 104, 97, 110, 103, 101]),
  ("BagTree", 143, "no such column", [110, 111, 32, 115, 117, 99, 104, 32, 99, 111, 108, 117, 109, 110]),
  ("BagTree", 203, "no such relation", [110, 111, 32, 115, 117, 99, 104, 32, 114, 101, 108, 97, 116, 105, 111, 110]),
  ("BagTree", 209, "no such tuple", [110, 111, 32, 115, 117, 99, 104, 32, 116, 117, 112, 108, 101]),
  ("BagTree", 218, "no tuples", [110, 111, 32, 116, 117, 112, 108, 101, 115]),
  ("BagTreeModel", 144, "table", [116, 97, 98, 108, 101]),
  ("BagTreeModel", 146, "view", [118, 105, 101, 119]),
  ("BagTreeModel", 148, "select", [115, 101, 108, 101, 99, 116]),
  ("BagTreeModel", 150, "where", [119, 104, 101, 114, 101]),
  ("BagTreeModel", 152, "and", [97, 110, 100]),
  ("BagTreeModel", 154, "project", [112, 114, 111, 106, 101, 99, 116]),
  ("BagTreeModel", 156, "join", [106, 111, 105, 110]),
  ("BagTreeModel", 158, "on", [111, 110]),
  ("BagTreeModel", 160, "union", [117, 110, 105, 111, 110]),
  ("BagTreeModel", 162, "minus", [109, 105, 110, 117, 115]),
  ("BagTreeModel", 164, "distinct", [100, 105, 115, 116, 105, 110, 99, 116]),
  ("BagTreeModel", 166, "group", [103, 114, 111, 117, 112]),
  ("BagTreeModel", 168, "by", [98, 121]),
  ("BagTreeModel", 170, "count", [99, 111, 117, 110, 116]),
  ("BagTreeModel", 172, "sum", [115, 117, 109]),
  ("BagTreeModel", 174, "least", [108, 101, 97, 115, 116]),
  ("BagTreeModel", 176, "most", [109, 111, 115, 116]),
  ("BagTreeModel", 178, "ring", [114, 105, 110, 103]),
  ("BagTreeModel", 180, "with", [119, 105, 116, 104]),
  ("BagTreeModel", 182, "keep", [107, 101, 101, 112])]
def sS1 (bs : List Int32) (k v : Nat) (A : Nat → Prop) (U : State) (H : Heap) : Prop := va_O "java/lang/String" k A U H ∧ va_OF "java/lang/String" "coder" "B" (.int (iI 0)) k A U H ∧ va_OF "java/lang/String" "value" "[B" (.ref v) k A U H ∧ va_T .byte v bs.length (fun j => .int (bs.getD j 0)) A U H
theorem sS1_mv {bs : List Int32} {k v : Nat} {A : Nat → Prop} {u U : State} {H H1 : Heap} (h : sS1 bs k v A u H) (hvm : u.vm.Alike U.vm) (hq : ∀ a : Nat, a < H.size → ¬ A a → H1[a]? = H[a]?) : sS1 bs k v A U H1 :=
  ⟨(va_O.moved hvm h.1).kept hq, (va_OF.moved hvm h.2.1).kept hq, (va_OF.moved hvm h.2.2.1).kept hq, (va_T.moved hvm h.2.2.2).kept hq⟩
/-- the String constants and the two statics that their methods read -/
def gStr (g : gG) (U : State) : Prop := (∀ (i : Nat) (q : String × Nat × String × List Int32), sTab[i]? = some q → vk_R q.1 q.2.1 q.2.2.1 (gSK g i) U ∧ sS1 q.2.2.2 (gSK g i) (gSV g i) (gA g) U U.heap) ∧
  va_Z "java/lang/String" "COMPACT_STRINGS" "Z" (.int (iI 1)) (gA g) U U.heap ∧ va_Zq "jdk/internal/util/Preconditions" "SIOOBE_FORMATTER" "Ljava/util/function/BiFunction;" (gA g) U U.heap
theorem gStr_mv {g : gG} {s U : State} (h : gStr g s) (hW : s.WarmedH U.vm) (hq : ∀ a : Nat, a < s.heap.size → ¬ gA g a → U.heap[a]? = s.heap[a]?) : gStr g U :=
  ⟨fun i q hi => ⟨vk_R.warm hW (h.1 i q hi).1, sS1_mv (h.1 i q hi).2 hW.alike hq⟩, (va_Z.moved hW.alike h.2.1).kept hq, (va_Zq.moved hW.alike h.2.2).kept hq⟩
theorem gStr_same {g : gG} {s U : State} (h : gStr g s) (hv : U.vm = s.vm) (hh : U.heap = s.heap) : gStr g U := by
  have ha : s.vm.Alike U.vm := by rw [hv]; exact Vm.Alike.refl _
  exact ⟨fun i q hi => ⟨vk_R.same hv (h.1 i q hi).1, sS1_mv (h.1 i q hi).2 ha (fun a _ _ => by rw [hh])⟩, (va_Z.moved ha h.2.1).kept (fun a _ _ => by rw [hh]), (va_Zq.moved ha h.2.2).kept (fun a _ _ => by rw [hh])⟩
/-- what is fixed in a method's walk -/
def gFix (g : gG) (p : Program) (c : Code) (cc : ByteArray) (nL : Nat) (s : State) (args : Array Value) (Ts : List Cond) (own : String) (m : MethodId) : Prop :=
  p.tables.exec = Jvm.exec ∧ c.code = cc ∧ c.maxLocals = nL ∧ s.vm.findClass own = some m.cls ∧ (∀ w ∈ Ts, w.before args s = true) ∧ va_K (gD g) vwCl (gT g) s ∧ gStr g s
theorem gFs_get {I : gI} {R : gR} {J : gJ} {a k t : Nat} {ts : List Nat} (h : ts[k]? = some t) : (gFs I R J a ts)[k]? = some (gV I R J a k t) := by
  unfold gFs
  rw [List.getElem?_mapIdx, h]
  rfl
theorem gFs_set {I I' : gI} {R R' : gR} {J J' : gJ} {a k t : Nat} {ts : List Nat} {v : Value} (h : ts[k]? = some t) (hv : gV I' R' J' a k t = v) (ho : ∀ j t', j ≠ k → gV I' R' J' a j t' = gV I R J a j t') :
    gFs I' R' J' a ts = (gFs I R J a ts).set k v := by
  apply List.ext_getElem?
  intro j
  have hlt : k < ts.length := (List.getElem?_eq_some_iff.mp h).1
  rw [List.getElem?_set]
  by_cases hj : k = j
  · subst hj
    rw [if_pos rfl, if_pos (by unfold gFs; rw [List.length_mapIdx]; exact hlt), gFs_get h, hv]
  · rw [if_neg hj]
    unfold gFs
    rw [List.getElem?_mapIdx, List.getElem?_mapIdx]
    cases ts[j]? with
    | none => rfl
    | some t' => exact congrArg some (ho j t' (fun q => hj q.symm))
theorem gE_obj {g : gG} {I : gI} {R : gR} {J : gJ} {AI : gI} {AJ : gJ} {AR : gR} {a c : Nat} (h : gK g a = c) (hc : c < 8) : gE g I R J AI AJ AR a = .inr (c, gFs I R J a (gft c)) := by
  unfold gE
  rw [h, if_pos hc]
theorem gE_arr {g : gG} {I : gI} {R : gR} {J : gJ} {AI : gI} {AJ : gJ} {AR : gR} {a c n : Nat} (h : gK g a = c) (hn : gN g a = n) (hc : ¬ c < 8) : gE g I R J AI AJ AR a = .inl (gY g c, n, gX c (AI a) (AJ a) (AR a)) := by
  unfold gE
  rw [h, hn, if_neg hc]
theorem g_at {g : gG} {I : gI} {R : gR} {J : gJ} {AI : gI} {AJ : gJ} {AR : gR} {a : Nat} (h : a ∈ gL g) : ∃ k : Nat, (va_pl (gL g) (gE g I R J AI AJ AR))[k]? = some (a, gE g I R J AI AJ AR a) := by
  obtain ⟨k, hk⟩ := va_pl_get (X := []) (f := gE g I R J AI AJ AR) h
  exact ⟨k, hk⟩
theorem g_set {g : gG} {f f' : Nat → va_E} {A : Nat → Prop} {a k : Nat} {e : va_E} (hD : va_D A (va_pl (gL g) f)) (h : a ∈ gL g) (hk : (va_pl (gL g) f)[k]? = some (a, f a)) (he : f' a = e) (ho : ∀ b, b ≠ a → f' b = f b) :
    (va_pl (gL g) f).set k (a, e) = va_pl (gL g) f' := by
  have h1 := va_pl_set (X := []) (e := e) hD h hk
  refine h1.trans (va_pl_congr fun b => ?_)
  by_cases hb : b = a
  · subst hb
    rw [va_up_self, he]
  · rw [va_up_ne _ _ hb, ho b hb]
section GRows
variable {g : gG} {I : gI} {R : gR} {J : gJ} {AI : gI} {AJ : gJ} {AR : gR}
variable {p : Program} {l : Launch} {e : Env} {Rm : Room} {s : State} {m : MethodId} {args : Array Value} {below : List Frame} {meth : Method} {c : Code} {H : Heap} {locs : List Loc} {cells slots : Nat} {Q : State → Prop}
variable {cc : ByteArray} {pc nL : Nat} {ls : Array Slot} {rest : List Value} {a : Nat} {H0 : Heap} {Ts : List Cond} {own : String}
theorem z_iconst (F : gFix g p c cc nL s args Ts own m) {n : Int} (hdg : decode cc pc = .ok (.iconst n, 1)) (k : W p l e Rm s m args below meth c H locs cells slots Q (F0 m (pc + 1) ls (.int (iI n) :: rest))) : W p l e Rm s m args below meth c H locs cells slots Q (F0 m pc ls rest) :=
  lv_iconst (v := iI n) F.1 F.2.1 hdg rfl k
theorem z_bipush (F : gFix g p c cc nL s args Ts own m) {n : Int} (hdg : decode cc pc = .ok (.bipush n, 2)) (hv : (Int8.ofInt n).toInt32 = iI n) (k : W p l e Rm s m args below meth c H locs cells slots Q (F0 m (pc + 2) ls (.int (iI n) :: rest))) : W p l e Rm s m args below meth c H locs cells slots Q (F0 m pc ls rest) :=
  lv_bipush F.1 F.2.1 hdg hv k
theorem z_sipush (F : gFix g p c cc nL s args Ts own m) {n : Int} (hdg : decode cc pc = .ok (.sipush n, 3)) (hv : (Int16.ofInt n).toInt32 = iI n) (k : W p l e Rm s m args below meth c H locs cells slots Q (F0 m (pc + 3) ls (.int (iI n) :: rest))) : W p l e Rm s m args below meth c H locs cells slots Q (F0 m pc ls rest) :=
  lv_sipush F.1 F.2.1 hdg hv k
theorem z_iadd (F : gFix g p c cc nL s args Ts own m) {x y : Int} (hdg : decode cc pc = .ok (.iadd, 1)) (k : W p l e Rm s m args below meth c H locs cells slots Q (F0 m (pc + 1) ls (.int (iI (x + y)) :: rest))) : W p l e Rm s m args below meth c H locs cells slots Q (F0 m pc ls (.int (iI y) :: .int (iI x) :: rest)) :=
  lv_iadd F.1 F.2.1 hdg (by rw [iI_add]; exact k)
theorem z_isub (F : gFix g p c cc nL s args Ts own m) {x y : Int} (hdg : decode cc pc = .ok (.isub, 1)) (k : W p l e Rm s m args below meth c H locs cells slots Q (F0 m (pc + 1) ls (.int (iI (x - y)) :: rest))) : W p l e Rm s m args below meth c H locs cells slots Q (F0 m pc ls (.int (iI y) :: .int (iI x) :: rest)) :=
  lv_isub F.1 F.2.1 hdg (by rw [iI_sub]; exact k)
theorem z_imul (F : gFix g p c cc nL s args Ts own m) {x y : Int} (hdg : decode cc pc = .ok (.imul, 1)) (k : W p l e Rm s m args below meth c H locs cells slots Q (F0 m (pc + 1) ls (.int (iI (x * y)) :: rest))) : W p l e Rm s m args below meth c H locs cells slots Q (F0 m pc ls (.int (iI y) :: .int (iI x) :: rest)) :=
  lv_imul F.1 F.2.1 hdg (by rw [iI_mul]; exact k)
theorem z_ineg (F : gFix g p c cc nL s args Ts own m) {x : Int} (hdg : decode cc pc = .ok (.ineg, 1)) (k : W p l e Rm s m args below meth c H locs cells slots Q (F0 m (pc + 1) ls (.int (iI (-x)) :: rest))) : W p l e Rm s m args below meth c H locs cells slots Q (F0 m pc ls (.int (iI x) :: rest)) :=
  lv_ineg F.1 F.2.1 hdg (by rw [iI_neg]; exact k)
/-- any int on the top, by a number of its own -/
theorem z_top {x : Int32} (k : ∀ z : Int, zr z → z = x.toInt → W p l e Rm s m args below meth c H locs cells slots Q (F0 m pc ls (.int (iI z) :: rest))) : W p l e Rm s m args below meth c H locs cells slots Q (F0 m pc ls (.int x :: rest)) := by
  have h := k x.toInt (zr_t x) rfl
  rwa [iI_self] at h
end GRows
end
section
section GRows2
variable {g : gG} {I : gI} {R : gR} {J : gJ} {AI : gI} {AJ : gJ} {AR : gR}
variable {p : Program} {l : Launch} {e : Env} {Rm : Room} {s : State} {m : MethodId} {args : Array Value} {below : List Frame} {meth : Method} {c : Code} {H : Heap} {locs : List Loc} {cells slots : Nat} {Q : State → Prop}
variable {cc : ByteArray} {pc nL : Nat} {ls : Array Slot} {rest : List Value} {a : Nat} {H0 : Heap} {Ts : List Cond} {own : String}
theorem z_icmp_eq (F : gFix g p c cc nL s args Ts own m) {x y : Int} {off : Int} {tgt : Nat} (hdg : decode cc pc = .ok (.if_icmp .eq off, 3)) (ht : (pc : Int) + off = (tgt : Int)) (hx : zr x) (hy : zr y)
    (kt : x = y → W p l e Rm s m args below meth c H locs cells slots Q (F0 m tgt ls rest)) (kf : ¬ x = y → W p l e Rm s m args below meth c H locs cells slots Q (F0 m (pc + 3) ls rest)) : W p l e Rm s m args below meth c H locs cells slots Q (F0 m pc ls (.int (iI y) :: .int (iI x) :: rest)) :=
  lv_icmp_eq F.1 F.2.1 hdg ht (fun h => kt ((iI_eq hx hy).mp h)) (fun h => kf (fun q => h ((iI_eq hx hy).mpr q)))
theorem z_if_eq (F : gFix g p c cc nL s args Ts own m) {x : Int} {off : Int} {tgt : Nat} (hdg : decode cc pc = .ok (.ifCond .eq off, 3)) (ht : (pc : Int) + off = (tgt : Int)) (hx : zr x)
    (kt : x = 0 → W p l e Rm s m args below meth c H locs cells slots Q (F0 m tgt ls rest)) (kf : ¬ x = 0 → W p l e Rm s m args below meth c H locs cells slots Q (F0 m (pc + 3) ls rest)) : W p l e Rm s m args below meth c H locs cells slots Q (F0 m pc ls (.int (iI x) :: rest)) :=
  lv_if_eq F.1 F.2.1 hdg ht (fun h => kt ((iI_eq hx zr_0).mp h)) (fun h => kf (fun q => h ((iI_eq hx zr_0).mpr q)))
theorem z_icmp_ne (F : gFix g p c cc nL s args Ts own m) {x y : Int} {off : Int} {tgt : Nat} (hdg : decode cc pc = .ok (.if_icmp .ne off, 3)) (ht : (pc : Int) + off = (tgt : Int)) (hx : zr x) (hy : zr y)
    (kt : ¬ x = y → W p l e Rm s m args below meth c H locs cells slots Q (F0 m tgt ls rest)) (kf : x = y → W p l e Rm s m args below meth c H locs cells slots Q (F0 m (pc + 3) ls rest)) : W p l e Rm s m args below meth c H locs cells slots Q (F0 m pc ls (.int (iI y) :: .int (iI x) :: rest)) :=
  lv_icmp_ne F.1 F.2.1 hdg ht (fun h => kt (fun q => h ((iI_eq hx hy).mpr q))) (fun h => kf ((iI_eq hx hy).mp h))
theorem z_if_ne (F : gFix g p c cc nL s args Ts own m) {x : Int} {off : Int} {tgt : Nat} (hdg : decode cc pc = .ok (.ifCond .ne off, 3)) (ht : (pc : Int) + off = (tgt : Int)) (hx : zr x)
    (kt : ¬ x = 0 → W p l e Rm s m args below meth c H locs cells slots Q (F0 m tgt ls rest)) (kf : x = 0 → W p l e Rm s m args below meth c H locs cells slots Q (F0 m (pc + 3) ls rest)) : W p l e Rm s m args below meth c H locs cells slots Q (F0 m pc ls (.int (iI x) :: rest)) :=
  lv_if_ne F.1 F.2.1 hdg ht (fun h => kt (fun q => h ((iI_eq hx zr_0).mpr q))) (fun h => kf ((iI_eq hx zr_0).mp h))
theorem z_icmp_lt (F : gFix g p c cc nL s args Ts own m) {x y : Int} {off : Int} {tgt : Nat} (hdg : decode cc pc = .ok (.if_icmp .lt off, 3)) (ht : (pc : Int) + off = (tgt : Int)) (hx : zr x) (hy : zr y)
    (kt : x < y → W p l e Rm s m args below meth c H locs cells slots Q (F0 m tgt ls rest)) (kf : ¬ x < y → W p l e Rm s m args below meth c H locs cells slots Q (F0 m (pc + 3) ls rest)) : W p l e Rm s m args below meth c H locs cells slots Q (F0 m pc ls (.int (iI y) :: .int (iI x) :: rest)) :=
  lv_icmp_lt F.1 F.2.1 hdg ht (fun h => kt ((iI_lt hx hy).mp h)) (fun h => kf (fun q => h ((iI_lt hx hy).mpr q)))
theorem z_if_lt (F : gFix g p c cc nL s args Ts own m) {x : Int} {off : Int} {tgt : Nat} (hdg : decode cc pc = .ok (.ifCond .lt off, 3)) (ht : (pc : Int) + off = (tgt : Int)) (hx : zr x)
    (kt : x < 0 → W p l e Rm s m args below meth c H locs cells slots Q (F0 m tgt ls rest)) (kf : ¬ x < 0 → W p l e Rm s m args below meth c H locs cells slots Q (F0 m (pc + 3) ls rest)) : W p l e Rm s m args below meth c H locs cells slots Q (F0 m pc ls (.int (iI x) :: rest)) :=
  lv_if_lt F.1 F.2.1 hdg ht (fun h => kt ((iI_lt hx zr_0).mp h)) (fun h => kf (fun q => h ((iI_lt hx zr_0).mpr q)))
theorem z_icmp_ge (F : gFix g p c cc nL s args Ts own m) {x y : Int} {off : Int} {tgt : Nat} (hdg : decode cc pc = .ok (.if_icmp .ge off, 3)) (ht : (pc : Int) + off = (tgt : Int)) (hx : zr x) (hy : zr y)
    (kt : y ≤ x → W p l e Rm s m args below meth c H locs cells slots Q (F0 m tgt ls rest)) (kf : ¬ y ≤ x → W p l e Rm s m args below meth c H locs cells slots Q (F0 m (pc + 3) ls rest)) : W p l e Rm s m args below meth c H locs cells slots Q (F0 m pc ls (.int (iI y) :: .int (iI x) :: rest)) :=
  lv_icmp_ge F.1 F.2.1 hdg ht (fun h => kt ((iI_le hy hx).mp h)) (fun h => kf (fun q => h ((iI_le hy hx).mpr q)))
theorem z_if_ge (F : gFix g p c cc nL s args Ts own m) {x : Int} {off : Int} {tgt : Nat} (hdg : decode cc pc = .ok (.ifCond .ge off, 3)) (ht : (pc : Int) + off = (tgt : Int)) (hx : zr x)
    (kt : 0 ≤ x → W p l e Rm s m args below meth c H locs cells slots Q (F0 m tgt ls rest)) (kf : ¬ 0 ≤ x → W p l e Rm s m args below meth c H locs cells slots Q (F0 m (pc + 3) ls rest)) : W p l e Rm s m args below meth c H locs cells slots Q (F0 m pc ls (.int (iI x) :: rest)) :=
  lv_if_ge F.1 F.2.1 hdg ht (fun h => kt ((iI_le zr_0 hx).mp h)) (fun h => kf (fun q => h ((iI_le zr_0 hx).mpr q)))
theorem z_icmp_gt (F : gFix g p c cc nL s args Ts own m) {x y : Int} {off : Int} {tgt : Nat} (hdg : decode cc pc = .ok (.if_icmp .gt off, 3)) (ht : (pc : Int) + off = (tgt : Int)) (hx : zr x) (hy : zr y)
    (kt : y < x → W p l e Rm s m args below meth c H locs cells slots Q (F0 m tgt ls rest)) (kf : ¬ y < x → W p l e Rm s m args below meth c H locs cells slots Q (F0 m (pc + 3) ls rest)) : W p l e Rm s m args below meth c H locs cells slots Q (F0 m pc ls (.int (iI y) :: .int (iI x) :: rest)) :=
  lv_icmp_gt F.1 F.2.1 hdg ht (fun h => kt ((iI_lt hy hx).mp h)) (fun h => kf (fun q => h ((iI_lt hy hx).mpr q)))
theorem z_if_gt (F : gFix g p c cc nL s args Ts own m) {x : Int} {off : Int} {tgt : Nat} (hdg : decode cc pc = .ok (.ifCond .gt off, 3)) (ht : (pc : Int) + off = (tgt : Int)) (hx : zr x)
    (kt : 0 < x → W p l e Rm s m args below meth c H locs cells slots Q (F0 m tgt ls rest)) (kf : ¬ 0 < x → W p l e Rm s m args below meth c H locs cells slots Q (F0 m (pc + 3) ls rest)) : W p l e Rm s m args below meth c H locs cells slots Q (F0 m pc ls (.int (iI x) :: rest)) :=
  lv_if_gt F.1 F.2.1 hdg ht (fun h => kt ((iI_lt zr_0 hx).mp h)) (fun h => kf (fun q => h ((iI_lt zr_0 hx).mpr q)))
theorem z_icmp_le (F : gFix g p c cc nL s args Ts own m) {x y : Int} {off : Int} {tgt : Nat} (hdg : decode cc pc = .ok (.if_icmp .le off, 3)) (ht : (pc : Int) + off = (tgt : Int)) (hx : zr x) (hy : zr y)
    (kt : x ≤ y → W p l e Rm s m args below meth c H locs cells slots Q (F0 m tgt ls rest)) (kf : ¬ x ≤ y → W p l e Rm s m args below meth c H locs cells slots Q (F0 m (pc + 3) ls rest)) : W p l e Rm s m args below meth c H locs cells slots Q (F0 m pc ls (.int (iI y) :: .int (iI x) :: rest)) :=
  lv_icmp_le F.1 F.2.1 hdg ht (fun h => kt ((iI_le hx hy).mp h)) (fun h => kf (fun q => h ((iI_le hx hy).mpr q)))
theorem z_if_le (F : gFix g p c cc nL s args Ts own m) {x : Int} {off : Int} {tgt : Nat} (hdg : decode cc pc = .ok (.ifCond .le off, 3)) (ht : (pc : Int) + off = (tgt : Int)) (hx : zr x)
    (kt : x ≤ 0 → W p l e Rm s m args below meth c H locs cells slots Q (F0 m tgt ls rest)) (kf : ¬ x ≤ 0 → W p l e Rm s m args below meth c H locs cells slots Q (F0 m (pc + 3) ls rest)) : W p l e Rm s m args below meth c H locs cells slots Q (F0 m pc ls (.int (iI x) :: rest)) :=
  lv_if_le F.1 F.2.1 hdg ht (fun h => kt ((iI_le hx zr_0).mp h)) (fun h => kf (fun q => h ((iI_le hx zr_0).mpr q)))
theorem z_goto (F : gFix g p c cc nL s args Ts own m) {off : Int} {tgt : Nat} (hdg : decode cc pc = .ok (.goto off, 3)) (ht : (pc : Int) + off = (tgt : Int)) (k : W p l e Rm s m args below meth c H locs cells slots Q (F0 m tgt ls rest)) : W p l e Rm s m args below meth c H locs cells slots Q (F0 m pc ls rest) := lv_goto F.1 F.2.1 hdg ht k
theorem z_iinc (F : gFix g p c cc nL s args Ts own m) {i k : Nat} {n x : Int} {lv lv' : List (Nat × Value)} (hdg : decode cc pc = .ok (.iinc i n, 3)) (h : lv_has ls nL lv) (hk : lv[k]? = some (i, .int (iI x))) (hn : i < nL) (hl : (i, Value.int (iI (x + n))) :: lv.filter (fun q => !(q.1 == i) && !(q.1 + 1 == i && q.2.category == 2)) = lv')
    (kk : ∀ ls' : Array Slot, lv_has ls' nL lv' → W p l e Rm s m args below meth c H locs cells slots Q (F0 m (pc + 3) ls' rest)) : W p l e Rm s m args below meth c H locs cells slots Q (F0 m pc ls rest) :=
  lv_iinc (v := iI (x + n)) F.1 F.2.1 hdg h hk (iI_add x n) hn hl kk
theorem g_getI (F : gFix g p c cc nL s args Ts own m) (hH : gH g I R J AI AJ AR H) {C : String} {T : u_T} {N ci k index : Nat} (hc : vwCl[ci]? = some (C, T, N)) (hc8 : ci < 8) (hin : ∀ w ∈ u_ws C T N, w ∈ Ts) (ha : gO g a ci) (hk : k < N) (hf : (gft ci)[k]? = some 0) (hl : Cond.fieldLink own index (T k).1 (T k).2.1 (T k).2.2.1 ∈ Ts) (hdg : decode cc pc = .ok (.getfield index, 3))
    (kk : W p l e Rm s m args below meth c H locs cells slots Q (F0 m (pc + 3) ls (.int (iI (I a k).toInt) :: rest))) : W p l e Rm s m args below meth c H locs cells slots Q (F0 m pc ls (.ref a :: rest)) := by
  obtain ⟨hx, hb0, -, hown, hts, hK, -⟩ := F
  obtain ⟨q0, hq⟩ := g_at (I := I) (R := R) (J := J) (AI := AI) (AJ := AJ) (AR := AR) ha.1
  rw [gE_obj ha.2 hc8] at hq
  exact va_get hx hb0 hts hin hown hK hH.1 q0 hq hc k hk (hts _ hl) (fun _ h => h) (v := .int (iI (I a k).toInt)) (by rw [gFs_get hf]; show some (Value.int (I a k)) = _; rw [iI_self]) hdg kk
theorem g_getJ (F : gFix g p c cc nL s args Ts own m) (hH : gH g I R J AI AJ AR H) {C : String} {T : u_T} {N ci k index : Nat} (hc : vwCl[ci]? = some (C, T, N)) (hc8 : ci < 8) (hin : ∀ w ∈ u_ws C T N, w ∈ Ts) (ha : gO g a ci) (hk : k < N) (hf : (gft ci)[k]? = some 1) (hl : Cond.fieldLink own index (T k).1 (T k).2.1 (T k).2.2.1 ∈ Ts) (hdg : decode cc pc = .ok (.getfield index, 3))
    (kk : W p l e Rm s m args below meth c H locs cells slots Q (F0 m (pc + 3) ls (.long (J a k) :: rest))) : W p l e Rm s m args below meth c H locs cells slots Q (F0 m pc ls (.ref a :: rest)) := by
  obtain ⟨hx, hb0, -, hown, hts, hK, -⟩ := F
  obtain ⟨q0, hq⟩ := g_at (I := I) (R := R) (J := J) (AI := AI) (AJ := AJ) (AR := AR) ha.1
  rw [gE_obj ha.2 hc8] at hq
  exact va_get hx hb0 hts hin hown hK hH.1 q0 hq hc k hk (hts _ hl) (fun _ h => h) (v := .long (J a k)) (by rw [gFs_get hf]; rfl) hdg kk
theorem g_getR (F : gFix g p c cc nL s args Ts own m) (hH : gH g I R J AI AJ AR H) {C : String} {T : u_T} {N ci k index : Nat} (hc : vwCl[ci]? = some (C, T, N)) (hc8 : ci < 8) (hin : ∀ w ∈ u_ws C T N, w ∈ Ts) (ha : gO g a ci) (hk : k < N) (hf : (gft ci)[k]? = some 2) {b : Nat} (hb : R a k = some b) (hl : Cond.fieldLink own index (T k).1 (T k).2.1 (T k).2.2.1 ∈ Ts) (hdg : decode cc pc = .ok (.getfield index, 3))
    (kk : W p l e Rm s m args below meth c H locs cells slots Q (F0 m (pc + 3) ls (.ref b :: rest))) : W p l e Rm s m args below meth c H locs cells slots Q (F0 m pc ls (.ref a :: rest)) := by
  obtain ⟨hx, hb0, -, hown, hts, hK, -⟩ := F
  obtain ⟨q0, hq⟩ := g_at (I := I) (R := R) (J := J) (AI := AI) (AJ := AJ) (AR := AR) ha.1
  rw [gE_obj ha.2 hc8] at hq
  exact va_get hx hb0 hts hin hown hK hH.1 q0 hq hc k hk (hts _ hl) (fun _ h => h) (v := .ref b) (by rw [gFs_get hf]; show some (va_rf (R a k)) = _; rw [hb]; rfl) hdg kk
theorem g_putI (F : gFix g p c cc nL s args Ts own m) (hH : gH g I R J AI AJ AR H) (hS : va_S (gA g) H0 H locs) {C : String} {T : u_T} {N ci k index : Nat} (hc : vwCl[ci]? = some (C, T, N)) (hc8 : ci < 8) (hin : ∀ w ∈ u_ws C T N, w ∈ Ts) (ha : gO g a ci) (hk : k < N) (ty0 : Nat → FieldType) (hty : ∀ k, k < N → parseFieldDescriptor (T k).2.2.1 = some (ty0 k)) (hnm : ∀ a, a < N → ∀ b, b < N → a ≠ b → (T a).2.1 ≠ (T b).2.1) (hf : (gft ci)[k]? = some 0) {x : Int} (hfin : (T k).2.2.2 = false) (hd : parseFieldDescriptor (T k).2.2.1 = some .int) (hl : Cond.fieldLink own index (T k).1 (T k).2.1 (T k).2.2.1 ∈ Ts) (hdg : decode cc pc = .ok (.putfield index, 3))
    (kk : ∀ (H1 : Heap) (locs1 : List Loc), gH g (gup2 I a k (iI x)) R J AI AJ AR H1 → va_S (gA g) H0 H1 locs1 → W p l e Rm s m args below meth c H1 locs1 cells slots Q (F0 m (pc + 3) ls rest)) : W p l e Rm s m args below meth c H locs cells slots Q (F0 m pc ls (.int (iI x) :: .ref a :: rest)) := by
  obtain ⟨hx, hb0, -, hown, hts, hK, -⟩ := F
  obtain ⟨q0, hq⟩ := g_at (I := I) (R := R) (J := J) (AI := AI) (AJ := AJ) (AR := AR) ha.1
  have hlen : k < (gFs I R J a (gft ci)).length := (List.getElem?_eq_some_iff.mp (gFs_get (I := I) (R := R) (J := J) (a := a) hf)).1
  have hset := g_set (f' := gE g (gup2 I a k (iI x)) R J AI AJ AR) (e := .inr (ci, (gFs I R J a (gft ci)).set k (.int (iI x)))) hH.2 ha.1 hq
    (by rw [gE_obj ha.2 hc8]; exact congrArg (fun z => Sum.inr (ci, z)) (gFs_set hf (by show Value.int (gup2 I a k (iI x) a k) = _; rw [gup2_s]) (fun j t' hj => by
      unfold gV
      split
      · rw [gup2_k _ _ hj]
      · rfl
      · rfl)))
    (fun b hb => by
    unfold gE gFs gV
    simp only [gup2_a _ _ hb])
  rw [gE_obj ha.2 hc8] at hq
  refine va_put hx hb0 hts hin ty0 hty hnm hown hK hH.1 hH.2 hS q0 hq hc k hk (hts _ hl) (fun _ h => h) hfin hd rfl rfl hlen hdg (fun H1 locs1 h1 h2 h3 => kk H1 locs1 ⟨?_, ?_⟩ h3)
  · rw [← hset]; exact h1
  · rw [← hset]; exact h2
theorem g_putIF (F : gFix g p c cc nL s args Ts own m) (hH : gH g I R J AI AJ AR H) (hS : va_S (gA g) H0 H locs) {C : String} {T : u_T} {N ci k index : Nat} (hc : vwCl[ci]? = some (C, T, N)) (hc8 : ci < 8) (hin : ∀ w ∈ u_ws C T N, w ∈ Ts) (ha : gO g a ci) (hk : k < N) (ty0 : Nat → FieldType) (hty : ∀ k, k < N → parseFieldDescriptor (T k).2.2.1 = some (ty0 k)) (hnm : ∀ a, a < N → ∀ b, b < N → a ≠ b → (T a).2.1 ≠ (T b).2.1) (hf : (gft ci)[k]? = some 0) {x : Int} (hfin : (T k).2.2.2 = true) (hini : meth.name = "<init>") (hdecl : (T k).1 = own) (hd : parseFieldDescriptor (T k).2.2.1 = some .int) (hl : Cond.fieldLink own index (T k).1 (T k).2.1 (T k).2.2.1 ∈ Ts) (hdg : decode cc pc = .ok (.putfield index, 3))
    (kk : ∀ (H1 : Heap) (locs1 : List Loc), gH g (gup2 I a k (iI x)) R J AI AJ AR H1 → va_S (gA g) H0 H1 locs1 → W p l e Rm s m args below meth c H1 locs1 cells slots Q (F0 m (pc + 3) ls rest)) : W p l e Rm s m args below meth c H locs cells slots Q (F0 m pc ls (.int (iI x) :: .ref a :: rest)) := by
  obtain ⟨hx, hb0, -, hown, hts, hK, -⟩ := F
  obtain ⟨q0, hq⟩ := g_at (I := I) (R := R) (J := J) (AI := AI) (AJ := AJ) (AR := AR) ha.1
  have hlen : k < (gFs I R J a (gft ci)).length := (List.getElem?_eq_some_iff.mp (gFs_get (I := I) (R := R) (J := J) (a := a) hf)).1
  have hset := g_set (f' := gE g (gup2 I a k (iI x)) R J AI AJ AR) (e := .inr (ci, (gFs I R J a (gft ci)).set k (.int (iI x)))) hH.2 ha.1 hq
    (by rw [gE_obj ha.2 hc8]; exact congrArg (fun z => Sum.inr (ci, z)) (gFs_set hf (by show Value.int (gup2 I a k (iI x) a k) = _; rw [gup2_s]) (fun j t' hj => by
      unfold gV
      split
      · rw [gup2_k _ _ hj]
      · rfl
      · rfl)))
    (fun b hb => by
    unfold gE gFs gV
    simp only [gup2_a _ _ hb])
  rw [gE_obj ha.2 hc8] at hq
  refine va_putF hx hb0 hts hin ty0 hty hnm hown hK hH.1 hH.2 hS q0 hq hc k hk (hts _ hl) (fun _ h => h) hfin hini hdecl hd rfl rfl hlen hdg (fun H1 locs1 h1 h2 h3 => kk H1 locs1 ⟨?_, ?_⟩ h3)
  · rw [← hset]; exact h1
  · rw [← hset]; exact h2
theorem g_putJ (F : gFix g p c cc nL s args Ts own m) (hH : gH g I R J AI AJ AR H) (hS : va_S (gA g) H0 H locs) {C : String} {T : u_T} {N ci k index : Nat} (hc : vwCl[ci]? = some (C, T, N)) (hc8 : ci < 8) (hin : ∀ w ∈ u_ws C T N, w ∈ Ts) (ha : gO g a ci) (hk : k < N) (ty0 : Nat → FieldType) (hty : ∀ k, k < N → parseFieldDescriptor (T k).2.2.1 = some (ty0 k)) (hnm : ∀ a, a < N → ∀ b, b < N → a ≠ b → (T a).2.1 ≠ (T b).2.1) (hf : (gft ci)[k]? = some 1) {x : Int64} (hfin : (T k).2.2.2 = false) (hd : parseFieldDescriptor (T k).2.2.1 = some .long) (hl : Cond.fieldLink own index (T k).1 (T k).2.1 (T k).2.2.1 ∈ Ts) (hdg : decode cc pc = .ok (.putfield index, 3))
    (kk : ∀ (H1 : Heap) (locs1 : List Loc), gH g I R (gup2 J a k x) AI AJ AR H1 → va_S (gA g) H0 H1 locs1 → W p l e Rm s m args below meth c H1 locs1 cells slots Q (F0 m (pc + 3) ls rest)) : W p l e Rm s m args below meth c H locs cells slots Q (F0 m pc ls (.long x :: .ref a :: rest)) := by
  obtain ⟨hx, hb0, -, hown, hts, hK, -⟩ := F
  obtain ⟨q0, hq⟩ := g_at (I := I) (R := R) (J := J) (AI := AI) (AJ := AJ) (AR := AR) ha.1
  have hlen : k < (gFs I R J a (gft ci)).length := (List.getElem?_eq_some_iff.mp (gFs_get (I := I) (R := R) (J := J) (a := a) hf)).1
  have hset := g_set (f' := gE g I R (gup2 J a k x) AI AJ AR) (e := .inr (ci, (gFs I R J a (gft ci)).set k (.long x))) hH.2 ha.1 hq
    (by rw [gE_obj ha.2 hc8]; exact congrArg (fun z => Sum.inr (ci, z)) (gFs_set hf (by show Value.long (gup2 J a k x a k) = _; rw [gup2_s]) (fun j t' hj => by
      unfold gV
      split
      · rfl
      · rw [gup2_k _ _ hj]
      · rfl)))
    (fun b hb => by
    unfold gE gFs gV
    simp only [gup2_a _ _ hb])
  rw [gE_obj ha.2 hc8] at hq
  refine va_put hx hb0 hts hin ty0 hty hnm hown hK hH.1 hH.2 hS q0 hq hc k hk (hts _ hl) (fun _ h => h) hfin hd rfl rfl hlen hdg (fun H1 locs1 h1 h2 h3 => kk H1 locs1 ⟨?_, ?_⟩ h3)
  · rw [← hset]; exact h1
  · rw [← hset]; exact h2
theorem g_putJF (F : gFix g p c cc nL s args Ts own m) (hH : gH g I R J AI AJ AR H) (hS : va_S (gA g) H0 H locs) {C : String} {T : u_T} {N ci k index : Nat} (hc : vwCl[ci]? = some (C, T, N)) (hc8 : ci < 8) (hin : ∀ w ∈ u_ws C T N, w ∈ Ts) (ha : gO g a ci) (hk : k < N) (ty0 : Nat → FieldType) (hty : ∀ k, k < N → parseFieldDescriptor (T k).2.2.1 = some (ty0 k)) (hnm : ∀ a, a < N → ∀ b, b < N → a ≠ b → (T a).2.1 ≠ (T b).2.1) (hf : (gft ci)[k]? = some 1) {x : Int64} (hfin : (T k).2.2.2 = true) (hini : meth.name = "<init>") (hdecl : (T k).1 = own) (hd : parseFieldDescriptor (T k).2.2.1 = some .long) (hl : Cond.fieldLink own index (T k).1 (T k).2.1 (T k).2.2.1 ∈ Ts) (hdg : decode cc pc = .ok (.putfield index, 3))
    (kk : ∀ (H1 : Heap) (locs1 : List Loc), gH g I R (gup2 J a k x) AI AJ AR H1 → va_S (gA g) H0 H1 locs1 → W p l e Rm s m args below meth c H1 locs1 cells slots Q (F0 m (pc + 3) ls rest)) : W p l e Rm s m args below meth c H locs cells slots Q (F0 m pc ls (.long x :: .ref a :: rest)) := by
  obtain ⟨hx, hb0, -, hown, hts, hK, -⟩ := F
  obtain ⟨q0, hq⟩ := g_at (I := I) (R := R) (J := J) (AI := AI) (AJ := AJ) (AR := AR) ha.1
  have hlen : k < (gFs I R J a (gft ci)).length := (List.getElem?_eq_some_iff.mp (gFs_get (I := I) (R := R) (J := J) (a := a) hf)).1
  have hset := g_set (f' := gE g I R (gup2 J a k x) AI AJ AR) (e := .inr (ci, (gFs I R J a (gft ci)).set k (.long x))) hH.2 ha.1 hq
    (by rw [gE_obj ha.2 hc8]; exact congrArg (fun z => Sum.inr (ci, z)) (gFs_set hf (by show Value.long (gup2 J a k x a k) = _; rw [gup2_s]) (fun j t' hj => by
      unfold gV
      split
      · rfl
      · rw [gup2_k _ _ hj]
      · rfl)))
    (fun b hb => by
    unfold gE gFs gV
    simp only [gup2_a _ _ hb])
  rw [gE_obj ha.2 hc8] at hq
  refine va_putF hx hb0 hts hin ty0 hty hnm hown hK hH.1 hH.2 hS q0 hq hc k hk (hts _ hl) (fun _ h => h) hfin hini hdecl hd rfl rfl hlen hdg (fun H1 locs1 h1 h2 h3 => kk H1 locs1 ⟨?_, ?_⟩ h3)
  · rw [← hset]; exact h1
  · rw [← hset]; exact h2
theorem g_putR (F : gFix g p c cc nL s args Ts own m) (hH : gH g I R J AI AJ AR H) (hS : va_S (gA g) H0 H locs) {C : String} {T : u_T} {N ci k index : Nat} (hc : vwCl[ci]? = some (C, T, N)) (hc8 : ci < 8) (hin : ∀ w ∈ u_ws C T N, w ∈ Ts) (ha : gO g a ci) (hk : k < N) (ty0 : Nat → FieldType) (hty : ∀ k, k < N → parseFieldDescriptor (T k).2.2.1 = some (ty0 k)) (hnm : ∀ a, a < N → ∀ b, b < N → a ≠ b → (T a).2.1 ≠ (T b).2.1) (hf : (gft ci)[k]? = some 2) {x : Nat} {ty : FieldType} (hn : narrow ty (.ref x) = .ref x) (hfit : fits ty (.ref x) = true) (hfin : (T k).2.2.2 = false) (hd : parseFieldDescriptor (T k).2.2.1 = some ty) (hl : Cond.fieldLink own index (T k).1 (T k).2.1 (T k).2.2.1 ∈ Ts) (hdg : decode cc pc = .ok (.putfield index, 3))
    (kk : ∀ (H1 : Heap) (locs1 : List Loc), gH g I (gup2 R a k (some x)) J AI AJ AR H1 → va_S (gA g) H0 H1 locs1 → W p l e Rm s m args below meth c H1 locs1 cells slots Q (F0 m (pc + 3) ls rest)) : W p l e Rm s m args below meth c H locs cells slots Q (F0 m pc ls (.ref x :: .ref a :: rest)) := by
  obtain ⟨hx, hb0, -, hown, hts, hK, -⟩ := F
  obtain ⟨q0, hq⟩ := g_at (I := I) (R := R) (J := J) (AI := AI) (AJ := AJ) (AR := AR) ha.1
  have hlen : k < (gFs I R J a (gft ci)).length := (List.getElem?_eq_some_iff.mp (gFs_get (I := I) (R := R) (J := J) (a := a) hf)).1
  have hset := g_set (f' := gE g I (gup2 R a k (some x)) J AI AJ AR) (e := .inr (ci, (gFs I R J a (gft ci)).set k (.ref x))) hH.2 ha.1 hq
    (by rw [gE_obj ha.2 hc8]; exact congrArg (fun z => Sum.inr (ci, z)) (gFs_set hf (by show va_rf (gup2 R a k (some x) a k) = _; rw [gup2_s]; rfl) (fun j t' hj => by
      unfold gV
      split
      · rfl
      · rfl
      · rw [gup2_k _ _ hj])))
    (fun b hb => by
    unfold gE gFs gV
    simp only [gup2_a _ _ hb])
  rw [gE_obj ha.2 hc8] at hq
  refine va_put hx hb0 hts hin ty0 hty hnm hown hK hH.1 hH.2 hS q0 hq hc k hk (hts _ hl) (fun _ h => h) hfin hd hn hfit hlen hdg (fun H1 locs1 h1 h2 h3 => kk H1 locs1 ⟨?_, ?_⟩ h3)
  · rw [← hset]; exact h1
  · rw [← hset]; exact h2
theorem g_putRF (F : gFix g p c cc nL s args Ts own m) (hH : gH g I R J AI AJ AR H) (hS : va_S (gA g) H0 H locs) {C : String} {T : u_T} {N ci k index : Nat} (hc : vwCl[ci]? = some (C, T, N)) (hc8 : ci < 8) (hin : ∀ w ∈ u_ws C T N, w ∈ Ts) (ha : gO g a ci) (hk : k < N) (ty0 : Nat → FieldType) (hty : ∀ k, k < N → parseFieldDescriptor (T k).2.2.1 = some (ty0 k)) (hnm : ∀ a, a < N → ∀ b, b < N → a ≠ b → (T a).2.1 ≠ (T b).2.1) (hf : (gft ci)[k]? = some 2) {x : Nat} {ty : FieldType} (hn : narrow ty (.ref x) = .ref x) (hfit : fits ty (.ref x) = true) (hfin : (T k).2.2.2 = true) (hini : meth.name = "<init>") (hdecl : (T k).1 = own) (hd : parseFieldDescriptor (T k).2.2.1 = some ty) (hl : Cond.fieldLink own index (T k).1 (T k).2.1 (T k).2.2.1 ∈ Ts) (hdg : decode cc pc = .ok (.putfield index, 3))
    (kk : ∀ (H1 : Heap) (locs1 : List Loc), gH g I (gup2 R a k (some x)) J AI AJ AR H1 → va_S (gA g) H0 H1 locs1 → W p l e Rm s m args below meth c H1 locs1 cells slots Q (F0 m (pc + 3) ls rest)) : W p l e Rm s m args below meth c H locs cells slots Q (F0 m pc ls (.ref x :: .ref a :: rest)) := by
  obtain ⟨hx, hb0, -, hown, hts, hK, -⟩ := F
  obtain ⟨q0, hq⟩ := g_at (I := I) (R := R) (J := J) (AI := AI) (AJ := AJ) (AR := AR) ha.1
  have hlen : k < (gFs I R J a (gft ci)).length := (List.getElem?_eq_some_iff.mp (gFs_get (I := I) (R := R) (J := J) (a := a) hf)).1
  have hset := g_set (f' := gE g I (gup2 R a k (some x)) J AI AJ AR) (e := .inr (ci, (gFs I R J a (gft ci)).set k (.ref x))) hH.2 ha.1 hq
    (by rw [gE_obj ha.2 hc8]; exact congrArg (fun z => Sum.inr (ci, z)) (gFs_set hf (by show va_rf (gup2 R a k (some x) a k) = _; rw [gup2_s]; rfl) (fun j t' hj => by
      unfold gV
      split
      · rfl
      · rfl
      · rw [gup2_k _ _ hj])))
    (fun b hb => by
    unfold gE gFs gV
    simp only [gup2_a _ _ hb])
  rw [gE_obj ha.2 hc8] at hq
  refine va_putF hx hb0 hts hin ty0 hty hnm hown hK hH.1 hH.2 hS q0 hq hc k hk (hts _ hl) (fun _ h => h) hfin hini hdecl hd hn hfit hlen hdg (fun H1 locs1 h1 h2 h3 => kk H1 locs1 ⟨?_, ?_⟩ h3)
  · rw [← hset]; exact h1
  · rw [← hset]; exact h2
theorem g_iald (F : gFix g p c cc nL s args Ts own m) (hH : gH g I R J AI AJ AR H) {n : Nat} (ha : gAr g a 9 n) {z : Int} (h0 : 0 ≤ z) (h1 : z < (n : Int)) (h2 : z ≤ 2147483647) (hdg : decode cc pc = .ok (.iaload, 1))
    (kk : W p l e Rm s m args below meth c H locs cells slots Q (F0 m (pc + 1) ls (.int (iI (AI a z.toNat).toInt) :: rest))) : W p l e Rm s m args below meth c H locs cells slots Q (F0 m pc ls (.int (iI z) :: .ref a :: rest)) := by
  obtain ⟨hx, hb0, -, hown, hts, hK, -⟩ := F
  obtain ⟨q0, hq⟩ := g_at (I := I) (R := R) (J := J) (AI := AI) (AJ := AJ) (AR := AR) ha.1
  rw [gE_arr ha.2.1 ha.2.2 (by decide)] at hq
  refine va_iald hx hb0 hK hH.1 q0 1 (hq.trans rfl) rfl (iI_in h0 h1 h2) hdg ?_
  rw [iI_self] at kk; rw [iI_nat h0 h2]; exact kk
theorem g_iast (F : gFix g p c cc nL s args Ts own m) (hH : gH g I R J AI AJ AR H) (hS : va_S (gA g) H0 H locs) {n : Nat} (ha : gAr g a 9 n) {z : Int} {x : Int} (h0 : 0 ≤ z) (h1 : z < (n : Int)) (h2 : z ≤ 2147483647) (hdg : decode cc pc = .ok (.iastore, 1))
    (kk : ∀ (H1 : Heap) (locs1 : List Loc), gH g I R J (gup2 AI a z.toNat (iI x)) AJ AR H1 → va_S (gA g) H0 H1 locs1 → W p l e Rm s m args below meth c H1 locs1 cells slots Q (F0 m (pc + 1) ls rest)) : W p l e Rm s m args below meth c H locs cells slots Q (F0 m pc ls (.int (iI x) :: .int (iI z) :: .ref a :: rest)) := by
  obtain ⟨hx, hb0, -, hown, hts, hK, -⟩ := F
  obtain ⟨q0, hq⟩ := g_at (I := I) (R := R) (J := J) (AI := AI) (AJ := AJ) (AR := AR) ha.1
  have hrow : gup2 AI a z.toNat (iI x) a = upd (AI a) z.toNat (iI x) := by
    funext j
    unfold gup2 upd
    simp
  have hset := g_set (f' := gE g I R J (gup2 AI a z.toNat (iI x)) AJ AR) (e := .inl (gY g 9, n, .inl (upd (AI a) z.toNat (iI x)))) hH.2 ha.1 hq
    (by rw [gE_arr ha.2.1 ha.2.2 (by decide), hrow]; rfl)
    (fun b hb => by
      have : gup2 AI a z.toNat (iI x) b = AI b := by funext j; exact gup2_a _ _ hb
      unfold gE
      rw [this])
  rw [gE_arr ha.2.1 ha.2.2 (by decide)] at hq
  refine va_iast hx hb0 hK hH.1 hH.2 hS q0 1 (hq.trans rfl) rfl (iI_in h0 h1 h2) hdg (fun H1 locs1 h1 h2' h3 => kk H1 locs1 ⟨?_, ?_⟩ h3)
  · rw [← hset]; rw [iI_nat h0 h2] at h1; exact h1
  · rw [← hset]; rw [iI_nat h0 h2] at h2'; exact h2'
theorem g_bald (F : gFix g p c cc nL s args Ts own m) (hH : gH g I R J AI AJ AR H) {n : Nat} (ha : gAr g a 8 n) {z : Int} (h0 : 0 ≤ z) (h1 : z < (n : Int)) (h2 : z ≤ 2147483647) (hdg : decode cc pc = .ok (.baload, 1))
    (kk : W p l e Rm s m args below meth c H locs cells slots Q (F0 m (pc + 1) ls (.int (iI (AI a z.toNat).toInt) :: rest))) : W p l e Rm s m args below meth c H locs cells slots Q (F0 m pc ls (.int (iI z) :: .ref a :: rest)) := by
  obtain ⟨hx, hb0, -, hown, hts, hK, -⟩ := F
  obtain ⟨q0, hq⟩ := g_at (I := I) (R := R) (J := J) (AI := AI) (AJ := AJ) (AR := AR) ha.1
  rw [gE_arr ha.2.1 ha.2.2 (by decide)] at hq
  refine va_bald hx hb0 hK hH.1 q0 0 (hq.trans rfl) rfl (iI_in h0 h1 h2) hdg ?_
  rw [iI_self] at kk; rw [iI_nat h0 h2]; exact kk
theorem g_bast (F : gFix g p c cc nL s args Ts own m) (hH : gH g I R J AI AJ AR H) (hS : va_S (gA g) H0 H locs) {n : Nat} (ha : gAr g a 8 n) {z : Int} {x : Int} (h0 : 0 ≤ z) (h1 : z < (n : Int)) (h2 : z ≤ 2147483647) (hdg : decode cc pc = .ok (.bastore, 1))
    (kk : ∀ (H1 : Heap) (locs1 : List Loc), gH g I R J (gup2 AI a z.toNat (vp_nar .byte (iI x))) AJ AR H1 → va_S (gA g) H0 H1 locs1 → W p l e Rm s m args below meth c H1 locs1 cells slots Q (F0 m (pc + 1) ls rest)) : W p l e Rm s m args below meth c H locs cells slots Q (F0 m pc ls (.int (iI x) :: .int (iI z) :: .ref a :: rest)) := by
  obtain ⟨hx, hb0, -, hown, hts, hK, -⟩ := F
  obtain ⟨q0, hq⟩ := g_at (I := I) (R := R) (J := J) (AI := AI) (AJ := AJ) (AR := AR) ha.1
  have hrow : gup2 AI a z.toNat (vp_nar .byte (iI x)) a = upd (AI a) z.toNat (vp_nar .byte (iI x)) := by
    funext j
    unfold gup2 upd
    simp
  have hset := g_set (f' := gE g I R J (gup2 AI a z.toNat (vp_nar .byte (iI x))) AJ AR) (e := .inl (gY g 8, n, .inl (upd (AI a) z.toNat (vp_nar .byte (iI x))))) hH.2 ha.1 hq
    (by rw [gE_arr ha.2.1 ha.2.2 (by decide), hrow]; rfl)
    (fun b hb => by
      have : gup2 AI a z.toNat (vp_nar .byte (iI x)) b = AI b := by funext j; exact gup2_a _ _ hb
      unfold gE
      rw [this])
  rw [gE_arr ha.2.1 ha.2.2 (by decide)] at hq
  refine va_bast hx hb0 hK hH.1 hH.2 hS q0 0 (hq.trans rfl) rfl (iI_in h0 h1 h2) hdg (fun H1 locs1 h1 h2' h3 => kk H1 locs1 ⟨?_, ?_⟩ h3)
  · rw [← hset]; rw [iI_nat h0 h2] at h1; exact h1
  · rw [← hset]; rw [iI_nat h0 h2] at h2'; exact h2'
theorem g_lald (F : gFix g p c cc nL s args Ts own m) (hH : gH g I R J AI AJ AR H) {n : Nat} (ha : gAr g a 10 n) {z : Int} (h0 : 0 ≤ z) (h1 : z < (n : Int)) (h2 : z ≤ 2147483647) (hdg : decode cc pc = .ok (.laload, 1))
    (kk : W p l e Rm s m args below meth c H locs cells slots Q (F0 m (pc + 1) ls (.long (AJ a z.toNat) :: rest))) : W p l e Rm s m args below meth c H locs cells slots Q (F0 m pc ls (.int (iI z) :: .ref a :: rest)) := by
  obtain ⟨hx, hb0, -, hown, hts, hK, -⟩ := F
  obtain ⟨q0, hq⟩ := g_at (I := I) (R := R) (J := J) (AI := AI) (AJ := AJ) (AR := AR) ha.1
  rw [gE_arr ha.2.1 ha.2.2 (by decide)] at hq
  refine va_lald hx hb0 hK hH.1 q0 2 (hq.trans rfl) rfl (iI_in h0 h1 h2) hdg ?_
  rw [iI_nat h0 h2]; exact kk
theorem g_last (F : gFix g p c cc nL s args Ts own m) (hH : gH g I R J AI AJ AR H) (hS : va_S (gA g) H0 H locs) {n : Nat} (ha : gAr g a 10 n) {z : Int} {x : Int64} (h0 : 0 ≤ z) (h1 : z < (n : Int)) (h2 : z ≤ 2147483647) (hdg : decode cc pc = .ok (.lastore, 1))
    (kk : ∀ (H1 : Heap) (locs1 : List Loc), gH g I R J AI (gup2 AJ a z.toNat (x)) AR H1 → va_S (gA g) H0 H1 locs1 → W p l e Rm s m args below meth c H1 locs1 cells slots Q (F0 m (pc + 1) ls rest)) : W p l e Rm s m args below meth c H locs cells slots Q (F0 m pc ls (.long x :: .int (iI z) :: .ref a :: rest)) := by
  obtain ⟨hx, hb0, -, hown, hts, hK, -⟩ := F
  obtain ⟨q0, hq⟩ := g_at (I := I) (R := R) (J := J) (AI := AI) (AJ := AJ) (AR := AR) ha.1
  have hrow : gup2 AJ a z.toNat (x) a = vp_updL (AJ a) z.toNat x := by
    funext j
    unfold gup2 vp_updL
    simp
  have hset := g_set (f' := gE g I R J AI (gup2 AJ a z.toNat (x)) AR) (e := .inl (gY g 10, n, .inr (.inl (vp_updL (AJ a) z.toNat x)))) hH.2 ha.1 hq
    (by rw [gE_arr ha.2.1 ha.2.2 (by decide), hrow]; rfl)
    (fun b hb => by
      have : gup2 AJ a z.toNat (x) b = AJ b := by funext j; exact gup2_a _ _ hb
      unfold gE
      rw [this])
  rw [gE_arr ha.2.1 ha.2.2 (by decide)] at hq
  refine va_last hx hb0 hK hH.1 hH.2 hS q0 2 (hq.trans rfl) rfl (iI_in h0 h1 h2) hdg (fun H1 locs1 h1 h2' h3 => kk H1 locs1 ⟨?_, ?_⟩ h3)
  · rw [← hset]; rw [iI_nat h0 h2] at h1; exact h1
  · rw [← hset]; rw [iI_nat h0 h2] at h2'; exact h2'
theorem g_aldL (F : gFix g p c cc nL s args Ts own m) (hH : gH g I R J AI AJ AR H) {n : Nat} (ha : gAr g a 11 n) {z : Int} (h0 : 0 ≤ z) (h1 : z < (n : Int)) (h2 : z ≤ 2147483647) {b : Nat} (hb : AR a z.toNat = some b) (hdg : decode cc pc = .ok (.aaload, 1))
    (kk : W p l e Rm s m args below meth c H locs cells slots Q (F0 m (pc + 1) ls (.ref b :: rest))) : W p l e Rm s m args below meth c H locs cells slots Q (F0 m pc ls (.int (iI z) :: .ref a :: rest)) := by
  obtain ⟨hx, hb0, -, hown, hts, hK, -⟩ := F
  obtain ⟨q0, hq⟩ := g_at (I := I) (R := R) (J := J) (AI := AI) (AJ := AJ) (AR := AR) ha.1
  rw [gE_arr ha.2.1 ha.2.2 (by decide)] at hq
  refine va_aldq hx hb0 hK hH.1 q0 3 (hq.trans rfl) rfl (iI_in h0 h1 h2) hdg ?_
  rw [iI_nat h0 h2, hb]; exact kk
theorem g_aldR (F : gFix g p c cc nL s args Ts own m) (hH : gH g I R J AI AJ AR H) {n : Nat} (ha : gAr g a 12 n) {z : Int} (h0 : 0 ≤ z) (h1 : z < (n : Int)) (h2 : z ≤ 2147483647) {b : Nat} (hb : AR a z.toNat = some b) (hdg : decode cc pc = .ok (.aaload, 1))
    (kk : W p l e Rm s m args below meth c H locs cells slots Q (F0 m (pc + 1) ls (.ref b :: rest))) : W p l e Rm s m args below meth c H locs cells slots Q (F0 m pc ls (.int (iI z) :: .ref a :: rest)) := by
  obtain ⟨hx, hb0, -, hown, hts, hK, -⟩ := F
  obtain ⟨q0, hq⟩ := g_at (I := I) (R := R) (J := J) (AI := AI) (AJ := AJ) (AR := AR) ha.1
  rw [gE_arr ha.2.1 ha.2.2 (by decide)] at hq
  refine va_aldq hx hb0 hK hH.1 q0 4 (hq.trans rfl) rfl (iI_in h0 h1 h2) hdg ?_
  rw [iI_nat h0 h2, hb]; exact kk
theorem g_alen8 (F : gFix g p c cc nL s args Ts own m) (hH : gH g I R J AI AJ AR H) {n : Nat} (ha : gAr g a 8 n) (hdg : decode cc pc = .ok (.arraylength, 1))
    (kk : W p l e Rm s m args below meth c H locs cells slots Q (F0 m (pc + 1) ls (.int (iI (n : Int)) :: rest))) : W p l e Rm s m args below meth c H locs cells slots Q (F0 m pc ls (.ref a :: rest)) := by
  obtain ⟨hx, hb0, -, hown, hts, hK, -⟩ := F
  obtain ⟨q0, hq⟩ := g_at (I := I) (R := R) (J := J) (AI := AI) (AJ := AJ) (AR := AR) ha.1
  rw [gE_arr ha.2.1 ha.2.2 (by decide)] at hq
  exact va_alen hx hb0 hK hH.1 q0 0 hq rfl (v := iI (n : Int)) (Int32.ofInt_eq_ofNat).symm hdg kk
theorem g_alen9 (F : gFix g p c cc nL s args Ts own m) (hH : gH g I R J AI AJ AR H) {n : Nat} (ha : gAr g a 9 n) (hdg : decode cc pc = .ok (.arraylength, 1))
    (kk : W p l e Rm s m args below meth c H locs cells slots Q (F0 m (pc + 1) ls (.int (iI (n : Int)) :: rest))) : W p l e Rm s m args below meth c H locs cells slots Q (F0 m pc ls (.ref a :: rest)) := by
  obtain ⟨hx, hb0, -, hown, hts, hK, -⟩ := F
  obtain ⟨q0, hq⟩ := g_at (I := I) (R := R) (J := J) (AI := AI) (AJ := AJ) (AR := AR) ha.1
  rw [gE_arr ha.2.1 ha.2.2 (by decide)] at hq
  exact va_alen hx hb0 hK hH.1 q0 1 hq rfl (v := iI (n : Int)) (Int32.ofInt_eq_ofNat).symm hdg kk
theorem g_alen10 (F : gFix g p c cc nL s args Ts own m) (hH : gH g I R J AI AJ AR H) {n : Nat} (ha : gAr g a 10 n) (hdg : decode cc pc = .ok (.arraylength, 1))
    (kk : W p l e Rm s m args below meth c H locs cells slots Q (F0 m (pc + 1) ls (.int (iI (n : Int)) :: rest))) : W p l e Rm s m args below meth c H locs cells slots Q (F0 m pc ls (.ref a :: rest)) := by
  obtain ⟨hx, hb0, -, hown, hts, hK, -⟩ := F
  obtain ⟨q0, hq⟩ := g_at (I := I) (R := R) (J := J) (AI := AI) (AJ := AJ) (AR := AR) ha.1
  rw [gE_arr ha.2.1 ha.2.2 (by decide)] at hq
  exact va_alen hx hb0 hK hH.1 q0 2 hq rfl (v := iI (n : Int)) (Int32.ofInt_eq_ofNat).symm hdg kk
theorem g_alen11 (F : gFix g p c cc nL s args Ts own m) (hH : gH g I R J AI AJ AR H) {n : Nat} (ha : gAr g a 11 n) (hdg : decode cc pc = .ok (.arraylength, 1))
    (kk : W p l e Rm s m args below meth c H locs cells slots Q (F0 m (pc + 1) ls (.int (iI (n : Int)) :: rest))) : W p l e Rm s m args below meth c H locs cells slots Q (F0 m pc ls (.ref a :: rest)) := by
  obtain ⟨hx, hb0, -, hown, hts, hK, -⟩ := F
  obtain ⟨q0, hq⟩ := g_at (I := I) (R := R) (J := J) (AI := AI) (AJ := AJ) (AR := AR) ha.1
  rw [gE_arr ha.2.1 ha.2.2 (by decide)] at hq
  exact va_alen hx hb0 hK hH.1 q0 3 hq rfl (v := iI (n : Int)) (Int32.ofInt_eq_ofNat).symm hdg kk
theorem g_alen12 (F : gFix g p c cc nL s args Ts own m) (hH : gH g I R J AI AJ AR H) {n : Nat} (ha : gAr g a 12 n) (hdg : decode cc pc = .ok (.arraylength, 1))
    (kk : W p l e Rm s m args below meth c H locs cells slots Q (F0 m (pc + 1) ls (.int (iI (n : Int)) :: rest))) : W p l e Rm s m args below meth c H locs cells slots Q (F0 m pc ls (.ref a :: rest)) := by
  obtain ⟨hx, hb0, -, hown, hts, hK, -⟩ := F
  obtain ⟨q0, hq⟩ := g_at (I := I) (R := R) (J := J) (AI := AI) (AJ := AJ) (AR := AR) ha.1
  rw [gE_arr ha.2.1 ha.2.2 (by decide)] at hq
  exact va_alen hx hb0 hK hH.1 q0 4 hq rfl (v := iI (n : Int)) (Int32.ofInt_eq_ofNat).symm hdg kk
end GRows2
end
section
/-! contracts over the store: from a world w to a world w' -/
def gHS (g : gG) (w : gS) (U : State) : Prop := gH g w.1 w.2.1 w.2.2.1 w.2.2.2.1 w.2.2.2.2.1 w.2.2.2.2.2 U.heap ∧ va_K (gD g) vwCl (gT g) U ∧ gZ g ≤ U.heap.size
def gPre (g : gG) (av : List Value) (w : gS) : Array Value → State → Prop := va_Pc av (fun U => gHS g w U ∧ gStr g U)
theorem gPre_blind {g : gG} {av : List Value} {w : gS} : FrameBlind (gPre g av w) := fun a U f mk q => ⟨q.1, ⟨q.2.1.1, va_K.moved (u := U) (U := U.calling f mk a) (Vm.Alike.refl U.vm) q.2.1.2.1, q.2.1.2.2⟩, gStr_same (U := U.calling f mk a) q.2.2 rfl rfl⟩
abbrev gQi (g : gG) (post : Int → gS → Prop) : Array Value → State → Outcome → State → Prop := va_Qi (S := gS) (fun r w => post r.toInt w) (gHS g) (gA g)
abbrev gQv (g : gG) (post : gS → Prop) : Array Value → State → Outcome → State → Prop := va_Qv (S := gS) post (gHS g) (gA g)
abbrev gQl (g : gG) (post : Int64 → gS → Prop) : Array Value → State → Outcome → State → Prop := va_Ql (S := gS) post (gHS g) (gA g)
abbrev gQr (g : gG) (post : Nat → gS → Prop) : Array Value → State → Outcome → State → Prop := va_Qr (S := gS) (fun _ => True) (fun w a t => gHS g w t ∧ post a w) (gA g)
abbrev gMet (l : Launch) (g : gG) (y : MethodName) (ws : List Cond) (rm : Room) (av : List Value) (w : gS) (Qc : Array Value → State → Outcome → State → Prop) : Prop := Met l y ws rm (gPre g av w) Qc 0 0 (gA g)
theorem gStart {l : Launch} {g : gG} {y : MethodName} {ws ws' : List Cond} {rm : Room} {av : List Value} {I : gI} {R : gR} {J : gJ} {AI : gI} {AJ : gJ} {AR : gR} {Qc : Array Value → State → Outcome → State → Prop} {cc : ByteArray} {maxL : Nat} {ret : Option FieldType}
    (hy : plainName y.cls = true) (hw : ws = Cond.code y cc maxL ret :: ws') (hav : (lg_sl av).length ≤ maxL)
    (body : ∀ (p : Program) (e : Env) (s : State) (m : MethodId) (below : List Frame) (meth : Method) (c : Code) (ls : Array Slot), gFix g p c cc maxL s av.toArray ws y.cls m → meth.sig.returnType = ret → meth.locks = false →
      gH g I R J AI AJ AR s.heap → gZ g ≤ s.heap.size → va_S (gA g) s.heap s.heap [] → lv_has ls maxL (lv_args 0 av) →
      W p l e rm s m av.toArray below meth c s.heap [] 0 0 (MQ below Qc av.toArray s 0 0 (gA g)) (F0 m 0 ls [])) : gMet l g y ws rm av (I, R, J, AI, AJ, AR) Qc := by
  refine Met.ofW (cc := cc) (maxL := maxL) (ret := ret) hy hw ?_
  intro p e s m args below meth c s₁ B hml hv
  obtain ⟨rfl, ⟨hH, hK, hz⟩, hG⟩ := hv
  rw [lg_entry_eq]
  exact body p e s m below meth c _ ⟨B.exec, B.bytes, hml, findClass_of_methodNamed B.named, atoms_spec (ws := ws) B.pre, hK, hG⟩ B.returns B.notSynchronized hH hz va_S.rf (lv_entry av hav)
section GCalls
variable {g : gG} {I : gI} {R : gR} {J : gJ} {AI : gI} {AJ : gJ} {AR : gR}
variable {p : Program} {l : Launch} {e : Env} {Rm : Room} {s : State} {m : MethodId} {args : Array Value} {below : List Frame} {meth : Method} {c : Code} {H : Heap} {locs : List Loc} {cells slots : Nat} {Q : State → Prop}
variable {cc : ByteArray} {pc nL : Nat} {ls : Array Slot} {rest st0 : List Value} {Ts : List Cond} {own C : String}
variable {y : MethodName} {bytes : ByteArray} {maxL n index b ci N : Nat} {T : u_T} {ret : Option FieldType} {ws : List Cond} {rm : Room} {As : List Value}
theorem z_norm {x : Int} (k : ∀ z : Int, zr z → iI z = iI x → W p l e Rm s m args below meth c H locs cells slots Q (F0 m pc ls (.int (iI z) :: rest))) : W p l e Rm s m args below meth c H locs cells slots Q (F0 m pc ls (.int (iI x) :: rest)) := by
  have h := k (iI x).toInt (zr_t _) (iI_self _)
  rwa [iI_self] at h
theorem g_recv (F : gFix g p c cc nL s args Ts own m) (hH : gH g I R J AI AJ AR H) (hb : gO g b ci) (hc8 : ci < 8) (hc : vwCl[ci]? = some (C, T, N)) : ∃ cell : Cell, H[b]? = some cell ∧ cell.vm.isStatics = false ∧ s.vm.findClass C = some cell.cls := by
  obtain ⟨q0, hq⟩ := g_at (I := I) (R := R) (J := J) (AI := AI) (AJ := AJ) (AR := AR) hb.1
  rw [gE_obj hb.2 hc8] at hq
  exact va_recv F.2.2.2.2.2.1 hH.1 hc hq
theorem g_pre (F : gFix g p c cc nL s args Ts own m) (hH : gH g I R J AI AJ AR H) (hS : va_S (gA g) s.heap H locs) (hz : gZ g ≤ s.heap.size) {av : List Value} : ∀ U : State, U.heap = H → s.WarmedH U.vm → gPre g av (I, R, J, AI, AJ, AR) av.toArray U := fun U hU hW =>
  ⟨rfl, ⟨by rw [hU]; exact hH, va_K.moved hW.alike F.2.2.2.2.2.1, by rw [hU]; exact Nat.le_trans hz hS.1⟩, gStr_mv F.2.2.2.2.2.2 hW (fun a h1 h2 => by rw [hU]; exact hS.2.1 a h1 h2)⟩
theorem g_runV {Qc : Array Value → State → Outcome → State → Prop} (F : gFix g p c cc nL s args Ts own m) (hls : ls.size = nL) (hH : gH g I R J AI AJ AR H) (hS : va_S (gA g) s.heap H locs) (hz : gZ g ≤ s.heap.size)
    (M : gMet l g y ws rm (.ref b :: As) (I, R, J, AI, AJ, AR) Qc) (cw : CallW Rm s args own C index y bytes maxL ret ws rm 0 0 n) (hb : gO g b ci) (hc8 : ci < 8) (hc : vwCl[ci]? = some (C, T, N)) (hn : As.length = n) (hst : st0 = As.reverse ++ .ref b :: rest) (hroom : (rest.map fun v => v.category).sum ≤ 8) (hdg : decode cc pc = .ok (.invokevirtual index, 3)) (hcs : cells ≤ Rm.cells ∧ slots ≤ Rm.slots) :
    va_Run p l e Rm s m args below meth c H locs cells slots 0 0 (F0 m pc ls st0) rest (Qc (Value.ref b :: As).toArray) (gA g) :=
  va_runV (As := As) (rest := rest) ⟨F.1, F.2.1, F.2.2.1, F.2.2.2.1, F.2.2.2.2.1⟩ M cw ⟨gPre_blind, g_recv F hH hb hc8 hc, g_pre F hH hS hz⟩ rfl hn hls hst (lv_room (m := m) (pc := pc) (ls := ls) (rest := st0) hroom) hdg hcs
theorem g_runS {Qc : Array Value → State → Outcome → State → Prop} (F : gFix g p c cc nL s args Ts own m) (hls : ls.size = nL) (hH : gH g I R J AI AJ AR H) (hS : va_S (gA g) s.heap H locs) (hz : gZ g ≤ s.heap.size)
    (M : gMet l g y ws rm As (I, R, J, AI, AJ, AR) Qc) (cw : CallB Rm s args own index y bytes maxL ret ws rm 0 0 n ∧ (Cond.static y).before args s = true) (hn : As.length = n) (hst : st0 = As.reverse ++ rest) (hroom : (rest.map fun v => v.category).sum ≤ 8) (hdg : decode cc pc = .ok (.invokestatic index, 3)) (hcs : cells ≤ Rm.cells ∧ slots ≤ Rm.slots) :
    va_Run p l e Rm s m args below meth c H locs cells slots 0 0 (F0 m pc ls st0) rest (Qc As.toArray) (gA g) :=
  va_runS (As := As) (rest := rest) ⟨F.1, F.2.1, F.2.2.1, F.2.2.2.1, F.2.2.2.2.1⟩ M cw ⟨gPre_blind, g_pre F hH hS hz⟩ rfl hn hls hst (lv_room (m := m) (pc := pc) (ls := ls) (rest := st0) hroom) hdg hcs
theorem g_calli {post : Int → gS → Prop} {a : Array Value} (hr : va_Run p l e Rm s m args below meth c H locs cells slots 0 0 (F0 m pc ls st0) rest (gQi g post a) (gA g)) (hS : va_S (gA g) s.heap H locs)
    (kk : ∀ (z : Int) (I : gI) (R : gR) (J : gJ) (AI : gI) (AJ : gJ) (AR : gR) (H1 : Heap) (locs1 : List Loc), zr z → post z (I, R, J, AI, AJ, AR) → gH g I R J AI AJ AR H1 → va_S (gA g) s.heap H1 locs1 → W p l e Rm s m args below meth c H1 locs1 cells slots Q (F0 m (pc + 3) ls (.int (iI z) :: rest))) : W p l e Rm s m args below meth c H locs cells slots Q (F0 m pc ls st0) := by
  refine va_calli hr hS (fun q _ h => h) (fun q h => h) (fun r w t H1 locs1 ht hvm hp hB hz1 hk1 hS1 => ?_)
  obtain ⟨I1, R1, J1, AI1, AJ1, AR1⟩ := w
  have h := kk r.toInt I1 R1 J1 AI1 AJ1 AR1 H1 locs1 (zr_t r) hp (by rw [← ht]; exact hB.1) hS1
  rwa [iI_self] at h
theorem g_callv {post : gS → Prop} {a : Array Value} (hr : va_Run p l e Rm s m args below meth c H locs cells slots 0 0 (F0 m pc ls st0) rest (gQv g post a) (gA g)) (hS : va_S (gA g) s.heap H locs)
    (kk : ∀ (I : gI) (R : gR) (J : gJ) (AI : gI) (AJ : gJ) (AR : gR) (H1 : Heap) (locs1 : List Loc), post (I, R, J, AI, AJ, AR) → gH g I R J AI AJ AR H1 → va_S (gA g) s.heap H1 locs1 → W p l e Rm s m args below meth c H1 locs1 cells slots Q (F0 m (pc + 3) ls rest)) : W p l e Rm s m args below meth c H locs cells slots Q (F0 m pc ls st0) := by
  refine va_callv hr hS (fun q _ h => h) (fun q h => h) (fun w t H1 locs1 ht hvm hp hB hz1 hk1 hS1 => ?_)
  obtain ⟨I1, R1, J1, AI1, AJ1, AR1⟩ := w
  exact kk I1 R1 J1 AI1 AJ1 AR1 H1 locs1 hp (by rw [← ht]; exact hB.1) hS1
theorem g_calll {post : Int64 → gS → Prop} {a : Array Value} (hr : va_Run p l e Rm s m args below meth c H locs cells slots 0 0 (F0 m pc ls st0) rest (gQl g post a) (gA g)) (hS : va_S (gA g) s.heap H locs)
    (kk : ∀ (z : Int64) (I : gI) (R : gR) (J : gJ) (AI : gI) (AJ : gJ) (AR : gR) (H1 : Heap) (locs1 : List Loc), post z (I, R, J, AI, AJ, AR) → gH g I R J AI AJ AR H1 → va_S (gA g) s.heap H1 locs1 → W p l e Rm s m args below meth c H1 locs1 cells slots Q (F0 m (pc + 3) ls (.long z :: rest))) : W p l e Rm s m args below meth c H locs cells slots Q (F0 m pc ls st0) := by
  refine va_calll hr hS (fun q _ h => h) (fun q h => h) (fun r w t H1 locs1 ht hvm hp hB hz1 hk1 hS1 => ?_)
  obtain ⟨I1, R1, J1, AI1, AJ1, AR1⟩ := w
  exact kk r I1 R1 J1 AI1 AJ1 AR1 H1 locs1 hp (by rw [← ht]; exact hB.1) hS1
theorem g_callr {post : Nat → gS → Prop} {a : Array Value} (hr : va_Run p l e Rm s m args below meth c H locs cells slots 0 0 (F0 m pc ls st0) rest (gQr g post a) (gA g)) (hS : va_S (gA g) s.heap H locs)
    (kk : ∀ (z : Nat) (I : gI) (R : gR) (J : gJ) (AI : gI) (AJ : gJ) (AR : gR) (H1 : Heap) (locs1 : List Loc), post z (I, R, J, AI, AJ, AR) → gH g I R J AI AJ AR H1 → va_S (gA g) s.heap H1 locs1 → W p l e Rm s m args below meth c H1 locs1 cells slots Q (F0 m (pc + 3) ls (.ref z :: rest))) : W p l e Rm s m args below meth c H locs cells slots Q (F0 m pc ls st0) := by
  refine va_callr hr hS (fun q _ h => h) (fun q h => h) (fun w ra t H1 locs1 ht hvm hp hB hz1 hk1 hS1 => ?_)
  obtain ⟨I1, R1, J1, AI1, AJ1, AR1⟩ := w
  exact kk ra I1 R1 J1 AI1 AJ1 AR1 H1 locs1 hB.2 (by rw [← ht]; exact hB.1.1) hS1
theorem z_b01 {z : Int} (h : z = 0 ∨ z = 1) : narrow .boolean (.int (iI z)) = .int (iI z) := by
  rcases h with h | h <;> subst h <;> decide
theorem g_iret (F : gFix g p c cc nL s args Ts own m) (hr : meth.sig.returnType = some .int) (hlk : meth.locks = false) (hH : gH g I R J AI AJ AR H) (hS : va_S (gA g) s.heap H locs) (hz : gZ g ≤ s.heap.size) {post : Int → gS → Prop} {z : Int} (hv : zr z) (hp : post z (I, R, J, AI, AJ, AR)) (hdg : decode cc pc = .ok (.ireturn, 1)) :
    W p l e Rm s m args below meth c H locs 0 0 (MQ below (gQi g post) args s 0 0 (gA g)) (F0 m pc ls [.int (iI z)]) :=
  W.iret F.1 F.2.1 hr (fun t ht hW => ⟨⟨iI z, (I, R, J, AI, AJ, AR), rfl, by show post (iI z).toInt _; rw [iI_val hv]; exact hp, by rw [ht]; exact hH, va_K.moved hW.alike F.2.2.2.2.2.1, by rw [ht]; exact Nat.le_trans hz hS.1⟩, hS.F ht⟩) hS.2.2 hdg hlk
theorem g_zret (F : gFix g p c cc nL s args Ts own m) (hr : meth.sig.returnType = some .boolean) (hlk : meth.locks = false) (hH : gH g I R J AI AJ AR H) (hS : va_S (gA g) s.heap H locs) (hz : gZ g ≤ s.heap.size) {post : Int → gS → Prop} {z : Int} (hv : z = 0 ∨ z = 1) (hp : post z (I, R, J, AI, AJ, AR)) (hdg : decode cc pc = .ok (.ireturn, 1)) :
    W p l e Rm s m args below meth c H locs 0 0 (MQ below (gQi g post) args s 0 0 (gA g)) (F0 m pc ls [.int (iI z)]) :=
  W.zret F.1 F.2.1 hr (z_b01 hv) (fun t ht hW => ⟨⟨iI z, (I, R, J, AI, AJ, AR), rfl, by show post (iI z).toInt _; rw [iI_val ⟨by omega, by omega⟩]; exact hp, by rw [ht]; exact hH, va_K.moved hW.alike F.2.2.2.2.2.1, by rw [ht]; exact Nat.le_trans hz hS.1⟩, hS.F ht⟩) hS.2.2 hdg hlk
theorem g_nret (F : gFix g p c cc nL s args Ts own m) {ty : FieldType} (hr : meth.sig.returnType = some ty) (hlk : meth.locks = false) (hH : gH g I R J AI AJ AR H) (hS : va_S (gA g) s.heap H locs) (hz : gZ g ≤ s.heap.size) {post : Int → gS → Prop} {z : Int} (hn : narrow ty (.int (iI z)) = .int (iI z)) (hv : zr z) (hp : post z (I, R, J, AI, AJ, AR)) (hdg : decode cc pc = .ok (.ireturn, 1)) :
    W p l e Rm s m args below meth c H locs 0 0 (MQ below (gQi g post) args s 0 0 (gA g)) (F0 m pc ls [.int (iI z)]) :=
  W.zret F.1 F.2.1 hr hn (fun t ht hW => ⟨⟨iI z, (I, R, J, AI, AJ, AR), rfl, by show post (iI z).toInt _; rw [iI_val hv]; exact hp, by rw [ht]; exact hH, va_K.moved hW.alike F.2.2.2.2.2.1, by rw [ht]; exact Nat.le_trans hz hS.1⟩, hS.F ht⟩) hS.2.2 hdg hlk
theorem g_recvS (F : gFix g p c cc nL s args Ts own m) (hS : va_S (gA g) s.heap H locs) {i : Nat} {q : String × Nat × String × List Int32} (hq : sTab[i]? = some q) : ∃ cell : Cell, H[gSK g i]? = some cell ∧ cell.vm.isStatics = false ∧ s.vm.findClass "java/lang/String" = some cell.cls := by
  obtain ⟨cell, h1, h2, h3, -⟩ := ((F.2.2.2.2.2.2.1 i q hq).2.1).kept hS.2.1
  exact ⟨cell, h1, h2, h3⟩
theorem g_runVS {Qc : Array Value → State → Outcome → State → Prop} (F : gFix g p c cc nL s args Ts own m) (hls : ls.size = nL) (hH : gH g I R J AI AJ AR H) (hS : va_S (gA g) s.heap H locs) (hz : gZ g ≤ s.heap.size) {i : Nat} {q : String × Nat × String × List Int32} (hq : sTab[i]? = some q)
    (M : gMet l g y ws rm (.ref (gSK g i) :: As) (I, R, J, AI, AJ, AR) Qc) (cw : CallW Rm s args own "java/lang/String" index y bytes maxL ret ws rm 0 0 n) (hn : As.length = n) (hst : st0 = As.reverse ++ .ref (gSK g i) :: rest) (hroom : (rest.map fun v => v.category).sum ≤ 8) (hdg : decode cc pc = .ok (.invokevirtual index, 3)) (hcs : cells ≤ Rm.cells ∧ slots ≤ Rm.slots) :
    va_Run p l e Rm s m args below meth c H locs cells slots 0 0 (F0 m pc ls st0) rest (Qc (Value.ref (gSK g i) :: As).toArray) (gA g) :=
  va_runV (As := As) (rest := rest) ⟨F.1, F.2.1, F.2.2.1, F.2.2.2.1, F.2.2.2.2.1⟩ M cw ⟨gPre_blind, g_recvS F hS hq, g_pre F hH hS hz⟩ rfl hn hls hst (lv_room (m := m) (pc := pc) (ls := ls) (rest := st0) hroom) hdg hcs
theorem g_lret (F : gFix g p c cc nL s args Ts own m) (hr : meth.sig.returnType = some .long) (hlk : meth.locks = false) (hH : gH g I R J AI AJ AR H) (hS : va_S (gA g) s.heap H locs) (hz : gZ g ≤ s.heap.size) {post : Int64 → gS → Prop} {z : Int64} (hp : post z (I, R, J, AI, AJ, AR)) (hdg : decode cc pc = .ok (.lreturn, 1)) :
    W p l e Rm s m args below meth c H locs 0 0 (MQ below (gQl g post) args s 0 0 (gA g)) (F0 m pc ls [.long z]) :=
  W.lret F.1 F.2.1 hr (fun t ht hW => ⟨⟨z, (I, R, J, AI, AJ, AR), rfl, hp, by rw [ht]; exact hH, va_K.moved hW.alike F.2.2.2.2.2.1, by rw [ht]; exact Nat.le_trans hz hS.1⟩, hS.F ht⟩) hS.2.2 hdg hlk
theorem g_vret (F : gFix g p c cc nL s args Ts own m) (hr : meth.sig.returnType = none) (hlk : meth.locks = false) (hH : gH g I R J AI AJ AR H) (hS : va_S (gA g) s.heap H locs) (hz : gZ g ≤ s.heap.size) {post : gS → Prop} (hp : post (I, R, J, AI, AJ, AR)) (hdg : decode cc pc = .ok (.return_, 1)) :
    W p l e Rm s m args below meth c H locs 0 0 (MQ below (gQv g post) args s 0 0 (gA g)) (F0 m pc ls []) :=
  W.vret F.1 F.2.1 hr (fun t ht hW => ⟨⟨(I, R, J, AI, AJ, AR), rfl, hp, by rw [ht]; exact hH, va_K.moved hW.alike F.2.2.2.2.2.1, by rw [ht]; exact Nat.le_trans hz hS.1⟩, hS.F ht⟩) hS.2.2 hdg hlk
theorem g_aret (F : gFix g p c cc nL s args Ts own m) {rt : FieldType} (hr : meth.sig.returnType = some rt) (hrt : (∃ n, rt = .object n) ∨ ∃ t, rt = .array t) (hlk : meth.locks = false) (hH : gH g I R J AI AJ AR H) (hS : va_S (gA g) s.heap H locs) (hz : gZ g ≤ s.heap.size) {post : Nat → gS → Prop} {z : Nat} (hp : post z (I, R, J, AI, AJ, AR)) (hdg : decode cc pc = .ok (.areturn, 1)) :
    W p l e Rm s m args below meth c H locs 0 0 (MQ below (gQr g post) args s 0 0 (gA g)) (F0 m pc ls [.ref z]) :=
  W.aret F.1 F.2.1 hr hrt (Or.inr ⟨z, rfl⟩) (fun t ht hW => ⟨⟨(I, R, J, AI, AJ, AR), z, rfl, trivial, ⟨by rw [ht]; exact hH, va_K.moved hW.alike F.2.2.2.2.2.1, by rw [ht]; exact Nat.le_trans hz hS.1⟩, hp⟩, hS.F ht⟩) hS.2.2 hdg hlk
end GCalls
end
section
theorem iI_nI {x : Int} (h : 0 ≤ x) : iI x = nI x.toNat := by
  obtain ⟨a, rfl⟩ := Int.eq_ofNat_of_zero_le h
  exact Int32.ofInt_eq_ofNat
section GMore
variable {g : gG} {I : gI} {R : gR} {J : gJ} {AI : gI} {AJ : gJ} {AR : gR}
variable {p : Program} {l : Launch} {e : Env} {Rm : Room} {s : State} {m : MethodId} {args : Array Value} {below : List Frame} {meth : Method} {c : Code} {H : Heap} {locs : List Loc} {cells slots : Nat} {Q : State → Prop}
variable {cc : ByteArray} {pc nL : Nat} {ls : Array Slot} {rest : List Value} {a : Nat} {H0 : Heap} {Ts : List Cond} {own : String}
theorem z_iushr1 (F : gFix g p c cc nL s args Ts own m) {x : Int} (h0 : 0 ≤ x) (h1 : x ≤ 2147483647) (hdg : decode cc pc = .ok (.iushr, 1)) (k : W p l e Rm s m args below meth c H locs cells slots Q (F0 m (pc + 1) ls (.int (iI (x / 2)) :: rest))) : W p l e Rm s m args below meth c H locs cells slots Q (F0 m pc ls (.int (iI 1) :: .int (iI x) :: rest)) := by
  refine lv_iushr (v := iI (x / 2)) F.1 F.2.1 hdg ?_ k
  obtain ⟨n, rfl⟩ := Int.eq_ofNat_of_zero_le h0
  rw [iI_nI h0, iI_nI (x := (n : Int) / 2) (by omega)]
  have h := pk_ushrN (n := n) (by omega) (iI 1) 1 (by decide)
  have e1 : ((n : Int)).toNat = n := by omega
  have e2 : ((n : Int) / 2).toNat = n / 2 ^ 1 := by omega
  rw [e1, e2]
  exact h
theorem z_idiv (F : gFix g p c cc nL s args Ts own m) {x y : Int} (h0 : 0 ≤ x) (h1 : x ≤ 2147483647) (h2 : 0 < y) (h3 : y ≤ 2147483647) (hdg : decode cc pc = .ok (.idiv, 1)) (k : W p l e Rm s m args below meth c H locs cells slots Q (F0 m (pc + 1) ls (.int (iI (x / y)) :: rest))) : W p l e Rm s m args below meth c H locs cells slots Q (F0 m pc ls (.int (iI y) :: .int (iI x) :: rest)) := by
  refine lv_idiv F.1 F.2.1 hdg (fun q => ?_) ?_
  · have := (iI_eq (a := y) (b := 0) ⟨by omega, h3⟩ zr_0).mp q
    omega
  · obtain ⟨n, rfl⟩ := Int.eq_ofNat_of_zero_le h0
    obtain ⟨d, rfl⟩ := Int.eq_ofNat_of_zero_le (Int.le_of_lt h2)
    have e1 : iI (n : Int) = nI n := Int32.ofInt_eq_ofNat
    have e2 : iI (d : Int) = nI d := Int32.ofInt_eq_ofNat
    have e3 : iI ((n : Int) / (d : Int)) = nI (n / d) := by rw [← Int.natCast_ediv]; exact Int32.ofInt_eq_ofNat
    rw [e1, e2, pk_div (by omega) (by omega) (by omega), ← e3]
    exact k
theorem z_irem (F : gFix g p c cc nL s args Ts own m) {x y : Int} (h0 : 0 ≤ x) (h1 : x ≤ 2147483647) (h2 : 0 < y) (h3 : y ≤ 2147483647) (hdg : decode cc pc = .ok (.irem, 1)) (k : W p l e Rm s m args below meth c H locs cells slots Q (F0 m (pc + 1) ls (.int (iI (x % y)) :: rest))) : W p l e Rm s m args below meth c H locs cells slots Q (F0 m pc ls (.int (iI y) :: .int (iI x) :: rest)) := by
  refine lv_irem F.1 F.2.1 hdg (fun q => ?_) ?_
  · have := (iI_eq (a := y) (b := 0) ⟨by omega, h3⟩ zr_0).mp q
    omega
  · obtain ⟨n, rfl⟩ := Int.eq_ofNat_of_zero_le h0
    obtain ⟨d, rfl⟩ := Int.eq_ofNat_of_zero_le (Int.le_of_lt h2)
    have e1 : iI (n : Int) = nI n := Int32.ofInt_eq_ofNat
    have e2 : iI (d : Int) = nI d := Int32.ofInt_eq_ofNat
    have e3 : iI ((n : Int) % (d : Int)) = nI (n % d) := by rw [← Int.natCast_emod]; exact Int32.ofInt_eq_ofNat
    rw [e1, e2, pk_rem (by omega) (by omega) (by omega), ← e3]
    exact k
theorem g_copyi (F : gFix g p c cc nL s args Ts own m) (hls : ls.size = nL) (hH : gH g I R J AI AJ AR H) (hS : va_S (gA g) H0 H locs) {a0 n0 n1 index : Nat} (hs : gAr g a0 9 n0) (hd : gAr g a 9 n1)
    (m1 : Cond.methodLink own index arraycopyName ∈ Ts) (m2 : Cond.native arraycopyName ∈ Ts) (m3 : Cond.static arraycopyName ∈ Ts) (m4 : Cond.initialized "java/lang/System" ∈ Ts)
    {sp dp n : Int} (hx : 0 ≤ sp ∧ 0 ≤ dp ∧ 0 ≤ n ∧ sp + n ≤ (n0 : Int) ∧ dp + n ≤ (n1 : Int) ∧ sp ≤ 2147483647 ∧ dp ≤ 2147483647 ∧ n ≤ 2147483647)
    (hfr : 1 ≤ Rm.frames) (hlo : (rest.map fun v => v.category).sum + (nativeFrameWords "java/lang/System" "arraycopy" 5 + 11) ≤ Rm.locals) (hdg : decode cc pc = .ok (.invokestatic index, 3))
    (kk : ∀ (H1 : Heap) (locs1 : List Loc), gH g I R J (gup1 AI a (va_cpy (AI a0) (AI a) sp.toNat dp.toNat n.toNat)) AJ AR H1 → va_S (gA g) H0 H1 locs1 → W p l e Rm s m args below meth c H1 locs1 cells slots Q (F0 m (pc + 3) ls rest)) : W p l e Rm s m args below meth c H locs cells slots Q (F0 m pc ls (.int (iI n) :: .int (iI dp) :: .ref a :: .int (iI sp) :: .ref a0 :: rest)) := by
  obtain ⟨h1, h2, h3, h4, h5, h6, h7, h8⟩ := hx
  obtain ⟨hx, hb0, hml, hown, hts, hK, -⟩ := F
  obtain ⟨q0, hq0⟩ := g_at (I := I) (R := R) (J := J) (AI := AI) (AJ := AJ) (AR := AR) hs.1
  obtain ⟨q1, hq1⟩ := g_at (I := I) (R := R) (J := J) (AI := AI) (AJ := AJ) (AR := AR) hd.1
  have hset := g_set (f' := gE g I R J (gup1 AI a (va_cpy (AI a0) (AI a) sp.toNat dp.toNat n.toNat)) AJ AR) (e := .inl (gY g 9, n1, .inl (va_cpy (AI a0) (AI a) sp.toNat dp.toNat n.toNat))) hH.2 hd.1 hq1
    (by rw [gE_arr hd.2.1 hd.2.2 (by decide), gup1_s]; rfl)
    (fun b hb => by
      unfold gE
      rw [gup1_a _ _ hb])
  rw [gE_arr hs.2.1 hs.2.2 (by decide)] at hq0
  rw [gE_arr hd.2.1 hd.2.2 (by decide)] at hq1
  have neg : ∀ z : Int, 0 ≤ z → z ≤ 2147483647 → ¬ iI z < 0 := fun z h h' q => by
    have := (iI_lt (a := z) (b := 0) ⟨by omega, h'⟩ zr_0).mp q
    omega
  refine va_copyi hx hb0 (hml.trans hls.symm) hown (hts _ m1) (hts _ m2) (hts _ m3) (hts _ m4) hK hH.1 hH.2 hS q0 q1 1 1 (ty := .int) (hq0.trans rfl) (hq1.trans rfl) rfl rfl rfl (neg sp h1 h6) (neg dp h2 h7) (neg n h3 h8) ?_ ?_ (fun _ _ => rfl) hfr hlo hdg (fun H1 locs1 g1 g2 g3 => kk H1 locs1 ⟨?_, ?_⟩ g3)
  · rw [iI_nat h1 h6, iI_nat h3 h8]; omega
  · rw [iI_nat h2 h7, iI_nat h3 h8]; omega
  · rw [← hset]; rw [iI_nat h1 h6, iI_nat h2 h7, iI_nat h3 h8] at g1; exact g1
  · rw [← hset]; rw [iI_nat h1 h6, iI_nat h2 h7, iI_nat h3 h8] at g2; exact g2
end GMore
end
section
/-! what a state of the class is: bounds and shapes. gh: 0 cells of Rows, 1 its limit, 2 its keys, 3 parts of a Line, 4 its plan, 5 its place there, 6 lines of a Plan, 7 whose cells, 8 whose parts, 9 an int array's part (1 cells, 2 parts, 3 kinds, 4 values, 0 others) -/
abbrev gGh : Type := Nat → Nat → Nat
def vRows (g : gG) (gh : gGh) (R : gR) (I : gI) : Prop := ∀ a, gO g a 4 →
  (R a 2 = some (gh 0 a) ∧ gAr g (gh 0 a) 9 (6 * gh 1 a) ∧ gh 9 (gh 0 a) = 1 ∧ gh 7 (gh 0 a) = a) ∧
  ((I a 0).toInt = (gh 2 a : Int) ∧ (I a 1).toInt = (gh 1 a : Int) ∧ 0 ≤ (I a 3).toInt ∧ (I a 3).toInt ≤ (gh 1 a : Int)) ∧
  ((gh 2 a = 4 ∨ gh 2 a = 5) ∧ 40 ≤ gh 1 a ∧ gh 1 a ≤ 240)
def vC5 (g : gG) (gh : gGh) (AI : gI) : Prop := ∀ a, gO g a 4 → gh 2 a = 5 → ∀ j : Nat, j < gh 1 a → 0 ≤ (AI (gh 0 a) (6 * j)).toInt ∧ (AI (gh 0 a) (6 * j)).toInt ≤ 15
def okPart (kd pc : Int) (f : Nat → Int32) : Prop :=
  (kd = 1 → ∀ k : Nat, (k : Int) < pc → 0 ≤ (f (4 * k)).toInt ∧ (f (4 * k)).toInt ≤ 3 ∧ -1 ≤ (f (4 * k + 2)).toInt ∧ (f (4 * k + 2)).toInt ≤ 3) ∧
  (kd = 0 ∨ kd = 2 ∨ kd = 8 → pc ≤ 4 ∧ ∀ k : Nat, (k : Int) < pc → -1 ≤ (f (2 * k)).toInt ∧ (f (2 * k)).toInt ≤ 3) ∧
  (kd = 3 → pc ≤ 4 ∧ ∀ k : Nat, (k : Int) < pc → 0 ≤ (f (2 * k)).toInt ∧ (f (2 * k)).toInt ≤ 3 ∧ 0 ≤ (f (2 * k + 1)).toInt ∧ (f (2 * k + 1)).toInt ≤ 3) ∧
  (kd = 7 → pc ≤ 3 ∧ ∀ k : Nat, (k : Int) < pc → 0 ≤ (f k).toInt ∧ (f k).toInt ≤ 3)
def vLineS (g : gG) (gh : gGh) (R : gR) (a : Nat) : Prop := R a 7 = some (gh 3 a) ∧ gAr g (gh 3 a) 9 32 ∧ gh 9 (gh 3 a) = 2 ∧ gh 8 (gh 3 a) = a ∧ gO g (gh 4 a) 2 ∧ gh 5 a < 16
def vLineI (f : Nat → Int32) : Prop := 0 ≤ (f 0).toInt ∧ (f 0).toInt ≤ 8 ∧ 0 ≤ (f 2).toInt ∧ (f 2).toInt ≤ 9 ∧ -1 ≤ (f 3).toInt ∧ (f 3).toInt ≤ 15 ∧ -1 ≤ (f 4).toInt ∧ (f 4).toInt ≤ 15 ∧
  0 ≤ (f 5).toInt ∧ (f 5).toInt ≤ 4 ∧ 0 ≤ (f 6).toInt ∧ (f 6).toInt ≤ 4 ∧ 0 ≤ (f 8).toInt ∧ (f 8).toInt ≤ 8 ∧ 0 ≤ (f 9).toInt ∧ (f 9).toInt ≤ 3 ∧ 0 ≤ (f 10).toInt ∧ (f 10).toInt ≤ 3 ∧ 0 ≤ (f 12).toInt ∧ (f 12).toInt ≤ 3
def vLine (g : gG) (gh : gGh) (R : gR) (I AI : gI) : Prop := ∀ a, gO g a 0 → vLineS g gh R a ∧ vLineI (I a) ∧ okPart (I a 0).toInt (I a 8).toInt (AI (gh 3 a)) ∧ ((gh 5 a : Int) < (I (gh 4 a) 1).toInt → (I a 2).toInt ≤ 4)
def vPlan (g : gG) (gh : gGh) (R AR : gR) (I : gI) : Prop := ∀ a, gO g a 2 →
  (R a 0 = some (gh 6 a) ∧ gAr g (gh 6 a) 11 16 ∧ (∀ j : Nat, j < 16 → ∃ b, AR (gh 6 a) j = some b ∧ gO g b 0 ∧ gh 4 b = a ∧ gh 5 b = j) ∧ ∀ b, gO g b 0 → gh 4 b = a → AR (gh 6 a) (gh 5 b) = some b) ∧
  (0 ≤ (I a 1).toInt ∧ (I a 1).toInt ≤ 16 ∧ 0 ≤ (I a 2).toInt ∧ (I a 2).toInt ≤ 16)
/-- a row of Rows: n of them, of that limit and so many keys -/
def isRA (g : gG) (gh : gGh) (AR : gR) (b n lim key : Nat) : Prop := gAr g b 12 n ∧ ∀ j : Nat, j < n → ∃ r, AR b j = some r ∧ gO g r 4 ∧ gh 1 r = lim ∧ gh 2 r = key ∧ r ≠ gh 37 0
def isR1 (g : gG) (gh : gGh) (r lim key : Nat) : Prop := gO g r 4 ∧ gh 1 r = lim ∧ gh 2 r = key
/-- the one BagTree x: gh 20 .. name its parts -/
def vX (g : gG) (gh : gGh) (R AR : gR) (I : gI) : Prop := ∀ x, gO g x 6 →
  (R x 0 = some (gh 28 0) ∧ gAr g (gh 28 0) 8 936 ∧ gh 9 (gh 28 0) = 5) ∧ (R x 2 = some (gh 21 0) ∧ gO g (gh 21 0) 1) ∧ (∃ p, R x 3 = some p ∧ gO g p 2) ∧ (R x 4 = some (gh 23 0) ∧ gO g (gh 23 0) 3) ∧
  (∃ b, R x 5 = some b ∧ isRA g gh AR b 16 120 4) ∧ (∃ b, R x 6 = some b ∧ isRA g gh AR b 16 120 4) ∧ (R x 7 = some (gh 35 0) ∧ isRA g gh AR (gh 35 0) 16 240 4) ∧
  (R x 8 = some (gh 37 0) ∧ isR1 g gh (gh 37 0) 40 5) ∧ (R x 9 = some (gh 38 0) ∧ isR1 g gh (gh 38 0) 40 5) ∧ (R x 10 = some (gh 39 0) ∧ isR1 g gh (gh 39 0) 40 4) ∧ (R x 11 = some (gh 40 0) ∧ isR1 g gh (gh 40 0) 240 4) ∧
  (R x 12 = some (gh 29 0) ∧ gAr g (gh 29 0) 9 5 ∧ gh 9 (gh 29 0) = 0) ∧ (R x 13 = some (gh 36 0) ∧ isRA g gh AR (gh 36 0) 8 40 5) ∧
  (0 ≤ (I x 1).toInt ∧ (I x 1).toInt ≤ 936 ∧ 0 ≤ (I x 14).toInt ∧ (I x 14).toInt ≤ 7 ∧ 0 ≤ (I x 15).toInt ∧ (I x 15).toInt ≤ 8)
def vPr (g : gG) (gh : gGh) (R : gR) (I : gI) : Prop := ∀ a, gO g a 1 → (R a 0 = some (gh 22 0) ∧ gO g (gh 22 0) 5) ∧ (∃ q, R a 1 = some q ∧ gO g q 2) ∧ (∃ q, R a 2 = some q ∧ gO g q 0) ∧ (0 ≤ (I a 3).toInt ∧ (I a 3).toInt ≤ 900)
def vTk (g : gG) (gh : gGh) (R : gR) (I AI : gI) : Prop := ∀ a, gO g a 5 →
  (a = gh 22 0 ∧ R a 0 = some (gh 24 0) ∧ gAr g (gh 24 0) 9 901 ∧ gh 9 (gh 24 0) = 3) ∧ (R a 1 = some (gh 25 0) ∧ gAr g (gh 25 0) 9 901 ∧ gh 9 (gh 25 0) = 0) ∧ (R a 2 = some (gh 26 0) ∧ gAr g (gh 26 0) 9 901 ∧ gh 9 (gh 26 0) = 4) ∧ (R a 3 = some (gh 27 0) ∧ gAr g (gh 27 0) 10 901) ∧
  (0 ≤ (I a 4).toInt ∧ (I a 4).toInt ≤ 901) ∧ (∀ j : Nat, (j : Int) < (I a 4).toInt → (AI (gh 24 0) j).toInt = 2 → 0 ≤ (AI (gh 26 0) j).toInt ∧ (AI (gh 26 0) j).toInt ≤ 3)
def vRk (g : gG) (gh : gGh) (R : gR) : Prop := ∀ a, gO g a 3 → (R a 0 = some (gh 30 0) ∧ gAr g (gh 30 0) 9 5 ∧ gh 9 (gh 30 0) = 0) ∧ (R a 1 = some (gh 31 0) ∧ gAr g (gh 31 0) 9 8 ∧ gh 9 (gh 31 0) = 0) ∧ (R a 2 = some (gh 32 0) ∧ gAr g (gh 32 0) 9 480 ∧ gh 9 (gh 32 0) = 0)
/-- the other side is as gM says: no method of the class touches it -/
def vRM (g : gG) (gh : gGh) (R : gR) (I AI : gI) : Prop := vRk g gh R ∧ (∀ b, gO g b 7 → I b = (gM g).1 b) ∧ (∀ b, gh 9 b = 5 → AI b = (gM g).2 b) ∧
  (gh 42 0 = 1 → gO g (gh 37 0) 4 ∧ gh 2 (gh 37 0) = 5 ∧ I (gh 37 0) 3 = (gM g).1 (gh 37 0) 3 ∧ AI (gh 0 (gh 37 0)) = (gM g).2 (gh 0 (gh 37 0)))
theorem vRM_c {g : gG} {gh : gGh} {R : gR} {I I' AI AI' : gI} (h : vRM g gh R I AI) (e : ∀ b, gO g b 7 → I' b = I b) (e5 : ∀ b, gh 9 b = 5 → AI' b = AI b) (e4 : gO g (gh 37 0) 4 → gh 42 0 = 1 → gh 2 (gh 37 0) = 5 → I' (gh 37 0) 3 = I (gh 37 0) 3 ∧ AI' (gh 0 (gh 37 0)) = AI (gh 0 (gh 37 0))) : vRM g gh R I' AI' :=
  ⟨h.1, fun b hb => (e b hb).trans (h.2.1 b hb), fun b hb => (e5 b hb).trans (h.2.2.1 b hb), fun q => ⟨(h.2.2.2 q).1, (h.2.2.2 q).2.1, (e4 (h.2.2.2 q).1 q (h.2.2.2 q).2.1).1.trans (h.2.2.2 q).2.2.1, (e4 (h.2.2.2 q).1 q (h.2.2.2 q).2.1).2.trans (h.2.2.2 q).2.2.2⟩⟩
def gInv (g : gG) (gh : gGh) (R AR : gR) (I AI : gI) : Prop := vRows g gh R I ∧ vC5 g gh AI ∧ vLine g gh R I AI ∧ vPlan g gh R AR I ∧ vX g gh R AR I ∧ vPr g gh R I ∧ vTk g gh R I AI ∧ vRM g gh R I AI
theorem gO_ne {g : gG} {a b c d : Nat} (ha : gO g a c) (hb : gO g b d) (h : c ≠ d) : a ≠ b := fun q => h (by rw [← ha.2, ← hb.2, q])
theorem gO_ar {g : gG} {a b c d n : Nat} (ha : gO g a c) (hb : gAr g b d n) (h : c ≠ d) : a ≠ b := fun q => h (by rw [← ha.2, ← hb.2.1, q])
/-! each part looks at its own fields alone -/
theorem vRows_c {g : gG} {gh : gGh} {R : gR} {I I' : gI} (h : vRows g gh R I) (e : ∀ b, gO g b 4 → I' b = I b) : vRows g gh R I' := fun a ha => by rw [e a ha]; exact h a ha
theorem vC5_c {g : gG} {gh : gGh} {R : gR} {I AI AI' : gI} (h : vC5 g gh AI) (hr : vRows g gh R I) (e : ∀ b, gh 9 b = 1 → AI' b = AI b) : vC5 g gh AI' := fun a ha h5 => by rw [e _ (hr a ha).1.2.2.1]; exact h a ha h5
theorem vLine_c {g : gG} {gh : gGh} {R : gR} {I I' AI AI' : gI} (h : vLine g gh R I AI) (e : ∀ b, gO g b 0 → I' b = I b) (e2 : ∀ b, gO g b 2 → I' b 1 = I b 1) (e3 : ∀ b, gh 9 b = 2 → AI' b = AI b) : vLine g gh R I' AI' := fun a ha => by
  have q := h a ha
  rw [e a ha, e3 _ q.1.2.2.1, e2 _ q.1.2.2.2.2.1]
  exact q
theorem vPlan_c {g : gG} {gh : gGh} {R AR : gR} {I I' : gI} (h : vPlan g gh R AR I) (e : ∀ b, gO g b 2 → I' b = I b) : vPlan g gh R AR I' := fun a ha => by rw [e a ha]; exact h a ha
theorem vX_c {g : gG} {gh : gGh} {R AR : gR} {I I' : gI} (h : vX g gh R AR I) (e : ∀ b, gO g b 6 → I' b = I b) : vX g gh R AR I' := fun a ha => by rw [e a ha]; exact h a ha
theorem vPr_c {g : gG} {gh : gGh} {R : gR} {I I' : gI} (h : vPr g gh R I) (e : ∀ b, gO g b 1 → I' b = I b) : vPr g gh R I' := fun a ha => by rw [e a ha]; exact h a ha
theorem vTk_c {g : gG} {gh : gGh} {R : gR} {I I' AI AI' : gI} (h : vTk g gh R I AI) (e : ∀ b, gO g b 5 → I' b = I b) (e3 : ∀ b, gh 9 b = 3 → AI' b = AI b) (e4 : ∀ b, gh 9 b = 4 → AI' b = AI b) : vTk g gh R I' AI' := fun a ha => by
  have q := h a ha
  rw [e a ha, e3 _ q.1.2.2.2, e4 _ q.2.2.1.2.2]
  exact q
/-- an int field of an object of class c that no part looks at, or of which only one does -/
theorem gup2_o {I : gI} {g : gG} {a b c d k : Nat} {v : Int32} (ha : gO g a c) (hb : gO g b d) (h : d ≠ c) : gup2 I a k v b = I b := funext fun j => gup2_a _ _ (gO_ne hb ha h)
/-- an array of a part that no invariant looks at -/
theorem gInv_plain {g : gG} {gh : gGh} {R AR : gR} {I AI AI' : gI} (h : gInv g gh R AR I AI) {a : Nat} (ha : gh 9 a = 0) (e : ∀ b, b ≠ a → AI' b = AI b) : gInv g gh R AR I AI' := by
  obtain ⟨h1, h2, h3, h4, h5, h6, h7, h8⟩ := h
  have ne : ∀ b n, n ≠ 0 → gh 9 b = n → AI' b = AI b := fun b n hn hb => e b (fun q => hn (by rw [← hb, q, ha]))
  exact ⟨h1, vC5_c h2 h1 (fun b hb => ne b 1 (by decide) hb), vLine_c h3 (fun _ _ => rfl) (fun _ _ => rfl) (fun b hb => ne b 2 (by decide) hb), h4, h5, h6, vTk_c h7 (fun _ _ => rfl) (fun b hb => ne b 3 (by decide) hb) (fun b hb => ne b 4 (by decide) hb), vRM_c h8 (fun _ _ => rfl) (fun b hb => ne b 5 (by decide) hb) (fun hb _ _ => ⟨rfl, ne _ 1 (by decide) (h1 _ hb).1.2.2.1⟩)⟩
/-- the cells of a Rows -/
theorem gInv_cells {g : gG} {gh : gGh} {R AR : gR} {I AI AI' : gI} (h : gInv g gh R AR I AI) {a : Nat} (ha : gO g a 4) (e : ∀ b, b ≠ gh 0 a → AI' b = AI b)
    (h5 : gh 2 a = 5 → ∀ j : Nat, j < gh 1 a → 0 ≤ (AI' (gh 0 a) (6 * j)).toInt ∧ (AI' (gh 0 a) (6 * j)).toInt ≤ 15) (hfz : gh 2 a = 5 → gh 42 0 = 1 → a ≠ gh 37 0) : gInv g gh R AR I AI' := by
  obtain ⟨h1, h2, h3, h4, h5', h6, h7, h8⟩ := h
  have hr := (h1 a ha).1.2.2
  have ne : ∀ b n, n ≠ 1 → gh 9 b = n → AI' b = AI b := fun b n hn hb => e b (fun q => hn (by rw [← hb, q, hr.1]))
  refine ⟨h1, fun b hb hk j hj => ?_, vLine_c h3 (fun _ _ => rfl) (fun _ _ => rfl) (fun b hb => ne b 2 (by decide) hb), h4, h5', h6, vTk_c h7 (fun _ _ => rfl) (fun b hb => ne b 3 (by decide) hb) (fun b hb => ne b 4 (by decide) hb), vRM_c h8 (fun _ _ => rfl) (fun b hb => ne b 5 (by decide) hb) (fun hb q1 q2 => ⟨rfl, e _ (fun q => by
    have ea : gh 37 0 = a := by rw [← (h1 _ hb).1.2.2.2, q, hr.2]
    exact hfz (ea ▸ q2) q1 ea.symm)⟩)⟩
  by_cases hq : b = a
  · subst hq; exact h5 hk j hj
  · rw [e _ (fun q => hq (by rw [← (h1 b hb).1.2.2.2, q, hr.2]))]
    exact h2 b hb hk j hj
/-- the length of a Rows -/
theorem gInv_len {g : gG} {gh : gGh} {R AR : gR} {I AI : gI} (h : gInv g gh R AR I AI) {a : Nat} (ha : gO g a 4) {z : Int} (h0 : 0 ≤ z) (hz : z ≤ (gh 1 a : Int)) (hfz : gh 2 a = 5 → gh 42 0 = 1 → a ≠ gh 37 0) : gInv g gh R AR (gup2 I a 3 (iI z)) AI := by
  obtain ⟨h1, h2, h3, h4, h5, h6, h7, h8⟩ := h
  have hr := h1 a ha
  have nO : ∀ d, d ≠ 4 → ∀ b, gO g b d → gup2 I a 3 (iI z) b = I b := fun d hd b hb => gup2_o ha hb hd
  refine ⟨fun b hb => ?_, h2, vLine_c h3 (nO 0 (by decide)) (fun b hb => by rw [nO 2 (by decide) b hb]) (fun _ _ => rfl), vPlan_c h4 (nO 2 (by decide)), vX_c h5 (nO 6 (by decide)), vPr_c h6 (nO 1 (by decide)), vTk_c h7 (nO 5 (by decide)) (fun _ _ => rfl) (fun _ _ => rfl), vRM_c h8 (nO 7 (by decide)) (fun _ _ => rfl) (fun hb q1 q2 => ⟨gup2_a _ _ (fun ea => hfz (ea ▸ q2) q1 ea.symm), rfl⟩)⟩
  obtain ⟨q1, ⟨q2, q3, q4, q5⟩, q6⟩ := h1 b hb
  refine ⟨q1, ?_, q6⟩
  rw [gup2_k _ _ (by decide), gup2_k _ _ (by decide)]
  by_cases hq : b = a
  · subst hq
    rw [gup2_s, iI_val ⟨by omega, by omega⟩]
    exact ⟨q2, q3, h0, hz⟩
  · rw [gup2_a _ _ hq]
    exact ⟨q2, q3, q4, q5⟩
theorem gI_rows {g : gG} {gh : gGh} {R AR : gR} {I AI : gI} (h : gInv g gh R AR I AI) {a : Nat} (ha : gO g a 4) : (I a 0).toInt = (gh 2 a : Int) ∧ (I a 1).toInt = (gh 1 a : Int) ∧ 0 ≤ (I a 3).toInt ∧ (I a 3).toInt ≤ (gh 1 a : Int) ∧ 4 ≤ gh 2 a ∧ gh 2 a ≤ 5 ∧ 40 ≤ gh 1 a ∧ gh 1 a ≤ 240 := by
  have q := h.1 a ha
  refine ⟨q.2.1.1, q.2.1.2.1, q.2.1.2.2.1, q.2.1.2.2.2, ?_, ?_, q.2.2.2.1, q.2.2.2.2⟩
  · rcases q.2.2.1 with h | h <;> omega
  · rcases q.2.2.1 with h | h <;> omega
theorem gR_cells {g : gG} {gh : gGh} {R AR : gR} {I AI : gI} (h : gInv g gh R AR I AI) {a : Nat} (ha : gO g a 4) : R a 2 = some (gh 0 a) ∧ gAr g (gh 0 a) 9 (6 * gh 1 a) := ⟨(h.1 a ha).1.1, (h.1 a ha).1.2.1⟩
/-- the flag is down, or up where the batch is as told -/
def ghF (k : Nat) (gh : gGh) : gGh := fun a b => match a with
  | 42 => k
  | a => gh a b
theorem gInv_dn {g : gG} {gh : gGh} {R AR : gR} {I AI : gI} (h : gInv g gh R AR I AI) : gInv g (ghF 0 gh) R AR I AI := by
  obtain ⟨h1, h2, h3, h4, h5, h6, h7, h8⟩ := h
  exact ⟨h1, h2, h3, h4, h5, h6, h7, h8.1, h8.2.1, h8.2.2.1, fun q => absurd q (by show ¬ (0 : Nat) = 1; decide)⟩
theorem gInv_up {g : gG} {gh : gGh} {R AR : gR} {I AI : gI} (h : gInv g gh R AR I AI) (h37 : gO g (gh 37 0) 4 ∧ gh 2 (gh 37 0) = 5) (hB : I (gh 37 0) 3 = (gM g).1 (gh 37 0) 3 ∧ AI (gh 0 (gh 37 0)) = (gM g).2 (gh 0 (gh 37 0))) : gInv g (ghF 1 gh) R AR I AI := by
  obtain ⟨h1, h2, h3, h4, h5, h6, h7, h8⟩ := h
  exact ⟨h1, h2, h3, h4, h5, h6, h7, h8.1, h8.2.1, h8.2.2.1, fun _ => ⟨h37.1, h37.2, hB.1, hB.2⟩⟩
end
section
theorem cpy6 {f h : Nat → Int32} {P : Int32 → Prop} {sp dp n L L2 : Nat} (hs : sp % 6 = 0) (hd : dp % 6 = 0) (hb : sp + n ≤ 6 * L2) (hf : ∀ j : Nat, j < L2 → P (f (6 * j))) (hh : ∀ j : Nat, j < L → P (h (6 * j))) : ∀ j : Nat, j < L → P (va_cpy f h sp dp n (6 * j)) := by
  intro j hj
  unfold va_cpy
  split
  · rename_i q
    have e : sp + (6 * j - dp) = 6 * (sp / 6 + (j - dp / 6)) := by omega
    rw [e]
    exact hf _ (by omega)
  · exact hh j hj
theorem cpyK {f h : Nat → Int32} {P : Int32 → Prop} {dp n L : Nat} (hd : dp % 6 = 0) (hn : n ≤ 6) (hf : P (f 0)) (hh : ∀ j : Nat, j < L → P (h (6 * j))) : ∀ j : Nat, j < L → P (va_cpy f h 0 dp n (6 * j)) := by
  intro j hj
  unfold va_cpy
  split
  · rename_i q
    have e : 0 + (6 * j - dp) = 0 := by omega
    rw [e]
    exact hf
  · exact hh j hj
section RowsInv
variable {g : gG} {gh : gGh} {R AR : gR} {I AI : gI} {a : Nat}
theorem gInv_four {AI' : gI} (hv : gInv g gh R AR I AI) (ha : gO g a 4) (h4 : gh 2 a = 4) (e : ∀ b, b ≠ gh 0 a → AI' b = AI b) : gInv g gh R AR I AI' := gInv_cells hv ha e (fun h => absurd h (by omega)) (fun h => absurd h (by omega))
theorem gInv_cpyS (hv : gInv g gh R AR I AI) (ha : gO g a 4) {sp dp n : Int} (h1 : 0 ≤ sp ∧ sp % 6 = 0) (h2 : 0 ≤ dp ∧ dp % 6 = 0) (h3 : 0 ≤ n ∧ sp + n ≤ 6 * (gh 1 a : Int)) (hfz : gh 2 a = 5 → gh 42 0 = 1 → a ≠ gh 37 0) : gInv g gh R AR I (gup1 AI (gh 0 a) (va_cpy (AI (gh 0 a)) (AI (gh 0 a)) sp.toNat dp.toNat n.toNat)) :=
  gInv_cells hv ha (fun b hb => gup1_a _ _ hb) (fun h5 => by
    rw [gup1_s]
    exact cpy6 (P := fun x => 0 ≤ x.toInt ∧ x.toInt ≤ 15) (L2 := gh 1 a) (by omega) (by omega) (by omega) (hv.2.1 a ha h5) (hv.2.1 a ha h5)) hfz
theorem gInv_cpyO (hv : gInv g gh R AR I AI) (ha : gO g a 4) {b : Nat} (hb : gO g b 4) (h5 : gh 2 a = 5 → gh 2 b = 5) {sp dp n : Int} (h1 : 0 ≤ sp ∧ sp % 6 = 0) (h2 : 0 ≤ dp ∧ dp % 6 = 0) (h3 : 0 ≤ n ∧ sp + n ≤ 6 * (gh 1 b : Int)) (hfz : gh 2 a = 5 → gh 42 0 = 1 → a ≠ gh 37 0) : gInv g gh R AR I (gup1 AI (gh 0 a) (va_cpy (AI (gh 0 b)) (AI (gh 0 a)) sp.toNat dp.toNat n.toNat)) :=
  gInv_cells hv ha (fun b hb => gup1_a _ _ hb) (fun h => by
    rw [gup1_s]
    exact cpy6 (P := fun x => 0 ≤ x.toInt ∧ x.toInt ≤ 15) (L2 := gh 1 b) (by omega) (by omega) (by omega) (hv.2.1 b hb (h5 h)) (hv.2.1 a ha h)) hfz
theorem gInv_cpyK (hv : gInv g gh R AR I AI) (ha : gO g a 4) {k : Nat} (hk : gh 2 a = 5 → 0 ≤ (AI k 0).toInt ∧ (AI k 0).toInt ≤ 15) {dp n : Int} (h2 : 0 ≤ dp ∧ dp % 6 = 0) (h3 : 0 ≤ n ∧ n ≤ 6) (hfz : gh 2 a = 5 → gh 42 0 = 1 → a ≠ gh 37 0) : gInv g gh R AR I (gup1 AI (gh 0 a) (va_cpy (AI k) (AI (gh 0 a)) (0 : Int).toNat dp.toNat n.toNat)) :=
  gInv_cells hv ha (fun b hb => gup1_a _ _ hb) (fun h5 => by
    rw [gup1_s]
    exact cpyK (P := fun x => 0 ≤ x.toInt ∧ x.toInt ≤ 15) (by omega) (by omega) (hk h5) (hv.2.1 a ha h5)) hfz
theorem gInv_cell1 (hv : gInv g gh R AR I AI) (ha : gO g a 4) {ix : Int} {v : Int32} (h0 : 0 ≤ ix) (h : gh 2 a = 5 → ix % 6 ≠ 0) (hfz : gh 2 a = 5 → gh 42 0 = 1 → a ≠ gh 37 0) : gInv g gh R AR I (gup2 AI (gh 0 a) ix.toNat v) :=
  gInv_cells hv ha (fun b hb => funext fun j => gup2_a _ _ hb) (fun h5 j hj => by
    have := h h5
    rw [gup2_k _ _ (by omega)]
    exact hv.2.1 a ha h5 j hj) hfz
end RowsInv
end
