/-! numbers: every int of the walk is iI z with z : Int -/
def iI (z : Int) : Int32 := Int32.ofInt z
abbrev zr (z : Int) : Prop := -2147483648 ≤ z ∧ z ≤ 2147483647
theorem iI_self (x : Int32) : iI x.toInt = x := Int32.ofInt_toInt x
theorem iI_val {z : Int} (h : zr z) : (iI z).toInt = z := Int32.toInt_ofInt_of_le (by omega) (by omega)
theorem zr_t (x : Int32) : zr x.toInt := ⟨by have := Int32.le_toInt x; omega, by have := Int32.toInt_lt x; omega⟩
theorem iI_add (a b : Int) : iI a + iI b = iI (a + b) := (Int32.ofInt_add a b).symm
theorem iI_sub (a b : Int) : iI a - iI b = iI (a - b) := (Int32.ofInt_sub a b).symm
theorem iI_mul (a b : Int) : iI a * iI b = iI (a * b) := (Int32.ofInt_mul a b).symm
theorem iI_neg (a : Int) : -iI a = iI (-a) := (Int32.ofInt_neg a).symm
theorem iI_0 : iI 0 = 0 := rfl
theorem zr_0 : zr 0 := ⟨by decide, by decide⟩
theorem iI_le {a b : Int} (ha : zr a) (hb : zr b) : iI a ≤ iI b ↔ a ≤ b := by rw [Int32.le_iff_toInt_le, iI_val ha, iI_val hb]
theorem iI_lt {a b : Int} (ha : zr a) (hb : zr b) : iI a < iI b ↔ a < b := by rw [Int32.lt_iff_toInt_lt, iI_val ha, iI_val hb]
theorem iI_eq {a b : Int} (ha : zr a) (hb : zr b) : iI a = iI b ↔ a = b := by rw [← Int32.toInt_inj, iI_val ha, iI_val hb]
theorem iI_nat {z : Int} (h0 : 0 ≤ z) (h : z ≤ 2147483647) : (iI z).toNatClampNeg = z.toNat := by
  rw [← Int32.toNat_toInt, iI_val ⟨by omega, h⟩]
theorem iI_in {z : Int} {n : Nat} (h0 : 0 ≤ z) (h1 : z < (n : Int)) (h : z ≤ 2147483647) : vp_in (iI z) n := by
  rw [vp_in_iff, iI_val ⟨by omega, h⟩]
  exact ⟨h0, h1⟩
/-! the store: int, reference and long fields by address and place; arrays of ints (bytes), longs, references -/
def gup2 {α : Type} (f : Nat → Nat → α) (a k : Nat) (v : α) : Nat → Nat → α := fun b j => if b = a ∧ j = k then v else f b j
def gup1 {α : Type} (f : Nat → Nat → α) (a : Nat) (v : Nat → α) : Nat → Nat → α := fun b => if b = a then v else f b
theorem gup2_s {α : Type} (f : Nat → Nat → α) (a k : Nat) (v : α) : gup2 f a k v a k = v := if_pos ⟨rfl, rfl⟩
theorem gup2_k {α : Type} (f : Nat → Nat → α) {a k b j : Nat} (v : α) (h : j ≠ k) : gup2 f a k v b j = f b j := if_neg (fun q => h q.2)
theorem gup2_a {α : Type} (f : Nat → Nat → α) {a k b j : Nat} (v : α) (h : b ≠ a) : gup2 f a k v b j = f b j := if_neg (fun q => h q.1)
theorem gup1_s {α : Type} (f : Nat → Nat → α) (a : Nat) (v : Nat → α) : gup1 f a v a = v := if_pos rfl
theorem gup1_a {α : Type} (f : Nat → Nat → α) {a b : Nat} (v : Nat → α) (h : b ≠ a) : gup1 f a v b = f b := if_neg h
abbrev gI : Type := Nat → Nat → Int32
abbrev gG : Type := (va_G × (Nat → ClassId)) × ((Nat → Nat) × (Nat → Nat)) × (List Nat × Nat) × (gI × gI) × ((Nat → Nat) × (Nat → Nat))
abbrev gD (g : gG) : va_G := g.1.1
abbrev gY (g : gG) : Nat → ClassId := g.1.2
abbrev gK (g : gG) : Nat → Nat := g.2.1.1
abbrev gN (g : gG) : Nat → Nat := g.2.1.2
abbrev gL (g : gG) : List Nat := g.2.2.1.1
abbrev gZ (g : gG) : Nat := g.2.2.1.2
/-- what the other side's objects hold: int fields, int arrays -/
abbrev gM (g : gG) : gI × gI := g.2.2.2.1
/-- where the String constants lie, and their bytes -/
abbrev gSK (g : gG) : Nat → Nat := g.2.2.2.2.1
abbrev gSV (g : gG) : Nat → Nat := g.2.2.2.2.2
abbrev gR : Type := Nat → Nat → Option Nat
abbrev gJ : Type := Nat → Nat → Int64
abbrev gS : Type := gI × gR × gJ × gI × gJ × gR
/-- field kinds of a class by its number: 0 int, 1 long, 2 reference -/
def gft : Nat → List Nat
  | 0 => [0, 1, 0, 0, 0, 0, 0, 2, 0, 0, 0, 0, 0, 0, 0]
  | 1 => [2, 2, 2, 0]
  | 2 => [2, 0, 0]
  | 3 => [2, 2, 2]
  | 4 => [0, 0, 2, 0]
  | 5 => [2, 2, 2, 2, 0]
  | 6 => [2, 0, 2, 2, 2, 2, 2, 2, 2, 2, 2, 2, 2, 2, 0, 0, 0, 0]
  | _ => [2, 2, 0, 2, 2, 0, 2, 2, 0, 0, 0, 2, 2, 2, 0, 2, 0, 0, 0, 0, 0, 0, 1, 0, 0, 2, 0, 2, 2, 2, 2, 2]
def gV (I : gI) (R : gR) (J : gJ) (a k t : Nat) : Value := match t with
  | 0 => .int (I a k)
  | 1 => .long (J a k)
  | _ => va_rf (R a k)
def gFs (I : gI) (R : gR) (J : gJ) (a : Nat) (ts : List Nat) : List Value := ts.mapIdx (fun k t => gV I R J a k t)
def gX (k : Nat) (x : Nat → Int32) (y : Nat → Int64) (z : Nat → Option Nat) : (Nat → Int32) ⊕ (Nat → Int64) ⊕ (Nat → UInt32) ⊕ (Nat → UInt64) ⊕ (Nat → Option Nat) :=
  if k < 10 then .inl x else if k = 10 then .inr (.inl y) else .inr (.inr (.inr (.inr z)))
def gE (g : gG) (I : gI) (R : gR) (J : gJ) (AI : gI) (AJ : gJ) (AR : gR) (a : Nat) : va_E :=
  if gK g a < 8 then .inr (gK g a, gFs I R J a (gft (gK g a))) else .inl (gY g (gK g a), gN g a, gX (gK g a) (AI a) (AJ a) (AR a))
def gA (g : gG) : Nat → Prop := fun q => gZ g ≤ q
def gH (g : gG) (I : gI) (R : gR) (J : gJ) (AI : gI) (AJ : gJ) (AR : gR) (H : Heap) : Prop :=
  va_P (gD g) vwCl (va_pl (gL g) (gE g I R J AI AJ AR)) H ∧ va_D (gA g) (va_pl (gL g) (gE g I R J AI AJ AR))
def gT (g : gG) : List (ClassId × FieldType) := [(gY g 8, .byte), (gY g 9, .int), (gY g 10, .long), (gY g 11, .object RX0), (gY g 12, .object RX4)]
/-- an object of class c; an array of kind c with n places -/
def gO (g : gG) (a c : Nat) : Prop := a ∈ gL g ∧ gK g a = c
def gAr (g : gG) (a c n : Nat) : Prop := a ∈ gL g ∧ gK g a = c ∧ gN g a = n
def sTab : List (String × Nat × String × List Int32) := [
  ("BagTree$Tokens", 63, "table select project join union minus distinct group ring view where and on by with keep count sum least most ", [116, 97, 98, 108, 101, 32, 115, 101, 108, 101, 99, 116, 32, 112, 114, 111, 106, 101, 99, 116, 32, 106, 111, 105, 110, 32, 117, 110, 105, 111, 110, 32, 109, 105, 110, 117, 115, 32, 100, 105, 115, 116, 105, 110, 99, 116, 32, 103, 114, 111, 117, 112, 32, 114, 105, 110, 103, 32, 118, 105, 101, 119, 32, 119, 104, 101, 114, 101, 32, 97, 110, 100, 32, 111, 110, 32, 98, 121, 32, 119, 105, 116, 104, 32, 107, 101, 101, 112, 32, 99, 111, 117, 110, 116, 32, 115, 117, 109, 32, 108, 101, 97, 115, 116, 32, 109, 111, 115, 116, 32]),
  ("BagTree$Tokens", 37, "=<>+-,;", [61, 60, 62, 43, 45, 44, 59]),
  ("BagTree", 134, "no such change", [110, 111, 32, 115, 117, 99, 104, 32, 99, 104, 97, 110, 103, 101]),
  ("BagTree", 143, "no such column", [110, 111, 32, 115, 117, 99, 104, 32, 99, 111, 108, 117, 109, 110]),
  ("BagTree", 203, "no such relation", [110, 111, 32, 115, 117, 99, 104, 32, 114, 101, 108, 97, 116, 105, 111, 110]),
  ("BagTree", 209, "no such tuple", [110, 111, 32, 115, 117, 99, 104, 32, 116, 117, 112, 108, 101]),
  ("BagTree", 218, "no tuples", [110, 111, 32, 116, 117, 112, 108, 101, 115]),
  ("BagTreeModel", 144, "table", [116, 97, 98, 108, 101]),
  ("BagTreeModel", 146, "view", [118, 105, 101, 119]),
  ("BagTreeModel", 148, "select", [115, 101, 108, 101, 99, 116]),
  ("BagTreeModel", 150, "where", [119, 104, 101, 114, 101]),
  ("BagTreeModel", 152, "and", [97, 110, 100]),
  ("BagTreeModel", 154, "project", [112, 114, 111, 106, 101, 99, 116]),
  ("BagTreeModel", 156, "join", [106, 111, 105, 110]),
  ("BagTreeModel", 158, "on", [111, 110]),
  ("BagTreeModel", 160, "union", [117, 110, 105, 111, 110]),
  ("BagTreeModel", 162, "minus", [109, 105, 110, 117, 115]),
  ("BagTreeModel", 164, "distinct", [100, 105, 115, 116, 105, 110, 99, 116]),
  ("BagTreeModel", 166, "group", [103, 114, 111, 117, 112]),
  ("BagTreeModel", 168, "by", [98, 121]),
  ("BagTreeModel", 170, "count", [99, 111, 117, 110, 116]),
  ("BagTreeModel", 172, "sum", [115, 117, 109]),
  ("BagTreeModel", 174, "least", [108, 101, 97, 115, 116]),
  ("BagTreeModel", 176, "most", [109, 111, 115, 116]),
  ("BagTreeModel", 178, "ring", [114, 105, 110, 103]),
  ("BagTreeModel", 180, "with", [119, 105, 116, 104]),
  ("BagTreeModel", 182, "keep", [107, 101, 101, 112])]
def sS1 (bs : List Int32) (k v : Nat) (A : Nat → Prop) (U : State) (H : Heap) : Prop := va_O "java/lang/String" k A U H ∧ va_OF "java/lang/String" "coder" "B" (.int (iI 0)) k A U H ∧ va_OF "java/lang/String" "value" "[B" (.ref v) k A U H ∧ va_T .byte v bs.length (fun j => .int (bs.getD j 0)) A U H
theorem sS1_mv {bs : List Int32} {k v : Nat} {A : Nat → Prop} {u U : State} {H H1 : Heap} (h : sS1 bs k v A u H) (hvm : u.vm.Alike U.vm) (hq : ∀ a : Nat, a < H.size → ¬ A a → H1[a]? = H[a]?) : sS1 bs k v A U H1 :=
  ⟨(va_O.moved hvm h.1).kept hq, (va_OF.moved hvm h.2.1).kept hq, (va_OF.moved hvm h.2.2.1).kept hq, (va_T.moved hvm h.2.2.2).kept hq⟩
/-- the String constants and the two statics that their methods read -/
def gStr (g : gG) (U : State) : Prop := (∀ (i : Nat) (q : String × Nat × String × List Int32), sTab[i]? = some q → vk_R q.1 q.2.1 q.2.2.1 (gSK g i) U ∧ sS1 q.2.2.2 (gSK g i) (gSV g i) (gA g) U U.heap) ∧
  va_Z "java/lang/String" "COMPACT_STRINGS" "Z" (.int (iI 1)) (gA g) U U.heap ∧ va_Zq "jdk/internal/util/Preconditions" "SIOOBE_FORMATTER" "Ljava/util/function/BiFunction;" (gA g) U U.heap
theorem gStr_mv {g : gG} {s U : State} (h : gStr g s) (hW : s.WarmedH U.vm) (hq : ∀ a : Nat, a < s.heap.size → ¬ gA g a → U.heap[a]? = s.heap[a]?) : gStr g U :=
  ⟨fun i q hi => ⟨vk_R.warm hW (h.1 i q hi).1, sS1_mv (h.1 i q hi).2 hW.alike hq⟩, (va_Z.moved hW.alike h.2.1).kept hq, (va_Zq.moved hW.alike h.2.2).kept hq⟩
theorem gStr_same {g : gG} {s U : State} (h : gStr g s) (hv : U.vm = s.vm) (hh : U.heap = s.heap) : gStr g U := by
  have ha : s.vm.Alike U.vm := by rw [hv]; exact Vm.Alike.refl _
  exact ⟨fun i q hi => ⟨vk_R.same hv (h.1 i q hi).1, sS1_mv (h.1 i q hi).2 ha (fun a _ _ => by rw [hh])⟩, (va_Z.moved ha h.2.1).kept (fun a _ _ => by rw [hh]), (va_Zq.moved ha h.2.2).kept (fun a _ _ => by rw [hh])⟩
/-- what is fixed in a method's walk -/
def gFix (g : gG) (p : Program) (c : Code) (cc : ByteArray) (nL : Nat) (s : State) (args : Array Value) (Ts : List Cond) (own : String) (m : MethodId) : Prop :=
  p.tables.exec = Jvm.exec ∧ c.code = cc ∧ c.maxLocals = nL ∧ s.vm.findClass own = some m.cls ∧ (∀ w ∈ Ts, w.before args s = true) ∧ va_K (gD g) vwCl (gT g) s ∧ gStr g s
theorem gFs_get {I : gI} {R : gR} {J : gJ} {a k t : Nat} {ts : List Nat} (h : ts[k]? = some t) : (gFs I R J a ts)[k]? = some (gV I R J a k t) := by
  unfold gFs
  rw [List.getElem?_mapIdx, h]
  rfl
theorem gFs_set {I I' : gI} {R R' : gR} {J J' : gJ} {a k t : Nat} {ts : List Nat} {v : Value} (h : ts[k]? = some t) (hv : gV I' R' J' a k t = v) (ho : ∀ j t', j ≠ k → gV I' R' J' a j t' = gV I R J a j t') :
    gFs I' R' J' a ts = (gFs I R J a ts).set k v := by
  apply List.ext_getElem?
  intro j
  have hlt : k < ts.length := (List.getElem?_eq_some_iff.mp h).1
  rw [List.getElem?_set]
  by_cases hj : k = j
  · subst hj
    rw [if_pos rfl, if_pos (by unfold gFs; rw [List.length_mapIdx]; exact hlt), gFs_get h, hv]
  · rw [if_neg hj]
    unfold gFs
    rw [List.getElem?_mapIdx, List.getElem?_mapIdx]
    cases ts[j]? with
    | none => rfl
    | some t' => exact congrArg some (ho j t' (fun q => hj q.symm))
theorem gE_obj {g : gG} {I : gI} {R : gR} {J : gJ} {AI : gI} {AJ : gJ} {AR : gR} {a c : Nat} (h : gK g a = c) (hc : c < 8) : gE g I R J AI AJ AR a = .inr (c, gFs I R J a (gft c)) := by
  unfold gE
  rw [h, if_pos hc]
theorem gE_arr {g : gG} {I : gI} {R : gR} {J : gJ} {AI : gI} {AJ : gJ} {AR : gR} {a c n : Nat} (h : gK g a = c) (hn : gN g a = n) (hc : ¬ c < 8) : gE g I R J AI AJ AR a = .inl (gY g c, n, gX c (AI a) (AJ a) (AR a)) := by
  unfold gE
  rw [h, hn, if_neg hc]
theorem g_at {g : gG} {I : gI} {R : gR} {J : gJ} {AI : gI} {AJ : gJ} {AR : gR} {a : Nat} (h : a ∈ gL g) : ∃ k : Nat, (va_pl (gL g) (gE g I R J AI AJ AR))[k]? = some (a, gE g I R J AI AJ AR a) := by
  obtain ⟨k, hk⟩ := va_pl_get (X := []) (f := gE g I R J AI AJ AR) h
  exact ⟨k, hk⟩
theorem g_set {g : gG} {f f' : Nat → va_E} {A : Nat → Prop} {a k : Nat} {e : va_E} (hD : va_D A (va_pl (gL g) f)) (h : a ∈ gL g) (hk : (va_pl (gL g) f)[k]? = some (a, f a)) (he : f' a = e) (ho : ∀ b, b ≠ a → f' b = f b) :
    (va_pl (gL g) f).set k (a, e) = va_pl (gL g) f' := by
  have h1 := va_pl_set (X := []) (e := e) hD h hk
  refine h1.trans (va_pl_congr fun b => ?_)
  by_cases hb : b = a
  · subst hb
    rw [va_up_self, he]
  · rw [va_up_ne _ _ hb, ho b hb]
section GRows
variable {g : gG} {I : gI} {R : gR} {J : gJ} {AI : gI} {AJ : gJ} {AR : gR}
variable {p : Program} {l : Launch} {e : Env} {Rm : Room} {s : State} {m : MethodId} {args : Array Value} {below : List Frame} {meth : Method} {c : Code} {H : Heap} {locs : List Loc} {cells slots : Nat} {Q : State → Prop}
variable {cc : ByteArray} {pc nL : Nat} {ls : Array Slot} {rest : List Value} {a : Nat} {H0 : Heap} {Ts : List Cond} {own : String}
theorem z_iconst (F : gFix g p c cc nL s args Ts own m) {n : Int} (hdg : decode cc pc = .ok (.iconst n, 1)) (k : W p l e Rm s m args below meth c H locs cells slots Q (F0 m (pc + 1) ls (.int (iI n) :: rest))) : W p l e Rm s m args below meth c H locs cells slots Q (F0 m pc ls rest) :=
  lv_iconst (v := iI n) F.1 F.2.1 hdg rfl k
theorem z_bipush (F : gFix g p c cc nL s args Ts own m) {n : Int} (hdg : decode cc pc = .ok (.bipush n, 2)) (hv : (Int8.ofInt n).toInt32 = iI n) (k : W p l e Rm s m args below meth c H locs cells slots Q (F0 m (pc + 2) ls (.int (iI n) :: rest))) : W p l e Rm s m args below meth c H locs cells slots Q (F0 m pc ls rest) :=
  lv_bipush F.1 F.2.1 hdg hv k
theorem z_sipush (F : gFix g p c cc nL s args Ts own m) {n : Int} (hdg : decode cc pc = .ok (.sipush n, 3)) (hv : (Int16.ofInt n).toInt32 = iI n) (k : W p l e Rm s m args below meth c H locs cells slots Q (F0 m (pc + 3) ls (.int (iI n) :: rest))) : W p l e Rm s m args below meth c H locs cells slots Q (F0 m pc ls rest) :=
  lv_sipush F.1 F.2.1 hdg hv k
theorem z_iadd (F : gFix g p c cc nL s args Ts own m) {x y : Int} (hdg : decode cc pc = .ok (.iadd, 1)) (k : W p l e Rm s m args below meth c H locs cells slots Q (F0 m (pc + 1) ls (.int (iI (x + y)) :: rest))) : W p l e Rm s m args below meth c H locs cells slots Q (F0 m pc ls (.int (iI y) :: .int (iI x) :: rest)) :=
  lv_iadd F.1 F.2.1 hdg (by rw [iI_add]; exact k)
theorem z_isub (F : gFix g p c cc nL s args Ts own m) {x y : Int} (hdg : decode cc pc = .ok (.isub, 1)) (k : W p l e Rm s m args below meth c H locs cells slots Q (F0 m (pc + 1) ls (.int (iI (x - y)) :: rest))) : W p l e Rm s m args below meth c H locs cells slots Q (F0 m pc ls (.int (iI y) :: .int (iI x) :: rest)) :=
  lv_isub F.1 F.2.1 hdg (by rw [iI_sub]; exact k)
theorem z_imul (F : gFix g p c cc nL s args Ts own m) {x y : Int} (hdg : decode cc pc = .ok (.imul, 1)) (k : W p l e Rm s m args below meth c H locs cells slots Q (F0 m (pc + 1) ls (.int (iI (x * y)) :: rest))) : W p l e Rm s m args below meth c H locs cells slots Q (F0 m pc ls (.int (iI y) :: .int (iI x) :: rest)) :=
  lv_imul F.1 F.2.1 hdg (by rw [iI_mul]; exact k)
theorem z_ineg (F : gFix g p c cc nL s args Ts own m) {x : Int} (hdg : decode cc pc = .ok (.ineg, 1)) (k : W p l e Rm s m args below meth c H locs cells slots Q (F0 m (pc + 1) ls (.int (iI (-x)) :: rest))) : W p l e Rm s m args below meth c H locs cells slots Q (F0 m pc ls (.int (iI x) :: rest)) :=
  lv_ineg F.1 F.2.1 hdg (by rw [iI_neg]; exact k)
/-- any int on the top, by a number of its own -/
theorem z_top {x : Int32} (k : ∀ z : Int, zr z → z = x.toInt → W p l e Rm s m args below meth c H locs cells slots Q (F0 m pc ls (.int (iI z) :: rest))) : W p l e Rm s m args below meth c H locs cells slots Q (F0 m pc ls (.int x :: rest)) := by
  have h := k x.toInt (zr_t x) rfl
  rwa [iI_self] at h
end GRows
