section
/-! numbers: every int of the walk is iI z with z : Int -/
def iI (z : Int) : Int32 := Int32.ofInt z
abbrev zr (z : Int) : Prop := -2147483648 ≤ z ∧ z ≤ 2147483647
theorem iI_self (x : Int32) : iI x.toInt = x := sorry
theorem iI_val {z : Int} (h : zr z) : (iI z).toInt = z := sorry
theorem zr_t (x : Int32) : zr x.toInt := sorry
theorem iI_add (a b : Int) : iI a + iI b = iI (a + b) := sorry
theorem iI_sub (a b : Int) : iI a - iI b = iI (a - b) := sorry
theorem iI_mul (a b : Int) : iI a * iI b = iI (a * b) := sorry
theorem iI_neg (a : Int) : -iI a = iI (-a) := sorry
theorem iI_0 : iI 0 = 0 := sorry
theorem zr_0 : zr 0 := sorry
theorem iI_le {a b : Int} (ha : zr a) (hb : zr b) : iI a ≤ iI b ↔ a ≤ b := sorry
theorem iI_lt {a b : Int} (ha : zr a) (hb : zr b) : iI a < iI b ↔ a < b := sorry
theorem iI_eq {a b : Int} (ha : zr a) (hb : zr b) : iI a = iI b ↔ a = b := sorry
theorem iI_nat {z : Int} (h0 : 0 ≤ z) (h : z ≤ 2147483647) : (iI z).toNatClampNeg = z.toNat := sorry
theorem iI_in {z : Int} {n : Nat} (h0 : 0 ≤ z) (h1 : z < (n : Int)) (h : z ≤ 2147483647) : vp_in (iI z) n := sorry
/-! the store: int, reference and long fields by address and place; arrays of ints (bytes), longs, references -/
def gup2 {α : Type} (f : Nat → Nat → α) (a k : Nat) (v : α) : Nat → Nat → α := fun b j => if b = a ∧ j = k then v else f b j
def gup1 {α : Type} (f : Nat → Nat → α) (a : Nat) (v : Nat → α) : Nat → Nat → α := fun b => if b = a then v else f b
theorem gup2_s {α : Type} (f : Nat → Nat → α) (a k : Nat) (v : α) : gup2 f a k v a k = v := sorry
theorem gup2_k {α : Type} (f : Nat → Nat → α) {a k b j : Nat} (v : α) (h : j ≠ k) : gup2 f a k v b j = f b j := sorry
theorem gup2_a {α : Type} (f : Nat → Nat → α) {a k b j : Nat} (v : α) (h : b ≠ a) : gup2 f a k v b j = f b j := sorry
theorem gup1_s {α : Type} (f : Nat → Nat → α) (a : Nat) (v : Nat → α) : gup1 f a v a = v := sorry
theorem gup1_a {α : Type} (f : Nat → Nat → α) {a b : Nat} (v : Nat → α) (h : b ≠ a) : gup1 f a v b = f b := sorry
abbrev gI : Type := Nat → Nat → Int32
abbrev gG : Type := (va_G × (Nat → ClassId)) × ((Nat → Nat) × (Nat → Nat)) × (List Nat × Nat) × (gI × gI) × ((Nat → Nat) × (Nat → Nat))
abbrev gD (g : gG) : va_G := g.1.1
abbrev gY (g : gG) : Nat → ClassId := g.1.2
abbrev gK (g : gG) : Nat → Nat := g.2.1.1
abbrev gN (g : gG) : Nat → Nat := g.2.1.2
abbrev gL (g : gG) : List Nat := g.2.2.1.1
abbrev gZ (g : gG) : Nat := g.2.2.1.2
/-- what the other side's objects hold: int fields, int arrays -/
abbrev gM (g : gG) : gI × gI := g.2.2.2.1
/-- where the String constants lie, and their bytes -/
abbrev gSK (g : gG) : Nat → Nat := g.2.2.2.2.1
abbrev gSV (g : gG) : Nat → Nat := g.2.2.2.2.2
abbrev gR : Type := Nat → Nat → Option Nat
abbrev gJ : Type := Nat → Nat → Int64
abbrev gS : Type := gI × gR × gJ × gI × gJ × gR
/-- field kinds of a class by its number: 0 int, 1 long, 2 reference -/
def gft : Nat → List Nat
  | 0 => [0, 1, 0, 0, 0, 0, 0, 2, 0, 0, 0, 0, 0, 0, 0]
  | 1 => [2, 2, 2, 0]
  | 2 => [2, 0, 0]
  | 3 => [2, 2, 2]
  | 4 => [0, 0, 2, 0]
  | 5 => [2, 2, 2, 2, 0]
  | 6 => [2, 0, 2, 2, 2, 2, 2, 2, 2, 2, 2, 2, 2, 2, 0, 0, 0, 0]
  | _ => [2, 2, 0, 2, 2, 0, 2, 2, 0, 0, 0, 2, 2, 2, 0, 2, 0, 0, 0, 0, 0, 0, 1, 0, 0, 2, 0, 2, 2, 2, 2, 2]
def gV (I : gI) (R : gR) (J : gJ) (a k t : Nat) : Value := match t with
  | 0 => .int (I a k)
  | 1 => .long (J a k)
  | _ => va_rf (R a k)
def gFs (I : gI) (R : gR) (J : gJ) (a : Nat) (ts : List Nat) : List Value := ts.mapIdx (fun k t => gV I R J a k t)
def gX (k : Nat) (x : Nat → Int32) (y : Nat → Int64) (z : Nat → Option Nat) : (Nat → Int32) ⊕ (Nat → Int64) ⊕ (Nat → UInt32) ⊕ (Nat → UInt64) ⊕ (Nat → Option Nat) :=
  if k < 10 then .inl x else if k = 10 then .inr (.inl y) else .inr (.inr (.inr (.inr z)))
def gE (g : gG) (I : gI) (R : gR) (J : gJ) (AI : gI) (AJ : gJ) (AR : gR) (a : Nat) : va_E :=
  if gK g a < 8 then .inr (gK g a, gFs I R J a (gft (gK g a))) else .inl (gY g (gK g a), gN g a, gX (gK g a) (AI a) (AJ a) (AR a))
def gA (g : gG) : Nat → Prop := fun q => gZ g ≤ q
def gH (g : gG) (I : gI) (R : gR) (J : gJ) (AI : gI) (AJ : gJ) (AR : gR) (H : Heap) : Prop :=
  va_P (gD g) vwCl (va_pl (gL g) (gE g I R J AI AJ AR)) H ∧ va_D (gA g) (va_pl (gL g) (gE g I R J AI AJ AR))
def gT (g : gG) : List (ClassId × FieldType) := [(gY g 8, .byte), (gY g 9, .int), (gY g 10, .long), (gY g 11, .object RX0), (gY g 12, .object RX4)]
/-- an object of class c; an array of kind c with n places -/
def gO (g : gG) (a c : Nat) : Prop := a ∈ gL g ∧ gK g a = c
def gAr (g : gG) (a c n : Nat) : Prop := a ∈ gL g ∧ gK g a = c ∧ gN g a = n
def sTab : List (String × Nat × String × List Int32) := [
  ("BagTree$Tokens", 63, "table select project join union minus distinct group ring view where and on by with keep count sum least most ", [116, 97, 98, 108, 101, 32, 115, 101, 108, 101, 99, 116, 32, 112, 114, 111, 106, 101, 99, 116, 32, 106, 111, 105, 110, 32, 117, 110, 105, 111, 110, 32, 109, 105, 110, 117, 115, 32, 100, 105, 115, 116, 105, 110, 99, 116, 32, 103, 114, 111, 117, 112, 32, 114, 105, 110, 103, 32, 118, 105, 101, 119, 32, 119, 104, 101, 114, 101, 32, 97, 110, 100, 32, 111, 110, 32, 98, 121, 32, 119, 105, 116, 104, 32, 107, 101, 101, 112, 32, 99, 111, 117, 110, 116, 32, 115, 117, 109, 32, 108, 101, 97, 115, 116, 32, 109, 111, 115, 116, 32]),
  ("BagTree$Tokens", 37, "=<>+-,;", [61, 60, 62, 43, 45, 44, 59]),
  ("BagTree", 134, "no such change", [110, 111, 32, 115, 117, 99, 104, 32, 99, 104, 97, 110, 103, 101]),
  ("BagTree", 143, "no such column", [110, 111, 32, 115, 117, 99, 104, 32, 99, 111, 108, 117, 109, 110]),
  ("BagTree", 203, "no such relation", [110, 111, 32, 115, 117, 99, 104, 32, 114, 101, 108, 97, 116, 105, 111, 110]),
  ("BagTree", 209, "no such tuple", [110, 111, 32, 115, 117, 99, 104, 32, 116, 117, 112, 108, 101]),
  ("BagTree", 218, "no tuples", [110, 111, 32, 116, 117, 112, 108, 101, 115]),
  ("BagTreeModel", 144, "table", [116, 97, 98, 108, 101]),
  ("BagTreeModel", 146, "view", [118, 105, 101, 119]),
  ("BagTreeModel", 148, "select", [115, 101, 108, 101, 99, 116]),
  ("BagTreeModel", 150, "where", [119, 104, 101, 114, 101]),
  ("BagTreeModel", 152, "and", [97, 110, 100]),
  ("BagTreeModel", 154, "project", [112, 114, 111, 106, 101, 99, 116]),
  ("BagTreeModel", 156, "join", [106, 111, 105, 110]),
  ("BagTreeModel", 158, "on", [111, 110]),
  ("BagTreeModel", 160, "union", [117, 110, 105, 111, 110]),
  ("BagTreeModel", 162, "minus", [109, 105, 110, 117, 115]),
  ("BagTreeModel", 164, "distinct", [100, 105, 115, 116, 105, 110, 99, 116]),
  ("BagTreeModel", 166, "group", [103, 114, 111, 117, 112]),
  ("BagTreeModel", 168, "by", [98, 121]),
  ("BagTreeModel", 170, "count", [99, 111, 117, 110, 116]),
  ("BagTreeModel", 172, "sum", [115, 117, 109]),
  ("BagTreeModel", 174, "least", [108, 101, 97, 115, 116]),
  ("BagTreeModel", 176, "most", [109, 111, 115, 116]),
  ("BagTreeModel", 178, "ring", [114, 105, 110, 103]),
  ("BagTreeModel", 180, "with", [119, 105, 116, 104]),
  ("BagTreeModel", 182, "keep", [107, 101, 101, 112])]
def sS1 (bs : List Int32) (k v : Nat) (A : Nat → Prop) (U : State) (H : Heap) : Prop := va_O "java/lang/String" k A U H ∧ va_OF "java/lang/String" "coder" "B" (.int (iI 0)) k A U H ∧ va_OF "java/lang/String" "value" "[B" (.ref v) k A U H ∧ va_T .byte v bs.length (fun j => .int (bs.getD j 0)) A U H
theorem sS1_mv {bs : List Int32} {k v : Nat} {A : Nat → Prop} {u U : State} {H H1 : Heap} (h : sS1 bs k v A u H) (hvm : u.vm.Alike U.vm) (hq : ∀ a : Nat, a < H.size → ¬ A a → H1[a]? = H[a]?) : sS1 bs k v A U H1 := sorry
/-- the String constants and the two statics that their methods read -/
def gStr (g : gG) (U : State) : Prop := (∀ (i : Nat) (q : String × Nat × String × List Int32), sTab[i]? = some q → vk_R q.1 q.2.1 q.2.2.1 (gSK g i) U ∧ sS1 q.2.2.2 (gSK g i) (gSV g i) (gA g) U U.heap) ∧
  va_Z "java/lang/String" "COMPACT_STRINGS" "Z" (.int (iI 1)) (gA g) U U.heap ∧ va_Zq "jdk/internal/util/Preconditions" "SIOOBE_FORMATTER" "Ljava/util/function/BiFunction;" (gA g) U U.heap
theorem gStr_mv {g : gG} {s U : State} (h : gStr g s) (hW : s.WarmedH U.vm) (hq : ∀ a : Nat, a < s.heap.size → ¬ gA g a → U.heap[a]? = s.heap[a]?) : gStr g U := sorry
theorem gStr_same {g : gG} {s U : State} (h : gStr g s) (hv : U.vm = s.vm) (hh : U.heap = s.heap) : gStr g U := sorry
/-- what is fixed in a method's walk -/
def gFix (g : gG) (p : Program) (c : Code) (cc : ByteArray) (nL : Nat) (s : State) (args : Array Value) (Ts : List Cond) (own : String) (m : MethodId) : Prop :=
  p.tables.exec = Jvm.exec ∧ c.code = cc ∧ c.maxLocals = nL ∧ s.vm.findClass own = some m.cls ∧ (∀ w ∈ Ts, w.before args s = true) ∧ va_K (gD g) vwCl (gT g) s ∧ gStr g s
theorem gFs_get {I : gI} {R : gR} {J : gJ} {a k t : Nat} {ts : List Nat} (h : ts[k]? = some t) : (gFs I R J a ts)[k]? = some (gV I R J a k t) := sorry
theorem gFs_set {I I' : gI} {R R' : gR} {J J' : gJ} {a k t : Nat} {ts : List Nat} {v : Value} (h : ts[k]? = some t) (hv : gV I' R' J' a k t = v) (ho : ∀ j t', j ≠ k → gV I' R' J' a j t' = gV I R J a j t') :
    gFs I' R' J' a ts = (gFs I R J a ts).set k v := sorry
theorem gE_obj {g : gG} {I : gI} {R : gR} {J : gJ} {AI : gI} {AJ : gJ} {AR : gR} {a c : Nat} (h : gK g a = c) (hc : c < 8) : gE g I R J AI AJ AR a = .inr (c, gFs I R J a (gft c)) := sorry
theorem gE_arr {g : gG} {I : gI} {R : gR} {J : gJ} {AI : gI} {AJ : gJ} {AR : gR} {a c n : Nat} (h : gK g a = c) (hn : gN g a = n) (hc : ¬ c < 8) : gE g I R J AI AJ AR a = .inl (gY g c, n, gX c (AI a) (AJ a) (AR a)) := sorry
theorem g_at {g : gG} {I : gI} {R : gR} {J : gJ} {AI : gI} {AJ : gJ} {AR : gR} {a : Nat} (h : a ∈ gL g) : ∃ k : Nat, (va_pl (gL g) (gE g I R J AI AJ AR))[k]? = some (a, gE g I R J AI AJ AR a) := sorry
theorem g_set {g : gG} {f f' : Nat → va_E} {A : Nat → Prop} {a k : Nat} {e : va_E} (hD : va_D A (va_pl (gL g) f)) (h : a ∈ gL g) (hk : (va_pl (gL g) f)[k]? = some (a, f a)) (he : f' a = e) (ho : ∀ b, b ≠ a → f' b = f b) :
    (va_pl (gL g) f).set k (a, e) = va_pl (gL g) f' := sorry
section GRows
variable {g : gG} {I : gI} {R : gR} {J : gJ} {AI : gI} {AJ : gJ} {AR : gR}
variable {p : Program} {l : Launch} {e : Env} {Rm : Room} {s : State} {m : MethodId} {args : Array Value} {below : List Frame} {meth : Method} {c : Code} {H : Heap} {locs : List Loc} {cells slots : Nat} {Q : State → Prop}
variable {cc : ByteArray} {pc nL : Nat} {ls : Array Slot} {rest : List Value} {a : Nat} {H0 : Heap} {Ts : List Cond} {own : String}
theorem z_iconst (F : gFix g p c cc nL s args Ts own m) {n : Int} (hdg : decode cc pc = .ok (.iconst n, 1)) (k : W p l e Rm s m args below meth c H locs cells slots Q (F0 m (pc + 1) ls (.int (iI n) :: rest))) : W p l e Rm s m args below meth c H locs cells slots Q (F0 m pc ls rest) := sorry
theorem z_bipush (F : gFix g p c cc nL s args Ts own m) {n : Int} (hdg : decode cc pc = .ok (.bipush n, 2)) (hv : (Int8.ofInt n).toInt32 = iI n) (k : W p l e Rm s m args below meth c H locs cells slots Q (F0 m (pc + 2) ls (.int (iI n) :: rest))) : W p l e Rm s m args below meth c H locs cells slots Q (F0 m pc ls rest) := sorry
theorem z_sipush (F : gFix g p c cc nL s args Ts own m) {n : Int} (hdg : decode cc pc = .ok (.sipush n, 3)) (hv : (Int16.ofInt n).toInt32 = iI n) (k : W p l e Rm s m args below meth c H locs cells slots Q (F0 m (pc + 3) ls (.int (iI n) :: rest))) : W p l e Rm s m args below meth c H locs cells slots Q (F0 m pc ls rest) := sorry
theorem z_iadd (F : gFix g p c cc nL s args Ts own m) {x y : Int} (hdg : decode cc pc = .ok (.iadd, 1)) (k : W p l e Rm s m args below meth c H locs cells slots Q (F0 m (pc + 1) ls (.int (iI (x + y)) :: rest))) : W p l e Rm s m args below meth c H locs cells slots Q (F0 m pc ls (.int (iI y) :: .int (iI x) :: rest)) := sorry
theorem z_isub (F : gFix g p c cc nL s args Ts own m) {x y : Int} (hdg : decode cc pc = .ok (.isub, 1)) (k : W p l e Rm s m args below meth c H locs cells slots Q (F0 m (pc + 1) ls (.int (iI (x - y)) :: rest))) : W p l e Rm s m args below meth c H locs cells slots Q (F0 m pc ls (.int (iI y) :: .int (iI x) :: rest)) := sorry
theorem z_imul (F : gFix g p c cc nL s args Ts own m) {x y : Int} (hdg : decode cc pc = .ok (.imul, 1)) (k : W p l e Rm s m args below meth c H locs cells slots Q (F0 m (pc + 1) ls (.int (iI (x * y)) :: rest))) : W p l e Rm s m args below meth c H locs cells slots Q (F0 m pc ls (.int (iI y) :: .int (iI x) :: rest)) := sorry
theorem z_ineg (F : gFix g p c cc nL s args Ts own m) {x : Int} (hdg : decode cc pc = .ok (.ineg, 1)) (k : W p l e Rm s m args below meth c H locs cells slots Q (F0 m (pc + 1) ls (.int (iI (-x)) :: rest))) : W p l e Rm s m args below meth c H locs cells slots Q (F0 m pc ls (.int (iI x) :: rest)) := sorry
/-- any int on the top, by a number of its own -/
theorem z_top {x : Int32} (k : ∀ z : Int, zr z → z = x.toInt → W p l e Rm s m args below meth c H locs cells slots Q (F0 m pc ls (.int (iI z) :: rest))) : W p l e Rm s m args below meth c H locs cells slots Q (F0 m pc ls (.int x :: rest)) := sorry
end GRows


end

section
section GRows2
variable {g : gG} {I : gI} {R : gR} {J : gJ} {AI : gI} {AJ : gJ} {AR : gR}
variable {p : Program} {l : Launch} {e : Env} {Rm : Room} {s : State} {m : MethodId} {args : Array Value} {below : List Frame} {meth : Method} {c : Code} {H : Heap} {locs : List Loc} {cells slots : Nat} {Q : State → Prop}
variable {cc : ByteArray} {pc nL : Nat} {ls : Array Slot} {rest : List Value} {a : Nat} {H0 : Heap} {Ts : List Cond} {own : String}
theorem z_icmp_eq (F : gFix g p c cc nL s args Ts own m) {x y : Int} {off : Int} {tgt : Nat} (hdg : decode cc pc = .ok (.if_icmp .eq off, 3)) (ht : (pc : Int) + off = (tgt : Int)) (hx : zr x) (hy : zr y)
    (kt : x = y → W p l e Rm s m args below meth c H locs cells slots Q (F0 m tgt ls rest)) (kf : ¬ x = y → W p l e Rm s m args below meth c H locs cells slots Q (F0 m (pc + 3) ls rest)) : W p l e Rm s m args below meth c H locs cells slots Q (F0 m pc ls (.int (iI y) :: .int (iI x) :: rest)) := sorry
theorem z_if_eq (F : gFix g p c cc nL s args Ts own m) {x : Int} {off : Int} {tgt : Nat} (hdg : decode cc pc = .ok (.ifCond .eq off, 3)) (ht : (pc : Int) + off = (tgt : Int)) (hx : zr x)
    (kt : x = 0 → W p l e Rm s m args below meth c H locs cells slots Q (F0 m tgt ls rest)) (kf : ¬ x = 0 → W p l e Rm s m args below meth c H locs cells slots Q (F0 m (pc + 3) ls rest)) : W p l e Rm s m args below meth c H locs cells slots Q (F0 m pc ls (.int (iI x) :: rest)) := sorry
theorem z_icmp_ne (F : gFix g p c cc nL s args Ts own m) {x y : Int} {off : Int} {tgt : Nat} (hdg : decode cc pc = .ok (.if_icmp .ne off, 3)) (ht : (pc : Int) + off = (tgt : Int)) (hx : zr x) (hy : zr y)
    (kt : ¬ x = y → W p l e Rm s m args below meth c H locs cells slots Q (F0 m tgt ls rest)) (kf : x = y → W p l e Rm s m args below meth c H locs cells slots Q (F0 m (pc + 3) ls rest)) : W p l e Rm s m args below meth c H locs cells slots Q (F0 m pc ls (.int (iI y) :: .int (iI x) :: rest)) := sorry
theorem z_if_ne (F : gFix g p c cc nL s args Ts own m) {x : Int} {off : Int} {tgt : Nat} (hdg : decode cc pc = .ok (.ifCond .ne off, 3)) (ht : (pc : Int) + off = (tgt : Int)) (hx : zr x)
    (kt : ¬ x = 0 → W p l e Rm s m args below meth c H locs cells slots Q (F0 m tgt ls rest)) (kf : x = 0 → W p l e Rm s m args below meth c H locs cells slots Q (F0 m (pc + 3) ls rest)) : W p l e Rm s m args below meth c H locs cells slots Q (F0 m pc ls (.int (iI x) :: rest)) := sorry
theorem z_icmp_lt (F : gFix g p c cc nL s args Ts own m) {x y : Int} {off : Int} {tgt : Nat} (hdg : decode cc pc = .ok (.if_icmp .lt off, 3)) (ht : (pc : Int) + off = (tgt : Int)) (hx : zr x) (hy : zr y)
    (kt : x < y → W p l e Rm s m args below meth c H locs cells slots Q (F0 m tgt ls rest)) (kf : ¬ x < y → W p l e Rm s m args below meth c H locs cells slots Q (F0 m (pc + 3) ls rest)) : W p l e Rm s m args below meth c H locs cells slots Q (F0 m pc ls (.int (iI y) :: .int (iI x) :: rest)) := sorry
theorem z_if_lt (F : gFix g p c cc nL s args Ts own m) {x : Int} {off : Int} {tgt : Nat} (hdg : decode cc pc = .ok (.ifCond .lt off, 3)) (ht : (pc : Int) + off = (tgt : Int)) (hx : zr x)
    (kt : x < 0 → W p l e Rm s m args below meth c H locs cells slots Q (F0 m tgt ls rest)) (kf : ¬ x < 0 → W p l e Rm s m args below meth c H locs cells slots Q (F0 m (pc + 3) ls rest)) : W p l e Rm s m args below meth c H locs cells slots Q (F0 m pc ls (.int (iI x) :: rest)) := sorry
theorem z_icmp_ge (F : gFix g p c cc nL s args Ts own m) {x y : Int} {off : Int} {tgt : Nat} (hdg : decode cc pc = .ok (.if_icmp .ge off, 3)) (ht : (pc : Int) + off = (tgt : Int)) (hx : zr x) (hy : zr y)
    (kt : y ≤ x → W p l e Rm s m args below meth c H locs cells slots Q (F0 m tgt ls rest)) (kf : ¬ y ≤ x → W p l e Rm s m args below meth c H locs cells slots Q (F0 m (pc + 3) ls rest)) : W p l e Rm s m args below meth c H locs cells slots Q (F0 m pc ls (.int (iI y) :: .int (iI x) :: rest)) := sorry
theorem z_if_ge (F : gFix g p c cc nL s args Ts own m) {x : Int} {off : Int} {tgt : Nat} (hdg : decode cc pc = .ok (.ifCond .ge off, 3)) (ht : (pc : Int) + off = (tgt : Int)) (hx : zr x)
    (kt : 0 ≤ x → W p l e Rm s m args below meth c H locs cells slots Q (F0 m tgt ls rest)) (kf : ¬ 0 ≤ x → W p l e Rm s m args below meth c H locs cells slots Q (F0 m (pc + 3) ls rest)) : W p l e Rm s m args below meth c H locs cells slots Q (F0 m pc ls (.int (iI x) :: rest)) := sorry
theorem z_icmp_gt (F : gFix g p c cc nL s args Ts own m) {x y : Int} {off : Int} {tgt : Nat} (hdg : decode cc pc = .ok (.if_icmp .gt off, 3)) (ht : (pc : Int) + off = (tgt : Int)) (hx : zr x) (hy : zr y)
    (kt : y < x → W p l e Rm s m args below meth c H locs cells slots Q (F0 m tgt ls rest)) (kf : ¬ y < x → W p l e Rm s m args below meth c H locs cells slots Q (F0 m (pc + 3) ls rest)) : W p l e Rm s m args below meth c H locs cells slots Q (F0 m pc ls (.int (iI y) :: .int (iI x) :: rest)) := sorry
theorem z_if_gt (F : gFix g p c cc nL s args Ts own m) {x : Int} {off : Int} {tgt : Nat} (hdg : decode cc pc = .ok (.ifCond .gt off, 3)) (ht : (pc : Int) + off = (tgt : Int)) (hx : zr x)
    (kt : 0 < x → W p l e Rm s m args below meth c H locs cells slots Q (F0 m tgt ls rest)) (kf : ¬ 0 < x → W p l e Rm s m args below meth c H locs cells slots Q (F0 m (pc + 3) ls rest)) : W p l e Rm s m args below meth c H locs cells slots Q (F0 m pc ls (.int (iI x) :: rest)) := sorry
theorem z_icmp_le (F : gFix g p c cc nL s args Ts own m) {x y : Int} {off : Int} {tgt : Nat} (hdg : decode cc pc = .ok (.if_icmp .le off, 3)) (ht : (pc : Int) + off = (tgt : Int)) (hx : zr x) (hy : zr y)
    (kt : x ≤ y → W p l e Rm s m args below meth c H locs cells slots Q (F0 m tgt ls rest)) (kf : ¬ x ≤ y → W p l e Rm s m args below meth c H locs cells slots Q (F0 m (pc + 3) ls rest)) : W p l e Rm s m args below meth c H locs cells slots Q (F0 m pc ls (.int (iI y) :: .int (iI x) :: rest)) := sorry
theorem z_if_le (F : gFix g p c cc nL s args Ts own m) {x : Int} {off : Int} {tgt : Nat} (hdg : decode cc pc = .ok (.ifCond .le off, 3)) (ht : (pc : Int) + off = (tgt : Int)) (hx : zr x)
    (kt : x ≤ 0 → W p l e Rm s m args below meth c H locs cells slots Q (F0 m tgt ls rest)) (kf : ¬ x ≤ 0 → W p l e Rm s m args below meth c H locs cells slots Q (F0 m (pc + 3) ls rest)) : W p l e Rm s m args below meth c H locs cells slots Q (F0 m pc ls (.int (iI x) :: rest)) := sorry
theorem z_goto (F : gFix g p c cc nL s args Ts own m) {off : Int} {tgt : Nat} (hdg : decode cc pc = .ok (.goto off, 3)) (ht : (pc : Int) + off = (tgt : Int)) (k : W p l e Rm s m args below meth c H locs cells slots Q (F0 m tgt ls rest)) : W p l e Rm s m args below meth c H locs cells slots Q (F0 m pc ls rest) := sorry
theorem z_iinc (F : gFix g p c cc nL s args Ts own m) {i k : Nat} {n x : Int} {lv lv' : List (Nat × Value)} (hdg : decode cc pc = .ok (.iinc i n, 3)) (h : lv_has ls nL lv) (hk : lv[k]? = some (i, .int (iI x))) (hn : i < nL) (hl : (i, Value.int (iI (x + n))) :: lv.filter (fun q => !(q.1 == i) && !(q.1 + 1 == i && q.2.category == 2)) = lv')
    (kk : ∀ ls' : Array Slot, lv_has ls' nL lv' → W p l e Rm s m args below meth c H locs cells slots Q (F0 m (pc + 3) ls' rest)) : W p l e Rm s m args below meth c H locs cells slots Q (F0 m pc ls rest) := sorry
theorem g_getI (F : gFix g p c cc nL s args Ts own m) (hH : gH g I R J AI AJ AR H) {C : String} {T : u_T} {N ci k index : Nat} (hc : vwCl[ci]? = some (C, T, N)) (hc8 : ci < 8) (hin : ∀ w ∈ u_ws C T N, w ∈ Ts) (ha : gO g a ci) (hk : k < N) (hf : (gft ci)[k]? = some 0) (hl : Cond.fieldLink own index (T k).1 (T k).2.1 (T k).2.2.1 ∈ Ts) (hdg : decode cc pc = .ok (.getfield index, 3))
    (kk : W p l e Rm s m args below meth c H locs cells slots Q (F0 m (pc + 3) ls (.int (iI (I a k).toInt) :: rest))) : W p l e Rm s m args below meth c H locs cells slots Q (F0 m pc ls (.ref a :: rest)) := sorry
theorem g_getJ (F : gFix g p c cc nL s args Ts own m) (hH : gH g I R J AI AJ AR H) {C : String} {T : u_T} {N ci k index : Nat} (hc : vwCl[ci]? = some (C, T, N)) (hc8 : ci < 8) (hin : ∀ w ∈ u_ws C T N, w ∈ Ts) (ha : gO g a ci) (hk : k < N) (hf : (gft ci)[k]? = some 1) (hl : Cond.fieldLink own index (T k).1 (T k).2.1 (T k).2.2.1 ∈ Ts) (hdg : decode cc pc = .ok (.getfield index, 3))
    (kk : W p l e Rm s m args below meth c H locs cells slots Q (F0 m (pc + 3) ls (.long (J a k) :: rest))) : W p l e Rm s m args below meth c H locs cells slots Q (F0 m pc ls (.ref a :: rest)) := sorry
theorem g_getR (F : gFix g p c cc nL s args Ts own m) (hH : gH g I R J AI AJ AR H) {C : String} {T : u_T} {N ci k index : Nat} (hc : vwCl[ci]? = some (C, T, N)) (hc8 : ci < 8) (hin : ∀ w ∈ u_ws C T N, w ∈ Ts) (ha : gO g a ci) (hk : k < N) (hf : (gft ci)[k]? = some 2) {b : Nat} (hb : R a k = some b) (hl : Cond.fieldLink own index (T k).1 (T k).2.1 (T k).2.2.1 ∈ Ts) (hdg : decode cc pc = .ok (.getfield index, 3))
    (kk : W p l e Rm s m args below meth c H locs cells slots Q (F0 m (pc + 3) ls (.ref b :: rest))) : W p l e Rm s m args below meth c H locs cells slots Q (F0 m pc ls (.ref a :: rest)) := sorry
theorem g_putI (F : gFix g p c cc nL s args Ts own m) (hH : gH g I R J AI AJ AR H) (hS : va_S (gA g) H0 H locs) {C : String} {T : u_T} {N ci k index : Nat} (hc : vwCl[ci]? = some (C, T, N)) (hc8 : ci < 8) (hin : ∀ w ∈ u_ws C T N, w ∈ Ts) (ha : gO g a ci) (hk : k < N) (ty0 : Nat → FieldType) (hty : ∀ k, k < N → parseFieldDescriptor (T k).2.2.1 = some (ty0 k)) (hnm : ∀ a, a < N → ∀ b, b < N → a ≠ b → (T a).2.1 ≠ (T b).2.1) (hf : (gft ci)[k]? = some 0) {x : Int} (hfin : (T k).2.2.2 = false) (hd : parseFieldDescriptor (T k).2.2.1 = some .int) (hl : Cond.fieldLink own index (T k).1 (T k).2.1 (T k).2.2.1 ∈ Ts) (hdg : decode cc pc = .ok (.putfield index, 3))
    (kk : ∀ (H1 : Heap) (locs1 : List Loc), gH g (gup2 I a k (iI x)) R J AI AJ AR H1 → va_S (gA g) H0 H1 locs1 → W p l e Rm s m args below meth c H1 locs1 cells slots Q (F0 m (pc + 3) ls rest)) : W p l e Rm s m args below meth c H locs cells slots Q (F0 m pc ls (.int (iI x) :: .ref a :: rest)) := sorry
theorem g_putIF (F : gFix g p c cc nL s args Ts own m) (hH : gH g I R J AI AJ AR H) (hS : va_S (gA g) H0 H locs) {C : String} {T : u_T} {N ci k index : Nat} (hc : vwCl[ci]? = some (C, T, N)) (hc8 : ci < 8) (hin : ∀ w ∈ u_ws C T N, w ∈ Ts) (ha : gO g a ci) (hk : k < N) (ty0 : Nat → FieldType) (hty : ∀ k, k < N → parseFieldDescriptor (T k).2.2.1 = some (ty0 k)) (hnm : ∀ a, a < N → ∀ b, b < N → a ≠ b → (T a).2.1 ≠ (T b).2.1) (hf : (gft ci)[k]? = some 0) {x : Int} (hfin : (T k).2.2.2 = true) (hini : meth.name = "<init>") (hdecl : (T k).1 = own) (hd : parseFieldDescriptor (T k).2.2.1 = some .int) (hl : Cond.fieldLink own index (T k).1 (T k).2.1 (T k).2.2.1 ∈ Ts) (hdg : decode cc pc = .ok (.putfield index, 3))
    (kk : ∀ (H1 : Heap) (locs1 : List Loc), gH g (gup2 I a k (iI x)) R J AI AJ AR H1 → va_S (gA g) H0 H1 locs1 → W p l e Rm s m args below meth c H1 locs1 cells slots Q (F0 m (pc + 3) ls rest)) : W p l e Rm s m args below meth c H locs cells slots Q (F0 m pc ls (.int (iI x) :: .ref a :: rest)) := sorry
theorem g_putJ (F : gFix g p c cc nL s args Ts own m) (hH : gH g I R J AI AJ AR H) (hS : va_S (gA g) H0 H locs) {C : String} {T : u_T} {N ci k index : Nat} (hc : vwCl[ci]? = some (C, T, N)) (hc8 : ci < 8) (hin : ∀ w ∈ u_ws C T N, w ∈ Ts) (ha : gO g a ci) (hk : k < N) (ty0 : Nat → FieldType) (hty : ∀ k, k < N → parseFieldDescriptor (T k).2.2.1 = some (ty0 k)) (hnm : ∀ a, a < N → ∀ b, b < N → a ≠ b → (T a).2.1 ≠ (T b).2.1) (hf : (gft ci)[k]? = some 1) {x : Int64} (hfin : (T k).2.2.2 = false) (hd : parseFieldDescriptor (T k).2.2.1 = some .long) (hl : Cond.fieldLink own index (T k).1 (T k).2.1 (T k).2.2.1 ∈ Ts) (hdg : decode cc pc = .ok (.putfield index, 3))
    (kk : ∀ (H1 : Heap) (locs1 : List Loc), gH g I R (gup2 J a k x) AI AJ AR H1 → va_S (gA g) H0 H1 locs1 → W p l e Rm s m args below meth c H1 locs1 cells slots Q (F0 m (pc + 3) ls rest)) : W p l e Rm s m args below meth c H locs cells slots Q (F0 m pc ls (.long x :: .ref a :: rest)) := sorry
theorem g_putJF (F : gFix g p c cc nL s args Ts own m) (hH : gH g I R J AI AJ AR H) (hS : va_S (gA g) H0 H locs) {C : String} {T : u_T} {N ci k index : Nat} (hc : vwCl[ci]? = some (C, T, N)) (hc8 : ci < 8) (hin : ∀ w ∈ u_ws C T N, w ∈ Ts) (ha : gO g a ci) (hk : k < N) (ty0 : Nat → FieldType) (hty : ∀ k, k < N → parseFieldDescriptor (T k).2.2.1 = some (ty0 k)) (hnm : ∀ a, a < N → ∀ b, b < N → a ≠ b → (T a).2.1 ≠ (T b).2.1) (hf : (gft ci)[k]? = some 1) {x : Int64} (hfin : (T k).2.2.2 = true) (hini : meth.name = "<init>") (hdecl : (T k).1 = own) (hd : parseFieldDescriptor (T k).2.2.1 = some .long) (hl : Cond.fieldLink own index (T k).1 (T k).2.1 (T k).2.2.1 ∈ Ts) (hdg : decode cc pc = .ok (.putfield index, 3))
    (kk : ∀ (H1 : Heap) (locs1 : List Loc), gH g I R (gup2 J a k x) AI AJ AR H1 → va_S (gA g) H0 H1 locs1 → W p l e Rm s m args below meth c H1 locs1 cells slots Q (F0 m (pc + 3) ls rest)) : W p l e Rm s m args below meth c H locs cells slots Q (F0 m pc ls (.long x :: .ref a :: rest)) := sorry
theorem g_putR (F : gFix g p c cc nL s args Ts own m) (hH : gH g I R J AI AJ AR H) (hS : va_S (gA g) H0 H locs) {C : String} {T : u_T} {N ci k index : Nat} (hc : vwCl[ci]? = some (C, T, N)) (hc8 : ci < 8) (hin : ∀ w ∈ u_ws C T N, w ∈ Ts) (ha : gO g a ci) (hk : k < N) (ty0 : Nat → FieldType) (hty : ∀ k, k < N → parseFieldDescriptor (T k).2.2.1 = some (ty0 k)) (hnm : ∀ a, a < N → ∀ b, b < N → a ≠ b → (T a).2.1 ≠ (T b).2.1) (hf : (gft ci)[k]? = some 2) {x : Nat} {ty : FieldType} (hn : narrow ty (.ref x) = .ref x) (hfit : fits ty (.ref x) = true) (hfin : (T k).2.2.2 = false) (hd : parseFieldDescriptor (T k).2.2.1 = some ty) (hl : Cond.fieldLink own index (T k).1 (T k).2.1 (T k).2.2.1 ∈ Ts) (hdg : decode cc pc = .ok (.putfield index, 3))
    (kk : ∀ (H1 : Heap) (locs1 : List Loc), gH g I (gup2 R a k (some x)) J AI AJ AR H1 → va_S (gA g) H0 H1 locs1 → W p l e Rm s m args below meth c H1 locs1 cells slots Q (F0 m (pc + 3) ls rest)) : W p l e Rm s m args below meth c H locs cells slots Q (F0 m pc ls (.ref x :: .ref a :: rest)) := sorry
theorem g_putRF (F : gFix g p c cc nL s args Ts own m) (hH : gH g I R J AI AJ AR H) (hS : va_S (gA g) H0 H locs) {C : String} {T : u_T} {N ci k index : Nat} (hc : vwCl[ci]? = some (C, T, N)) (hc8 : ci < 8) (hin : ∀ w ∈ u_ws C T N, w ∈ Ts) (ha : gO g a ci) (hk : k < N) (ty0 : Nat → FieldType) (hty : ∀ k, k < N → parseFieldDescriptor (T k).2.2.1 = some (ty0 k)) (hnm : ∀ a, a < N → ∀ b, b < N → a ≠ b → (T a).2.1 ≠ (T b).2.1) (hf : (gft ci)[k]? = some 2) {x : Nat} {ty : FieldType} (hn : narrow ty (.ref x) = .ref x) (hfit : fits ty (.ref x) = true) (hfin : (T k).2.2.2 = true) (hini : meth.name = "<init>") (hdecl : (T k).1 = own) (hd : parseFieldDescriptor (T k).2.2.1 = some ty) (hl : Cond.fieldLink own index (T k).1 (T k).2.1 (T k).2.2.1 ∈ Ts) (hdg : decode cc pc = .ok (.putfield index, 3))
    (kk : ∀ (H1 : Heap) (locs1 : List Loc), gH g I (gup2 R a k (some x)) J AI AJ AR H1 → va_S (gA g) H0 H1 locs1 → W p l e Rm s m args below meth c H1 locs1 cells slots Q (F0 m (pc + 3) ls rest)) : W p l e Rm s m args below meth c H locs cells slots Q (F0 m pc ls (.ref x :: .ref a :: rest)) := sorry
theorem g_iald (F : gFix g p c cc nL s args Ts own m) (hH : gH g I R J AI AJ AR H) {n : Nat} (ha : gAr g a 9 n) {z : Int} (h0 : 0 ≤ z) (h1 : z < (n : Int)) (h2 : z ≤ 2147483647) (hdg : decode cc pc = .ok (.iaload, 1))
    (kk : W p l e Rm s m args below meth c H locs cells slots Q (F0 m (pc + 1) ls (.int (iI (AI a z.toNat).toInt) :: rest))) : W p l e Rm s m args below meth c H locs cells slots Q (F0 m pc ls (.int (iI z) :: .ref a :: rest)) := sorry
theorem g_iast (F : gFix g p c cc nL s args Ts own m) (hH : gH g I R J AI AJ AR H) (hS : va_S (gA g) H0 H locs) {n : Nat} (ha : gAr g a 9 n) {z : Int} {x : Int} (h0 : 0 ≤ z) (h1 : z < (n : Int)) (h2 : z ≤ 2147483647) (hdg : decode cc pc = .ok (.iastore, 1))
    (kk : ∀ (H1 : Heap) (locs1 : List Loc), gH g I R J (gup2 AI a z.toNat (iI x)) AJ AR H1 → va_S (gA g) H0 H1 locs1 → W p l e Rm s m args below meth c H1 locs1 cells slots Q (F0 m (pc + 1) ls rest)) : W p l e Rm s m args below meth c H locs cells slots Q (F0 m pc ls (.int (iI x) :: .int (iI z) :: .ref a :: rest)) := sorry
theorem g_bald (F : gFix g p c cc nL s args Ts own m) (hH : gH g I R J AI AJ AR H) {n : Nat} (ha : gAr g a 8 n) {z : Int} (h0 : 0 ≤ z) (h1 : z < (n : Int)) (h2 : z ≤ 2147483647) (hdg : decode cc pc = .ok (.baload, 1))
    (kk : W p l e Rm s m args below meth c H locs cells slots Q (F0 m (pc + 1) ls (.int (iI (AI a z.toNat).toInt) :: rest))) : W p l e Rm s m args below meth c H locs cells slots Q (F0 m pc ls (.int (iI z) :: .ref a :: rest)) := sorry
theorem g_bast (F : gFix g p c cc nL s args Ts own m) (hH : gH g I R J AI AJ AR H) (hS : va_S (gA g) H0 H locs) {n : Nat} (ha : gAr g a 8 n) {z : Int} {x : Int} (h0 : 0 ≤ z) (h1 : z < (n : Int)) (h2 : z ≤ 2147483647) (hdg : decode cc pc = .ok (.bastore, 1))
    (kk : ∀ (H1 : Heap) (locs1 : List Loc), gH g I R J (gup2 AI a z.toNat (vp_nar .byte (iI x))) AJ AR H1 → va_S (gA g) H0 H1 locs1 → W p l e Rm s m args below meth c H1 locs1 cells slots Q (F0 m (pc + 1) ls rest)) : W p l e Rm s m args below meth c H locs cells slots Q (F0 m pc ls (.int (iI x) :: .int (iI z) :: .ref a :: rest)) := sorry
theorem g_lald (F : gFix g p c cc nL s args Ts own m) (hH : gH g I R J AI AJ AR H) {n : Nat} (ha : gAr g a 10 n) {z : Int} (h0 : 0 ≤ z) (h1 : z < (n : Int)) (h2 : z ≤ 2147483647) (hdg : decode cc pc = .ok (.laload, 1))
    (kk : W p l e Rm s m args below meth c H locs cells slots Q (F0 m (pc + 1) ls (.long (AJ a z.toNat) :: rest))) : W p l e Rm s m args below meth c H locs cells slots Q (F0 m pc ls (.int (iI z) :: .ref a :: rest)) := sorry
theorem g_last (F : gFix g p c cc nL s args Ts own m) (hH : gH g I R J AI AJ AR H) (hS : va_S (gA g) H0 H locs) {n : Nat} (ha : gAr g a 10 n) {z : Int} {x : Int64} (h0 : 0 ≤ z) (h1 : z < (n : Int)) (h2 : z ≤ 2147483647) (hdg : decode cc pc = .ok (.lastore, 1))
    (kk : ∀ (H1 : Heap) (locs1 : List Loc), gH g I R J AI (gup2 AJ a z.toNat (x)) AR H1 → va_S (gA g) H0 H1 locs1 → W p l e Rm s m args below meth c H1 locs1 cells slots Q (F0 m (pc + 1) ls rest)) : W p l e Rm s m args below meth c H locs cells slots Q (F0 m pc ls (.long x :: .int (iI z) :: .ref a :: rest)) := sorry
theorem g_aldL (F : gFix g p c cc nL s args Ts own m) (hH : gH g I R J AI AJ AR H) {n : Nat} (ha : gAr g a 11 n) {z : Int} (h0 : 0 ≤ z) (h1 : z < (n : Int)) (h2 : z ≤ 2147483647) {b : Nat} (hb : AR a z.toNat = some b) (hdg : decode cc pc = .ok (.aaload, 1))
    (kk : W p l e Rm s m args below meth c H locs cells slots Q (F0 m (pc + 1) ls (.ref b :: rest))) : W p l e Rm s m args below meth c H locs cells slots Q (F0 m pc ls (.int (iI z) :: .ref a :: rest)) := sorry
theorem g_aldR (F : gFix g p c cc nL s args Ts own m) (hH : gH g I R J AI AJ AR H) {n : Nat} (ha : gAr g a 12 n) {z : Int} (h0 : 0 ≤ z) (h1 : z < (n : Int)) (h2 : z ≤ 2147483647) {b : Nat} (hb : AR a z.toNat = some b) (hdg : decode cc pc = .ok (.aaload, 1))
    (kk : W p l e Rm s m args below meth c H locs cells slots Q (F0 m (pc + 1) ls (.ref b :: rest))) : W p l e Rm s m args below meth c H locs cells slots Q (F0 m pc ls (.int (iI z) :: .ref a :: rest)) := sorry
theorem g_alen8 (F : gFix g p c cc nL s args Ts own m) (hH : gH g I R J AI AJ AR H) {n : Nat} (ha : gAr g a 8 n) (hdg : decode cc pc = .ok (.arraylength, 1))
    (kk : W p l e Rm s m args below meth c H locs cells slots Q (F0 m (pc + 1) ls (.int (iI (n : Int)) :: rest))) : W p l e Rm s m args below meth c H locs cells slots Q (F0 m pc ls (.ref a :: rest)) := sorry
theorem g_alen9 (F : gFix g p c cc nL s args Ts own m) (hH : gH g I R J AI AJ AR H) {n : Nat} (ha : gAr g a 9 n) (hdg : decode cc pc = .ok (.arraylength, 1))
    (kk : W p l e Rm s m args below meth c H locs cells slots Q (F0 m (pc + 1) ls (.int (iI (n : Int)) :: rest))) : W p l e Rm s m args below meth c H locs cells slots Q (F0 m pc ls (.ref a :: rest)) := sorry
theorem g_alen10 (F : gFix g p c cc nL s args Ts own m) (hH : gH g I R J AI AJ AR H) {n : Nat} (ha : gAr g a 10 n) (hdg : decode cc pc = .ok (.arraylength, 1))
    (kk : W p l e Rm s m args below meth c H locs cells slots Q (F0 m (pc + 1) ls (.int (iI (n : Int)) :: rest))) : W p l e Rm s m args below meth c H locs cells slots Q (F0 m pc ls (.ref a :: rest)) := sorry
theorem g_alen11 (F : gFix g p c cc nL s args Ts own m) (hH : gH g I R J AI AJ AR H) {n : Nat} (ha : gAr g a 11 n) (hdg : decode cc pc = .ok (.arraylength, 1))
    (kk : W p l e Rm s m args below meth c H locs cells slots Q (F0 m (pc + 1) ls (.int (iI (n : Int)) :: rest))) : W p l e Rm s m args below meth c H locs cells slots Q (F0 m pc ls (.ref a :: rest)) := sorry
theorem g_alen12 (F : gFix g p c cc nL s args Ts own m) (hH : gH g I R J AI AJ AR H) {n : Nat} (ha : gAr g a 12 n) (hdg : decode cc pc = .ok (.arraylength, 1))
    (kk : W p l e Rm s m args below meth c H locs cells slots Q (F0 m (pc + 1) ls (.int (iI (n : Int)) :: rest))) : W p l e Rm s m args below meth c H locs cells slots Q (F0 m pc ls (.ref a :: rest)) := sorry
end GRows2


end

section
/-! contracts over the store: from a world w to a world w' -/
def gHS (g : gG) (w : gS) (U : State) : Prop := gH g w.1 w.2.1 w.2.2.1 w.2.2.2.1 w.2.2.2.2.1 w.2.2.2.2.2 U.heap ∧ va_K (gD g) vwCl (gT g) U ∧ gZ g ≤ U.heap.size
def gPre (g : gG) (av : List Value) (w : gS) : Array Value → State → Prop := va_Pc av (fun U => gHS g w U ∧ gStr g U)
theorem gPre_blind {g : gG} {av : List Value} {w : gS} : FrameBlind (gPre g av w) := sorry
abbrev gQi (g : gG) (post : Int → gS → Prop) : Array Value → State → Outcome → State → Prop := va_Qi (S := gS) (fun r w => post r.toInt w) (gHS g) (gA g)
abbrev gQv (g : gG) (post : gS → Prop) : Array Value → State → Outcome → State → Prop := va_Qv (S := gS) post (gHS g) (gA g)
abbrev gQl (g : gG) (post : Int64 → gS → Prop) : Array Value → State → Outcome → State → Prop := va_Ql (S := gS) post (gHS g) (gA g)
abbrev gQr (g : gG) (post : Nat → gS → Prop) : Array Value → State → Outcome → State → Prop := va_Qr (S := gS) (fun _ => True) (fun w a t => gHS g w t ∧ post a w) (gA g)
abbrev gMet (l : Launch) (g : gG) (y : MethodName) (ws : List Cond) (rm : Room) (av : List Value) (w : gS) (Qc : Array Value → State → Outcome → State → Prop) : Prop := Met l y ws rm (gPre g av w) Qc 0 0 (gA g)
theorem gStart {l : Launch} {g : gG} {y : MethodName} {ws ws' : List Cond} {rm : Room} {av : List Value} {I : gI} {R : gR} {J : gJ} {AI : gI} {AJ : gJ} {AR : gR} {Qc : Array Value → State → Outcome → State → Prop} {cc : ByteArray} {maxL : Nat} {ret : Option FieldType}
    (hy : plainName y.cls = true) (hw : ws = Cond.code y cc maxL ret :: ws') (hav : (lg_sl av).length ≤ maxL)
    (body : ∀ (p : Program) (e : Env) (s : State) (m : MethodId) (below : List Frame) (meth : Method) (c : Code) (ls : Array Slot), gFix g p c cc maxL s av.toArray ws y.cls m → meth.sig.returnType = ret → meth.locks = false →
      gH g I R J AI AJ AR s.heap → gZ g ≤ s.heap.size → va_S (gA g) s.heap s.heap [] → lv_has ls maxL (lv_args 0 av) →
      W p l e rm s m av.toArray below meth c s.heap [] 0 0 (MQ below Qc av.toArray s 0 0 (gA g)) (F0 m 0 ls [])) : gMet l g y ws rm av (I, R, J, AI, AJ, AR) Qc := sorry
section GCalls
variable {g : gG} {I : gI} {R : gR} {J : gJ} {AI : gI} {AJ : gJ} {AR : gR}
variable {p : Program} {l : Launch} {e : Env} {Rm : Room} {s : State} {m : MethodId} {args : Array Value} {below : List Frame} {meth : Method} {c : Code} {H : Heap} {locs : List Loc} {cells slots : Nat} {Q : State → Prop}
variable {cc : ByteArray} {pc nL : Nat} {ls : Array Slot} {rest st0 : List Value} {Ts : List Cond} {own C : String}
variable {y : MethodName} {bytes : ByteArray} {maxL n index b ci N : Nat} {T : u_T} {ret : Option FieldType} {ws : List Cond} {rm : Room} {As : List Value}
theorem z_norm {x : Int} (k : ∀ z : Int, zr z → iI z = iI x → W p l e Rm s m args below meth c H locs cells slots Q (F0 m pc ls (.int (iI z) :: rest))) : W p l e Rm s m args below meth c H locs cells slots Q (F0 m pc ls (.int (iI x) :: rest)) := sorry
theorem g_recv (F : gFix g p c cc nL s args Ts own m) (hH : gH g I R J AI AJ AR H) (hb : gO g b ci) (hc8 : ci < 8) (hc : vwCl[ci]? = some (C, T, N)) : ∃ cell : Cell, H[b]? = some cell ∧ cell.vm.isStatics = false ∧ s.vm.findClass C = some cell.cls := sorry
theorem g_pre (F : gFix g p c cc nL s args Ts own m) (hH : gH g I R J AI AJ AR H) (hS : va_S (gA g) s.heap H locs) (hz : gZ g ≤ s.heap.size) {av : List Value} : ∀ U : State, U.heap = H → s.WarmedH U.vm → gPre g av (I, R, J, AI, AJ, AR) av.toArray U := sorry
theorem g_runV {Qc : Array Value → State → Outcome → State → Prop} (F : gFix g p c cc nL s args Ts own m) (hls : ls.size = nL) (hH : gH g I R J AI AJ AR H) (hS : va_S (gA g) s.heap H locs) (hz : gZ g ≤ s.heap.size)
    (M : gMet l g y ws rm (.ref b :: As) (I, R, J, AI, AJ, AR) Qc) (cw : CallW Rm s args own C index y bytes maxL ret ws rm 0 0 n) (hb : gO g b ci) (hc8 : ci < 8) (hc : vwCl[ci]? = some (C, T, N)) (hn : As.length = n) (hst : st0 = As.reverse ++ .ref b :: rest) (hroom : (rest.map fun v => v.category).sum ≤ 8) (hdg : decode cc pc = .ok (.invokevirtual index, 3)) (hcs : cells ≤ Rm.cells ∧ slots ≤ Rm.slots) :
    va_Run p l e Rm s m args below meth c H locs cells slots 0 0 (F0 m pc ls st0) rest (Qc (Value.ref b :: As).toArray) (gA g) := sorry
theorem g_runS {Qc : Array Value → State → Outcome → State → Prop} (F : gFix g p c cc nL s args Ts own m) (hls : ls.size = nL) (hH : gH g I R J AI AJ AR H) (hS : va_S (gA g) s.heap H locs) (hz : gZ g ≤ s.heap.size)
    (M : gMet l g y ws rm As (I, R, J, AI, AJ, AR) Qc) (cw : CallB Rm s args own index y bytes maxL ret ws rm 0 0 n ∧ (Cond.static y).before args s = true) (hn : As.length = n) (hst : st0 = As.reverse ++ rest) (hroom : (rest.map fun v => v.category).sum ≤ 8) (hdg : decode cc pc = .ok (.invokestatic index, 3)) (hcs : cells ≤ Rm.cells ∧ slots ≤ Rm.slots) :
    va_Run p l e Rm s m args below meth c H locs cells slots 0 0 (F0 m pc ls st0) rest (Qc As.toArray) (gA g) := sorry
theorem g_calli {post : Int → gS → Prop} {a : Array Value} (hr : va_Run p l e Rm s m args below meth c H locs cells slots 0 0 (F0 m pc ls st0) rest (gQi g post a) (gA g)) (hS : va_S (gA g) s.heap H locs)
    (kk : ∀ (z : Int) (I : gI) (R : gR) (J : gJ) (AI : gI) (AJ : gJ) (AR : gR) (H1 : Heap) (locs1 : List Loc), zr z → post z (I, R, J, AI, AJ, AR) → gH g I R J AI AJ AR H1 → va_S (gA g) s.heap H1 locs1 → W p l e Rm s m args below meth c H1 locs1 cells slots Q (F0 m (pc + 3) ls (.int (iI z) :: rest))) : W p l e Rm s m args below meth c H locs cells slots Q (F0 m pc ls st0) := sorry
theorem g_callv {post : gS → Prop} {a : Array Value} (hr : va_Run p l e Rm s m args below meth c H locs cells slots 0 0 (F0 m pc ls st0) rest (gQv g post a) (gA g)) (hS : va_S (gA g) s.heap H locs)
    (kk : ∀ (I : gI) (R : gR) (J : gJ) (AI : gI) (AJ : gJ) (AR : gR) (H1 : Heap) (locs1 : List Loc), post (I, R, J, AI, AJ, AR) → gH g I R J AI AJ AR H1 → va_S (gA g) s.heap H1 locs1 → W p l e Rm s m args below meth c H1 locs1 cells slots Q (F0 m (pc + 3) ls rest)) : W p l e Rm s m args below meth c H locs cells slots Q (F0 m pc ls st0) := sorry
theorem g_calll {post : Int64 → gS → Prop} {a : Array Value} (hr : va_Run p l e Rm s m args below meth c H locs cells slots 0 0 (F0 m pc ls st0) rest (gQl g post a) (gA g)) (hS : va_S (gA g) s.heap H locs)
    (kk : ∀ (z : Int64) (I : gI) (R : gR) (J : gJ) (AI : gI) (AJ : gJ) (AR : gR) (H1 : Heap) (locs1 : List Loc), post z (I, R, J, AI, AJ, AR) → gH g I R J AI AJ AR H1 → va_S (gA g) s.heap H1 locs1 → W p l e Rm s m args below meth c H1 locs1 cells slots Q (F0 m (pc + 3) ls (.long z :: rest))) : W p l e Rm s m args below meth c H locs cells slots Q (F0 m pc ls st0) := sorry
theorem g_callr {post : Nat → gS → Prop} {a : Array Value} (hr : va_Run p l e Rm s m args below meth c H locs cells slots 0 0 (F0 m pc ls st0) rest (gQr g post a) (gA g)) (hS : va_S (gA g) s.heap H locs)
    (kk : ∀ (z : Nat) (I : gI) (R : gR) (J : gJ) (AI : gI) (AJ : gJ) (AR : gR) (H1 : Heap) (locs1 : List Loc), post z (I, R, J, AI, AJ, AR) → gH g I R J AI AJ AR H1 → va_S (gA g) s.heap H1 locs1 → W p l e Rm s m args below meth c H1 locs1 cells slots Q (F0 m (pc + 3) ls (.ref z :: rest))) : W p l e Rm s m args below meth c H locs cells slots Q (F0 m pc ls st0) := sorry
theorem z_b01 {z : Int} (h : z = 0 ∨ z = 1) : narrow .boolean (.int (iI z)) = .int (iI z) := sorry
theorem g_iret (F : gFix g p c cc nL s args Ts own m) (hr : meth.sig.returnType = some .int) (hlk : meth.locks = false) (hH : gH g I R J AI AJ AR H) (hS : va_S (gA g) s.heap H locs) (hz : gZ g ≤ s.heap.size) {post : Int → gS → Prop} {z : Int} (hv : zr z) (hp : post z (I, R, J, AI, AJ, AR)) (hdg : decode cc pc = .ok (.ireturn, 1)) :
    W p l e Rm s m args below meth c H locs 0 0 (MQ below (gQi g post) args s 0 0 (gA g)) (F0 m pc ls [.int (iI z)]) := sorry
theorem g_zret (F : gFix g p c cc nL s args Ts own m) (hr : meth.sig.returnType = some .boolean) (hlk : meth.locks = false) (hH : gH g I R J AI AJ AR H) (hS : va_S (gA g) s.heap H locs) (hz : gZ g ≤ s.heap.size) {post : Int → gS → Prop} {z : Int} (hv : z = 0 ∨ z = 1) (hp : post z (I, R, J, AI, AJ, AR)) (hdg : decode cc pc = .ok (.ireturn, 1)) :
    W p l e Rm s m args below meth c H locs 0 0 (MQ below (gQi g post) args s 0 0 (gA g)) (F0 m pc ls [.int (iI z)]) := sorry
theorem g_nret (F : gFix g p c cc nL s args Ts own m) {ty : FieldType} (hr : meth.sig.returnType = some ty) (hlk : meth.locks = false) (hH : gH g I R J AI AJ AR H) (hS : va_S (gA g) s.heap H locs) (hz : gZ g ≤ s.heap.size) {post : Int → gS → Prop} {z : Int} (hn : narrow ty (.int (iI z)) = .int (iI z)) (hv : zr z) (hp : post z (I, R, J, AI, AJ, AR)) (hdg : decode cc pc = .ok (.ireturn, 1)) :
    W p l e Rm s m args below meth c H locs 0 0 (MQ below (gQi g post) args s 0 0 (gA g)) (F0 m pc ls [.int (iI z)]) := sorry
theorem g_recvS (F : gFix g p c cc nL s args Ts own m) (hS : va_S (gA g) s.heap H locs) {i : Nat} {q : String × Nat × String × List Int32} (hq : sTab[i]? = some q) : ∃ cell : Cell, H[gSK g i]? = some cell ∧ cell.vm.isStatics = false ∧ s.vm.findClass "java/lang/String" = some cell.cls := sorry
theorem g_runVS {Qc : Array Value → State → Outcome → State → Prop} (F : gFix g p c cc nL s args Ts own m) (hls : ls.size = nL) (hH : gH g I R J AI AJ AR H) (hS : va_S (gA g) s.heap H locs) (hz : gZ g ≤ s.heap.size) {i : Nat} {q : String × Nat × String × List Int32} (hq : sTab[i]? = some q)
    (M : gMet l g y ws rm (.ref (gSK g i) :: As) (I, R, J, AI, AJ, AR) Qc) (cw : CallW Rm s args own "java/lang/String" index y bytes maxL ret ws rm 0 0 n) (hn : As.length = n) (hst : st0 = As.reverse ++ .ref (gSK g i) :: rest) (hroom : (rest.map fun v => v.category).sum ≤ 8) (hdg : decode cc pc = .ok (.invokevirtual index, 3)) (hcs : cells ≤ Rm.cells ∧ slots ≤ Rm.slots) :
    va_Run p l e Rm s m args below meth c H locs cells slots 0 0 (F0 m pc ls st0) rest (Qc (Value.ref (gSK g i) :: As).toArray) (gA g) := sorry
theorem g_lret (F : gFix g p c cc nL s args Ts own m) (hr : meth.sig.returnType = some .long) (hlk : meth.locks = false) (hH : gH g I R J AI AJ AR H) (hS : va_S (gA g) s.heap H locs) (hz : gZ g ≤ s.heap.size) {post : Int64 → gS → Prop} {z : Int64} (hp : post z (I, R, J, AI, AJ, AR)) (hdg : decode cc pc = .ok (.lreturn, 1)) :
    W p l e Rm s m args below meth c H locs 0 0 (MQ below (gQl g post) args s 0 0 (gA g)) (F0 m pc ls [.long z]) := sorry
theorem g_vret (F : gFix g p c cc nL s args Ts own m) (hr : meth.sig.returnType = none) (hlk : meth.locks = false) (hH : gH g I R J AI AJ AR H) (hS : va_S (gA g) s.heap H locs) (hz : gZ g ≤ s.heap.size) {post : gS → Prop} (hp : post (I, R, J, AI, AJ, AR)) (hdg : decode cc pc = .ok (.return_, 1)) :
    W p l e Rm s m args below meth c H locs 0 0 (MQ below (gQv g post) args s 0 0 (gA g)) (F0 m pc ls []) := sorry
theorem g_aret (F : gFix g p c cc nL s args Ts own m) {rt : FieldType} (hr : meth.sig.returnType = some rt) (hrt : (∃ n, rt = .object n) ∨ ∃ t, rt = .array t) (hlk : meth.locks = false) (hH : gH g I R J AI AJ AR H) (hS : va_S (gA g) s.heap H locs) (hz : gZ g ≤ s.heap.size) {post : Nat → gS → Prop} {z : Nat} (hp : post z (I, R, J, AI, AJ, AR)) (hdg : decode cc pc = .ok (.areturn, 1)) :
    W p l e Rm s m args below meth c H locs 0 0 (MQ below (gQr g post) args s 0 0 (gA g)) (F0 m pc ls [.ref z]) := sorry
end GCalls


end

section
theorem iI_nI {x : Int} (h : 0 ≤ x) : iI x = nI x.toNat := sorry
section GMore
variable {g : gG} {I : gI} {R : gR} {J : gJ} {AI : gI} {AJ : gJ} {AR : gR}
variable {p : Program} {l : Launch} {e : Env} {Rm : Room} {s : State} {m : MethodId} {args : Array Value} {below : List Frame} {meth : Method} {c : Code} {H : Heap} {locs : List Loc} {cells slots : Nat} {Q : State → Prop}
variable {cc : ByteArray} {pc nL : Nat} {ls : Array Slot} {rest : List Value} {a : Nat} {H0 : Heap} {Ts : List Cond} {own : String}
theorem z_iushr1 (F : gFix g p c cc nL s args Ts own m) {x : Int} (h0 : 0 ≤ x) (h1 : x ≤ 2147483647) (hdg : decode cc pc = .ok (.iushr, 1)) (k : W p l e Rm s m args below meth c H locs cells slots Q (F0 m (pc + 1) ls (.int (iI (x / 2)) :: rest))) : W p l e Rm s m args below meth c H locs cells slots Q (F0 m pc ls (.int (iI 1) :: .int (iI x) :: rest)) := sorry
theorem z_idiv (F : gFix g p c cc nL s args Ts own m) {x y : Int} (h0 : 0 ≤ x) (h1 : x ≤ 2147483647) (h2 : 0 < y) (h3 : y ≤ 2147483647) (hdg : decode cc pc = .ok (.idiv, 1)) (k : W p l e Rm s m args below meth c H locs cells slots Q (F0 m (pc + 1) ls (.int (iI (x / y)) :: rest))) : W p l e Rm s m args below meth c H locs cells slots Q (F0 m pc ls (.int (iI y) :: .int (iI x) :: rest)) := sorry
theorem z_irem (F : gFix g p c cc nL s args Ts own m) {x y : Int} (h0 : 0 ≤ x) (h1 : x ≤ 2147483647) (h2 : 0 < y) (h3 : y ≤ 2147483647) (hdg : decode cc pc = .ok (.irem, 1)) (k : W p l e Rm s m args below meth c H locs cells slots Q (F0 m (pc + 1) ls (.int (iI (x % y)) :: rest))) : W p l e Rm s m args below meth c H locs cells slots Q (F0 m pc ls (.int (iI y) :: .int (iI x) :: rest)) := sorry
theorem g_copyi (F : gFix g p c cc nL s args Ts own m) (hls : ls.size = nL) (hH : gH g I R J AI AJ AR H) (hS : va_S (gA g) H0 H locs) {a0 n0 n1 index : Nat} (hs : gAr g a0 9 n0) (hd : gAr g a 9 n1)
    (m1 : Cond.methodLink own index arraycopyName ∈ Ts) (m2 : Cond.native arraycopyName ∈ Ts) (m3 : Cond.static arraycopyName ∈ Ts) (m4 : Cond.initialized "java/lang/System" ∈ Ts)
    {sp dp n : Int} (hx : 0 ≤ sp ∧ 0 ≤ dp ∧ 0 ≤ n ∧ sp + n ≤ (n0 : Int) ∧ dp + n ≤ (n1 : Int) ∧ sp ≤ 2147483647 ∧ dp ≤ 2147483647 ∧ n ≤ 2147483647)
    (hfr : 1 ≤ Rm.frames) (hlo : (rest.map fun v => v.category).sum + (nativeFrameWords "java/lang/System" "arraycopy" 5 + 11) ≤ Rm.locals) (hdg : decode cc pc = .ok (.invokestatic index, 3))
    (kk : ∀ (H1 : Heap) (locs1 : List Loc), gH g I R J (gup1 AI a (va_cpy (AI a0) (AI a) sp.toNat dp.toNat n.toNat)) AJ AR H1 → va_S (gA g) H0 H1 locs1 → W p l e Rm s m args below meth c H1 locs1 cells slots Q (F0 m (pc + 3) ls rest)) : W p l e Rm s m args below meth c H locs cells slots Q (F0 m pc ls (.int (iI n) :: .int (iI dp) :: .ref a :: .int (iI sp) :: .ref a0 :: rest)) := sorry
end GMore


end

section
/-! what a state of the class is: bounds and shapes. gh: 0 cells of Rows, 1 its limit, 2 its keys, 3 parts of a Line, 4 its plan, 5 its place there, 6 lines of a Plan, 7 whose cells, 8 whose parts, 9 an int array's part (1 cells, 2 parts, 3 kinds, 4 values, 0 others) -/
abbrev gGh : Type := Nat → Nat → Nat
def vRows (g : gG) (gh : gGh) (R : gR) (I : gI) : Prop := ∀ a, gO g a 4 →
  (R a 2 = some (gh 0 a) ∧ gAr g (gh 0 a) 9 (6 * gh 1 a) ∧ gh 9 (gh 0 a) = 1 ∧ gh 7 (gh 0 a) = a) ∧
  ((I a 0).toInt = (gh 2 a : Int) ∧ (I a 1).toInt = (gh 1 a : Int) ∧ 0 ≤ (I a 3).toInt ∧ (I a 3).toInt ≤ (gh 1 a : Int)) ∧
  ((gh 2 a = 4 ∨ gh 2 a = 5) ∧ 40 ≤ gh 1 a ∧ gh 1 a ≤ 240)
def vC5 (g : gG) (gh : gGh) (AI : gI) : Prop := ∀ a, gO g a 4 → gh 2 a = 5 → ∀ j : Nat, j < gh 1 a → 0 ≤ (AI (gh 0 a) (6 * j)).toInt ∧ (AI (gh 0 a) (6 * j)).toInt ≤ 15
def okPart (kd pc : Int) (f : Nat → Int32) : Prop :=
  (kd = 1 → ∀ k : Nat, (k : Int) < pc → 0 ≤ (f (4 * k)).toInt ∧ (f (4 * k)).toInt ≤ 3 ∧ -1 ≤ (f (4 * k + 2)).toInt ∧ (f (4 * k + 2)).toInt ≤ 3) ∧
  (kd = 0 ∨ kd = 2 ∨ kd = 8 → pc ≤ 4 ∧ ∀ k : Nat, (k : Int) < pc → -1 ≤ (f (2 * k)).toInt ∧ (f (2 * k)).toInt ≤ 3) ∧
  (kd = 3 → pc ≤ 4 ∧ ∀ k : Nat, (k : Int) < pc → 0 ≤ (f (2 * k)).toInt ∧ (f (2 * k)).toInt ≤ 3 ∧ 0 ≤ (f (2 * k + 1)).toInt ∧ (f (2 * k + 1)).toInt ≤ 3) ∧
  (kd = 7 → pc ≤ 3 ∧ ∀ k : Nat, (k : Int) < pc → 0 ≤ (f k).toInt ∧ (f k).toInt ≤ 3)
def vLineS (g : gG) (gh : gGh) (R : gR) (a : Nat) : Prop := R a 7 = some (gh 3 a) ∧ gAr g (gh 3 a) 9 32 ∧ gh 9 (gh 3 a) = 2 ∧ gh 8 (gh 3 a) = a ∧ gO g (gh 4 a) 2 ∧ gh 5 a < 16
def vLineI (f : Nat → Int32) : Prop := 0 ≤ (f 0).toInt ∧ (f 0).toInt ≤ 8 ∧ 0 ≤ (f 2).toInt ∧ (f 2).toInt ≤ 9 ∧ -1 ≤ (f 3).toInt ∧ (f 3).toInt ≤ 15 ∧ -1 ≤ (f 4).toInt ∧ (f 4).toInt ≤ 15 ∧
  0 ≤ (f 5).toInt ∧ (f 5).toInt ≤ 4 ∧ 0 ≤ (f 6).toInt ∧ (f 6).toInt ≤ 4 ∧ 0 ≤ (f 8).toInt ∧ (f 8).toInt ≤ 8 ∧ 0 ≤ (f 9).toInt ∧ (f 9).toInt ≤ 3 ∧ 0 ≤ (f 10).toInt ∧ (f 10).toInt ≤ 3 ∧ 0 ≤ (f 12).toInt ∧ (f 12).toInt ≤ 3
def vLine (g : gG) (gh : gGh) (R : gR) (I AI : gI) : Prop := ∀ a, gO g a 0 → vLineS g gh R a ∧ vLineI (I a) ∧ okPart (I a 0).toInt (I a 8).toInt (AI (gh 3 a)) ∧ ((gh 5 a : Int) < (I (gh 4 a) 1).toInt → (I a 2).toInt ≤ 4)
def vPlan (g : gG) (gh : gGh) (R AR : gR) (I : gI) : Prop := ∀ a, gO g a 2 →
  (R a 0 = some (gh 6 a) ∧ gAr g (gh 6 a) 11 16 ∧ (∀ j : Nat, j < 16 → ∃ b, AR (gh 6 a) j = some b ∧ gO g b 0 ∧ gh 4 b = a ∧ gh 5 b = j) ∧ ∀ b, gO g b 0 → gh 4 b = a → AR (gh 6 a) (gh 5 b) = some b) ∧
  (0 ≤ (I a 1).toInt ∧ (I a 1).toInt ≤ 16 ∧ 0 ≤ (I a 2).toInt ∧ (I a 2).toInt ≤ 16)
/-- a row of Rows: n of them, of that limit and so many keys -/
def isRA (g : gG) (gh : gGh) (AR : gR) (b n lim key : Nat) : Prop := gAr g b 12 n ∧ ∀ j : Nat, j < n → ∃ r, AR b j = some r ∧ gO g r 4 ∧ gh 1 r = lim ∧ gh 2 r = key ∧ r ≠ gh 37 0
def isR1 (g : gG) (gh : gGh) (r lim key : Nat) : Prop := gO g r 4 ∧ gh 1 r = lim ∧ gh 2 r = key
/-- the one BagTree x: gh 20 .. name its parts -/
def vX (g : gG) (gh : gGh) (R AR : gR) (I : gI) : Prop := ∀ x, gO g x 6 →
  (R x 0 = some (gh 28 0) ∧ gAr g (gh 28 0) 8 936 ∧ gh 9 (gh 28 0) = 5) ∧ (R x 2 = some (gh 21 0) ∧ gO g (gh 21 0) 1) ∧ (∃ p, R x 3 = some p ∧ gO g p 2) ∧ (R x 4 = some (gh 23 0) ∧ gO g (gh 23 0) 3) ∧
  (∃ b, R x 5 = some b ∧ isRA g gh AR b 16 120 4) ∧ (∃ b, R x 6 = some b ∧ isRA g gh AR b 16 120 4) ∧ (R x 7 = some (gh 35 0) ∧ isRA g gh AR (gh 35 0) 16 240 4) ∧
  (R x 8 = some (gh 37 0) ∧ isR1 g gh (gh 37 0) 40 5) ∧ (R x 9 = some (gh 38 0) ∧ isR1 g gh (gh 38 0) 40 5) ∧ (R x 10 = some (gh 39 0) ∧ isR1 g gh (gh 39 0) 40 4) ∧ (R x 11 = some (gh 40 0) ∧ isR1 g gh (gh 40 0) 240 4) ∧
  (R x 12 = some (gh 29 0) ∧ gAr g (gh 29 0) 9 5 ∧ gh 9 (gh 29 0) = 0) ∧ (R x 13 = some (gh 36 0) ∧ isRA g gh AR (gh 36 0) 8 40 5) ∧
  (0 ≤ (I x 1).toInt ∧ (I x 1).toInt ≤ 936 ∧ 0 ≤ (I x 14).toInt ∧ (I x 14).toInt ≤ 7 ∧ 0 ≤ (I x 15).toInt ∧ (I x 15).toInt ≤ 8)
def vPr (g : gG) (gh : gGh) (R : gR) (I : gI) : Prop := ∀ a, gO g a 1 → (R a 0 = some (gh 22 0) ∧ gO g (gh 22 0) 5) ∧ (∃ q, R a 1 = some q ∧ gO g q 2) ∧ (∃ q, R a 2 = some q ∧ gO g q 0) ∧ (0 ≤ (I a 3).toInt ∧ (I a 3).toInt ≤ 900)
def vTk (g : gG) (gh : gGh) (R : gR) (I AI : gI) : Prop := ∀ a, gO g a 5 →
  (a = gh 22 0 ∧ R a 0 = some (gh 24 0) ∧ gAr g (gh 24 0) 9 901 ∧ gh 9 (gh 24 0) = 3) ∧ (R a 1 = some (gh 25 0) ∧ gAr g (gh 25 0) 9 901 ∧ gh 9 (gh 25 0) = 0) ∧ (R a 2 = some (gh 26 0) ∧ gAr g (gh 26 0) 9 901 ∧ gh 9 (gh 26 0) = 4) ∧ (R a 3 = some (gh 27 0) ∧ gAr g (gh 27 0) 10 901) ∧
  (0 ≤ (I a 4).toInt ∧ (I a 4).toInt ≤ 901) ∧ (∀ j : Nat, (j : Int) < (I a 4).toInt → (AI (gh 24 0) j).toInt = 2 → 0 ≤ (AI (gh 26 0) j).toInt ∧ (AI (gh 26 0) j).toInt ≤ 3)
def vRk (g : gG) (gh : gGh) (R : gR) : Prop := ∀ a, gO g a 3 → (R a 0 = some (gh 30 0) ∧ gAr g (gh 30 0) 9 5 ∧ gh 9 (gh 30 0) = 0) ∧ (R a 1 = some (gh 31 0) ∧ gAr g (gh 31 0) 9 8 ∧ gh 9 (gh 31 0) = 0) ∧ (R a 2 = some (gh 32 0) ∧ gAr g (gh 32 0) 9 480 ∧ gh 9 (gh 32 0) = 0)
/-- the other side is as gM says: no method of the class touches it -/
def vRM (g : gG) (gh : gGh) (R : gR) (I AI : gI) : Prop := vRk g gh R ∧ (∀ b, gO g b 7 → I b = (gM g).1 b) ∧ (∀ b, gh 9 b = 5 → AI b = (gM g).2 b) ∧
  (gh 42 0 = 1 → gO g (gh 37 0) 4 ∧ gh 2 (gh 37 0) = 5 ∧ I (gh 37 0) 3 = (gM g).1 (gh 37 0) 3 ∧ AI (gh 0 (gh 37 0)) = (gM g).2 (gh 0 (gh 37 0)))
theorem vRM_c {g : gG} {gh : gGh} {R : gR} {I I' AI AI' : gI} (h : vRM g gh R I AI) (e : ∀ b, gO g b 7 → I' b = I b) (e5 : ∀ b, gh 9 b = 5 → AI' b = AI b) (e4 : gO g (gh 37 0) 4 → gh 42 0 = 1 → gh 2 (gh 37 0) = 5 → I' (gh 37 0) 3 = I (gh 37 0) 3 ∧ AI' (gh 0 (gh 37 0)) = AI (gh 0 (gh 37 0))) : vRM g gh R I' AI' := sorry
def gInv (g : gG) (gh : gGh) (R AR : gR) (I AI : gI) : Prop := vRows g gh R I ∧ vC5 g gh AI ∧ vLine g gh R I AI ∧ vPlan g gh R AR I ∧ vX g gh R AR I ∧ vPr g gh R I ∧ vTk g gh R I AI ∧ vRM g gh R I AI
theorem gO_ne {g : gG} {a b c d : Nat} (ha : gO g a c) (hb : gO g b d) (h : c ≠ d) : a ≠ b := sorry
theorem gO_ar {g : gG} {a b c d n : Nat} (ha : gO g a c) (hb : gAr g b d n) (h : c ≠ d) : a ≠ b := sorry
/-! each part looks at its own fields alone -/
theorem vRows_c {g : gG} {gh : gGh} {R : gR} {I I' : gI} (h : vRows g gh R I) (e : ∀ b, gO g b 4 → I' b = I b) : vRows g gh R I' := sorry
theorem vC5_c {g : gG} {gh : gGh} {R : gR} {I AI AI' : gI} (h : vC5 g gh AI) (hr : vRows g gh R I) (e : ∀ b, gh 9 b = 1 → AI' b = AI b) : vC5 g gh AI' := sorry
theorem vLine_c {g : gG} {gh : gGh} {R : gR} {I I' AI AI' : gI} (h : vLine g gh R I AI) (e : ∀ b, gO g b 0 → I' b = I b) (e2 : ∀ b, gO g b 2 → I' b 1 = I b 1) (e3 : ∀ b, gh 9 b = 2 → AI' b = AI b) : vLine g gh R I' AI' := sorry
theorem vPlan_c {g : gG} {gh : gGh} {R AR : gR} {I I' : gI} (h : vPlan g gh R AR I) (e : ∀ b, gO g b 2 → I' b = I b) : vPlan g gh R AR I' := sorry
theorem vX_c {g : gG} {gh : gGh} {R AR : gR} {I I' : gI} (h : vX g gh R AR I) (e : ∀ b, gO g b 6 → I' b = I b) : vX g gh R AR I' := sorry
theorem vPr_c {g : gG} {gh : gGh} {R : gR} {I I' : gI} (h : vPr g gh R I) (e : ∀ b, gO g b 1 → I' b = I b) : vPr g gh R I' := sorry
theorem vTk_c {g : gG} {gh : gGh} {R : gR} {I I' AI AI' : gI} (h : vTk g gh R I AI) (e : ∀ b, gO g b 5 → I' b = I b) (e3 : ∀ b, gh 9 b = 3 → AI' b = AI b) (e4 : ∀ b, gh 9 b = 4 → AI' b = AI b) : vTk g gh R I' AI' := sorry
/-- an int field of an object of class c that no part looks at, or of which only one does -/
theorem gup2_o {I : gI} {g : gG} {a b c d k : Nat} {v : Int32} (ha : gO g a c) (hb : gO g b d) (h : d ≠ c) : gup2 I a k v b = I b := sorry
/-- an array of a part that no invariant looks at -/
theorem gInv_plain {g : gG} {gh : gGh} {R AR : gR} {I AI AI' : gI} (h : gInv g gh R AR I AI) {a : Nat} (ha : gh 9 a = 0) (e : ∀ b, b ≠ a → AI' b = AI b) : gInv g gh R AR I AI' := sorry
/-- the cells of a Rows -/
theorem gInv_cells {g : gG} {gh : gGh} {R AR : gR} {I AI AI' : gI} (h : gInv g gh R AR I AI) {a : Nat} (ha : gO g a 4) (e : ∀ b, b ≠ gh 0 a → AI' b = AI b)
    (h5 : gh 2 a = 5 → ∀ j : Nat, j < gh 1 a → 0 ≤ (AI' (gh 0 a) (6 * j)).toInt ∧ (AI' (gh 0 a) (6 * j)).toInt ≤ 15) (hfz : gh 2 a = 5 → gh 42 0 = 1 → a ≠ gh 37 0) : gInv g gh R AR I AI' := sorry
/-- the length of a Rows -/
theorem gInv_len {g : gG} {gh : gGh} {R AR : gR} {I AI : gI} (h : gInv g gh R AR I AI) {a : Nat} (ha : gO g a 4) {z : Int} (h0 : 0 ≤ z) (hz : z ≤ (gh 1 a : Int)) (hfz : gh 2 a = 5 → gh 42 0 = 1 → a ≠ gh 37 0) : gInv g gh R AR (gup2 I a 3 (iI z)) AI := sorry
theorem gI_rows {g : gG} {gh : gGh} {R AR : gR} {I AI : gI} (h : gInv g gh R AR I AI) {a : Nat} (ha : gO g a 4) : (I a 0).toInt = (gh 2 a : Int) ∧ (I a 1).toInt = (gh 1 a : Int) ∧ 0 ≤ (I a 3).toInt ∧ (I a 3).toInt ≤ (gh 1 a : Int) ∧ 4 ≤ gh 2 a ∧ gh 2 a ≤ 5 ∧ 40 ≤ gh 1 a ∧ gh 1 a ≤ 240 := sorry
theorem gR_cells {g : gG} {gh : gGh} {R AR : gR} {I AI : gI} (h : gInv g gh R AR I AI) {a : Nat} (ha : gO g a 4) : R a 2 = some (gh 0 a) ∧ gAr g (gh 0 a) 9 (6 * gh 1 a) := sorry
/-- the flag is down, or up where the batch is as told -/
def ghF (k : Nat) (gh : gGh) : gGh := fun a b => match a with
  | 42 => k
  | a => gh a b
theorem gInv_dn {g : gG} {gh : gGh} {R AR : gR} {I AI : gI} (h : gInv g gh R AR I AI) : gInv g (ghF 0 gh) R AR I AI := sorry
theorem gInv_up {g : gG} {gh : gGh} {R AR : gR} {I AI : gI} (h : gInv g gh R AR I AI) (h37 : gO g (gh 37 0) 4 ∧ gh 2 (gh 37 0) = 5) (hB : I (gh 37 0) 3 = (gM g).1 (gh 37 0) 3 ∧ AI (gh 0 (gh 37 0)) = (gM g).2 (gh 0 (gh 37 0))) : gInv g (ghF 1 gh) R AR I AI := sorry

end

section
theorem cpy6 {f h : Nat → Int32} {P : Int32 → Prop} {sp dp n L L2 : Nat} (hs : sp % 6 = 0) (hd : dp % 6 = 0) (hb : sp + n ≤ 6 * L2) (hf : ∀ j : Nat, j < L2 → P (f (6 * j))) (hh : ∀ j : Nat, j < L → P (h (6 * j))) : ∀ j : Nat, j < L → P (va_cpy f h sp dp n (6 * j)) := sorry
theorem cpyK {f h : Nat → Int32} {P : Int32 → Prop} {dp n L : Nat} (hd : dp % 6 = 0) (hn : n ≤ 6) (hf : P (f 0)) (hh : ∀ j : Nat, j < L → P (h (6 * j))) : ∀ j : Nat, j < L → P (va_cpy f h 0 dp n (6 * j)) := sorry
section RowsInv
variable {g : gG} {gh : gGh} {R AR : gR} {I AI : gI} {a : Nat}
theorem gInv_four {AI' : gI} (hv : gInv g gh R AR I AI) (ha : gO g a 4) (h4 : gh 2 a = 4) (e : ∀ b, b ≠ gh 0 a → AI' b = AI b) : gInv g gh R AR I AI' := sorry
theorem gInv_cpyS (hv : gInv g gh R AR I AI) (ha : gO g a 4) {sp dp n : Int} (h1 : 0 ≤ sp ∧ sp % 6 = 0) (h2 : 0 ≤ dp ∧ dp % 6 = 0) (h3 : 0 ≤ n ∧ sp + n ≤ 6 * (gh 1 a : Int)) (hfz : gh 2 a = 5 → gh 42 0 = 1 → a ≠ gh 37 0) : gInv g gh R AR I (gup1 AI (gh 0 a) (va_cpy (AI (gh 0 a)) (AI (gh 0 a)) sp.toNat dp.toNat n.toNat)) := sorry
theorem gInv_cpyO (hv : gInv g gh R AR I AI) (ha : gO g a 4) {b : Nat} (hb : gO g b 4) (h5 : gh 2 a = 5 → gh 2 b = 5) {sp dp n : Int} (h1 : 0 ≤ sp ∧ sp % 6 = 0) (h2 : 0 ≤ dp ∧ dp % 6 = 0) (h3 : 0 ≤ n ∧ sp + n ≤ 6 * (gh 1 b : Int)) (hfz : gh 2 a = 5 → gh 42 0 = 1 → a ≠ gh 37 0) : gInv g gh R AR I (gup1 AI (gh 0 a) (va_cpy (AI (gh 0 b)) (AI (gh 0 a)) sp.toNat dp.toNat n.toNat)) := sorry
theorem gInv_cpyK (hv : gInv g gh R AR I AI) (ha : gO g a 4) {k : Nat} (hk : gh 2 a = 5 → 0 ≤ (AI k 0).toInt ∧ (AI k 0).toInt ≤ 15) {dp n : Int} (h2 : 0 ≤ dp ∧ dp % 6 = 0) (h3 : 0 ≤ n ∧ n ≤ 6) (hfz : gh 2 a = 5 → gh 42 0 = 1 → a ≠ gh 37 0) : gInv g gh R AR I (gup1 AI (gh 0 a) (va_cpy (AI k) (AI (gh 0 a)) (0 : Int).toNat dp.toNat n.toNat)) := sorry
theorem gInv_cell1 (hv : gInv g gh R AR I AI) (ha : gO g a 4) {ix : Int} {v : Int32} (h0 : 0 ≤ ix) (h : gh 2 a = 5 → ix % 6 ≠ 0) (hfz : gh 2 a = 5 → gh 42 0 = 1 → a ≠ gh 37 0) : gInv g gh R AR I (gup2 AI (gh 0 a) ix.toNat v) := sorry
end RowsInv


end

section
section LineInv
variable {g : gG} {gh : gGh} {R AR : gR} {I AI : gI} {a : Nat}
theorem gI_line (hv : gInv g gh R AR I AI) (ha : gO g a 0) : vLineI (I a) := sorry
theorem gR_parts (hv : gInv g gh R AR I AI) (ha : gO g a 0) : R a 7 = some (gh 3 a) ∧ gAr g (gh 3 a) 9 32 := sorry
theorem gP_line (hv : gInv g gh R AR I AI) (ha : gO g a 0) : okPart (I a 0).toInt (I a 8).toInt (AI (gh 3 a)) := sorry
theorem gInv_line {I' AI' : gI} (hv : gInv g gh R AR I AI) (ha : gO g a 0) (fI : ∀ b, b ≠ a → I' b = I b) (fA : ∀ b, b ≠ gh 3 a → AI' b = AI b) (h1 : vLineI (I' a)) (h2 : okPart (I' a 0).toInt (I' a 8).toInt (AI' (gh 3 a))) (h3 : (gh 5 a : Int) < (I (gh 4 a) 1).toInt → (I' a 2).toInt ≤ 4) : gInv g gh R AR I' AI' := sorry
theorem gInv_lineK {k : Nat} {v : Int32} (hv : gInv g gh R AR I AI) (ha : gO g a 0) (hk : k ≠ 0 ∧ k ≠ 8) (h1 : vLineI (gup2 I a k v a)) (h3 : (gh 5 a : Int) < (I (gh 4 a) 1).toInt → (gup2 I a k v a 2).toInt ≤ 4) : gInv g gh R AR (gup2 I a k v) AI := sorry
theorem gInv_line2 {z : Int} (hv : gInv g gh R AR I AI) (ha : gO g a 0) (h0 : 0 ≤ z) (h9 : z ≤ 9) (hc : (gh 5 a : Int) < (I (gh 4 a) 1).toInt → z ≤ 4) : gInv g gh R AR (gup2 I a 2 (iI z)) AI := sorry
theorem gInv_line3 {z : Int} (hv : gInv g gh R AR I AI) (ha : gO g a 0) (h0 : -1 ≤ z) (h9 : z ≤ 15) (hc : (I a 0).toInt = 0 → z = -1) : gInv g gh R AR (gup2 I a 3 (iI z)) AI := sorry
theorem gInv_line4 {z : Int} (hv : gInv g gh R AR I AI) (ha : gO g a 0) (h0 : -1 ≤ z) (h9 : z ≤ 15) : gInv g gh R AR (gup2 I a 4 (iI z)) AI := sorry
theorem gInv_line5 {z : Int} (hv : gInv g gh R AR I AI) (ha : gO g a 0) (h0 : 0 ≤ z) (h9 : z ≤ 4) : gInv g gh R AR (gup2 I a 5 (iI z)) AI := sorry
theorem gInv_line6 {z : Int} (hv : gInv g gh R AR I AI) (ha : gO g a 0) (h0 : 0 ≤ z) (h9 : z ≤ 4) : gInv g gh R AR (gup2 I a 6 (iI z)) AI := sorry
theorem gInv_line9 {z : Int} (hv : gInv g gh R AR I AI) (ha : gO g a 0) (h0 : 0 ≤ z) (h9 : z ≤ 3) : gInv g gh R AR (gup2 I a 9 (iI z)) AI := sorry
theorem gInv_line10 {z : Int} (hv : gInv g gh R AR I AI) (ha : gO g a 0) (h0 : 0 ≤ z) (h9 : z ≤ 3) : gInv g gh R AR (gup2 I a 10 (iI z)) AI := sorry
theorem gInv_line12 {z : Int} (hv : gInv g gh R AR I AI) (ha : gO g a 0) (h0 : 0 ≤ z) (h9 : z ≤ 3) : gInv g gh R AR (gup2 I a 12 (iI z)) AI := sorry
theorem gInv_line11 {z : Int} (hv : gInv g gh R AR I AI) (ha : gO g a 0) : gInv g gh R AR (gup2 I a 11 (iI z)) AI := sorry
theorem gInv_line13 {z : Int} (hv : gInv g gh R AR I AI) (ha : gO g a 0) : gInv g gh R AR (gup2 I a 13 (iI z)) AI := sorry
theorem gInv_line14 {z : Int} (hv : gInv g gh R AR I AI) (ha : gO g a 0) : gInv g gh R AR (gup2 I a 14 (iI z)) AI := sorry
/-- kind, while there is no part yet -/
theorem gInv_line0 {z : Int} (hv : gInv g gh R AR I AI) (ha : gO g a 0) (h0 : 1 ≤ z) (h9 : z ≤ 8) (hp : (I a 8).toInt = 0) : gInv g gh R AR (gup2 I a 0 (iI z)) AI := sorry
end LineInv
theorem gI_plan {g : gG} {gh : gGh} {R AR : gR} {I AI : gI} {a : Nat} (hv : gInv g gh R AR I AI) (ha : gO g a 2) : 0 ≤ (I a 1).toInt ∧ (I a 1).toInt ≤ 16 ∧ 0 ≤ (I a 2).toInt ∧ (I a 2).toInt ≤ 16 := sorry
theorem gR_lines {g : gG} {gh : gGh} {R AR : gR} {I AI : gI} {a : Nat} (hv : gInv g gh R AR I AI) (ha : gO g a 2) : R a 0 = some (gh 6 a) ∧ gAr g (gh 6 a) 11 16 := sorry
theorem gA_lines {g : gG} {gh : gGh} {R AR : gR} {I AI : gI} {a : Nat} (hv : gInv g gh R AR I AI) (ha : gO g a 2) {z : Int} (h0 : 0 ≤ z) (h1 : z < 16) : ∃ b, AR (gh 6 a) z.toNat = some b ∧ gO g b 0 ∧ gh 4 b = a ∧ (gh 5 b : Int) = z := sorry
theorem gA_same {g : gG} {gh : gGh} {R AR : gR} {I AI : gI} {a b c : Nat} (hv : gInv g gh R AR I AI) (ha : gO g a 2) (hb : gO g b 0) (h1 : gh 4 b = a) (hc : gO g c 0) (h2 : gh 4 c = a) (h : gh 5 b = gh 5 c) : b = c := sorry
/-- a plan's length: the line that comes in has at most 4 columns -/
theorem gInv_planLen {g : gG} {gh : gGh} {R AR : gR} {I AI : gI} {a : Nat} (hv : gInv g gh R AR I AI) (ha : gO g a 2) {z : Int} (h0 : 0 ≤ z) (h1 : z ≤ 16) (hn : ∀ b, gO g b 0 → gh 4 b = a → (gh 5 b : Int) < z → (I b 2).toInt ≤ 4) : gInv g gh R AR (gup2 I a 1 (iI z)) AI := sorry
theorem gInv_planTab {g : gG} {gh : gGh} {R AR : gR} {I AI : gI} {a : Nat} (hv : gInv g gh R AR I AI) (ha : gO g a 2) {z : Int} (h0 : 0 ≤ z) (h1 : z ≤ 16) : gInv g gh R AR (gup2 I a 2 (iI z)) AI := sorry
theorem gup2_e {α : Type} (f : Nat → Nat → α) {a k j : Nat} (v : α) (h : j = k) : gup2 f a k v a j = v := sorry
theorem okPart_test {kd pc c o : Int} {f f' : Nat → Int32} (hk : kd = 1) (h : okPart kd pc f) (h0 : 0 ≤ pc) (hc : 0 ≤ c ∧ c ≤ 3) (ho : -1 ≤ o ∧ o ≤ 3) (e : ∀ j : Nat, (j : Int) < 4 * pc → f' j = f j) (e1 : f' (4 * pc).toNat = iI c) (e2 : f' (4 * pc + 2).toNat = iI o) : okPart kd (pc + 1) f' := sorry
theorem okPart_two {kd pc c o : Int} {f f' : Nat → Int32} (hk : kd = 2 ∨ kd = 8 ∨ kd = 3) (h : okPart kd pc f) (h0 : 0 ≤ pc) (h3 : pc ≤ 3) (hc : -1 ≤ c ∧ c ≤ 3) (ho : kd = 3 → 0 ≤ c ∧ 0 ≤ o ∧ o ≤ 3) (hr : zr o) (e : ∀ j : Nat, (j : Int) < 2 * pc → f' j = f j) (e1 : f' (2 * pc).toNat = iI c) (e2 : f' (2 * pc + 1).toNat = iI o) : okPart kd (pc + 1) f' := sorry
theorem okPart_col {kd pc c : Int} {f f' : Nat → Int32} (hk : kd = 7) (h : okPart kd pc f) (h0 : 0 ≤ pc) (h3 : pc ≤ 2) (hc : 0 ≤ c ∧ c ≤ 3) (e : ∀ j : Nat, (j : Int) < pc → f' j = f j) (e1 : f' pc.toNat = iI c) : okPart kd (pc + 1) f' := sorry

end

section
section GMore2
variable {g : gG} {I : gI} {R : gR} {J : gJ} {AI : gI} {AJ : gJ} {AR : gR}
variable {p : Program} {l : Launch} {e : Env} {Rm : Room} {s : State} {m : MethodId} {args : Array Value} {below : List Frame} {meth : Method} {c : Code} {H : Heap} {locs : List Loc} {cells slots : Nat} {Q : State → Prop}
variable {cc : ByteArray} {pc nL : Nat} {ls : Array Slot} {rest : List Value} {a : Nat} {H0 : Heap} {Ts : List Cond} {own : String}
theorem z_mmin (F : gFix g p c cc nL s args Ts own m) (hls : ls.size = nL) {index : Nat} (m1 : Cond.methodLink own index Lib.Math.min.name ∈ Ts) (m2 : Cond.static Lib.Math.min.name ∈ Ts) (m3 : Cond.initialized "java/lang/Math" ∈ Ts) (m4 : Cond.code Lib.Math.min.name Lib.Math.min.code 2 (some .int) ∈ Ts)
    (hfr : 1 ≤ Rm.frames) (hlo : (rest.map fun v => v.category).sum + 13 ≤ Rm.locals) (hc : cells ≤ Rm.cells) (hs : slots ≤ Rm.slots) {x y : Int} (hx : zr x) (hy : zr y) (hdg : decode cc pc = .ok (.invokestatic index, 3))
    (kk : ∀ v : Int, zr v → (v = x ∨ v = y) ∧ v ≤ x ∧ v ≤ y → W p l e Rm s m args below meth c H locs cells slots Q (F0 m (pc + 3) ls (.int (iI v) :: rest))) : W p l e Rm s m args below meth c H locs cells slots Q (F0 m pc ls (.int (iI y) :: .int (iI x) :: rest)) := sorry
theorem z_mmax (F : gFix g p c cc nL s args Ts own m) (hls : ls.size = nL) {index : Nat} (m1 : Cond.methodLink own index Lib.Math.max.name ∈ Ts) (m2 : Cond.static Lib.Math.max.name ∈ Ts) (m3 : Cond.initialized "java/lang/Math" ∈ Ts) (m4 : Cond.code Lib.Math.max.name Lib.Math.max.code 2 (some .int) ∈ Ts)
    (hfr : 1 ≤ Rm.frames) (hlo : (rest.map fun v => v.category).sum + 13 ≤ Rm.locals) (hc : cells ≤ Rm.cells) (hs : slots ≤ Rm.slots) {x y : Int} (hx : zr x) (hy : zr y) (hdg : decode cc pc = .ok (.invokestatic index, 3))
    (kk : ∀ v : Int, zr v → (v = x ∨ v = y) ∧ x ≤ v ∧ y ≤ v → W p l e Rm s m args below meth c H locs cells slots Q (F0 m (pc + 3) ls (.int (iI v) :: rest))) : W p l e Rm s m args below meth c H locs cells slots Q (F0 m pc ls (.int (iI y) :: .int (iI x) :: rest)) := sorry
theorem z_name {x : Int} (k : ∀ v : Int, v = x → W p l e Rm s m args below meth c H locs cells slots Q (F0 m pc ls (.int (iI v) :: rest))) : W p l e Rm s m args below meth c H locs cells slots Q (F0 m pc ls (.int (iI x) :: rest)) := sorry
end GMore2


end

section
section PrInv
variable {g : gG} {gh : gGh} {R AR : gR} {I AI : gI} {a : Nat}
theorem gI_tk (hv : gInv g gh R AR I AI) (ha : gO g a 5) : 0 ≤ (I a 4).toInt ∧ (I a 4).toInt ≤ 901 := sorry
theorem gR_tk0 (hv : gInv g gh R AR I AI) (ha : gO g a 5) : R a 0 = some (gh 24 0) ∧ gAr g (gh 24 0) 9 901 := sorry
theorem gR_tk1 (hv : gInv g gh R AR I AI) (ha : gO g a 5) : R a 1 = some (gh 25 0) ∧ gAr g (gh 25 0) 9 901 := sorry
theorem gR_tk2 (hv : gInv g gh R AR I AI) (ha : gO g a 5) : R a 2 = some (gh 26 0) ∧ gAr g (gh 26 0) 9 901 := sorry
theorem gR_tk3 (hv : gInv g gh R AR I AI) (ha : gO g a 5) : R a 3 = some (gh 27 0) ∧ gAr g (gh 27 0) 10 901 := sorry
theorem gC_tok (hv : gInv g gh R AR I AI) (ha : gO g a 5) {z : Int} (h0 : 0 ≤ z) (h : z < (I a 4).toInt) (hk : (AI (gh 24 0) z.toNat).toInt = 2) : 0 ≤ (AI (gh 26 0) z.toNat).toInt ∧ (AI (gh 26 0) z.toNat).toInt ≤ 3 := sorry
theorem gR_pr0 (hv : gInv g gh R AR I AI) (ha : gO g a 1) : R a 0 = some (gh 22 0) ∧ gO g (gh 22 0) 5 := sorry
theorem gI_pr (hv : gInv g gh R AR I AI) (ha : gO g a 1) : 0 ≤ (I a 3).toInt ∧ (I a 3).toInt ≤ 900 := sorry
theorem gInv_here (hv : gInv g gh R AR I AI) (ha : gO g a 1) {z : Int} (h0 : 0 ≤ z) (h1 : z ≤ 900) : gInv g gh R AR (gup2 I a 3 (iI z)) AI := sorry
theorem gInv_tokLen (hv : gInv g gh R AR I AI) (ha : gO g a 5) {z : Int} (h0 : 0 ≤ z) (h1 : z ≤ 901) (hc : ∀ j : Nat, (j : Int) < z → (AI (gh 24 0) j).toInt = 2 → 0 ≤ (AI (gh 26 0) j).toInt ∧ (AI (gh 26 0) j).toInt ≤ 3) : gInv g gh R AR (gup2 I a 4 (iI z)) AI := sorry
/-- a write to kinds or values behind the last token -/
theorem gInv_tokW {AI' : gI} (hv : gInv g gh R AR I AI) (ha : gO g a 5) {c n : Nat} (hc : gh 9 c = 3 ∧ c = gh 24 0 ∨ gh 9 c = 4 ∧ c = gh 26 0) (e : ∀ b, b ≠ c → AI' b = AI b) (en : n = (I a 4).toInt.toNat) (e1 : ∀ j, j ≠ n → AI' c j = AI c j) : gInv g gh R AR I AI' := sorry
/-- the parser a reads into the line ln, the one behind the last of the plan q -/
def pS (g : gG) (gh : gGh) (R : gR) (I : gI) (a q ln : Nat) : Prop := gO g a 1 ∧ R a 1 = some q ∧ gO g q 2 ∧ R a 2 = some ln ∧ gO g ln 0 ∧ gh 4 ln = q ∧ (gh 5 ln : Int) = (I q 1).toInt ∧ (I a 3).toInt < (I (gh 22 0) 4).toInt
def pF (a ln : Nat) (I I' : gI) : Prop := (∀ b, b ≠ a → b ≠ ln → I' b = I b) ∧ I' ln 0 = I ln 0
theorem pF_r {a ln : Nat} {I : gI} : pF a ln I I := sorry
theorem pF_t {a ln : Nat} {I I' I'' : gI} (h : pF a ln I I') (h' : pF a ln I' I'') : pF a ln I I'' := sorry
theorem pF_ln {a ln k : Nat} {I : gI} {v : Int32} (hk : k ≠ 0) : pF a ln I (gup2 I ln k v) := sorry
theorem pF_o {a ln : Nat} {I I' : gI} (h : ∀ b, b ≠ ln → I' b = I b) (h0 : I' ln 0 = I ln 0) : pF a ln I I' := sorry
theorem pS_of {q ln : Nat} {I' : gI} (hv : gInv g gh R AR I AI) (hp : pS g gh R I a q ln) (f : ∀ b, b ≠ a → b ≠ ln → I' b = I b) (hh : (I' a 3).toInt < (I (gh 22 0) 4).toInt) : pS g gh R I' a q ln := sorry
/-- only the line has changed -/
theorem pS_ln {q ln : Nat} {I' : gI} (hv : gInv g gh R AR I AI) (hp : pS g gh R I a q ln) (f : ∀ b, b ≠ ln → I' b = I b) : pS g gh R I' a q ln := sorry
theorem pS_col {q ln : Nat} {z : Int} (hp : pS g gh R I a q ln) : (gh 5 ln : Int) < (I (gh 4 ln) 1).toInt → z ≤ 4 := sorry
end PrInv
theorem z_lcmp {x y : Int64} : (lg_cmp x y).toInt = 0 ↔ x = y := sorry
/-- the parser's line -/
theorem gInv_Rline {g : gG} {gh : gGh} {R AR : gR} {I AI : gI} {a b : Nat} (hv : gInv g gh R AR I AI) (ha : gO g a 1) (hb : gO g b 0) : gInv g gh (gup2 R a 2 (some b)) AR I AI := sorry
theorem pS_step {g : gG} {gh : gGh} {R AR : gR} {I I' AI : gI} {a q ln : Nat} (hv : gInv g gh R AR I AI) (hp : pS g gh R I a q ln) (f : ∀ b, b ≠ a → I' b = I b) (hh : (I' a 3).toInt < (I (gh 22 0) 4).toInt) : pS g gh R I' a q ln ∧ pF a ln I I' ∧ I' ln = I ln := sorry
theorem pF_q {g : gG} {gh : gGh} {R : gR} {I I' I0 : gI} {a q ln : Nat} (hp : pS g gh R I0 a q ln) (pf : pF a ln I I') : I' q = I q := sorry
theorem pG_t {a ln : Nat} {I I' I'' : gI} (h : ∀ b, b ≠ a → b ≠ ln → I' b = I b) (h' : ∀ b, b ≠ a → b ≠ ln → I'' b = I' b) : ∀ b, b ≠ a → b ≠ ln → I'' b = I b := sorry

end

section
theorem sTab_all : ∀ q ∈ sTab, q.2.2.2.length ≤ 200 := sorry
theorem sTab_len {i : Nat} {q : String × Nat × String × List Int32} (h : sTab[i]? = some q) : q.2.2.2.length ≤ 200 := sorry
theorem nar_byte {z : Int} (h0 : -128 ≤ z) (h1 : z ≤ 127) : narrow .byte (.int (iI z)) = .int (iI z) := sorry
theorem nar_char {z : Int} (h0 : 0 ≤ z) (h1 : z ≤ 65535) : narrow .char (.int (iI z)) = .int (iI z) := sorry
theorem z_i2c {x : Int32} {v : Int} (e : v = ((x.toUInt32 % 65536).toInt32).toInt) : 0 ≤ v ∧ v ≤ 65535 := sorry
section GStr
variable {g : gG} {p : Program} {l : Launch} {e : Env} {Rm : Room} {s : State} {m : MethodId} {args : Array Value} {below : List Frame} {meth : Method} {c : Code} {H : Heap} {locs : List Loc} {cells slots : Nat} {Q : State → Prop}
variable {cc : ByteArray} {pc nL : Nat} {ls : Array Slot} {rest : List Value} {Ts : List Cond} {own : String}
theorem z_ishr0 (F : gFix g p c cc nL s args Ts own m) {x : Int} (hdg : decode cc pc = .ok (.ishr, 1)) (k : W p l e Rm s m args below meth c H locs cells slots Q (F0 m (pc + 1) ls (.int (iI x) :: rest))) : W p l e Rm s m args below meth c H locs cells slots Q (F0 m pc ls (.int (iI 0) :: .int (iI x) :: rest)) := sorry
end GStr


end

section
def rmJ0_coder_7d493 : Room := { frames := 0, cells := 0, slots := 0, locals := 0 }
theorem hdJ0_coder_7d493 : yJ0_coder_7d493.cls = RJ0 ∧ yJ0_coder_7d493.cls ≠ "java/lang/invoke/MethodHandle" ∧ yJ0_coder_7d493.cls ≠ "java/lang/invoke/VarHandle" ∧ (parseMethodDescriptor yJ0_coder_7d493.desc).map (fun d => d.parameters.length) = some 0 := sorry
set_option maxHeartbeats 4000000 in
set_option maxRecDepth 100000 in
theorem c_J0_coder_7d493 (l : Launch) (g : gG) (i : Nat) (q : String × Nat × String × List Int32) (I : gI) (R : gR) (J : gJ) (AI : gI) (AJ : gJ) (AR : gR)  (hq : sTab[i]? = some q) : gMet l g yJ0_coder_7d493 wsJ0_coder_7d493 rmJ0_coder_7d493 [.ref (gSK g i)] (I, R, J, AI, AJ, AR) (gQi g (fun (z : Int) (w : gS) => I = w.1 ∧ R = w.2.1 ∧ J = w.2.2.1 ∧ AI = w.2.2.2.1 ∧ AJ = w.2.2.2.2.1 ∧ AR = w.2.2.2.2.2 ∧ (z = 0))) := sorry
def rmJ0_isLatin1_aae02 : Room := { frames := 0, cells := 0, slots := 0, locals := 0 }
theorem hdJ0_isLatin1_aae02 : yJ0_isLatin1_aae02.cls = RJ0 ∧ yJ0_isLatin1_aae02.cls ≠ "java/lang/invoke/MethodHandle" ∧ yJ0_isLatin1_aae02.cls ≠ "java/lang/invoke/VarHandle" ∧ (parseMethodDescriptor yJ0_isLatin1_aae02.desc).map (fun d => d.parameters.length) = some 0 := sorry
set_option maxHeartbeats 4000000 in
set_option maxRecDepth 100000 in
theorem c_J0_isLatin1_aae02 (l : Launch) (g : gG) (i : Nat) (q : String × Nat × String × List Int32) (I : gI) (R : gR) (J : gJ) (AI : gI) (AJ : gJ) (AR : gR)  (hq : sTab[i]? = some q) : gMet l g yJ0_isLatin1_aae02 wsJ0_isLatin1_aae02 rmJ0_isLatin1_aae02 [.ref (gSK g i)] (I, R, J, AI, AJ, AR) (gQi g (fun (z : Int) (w : gS) => I = w.1 ∧ R = w.2.1 ∧ J = w.2.2.1 ∧ AI = w.2.2.2.1 ∧ AJ = w.2.2.2.2.1 ∧ AR = w.2.2.2.2.2 ∧ (z = 1))) := sorry
def rmJ0_length_8abf5 : Room := { frames := 1, cells := 0, slots := 0, locals := 20 }
theorem hdJ0_length_8abf5 : yJ0_length_8abf5.cls = RJ0 ∧ yJ0_length_8abf5.cls ≠ "java/lang/invoke/MethodHandle" ∧ yJ0_length_8abf5.cls ≠ "java/lang/invoke/VarHandle" ∧ (parseMethodDescriptor yJ0_length_8abf5.desc).map (fun d => d.parameters.length) = some 0 := sorry
set_option maxHeartbeats 4000000 in
set_option maxRecDepth 100000 in
theorem c_J0_length_8abf5 (l : Launch) (g : gG) (i : Nat) (q : String × Nat × String × List Int32) (I : gI) (R : gR) (J : gJ) (AI : gI) (AJ : gJ) (AR : gR)  (hq : sTab[i]? = some q) : gMet l g yJ0_length_8abf5 wsJ0_length_8abf5 rmJ0_length_8abf5 [.ref (gSK g i)] (I, R, J, AI, AJ, AR) (gQi g (fun (z : Int) (w : gS) => I = w.1 ∧ R = w.2.1 ∧ J = w.2.2.1 ∧ AI = w.2.2.2.1 ∧ AJ = w.2.2.2.2.1 ∧ AR = w.2.2.2.2.2 ∧ (z = ((q.2.2.2.length : Nat) : Int)))) := sorry
def rmJ3_checkIndex_8e157n : Room := { frames := 0, cells := 0, slots := 0, locals := 0 }
set_option maxHeartbeats 4000000 in
set_option maxRecDepth 100000 in
theorem c_J3_checkIndex_8e157n (l : Launch) (g : gG)  (I : gI) (R : gR) (J : gJ) (AI : gI) (AJ : gJ) (AR : gR) (k : Int) (n : Int) (zk : zr k) (zn : zr n) (h0 : 0 ≤ k) (h1 : k < n) : gMet l g yJ3_checkIndex_8e157 wsJ3_checkIndex_8e157 rmJ3_checkIndex_8e157n [.int (iI k), .int (iI n), .null] (I, R, J, AI, AJ, AR) (gQi g (fun (z : Int) (w : gS) => I = w.1 ∧ R = w.2.1 ∧ J = w.2.2.1 ∧ AI = w.2.2.2.1 ∧ AJ = w.2.2.2.2.1 ∧ AR = w.2.2.2.2.2)) := sorry
def rmJ3_checkIndex_8e157 : Room := { frames := 0, cells := 0, slots := 0, locals := 0 }
theorem hdJ3_checkIndex_8e157 : yJ3_checkIndex_8e157.cls = RJ3 ∧ yJ3_checkIndex_8e157.cls ≠ "java/lang/invoke/MethodHandle" ∧ yJ3_checkIndex_8e157.cls ≠ "java/lang/invoke/VarHandle" ∧ (parseMethodDescriptor yJ3_checkIndex_8e157.desc).map (fun d => d.parameters.length) = some 3 := sorry
set_option maxHeartbeats 4000000 in
set_option maxRecDepth 100000 in
theorem c_J3_checkIndex_8e157 (l : Launch) (g : gG)  (I : gI) (R : gR) (J : gJ) (AI : gI) (AJ : gJ) (AR : gR) (k : Int) (n : Int) (f : Nat) (zk : zr k) (zn : zr n) (h0 : 0 ≤ k) (h1 : k < n) : gMet l g yJ3_checkIndex_8e157 wsJ3_checkIndex_8e157 rmJ3_checkIndex_8e157 [.int (iI k), .int (iI n), .ref f] (I, R, J, AI, AJ, AR) (gQi g (fun (z : Int) (w : gS) => I = w.1 ∧ R = w.2.1 ∧ J = w.2.2.1 ∧ AI = w.2.2.2.1 ∧ AJ = w.2.2.2.2.1 ∧ AR = w.2.2.2.2.2)) := sorry
def rmJ0_checkIndex_df160 : Room := { frames := 1, cells := 0, slots := 0, locals := 22 }
theorem hdJ0_checkIndex_df160 : yJ0_checkIndex_df160.cls = RJ0 ∧ yJ0_checkIndex_df160.cls ≠ "java/lang/invoke/MethodHandle" ∧ yJ0_checkIndex_df160.cls ≠ "java/lang/invoke/VarHandle" ∧ (parseMethodDescriptor yJ0_checkIndex_df160.desc).map (fun d => d.parameters.length) = some 2 := sorry
set_option maxHeartbeats 4000000 in
set_option maxRecDepth 100000 in
theorem c_J0_checkIndex_df160 (l : Launch) (g : gG)  (I : gI) (R : gR) (J : gJ) (AI : gI) (AJ : gJ) (AR : gR) (k : Int) (n : Int) (zk : zr k) (zn : zr n) (h0 : 0 ≤ k) (h1 : k < n) : gMet l g yJ0_checkIndex_df160 wsJ0_checkIndex_df160 rmJ0_checkIndex_df160 [.int (iI k), .int (iI n)] (I, R, J, AI, AJ, AR) (gQv g (fun w : gS => I = w.1 ∧ R = w.2.1 ∧ J = w.2.2.1 ∧ AI = w.2.2.2.1 ∧ AJ = w.2.2.2.2.1 ∧ AR = w.2.2.2.2.2)) := sorry
theorem hdJ1_charAt_3b067 : yJ1_charAt_3b067.cls = RJ1 ∧ yJ1_charAt_3b067.cls ≠ "java/lang/invoke/MethodHandle" ∧ yJ1_charAt_3b067.cls ≠ "java/lang/invoke/VarHandle" ∧ (parseMethodDescriptor yJ1_charAt_3b067.desc).map (fun d => d.parameters.length) = some 2 := sorry
theorem hdJ0_charAt_5068e : yJ0_charAt_5068e.cls = RJ0 ∧ yJ0_charAt_5068e.cls ≠ "java/lang/invoke/MethodHandle" ∧ yJ0_charAt_5068e.cls ≠ "java/lang/invoke/VarHandle" ∧ (parseMethodDescriptor yJ0_charAt_5068e.desc).map (fun d => d.parameters.length) = some 1 := sorry
theorem hdJ1_canEncode_9a6ad : yJ1_canEncode_9a6ad.cls = RJ1 ∧ yJ1_canEncode_9a6ad.cls ≠ "java/lang/invoke/MethodHandle" ∧ yJ1_canEncode_9a6ad.cls ≠ "java/lang/invoke/VarHandle" ∧ (parseMethodDescriptor yJ1_canEncode_9a6ad.desc).map (fun d => d.parameters.length) = some 1 := sorry
theorem hdJ1_indexOfChar_4cfef : yJ1_indexOfChar_4cfef.cls = RJ1 ∧ yJ1_indexOfChar_4cfef.cls ≠ "java/lang/invoke/MethodHandle" ∧ yJ1_indexOfChar_4cfef.cls ≠ "java/lang/invoke/VarHandle" ∧ (parseMethodDescriptor yJ1_indexOfChar_4cfef.desc).map (fun d => d.parameters.length) = some 4 := sorry
theorem hdJ1_indexOf_4cfef : yJ1_indexOf_4cfef.cls = RJ1 ∧ yJ1_indexOf_4cfef.cls ≠ "java/lang/invoke/MethodHandle" ∧ yJ1_indexOf_4cfef.cls ≠ "java/lang/invoke/VarHandle" ∧ (parseMethodDescriptor yJ1_indexOf_4cfef.desc).map (fun d => d.parameters.length) = some 4 := sorry
theorem hdJ0_indexOf_7cf53 : yJ0_indexOf_7cf53.cls = RJ0 ∧ yJ0_indexOf_7cf53.cls ≠ "java/lang/invoke/MethodHandle" ∧ yJ0_indexOf_7cf53.cls ≠ "java/lang/invoke/VarHandle" ∧ (parseMethodDescriptor yJ0_indexOf_7cf53.desc).map (fun d => d.parameters.length) = some 2 := sorry
theorem hdJ0_indexOf_0f7a4 : yJ0_indexOf_0f7a4.cls = RJ0 ∧ yJ0_indexOf_0f7a4.cls ≠ "java/lang/invoke/MethodHandle" ∧ yJ0_indexOf_0f7a4.cls ≠ "java/lang/invoke/VarHandle" ∧ (parseMethodDescriptor yJ0_indexOf_0f7a4.desc).map (fun d => d.parameters.length) = some 1 := sorry

end

section
def rmX4_cell : Room := { frames := 0, cells := 0, slots := 0, locals := 0 }
theorem hdX4_cell : yX4_cell.cls = RX4 ∧ yX4_cell.cls ≠ "java/lang/invoke/MethodHandle" ∧ yX4_cell.cls ≠ "java/lang/invoke/VarHandle" ∧ (parseMethodDescriptor yX4_cell.desc).map (fun d => d.parameters.length) = some 2 := sorry
set_option maxHeartbeats 4000000 in
set_option maxRecDepth 100000 in
/-- the cell at a row and a place -/
theorem c_X4_cell (l : Launch) (g : gG) (gh : gGh) (I : gI) (R : gR) (J : gJ) (AI : gI) (AJ : gJ) (AR : gR) (a : Nat) (row : Int) (place : Int) (zrow : zr row) (zplace : zr place) (hv : gInv g gh R AR I AI) (ha : gO g a 4) (h0 : 0 ≤ row) (h1 : row < (gh 1 a : Int)) (h2 : 0 ≤ place) (h3 : place ≤ 5) : gMet l g yX4_cell wsX4_cell rmX4_cell [.ref a, .int (iI row), .int (iI place)] (I, R, J, AI, AJ, AR) (gQi g (fun (z : Int) (w : gS) => I = w.1 ∧ R = w.2.1 ∧ J = w.2.2.1 ∧ AI = w.2.2.2.1 ∧ AJ = w.2.2.2.2.1 ∧ AR = w.2.2.2.2.2 ∧ (z = (AI (gh 0 a) (row * 6 + place).toNat).toInt))) := sorry
def rmX4_setCell : Room := { frames := 0, cells := 0, slots := 0, locals := 0 }
theorem hdX4_setCell : yX4_setCell.cls = RX4 ∧ yX4_setCell.cls ≠ "java/lang/invoke/MethodHandle" ∧ yX4_setCell.cls ≠ "java/lang/invoke/VarHandle" ∧ (parseMethodDescriptor yX4_setCell.desc).map (fun d => d.parameters.length) = some 3 := sorry
set_option maxHeartbeats 4000000 in
set_option maxRecDepth 100000 in
/-- sets one cell -/
theorem c_X4_setCell (l : Launch) (g : gG) (gh : gGh) (I : gI) (R : gR) (J : gJ) (AI : gI) (AJ : gJ) (AR : gR) (a : Nat) (row : Int) (place : Int) (v : Int) (zrow : zr row) (zplace : zr place) (zv : zr v) (hv : gInv g gh R AR I AI) (ha : gO g a 4) (h0 : 0 ≤ row) (h1 : row < (gh 1 a : Int)) (h2 : 0 ≤ place) (h3 : place ≤ 5) (h5 : gh 2 a = 5 → place ≠ 0) (hfz : gh 2 a = 5 → gh 42 0 = 1 → a ≠ gh 37 0) : gMet l g yX4_setCell wsX4_setCell rmX4_setCell [.ref a, .int (iI row), .int (iI place), .int (iI v)] (I, R, J, AI, AJ, AR) (gQv g (fun w : gS => I = w.1 ∧ R = w.2.1 ∧ J = w.2.2.1 ∧ AJ = w.2.2.2.2.1 ∧ AR = w.2.2.2.2.2 ∧ ((w.2.2.2.1) = gup2 AI (gh 0 a) (row * 6 + place).toNat (iI v)) ∧ (gInv g gh R AR I (w.2.2.2.1)) ∧ (∀ b, b ≠ gh 0 a → (w.2.2.2.1) b = AI b))) := sorry
def rmX4_amount : Room := { frames := 0, cells := 0, slots := 0, locals := 0 }
theorem hdX4_amount : yX4_amount.cls = RX4 ∧ yX4_amount.cls ≠ "java/lang/invoke/MethodHandle" ∧ yX4_amount.cls ≠ "java/lang/invoke/VarHandle" ∧ (parseMethodDescriptor yX4_amount.desc).map (fun d => d.parameters.length) = some 1 := sorry
set_option maxHeartbeats 4000000 in
set_option maxRecDepth 100000 in
/-- the amount of a row -/
theorem c_X4_amount (l : Launch) (g : gG) (gh : gGh) (I : gI) (R : gR) (J : gJ) (AI : gI) (AJ : gJ) (AR : gR) (a : Nat) (row : Int) (zrow : zr row) (hv : gInv g gh R AR I AI) (ha : gO g a 4) (h0 : 0 ≤ row) (h1 : row < (gh 1 a : Int)) : gMet l g yX4_amount wsX4_amount rmX4_amount [.ref a, .int (iI row)] (I, R, J, AI, AJ, AR) (gQi g (fun (z : Int) (w : gS) => I = w.1 ∧ R = w.2.1 ∧ J = w.2.2.1 ∧ AI = w.2.2.2.1 ∧ AJ = w.2.2.2.2.1 ∧ AR = w.2.2.2.2.2 ∧ (z = (AI (gh 0 a) (row * 6 + (I a 0).toInt).toNat).toInt))) := sorry
theorem hdX4_copyKey : yX4_copyKey.cls = RX4 ∧ yX4_copyKey.cls ≠ "java/lang/invoke/MethodHandle" ∧ yX4_copyKey.cls ≠ "java/lang/invoke/VarHandle" ∧ (parseMethodDescriptor yX4_copyKey.desc).map (fun d => d.parameters.length) = some 3 := sorry
theorem hdX4_compareRow : yX4_compareRow.cls = RX4 ∧ yX4_compareRow.cls ≠ "java/lang/invoke/MethodHandle" ∧ yX4_compareRow.cls ≠ "java/lang/invoke/VarHandle" ∧ (parseMethodDescriptor yX4_compareRow.desc).map (fun d => d.parameters.length) = some 3 := sorry
theorem hdX4_find : yX4_find.cls = RX4 ∧ yX4_find.cls ≠ "java/lang/invoke/MethodHandle" ∧ yX4_find.cls ≠ "java/lang/invoke/VarHandle" ∧ (parseMethodDescriptor yX4_find.desc).map (fun d => d.parameters.length) = some 1 := sorry
theorem hdX4_amountOf : yX4_amountOf.cls = RX4 ∧ yX4_amountOf.cls ≠ "java/lang/invoke/MethodHandle" ∧ yX4_amountOf.cls ≠ "java/lang/invoke/VarHandle" ∧ (parseMethodDescriptor yX4_amountOf.desc).map (fun d => d.parameters.length) = some 1 := sorry
theorem hdX4_insert : yX4_insert.cls = RX4 ∧ yX4_insert.cls ≠ "java/lang/invoke/MethodHandle" ∧ yX4_insert.cls ≠ "java/lang/invoke/VarHandle" ∧ (parseMethodDescriptor yX4_insert.desc).map (fun d => d.parameters.length) = some 3 := sorry
theorem hdX4_removeRow : yX4_removeRow.cls = RX4 ∧ yX4_removeRow.cls ≠ "java/lang/invoke/MethodHandle" ∧ yX4_removeRow.cls ≠ "java/lang/invoke/VarHandle" ∧ (parseMethodDescriptor yX4_removeRow.desc).map (fun d => d.parameters.length) = some 1 := sorry
theorem hdX4_addAmount : yX4_addAmount.cls = RX4 ∧ yX4_addAmount.cls ≠ "java/lang/invoke/MethodHandle" ∧ yX4_addAmount.cls ≠ "java/lang/invoke/VarHandle" ∧ (parseMethodDescriptor yX4_addAmount.desc).map (fun d => d.parameters.length) = some 2 := sorry
theorem hdX4_append : yX4_append.cls = RX4 ∧ yX4_append.cls ≠ "java/lang/invoke/MethodHandle" ∧ yX4_append.cls ≠ "java/lang/invoke/VarHandle" ∧ (parseMethodDescriptor yX4_append.desc).map (fun d => d.parameters.length) = some 3 := sorry
theorem hdX4_orderOfHeads : yX4_orderOfHeads.cls = RX4 ∧ yX4_orderOfHeads.cls ≠ "java/lang/invoke/MethodHandle" ∧ yX4_orderOfHeads.cls ≠ "java/lang/invoke/VarHandle" ∧ (parseMethodDescriptor yX4_orderOfHeads.desc).map (fun d => d.parameters.length) = some 4 := sorry
theorem hdX4_gather : yX4_gather.cls = RX4 ∧ yX4_gather.cls ≠ "java/lang/invoke/MethodHandle" ∧ yX4_gather.cls ≠ "java/lang/invoke/VarHandle" ∧ (parseMethodDescriptor yX4_gather.desc).map (fun d => d.parameters.length) = some 3 := sorry

end

section
theorem hdX0_clear : yX0_clear.cls = RX0 ∧ yX0_clear.cls ≠ "java/lang/invoke/MethodHandle" ∧ yX0_clear.cls ≠ "java/lang/invoke/VarHandle" ∧ (parseMethodDescriptor yX0_clear.desc).map (fun d => d.parameters.length) = some 1 := sorry
def rmX0_lastLetter : Room := { frames := 0, cells := 0, slots := 0, locals := 0 }
theorem hdX0_lastLetter : yX0_lastLetter.cls = RX0 ∧ yX0_lastLetter.cls ≠ "java/lang/invoke/MethodHandle" ∧ yX0_lastLetter.cls ≠ "java/lang/invoke/VarHandle" ∧ (parseMethodDescriptor yX0_lastLetter.desc).map (fun d => d.parameters.length) = some 0 := sorry
set_option maxHeartbeats 4000000 in
set_option maxRecDepth 100000 in
/-- a letter -/
theorem c_X0_lastLetter (l : Launch) (g : gG) (gh : gGh) (I : gI) (R : gR) (J : gJ) (AI : gI) (AJ : gJ) (AR : gR) (a : Nat) (hv : gInv g gh R AR I AI) (ha : gO g a 0) : gMet l g yX0_lastLetter wsX0_lastLetter rmX0_lastLetter [.ref a] (I, R, J, AI, AJ, AR) (gQi g (fun (z : Int) (w : gS) => I = w.1 ∧ R = w.2.1 ∧ J = w.2.2.1 ∧ AI = w.2.2.2.1 ∧ AJ = w.2.2.2.2.1 ∧ AR = w.2.2.2.2.2)) := sorry
def rmX0_firstLetter : Room := { frames := 0, cells := 0, slots := 0, locals := 0 }
theorem hdX0_firstLetter : yX0_firstLetter.cls = RX0 ∧ yX0_firstLetter.cls ≠ "java/lang/invoke/MethodHandle" ∧ yX0_firstLetter.cls ≠ "java/lang/invoke/VarHandle" ∧ (parseMethodDescriptor yX0_firstLetter.desc).map (fun d => d.parameters.length) = some 0 := sorry
set_option maxHeartbeats 4000000 in
set_option maxRecDepth 100000 in
/-- a letter -/
theorem c_X0_firstLetter (l : Launch) (g : gG) (gh : gGh) (I : gI) (R : gR) (J : gJ) (AI : gI) (AJ : gJ) (AR : gR) (a : Nat) (hv : gInv g gh R AR I AI) (ha : gO g a 0) : gMet l g yX0_firstLetter wsX0_firstLetter rmX0_firstLetter [.ref a] (I, R, J, AI, AJ, AR) (gQi g (fun (z : Int) (w : gS) => I = w.1 ∧ R = w.2.1 ∧ J = w.2.2.1 ∧ AI = w.2.2.2.1 ∧ AJ = w.2.2.2.2.1 ∧ AR = w.2.2.2.2.2)) := sorry
theorem hdX0_holds : yX0_holds.cls = RX0 ∧ yX0_holds.cls ≠ "java/lang/invoke/MethodHandle" ∧ yX0_holds.cls ≠ "java/lang/invoke/VarHandle" ∧ (parseMethodDescriptor yX0_holds.desc).map (fun d => d.parameters.length) = some 2 := sorry
theorem hdX0_fillTerms : yX0_fillTerms.cls = RX0 ∧ yX0_fillTerms.cls ≠ "java/lang/invoke/MethodHandle" ∧ yX0_fillTerms.cls ≠ "java/lang/invoke/VarHandle" ∧ (parseMethodDescriptor yX0_fillTerms.desc).map (fun d => d.parameters.length) = some 3 := sorry
theorem hdX0_pairsAreAlike : yX0_pairsAreAlike.cls = RX0 ∧ yX0_pairsAreAlike.cls ≠ "java/lang/invoke/MethodHandle" ∧ yX0_pairsAreAlike.cls ≠ "java/lang/invoke/VarHandle" ∧ (parseMethodDescriptor yX0_pairsAreAlike.desc).map (fun d => d.parameters.length) = some 4 := sorry
theorem hdX0_tellsSecond : yX0_tellsSecond.cls = RX0 ∧ yX0_tellsSecond.cls ≠ "java/lang/invoke/MethodHandle" ∧ yX0_tellsSecond.cls ≠ "java/lang/invoke/VarHandle" ∧ (parseMethodDescriptor yX0_tellsSecond.desc).map (fun d => d.parameters.length) = some 1 := sorry
theorem hdX0_columnsOfJoin : yX0_columnsOfJoin.cls = RX0 ∧ yX0_columnsOfJoin.cls ≠ "java/lang/invoke/MethodHandle" ∧ yX0_columnsOfJoin.cls ≠ "java/lang/invoke/VarHandle" ∧ (parseMethodDescriptor yX0_columnsOfJoin.desc).map (fun d => d.parameters.length) = some 0 := sorry
theorem hdX0_hasColumn : yX0_hasColumn.cls = RX0 ∧ yX0_hasColumn.cls ≠ "java/lang/invoke/MethodHandle" ∧ yX0_hasColumn.cls ≠ "java/lang/invoke/VarHandle" ∧ (parseMethodDescriptor yX0_hasColumn.desc).map (fun d => d.parameters.length) = some 1 := sorry
theorem hdX0_addTest : yX0_addTest.cls = RX0 ∧ yX0_addTest.cls ≠ "java/lang/invoke/MethodHandle" ∧ yX0_addTest.cls ≠ "java/lang/invoke/VarHandle" ∧ (parseMethodDescriptor yX0_addTest.desc).map (fun d => d.parameters.length) = some 4 := sorry
theorem hdX0_addTwo : yX0_addTwo.cls = RX0 ∧ yX0_addTwo.cls ≠ "java/lang/invoke/MethodHandle" ∧ yX0_addTwo.cls ≠ "java/lang/invoke/VarHandle" ∧ (parseMethodDescriptor yX0_addTwo.desc).map (fun d => d.parameters.length) = some 2 := sorry
theorem hdX0_addColumn : yX0_addColumn.cls = RX0 ∧ yX0_addColumn.cls ≠ "java/lang/invoke/MethodHandle" ∧ yX0_addColumn.cls ≠ "java/lang/invoke/VarHandle" ∧ (parseMethodDescriptor yX0_addColumn.desc).map (fun d => d.parameters.length) = some 1 := sorry

end

section
theorem hdX4_copyFrom : yX4_copyFrom.cls = RX4 ∧ yX4_copyFrom.cls ≠ "java/lang/invoke/MethodHandle" ∧ yX4_copyFrom.cls ≠ "java/lang/invoke/VarHandle" ∧ (parseMethodDescriptor yX4_copyFrom.desc).map (fun d => d.parameters.length) = some 1 := sorry
def rmX2_relationOf : Room := { frames := 0, cells := 0, slots := 0, locals := 0 }
theorem hdX2_relationOf : yX2_relationOf.cls = RX2 ∧ yX2_relationOf.cls ≠ "java/lang/invoke/MethodHandle" ∧ yX2_relationOf.cls ≠ "java/lang/invoke/VarHandle" ∧ (parseMethodDescriptor yX2_relationOf.desc).map (fun d => d.parameters.length) = some 1 := sorry
set_option maxHeartbeats 4000000 in
set_option maxRecDepth 100000 in
/-- the relation of a name -/
theorem c_X2_relationOf (l : Launch) (g : gG) (gh : gGh) (I : gI) (R : gR) (J : gJ) (AI : gI) (AJ : gJ) (AR : gR) (a : Nat) (nm : Int64) (hv : gInv g gh R AR I AI) (ha : gO g a 2) : gMet l g yX2_relationOf wsX2_relationOf rmX2_relationOf [.ref a, .long nm] (I, R, J, AI, AJ, AR) (gQi g (fun (z : Int) (w : gS) => I = w.1 ∧ R = w.2.1 ∧ J = w.2.2.1 ∧ AI = w.2.2.2.1 ∧ AJ = w.2.2.2.2.1 ∧ AR = w.2.2.2.2.2 ∧ ((z = -1 ∧ ∀ j : Nat, (j : Int) < (I a 1).toInt → ∀ b, AR (gh 6 a) j = some b → J b 1 ≠ nm) ∨ (0 ≤ z ∧ z < (I a 1).toInt ∧ ∃ b, AR (gh 6 a) z.toNat = some b ∧ J b 1 = nm)))) := sorry
def rmX2_hangingOn : Room := { frames := 0, cells := 0, slots := 0, locals := 0 }
theorem hdX2_hangingOn : yX2_hangingOn.cls = RX2 ∧ yX2_hangingOn.cls ≠ "java/lang/invoke/MethodHandle" ∧ yX2_hangingOn.cls ≠ "java/lang/invoke/VarHandle" ∧ (parseMethodDescriptor yX2_hangingOn.desc).map (fun d => d.parameters.length) = some 1 := sorry
set_option maxHeartbeats 4000000 in
set_option maxRecDepth 100000 in
/-- what hangs on a relation -/
theorem c_X2_hangingOn (l : Launch) (g : gG) (gh : gGh) (I : gI) (R : gR) (J : gJ) (AI : gI) (AJ : gJ) (AR : gR) (a : Nat) (rel : Int) (zrel : zr rel) (hv : gInv g gh R AR I AI) (ha : gO g a 2) : gMet l g yX2_hangingOn wsX2_hangingOn rmX2_hangingOn [.ref a, .int (iI rel)] (I, R, J, AI, AJ, AR) (gQi g (fun (z : Int) (w : gS) => I = w.1 ∧ R = w.2.1 ∧ J = w.2.2.1 ∧ AI = w.2.2.2.1 ∧ AJ = w.2.2.2.2.1 ∧ AR = w.2.2.2.2.2)) := sorry
def rmX2_hang : Room := { frames := 1, cells := 0, slots := 0, locals := 40 }
theorem hdX2_hang : yX2_hang.cls = RX2 ∧ yX2_hang.cls ≠ "java/lang/invoke/MethodHandle" ∧ yX2_hang.cls ≠ "java/lang/invoke/VarHandle" ∧ (parseMethodDescriptor yX2_hang.desc).map (fun d => d.parameters.length) = some 2 := sorry
set_option maxHeartbeats 4000000 in
set_option maxRecDepth 100000 in
/-- a line hangs on a relation -/
theorem c_X2_hang (l : Launch) (g : gG) (gh : gGh) (I : gI) (R : gR) (J : gJ) (AI : gI) (AJ : gJ) (AR : gR) (a : Nat) (ln : Nat) (rel : Int) (zrel : zr rel) (hv : gInv g gh R AR I AI) (ha : gO g a 2) (hln : gO g ln 0) (h0 : -1 ≤ rel ∧ rel ≤ 15) : gMet l g yX2_hang wsX2_hang rmX2_hang [.ref a, .ref ln, .int (iI rel)] (I, R, J, AI, AJ, AR) (gQv g (fun w : gS => R = w.2.1 ∧ J = w.2.2.1 ∧ AI = w.2.2.2.1 ∧ AJ = w.2.2.2.2.1 ∧ AR = w.2.2.2.2.2 ∧ (gInv g gh R AR (w.1) AI) ∧ (∀ b j, j ≠ 13 → j ≠ 14 → (w.1) b j = I b j) ∧ (∀ q, q ≠ ln → (w.1) q = I q))) := sorry
theorem hdX2_keepLine : yX2_keepLine.cls = RX2 ∧ yX2_keepLine.cls ≠ "java/lang/invoke/MethodHandle" ∧ yX2_keepLine.cls ≠ "java/lang/invoke/VarHandle" ∧ (parseMethodDescriptor yX2_keepLine.desc).map (fun d => d.parameters.length) = some 0 := sorry

end

section
theorem hdX1_isKind : yX1_isKind.cls = RX1 ∧ yX1_isKind.cls ≠ "java/lang/invoke/MethodHandle" ∧ yX1_isKind.cls ≠ "java/lang/invoke/VarHandle" ∧ (parseMethodDescriptor yX1_isKind.desc).map (fun d => d.parameters.length) = some 1 := sorry
theorem hdX1_isWord : yX1_isWord.cls = RX1 ∧ yX1_isWord.cls ≠ "java/lang/invoke/MethodHandle" ∧ yX1_isWord.cls ≠ "java/lang/invoke/VarHandle" ∧ (parseMethodDescriptor yX1_isWord.desc).map (fun d => d.parameters.length) = some 1 := sorry
theorem hdX1_step : yX1_step.cls = RX1 ∧ yX1_step.cls ≠ "java/lang/invoke/MethodHandle" ∧ yX1_step.cls ≠ "java/lang/invoke/VarHandle" ∧ (parseMethodDescriptor yX1_step.desc).map (fun d => d.parameters.length) = some 0 := sorry
theorem hdX1_seeColumn : yX1_seeColumn.cls = RX1 ∧ yX1_seeColumn.cls ≠ "java/lang/invoke/MethodHandle" ∧ yX1_seeColumn.cls ≠ "java/lang/invoke/VarHandle" ∧ (parseMethodDescriptor yX1_seeColumn.desc).map (fun d => d.parameters.length) = some 1 := sorry
theorem hdX1_takeKind : yX1_takeKind.cls = RX1 ∧ yX1_takeKind.cls ≠ "java/lang/invoke/MethodHandle" ∧ yX1_takeKind.cls ≠ "java/lang/invoke/VarHandle" ∧ (parseMethodDescriptor yX1_takeKind.desc).map (fun d => d.parameters.length) = some 1 := sorry
theorem hdX1_takeWord : yX1_takeWord.cls = RX1 ∧ yX1_takeWord.cls ≠ "java/lang/invoke/MethodHandle" ∧ yX1_takeWord.cls ≠ "java/lang/invoke/VarHandle" ∧ (parseMethodDescriptor yX1_takeWord.desc).map (fun d => d.parameters.length) = some 1 := sorry
theorem hdX1_seeRelation : yX1_seeRelation.cls = RX1 ∧ yX1_seeRelation.cls ≠ "java/lang/invoke/MethodHandle" ∧ yX1_seeRelation.cls ≠ "java/lang/invoke/VarHandle" ∧ (parseMethodDescriptor yX1_seeRelation.desc).map (fun d => d.parameters.length) = some 0 := sorry
theorem hdX1_readFirst : yX1_readFirst.cls = RX1 ∧ yX1_readFirst.cls ≠ "java/lang/invoke/MethodHandle" ∧ yX1_readFirst.cls ≠ "java/lang/invoke/VarHandle" ∧ (parseMethodDescriptor yX1_readFirst.desc).map (fun d => d.parameters.length) = some 0 := sorry
theorem hdX1_readSecond : yX1_readSecond.cls = RX1 ∧ yX1_readSecond.cls ≠ "java/lang/invoke/MethodHandle" ∧ yX1_readSecond.cls ≠ "java/lang/invoke/VarHandle" ∧ (parseMethodDescriptor yX1_readSecond.desc).map (fun d => d.parameters.length) = some 0 := sorry
theorem hdX1_readTest : yX1_readTest.cls = RX1 ∧ yX1_readTest.cls ≠ "java/lang/invoke/MethodHandle" ∧ yX1_readTest.cls ≠ "java/lang/invoke/VarHandle" ∧ (parseMethodDescriptor yX1_readTest.desc).map (fun d => d.parameters.length) = some 0 := sorry
theorem hdX1_readTests : yX1_readTests.cls = RX1 ∧ yX1_readTests.cls ≠ "java/lang/invoke/MethodHandle" ∧ yX1_readTests.cls ≠ "java/lang/invoke/VarHandle" ∧ (parseMethodDescriptor yX1_readTests.desc).map (fun d => d.parameters.length) = some 0 := sorry
theorem hdX1_readTerm : yX1_readTerm.cls = RX1 ∧ yX1_readTerm.cls ≠ "java/lang/invoke/MethodHandle" ∧ yX1_readTerm.cls ≠ "java/lang/invoke/VarHandle" ∧ (parseMethodDescriptor yX1_readTerm.desc).map (fun d => d.parameters.length) = some 1 := sorry
theorem hdX1_readTerms : yX1_readTerms.cls = RX1 ∧ yX1_readTerms.cls ≠ "java/lang/invoke/MethodHandle" ∧ yX1_readTerms.cls ≠ "java/lang/invoke/VarHandle" ∧ (parseMethodDescriptor yX1_readTerms.desc).map (fun d => d.parameters.length) = some 1 := sorry
theorem hdX1_readPair : yX1_readPair.cls = RX1 ∧ yX1_readPair.cls ≠ "java/lang/invoke/MethodHandle" ∧ yX1_readPair.cls ≠ "java/lang/invoke/VarHandle" ∧ (parseMethodDescriptor yX1_readPair.desc).map (fun d => d.parameters.length) = some 1 := sorry
theorem hdX1_readPairs : yX1_readPairs.cls = RX1 ∧ yX1_readPairs.cls ≠ "java/lang/invoke/MethodHandle" ∧ yX1_readPairs.cls ≠ "java/lang/invoke/VarHandle" ∧ (parseMethodDescriptor yX1_readPairs.desc).map (fun d => d.parameters.length) = some 0 := sorry
theorem hdX1_readSelect : yX1_readSelect.cls = RX1 ∧ yX1_readSelect.cls ≠ "java/lang/invoke/MethodHandle" ∧ yX1_readSelect.cls ≠ "java/lang/invoke/VarHandle" ∧ (parseMethodDescriptor yX1_readSelect.desc).map (fun d => d.parameters.length) = some 0 := sorry
theorem hdX1_readProject : yX1_readProject.cls = RX1 ∧ yX1_readProject.cls ≠ "java/lang/invoke/MethodHandle" ∧ yX1_readProject.cls ≠ "java/lang/invoke/VarHandle" ∧ (parseMethodDescriptor yX1_readProject.desc).map (fun d => d.parameters.length) = some 0 := sorry
theorem hdX1_readJoin : yX1_readJoin.cls = RX1 ∧ yX1_readJoin.cls ≠ "java/lang/invoke/MethodHandle" ∧ yX1_readJoin.cls ≠ "java/lang/invoke/VarHandle" ∧ (parseMethodDescriptor yX1_readJoin.desc).map (fun d => d.parameters.length) = some 0 := sorry
theorem hdX1_readDistinct : yX1_readDistinct.cls = RX1 ∧ yX1_readDistinct.cls ≠ "java/lang/invoke/MethodHandle" ∧ yX1_readDistinct.cls ≠ "java/lang/invoke/VarHandle" ∧ (parseMethodDescriptor yX1_readDistinct.desc).map (fun d => d.parameters.length) = some 0 := sorry
theorem hdX1_readTwoAlike : yX1_readTwoAlike.cls = RX1 ∧ yX1_readTwoAlike.cls ≠ "java/lang/invoke/MethodHandle" ∧ yX1_readTwoAlike.cls ≠ "java/lang/invoke/VarHandle" ∧ (parseMethodDescriptor yX1_readTwoAlike.desc).map (fun d => d.parameters.length) = some 0 := sorry
theorem hdX1_readByColumn : yX1_readByColumn.cls = RX1 ∧ yX1_readByColumn.cls ≠ "java/lang/invoke/MethodHandle" ∧ yX1_readByColumn.cls ≠ "java/lang/invoke/VarHandle" ∧ (parseMethodDescriptor yX1_readByColumn.desc).map (fun d => d.parameters.length) = some 0 := sorry
theorem hdX1_readByColumns : yX1_readByColumns.cls = RX1 ∧ yX1_readByColumns.cls ≠ "java/lang/invoke/MethodHandle" ∧ yX1_readByColumns.cls ≠ "java/lang/invoke/VarHandle" ∧ (parseMethodDescriptor yX1_readByColumns.desc).map (fun d => d.parameters.length) = some 0 := sorry
theorem hdX1_readFold : yX1_readFold.cls = RX1 ∧ yX1_readFold.cls ≠ "java/lang/invoke/MethodHandle" ∧ yX1_readFold.cls ≠ "java/lang/invoke/VarHandle" ∧ (parseMethodDescriptor yX1_readFold.desc).map (fun d => d.parameters.length) = some 0 := sorry
theorem hdX1_readGroup : yX1_readGroup.cls = RX1 ∧ yX1_readGroup.cls ≠ "java/lang/invoke/MethodHandle" ∧ yX1_readGroup.cls ≠ "java/lang/invoke/VarHandle" ∧ (parseMethodDescriptor yX1_readGroup.desc).map (fun d => d.parameters.length) = some 0 := sorry
theorem hdX1_readRing : yX1_readRing.cls = RX1 ∧ yX1_readRing.cls ≠ "java/lang/invoke/MethodHandle" ∧ yX1_readRing.cls ≠ "java/lang/invoke/VarHandle" ∧ (parseMethodDescriptor yX1_readRing.desc).map (fun d => d.parameters.length) = some 0 := sorry
theorem hdX1_readTableColumns : yX1_readTableColumns.cls = RX1 ∧ yX1_readTableColumns.cls ≠ "java/lang/invoke/MethodHandle" ∧ yX1_readTableColumns.cls ≠ "java/lang/invoke/VarHandle" ∧ (parseMethodDescriptor yX1_readTableColumns.desc).map (fun d => d.parameters.length) = some 0 := sorry

end

section
theorem gInv_Rplan {g : gG} {gh : gGh} {R AR : gR} {I AI : gI} {a b : Nat} (hv : gInv g gh R AR I AI) (ha : gO g a 1) (hb : gO g b 2) : gInv g gh (gup2 R a 1 (some b)) AR I AI := sorry

end

section
theorem hdX1_ringIsUnlike : yX1_ringIsUnlike.cls = RX1 ∧ yX1_ringIsUnlike.cls ≠ "java/lang/invoke/MethodHandle" ∧ yX1_ringIsUnlike.cls ≠ "java/lang/invoke/VarHandle" ∧ (parseMethodDescriptor yX1_ringIsUnlike.desc).map (fun d => d.parameters.length) = some 0 := sorry
theorem hdX1_readClose : yX1_readClose.cls = RX1 ∧ yX1_readClose.cls ≠ "java/lang/invoke/MethodHandle" ∧ yX1_readClose.cls ≠ "java/lang/invoke/VarHandle" ∧ (parseMethodDescriptor yX1_readClose.desc).map (fun d => d.parameters.length) = some 0 := sorry
theorem hdX1_readBody : yX1_readBody.cls = RX1 ∧ yX1_readBody.cls ≠ "java/lang/invoke/MethodHandle" ∧ yX1_readBody.cls ≠ "java/lang/invoke/VarHandle" ∧ (parseMethodDescriptor yX1_readBody.desc).map (fun d => d.parameters.length) = some 0 := sorry
theorem hdX1_readNewName : yX1_readNewName.cls = RX1 ∧ yX1_readNewName.cls ≠ "java/lang/invoke/MethodHandle" ∧ yX1_readNewName.cls ≠ "java/lang/invoke/VarHandle" ∧ (parseMethodDescriptor yX1_readNewName.desc).map (fun d => d.parameters.length) = some 0 := sorry
theorem hdX1_readViewKind : yX1_readViewKind.cls = RX1 ∧ yX1_readViewKind.cls ≠ "java/lang/invoke/MethodHandle" ∧ yX1_readViewKind.cls ≠ "java/lang/invoke/VarHandle" ∧ (parseMethodDescriptor yX1_readViewKind.desc).map (fun d => d.parameters.length) = some 0 := sorry
theorem hdX1_readHead : yX1_readHead.cls = RX1 ∧ yX1_readHead.cls ≠ "java/lang/invoke/MethodHandle" ∧ yX1_readHead.cls ≠ "java/lang/invoke/VarHandle" ∧ (parseMethodDescriptor yX1_readHead.desc).map (fun d => d.parameters.length) = some 0 := sorry
def rmX1_exchangePlan : Room := { frames := 0, cells := 0, slots := 0, locals := 0 }
theorem hdX1_exchangePlan : yX1_exchangePlan.cls = RX1 ∧ yX1_exchangePlan.cls ≠ "java/lang/invoke/MethodHandle" ∧ yX1_exchangePlan.cls ≠ "java/lang/invoke/VarHandle" ∧ (parseMethodDescriptor yX1_exchangePlan.desc).map (fun d => d.parameters.length) = some 1 := sorry
set_option maxHeartbeats 4000000 in
set_option maxRecDepth 100000 in
/-- exchanges the plan -/
theorem c_X1_exchangePlan (l : Launch) (g : gG) (gh : gGh) (q : Nat) (I : gI) (R : gR) (J : gJ) (AI : gI) (AJ : gJ) (AR : gR) (a : Nat) (pl : Nat) (hv : gInv g gh R AR I AI) (h1 : gO g a 1) (hold : gO g pl 2) (hRq : R a 1 = some q) (hq : gO g q 2) : gMet l g yX1_exchangePlan wsX1_exchangePlan rmX1_exchangePlan [.ref a, .ref pl] (I, R, J, AI, AJ, AR) (gQr g (fun (z : Nat) (w : gS) => I = w.1 ∧ J = w.2.2.1 ∧ AI = w.2.2.2.1 ∧ AJ = w.2.2.2.2.1 ∧ AR = w.2.2.2.2.2 ∧ (gInv g gh (w.2.1) AR I AI) ∧ (∀ b, b ≠ a → (w.2.1) b = R b) ∧ (q = z) ∧ ((w.2.1) a 1 = some pl))) := sorry

end

section
section ReckInv
variable {g : gG} {gh : gGh} {R AR : gR} {I AI : gI} {a : Nat}
theorem gR_rk0 (hv : gInv g gh R AR I AI) (ha : gO g a 3) : R a 0 = some (gh 30 0) ∧ gAr g (gh 30 0) 9 5 := sorry
theorem gR_rk1 (hv : gInv g gh R AR I AI) (ha : gO g a 3) : R a 1 = some (gh 31 0) ∧ gAr g (gh 31 0) 9 8 := sorry
theorem gR_rk2 (hv : gInv g gh R AR I AI) (ha : gO g a 3) : R a 2 = some (gh 32 0) ∧ gAr g (gh 32 0) 9 480 := sorry
theorem ro30 (hv : gInv g gh R AR I AI) (ha : gO g a 3) : gh 9 (gh 30 0) = 0 := sorry
theorem ro31 (hv : gInv g gh R AR I AI) (ha : gO g a 3) : gh 9 (gh 31 0) = 0 := sorry
theorem ro32 (hv : gInv g gh R AR I AI) (ha : gO g a 3) : gh 9 (gh 32 0) = 0 := sorry
def rF (g : gG) (I I' : gI) : Prop := ∀ b c, gO g b c → c ≠ 4 → I' b = I b
theorem rF_r {I : gI} : rF g I I := sorry
theorem rF_t {I I' I'' : gI} (h : rF g I I') (h' : rF g I' I'') : rF g I I'' := sorry
theorem rF_o {I I' : gI} {o : Nat} (ho : gO g o 4) (f : ∀ b, b ≠ o → I' b = I b) : rF g I I' := sorry
end ReckInv


end

section
theorem hdX3_clearKey : yX3_clearKey.cls = RX3 ∧ yX3_clearKey.cls ≠ "java/lang/invoke/MethodHandle" ∧ yX3_clearKey.cls ≠ "java/lang/invoke/VarHandle" ∧ (parseMethodDescriptor yX3_clearKey.desc).map (fun d => d.parameters.length) = some 0 := sorry
theorem hdX3_select : yX3_select.cls = RX3 ∧ yX3_select.cls ≠ "java/lang/invoke/MethodHandle" ∧ yX3_select.cls ≠ "java/lang/invoke/VarHandle" ∧ (parseMethodDescriptor yX3_select.desc).map (fun d => d.parameters.length) = some 3 := sorry
theorem hdX3_project : yX3_project.cls = RX3 ∧ yX3_project.cls ≠ "java/lang/invoke/MethodHandle" ∧ yX3_project.cls ≠ "java/lang/invoke/VarHandle" ∧ (parseMethodDescriptor yX3_project.desc).map (fun d => d.parameters.length) = some 3 := sorry
theorem hdX3_fillJoined : yX3_fillJoined.cls = RX3 ∧ yX3_fillJoined.cls ≠ "java/lang/invoke/MethodHandle" ∧ yX3_fillJoined.cls ≠ "java/lang/invoke/VarHandle" ∧ (parseMethodDescriptor yX3_fillJoined.desc).map (fun d => d.parameters.length) = some 5 := sorry
theorem hdX3_join : yX3_join.cls = RX3 ∧ yX3_join.cls ≠ "java/lang/invoke/MethodHandle" ∧ yX3_join.cls ≠ "java/lang/invoke/VarHandle" ∧ (parseMethodDescriptor yX3_join.desc).map (fun d => d.parameters.length) = some 4 := sorry
theorem hdX3_distinct : yX3_distinct.cls = RX3 ∧ yX3_distinct.cls ≠ "java/lang/invoke/MethodHandle" ∧ yX3_distinct.cls ≠ "java/lang/invoke/VarHandle" ∧ (parseMethodDescriptor yX3_distinct.desc).map (fun d => d.parameters.length) = some 2 := sorry
theorem hdX3_fold : yX3_fold.cls = RX3 ∧ yX3_fold.cls ≠ "java/lang/invoke/MethodHandle" ∧ yX3_fold.cls ≠ "java/lang/invoke/VarHandle" ∧ (parseMethodDescriptor yX3_fold.desc).map (fun d => d.parameters.length) = some 5 := sorry
theorem hdX3_arrive : yX3_arrive.cls = RX3 ∧ yX3_arrive.cls ≠ "java/lang/invoke/MethodHandle" ∧ yX3_arrive.cls ≠ "java/lang/invoke/VarHandle" ∧ (parseMethodDescriptor yX3_arrive.desc).map (fun d => d.parameters.length) = some 3 := sorry
theorem hdX3_goOn : yX3_goOn.cls = RX3 ∧ yX3_goOn.cls ≠ "java/lang/invoke/MethodHandle" ∧ yX3_goOn.cls ≠ "java/lang/invoke/VarHandle" ∧ (parseMethodDescriptor yX3_goOn.desc).map (fun d => d.parameters.length) = some 5 := sorry
theorem hdX3_ring : yX3_ring.cls = RX3 ∧ yX3_ring.cls ≠ "java/lang/invoke/MethodHandle" ∧ yX3_ring.cls ≠ "java/lang/invoke/VarHandle" ∧ (parseMethodDescriptor yX3_ring.desc).map (fun d => d.parameters.length) = some 4 := sorry
theorem hdX3_group : yX3_group.cls = RX3 ∧ yX3_group.cls ≠ "java/lang/invoke/MethodHandle" ∧ yX3_group.cls ≠ "java/lang/invoke/VarHandle" ∧ (parseMethodDescriptor yX3_group.desc).map (fun d => d.parameters.length) = some 3 := sorry
theorem hdX3_reckon : yX3_reckon.cls = RX3 ∧ yX3_reckon.cls ≠ "java/lang/invoke/MethodHandle" ∧ yX3_reckon.cls ≠ "java/lang/invoke/VarHandle" ∧ (parseMethodDescriptor yX3_reckon.desc).map (fun d => d.parameters.length) = some 3 := sorry

end

section
section BagInv
variable {g : gG} {gh : gGh} {R AR : gR} {I AI : gI} {x : Nat}
theorem gI_x (hv : gInv g gh R AR I AI) (hx : gO g x 6) : 0 ≤ (I x 1).toInt ∧ (I x 1).toInt ≤ 936 ∧ 0 ≤ (I x 14).toInt ∧ (I x 14).toInt ≤ 7 ∧ 0 ≤ (I x 15).toInt ∧ (I x 15).toInt ≤ 8 := sorry
theorem gR_x0 (hv : gInv g gh R AR I AI) (hx : gO g x 6) : R x 0 = some (gh 28 0) ∧ gAr g (gh 28 0) 8 936 := sorry
theorem ro28 (hv : gInv g gh R AR I AI) (hx : gO g x 6) : gh 9 (gh 28 0) = 5 := sorry
theorem gR_x2 (hv : gInv g gh R AR I AI) (hx : gO g x 6) : R x 2 = some (gh 21 0) ∧ gO g (gh 21 0) 1 := sorry
theorem gR_x4 (hv : gInv g gh R AR I AI) (hx : gO g x 6) : R x 4 = some (gh 23 0) ∧ gO g (gh 23 0) 3 := sorry
theorem gR_x7 (hv : gInv g gh R AR I AI) (hx : gO g x 6) : R x 7 = some (gh 35 0) ∧ isRA g gh AR (gh 35 0) 16 240 4 := sorry
theorem gR_x8 (hv : gInv g gh R AR I AI) (hx : gO g x 6) : R x 8 = some (gh 37 0) ∧ isR1 g gh (gh 37 0) 40 5 := sorry
theorem gR_x9 (hv : gInv g gh R AR I AI) (hx : gO g x 6) : R x 9 = some (gh 38 0) ∧ isR1 g gh (gh 38 0) 40 5 := sorry
theorem gR_x10 (hv : gInv g gh R AR I AI) (hx : gO g x 6) : R x 10 = some (gh 39 0) ∧ isR1 g gh (gh 39 0) 40 4 := sorry
theorem gR_x11 (hv : gInv g gh R AR I AI) (hx : gO g x 6) : R x 11 = some (gh 40 0) ∧ isR1 g gh (gh 40 0) 240 4 := sorry
theorem gR_x12 (hv : gInv g gh R AR I AI) (hx : gO g x 6) : R x 12 = some (gh 29 0) ∧ gAr g (gh 29 0) 9 5 := sorry
theorem ro29 (hv : gInv g gh R AR I AI) (hx : gO g x 6) : gh 9 (gh 29 0) = 0 := sorry
theorem gR_x13 (hv : gInv g gh R AR I AI) (hx : gO g x 6) : R x 13 = some (gh 36 0) ∧ isRA g gh AR (gh 36 0) 8 40 5 := sorry
theorem gInv_xK {k : Nat} {v : Int32} (hv : gInv g gh R AR I AI) (hx : gO g x 6) (h : ∀ f : Nat → Int32, (∀ j, j ≠ k → f j = I x j) → f k = v → 0 ≤ (f 1).toInt ∧ (f 1).toInt ≤ 936 ∧ 0 ≤ (f 14).toInt ∧ (f 14).toInt ≤ 7 ∧ 0 ≤ (f 15).toInt ∧ (f 15).toInt ≤ 8) : gInv g gh R AR (gup2 I x k v) AI := sorry
theorem gInv_x1 {z : Int} (hv : gInv g gh R AR I AI) (hx : gO g x 6) (h0 : 0 ≤ z) (h9 : z ≤ 936) : gInv g gh R AR (gup2 I x 1 (iI z)) AI := sorry
theorem gInv_x14 {z : Int} (hv : gInv g gh R AR I AI) (hx : gO g x 6) (h0 : 0 ≤ z) (h9 : z ≤ 7) : gInv g gh R AR (gup2 I x 14 (iI z)) AI := sorry
theorem gInv_x15 {z : Int} (hv : gInv g gh R AR I AI) (hx : gO g x 6) (h0 : 0 ≤ z) (h9 : z ≤ 8) : gInv g gh R AR (gup2 I x 15 (iI z)) AI := sorry
theorem gInv_x16 {v : Int32} (hv : gInv g gh R AR I AI) (hx : gO g x 6) : gInv g gh R AR (gup2 I x 16 v) AI := sorry
theorem gInv_x17 {v : Int32} (hv : gInv g gh R AR I AI) (hx : gO g x 6) : gInv g gh R AR (gup2 I x 17 v) AI := sorry
theorem gInv_Rx {k b : Nat} (hv : gInv g gh R AR I AI) (hx : gO g x 6) (hk : k = 3 ∧ gO g b 2 ∨ (k = 5 ∨ k = 6) ∧ isRA g gh AR b 16 120 4) : gInv g gh (gup2 R x k (some b)) AR I AI := sorry
/-- where the BagTree x has its plan and its bags -/
def xS (g : gG) (gh : gGh) (R AR : gR) (x p bA nA : Nat) : Prop := gO g x 6 ∧ R x 3 = some p ∧ gO g p 2 ∧ R x 5 = some bA ∧ isRA g gh AR bA 16 120 4 ∧ R x 6 = some nA ∧ isRA g gh AR nA 16 120 4
def xF (g : gG) (x : Nat) (I I' : gI) : Prop := (∀ b c, gO g b c → c ≠ 4 → c ≠ 6 → I' b = I b) ∧ I' x 1 = I x 1
theorem xF_r {I : gI} : xF g x I I := sorry
theorem xF_t {I I' I'' : gI} (h : xF g x I I') (h' : xF g x I' I'') : xF g x I I'' := sorry
theorem xF_rF {I I' : gI} (hx : gO g x 6) (h : rF g I I') : xF g x I I' := sorry
theorem xF_k {I : gI} {k : Nat} {v : Int32} (hx : gO g x 6) (hk : k ≠ 1) : xF g x I (gup2 I x k v) := sorry
end BagInv


end

section
theorem hdX6_putBytes : yX6_putBytes.cls = RX6 ∧ yX6_putBytes.cls ≠ "java/lang/invoke/MethodHandle" ∧ yX6_putBytes.cls ≠ "java/lang/invoke/VarHandle" ∧ (parseMethodDescriptor yX6_putBytes.desc).map (fun d => d.parameters.length) = some 1 := sorry
theorem hdX6_feed : yX6_feed.cls = RX6 ∧ yX6_feed.cls ≠ "java/lang/invoke/MethodHandle" ∧ yX6_feed.cls ≠ "java/lang/invoke/VarHandle" ∧ (parseMethodDescriptor yX6_feed.desc).map (fun d => d.parameters.length) = some 3 := sorry
theorem hdX6_end : yX6_end.cls = RX6 ∧ yX6_end.cls ≠ "java/lang/invoke/MethodHandle" ∧ yX6_end.cls ≠ "java/lang/invoke/VarHandle" ∧ (parseMethodDescriptor yX6_end.desc).map (fun d => d.parameters.length) = some 1 := sorry
def rmX6_isRelation : Room := { frames := 0, cells := 0, slots := 0, locals := 0 }
theorem hdX6_isRelation : yX6_isRelation.cls = RX6 ∧ yX6_isRelation.cls ≠ "java/lang/invoke/MethodHandle" ∧ yX6_isRelation.cls ≠ "java/lang/invoke/VarHandle" ∧ (parseMethodDescriptor yX6_isRelation.desc).map (fun d => d.parameters.length) = some 1 := sorry
set_option maxHeartbeats 4000000 in
set_option maxRecDepth 100000 in
/-- a relation -/
theorem c_X6_isRelation (l : Launch) (g : gG) (gh : gGh) (pA bA nA : Nat) (I : gI) (R : gR) (J : gJ) (AI : gI) (AJ : gJ) (AR : gR) (x : Nat) (rel : Int) (zrel : zr rel) (hv : gInv g gh R AR I AI) (hx : xS g gh R AR x pA bA nA) : gMet l g yX6_isRelation wsX6_isRelation rmX6_isRelation [.ref x, .int (iI rel)] (I, R, J, AI, AJ, AR) (gQi g (fun (z : Int) (w : gS) => I = w.1 ∧ R = w.2.1 ∧ J = w.2.2.1 ∧ AI = w.2.2.2.1 ∧ AJ = w.2.2.2.2.1 ∧ AR = w.2.2.2.2.2 ∧ ((z = 0 ∨ z = 1) ∧ (z = 1 → 0 ≤ rel ∧ rel < (I pA 1).toInt ∧ rel ≤ 15)))) := sorry
theorem hdX6_isRing : yX6_isRing.cls = RX6 ∧ yX6_isRing.cls ≠ "java/lang/invoke/MethodHandle" ∧ yX6_isRing.cls ≠ "java/lang/invoke/VarHandle" ∧ (parseMethodDescriptor yX6_isRing.desc).map (fun d => d.parameters.length) = some 1 := sorry
theorem hdX6_change : yX6_change.cls = RX6 ∧ yX6_change.cls ≠ "java/lang/invoke/MethodHandle" ∧ yX6_change.cls ≠ "java/lang/invoke/VarHandle" ∧ (parseMethodDescriptor yX6_change.desc).map (fun d => d.parameters.length) = some 6 := sorry
theorem hdX6_cancel : yX6_cancel.cls = RX6 ∧ yX6_cancel.cls ≠ "java/lang/invoke/MethodHandle" ∧ yX6_cancel.cls ≠ "java/lang/invoke/VarHandle" ∧ (parseMethodDescriptor yX6_cancel.desc).map (fun d => d.parameters.length) = some 0 := sorry
theorem hdX6_setKey : yX6_setKey.cls = RX6 ∧ yX6_setKey.cls ≠ "java/lang/invoke/MethodHandle" ∧ yX6_setKey.cls ≠ "java/lang/invoke/VarHandle" ∧ (parseMethodDescriptor yX6_setKey.desc).map (fun d => d.parameters.length) = some 5 := sorry
theorem hdX6_fallsBelowZero : yX6_fallsBelowZero.cls = RX6 ∧ yX6_fallsBelowZero.cls ≠ "java/lang/invoke/MethodHandle" ∧ yX6_fallsBelowZero.cls ≠ "java/lang/invoke/VarHandle" ∧ (parseMethodDescriptor yX6_fallsBelowZero.desc).map (fun d => d.parameters.length) = some 2 := sorry
theorem hdX6_pickChanges : yX6_pickChanges.cls = RX6 ∧ yX6_pickChanges.cls ≠ "java/lang/invoke/MethodHandle" ∧ yX6_pickChanges.cls ≠ "java/lang/invoke/VarHandle" ∧ (parseMethodDescriptor yX6_pickChanges.desc).map (fun d => d.parameters.length) = some 2 := sorry
theorem hdX6_reckonNext : yX6_reckonNext.cls = RX6 ∧ yX6_reckonNext.cls ≠ "java/lang/invoke/MethodHandle" ∧ yX6_reckonNext.cls ≠ "java/lang/invoke/VarHandle" ∧ (parseMethodDescriptor yX6_reckonNext.desc).map (fun d => d.parameters.length) = some 2 := sorry
theorem hdX6_movedInViews : yX6_movedInViews.cls = RX6 ∧ yX6_movedInViews.cls ≠ "java/lang/invoke/MethodHandle" ∧ yX6_movedInViews.cls ≠ "java/lang/invoke/VarHandle" ∧ (parseMethodDescriptor yX6_movedInViews.desc).map (fun d => d.parameters.length) = some 0 := sorry
theorem hdX6_cameTo : yX6_cameTo.cls = RX6 ∧ yX6_cameTo.cls ≠ "java/lang/invoke/MethodHandle" ∧ yX6_cameTo.cls ≠ "java/lang/invoke/VarHandle" ∧ (parseMethodDescriptor yX6_cameTo.desc).map (fun d => d.parameters.length) = some 1 := sorry
theorem hdX6_cameToViews : yX6_cameToViews.cls = RX6 ∧ yX6_cameToViews.cls ≠ "java/lang/invoke/MethodHandle" ∧ yX6_cameToViews.cls ≠ "java/lang/invoke/VarHandle" ∧ (parseMethodDescriptor yX6_cameToViews.desc).map (fun d => d.parameters.length) = some 0 := sorry
theorem hdX6_tuplesOfViews : yX6_tuplesOfViews.cls = RX6 ∧ yX6_tuplesOfViews.cls ≠ "java/lang/invoke/MethodHandle" ∧ yX6_tuplesOfViews.cls ≠ "java/lang/invoke/VarHandle" ∧ (parseMethodDescriptor yX6_tuplesOfViews.desc).map (fun d => d.parameters.length) = some 0 := sorry
theorem hdX6_size : yX6_size.cls = RX6 ∧ yX6_size.cls ≠ "java/lang/invoke/MethodHandle" ∧ yX6_size.cls ≠ "java/lang/invoke/VarHandle" ∧ (parseMethodDescriptor yX6_size.desc).map (fun d => d.parameters.length) = some 1 := sorry
theorem hdX6_moved : yX6_moved.cls = RX6 ∧ yX6_moved.cls ≠ "java/lang/invoke/MethodHandle" ∧ yX6_moved.cls ≠ "java/lang/invoke/VarHandle" ∧ (parseMethodDescriptor yX6_moved.desc).map (fun d => d.parameters.length) = some 1 := sorry
theorem hdX6_came : yX6_came.cls = RX6 ∧ yX6_came.cls ≠ "java/lang/invoke/MethodHandle" ∧ yX6_came.cls ≠ "java/lang/invoke/VarHandle" ∧ (parseMethodDescriptor yX6_came.desc).map (fun d => d.parameters.length) = some 1 := sorry
theorem hdX6_would : yX6_would.cls = RX6 ∧ yX6_would.cls ≠ "java/lang/invoke/MethodHandle" ∧ yX6_would.cls ≠ "java/lang/invoke/VarHandle" ∧ (parseMethodDescriptor yX6_would.desc).map (fun d => d.parameters.length) = some 1 := sorry
theorem hdX6_round : yX6_round.cls = RX6 ∧ yX6_round.cls ≠ "java/lang/invoke/MethodHandle" ∧ yX6_round.cls ≠ "java/lang/invoke/VarHandle" ∧ (parseMethodDescriptor yX6_round.desc).map (fun d => d.parameters.length) = some 5 := sorry
theorem hdX6_rounds : yX6_rounds.cls = RX6 ∧ yX6_rounds.cls ≠ "java/lang/invoke/MethodHandle" ∧ yX6_rounds.cls ≠ "java/lang/invoke/VarHandle" ∧ (parseMethodDescriptor yX6_rounds.desc).map (fun d => d.parameters.length) = some 1 := sorry
theorem hdX6_differs : yX6_differs.cls = RX6 ∧ yX6_differs.cls ≠ "java/lang/invoke/MethodHandle" ∧ yX6_differs.cls ≠ "java/lang/invoke/VarHandle" ∧ (parseMethodDescriptor yX6_differs.desc).map (fun d => d.parameters.length) = some 1 := sorry
def rmX6_of : Room := { frames := 1, cells := 0, slots := 0, locals := 23 }
theorem hdX6_of : yX6_of.cls = RX6 ∧ yX6_of.cls ≠ "java/lang/invoke/MethodHandle" ∧ yX6_of.cls ≠ "java/lang/invoke/VarHandle" ∧ (parseMethodDescriptor yX6_of.desc).map (fun d => d.parameters.length) = some 2 := sorry
set_option maxHeartbeats 4000000 in
set_option maxRecDepth 100000 in
/-- of -/
theorem c_X6_of (l : Launch) (g : gG) (gh : gGh) (pA bA nA : Nat) (I : gI) (R : gR) (J : gJ) (AI : gI) (AJ : gJ) (AR : gR) (x : Nat) (rel : Int) (wh : Int) (zrel : zr rel) (zwh : zr wh) (hv : gInv g gh R AR I AI) (hx : xS g gh R AR x pA bA nA) : gMet l g yX6_of wsX6_of rmX6_of [.ref x, .int (iI rel), .int (iI wh)] (I, R, J, AI, AJ, AR) (gQi g (fun (z : Int) (w : gS) => I = w.1 ∧ R = w.2.1 ∧ J = w.2.2.1 ∧ AI = w.2.2.2.1 ∧ AJ = w.2.2.2.2.1 ∧ AR = w.2.2.2.2.2)) := sorry
theorem hdX6_told : yX6_told.cls = RX6 ∧ yX6_told.cls ≠ "java/lang/invoke/MethodHandle" ∧ yX6_told.cls ≠ "java/lang/invoke/VarHandle" ∧ (parseMethodDescriptor yX6_told.desc).map (fun d => d.parameters.length) = some 1 := sorry
theorem hdX6_gatherValues : yX6_gatherValues.cls = RX6 ∧ yX6_gatherValues.cls ≠ "java/lang/invoke/MethodHandle" ∧ yX6_gatherValues.cls ≠ "java/lang/invoke/VarHandle" ∧ (parseMethodDescriptor yX6_gatherValues.desc).map (fun d => d.parameters.length) = some 2 := sorry
theorem hdX6_remember : yX6_remember.cls = RX6 ∧ yX6_remember.cls ≠ "java/lang/invoke/MethodHandle" ∧ yX6_remember.cls ≠ "java/lang/invoke/VarHandle" ∧ (parseMethodDescriptor yX6_remember.desc).map (fun d => d.parameters.length) = some 1 := sorry

end

section
theorem hdX6_takeNext : yX6_takeNext.cls = RX6 ∧ yX6_takeNext.cls ≠ "java/lang/invoke/MethodHandle" ∧ yX6_takeNext.cls ≠ "java/lang/invoke/VarHandle" ∧ (parseMethodDescriptor yX6_takeNext.desc).map (fun d => d.parameters.length) = some 0 := sorry
theorem hdX6_undo : yX6_undo.cls = RX6 ∧ yX6_undo.cls ≠ "java/lang/invoke/MethodHandle" ∧ yX6_undo.cls ≠ "java/lang/invoke/VarHandle" ∧ (parseMethodDescriptor yX6_undo.desc).map (fun d => d.parameters.length) = some 0 := sorry
theorem hdX6_commit : yX6_commit.cls = RX6 ∧ yX6_commit.cls ≠ "java/lang/invoke/MethodHandle" ∧ yX6_commit.cls ≠ "java/lang/invoke/VarHandle" ∧ (parseMethodDescriptor yX6_commit.desc).map (fun d => d.parameters.length) = some 0 := sorry
theorem hdX6_startAnew : yX6_startAnew.cls = RX6 ∧ yX6_startAnew.cls ≠ "java/lang/invoke/MethodHandle" ∧ yX6_startAnew.cls ≠ "java/lang/invoke/VarHandle" ∧ (parseMethodDescriptor yX6_startAnew.desc).map (fun d => d.parameters.length) = some 0 := sorry

end

section
theorem hdX5_isDigit : yX5_isDigit.cls = RX5 ∧ yX5_isDigit.cls ≠ "java/lang/invoke/MethodHandle" ∧ yX5_isDigit.cls ≠ "java/lang/invoke/VarHandle" ∧ (parseMethodDescriptor yX5_isDigit.desc).map (fun d => d.parameters.length) = some 1 := sorry
theorem hdX5_isRunSign : yX5_isRunSign.cls = RX5 ∧ yX5_isRunSign.cls ≠ "java/lang/invoke/MethodHandle" ∧ yX5_isRunSign.cls ≠ "java/lang/invoke/VarHandle" ∧ (parseMethodDescriptor yX5_isRunSign.desc).map (fun d => d.parameters.length) = some 1 := sorry
theorem hdX5_nameOf : yX5_nameOf.cls = RX5 ∧ yX5_nameOf.cls ≠ "java/lang/invoke/MethodHandle" ∧ yX5_nameOf.cls ≠ "java/lang/invoke/VarHandle" ∧ (parseMethodDescriptor yX5_nameOf.desc).map (fun d => d.parameters.length) = some 3 := sorry
theorem hdX5_numberOf : yX5_numberOf.cls = RX5 ∧ yX5_numberOf.cls ≠ "java/lang/invoke/MethodHandle" ∧ yX5_numberOf.cls ≠ "java/lang/invoke/VarHandle" ∧ (parseMethodDescriptor yX5_numberOf.desc).map (fun d => d.parameters.length) = some 3 := sorry
theorem hdX5_wordsAgree : yX5_wordsAgree.cls = RX5 ∧ yX5_wordsAgree.cls ≠ "java/lang/invoke/MethodHandle" ∧ yX5_wordsAgree.cls ≠ "java/lang/invoke/VarHandle" ∧ (parseMethodDescriptor yX5_wordsAgree.desc).map (fun d => d.parameters.length) = some 4 := sorry
theorem hdX5_wordNumber : yX5_wordNumber.cls = RX5 ∧ yX5_wordNumber.cls ≠ "java/lang/invoke/MethodHandle" ∧ yX5_wordNumber.cls ≠ "java/lang/invoke/VarHandle" ∧ (parseMethodDescriptor yX5_wordNumber.desc).map (fun d => d.parameters.length) = some 3 := sorry
theorem hdX5_addToken : yX5_addToken.cls = RX5 ∧ yX5_addToken.cls ≠ "java/lang/invoke/MethodHandle" ∧ yX5_addToken.cls ≠ "java/lang/invoke/VarHandle" ∧ (parseMethodDescriptor yX5_addToken.desc).map (fun d => d.parameters.length) = some 4 := sorry
theorem hdX5_readRun : yX5_readRun.cls = RX5 ∧ yX5_readRun.cls ≠ "java/lang/invoke/MethodHandle" ∧ yX5_readRun.cls ≠ "java/lang/invoke/VarHandle" ∧ (parseMethodDescriptor yX5_readRun.desc).map (fun d => d.parameters.length) = some 3 := sorry
theorem hdX5_read : yX5_read.cls = RX5 ∧ yX5_read.cls ≠ "java/lang/invoke/MethodHandle" ∧ yX5_read.cls ≠ "java/lang/invoke/VarHandle" ∧ (parseMethodDescriptor yX5_read.desc).map (fun d => d.parameters.length) = some 2 := sorry

end

section
def yF (g : gG) (I I' : gI) : Prop := ∀ b c, gO g b c → c ≠ 0 → c ≠ 1 → c ≠ 2 → c ≠ 5 → I' b = I b
theorem yF_r {g : gG} {I : gI} : yF g I I := sorry
theorem yF_t {g : gG} {I I' I'' : gI} (h : yF g I I') (h' : yF g I' I'') : yF g I I'' := sorry
theorem yF_o {g : gG} {I I' : gI} {o d : Nat} (ho : gO g o d) (hd : d = 0 ∨ d = 1 ∨ d = 2 ∨ d = 5) (f : ∀ b, b ≠ o → I' b = I b) : yF g I I' := sorry
theorem xS_R {g : gG} {gh : gGh} {R R' AR : gR} {x p b n : Nat} (h : xS g gh R AR x p b n) (e : ∀ k, R' x k = R x k) : xS g gh R' AR x p b n := sorry

end

section
theorem hdX1_parse : yX1_parse.cls = RX1 ∧ yX1_parse.cls ≠ "java/lang/invoke/MethodHandle" ∧ yX1_parse.cls ≠ "java/lang/invoke/VarHandle" ∧ (parseMethodDescriptor yX1_parse.desc).map (fun d => d.parameters.length) = some 2 := sorry
theorem hdX6_plan : yX6_plan.cls = RX6 ∧ yX6_plan.cls ≠ "java/lang/invoke/MethodHandle" ∧ yX6_plan.cls ≠ "java/lang/invoke/VarHandle" ∧ (parseMethodDescriptor yX6_plan.desc).map (fun d => d.parameters.length) = some 0 := sorry

end
