section
/-! the making of both systems: a fixed run of writes. (1, o, k, v): field k of cell o gets the number v; (2, o, k, q): it gets the cell q; (3, o, j, q): place j of row o gets the cell q. Kinds and lengths of the cells -/
def cEv : List (List (Nat × Nat × Nat × Nat)) := [[(2, 0, 0, 1), (2, 3, 0, 4), (2, 3, 1, 5), (2, 3, 2, 6), (2, 3, 3, 7), (2, 2, 0, 3), (2, 8, 0, 9), (2, 10, 7, 11), (3, 9, 0, 10), (2, 12, 7, 13), (3, 9, 1, 12), (2, 14, 7, 15), (3, 9, 2, 14), (2, 16, 7, 17), (3, 9, 3, 16), (2, 18, 7, 19)], [(3, 9, 4, 18), (2, 20, 7, 21), (3, 9, 5, 20), (2, 22, 7, 23), (3, 9, 6, 22), (2, 24, 7, 25), (3, 9, 7, 24), (2, 26, 7, 27), (3, 9, 8, 26), (2, 28, 7, 29), (3, 9, 9, 28), (2, 30, 7, 31), (3, 9, 10, 30), (2, 32, 7, 33), (3, 9, 11, 32), (2, 34, 7, 35)], [(3, 9, 12, 34), (2, 36, 7, 37), (3, 9, 13, 36), (2, 38, 7, 39), (3, 9, 14, 38), (2, 40, 7, 41), (3, 9, 15, 40), (2, 2, 1, 8), (2, 2, 2, 10), (2, 0, 2, 2), (2, 42, 0, 43), (2, 44, 7, 45), (3, 43, 0, 44), (2, 46, 7, 47), (3, 43, 1, 46), (2, 48, 7, 49)], [(3, 43, 2, 48), (2, 50, 7, 51), (3, 43, 3, 50), (2, 52, 7, 53), (3, 43, 4, 52), (2, 54, 7, 55), (3, 43, 5, 54), (2, 56, 7, 57), (3, 43, 6, 56), (2, 58, 7, 59), (3, 43, 7, 58), (2, 60, 7, 61), (3, 43, 8, 60), (2, 62, 7, 63), (3, 43, 9, 62), (2, 64, 7, 65)], [(3, 43, 10, 64), (2, 66, 7, 67), (3, 43, 11, 66), (2, 68, 7, 69), (3, 43, 12, 68), (2, 70, 7, 71), (3, 43, 13, 70), (2, 72, 7, 73), (3, 43, 14, 72), (2, 74, 7, 75), (3, 43, 15, 74), (2, 0, 3, 42), (2, 76, 0, 77), (2, 76, 1, 78), (2, 76, 2, 79), (2, 0, 4, 76)], [(1, 81, 0, 4), (1, 81, 1, 120), (2, 81, 2, 82), (3, 80, 0, 81), (1, 83, 0, 4), (1, 83, 1, 120), (2, 83, 2, 84), (3, 80, 1, 83), (1, 85, 0, 4), (1, 85, 1, 120), (2, 85, 2, 86), (3, 80, 2, 85), (1, 87, 0, 4), (1, 87, 1, 120), (2, 87, 2, 88), (3, 80, 3, 87)], [(1, 89, 0, 4), (1, 89, 1, 120), (2, 89, 2, 90), (3, 80, 4, 89), (1, 91, 0, 4), (1, 91, 1, 120), (2, 91, 2, 92), (3, 80, 5, 91), (1, 93, 0, 4), (1, 93, 1, 120), (2, 93, 2, 94), (3, 80, 6, 93), (1, 95, 0, 4), (1, 95, 1, 120), (2, 95, 2, 96), (3, 80, 7, 95)], [(1, 97, 0, 4), (1, 97, 1, 120), (2, 97, 2, 98), (3, 80, 8, 97), (1, 99, 0, 4), (1, 99, 1, 120), (2, 99, 2, 100), (3, 80, 9, 99), (1, 101, 0, 4), (1, 101, 1, 120), (2, 101, 2, 102), (3, 80, 10, 101), (1, 103, 0, 4), (1, 103, 1, 120), (2, 103, 2, 104), (3, 80, 11, 103)], [(1, 105, 0, 4), (1, 105, 1, 120), (2, 105, 2, 106), (3, 80, 12, 105), (1, 107, 0, 4), (1, 107, 1, 120), (2, 107, 2, 108), (3, 80, 13, 107), (1, 109, 0, 4), (1, 109, 1, 120), (2, 109, 2, 110), (3, 80, 14, 109), (1, 111, 0, 4), (1, 111, 1, 120), (2, 111, 2, 112), (3, 80, 15, 111)], [(2, 0, 5, 80), (1, 114, 0, 4), (1, 114, 1, 120), (2, 114, 2, 115), (3, 113, 0, 114), (1, 116, 0, 4), (1, 116, 1, 120), (2, 116, 2, 117), (3, 113, 1, 116), (1, 118, 0, 4), (1, 118, 1, 120), (2, 118, 2, 119), (3, 113, 2, 118), (1, 120, 0, 4), (1, 120, 1, 120), (2, 120, 2, 121)], [(3, 113, 3, 120), (1, 122, 0, 4), (1, 122, 1, 120), (2, 122, 2, 123), (3, 113, 4, 122), (1, 124, 0, 4), (1, 124, 1, 120), (2, 124, 2, 125), (3, 113, 5, 124), (1, 126, 0, 4), (1, 126, 1, 120), (2, 126, 2, 127), (3, 113, 6, 126), (1, 128, 0, 4), (1, 128, 1, 120), (2, 128, 2, 129)], [(3, 113, 7, 128), (1, 130, 0, 4), (1, 130, 1, 120), (2, 130, 2, 131), (3, 113, 8, 130), (1, 132, 0, 4), (1, 132, 1, 120), (2, 132, 2, 133), (3, 113, 9, 132), (1, 134, 0, 4), (1, 134, 1, 120), (2, 134, 2, 135), (3, 113, 10, 134), (1, 136, 0, 4), (1, 136, 1, 120), (2, 136, 2, 137)], [(3, 113, 11, 136), (1, 138, 0, 4), (1, 138, 1, 120), (2, 138, 2, 139), (3, 113, 12, 138), (1, 140, 0, 4), (1, 140, 1, 120), (2, 140, 2, 141), (3, 113, 13, 140), (1, 142, 0, 4), (1, 142, 1, 120), (2, 142, 2, 143), (3, 113, 14, 142), (1, 144, 0, 4), (1, 144, 1, 120), (2, 144, 2, 145)], [(3, 113, 15, 144), (2, 0, 6, 113), (1, 147, 0, 4), (1, 147, 1, 240), (2, 147, 2, 148), (3, 146, 0, 147), (1, 149, 0, 4), (1, 149, 1, 240), (2, 149, 2, 150), (3, 146, 1, 149), (1, 151, 0, 4), (1, 151, 1, 240), (2, 151, 2, 152), (3, 146, 2, 151), (1, 153, 0, 4), (1, 153, 1, 240)], [(2, 153, 2, 154), (3, 146, 3, 153), (1, 155, 0, 4), (1, 155, 1, 240), (2, 155, 2, 156), (3, 146, 4, 155), (1, 157, 0, 4), (1, 157, 1, 240), (2, 157, 2, 158), (3, 146, 5, 157), (1, 159, 0, 4), (1, 159, 1, 240), (2, 159, 2, 160), (3, 146, 6, 159), (1, 161, 0, 4), (1, 161, 1, 240)], [(2, 161, 2, 162), (3, 146, 7, 161), (1, 163, 0, 4), (1, 163, 1, 240), (2, 163, 2, 164), (3, 146, 8, 163), (1, 165, 0, 4), (1, 165, 1, 240), (2, 165, 2, 166), (3, 146, 9, 165), (1, 167, 0, 4), (1, 167, 1, 240), (2, 167, 2, 168), (3, 146, 10, 167), (1, 169, 0, 4), (1, 169, 1, 240)], [(2, 169, 2, 170), (3, 146, 11, 169), (1, 171, 0, 4), (1, 171, 1, 240), (2, 171, 2, 172), (3, 146, 12, 171), (1, 173, 0, 4), (1, 173, 1, 240), (2, 173, 2, 174), (3, 146, 13, 173), (1, 175, 0, 4), (1, 175, 1, 240), (2, 175, 2, 176), (3, 146, 14, 175), (1, 177, 0, 4), (1, 177, 1, 240)], [(2, 177, 2, 178), (3, 146, 15, 177), (2, 0, 7, 146), (1, 179, 0, 5), (1, 179, 1, 40), (2, 179, 2, 180), (2, 0, 8, 179), (1, 181, 0, 5), (1, 181, 1, 40), (2, 181, 2, 182), (2, 0, 9, 181), (1, 183, 0, 4), (1, 183, 1, 40), (2, 183, 2, 184), (2, 0, 10, 183), (1, 185, 0, 4)], [(1, 185, 1, 240), (2, 185, 2, 186), (2, 0, 11, 185), (2, 0, 12, 187), (1, 189, 0, 5), (1, 189, 1, 40), (2, 189, 2, 190), (3, 188, 0, 189), (1, 191, 0, 5), (1, 191, 1, 40), (2, 191, 2, 192), (3, 188, 1, 191), (1, 193, 0, 5), (1, 193, 1, 40), (2, 193, 2, 194), (3, 188, 2, 193)], [(1, 195, 0, 5), (1, 195, 1, 40), (2, 195, 2, 196), (3, 188, 3, 195), (1, 197, 0, 5), (1, 197, 1, 40), (2, 197, 2, 198), (3, 188, 4, 197), (1, 199, 0, 5), (1, 199, 1, 40), (2, 199, 2, 200), (3, 188, 5, 199), (1, 201, 0, 5), (1, 201, 1, 40), (2, 201, 2, 202), (3, 188, 6, 201)], [(1, 203, 0, 5), (1, 203, 1, 40), (2, 203, 2, 204), (3, 188, 7, 203), (2, 0, 13, 188), (2, 205, 0, 206), (2, 205, 1, 207), (2, 205, 3, 208), (2, 205, 4, 209), (2, 205, 6, 210), (2, 205, 7, 211), (2, 205, 11, 212), (2, 205, 12, 213), (2, 205, 13, 214), (2, 205, 15, 215), (2, 205, 25, 216)], [(2, 205, 27, 217), (2, 205, 28, 218), (2, 205, 29, 219), (2, 205, 30, 220), (2, 205, 31, 221)]]
def cKT : List Nat := [6, 8, 1, 5, 9, 9, 9, 10, 2, 11, 0, 9, 0, 9, 0, 9, 0, 9, 0, 9, 0, 9, 0, 9, 0, 9, 0, 9, 0, 9, 0, 9, 0, 9, 0, 9, 0, 9, 0, 9, 0, 9, 2, 11, 0, 9, 0, 9, 0, 9, 0, 9, 0, 9, 0, 9, 0, 9, 0, 9, 0, 9, 0, 9, 0, 9, 0, 9, 0, 9, 0, 9, 0, 9, 0, 9, 3, 9, 9, 9, 12, 4, 9, 4, 9, 4, 9, 4, 9, 4, 9, 4, 9, 4, 9, 4, 9, 4, 9, 4, 9, 4, 9, 4, 9, 4, 9, 4, 9, 4, 9, 4, 9, 12, 4, 9, 4, 9, 4, 9, 4, 9, 4, 9, 4, 9, 4, 9, 4, 9, 4, 9, 4, 9, 4, 9, 4, 9, 4, 9, 4, 9, 4, 9, 4, 9, 12, 4, 9, 4, 9, 4, 9, 4, 9, 4, 9, 4, 9, 4, 9, 4, 9, 4, 9, 4, 9, 4, 9, 4, 9, 4, 9, 4, 9, 4, 9, 4, 9, 4, 9, 4, 9, 4, 9, 4, 9, 9, 12, 4, 9, 4, 9, 4, 9, 4, 9, 4, 9, 4, 9, 4, 9, 4, 9, 7, 9, 10, 9, 10, 9, 9, 9, 9, 9, 9, 9, 9, 9, 9, 9, 9, 10]
def cNT : List Nat := [0, 936, 0, 0, 901, 901, 901, 901, 0, 16, 0, 32, 0, 32, 0, 32, 0, 32, 0, 32, 0, 32, 0, 32, 0, 32, 0, 32, 0, 32, 0, 32, 0, 32, 0, 32, 0, 32, 0, 32, 0, 32, 0, 16, 0, 32, 0, 32, 0, 32, 0, 32, 0, 32, 0, 32, 0, 32, 0, 32, 0, 32, 0, 32, 0, 32, 0, 32, 0, 32, 0, 32, 0, 32, 0, 32, 0, 5, 8, 480, 16, 0, 720, 0, 720, 0, 720, 0, 720, 0, 720, 0, 720, 0, 720, 0, 720, 0, 720, 0, 720, 0, 720, 0, 720, 0, 720, 0, 720, 0, 720, 0, 720, 16, 0, 720, 0, 720, 0, 720, 0, 720, 0, 720, 0, 720, 0, 720, 0, 720, 0, 720, 0, 720, 0, 720, 0, 720, 0, 720, 0, 720, 0, 720, 0, 720, 16, 0, 1440, 0, 1440, 0, 1440, 0, 1440, 0, 1440, 0, 1440, 0, 1440, 0, 1440, 0, 1440, 0, 1440, 0, 1440, 0, 1440, 0, 1440, 0, 1440, 0, 1440, 0, 1440, 0, 240, 0, 240, 0, 240, 0, 1440, 5, 8, 0, 240, 0, 240, 0, 240, 0, 240, 0, 240, 0, 240, 0, 240, 0, 240, 0, 640, 16, 640, 16, 126720, 176, 41, 164, 41, 936, 9600, 4, 8, 176, 600, 1200, 1]
def ev (t : Nat) : Nat × Nat × Nat × Nat := (cEv.getD (t / 16) []).getD (t % 16) (9, 0, 0, 0)
def kT (o : Nat) : Nat := cKT.getD o 99
def nT (o : Nat) : Nat := cNT.getD o 0
/-- what the first t writes left: int fields, references, places of rows -/
def cI : Nat → Nat → Nat → Nat
  | 0, _, _ => 0
  | t + 1, o, k => if (ev t).1 = 1 ∧ (ev t).2.1 = o ∧ (ev t).2.2.1 = k then (ev t).2.2.2 else cI t o k
def cR : Nat → Nat → Nat → Option Nat
  | 0, _, _ => none
  | t + 1, o, k => if (ev t).1 = 2 ∧ (ev t).2.1 = o ∧ (ev t).2.2.1 = k then some (ev t).2.2.2 else cR t o k
def cA : Nat → Nat → Nat → Option Nat
  | 0, _, _ => none
  | t + 1, o, k => if (ev t).1 = 3 ∧ (ev t).2.1 = o ∧ (ev t).2.2.1 = k then some (ev t).2.2.2 else cA t o k
/-- the first t writes reach the first n cells alone -/
def cfr (t n : Nat) : Prop := ∀ j, j < t → (ev j).2.1 < n
theorem cI_fr {t n o k : Nat} (h : cfr t n) (ho : n ≤ o) : cI t o k = 0 := sorry
theorem cR_fr {t n o k : Nat} (h : cfr t n) (ho : n ≤ o) : cR t o k = none := sorry
theorem cA_fr {t n o k : Nat} (h : cfr t n) (ho : n ≤ o) : cA t o k = none := sorry
def gn (g : gG) (n : Nat) : gG := (g.1, g.2.1, (List.range' (gZ g) n, gZ g), g.2.2.2)
def wI (g : gG) (t : Nat) : gI := fun a k => if gZ g ≤ a then iI ((cI t (a - gZ g) k : Nat) : Int) else 0
def wR (g : gG) (t : Nat) : gR := fun a k => if gZ g ≤ a then (cR t (a - gZ g) k).map (fun q => gZ g + q) else none
def wA (g : gG) (t : Nat) : gR := fun a k => if gZ g ≤ a then (cA t (a - gZ g) k).map (fun q => gZ g + q) else none
def zJ : gJ := fun _ _ => 0
def zA : gI := fun _ _ => 0
theorem wR_at {g : gG} {t o k q : Nat} (h : cR t o k = some q) : wR g t (gZ g + o) k = some (gZ g + q) := sorry
theorem wA_at {g : gG} {t o k q : Nat} (h : cA t o k = some q) : wA g t (gZ g + o) k = some (gZ g + q) := sorry
theorem cI_k {t o k : Nat} (h : (ev t).1 ≠ 1) : cI (t + 1) o k = cI t o k := sorry
theorem ev_I {g : gG} {t : Nat} (h : (ev t).1 ≠ 1) : wI g (t + 1) = wI g t := sorry
theorem cI_1 {t o k v x j : Nat} (h : ev t = (1, o, k, v)) : cI (t + 1) x j = if o = x ∧ k = j then v else cI t x j := sorry
theorem ev_I1 {g : gG} {t o k v : Nat} (h : ev t = (1, o, k, v)) : wI g (t + 1) = gup2 (wI g t) (gZ g + o) k (iI (v : Int)) := sorry
theorem cR_k {t o k : Nat} (h : (ev t).1 ≠ 2) : cR (t + 1) o k = cR t o k := sorry
theorem ev_R {g : gG} {t : Nat} (h : (ev t).1 ≠ 2) : wR g (t + 1) = wR g t := sorry
theorem cR_1 {t o k v x j : Nat} (h : ev t = (2, o, k, v)) : cR (t + 1) x j = if o = x ∧ k = j then some v else cR t x j := sorry
theorem ev_R2 {g : gG} {t o k v : Nat} (h : ev t = (2, o, k, v)) : wR g (t + 1) = gup2 (wR g t) (gZ g + o) k (some (gZ g + v)) := sorry
theorem cA_k {t o k : Nat} (h : (ev t).1 ≠ 3) : cA (t + 1) o k = cA t o k := sorry
theorem ev_A {g : gG} {t : Nat} (h : (ev t).1 ≠ 3) : wA g (t + 1) = wA g t := sorry
theorem cA_1 {t o k v x j : Nat} (h : ev t = (3, o, k, v)) : cA (t + 1) x j = if o = x ∧ k = j then some v else cA t x j := sorry
theorem ev_A3 {g : gG} {t o k v : Nat} (h : ev t = (3, o, k, v)) : wA g (t + 1) = gup2 (wA g t) (gZ g + o) k (some (gZ g + v)) := sorry
/-- the world behind t writes, n cells made -/
def cH (g : gG) (t n : Nat) (H : Heap) : Prop := gH (gn g n) (wI g t) (wR g t) zJ zA zJ (wA g t) H ∧ gZ g + n ≤ H.size
/-- kinds and lengths of the cells to come -/
def gOK (g : gG) : Prop := ∀ o, o < 223 → gK g (gZ g + o) = kT o ∧ gN g (gZ g + o) = nT o
/-- what the makers need of the tables beside their words -/
def cNst (U : State) : Prop := va_Nw (.methodLinkNest RX6 15 yX1_init RX6) U ∧ va_Nw (.methodLinkNest RX6 29 yX3_init RX6) U ∧ va_Nw (.methodLinkNest RX1 11 yX5_init RX6) U ∧ va_Nw (.methodLinkNest RX2 17 yX0_init RX6) U ∧ va_AO RX0 U ∧ va_AO RX4 U
theorem cNst_mv {s U : State} (h : cNst s) (hW : s.WarmedH U.vm) : cNst U := sorry
theorem cNst_same {s U : State} (h : cNst s) (hv : s.vm = U.vm) : cNst U := sorry
def cPre (g : gG) (t n : Nat) (av : List Value) : Array Value → State → Prop := va_Pc av (fun U => (cH g t n U.heap ∧ U.heap.size = gZ g + n) ∧ va_K (gD g) vwCl (gT g) U ∧ gStr g U ∧ cNst U)
theorem cPre_blind {g : gG} {t n : Nat} {av : List Value} : FrameBlind (cPre g t n av) := sorry
abbrev cQv (g : gG) (t n : Nat) : Array Value → State → Outcome → State → Prop := va_Qv (S := Unit) (fun _ => True) (fun _ U => cH g t n U.heap) (gA g)
abbrev cQr (g : gG) (t n q : Nat) : Array Value → State → Outcome → State → Prop := va_Qr (S := Unit) (fun _ => True) (fun _ a U => cH g t n U.heap ∧ a = gZ g + q) (gA g)
theorem gFix_n {g : gG} {n : Nat} {p : Program} {c : Code} {cc : ByteArray} {nL : Nat} {s : State} {args : Array Value} {Ts : List Cond} {own : String} {m : MethodId} (F : gFix g p c cc nL s args Ts own m) : gFix (gn g n) p c cc nL s args Ts own m := sorry
theorem gO_n {g : gG} {n o c : Nat} (ho : o < n) (hk : gK g (gZ g + o) = c) : gO (gn g n) (gZ g + o) c := sorry
theorem gAr_n {g : gG} {n o c N : Nat} (ho : o < n) (hk : gK g (gZ g + o) = c) (hl : gN g (gZ g + o) = N) : gAr (gn g n) (gZ g + o) c N := sorry
def dvs (ts : List Nat) : List Value := ts.map (fun k => match k with
  | 0 => .int 0
  | 1 => .long 0
  | _ => .null)
theorem gFs_fr {g : gG} {t n : Nat} {ts : List Nat} (h : cfr t n) : gFs (wI g t) (wR g t) zJ (gZ g + n) ts = dvs ts := sorry
theorem va_plp {L : List Nat} {f : Nat → va_E} {a : Nat} : va_pl (L ++ [a]) f = va_pl L f ++ [(a, f a)] := sorry
section Cons
variable {g : gG} {t n : Nat}
variable {p : Program} {l : Launch} {e : Env} {Rm : Room} {s : State} {m : MethodId} {args : Array Value} {below : List Frame} {meth : Method} {c : Code} {H : Heap} {locs : List Loc} {cells slots : Nat} {Q : State → Prop}
variable {cc : ByteArray} {pc nL : Nat} {ls : Array Slot} {rest st0 : List Value} {Ts : List Cond} {own : String}
theorem w_size {fr : JFrame} (k : H.size ≤ s.heap.size + cells → W p l e Rm s m args below meth c H locs cells slots Q fr) : W p l e Rm s m args below meth c H locs cells slots Q fr := sorry
theorem vaS_j {A : Nat → Prop} {H1 : Heap} {locs1 : List Loc} (hS : va_S A s.heap H locs) (h : va_S A H H1 locs1) : va_S A s.heap H1 locs1 := sorry
/-- a cell more -/
theorem cH_push {H1 : Heap} (hH : cH g t n H) (hz : H.size = gZ g + n) (z1 : H1.size = gZ g + n + 1) (o1 : ∀ q : Nat, q < H.size → H1[q]? = H[q]?) (hn : va_at (gD g) vwCl (gZ g + n, gE g (wI g t) (wR g t) zJ zA zJ (wA g t) (gZ g + n)) H1) : cH g t (n + 1) H1 := sorry
theorem vaS_push {H1 : Heap} (hS : va_S (gA g) s.heap H locs) (z1 : H.size ≤ H1.size) (o1 : ∀ q : Nat, q < H.size → H1[q]? = H[q]?) : va_S (gA g) s.heap H1 locs := sorry
theorem c_new (F : gFix g p c cc nL s args Ts own m) (hH : cH g t n H) (hS : va_S (gA g) s.heap H locs) (hcnt : s.heap.size + cells = gZ g + n) {C : String} {T : u_T} {N ci index : Nat} (hc : vwCl[ci]? = some (C, T, N)) (hc8 : ci < 8) (hin : ∀ w ∈ u_ws C T N, w ∈ Ts) (ty : Nat → FieldType) (hty : ∀ k, k < N → parseFieldDescriptor (T k).2.2.1 = some (ty k)) (hdf : ∀ j, j < N → defaultValue (ty j) = vp_V (dvs (gft ci)) j)
    (hk : gK g (gZ g + n) = ci) (hfr : cfr t n) (hcl : Cond.classLink own index C ∈ Ts) (hinst : Cond.instantiable C N ∈ Ts) (hini : Cond.initialized C ∈ Ts) (hcells : cells + 1 ≤ Rm.cells) (hslots : slots + N ≤ Rm.slots) (hdg : decode cc pc = .ok (.new index, 3))
    (kk : ∀ H1 : Heap, cH g t (n + 1) H1 → va_S (gA g) s.heap H1 locs → W p l e Rm s m args below meth c H1 locs (cells + 1) (slots + N) Q (F0 m (pc + 3) ls (.ref (gZ g + n) :: rest))) : W p l e Rm s m args below meth c H locs cells slots Q (F0 m pc ls rest) := sorry
theorem c_newA (F : gFix g p c cc nL s args Ts own m) (hH : cH g t n H) (hS : va_S (gA g) s.heap H locs) (hcnt : s.heap.size + cells = gZ g + n) {atype : ArrayType} {ty : FieldType} {ck i : Nat} {z : Int} {N : Nat} (hty : newarray.typeOf atype = ty) (hi : (gT g)[i]? = some (gY g ck, ty)) (hra : ∀ cA, va_RA s cA ty → s.vm.findClass ("[" ++ ty.toString) = some cA)
    (hcell : ∀ cA : ClassId, vp_cell cA (N, gX ck (fun _ => 0) (fun _ => 0) (fun _ => none)) = arrV cA N (fun _ => defaultValue ty)) (hc8 : ¬ ck < 8) (harr : Cond.arrayClass ty ∈ Ts) (h0 : 0 ≤ z) (hN : z.toNat = N) (h9 : z ≤ 2147483647) (hbytes : N * componentBytes ty ≤ 536870912) (hcells : cells + 1 ≤ Rm.cells) (hslots : slots + N ≤ Rm.slots)
    (hk : gK g (gZ g + n) = ck) (hl : gN g (gZ g + n) = N) (hfr : cfr t n) (hdg : decode cc pc = .ok (.newarray atype, 2))
    (kk : ∀ H1 : Heap, cH g t (n + 1) H1 → va_S (gA g) s.heap H1 locs → W p l e Rm s m args below meth c H1 locs (cells + 1) (slots + N) Q (F0 m (pc + 2) ls (.ref (gZ g + n) :: rest))) : W p l e Rm s m args below meth c H locs cells slots Q (F0 m pc ls (.int (iI z) :: rest)) := by
  subst hty
  refine w_size (fun hsz => ?_)
  have hz : H.size = gZ g + n := by have := hH.2; omega
  obtain ⟨hx, hb0, -, hown, hts, hK, -⟩ := F
  refine va_newaK hx hb0 (hts _ harr) (g := F0 m pc ls (.int (iI z) :: rest)) rfl hdg rfl (by rw [Int32.lt_iff_toInt_lt, iI_val ⟨by omega, h9⟩]; exact Int.not_lt.mpr h0) ((iI_nat h0 h9).trans hN) hbytes hcells hslots hz fun H1 cA e1 z1 o1 hAr hNm => ?_
  refine kk H1 (cH_push hH hz z1 (fun q hq => o1 q (by omega)) ?_) (vaS_push hS (by omega) (fun q hq => o1 q (by omega)))
  rw [gE_arr hk hl hc8]
  have ec : cA = gY g ck := Option.some.inj (hNm.symm.trans (hra _ (hK.2 i _ hi).2))
  subst ec
  show H1[gZ g + n]? = some (vp_cell _ _)
  have ew : wA g t (gZ g + n) = fun _ => none := by funext j; unfold wA; rw [if_pos (Nat.le_add_right _ _), Nat.add_sub_cancel_left, cA_fr hfr (Nat.le_refl _)]; rfl
  rw [e1, ew]
  exact congrArg some (hcell _).symm
theorem c_newR (F : gFix g p c cc nL s args Ts own m) (hH : cH g t n H) (hS : va_S (gA g) s.heap H locs) (hcnt : s.heap.size + cells = gZ g + n) {C : String} {ck i index : Nat} {z : Int} {N : Nat} (hi : (gT g)[i]? = some (gY g ck, .object C)) (hck : ck = 11 ∨ ck = 12) (hcl : Cond.classLink own index C ∈ Ts) (hover : va_AO C s) (h0 : 0 ≤ z) (hN : z.toNat = N) (h9 : z ≤ 2147483647) (hbytes : N * 4 ≤ 536870912) (hcells : cells + 1 ≤ Rm.cells) (hslots : slots + N ≤ Rm.slots)
    (hk : gK g (gZ g + n) = ck) (hl : gN g (gZ g + n) = N) (hfr : cfr t n) (hdg : decode cc pc = .ok (.anewarray index, 3))
    (kk : ∀ H1 : Heap, cH g t (n + 1) H1 → va_S (gA g) s.heap H1 locs → W p l e Rm s m args below meth c H1 locs (cells + 1) (slots + N) Q (F0 m (pc + 3) ls (.ref (gZ g + n) :: rest))) : W p l e Rm s m args below meth c H locs cells slots Q (F0 m pc ls (.int (iI z) :: rest)) := sorry
theorem cH_2 {o k q : Nat} {H1 : Heap} (he : ev t = (2, o, k, q)) (hl : gZ g + n ≤ H1.size) (h : gH (gn g n) (wI g t) (gup2 (wR g t) (gZ g + o) k (some (gZ g + q))) zJ zA zJ (wA g t) H1) : cH g (t + 1) n H1 := sorry
theorem cH_1 {o k v : Nat} {H1 : Heap} (he : ev t = (1, o, k, v)) (hl : gZ g + n ≤ H1.size) (h : gH (gn g n) (gup2 (wI g t) (gZ g + o) k (iI (v : Int))) (wR g t) zJ zA zJ (wA g t) H1) : cH g (t + 1) n H1 := sorry
theorem cH_3 {o k q : Nat} {H1 : Heap} (he : ev t = (3, o, k, q)) (hl : gZ g + n ≤ H1.size) (h : gH (gn g n) (wI g t) (wR g t) zJ zA zJ (gup2 (wA g t) (gZ g + o) k (some (gZ g + q))) H1) : cH g (t + 1) n H1 := sorry
theorem c_putRF (F : gFix g p c cc nL s args Ts own m) (hH : cH g t n H) (hS : va_S (gA g) s.heap H locs) {C : String} {T : u_T} {N ci k index o q : Nat} (hc : vwCl[ci]? = some (C, T, N)) (hc8 : ci < 8) (hin : ∀ w ∈ u_ws C T N, w ∈ Ts) (ho : o < n) (ha : gK g (gZ g + o) = ci) (hk : k < N) (ty0 : Nat → FieldType) (hty : ∀ k, k < N → parseFieldDescriptor (T k).2.2.1 = some (ty0 k)) (hnm : ∀ a, a < N → ∀ b, b < N → a ≠ b → (T a).2.1 ≠ (T b).2.1) (hf : (gft ci)[k]? = some 2) {ty : FieldType} (hn : ∀ x, narrow ty (.ref x) = .ref x) (hfit : ∀ x, fits ty (.ref x) = true) (hfin : (T k).2.2.2 = true) (hini : meth.name = "<init>") (hdecl : (T k).1 = own) (hd : parseFieldDescriptor (T k).2.2.1 = some ty) (hl : Cond.fieldLink own index (T k).1 (T k).2.1 (T k).2.2.1 ∈ Ts) (hdg : decode cc pc = .ok (.putfield index, 3)) (he : ev t = (2, o, k, q))
    (kk : ∀ (H1 : Heap) (locs1 : List Loc), cH g (t + 1) n H1 → va_S (gA g) s.heap H1 locs1 → W p l e Rm s m args below meth c H1 locs1 cells slots Q (F0 m (pc + 3) ls rest)) : W p l e Rm s m args below meth c H locs cells slots Q (F0 m pc ls (.ref (gZ g + q) :: .ref (gZ g + o) :: rest)) := sorry
theorem c_putR (F : gFix g p c cc nL s args Ts own m) (hH : cH g t n H) (hS : va_S (gA g) s.heap H locs) {C : String} {T : u_T} {N ci k index o q : Nat} (hc : vwCl[ci]? = some (C, T, N)) (hc8 : ci < 8) (hin : ∀ w ∈ u_ws C T N, w ∈ Ts) (ho : o < n) (ha : gK g (gZ g + o) = ci) (hk : k < N) (ty0 : Nat → FieldType) (hty : ∀ k, k < N → parseFieldDescriptor (T k).2.2.1 = some (ty0 k)) (hnm : ∀ a, a < N → ∀ b, b < N → a ≠ b → (T a).2.1 ≠ (T b).2.1) (hf : (gft ci)[k]? = some 2) {ty : FieldType} (hn : ∀ x, narrow ty (.ref x) = .ref x) (hfit : ∀ x, fits ty (.ref x) = true) (hfin : (T k).2.2.2 = false) (hd : parseFieldDescriptor (T k).2.2.1 = some ty) (hl : Cond.fieldLink own index (T k).1 (T k).2.1 (T k).2.2.1 ∈ Ts) (hdg : decode cc pc = .ok (.putfield index, 3)) (he : ev t = (2, o, k, q))
    (kk : ∀ (H1 : Heap) (locs1 : List Loc), cH g (t + 1) n H1 → va_S (gA g) s.heap H1 locs1 → W p l e Rm s m args below meth c H1 locs1 cells slots Q (F0 m (pc + 3) ls rest)) : W p l e Rm s m args below meth c H locs cells slots Q (F0 m pc ls (.ref (gZ g + q) :: .ref (gZ g + o) :: rest)) := sorry
theorem c_putIF (F : gFix g p c cc nL s args Ts own m) (hH : cH g t n H) (hS : va_S (gA g) s.heap H locs) {C : String} {T : u_T} {N ci k index o v : Nat} (hc : vwCl[ci]? = some (C, T, N)) (hc8 : ci < 8) (hin : ∀ w ∈ u_ws C T N, w ∈ Ts) (ho : o < n) (ha : gK g (gZ g + o) = ci) (hk : k < N) (ty0 : Nat → FieldType) (hty : ∀ k, k < N → parseFieldDescriptor (T k).2.2.1 = some (ty0 k)) (hnm : ∀ a, a < N → ∀ b, b < N → a ≠ b → (T a).2.1 ≠ (T b).2.1) (hf : (gft ci)[k]? = some 0) (hfin : (T k).2.2.2 = true) (hini : meth.name = "<init>") (hdecl : (T k).1 = own) (hd : parseFieldDescriptor (T k).2.2.1 = some .int) (hl : Cond.fieldLink own index (T k).1 (T k).2.1 (T k).2.2.1 ∈ Ts) (hdg : decode cc pc = .ok (.putfield index, 3)) (he : ev t = (1, o, k, v))
    (kk : ∀ (H1 : Heap) (locs1 : List Loc), cH g (t + 1) n H1 → va_S (gA g) s.heap H1 locs1 → W p l e Rm s m args below meth c H1 locs1 cells slots Q (F0 m (pc + 3) ls rest)) : W p l e Rm s m args below meth c H locs cells slots Q (F0 m pc ls (.int (iI (v : Int)) :: .ref (gZ g + o) :: rest)) := sorry
/-- a place of a row: kind 11 of Lines, 12 of Rows -/
theorem c_aast (F : gFix g p c cc nL s args Ts own m) (hH : cH g t n H) (hS : va_S (gA g) s.heap H locs) {ck ci i o q N : Nat} {r : vw_C} {j : Nat} (hi : (gT g)[i]? = some (gY g ck, .object r.1)) (hck : ck = 11 ∨ ck = 12) (hc : vwCl[ci]? = some r) (hc8 : ci < 8) (ho : o < n) (hq : q < n) (hk : gK g (gZ g + o) = ck) (hl : gN g (gZ g + o) = N) (hkq : gK g (gZ g + q) = ci) (hj : j < N) (hj9 : j ≤ 2147483647) (hdg : decode cc pc = .ok (.aastore, 1)) (he : ev t = (3, o, j, q))
    (kk : ∀ (H1 : Heap) (locs1 : List Loc), cH g (t + 1) n H1 → va_S (gA g) s.heap H1 locs1 → W p l e Rm s m args below meth c H1 locs1 cells slots Q (F0 m (pc + 1) ls rest)) : W p l e Rm s m args below meth c H locs cells slots Q (F0 m pc ls (.ref (gZ g + q) :: .int (iI (j : Int)) :: .ref (gZ g + o) :: rest)) := sorry
variable {y : MethodName} {bytes : ByteArray} {maxL N index b t' n' mc ms q : Nat} {ret : Option FieldType} {ws : List Cond} {rm : Room} {As : List Value} {host : String}
theorem c_pre (F : gFix g p c cc nL s args Ts own m) (hNst : cNst s) (hH : cH g t n H) (hS : va_S (gA g) s.heap H locs) (hz : H.size = gZ g + n) {av : List Value} : ∀ U : State, U.heap = H → s.WarmedH U.vm → cPre g t n av av.toArray U := sorry
theorem c_callI (F : gFix g p c cc nL s args Ts own m) (hNst : cNst s) (hls : ls.size = nL) (hH : cH g t n H) (hS : va_S (gA g) s.heap H locs) (hcnt : s.heap.size + cells = gZ g + n) (M : Met l y ws rm (cPre g t n (.ref b :: As)) (cQv g t' n') mc ms (gA g))
    (cw : CallB Rm s args own index y bytes maxL none ws rm mc ms N ∧ y.name = "<init>" ∧ (Cond.instanceMethod y).before args s = true) (hn : As.length = N) (hst : st0 = As.reverse ++ .ref b :: rest) (hroom : (rest.map fun v => v.category).sum ≤ 8) (hdg : decode cc pc = .ok (.invokespecial index, 3)) (hcs : cells + mc ≤ Rm.cells ∧ slots + ms ≤ Rm.slots)
    (kk : ∀ (H1 : Heap) (locs1 : List Loc), cH g t' n' H1 → va_S (gA g) s.heap H1 locs1 → W p l e Rm s m args below meth c H1 locs1 (cells + mc) (slots + ms) Q (F0 m (pc + 3) ls rest)) : W p l e Rm s m args below meth c H locs cells slots Q (F0 m pc ls st0) := sorry
theorem c_callN (F : gFix g p c cc nL s args Ts own m) (hNst : cNst s) (hls : ls.size = nL) (hH : cH g t n H) (hS : va_S (gA g) s.heap H locs) (hcnt : s.heap.size + cells = gZ g + n) (M : Met l y ws rm (cPre g t n (.ref b :: As)) (cQv g t' n') mc ms (gA g))
    (cw : va_CN Rm s args own index y host bytes maxL none ws rm mc ms N ∧ y.name = "<init>" ∧ (Cond.instanceMethod y).before args s = true) (hn : As.length = N) (hst : st0 = As.reverse ++ .ref b :: rest) (hroom : (rest.map fun v => v.category).sum ≤ 8) (hdg : decode cc pc = .ok (.invokespecial index, 3)) (hcs : cells + mc ≤ Rm.cells ∧ slots + ms ≤ Rm.slots)
    (kk : ∀ (H1 : Heap) (locs1 : List Loc), cH g t' n' H1 → va_S (gA g) s.heap H1 locs1 → W p l e Rm s m args below meth c H1 locs1 (cells + mc) (slots + ms) Q (F0 m (pc + 3) ls rest)) : W p l e Rm s m args below meth c H locs cells slots Q (F0 m pc ls st0) := sorry
theorem c_callS (F : gFix g p c cc nL s args Ts own m) (hNst : cNst s) (hls : ls.size = nL) (hH : cH g t n H) (hS : va_S (gA g) s.heap H locs) (hcnt : s.heap.size + cells = gZ g + n) (M : Met l y ws rm (cPre g t n As) (cQr g t' n' q) mc ms (gA g))
    (cw : CallB Rm s args own index y bytes maxL ret ws rm mc ms N ∧ (Cond.static y).before args s = true) (hn : As.length = N) (hst : st0 = As.reverse ++ rest) (hroom : (rest.map fun v => v.category).sum ≤ 8) (hdg : decode cc pc = .ok (.invokestatic index, 3)) (hcs : cells + mc ≤ Rm.cells ∧ slots + ms ≤ Rm.slots)
    (kk : ∀ (H1 : Heap) (locs1 : List Loc), cH g t' n' H1 → va_S (gA g) s.heap H1 locs1 → W p l e Rm s m args below meth c H1 locs1 (cells + mc) (slots + ms) Q (F0 m (pc + 3) ls (.ref (gZ g + q) :: rest))) : W p l e Rm s m args below meth c H locs cells slots Q (F0 m pc ls st0) := sorry
theorem c_vret (F : gFix g p c cc nL s args Ts own m) (hr : meth.sig.returnType = none) (hlk : meth.locks = false) (hH : cH g t n H) (hS : va_S (gA g) s.heap H locs) (h1 : cells ≤ mc) (h2 : slots ≤ ms) (hdg : decode cc pc = .ok (.return_, 1)) :
    W p l e Rm s m args below meth c H locs cells slots (MQ below (cQv g t n) args s mc ms (gA g)) (F0 m pc ls []) := sorry
theorem c_aret (F : gFix g p c cc nL s args Ts own m) {rt : FieldType} (hr : meth.sig.returnType = some rt) (hrt : (∃ n, rt = .object n) ∨ ∃ t, rt = .array t) (hlk : meth.locks = false) (hH : cH g t n H) (hS : va_S (gA g) s.heap H locs) (h1 : cells ≤ mc) (h2 : slots ≤ ms) (hdg : decode cc pc = .ok (.areturn, 1)) :
    W p l e Rm s m args below meth c H locs cells slots (MQ below (cQr g t n q) args s mc ms (gA g)) (F0 m pc ls [.ref (gZ g + q)]) := sorry
theorem c_obj (F : gFix g p c cc nL s args Ts own m) (hls : ls.size = nL) {a : Nat} (h1 : Cond.methodLink own index objectInit ∈ Ts) (h2 : Cond.instanceMethod objectInit ∈ Ts) (h3 : Cond.code objectInit ⟨#[0xb1]⟩ 1 none ∈ Ts) (hdg : decode cc pc = .ok (.invokespecial index, 3)) (hf : 1 ≤ Rm.frames) (hl : (rest.map fun v => v.category).sum + 12 ≤ Rm.locals)
    (kk : W p l e Rm s m args below meth c H locs cells slots Q (F0 m (pc + 3) ls rest)) : W p l e Rm s m args below meth c H locs cells slots Q (F0 m pc ls (.ref a :: rest)) := sorry
end Cons
theorem cStart {l : Launch} {g : gG} {t n mc ms : Nat} {y : MethodName} {ws ws' : List Cond} {rm : Room} {av : List Value} {Qc : Array Value → State → Outcome → State → Prop} {cc : ByteArray} {maxL : Nat} {ret : Option FieldType}
    (hy : plainName y.cls = true) (hw : ws = Cond.code y cc maxL ret :: ws') (hav : (lg_sl av).length ≤ maxL)
    (body : ∀ (p : Program) (e : Env) (s : State) (m : MethodId) (below : List Frame) (meth : Method) (c : Code) (ls : Array Slot) (H : Heap) (locs : List Loc), gFix g p c cc maxL s av.toArray ws y.cls m → meth.sig.returnType = ret → meth.locks = false → meth.name = y.name →
      cH g t n H → s.heap.size + 0 = gZ g + n → va_S (gA g) s.heap H locs → cNst s → lv_has ls maxL (lv_args 0 av) →
      W p l e rm s m av.toArray below meth c H locs 0 0 (MQ below Qc av.toArray s mc ms (gA g)) (F0 m 0 ls [])) : Met l y ws rm (cPre g t n av) Qc mc ms (gA g) := sorry
theorem df0 : ∀ j, j < 15 → defaultValue (tyX0 j) = vp_V (dvs (gft 0)) j := sorry
theorem df1 : ∀ j, j < 4 → defaultValue (tyX1 j) = vp_V (dvs (gft 1)) j := sorry
theorem df2 : ∀ j, j < 3 → defaultValue (tyX2 j) = vp_V (dvs (gft 2)) j := sorry
theorem df3 : ∀ j, j < 3 → defaultValue (tyX3 j) = vp_V (dvs (gft 3)) j := sorry
theorem df4 : ∀ j, j < 4 → defaultValue (tyX4 j) = vp_V (dvs (gft 4)) j := sorry
theorem df5 : ∀ j, j < 5 → defaultValue (tyX5 j) = vp_V (dvs (gft 5)) j := sorry
theorem df6 : ∀ j, j < 18 → defaultValue (tyX6 j) = vp_V (dvs (gft 6)) j := sorry
theorem df7 : ∀ j, j < 32 → defaultValue (tyX7 j) = vp_V (dvs (gft 7)) j := sorry
theorem nc8 {cA : ClassId} {N : Nat} : vp_cell cA (N, gX 8 (fun _ => 0) (fun _ => 0) (fun _ => none)) = arrV cA N (fun _ => defaultValue .byte) := sorry
theorem nc9 {cA : ClassId} {N : Nat} : vp_cell cA (N, gX 9 (fun _ => 0) (fun _ => 0) (fun _ => none)) = arrV cA N (fun _ => defaultValue .int) := sorry
theorem nc10 {cA : ClassId} {N : Nat} : vp_cell cA (N, gX 10 (fun _ => 0) (fun _ => 0) (fun _ => none)) = arrV cA N (fun _ => defaultValue .long) := sorry
theorem cfr_of {t n : Nat} (h : (List.range t).all (fun j => decide ((ev j).2.1 < n)) = true) : cfr t n := sorry
theorem kK {g : gG} (hOK : gOK g) {o k : Nat} (ho : o < 223) (h : kT o = k) : gK g (gZ g + o) = k := sorry
theorem kN {g : gG} (hOK : gOK g) {o k : Nat} (ho : o < 223) (h : nT o = k) : gN g (gZ g + o) = k := sorry
theorem cH_eq {g : gG} {t t1 n n1 : Nat} {H : Heap} (et : t = t1) (en : n = n1) (h : cH g t n H) : cH g t1 n1 H := sorry

end

section
def rmX0_init : Room := { frames := 1, cells := 1, slots := 32, locals := 12 }
theorem hdX0_init : yX0_init.cls ≠ "java/lang/invoke/MethodHandle" ∧ yX0_init.cls ≠ "java/lang/invoke/VarHandle" ∧ (parseMethodDescriptor yX0_init.desc).map (fun d => d.parameters.length) = some 0 := sorry
set_option maxHeartbeats 4000000 in
set_option maxRecDepth 100000 in
theorem mk_X0_init (l : Launch) (g : gG) (t o : Nat) (hOK : gOK g) (ho : o < 222) (h1 : kT o = 0) (h2 : kT (o + 1) = 9) (h3 : nT (o + 1) = 32) (h4 : ev t = (2, o, 7, o + 1)) (h5 : cfr t (o + 1)) : Met l yX0_init wsX0_init rmX0_init (cPre g (t) (o + 1) [.ref (gZ g + o)]) (cQv g (t + 1) (o + 2)) (1) (32) (gA g) := sorry
def rmX4_init (lim : Nat) : Room := { frames := 1, cells := 1, slots := 6 * lim, locals := 12 }
theorem hdX4_init : yX4_init.cls ≠ "java/lang/invoke/MethodHandle" ∧ yX4_init.cls ≠ "java/lang/invoke/VarHandle" ∧ (parseMethodDescriptor yX4_init.desc).map (fun d => d.parameters.length) = some 2 := sorry
set_option maxHeartbeats 4000000 in
set_option maxRecDepth 100000 in
theorem mk_X4_init (l : Launch) (g : gG) (t o ky lim : Nat) (hOK : gOK g) (ho : o < 222) (h1 : kT o = 4) (h2 : kT (o + 1) = 9) (h3 : nT (o + 1) = 6 * lim) (h4 : ev t = (1, o, 0, ky)) (h5 : ev (t + 1) = (1, o, 1, lim)) (h6 : ev (t + 2) = (2, o, 2, o + 1)) (h7 : cfr (t + 2) (o + 1)) (h8 : lim ≤ 240) : Met l yX4_init wsX4_init (rmX4_init lim) (cPre g (t) (o + 1) [.ref (gZ g + o), .int (iI ((ky : Nat) : Int)), .int (iI ((lim : Nat) : Int))]) (cQv g (t + 3) (o + 2)) (1) (6 * lim) (gA g) := sorry
def rmX5_init : Room := { frames := 1, cells := 4, slots := 3604, locals := 12 }
theorem hdX5_init : yX5_init.cls ≠ "java/lang/invoke/MethodHandle" ∧ yX5_init.cls ≠ "java/lang/invoke/VarHandle" ∧ (parseMethodDescriptor yX5_init.desc).map (fun d => d.parameters.length) = some 0 := sorry
set_option maxHeartbeats 4000000 in
set_option maxRecDepth 100000 in
theorem mk_X5_init (l : Launch) (g : gG) (hOK : gOK g) : Met l yX5_init wsX5_init rmX5_init (cPre g (1) (4) [.ref (gZ g + 3)]) (cQv g (5) (8)) (4) (3604) (gA g) := sorry
def rmX3_init : Room := { frames := 1, cells := 3, slots := 493, locals := 12 }
theorem hdX3_init : yX3_init.cls ≠ "java/lang/invoke/MethodHandle" ∧ yX3_init.cls ≠ "java/lang/invoke/VarHandle" ∧ (parseMethodDescriptor yX3_init.desc).map (fun d => d.parameters.length) = some 0 := sorry
set_option maxHeartbeats 4000000 in
set_option maxRecDepth 100000 in
theorem mk_X3_init (l : Launch) (g : gG) (hOK : gOK g) : Met l yX3_init wsX3_init rmX3_init (cPre g (76) (77) [.ref (gZ g + 76)]) (cQv g (79) (80)) (3) (493) (gA g) := sorry
def rmX7_init : Room := { frames := 1, cells := 16, slots := 140978, locals := 12 }
theorem hdX7_init : yX7_init.cls ≠ "java/lang/invoke/MethodHandle" ∧ yX7_init.cls ≠ "java/lang/invoke/VarHandle" ∧ (parseMethodDescriptor yX7_init.desc).map (fun d => d.parameters.length) = some 0 := sorry
set_option maxHeartbeats 4000000 in
set_option maxRecDepth 100000 in
theorem mk_X7_init (l : Launch) (g : gG) (hOK : gOK g) : Met l yX7_init wsX7_init rmX7_init (cPre g (325) (206) [.ref (gZ g + 205)]) (cQv g (341) (222)) (16) (140978) (gA g) := sorry
def rmX2_init : Room := { frames := 2, cells := 33, slots := 768, locals := 32 }
theorem hdX2_init : yX2_init.cls ≠ "java/lang/invoke/MethodHandle" ∧ yX2_init.cls ≠ "java/lang/invoke/VarHandle" ∧ (parseMethodDescriptor yX2_init.desc).map (fun d => d.parameters.length) = some 0 := sorry
set_option maxHeartbeats 4000000 in
set_option maxRecDepth 100000 in
theorem mk_X2_init (l : Launch) (g : gG) (t o : Nat) (hOK : gOK g) (ho : o < 180) (h1 : kT o = 2) (h2 : kT (o + 1) = 11) (h3 : nT (o + 1) = 16) (h4 : ev t = (2, o, 0, o + 1)) (h5 : cfr t (o + 1)) (hI : ∀ i, i < 16 → kT (o + 2 + 2 * i) = 0 ∧ kT (o + 2 + 2 * i + 1) = 9 ∧ nT (o + 2 + 2 * i + 1) = 32 ∧ ev (t + 1 + 2 * i) = (2, o + 2 + 2 * i, 7, o + 2 + 2 * i + 1) ∧ ev (t + 1 + 2 * i + 1) = (3, o + 1, i, o + 2 + 2 * i) ∧ cfr (t + 1 + 2 * i) (o + 2 + 2 * i) ∧ cfr (t + 1 + 2 * i) (o + 2 + 2 * i + 1) ∧ cR (t + 1 + 2 * i) o 0 = some (o + 1)) : Met l yX2_init wsX2_init rmX2_init (cPre g (t) (o + 1) [.ref (gZ g + o)]) (cQv g (t + 33) (o + 34)) (33) (768) (gA g) := sorry
def rmX6_newBags120 : Room := { frames := 2, cells := 33, slots := 11600, locals := 34 }
theorem hdX6_newBags : yX6_newBags.cls ≠ "java/lang/invoke/MethodHandle" ∧ yX6_newBags.cls ≠ "java/lang/invoke/VarHandle" ∧ (parseMethodDescriptor yX6_newBags.desc).map (fun d => d.parameters.length) = some 1 := sorry
set_option maxHeartbeats 4000000 in
set_option maxRecDepth 100000 in
theorem mk_X6_newBags120 (l : Launch) (g : gG) (t o : Nat) (hOK : gOK g) (ho : o < 190) (h2 : kT o = 12) (h3 : nT o = 16) (h5 : cfr t o) (hI : ∀ i, i < 16 → kT (o + 1 + 2 * i) = 4 ∧ kT (o + 1 + 2 * i + 1) = 9 ∧ nT (o + 1 + 2 * i + 1) = 6 * 120 ∧ ev (t + 4 * i) = (1, o + 1 + 2 * i, 0, 4) ∧ ev (t + 4 * i + 1) = (1, o + 1 + 2 * i, 1, 120) ∧ ev (t + 4 * i + 2) = (2, o + 1 + 2 * i, 2, o + 1 + 2 * i + 1) ∧ ev (t + 4 * i + 3) = (3, o, i, o + 1 + 2 * i) ∧ cfr (t + 4 * i) (o + 1 + 2 * i) ∧ cfr (t + 4 * i + 2) (o + 1 + 2 * i + 1)) : Met l yX6_newBags wsX6_newBags rmX6_newBags120 (cPre g (t) (o) [.int (iI 120)]) (cQr g (t + 64) (o + 33) (o)) (33) (11600) (gA g) := sorry
def rmX6_newBags240 : Room := { frames := 2, cells := 33, slots := 23120, locals := 34 }
set_option maxHeartbeats 4000000 in
set_option maxRecDepth 100000 in
theorem mk_X6_newBags240 (l : Launch) (g : gG) (t o : Nat) (hOK : gOK g) (ho : o < 190) (h2 : kT o = 12) (h3 : nT o = 16) (h5 : cfr t o) (hI : ∀ i, i < 16 → kT (o + 1 + 2 * i) = 4 ∧ kT (o + 1 + 2 * i + 1) = 9 ∧ nT (o + 1 + 2 * i + 1) = 6 * 240 ∧ ev (t + 4 * i) = (1, o + 1 + 2 * i, 0, 4) ∧ ev (t + 4 * i + 1) = (1, o + 1 + 2 * i, 1, 240) ∧ ev (t + 4 * i + 2) = (2, o + 1 + 2 * i, 2, o + 1 + 2 * i + 1) ∧ ev (t + 4 * i + 3) = (3, o, i, o + 1 + 2 * i) ∧ cfr (t + 4 * i) (o + 1 + 2 * i) ∧ cfr (t + 4 * i + 2) (o + 1 + 2 * i + 1)) : Met l yX6_newBags wsX6_newBags rmX6_newBags240 (cPre g (t) (o) [.int (iI 240)]) (cQr g (t + 64) (o + 33) (o)) (33) (23120) (gA g) := sorry
def rmX6_newHistory : Room := { frames := 2, cells := 17, slots := 1960, locals := 34 }
theorem hdX6_newHistory : yX6_newHistory.cls ≠ "java/lang/invoke/MethodHandle" ∧ yX6_newHistory.cls ≠ "java/lang/invoke/VarHandle" ∧ (parseMethodDescriptor yX6_newHistory.desc).map (fun d => d.parameters.length) = some 0 := sorry
set_option maxHeartbeats 4000000 in
set_option maxRecDepth 100000 in
theorem mk_X6_newHistory (l : Launch) (g : gG) (t o : Nat) (hOK : gOK g) (ho : o < 190) (h2 : kT o = 12) (h3 : nT o = 8) (h5 : cfr t o) (hI : ∀ i, i < 8 → kT (o + 1 + 2 * i) = 4 ∧ kT (o + 1 + 2 * i + 1) = 9 ∧ nT (o + 1 + 2 * i + 1) = 6 * 40 ∧ ev (t + 4 * i) = (1, o + 1 + 2 * i, 0, 5) ∧ ev (t + 4 * i + 1) = (1, o + 1 + 2 * i, 1, 40) ∧ ev (t + 4 * i + 2) = (2, o + 1 + 2 * i, 2, o + 1 + 2 * i + 1) ∧ ev (t + 4 * i + 3) = (3, o, i, o + 1 + 2 * i) ∧ cfr (t + 4 * i) (o + 1 + 2 * i) ∧ cfr (t + 4 * i + 2) (o + 1 + 2 * i + 1)) : Met l yX6_newHistory wsX6_newHistory rmX6_newHistory (cPre g (t) (o) []) (cQr g (t + 32) (o + 17) (o)) (17) (1960) (gA g) := sorry
theorem pl_8 : ∀ i, i < 16 → kT (8 + 2 + 2 * i) = 0 ∧ kT (8 + 2 + 2 * i + 1) = 9 ∧ nT (8 + 2 + 2 * i + 1) = 32 ∧ ev (6 + 1 + 2 * i) = (2, 8 + 2 + 2 * i, 7, 8 + 2 + 2 * i + 1) ∧ ev (6 + 1 + 2 * i + 1) = (3, 8 + 1, i, 8 + 2 + 2 * i) ∧ cfr (6 + 1 + 2 * i) (8 + 2 + 2 * i) ∧ cfr (6 + 1 + 2 * i) (8 + 2 + 2 * i + 1) ∧ cR (6 + 1 + 2 * i) 8 0 = some (8 + 1) := sorry
theorem pl_42 : ∀ i, i < 16 → kT (42 + 2 + 2 * i) = 0 ∧ kT (42 + 2 + 2 * i + 1) = 9 ∧ nT (42 + 2 + 2 * i + 1) = 32 ∧ ev (42 + 1 + 2 * i) = (2, 42 + 2 + 2 * i, 7, 42 + 2 + 2 * i + 1) ∧ ev (42 + 1 + 2 * i + 1) = (3, 42 + 1, i, 42 + 2 + 2 * i) ∧ cfr (42 + 1 + 2 * i) (42 + 2 + 2 * i) ∧ cfr (42 + 1 + 2 * i) (42 + 2 + 2 * i + 1) ∧ cR (42 + 1 + 2 * i) 42 0 = some (42 + 1) := sorry
theorem rwa_80 : ∀ i, i < 16 → kT (80 + 1 + 2 * i) = 4 ∧ kT (80 + 1 + 2 * i + 1) = 9 ∧ nT (80 + 1 + 2 * i + 1) = 6 * 120 := sorry
theorem rwb_80 : ∀ i, i < 16 → ev (80 + 4 * i) = (1, 80 + 1 + 2 * i, 0, 4) ∧ ev (80 + 4 * i + 1) = (1, 80 + 1 + 2 * i, 1, 120) ∧ ev (80 + 4 * i + 2) = (2, 80 + 1 + 2 * i, 2, 80 + 1 + 2 * i + 1) ∧ ev (80 + 4 * i + 3) = (3, 80, i, 80 + 1 + 2 * i) := sorry
theorem rwc_80 : ∀ i, i < 16 → cfr (80 + 4 * i) (80 + 1 + 2 * i) ∧ cfr (80 + 4 * i + 2) (80 + 1 + 2 * i + 1) := sorry
theorem rw_80 : ∀ i, i < 16 → kT (80 + 1 + 2 * i) = 4 ∧ kT (80 + 1 + 2 * i + 1) = 9 ∧ nT (80 + 1 + 2 * i + 1) = 6 * 120 ∧ ev (80 + 4 * i) = (1, 80 + 1 + 2 * i, 0, 4) ∧ ev (80 + 4 * i + 1) = (1, 80 + 1 + 2 * i, 1, 120) ∧ ev (80 + 4 * i + 2) = (2, 80 + 1 + 2 * i, 2, 80 + 1 + 2 * i + 1) ∧ ev (80 + 4 * i + 3) = (3, 80, i, 80 + 1 + 2 * i) ∧ cfr (80 + 4 * i) (80 + 1 + 2 * i) ∧ cfr (80 + 4 * i + 2) (80 + 1 + 2 * i + 1) := sorry
theorem rwa_113 : ∀ i, i < 16 → kT (113 + 1 + 2 * i) = 4 ∧ kT (113 + 1 + 2 * i + 1) = 9 ∧ nT (113 + 1 + 2 * i + 1) = 6 * 120 := sorry
theorem rwb_113 : ∀ i, i < 16 → ev (145 + 4 * i) = (1, 113 + 1 + 2 * i, 0, 4) ∧ ev (145 + 4 * i + 1) = (1, 113 + 1 + 2 * i, 1, 120) ∧ ev (145 + 4 * i + 2) = (2, 113 + 1 + 2 * i, 2, 113 + 1 + 2 * i + 1) ∧ ev (145 + 4 * i + 3) = (3, 113, i, 113 + 1 + 2 * i) := sorry
theorem rwc_113 : ∀ i, i < 16 → cfr (145 + 4 * i) (113 + 1 + 2 * i) ∧ cfr (145 + 4 * i + 2) (113 + 1 + 2 * i + 1) := sorry
theorem rw_113 : ∀ i, i < 16 → kT (113 + 1 + 2 * i) = 4 ∧ kT (113 + 1 + 2 * i + 1) = 9 ∧ nT (113 + 1 + 2 * i + 1) = 6 * 120 ∧ ev (145 + 4 * i) = (1, 113 + 1 + 2 * i, 0, 4) ∧ ev (145 + 4 * i + 1) = (1, 113 + 1 + 2 * i, 1, 120) ∧ ev (145 + 4 * i + 2) = (2, 113 + 1 + 2 * i, 2, 113 + 1 + 2 * i + 1) ∧ ev (145 + 4 * i + 3) = (3, 113, i, 113 + 1 + 2 * i) ∧ cfr (145 + 4 * i) (113 + 1 + 2 * i) ∧ cfr (145 + 4 * i + 2) (113 + 1 + 2 * i + 1) := sorry
theorem rwa_146 : ∀ i, i < 16 → kT (146 + 1 + 2 * i) = 4 ∧ kT (146 + 1 + 2 * i + 1) = 9 ∧ nT (146 + 1 + 2 * i + 1) = 6 * 240 := sorry
theorem rwb_146 : ∀ i, i < 16 → ev (210 + 4 * i) = (1, 146 + 1 + 2 * i, 0, 4) ∧ ev (210 + 4 * i + 1) = (1, 146 + 1 + 2 * i, 1, 240) ∧ ev (210 + 4 * i + 2) = (2, 146 + 1 + 2 * i, 2, 146 + 1 + 2 * i + 1) ∧ ev (210 + 4 * i + 3) = (3, 146, i, 146 + 1 + 2 * i) := sorry
theorem rwc_146 : ∀ i, i < 16 → cfr (210 + 4 * i) (146 + 1 + 2 * i) ∧ cfr (210 + 4 * i + 2) (146 + 1 + 2 * i + 1) := sorry
theorem rw_146 : ∀ i, i < 16 → kT (146 + 1 + 2 * i) = 4 ∧ kT (146 + 1 + 2 * i + 1) = 9 ∧ nT (146 + 1 + 2 * i + 1) = 6 * 240 ∧ ev (210 + 4 * i) = (1, 146 + 1 + 2 * i, 0, 4) ∧ ev (210 + 4 * i + 1) = (1, 146 + 1 + 2 * i, 1, 240) ∧ ev (210 + 4 * i + 2) = (2, 146 + 1 + 2 * i, 2, 146 + 1 + 2 * i + 1) ∧ ev (210 + 4 * i + 3) = (3, 146, i, 146 + 1 + 2 * i) ∧ cfr (210 + 4 * i) (146 + 1 + 2 * i) ∧ cfr (210 + 4 * i + 2) (146 + 1 + 2 * i + 1) := sorry
theorem rwa_188 : ∀ i, i < 8 → kT (188 + 1 + 2 * i) = 4 ∧ kT (188 + 1 + 2 * i + 1) = 9 ∧ nT (188 + 1 + 2 * i + 1) = 6 * 40 := sorry
theorem rwb_188 : ∀ i, i < 8 → ev (292 + 4 * i) = (1, 188 + 1 + 2 * i, 0, 5) ∧ ev (292 + 4 * i + 1) = (1, 188 + 1 + 2 * i, 1, 40) ∧ ev (292 + 4 * i + 2) = (2, 188 + 1 + 2 * i, 2, 188 + 1 + 2 * i + 1) ∧ ev (292 + 4 * i + 3) = (3, 188, i, 188 + 1 + 2 * i) := sorry
theorem rwc_188 : ∀ i, i < 8 → cfr (292 + 4 * i) (188 + 1 + 2 * i) ∧ cfr (292 + 4 * i + 2) (188 + 1 + 2 * i + 1) := sorry
theorem rw_188 : ∀ i, i < 8 → kT (188 + 1 + 2 * i) = 4 ∧ kT (188 + 1 + 2 * i + 1) = 9 ∧ nT (188 + 1 + 2 * i + 1) = 6 * 40 ∧ ev (292 + 4 * i) = (1, 188 + 1 + 2 * i, 0, 5) ∧ ev (292 + 4 * i + 1) = (1, 188 + 1 + 2 * i, 1, 40) ∧ ev (292 + 4 * i + 2) = (2, 188 + 1 + 2 * i, 2, 188 + 1 + 2 * i + 1) ∧ ev (292 + 4 * i + 3) = (3, 188, i, 188 + 1 + 2 * i) ∧ cfr (292 + 4 * i) (188 + 1 + 2 * i) ∧ cfr (292 + 4 * i + 2) (188 + 1 + 2 * i + 1) := sorry

end

section
def rmX1_init : Room := { frames := 3, cells := 39, slots := 4380, locals := 53 }
theorem hdX1_init : yX1_init.cls ≠ "java/lang/invoke/MethodHandle" ∧ yX1_init.cls ≠ "java/lang/invoke/VarHandle" ∧ (parseMethodDescriptor yX1_init.desc).map (fun d => d.parameters.length) = some 0 := sorry
set_option maxHeartbeats 4000000 in
set_option maxRecDepth 100000 in
theorem mk_X1_init (l : Launch) (g : gG) (hOK : gOK g) : Met l yX1_init wsX1_init rmX1_init (cPre g (1) (3) [.ref (gZ g + 2)]) (cQv g (41) (42)) (39) (4380) (gA g) := sorry
def rmX6_init : Room := { frames := 4, cells := 204, slots := 57048, locals := 73 }
theorem hdX6_init : yX6_init.cls ≠ "java/lang/invoke/MethodHandle" ∧ yX6_init.cls ≠ "java/lang/invoke/VarHandle" ∧ (parseMethodDescriptor yX6_init.desc).map (fun d => d.parameters.length) = some 0 := sorry
set_option maxHeartbeats 4000000 in
set_option maxRecDepth 100000 in
theorem mk_X6_init (l : Launch) (g : gG) (hOK : gOK g) : Met l yX6_init wsX6_init rmX6_init (cPre g (0) (1) [.ref (gZ g + 0)]) (cQv g (325) (205)) (204) (57048) (gA g) := sorry

end

section
def c9T : List Nat := [0, 5, 0, 0, 3, 0, 4, 0, 0, 0, 0, 2, 0, 2, 0, 2, 0, 2, 0, 2, 0, 2, 0, 2, 0, 2, 0, 2, 0, 2, 0, 2, 0, 2, 0, 2, 0, 2, 0, 2, 0, 2, 0, 0, 0, 2, 0, 2, 0, 2, 0, 2, 0, 2, 0, 2, 0, 2, 0, 2, 0, 2, 0, 2, 0, 2, 0, 2, 0, 2, 0, 2, 0, 2, 0, 2, 0, 0, 0, 0, 0, 0, 1, 0, 1, 0, 1, 0, 1, 0, 1, 0, 1, 0, 1, 0, 1, 0, 1, 0, 1, 0, 1, 0, 1, 0, 1, 0, 1, 0, 1, 0, 1, 0, 0, 1, 0, 1, 0, 1, 0, 1, 0, 1, 0, 1, 0, 1, 0, 1, 0, 1, 0, 1, 0, 1, 0, 1, 0, 1, 0, 1, 0, 1, 0, 1, 0, 0, 1, 0, 1, 0, 1, 0, 1, 0, 1, 0, 1, 0, 1, 0, 1, 0, 1, 0, 1, 0, 1, 0, 1, 0, 1, 0, 1, 0, 1, 0, 1, 0, 1, 0, 1, 0, 1, 0, 1, 0, 0, 0, 1, 0, 1, 0, 1, 0, 1, 0, 1, 0, 1, 0, 1, 0, 1, 0, 5, 0, 5, 0, 5, 5, 5, 5, 5, 5, 5, 5, 5, 5, 5, 5, 0]
def c10T : List Nat := [99, 99, 99, 99, 99, 99, 99, 99, 99, 99, 99, 99, 99, 99, 99, 99, 99, 99, 99, 99, 99, 99, 99, 99, 99, 99, 99, 99, 99, 99, 99, 99, 99, 99, 99, 99, 99, 99, 99, 99, 99, 99, 99, 99, 99, 99, 99, 99, 99, 99, 99, 99, 99, 99, 99, 99, 99, 99, 99, 99, 99, 99, 99, 99, 99, 99, 99, 99, 99, 99, 99, 99, 99, 99, 99, 99, 99, 99, 99, 99, 99, 99, 99, 99, 99, 99, 99, 99, 99, 99, 99, 99, 99, 99, 99, 99, 99, 99, 99, 99, 99, 99, 99, 99, 99, 99, 99, 99, 99, 99, 99, 99, 99, 99, 99, 99, 99, 99, 99, 99, 99, 99, 99, 99, 99, 99, 99, 99, 99, 99, 99, 99, 99, 99, 99, 99, 99, 99, 99, 99, 99, 99, 99, 99, 99, 99, 99, 99, 99, 99, 99, 99, 99, 99, 99, 99, 99, 99, 99, 99, 99, 99, 99, 99, 99, 99, 99, 99, 99, 99, 99, 99, 99, 99, 99, 99, 99, 99, 99, 99, 99, 99, 99, 99, 99, 99, 99, 99, 99, 99, 99, 99, 99, 99, 99, 99, 99, 99, 99, 99, 99, 99, 99, 99, 99, 99, 0, 99, 3, 99, 6, 7, 11, 12, 13, 15, 25, 27, 28, 29, 30, 31, 99]
def c20T : List Nat := [0, 0, 0, 0, 0, 0, 0, 0, 0, 0, 0, 0, 0, 0, 0, 0, 0, 0, 0, 0, 0, 2, 3, 76, 4, 5, 6, 7, 1, 187, 77, 78, 79, 0, 0, 146, 188, 179, 181, 183, 185, 0, 0, 0, 0, 0, 0, 0, 205, 0, 206, 207, 0, 208, 209, 0, 210, 211, 0, 0, 0, 212, 213, 214, 0, 215, 0, 0, 0, 0, 0, 0, 0, 0, 0, 216, 0, 217, 218, 219, 220, 221]
def t9 (o : Nat) : Nat := c9T.getD o 0
def t10 (o : Nat) : Nat := c10T.getD o 99
def t20 (a : Nat) : Nat := c20T.getD a 0
/-- the ghosts of the start: z is the first cell -/
def hG (z : Nat) : gGh := fun a b => match a with
  | 0 => b + 1
  | 1 => cI 341 (b - z) 1
  | 2 => cI 341 (b - z) 0
  | 3 => b + 1
  | 4 => if b < z + 42 then z + 8 else z + 42
  | 5 => if b < z + 42 then (b - z - 10) / 2 else (b - z - 44) / 2
  | 6 => b + 1
  | 7 => b - 1
  | 8 => b - 1
  | 9 => t9 (b - z)
  | 10 => t10 (b - z)
  | 42 => 1
  | a + 11 => z + t20 (a + 11)
theorem hG1 {z o : Nat} : hG z 1 (z + o) = cI 341 o 1 := sorry
theorem hG2 {z o : Nat} : hG z 2 (z + o) = cI 341 o 0 := sorry
theorem hG9 {z o : Nat} : hG z 9 (z + o) = t9 o := sorry
theorem hG10 {z o : Nat} : hG z 10 (z + o) = t10 o := sorry
/-- the ghosts of the reference's side: both tapes and the changes are kept by all that does not feed or change -/
def hGm (z : Nat) : gGh := fun a b => match a with
  | 9 => if b = z + 1 ∨ b = z + 212 ∨ b = z + 213 ∨ b = z + 214 ∨ b = z + 215 then 0 else hG z 9 b
  | a => hG z a b
theorem hGm9 {z b : Nat} (h : ¬ (b = z + 1 ∨ b = z + 212 ∨ b = z + 213 ∨ b = z + 214 ∨ b = z + 215)) : hGm z 9 b = hG z 9 b := sorry
theorem hGm_ne {z b n : Nat} (h : hG z 9 b = n) (hn : n ≠ 5) : hGm z 9 b ≠ 5 := sorry
/-- the same, where the reference's changes may change -/
def hGc (z : Nat) : gGh := fun a b => match a with
  | 9 => if b = z + 1 ∨ b = z + 215 then 0 else hG z 9 b
  | a => hG z a b
theorem hGc9 {z b : Nat} (h : ¬ (b = z + 1 ∨ b = z + 215)) : hGc z 9 b = hG z 9 b := sorry
theorem hGc_ne {z b n : Nat} (h : hG z 9 b = n) (hn : n ≠ 5) : hGc z 9 b ≠ 5 := sorry
/-- the world of both systems; M: what the other side holds -/
def gW (g : gG) (M : gI × gI) : gG := (g.1, g.2.1, (List.range' (gZ g) 223, gZ g), (M, g.2.2.2.2))
theorem gO_o {g : gG} {M : gI × gI} {a c : Nat} (hOK : gOK g) (h : gO (gW g M) a c) : ∃ o, o < 223 ∧ a = gZ g + o ∧ kT o = c := sorry
theorem gO_i {g : gG} {M : gI × gI} {o c : Nat} (hOK : gOK g) (ho : o < 223) (hk : kT o = c) : gO (gW g M) (gZ g + o) c := sorry
theorem gAr_i {g : gG} {M : gI × gI} {o c n : Nat} (hOK : gOK g) (ho : o < 223) (hk : kT o = c) (hn : nT o = n) : gAr (gW g M) (gZ g + o) c n := sorry
theorem wI_at {g : gG} {o k v : Nat} (h : cI 341 o k = v) : (wI g 341 (gZ g + o) k).toInt = (iI (v : Int)).toInt := sorry
theorem wI_v {g : gG} {o k v : Nat} (h : cI 341 o k = v) (hv : v ≤ 1000) : (wI g 341 (gZ g + o) k).toInt = (v : Int) := sorry
theorem wI_0 {g : gG} {o k : Nat} (h : cI 341 o k = 0) : wI g 341 (gZ g + o) k = 0 := sorry
theorem tR1 : ∀ o, o < 223 → kT o = 4 → cR 341 o 2 = some (o + 1) ∧ kT (o + 1) = 9 ∧ nT (o + 1) = 6 * cI 341 o 1 := sorry
theorem tR2 : ∀ o, o < 223 → kT o = 4 → t9 (o + 1) = 1 ∧ o + 1 < 223 ∧ cI 341 o 3 = 0 := sorry
theorem tR3 : ∀ o, o < 223 → kT o = 4 → (cI 341 o 0 = 4 ∨ cI 341 o 0 = 5) ∧ 40 ≤ cI 341 o 1 ∧ cI 341 o 1 ≤ 240 := sorry
theorem tL1 : ∀ o, o < 223 → kT o = 0 → cR 341 o 7 = some (o + 1) ∧ kT (o + 1) = 9 ∧ nT (o + 1) = 32 := sorry
theorem tL2 : ∀ o, o < 223 → kT o = 0 → t9 (o + 1) = 2 ∧ o + 1 < 223 := sorry
theorem tL3 : ∀ o, o < 223 → kT o = 0 → ∀ k, k < 15 → cI 341 o k = 0 := sorry
theorem tL4 : ∀ o, o < 223 → kT o = 0 → (10 ≤ o ∧ o ≤ 41 ∧ o % 2 = 0) ∨ (44 ≤ o ∧ o ≤ 75 ∧ o % 2 = 0) := sorry
theorem tP1 : ∀ o, o < 223 → kT o = 2 → o = 8 ∨ o = 42 := sorry
theorem tP2 : ∀ j, j < 16 → cA 341 9 j = some (10 + 2 * j) ∧ kT (10 + 2 * j) = 0 ∧ 10 + 2 * j < 42 := sorry
theorem tP3 : ∀ j, j < 16 → cA 341 43 j = some (44 + 2 * j) ∧ kT (44 + 2 * j) = 0 ∧ 44 + 2 * j < 76 := sorry
theorem tK6 : ∀ o, o < 223 → kT o = 6 → o = 0 := sorry
theorem tK1 : ∀ o, o < 223 → kT o = 1 → o = 2 := sorry
theorem tK5 : ∀ o, o < 223 → kT o = 5 → o = 3 := sorry
theorem tK3 : ∀ o, o < 223 → kT o = 3 → o = 76 := sorry
theorem tK7 : ∀ o, o < 223 → kT o = 7 → o = 205 := sorry
theorem tM0 : ∀ k, k < 32 → cI 341 205 k = 0 := sorry
theorem tB {z : Nat} : True := sorry
/-- a row of Rows at b, its first at b + 1 -/
theorem isRA_i {g : gG} {M : gI × gI} {b n lim key : Nat} (hOK : gOK g) (hb : b < 223) (hk : kT b = 12) (hn : nT b = n) (h : ∀ j, j < n → cA 341 b j = some (b + 1 + 2 * j) ∧ kT (b + 1 + 2 * j) = 4 ∧ b + 1 + 2 * j < 223) (h2 : ∀ j, j < n → cI 341 (b + 1 + 2 * j) 1 = lim ∧ cI 341 (b + 1 + 2 * j) 0 = key) (h3 : ∀ j, j < n → b + 1 + 2 * j ≠ 179) : isRA (gW g M) (hG (gZ g)) (wA g 341) (gZ g + b) n lim key := sorry
theorem isR1_i {g : gG} {M : gI × gI} {o lim key : Nat} (hOK : gOK g) (ho : o < 223) (hk : kT o = 4) (h1 : cI 341 o 1 = lim) (h2 : cI 341 o 0 = key) : isR1 (gW g M) (hG (gZ g)) (gZ g + o) lim key := sorry
theorem tB80 : ∀ j, j < 16 → cA 341 80 j = some (80 + 1 + 2 * j) ∧ kT (80 + 1 + 2 * j) = 4 ∧ 80 + 1 + 2 * j < 223 := sorry
theorem tC80 : ∀ j, j < 16 → cI 341 (80 + 1 + 2 * j) 1 = 120 ∧ cI 341 (80 + 1 + 2 * j) 0 = 4 := sorry
theorem tB113 : ∀ j, j < 16 → cA 341 113 j = some (113 + 1 + 2 * j) ∧ kT (113 + 1 + 2 * j) = 4 ∧ 113 + 1 + 2 * j < 223 := sorry
theorem tC113 : ∀ j, j < 16 → cI 341 (113 + 1 + 2 * j) 1 = 120 ∧ cI 341 (113 + 1 + 2 * j) 0 = 4 := sorry
theorem tB146 : ∀ j, j < 16 → cA 341 146 j = some (146 + 1 + 2 * j) ∧ kT (146 + 1 + 2 * j) = 4 ∧ 146 + 1 + 2 * j < 223 := sorry
theorem tC146 : ∀ j, j < 16 → cI 341 (146 + 1 + 2 * j) 1 = 240 ∧ cI 341 (146 + 1 + 2 * j) 0 = 4 := sorry
theorem tB188 : ∀ j, j < 8 → cA 341 188 j = some (188 + 1 + 2 * j) ∧ kT (188 + 1 + 2 * j) = 4 ∧ 188 + 1 + 2 * j < 223 := sorry
theorem tC188 : ∀ j, j < 8 → cI 341 (188 + 1 + 2 * j) 1 = 40 ∧ cI 341 (188 + 1 + 2 * j) 0 = 5 := sorry
section Start
variable {g : gG} {M : gI × gI}
theorem s_rows (hOK : gOK g) : vRows (gW g M) (hG (gZ g)) (wR g 341) (wI g 341) := sorry
theorem s_c5 : vC5 (gW g M) (hG (gZ g)) zA := sorry
theorem s_line (hOK : gOK g) : vLine (gW g M) (hG (gZ g)) (wR g 341) (wI g 341) zA := sorry
theorem s_plan (hOK : gOK g) : vPlan (gW g M) (hG (gZ g)) (wR g 341) (wA g 341) (wI g 341) := sorry
theorem s_x (hOK : gOK g) : vX (gW g M) (hG (gZ g)) (wR g 341) (wA g 341) (wI g 341) := sorry
theorem s_pr (hOK : gOK g) : vPr (gW g M) (hG (gZ g)) (wR g 341) (wI g 341) := sorry
theorem s_tk (hOK : gOK g) : vTk (gW g M) (hG (gZ g)) (wR g 341) (wI g 341) zA := sorry
theorem s_rk (hOK : gOK g) : vRk (gW g M) (hG (gZ g)) (wR g 341) := sorry
theorem s_inv (hOK : gOK g) : gInv (gW g (wI g 341, zA)) (hG (gZ g)) (wR g 341) (wA g 341) (wI g 341) zA := sorry
theorem s_xS (hOK : gOK g) : xS (gW g M) (hG (gZ g)) (wR g 341) (wA g 341) (gZ g + 0) (gZ g + 42) (gZ g + 80) (gZ g + 113) := sorry
theorem s_ma (hOK : gOK g) {k n o : Nat} (ho : o < 223) (e : hGm (gZ g) (50 + k) 0 = gZ g + o) (h1 : cR 341 205 k = some o) (h2 : kT o = 9) (h3 : nT o = n) (h4 : t9 o = 5) (h5 : t10 o = k) (h6 : k ≠ 15 → k ≠ 11 → k ≠ 12 → k ≠ 13 → o ≠ 1 ∧ o ≠ 212 ∧ o ≠ 213 ∧ o ≠ 214 ∧ o ≠ 215) : wR g 341 (gZ g + 205) k = some (hGm (gZ g) (50 + k) 0) ∧ gAr (gW g M) (hGm (gZ g) (50 + k) 0) 9 n ∧ (k ≠ 15 → k ≠ 11 → k ≠ 12 → k ≠ 13 → hGm (gZ g) 9 (hGm (gZ g) (50 + k) 0) = 5) ∧ hGm (gZ g) 10 (hGm (gZ g) (50 + k) 0) = k := sorry
theorem s_minv (hOK : gOK g) : mInv (gW g (wI g 341, zA)) (hGm (gZ g)) (wR g 341) (wI g 341) zA := sorry
end Start


end
