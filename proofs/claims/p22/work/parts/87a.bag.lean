section
/-! bags: tuples of four, an amount and a mark for each; told by rows in order, they are one -/
abbrev Tup : Type := Int32 × Int32 × Int32 × Int32
def tup (f : Nat → Int32) (i : Nat) : Tup := (f (6 * i), f (6 * i + 1), f (6 * i + 2), f (6 * i + 3))
/-- a column of a tuple -/
def tg (t : Tup) : Nat → Int32
  | 0 => t.1
  | 1 => t.2.1
  | 2 => t.2.2.1
  | 3 => t.2.2.2
  | _ => 0
def tu (t : Tup) (k : Nat) : Int := (tg t k).toInt
/-- a tuple told by its columns -/
def tmk (h : Nat → Int32) : Tup := (h 0, h 1, h 2, h 3)
theorem tg_mk {h : Nat → Int32} : ∀ k, k < 4 → tg (tmk h) k = h k := sorry
theorem tg_x {a b : Tup} (h : ∀ k, k < 4 → tg a k = tg b k) : a = b := sorry
theorem tg_up {f : Nat → Int32} {i : Nat} : ∀ k, k < 4 → tg (tup f i) k = f (6 * i + k) := sorry
theorem tup_mk {f : Nat → Int32} {i : Nat} : tup f i = tmk (fun k => f (6 * i + k)) := sorry
theorem tu_ry {f : Nat → Int32} {i : Nat} : ∀ t, t < 4 → ry6 f i t = tu (tup f i) t := sorry
/-- the order of tuples: -1, 0, 1 -/
def tc (a b : Tup) : Int := kc 4 (tu a) (tu b)
theorem tc_r {a b : Tup} : tc a b = -1 ∨ tc a b = 0 ∨ tc a b = 1 := sorry
theorem tc_s {a b : Tup} : tc b a = - tc a b := sorry
theorem tc_0 {a b : Tup} : tc a b = 0 ↔ a = b := sorry
theorem tc_t {a b c : Tup} (h : tc a b ≤ 0) (k : tc b c ≤ 0) (d : tc a b < 0 ∨ tc b c < 0) : tc a c = -1 := sorry
theorem tc_ne {a b : Tup} (h : tc a b = -1) : a ≠ b := sorry
theorem tc_ne1 {a b : Tup} (h : tc a b = 1) : a ≠ b := sorry
theorem tc_ry {f f' : Nat → Int32} {i j : Nat} : kc 4 (ry6 f i) (ry6 f' j) = tc (tup f i) (tup f' j) := sorry
theorem tc_ku {f : Nat → Int32} {i : Nat} {t : Tup} : kc 4 (ry6 f i) (tu t) = tc (tup f i) t := sorry
theorem tc_kv {f : Nat → Int32} {i : Nat} {t : Tup} {v : Nat → Int} (h : ∀ k, k < 4 → v k = tu t k) : kc 4 (ry6 f i) v = tc (tup f i) t := sorry
/-- the first place at which two differ -/
theorem kcF_lt {u v : Nat → Int} : ∀ (m s : Nat), kcF u v m s = -1 ↔ ∃ q : Nat, s ≤ q ∧ q < s + m ∧ (∀ r, s ≤ r → r < q → u r = v r) ∧ u q < v q := sorry
theorem tc_lt {a b : Tup} : tc a b = -1 ↔ ∃ q : Nat, q < 4 ∧ (∀ r, r < q → tg a r = tg b r) ∧ tu a q < tu b q := sorry
/-- n rows in order, no two alike -/
def srtB (f : Nat → Int32) (n : Nat) : Prop := ∀ i j : Nat, i < j → j < n → tc (tup f i) (tup f j) = -1
theorem srt_B {f : Nat → Int32} {n : Nat} : srt 4 f (n : Int) ↔ srtB f n := sorry
theorem srtB_ne {f : Nat → Int32} {n i j : Nat} (h : srtB f n) (hi : i < n) (hj : j < n) (e : tup f i = tup f j) : i = j := sorry
theorem srtB_le {f : Nat → Int32} {n i j : Nat} (h : srtB f n) (hij : i ≤ j) (hj : j < n) : tc (tup f i) (tup f j) ≤ 0 := sorry
/-- rows in order: just those of P, with their amounts and marks -/
def isW (f : Nat → Int32) (n : Nat) (P : Tup → Prop) (S M : Tup → Int32) : Prop :=
  srtB f n ∧ (∀ i : Nat, i < n → P (tup f i) ∧ f (6 * i + 4) = S (tup f i) ∧ f (6 * i + 5) = M (tup f i)) ∧ ∀ t : Tup, P t → ∃ i : Nat, i < n ∧ tup f i = t
def rwS (f' : Nat → Int32) (i' : Nat) (f : Nat → Int32) (i : Nat) : Prop := ∀ j, j < 6 → f' (6 * i' + j) = f (6 * i + j)
theorem rwS_t {f f' : Nat → Int32} {i i' : Nat} (h : rwS f' i' f i) : tup f' i' = tup f i := sorry
theorem rwS_of {f f' : Nat → Int32} {i i' : Nat} (h : tup f' i' = tup f i) (h4 : f' (6 * i' + 4) = f (6 * i + 4)) (h5 : f' (6 * i' + 5) = f (6 * i + 5)) : rwS f' i' f i := sorry
/-- as many rows, all alike -/
def rwA (f f' : Nat → Int32) (n : Nat) : Prop := ∀ i, i < n → rwS f i f' i
theorem rwA_s {f f' : Nat → Int32} {n : Nat} (h : rwA f f' n) : rwA f' f n := sorry
theorem rwA_t {f f' f'' : Nat → Int32} {n : Nat} (h : rwA f f' n) (k : rwA f' f'' n) : rwA f f'' n := sorry
theorem rwA_r {f : Nat → Int32} {n : Nat} : rwA f f n := sorry
theorem rwA_of {f f' : Nat → Int32} {n : Nat} (h : ∀ j, j < 6 * n → f j = f' j) : rwA f f' n := sorry
theorem rwA_at {f f' : Nat → Int32} {n : Nat} (h : rwA f f' n) {j : Nat} (hj : j < 6 * n) : f j = f' j := sorry
section IsW
variable {f f' : Nat → Int32} {n n' p : Nat} {P P' : Tup → Prop} {S S' M M' : Tup → Int32} {t : Tup} {c m : Int32}
theorem isW_c (h : isW f n P S M) (e : rwA f' f n) : isW f' n P S M := sorry
theorem isW_q (h : isW f n P S M) (hP : ∀ t, P' t ↔ P t) (hS : ∀ t, P t → S' t = S t) (hM : ∀ t, P t → M' t = M t) : isW f n P' S' M' := sorry
theorem isW_0 (h : ∀ t, ¬ P t) : isW f 0 P S M := sorry
theorem isW_h (a : isW f n P S M) (b : isW f' n' P S' M') (i : Nat) (ih : ∀ j, j < i → j < n ∧ j < n' ∧ tup f j = tup f' j) (hi : i < n) : i < n' ∧ tup f i = tup f' i := sorry
/-- rows of one P are one: as many, row by row -/
theorem isW_u (a : isW f n P S M) (b : isW f' n' P S' M') (hS : ∀ t, P t → S t = S' t) (hM : ∀ t, P t → M t = M' t) : n = n' ∧ rwA f f' n := sorry
theorem isW_n (a : isW f n P S M) (h : ∀ i : Nat, i < n → tup f i ≠ t) : ¬ P t := sorry
theorem isW_i (a : isW f n P S M) {i j : Nat} (hi : i < n) (hj : j < n) (e : tup f i = tup f j) : i = j := sorry
def tUp (S : Tup → Int32) (t : Tup) (c : Int32) : Tup → Int32 := fun s => if s = t then c else S s
theorem tUp_s : tUp S t c t = c := sorry
theorem tUp_k {s : Tup} (h : s ≠ t) : tUp S t c s = S s := sorry
def pAdd (P : Tup → Prop) (t : Tup) : Tup → Prop := fun s => s = t ∨ P s
/-- a row comes in at p -/
def insW (f f' : Nat → Int32) (p n : Nat) (t : Tup) (c m : Int32) : Prop :=
  (∀ i, i < p → rwS f' i f i) ∧ (tup f' p = t ∧ f' (6 * p + 4) = c ∧ f' (6 * p + 5) = m) ∧ ∀ i, p ≤ i → i < n → rwS f' (i + 1) f i
/-- where a tuple would come -/
def atW (f : Nat → Int32) (n p : Nat) (t : Tup) : Prop := p ≤ n ∧ (∀ i : Nat, i < p → tc (tup f i) t = -1) ∧ ∀ i : Nat, p ≤ i → i < n → tc (tup f i) t = 1
theorem atW_n (h : atW f n p t) : ∀ i : Nat, i < n → tup f i ≠ t := sorry
theorem isW_ins (a : isW f n P S M) (h : atW f n p t) (e : insW f f' p n t c m) : ¬ P t ∧ isW f' (n + 1) (pAdd P t) (tUp S t c) (tUp M t m) := sorry
/-- a row's amount, or its mark, becomes another -/
theorem isW_set (a : isW f n P S M) (hp : p < n) (et : tup f p = t) (h1 : ∀ j, j ≠ 6 * p + 4 → f' j = f j) (h2 : f' (6 * p + 4) = c) : isW f' n P (tUp S t c) M := sorry
theorem isW_setM (a : isW f n P S M) (hp : p < n) (et : tup f p = t) (h1 : ∀ j, j ≠ 6 * p + 5 → f' j = f j) (h2 : f' (6 * p + 5) = c) : isW f' n P S (tUp M t c) := sorry
/-- a row goes out -/
theorem isW_rem (a : isW f n P S M) (hp : p < n) (et : tup f p = t) (i : remP f f' (p : Int) (n : Int)) : isW f' (n - 1) (fun s => P s ∧ s ≠ t) S M := sorry
/-! a search -/
theorem fd_y {v : Nat → Int} {z : Int} (hv : ∀ k, k < 4 → v k = tu t k) (h : fdK 4 f (n : Int) v z) (h0 : 0 ≤ z) : z.toNat < n ∧ tup f z.toNat = t := sorry
theorem fd_n {v : Nat → Int} {z : Int} (hs : srtB f n) (hv : ∀ k, k < 4 → v k = tu t k) (h : fdK 4 f (n : Int) v z) (h0 : z < 0) : atW f n (-1 - z).toNat t := sorry
theorem insP_W {v : Nat → Int} {len x r : Int} (hv : ∀ k, k < 4 → v k = tu t k) (hr : 0 ≤ r) (hl : len = (n : Int)) (h : insP 4 f f' v r len x) : insW f f' r.toNat n t (iI x) 0 := sorry
/-! a bag: no amount is 0 -/
def isB (f : Nat → Int32) (n : Nat) (S M : Tup → Int32) : Prop := isW f n (fun t => S t ≠ 0) S M
abbrev zM : Tup → Int32 := fun _ => 0
def sAdd (S : Tup → Int32) (t : Tup) (c : Int32) : Tup → Int32 := fun s => if s = t then S s + c else S s
theorem sAdd_s : sAdd S t c t = S t + c := sorry
theorem sAdd_k {s : Tup} (h : s ≠ t) : sAdd S t c s = S s := sorry
theorem sAdd_0 : sAdd S t 0 = S := sorry
theorem sAdd_up : sAdd S t c = tUp S t (S t + c) := sorry
/-- what addAmount does to a bag -/
theorem isB_add {v : Nat → Int} {lim len' z x : Int} (a : isB f n S zM) (hv : ∀ k, k < 4 → v k = tu t k) (h : addP 4 lim f f' (n : Int) len' v x z) (zc : zr x) : (z = 1 ∧ 0 ≤ len' ∧ isB f' len'.toNat (sAdd S t (iI x)) zM) ∨ (z = 0 ∧ lim ≤ (n : Int) ∧ S t = 0 ∧ iI x ≠ 0 ∧ f' = f ∧ len' = (n : Int)) := sorry
end IsW
/-! how many -/
theorem php : ∀ (n m : Nat) (h : Nat → Nat), (∀ i, i < m → h i < n) → (∀ i j, i < j → j < m → h i ≠ h j) → m ≤ n := sorry
/-- more than L -/
def bigP (L : Nat) (P : Tup → Prop) : Prop := ∃ g : Nat → Tup, (∀ i j, i < j → j ≤ L → g i ≠ g j) ∧ ∀ i, i ≤ L → P (g i)
theorem bigP_m {L : Nat} {P P' : Tup → Prop} (h : bigP L P) (k : ∀ t, P t → P' t) : bigP L P' := sorry
theorem isW_big {f : Nat → Int32} {n L : Nat} {P : Tup → Prop} {S M : Tup → Int32} (a : isW f n P S M) (h : bigP L P) : L < n := sorry
/-- n rows of P, and one more that is none of them -/
theorem bigP_of {f : Nat → Int32} {n : Nat} {P : Tup → Prop} {t : Tup} (hs : srtB f n) (h : ∀ i, i < n → P (tup f i)) (ht : P t) (hn : ∀ i, i < n → tup f i ≠ t) : bigP n P := sorry

end

section
/-! sums over rows -/
abbrev s0T : Tup → Int32 := fun _ => 0
def sR (κ : Tup → Tup) (α : Tup → Int32 → Int32) (f : Nat → Int32) : Nat → (Tup → Int32) → Tup → Int32
  | 0, S => S
  | i + 1, S => sAdd (sR κ α f i S) (κ (tup f i)) (α (tup f i) (f (6 * i + 4)))
theorem sR_c {κ : Tup → Tup} {α : Tup → Int32 → Int32} {f f' : Nat → Int32} {S : Tup → Int32} : ∀ n, rwA f f' n → sR κ α f n S = sR κ α f' n S := sorry
/-- what a bag has of a tuple -/
def bS (f : Nat → Int32) : Nat → Tup → Int32
  | 0, _ => 0
  | i + 1, t => if tup f i = t then f (6 * i + 4) else bS f i t
theorem bS_c {f f' : Nat → Int32} {t : Tup} : ∀ n, rwA f f' n → bS f n t = bS f' n t := sorry
theorem bS_n {f : Nat → Int32} {t : Tup} : ∀ n, (∀ i, i < n → tup f i ≠ t) → bS f n t = 0 := sorry
theorem bS_y {f : Nat → Int32} {t : Tup} {j : Nat} : ∀ n, (∀ i, i < n → tup f i = t → i = j) → j < n → tup f j = t → bS f n t = f (6 * j + 4) := sorry
theorem bS_W {f : Nat → Int32} {n : Nat} {P : Tup → Prop} {S M : Tup → Int32} (h : isW f n P S M) {t : Tup} (ht : P t) : bS f n t = S t := sorry
theorem bS_Wn {f : Nat → Int32} {n : Nat} {P : Tup → Prop} {S M : Tup → Int32} (h : isW f n P S M) {t : Tup} (ht : ¬ P t) : bS f n t = 0 := sorry
theorem bS_B {f : Nat → Int32} {n : Nat} {S M : Tup → Int32} (h : isB f n S M) : bS f n = S := sorry
theorem bS_s {f : Nat → Int32} {n i : Nat} (h : srtB f n) (hi : i < n) : bS f n (tup f i) = f (6 * i + 4) := sorry
/-- a list of rows is a bag -/
def okB (f : Nat → Int32) (n : Nat) : Prop := srtB f n ∧ ∀ i, i < n → f (6 * i + 4) ≠ 0
theorem okB_c {f f' : Nat → Int32} {n : Nat} (e : rwA f' f n) (h : okB f n) : okB f' n := sorry
theorem okB_of {f : Nat → Int32} {n : Nat} {S M : Tup → Int32} (h : isB f n S M) : okB f n := sorry
theorem okB_at {f : Nat → Int32} {n : Nat} (h : okB f n) {t : Tup} (ht : bS f n t ≠ 0) : ∃ i, i < n ∧ tup f i = t := sorry
/-- marks of a list of rows -/
def bM (f : Nat → Int32) : Nat → Tup → Int32
  | 0, _ => 0
  | i + 1, t => if tup f i = t then f (6 * i + 5) else bM f i t
theorem bM_y {f : Nat → Int32} {t : Tup} {j : Nat} : ∀ n, (∀ i, i < n → tup f i = t → i = j) → j < n → tup f j = t → bM f n t = f (6 * j + 5) := sorry
theorem okB_B {f : Nat → Int32} {n : Nat} (h : okB f n) : isB f n (bS f n) (bM f n) := sorry
/-- sums by a bag's own tuples -/
theorem sR_n {α : Tup → Int32 → Int32} {f : Nat → Int32} {S : Tup → Int32} {t : Tup} : ∀ i, (∀ j, j < i → tup f j ≠ t) → sR id α f i S t = S t := sorry
theorem sR_y {α : Tup → Int32 → Int32} {f : Nat → Int32} {S : Tup → Int32} {n k : Nat} (hs : srtB f n) : ∀ i, i ≤ n → k < i → sR id α f i S (tup f k) = S (tup f k) + α (tup f k) (f (6 * k + 4)) := sorry
theorem sR_all {α : Tup → Int32 → Int32} {f : Nat → Int32} {n : Nat} {S : Tup → Int32} (h : okB f n) (h0 : ∀ t, α t 0 = 0) : sR id α f n S = fun t => S t + α t (bS f n t) := sorry
/-! a row comes behind all -/
def apP (f f' o : Nat → Int32) (row len x : Int) : Prop := (∀ j : Nat, (j : Int) < 6 * len → f' j = f j) ∧ (∀ t : Nat, t < 4 → f' ((6 * len).toNat + t) = o ((6 * row).toNat + t)) ∧ f' ((6 * len).toNat + 4) = iI x ∧ f' ((6 * len).toNat + 5) = 0
theorem ap_p {f f2 f3 f4 o : Nat → Int32} {row len x : Int} (h0 : 0 ≤ len) (h1 : 0 ≤ row) (e2 : f2 = va_cpy o f (row * 6).toNat (len * 6).toNat (4 : Int).toNat) (e3 : ∀ j : Nat, j ≠ (len * 6 + 5).toNat → f3 j = f2 j) (e3' : f3 (len * 6 + 5).toNat = 0) (e4 : ∀ j : Nat, j ≠ (len * 6 + 4).toNat → f4 j = f3 j) (e4' : f4 (len * 6 + 4).toNat = iI x) : apP f f4 o row len x := sorry
theorem ap_W {f f' o : Nat → Int32} {row len x : Int} {n : Nat} (h : apP f f' o row len x) (hl : len = (n : Int)) (h1 : 0 ≤ row) : insW f f' n n (tup o row.toNat) (iI x) 0 := sorry
theorem isB_ap {f f' : Nat → Int32} {n : Nat} {S : Tup → Int32} {t : Tup} {c : Int32} (a : isB f n S zM) (h : ∀ i, i < n → tc (tup f i) t = -1) (e : insW f f' n n t c 0) (hc : c ≠ 0) : isB f' (n + 1) (sAdd S t c) zM := sorry
/-! two bags together: i rows of a, j of b are done, m rows are out -/
def gaI (a b f : Nat → Int32) (na nb i j m : Nat) (S : Tup → Int32) : Prop :=
  srtB f m ∧ (∀ r : Nat, r < m → f (6 * r + 4) = S (tup f r) ∧ S (tup f r) ≠ 0 ∧ f (6 * r + 5) = 0) ∧ (∀ r k : Nat, r < m → i ≤ k → k < na → tc (tup f r) (tup a k) = -1) ∧ (∀ r k : Nat, r < m → j ≤ k → k < nb → tc (tup f r) (tup b k) = -1) ∧
  (∀ t : Tup, S t ≠ 0 → (∃ r : Nat, r < m ∧ tup f r = t) ∨ (∃ k : Nat, i ≤ k ∧ k < na ∧ tup a k = t) ∨ (∃ k : Nat, j ≤ k ∧ k < nb ∧ tup b k = t)) ∧
  (∀ k l : Nat, k < j → i ≤ l → l < na → tc (tup b k) (tup a l) = -1) ∧ (∀ k l : Nat, k < i → j ≤ l → l < nb → tc (tup a k) (tup b l) = -1)
/-- the head t is passed -/
def gaT (a b : Nat → Int32) (na nb i j i' j' : Nat) (t : Tup) : Prop :=
  (i' = i ∨ (i' = i + 1 ∧ i < na ∧ tup a i = t)) ∧ (j' = j ∨ (j' = j + 1 ∧ j < nb ∧ tup b j = t)) ∧ (∀ k, i' ≤ k → k < na → tc t (tup a k) = -1) ∧ (∀ k, j' ≤ k → k < nb → tc t (tup b k) = -1) ∧ (i' = i + 1 ∨ j' = j + 1)
section Gather
variable {a b f f' : Nat → Int32} {na nb i j i' j' m : Nat} {S : Tup → Int32} {sg : Int32} {t : Tup} {c : Int32}
theorem ga_0 (hA : okB a na) (hB : okB b nb) (hS : ∀ t, S t = bS a na t + sg * bS b nb t) : gaI a b f na nb 0 0 0 S := sorry
/-- at the end the rows out are the bag -/
theorem ga_e (h : gaI a b f na nb i j m S) (hi : na ≤ i) (hj : nb ≤ j) : isB f m S zM := sorry
theorem ga_lt (h : gaI a b f na nb i j m S) (ht : gaT a b na nb i j i' j' t) : ∀ r, r < m → tc (tup f r) t = -1 := sorry
theorem ga_ord (hA : okB a na) (hB : okB b nb) (h : gaI a b f na nb i j m S) (ht : gaT a b na nb i j i' j' t) :
    (∀ k l : Nat, k < j' → i' ≤ l → l < na → tc (tup b k) (tup a l) = -1) ∧ (∀ k l : Nat, k < i' → j' ≤ l → l < nb → tc (tup a k) (tup b l) = -1) := sorry
theorem ga_skip (hA : okB a na) (hB : okB b nb) (h : gaI a b f na nb i j m S) (ht : gaT a b na nb i j i' j' t) (h0 : S t = 0) : gaI a b f na nb i' j' m S := sorry
theorem ga_app (hA : okB a na) (hB : okB b nb) (h : gaI a b f na nb i j m S) (ht : gaT a b na nb i j i' j' t) (h0 : S t ≠ 0) (e : insW f f' m m t (S t) 0) : gaI a b f' na nb i' j' (m + 1) S := sorry
theorem ga_big (h : gaI a b f na nb i j m S) (ht : gaT a b na nb i j i' j' t) (h0 : S t ≠ 0) : bigP m (fun t => S t ≠ 0) := sorry
/-- the head of a alone, of b alone, of both -/
theorem ga_a (hA : okB a na) (hB : okB b nb) (hS : ∀ t, S t = bS a na t + sg * bS b nb t) (h : gaI a b f na nb i j m S) (hi : i < na) (hj : j < nb → tc (tup a i) (tup b j) = -1) : gaT a b na nb i j (i + 1) j (tup a i) ∧ S (tup a i) = a (6 * i + 4) := sorry
theorem ga_b (hA : okB a na) (hB : okB b nb) (hS : ∀ t, S t = bS a na t + sg * bS b nb t) (h : gaI a b f na nb i j m S) (hj : j < nb) (hi : i < na → tc (tup a i) (tup b j) = 1) : gaT a b na nb i j i (j + 1) (tup b j) ∧ S (tup b j) = sg * b (6 * j + 4) := sorry
theorem ga_ab (hA : okB a na) (hB : okB b nb) (hS : ∀ t, S t = bS a na t + sg * bS b nb t) (hi : i < na) (hj : j < nb) (e : tc (tup a i) (tup b j) = 0) : gaT a b na nb i j (i + 1) (j + 1) (tup a i) ∧ S (tup a i) = a (6 * i + 4) + sg * b (6 * j + 4) := sorry
/-- two bags together are no more than both -/
theorem ga_cnt {L : Nat} (hA : okB a na) (hB : okB b nb) (h : bigP L (fun t => bS a na t + sg * bS b nb t ≠ 0)) : L < na + nb := sorry
end Gather
/-- a choice by a condition -/
noncomputable def pI (p : Prop) (a b : Int32) : Int32 := @ite _ p (Classical.propDecidable p) a b
theorem pI_y {p : Prop} {a b : Int32} (h : p) : pI p a b = a := sorry
theorem pI_n {p : Prop} {a b : Int32} (h : ¬ p) : pI p a b = b := sorry

end

section
/-! what a line of a plan says. c.1: 0 kind, 1 columns, 2 first, 3 second, 4 parts, 5 and 6 the columns of first and second, 7 and 8 the pair of a ring, 9 fold, 10 its column; c.2 k w: part k -/
abbrev LC : Type := (Nat → Int) × (Nat → Nat → Int)
abbrev RF : Type := Nat → Nat × (Nat → Int32)
def tst3 (v s w : Int) : Prop := if s = 61 then v = w else if s = 60 then v < w else w < v
section Spec
variable (c : LC)
def tstP (k : Nat) (t : Tup) : Prop := tst3 (tu t (c.2 k 0).toNat) (c.2 k 1) (if c.2 k 2 = -1 then c.2 k 3 else tu t (c.2 k 2).toNat)
def hldP (t : Tup) : Prop := ∀ k : Nat, (k : Int) < c.1 4 → tstP c k t
def trm (h : Nat → Int32) (k : Nat) : Int32 := (if c.2 k 0 = -1 then 0 else h (c.2 k 0).toNat) + iI (c.2 k 1)
def trT (h : Nat → Int32) : Tup := tmk (fun k => if (k : Int) < c.1 4 then trm c h k else 0)
/-- a tuple of a ring and one of its second relation side by side -/
def sdH (t u : Tup) : Nat → Int32 := fun k => if (k : Int) < c.1 5 then tg t k else tg u (k - (c.1 5).toNat)
def vK (t : Tup) : Tup := if c.1 0 = 2 then trT c (tg t) else t
noncomputable def vA (t : Tup) (a : Int32) : Int32 := if c.1 0 = 1 then pI (hldP c t) a 0 else if c.1 0 = 6 then pI (0 < a.toInt) 1 0 else a
/-! joins -/
def tld (d : Nat) : Prop := ∃ k : Nat, (k : Int) < c.1 4 ∧ c.2 k 1 = (d : Int)
def alk (t u : Tup) : Prop := ∀ k : Nat, (k : Int) < c.1 4 → tg t (c.2 k 0).toNat = tg u (c.2 k 1).toNat
noncomputable def pN1 (p : Prop) : Nat := @ite _ p (Classical.propDecidable p) 1 0
noncomputable def jc : Nat → Nat
  | 0 => 0
  | d + 1 => jc d + pN1 (¬ tld c d)
noncomputable def jat (u : Tup) : Nat → Nat → Int32
  | 0, _ => 0
  | d + 1, q => pI (¬ tld c d ∧ jc c d = q) (tg u d) (jat u d q)
noncomputable def jn (t u : Tup) : Tup := tmk (fun k => if (k : Int) < c.1 5 then tg t k else jat c u (c.1 6).toNat (k - (c.1 5).toNat))
noncomputable def sJ1 (t : Tup) (a : Int32) (y : Nat → Int32) (m : Nat) (S : Tup → Int32) : Tup → Int32 := sR (jn c t) (fun u b => pI (alk c t u) (a * b) 0) y m S
noncomputable def sJ (x y : Nat → Int32) (m : Nat) : Nat → Tup → Int32
  | 0 => s0T
  | i + 1 => sJ1 c (tup x i) (x (6 * i + 4)) y m (sJ x y m i)
noncomputable def pC (t : Tup) (y : Nat → Int32) : Nat → Nat
  | 0 => 0
  | j + 1 => pC t y j + pN1 (alk c t (tup y j))
noncomputable def pJ (x y : Nat → Int32) (m : Nat) : Nat → Nat
  | 0 => 0
  | i + 1 => pJ x y m i + pC c (tup x i) y m
/-! groups -/
def gk (t : Tup) : Tup := tmk (fun k => if (k : Int) < c.1 4 then tg t (c.2 k 0).toNat else 0)
def fS (s : Int32 × Int32) (v a : Int32) : Int32 × Int32 :=
  if c.1 9 = 0 then (s.1, s.2 + a) else if c.1 9 = 1 then (s.1, s.2 + a * v)
  else if 0 < a.toInt then (1, if s.1 = 0 ∨ (c.1 9 = 2 ∧ v.toInt < s.2.toInt) ∨ (c.1 9 ≠ 2 ∧ s.2.toInt < v.toInt) then v else s.2) else s
def gF (f : Nat → Int32) (u : Tup) : Nat → Int32 × Int32
  | 0 => (0, 0)
  | i + 1 => if gk c (tup f i) = u then fS c (gF f u i) (tg (tup f i) (c.1 10).toNat) (f (6 * i + 4)) else gF f u i
def tset (t : Tup) (k : Nat) (v : Int32) : Tup := tmk (fun j => if j = k then v else tg t j)
def gTp (f : Nat → Int32) (n : Nat) (u : Tup) : Tup := tset u (c.1 4).toNat (gF c f u n).2
noncomputable def sG (f : Nat → Int32) (n : Nat) : Tup → Int32 := fun t => pI (∃ i, i < n ∧ gTp c f n (gk c (tup f i)) = t) 1 0
/-! rings -/
def rGo (y : Nat → Int32) (m : Nat) (t s : Tup) : Prop := ∃ j, j < m ∧ 0 < (y (6 * j + 4)).toInt ∧ tg t (c.1 7).toNat = tg (tup y j) (c.1 8).toNat ∧ trT c (sdH c t (tup y j)) = s
/-- of a round: what is new, what came so far -/
def rS (x : Nat → Int32) (n : Nat) (y : Nat → Int32) (m : Nat) : Nat → (Tup → Prop) × (Tup → Prop)
  | 0 => (fun s => ∃ i, i < n ∧ 0 < (x (6 * i + 4)).toInt ∧ tup x i = s, fun s => ∃ i, i < n ∧ 0 < (x (6 * i + 4)).toInt ∧ tup x i = s)
  | r + 1 => (fun s => (∃ t, (rS x n y m r).1 t ∧ rGo c y m t s) ∧ ¬ (rS x n y m r).2 s, fun s => (rS x n y m r).2 s ∨ ((∃ t, (rS x n y m r).1 t ∧ rGo c y m t s) ∧ ¬ (rS x n y m r).2 s))
def rgY (x : Nat → Int32) (n : Nat) (y : Nat → Int32) (m : Nat) (R : Nat) (f : Nat → Int32) (k : Nat) : Prop :=
  R ≤ 40 ∧ (∀ t, ¬ (rS c x n y m (R + 1)).1 t) ∧ (R = 0 ∨ ∃ t, (rS c x n y m R).1 t) ∧ k ≤ 120 ∧ ∃ M, isW f k (rS c x n y m R).2 (fun _ => 1) M ∧ ∀ q t, q ≤ R → (rS c x n y m q).1 t → M t = iI (q : Int)
def rgP (x : Nat → Int32) (n : Nat) (y : Nat → Int32) (m : Nat) (z : Int) (f : Nat → Int32) (k : Nat) : Prop :=
  (z = 0 ∧ ∃ R, rgY c x n y m R f k) ∨ (z = -3 ∧ ∃ q, q ≤ 40 ∧ bigP 120 (rS c x n y m q).2) ∨ (z = -4 ∧ (∃ t, (rS c x n y m 41).1 t) ∧ ¬ bigP 120 (rS c x n y m 40).2)
/-! a view -/
noncomputable def vS (F : RF) : Tup → Int32 :=
  if c.1 0 = 3 then sJ c (F (c.1 2).toNat).2 (F (c.1 3).toNat).2 (F (c.1 3).toNat).1 (F (c.1 2).toNat).1
  else if c.1 0 = 4 then fun t => bS (F (c.1 2).toNat).2 (F (c.1 2).toNat).1 t + iI 1 * bS (F (c.1 3).toNat).2 (F (c.1 3).toNat).1 t
  else if c.1 0 = 5 then fun t => bS (F (c.1 2).toNat).2 (F (c.1 2).toNat).1 t + iI (-1) * bS (F (c.1 3).toNat).2 (F (c.1 3).toNat).1 t
  else if c.1 0 = 7 then sG c (F (c.1 2).toNat).2 (F (c.1 2).toNat).1
  else sR (vK c) (vA c) (F (c.1 2).toNat).2 (F (c.1 2).toNat).1 s0T
def vMany (F : RF) : Prop := c.1 0 = 3 ∧ 1500 < pJ c (F (c.1 2).toNat).2 (F (c.1 3).toNat).2 (F (c.1 3).toNat).1 (F (c.1 2).toNat).1
def vwP (F : RF) (z : Int) (f : Nat → Int32) (k : Nat) : Prop :=
  if c.1 0 = 8 then rgP c (F (c.1 2).toNat).2 (F (c.1 2).toNat).1 (F (c.1 3).toNat).2 (F (c.1 3).toNat).1 z f k
  else (z = 0 ∧ ¬ vMany c F ∧ isB f k (vS c F) zM ∧ k ≤ 120) ∨ (z = -3 ∧ (vMany c F ∨ bigP 120 (fun t => vS c F t ≠ 0)))
end Spec
section Det
variable {c : LC} {x y f f' : Nat → Int32} {n m k k' R R' : Nat} {F : RF} {z z' : Int} {t u : Tup}
theorem pN1_y {p : Prop} (h : p) : pN1 p = 1 := sorry
theorem pN1_n {p : Prop} (h : ¬ p) : pN1 p = 0 := sorry
/-- no round behind one without new ones brings any -/
theorem rS_no (h : ∀ t, ¬ (rS c x n y m R).1 t) : ∀ d, ∀ t, ¬ (rS c x n y m (R + d)).1 t := sorry
theorem rS_le : ∀ (d : Nat) (t : Tup), (rS c x n y m R).2 t → (rS c x n y m (R + d)).2 t := sorry
theorem rS_lt {q : Nat} (h : q ≤ R) (t : Tup) (ht : (rS c x n y m q).2 t) : (rS c x n y m R).2 t := sorry
theorem rS_new : ∀ (q : Nat) (t : Tup), (rS c x n y m q).1 t → (rS c x n y m q).2 t := sorry
/-- what came so far came in one of the rounds -/
theorem rS_at : ∀ (R : Nat) (t : Tup), (rS c x n y m R).2 t → ∃ q, q ≤ R ∧ (rS c x n y m q).1 t := sorry
/-- when no new ones come, what came stays -/
theorem rS_end (h : ∀ t, ¬ (rS c x n y m (R + 1)).1 t) : ∀ (q : Nat) (t : Tup), (rS c x n y m q).2 t → (rS c x n y m R).2 t := sorry
theorem rgY_u (a : rgY c x n y m R f k) (b : rgY c x n y m R' f' k') : R = R' ∧ k = k' ∧ rwA f f' k := sorry
theorem rgP_u (a : rgP c x n y m z f k) (b : rgP c x n y m z' f' k') : z = z' ∧ (z = 0 → k = k' ∧ rwA f f' k) := sorry
/-- what a view has is told by what its relations have -/
theorem vwP_u (a : vwP c F z f k) (b : vwP c F z' f' k') : z = z' ∧ (z = 0 → k = k' ∧ rwA f f' k) := sorry
/-! the same rows, the same view -/
def rfA (F F' : RF) (r : Nat) : Prop := (F r).1 = (F' r).1 ∧ rwA (F r).2 (F' r).2 (F r).1
theorem gF_c {f f' : Nat → Int32} {u : Tup} : ∀ n, rwA f f' n → gF c f u n = gF c f' u n := sorry
theorem pC_c {t : Tup} {y y' : Nat → Int32} : ∀ m, rwA y y' m → pC c t y m = pC c t y' m := sorry
theorem pJ_c {x x' y y' : Nat → Int32} (hy : rwA y y' m) : ∀ n, rwA x x' n → pJ c x y m n = pJ c x' y' m n := sorry
theorem sJ_c {x x' y y' : Nat → Int32} (hy : rwA y y' m) : ∀ n, rwA x x' n → sJ c x y m n = sJ c x' y' m n := sorry
theorem sG_c {f f' : Nat → Int32} (h : rwA f f' n) : sG c f n = sG c f' n := sorry
theorem rS_c {x x' y y' : Nat → Int32} (hx : rwA x x' n) (hy : rwA y y' m) : ∀ r, rS c x n y m r = rS c x' n y' m r := sorry
theorem vS_c {F F' : RF} (h1 : rfA F F' (c.1 2).toNat) (h2 : rfA F F' (c.1 3).toNat) : vS c F = vS c F' := sorry
theorem vwP_c {F F' : RF} (h1 : rfA F F' (c.1 2).toNat) (h2 : rfA F F' (c.1 3).toNat) (h : vwP c F z f k) : vwP c F' z f k := sorry
theorem vwP_f {F : RF} (e : rwA f' f k) (h : vwP c F z f k) : vwP c F z f' k := sorry
end Det


end

section
/-! what a line of the class holds -/
def lnC (f P : Nat → Int32) (c : LC) : Prop :=
  ((f 0).toInt = c.1 0 ∧ (f 2).toInt = c.1 1 ∧ (f 3).toInt = c.1 2 ∧ (f 4).toInt = c.1 3) ∧
  ((c.1 0 = 1 ∨ c.1 0 = 2 ∨ c.1 0 = 3 ∨ c.1 0 = 7 ∨ c.1 0 = 8) → (f 8).toInt = c.1 4) ∧ ((c.1 0 = 3 ∨ c.1 0 = 8) → (f 5).toInt = c.1 5 ∧ (f 6).toInt = c.1 6) ∧
  (c.1 0 = 1 → ∀ k : Nat, (k : Int) < c.1 4 → (P (4 * k)).toInt = c.2 k 0 ∧ (P (4 * k + 1)).toInt = c.2 k 1 ∧ (P (4 * k + 2)).toInt = c.2 k 2 ∧ (P (4 * k + 3)).toInt = c.2 k 3) ∧
  ((c.1 0 = 2 ∨ c.1 0 = 3 ∨ c.1 0 = 8) → ∀ k : Nat, (k : Int) < c.1 4 → (P (2 * k)).toInt = c.2 k 0 ∧ (P (2 * k + 1)).toInt = c.2 k 1) ∧
  (c.1 0 = 7 → (∀ k : Nat, (k : Int) < c.1 4 → (P k).toInt = c.2 k 0) ∧ (f 11).toInt = 16 + c.1 9 ∧ (f 12).toInt = c.1 10) ∧
  (c.1 0 = 8 → (f 9).toInt = c.1 7 ∧ (f 10).toInt = c.1 8)
theorem lnC_m {f f' P P' : Nat → Int32} {c : LC} (h : lnC f P c) (e : f' = f) (e' : P' = P) : lnC f' P' c := sorry
/-! heads of two bags -/
section Heads
variable {a b : Nat → Int32} {na nb i j v : Int}
theorem oh_lt (h0 : 0 ≤ i) (q : (na ≤ i ∧ v = 1) ∨ (i < na ∧ nb ≤ j ∧ v = -1) ∨ (i < na ∧ j < nb ∧ v = tc (tup a i.toNat) (tup b j.toNat))) (hv : v < 0) : i < na ∧ (j < nb → tc (tup a i.toNat) (tup b j.toNat) = -1) := sorry
theorem oh_gt (h0 : 0 ≤ i) (q : (na ≤ i ∧ v = 1) ∨ (i < na ∧ nb ≤ j ∧ v = -1) ∨ (i < na ∧ j < nb ∧ v = tc (tup a i.toNat) (tup b j.toNat))) (hv : 0 < v) (hor : i < na ∨ j < nb) : j < nb ∧ (i < na → tc (tup a i.toNat) (tup b j.toNat) = 1) := sorry
theorem oh_eq (h0 : 0 ≤ i) (q : (na ≤ i ∧ v = 1) ∨ (i < na ∧ nb ≤ j ∧ v = -1) ∨ (i < na ∧ j < nb ∧ v = tc (tup a i.toNat) (tup b j.toNat))) (hv : v = 0) : i < na ∧ j < nb ∧ tc (tup a i.toNat) (tup b j.toNat) = 0 := sorry
end Heads
/-- what a search told, at one place -/
theorem ga_tl {a b f : Nat → Int32} {na nb i j m : Nat} {S : Tup → Int32} {sg : Int32} {iz jz : Int} (hA : okB a na) (hB : okB b nb) (hS : ∀ t, S t = bS a na t + sg * bS b nb t) (h : gaI a b f na nb i j m S) (hi : i = iz.toNat) (hj : j = jz.toNat) (h0 : 0 ≤ iz) (h1 : 0 ≤ jz) (q : iz < (na : Int) ∧ (jz < (nb : Int) → tc (tup a iz.toNat) (tup b jz.toNat) = -1)) : gaT a b na nb i j (iz + 1).toNat j (tup a i) ∧ S (tup a i) = a (6 * i + 4) := sorry
theorem ga_tg {a b f : Nat → Int32} {na nb i j m : Nat} {S : Tup → Int32} {sg : Int32} {iz jz : Int} (hA : okB a na) (hB : okB b nb) (hS : ∀ t, S t = bS a na t + sg * bS b nb t) (h : gaI a b f na nb i j m S) (hi : i = iz.toNat) (hj : j = jz.toNat) (h0 : 0 ≤ iz) (h1 : 0 ≤ jz) (q : jz < (nb : Int) ∧ (iz < (na : Int) → tc (tup a iz.toNat) (tup b jz.toNat) = 1)) : gaT a b na nb i j i (jz + 1).toNat (tup b j) ∧ S (tup b j) = sg * b (6 * j + 4) := sorry
theorem ga_te {a b f : Nat → Int32} {na nb i j m : Nat} {S : Tup → Int32} {sg : Int32} {iz jz : Int} (hA : okB a na) (hB : okB b nb) (hS : ∀ t, S t = bS a na t + sg * bS b nb t) (h : gaI a b f na nb i j m S) (hi : i = iz.toNat) (hj : j = jz.toNat) (h0 : 0 ≤ iz) (h1 : 0 ≤ jz) (q : iz < (na : Int) ∧ jz < (nb : Int) ∧ tc (tup a iz.toNat) (tup b jz.toNat) = 0) : gaT a b na nb i j (iz + 1).toNat (jz + 1).toNat (tup a i) ∧ S (tup a i) = a (6 * i + 4) + sg * b (6 * j + 4) := sorry
/-! frames of the reckoning -/
def kI (o : Nat) (I I' : gI) : Prop := ∀ b, b ≠ o → I' b = I b
def kA (gh : gGh) (o : Nat) (AI AI' : gI) : Prop := ∀ b, b ≠ gh 0 o → b ≠ gh 30 0 → b ≠ gh 31 0 → b ≠ gh 32 0 → AI' b = AI b
section KFrame
variable {g : gG} {gh : gGh} {R AR : gR} {I I' I'' AI AI' AI'' I0 AI0 : gI} {o x a ln : Nat}
theorem kI_r : kI o I I := sorry
theorem kI_t (h : kI o I I') (h' : kI o I' I'') : kI o I I'' := sorry
theorem kA_r : kA gh o AI AI := sorry
theorem kA_t (h : kA gh o AI AI') (h' : kA gh o AI' AI'') : kA gh o AI AI'' := sorry
theorem kA_o (h : ∀ b, b ≠ gh 0 o → AI' b = AI b) : kA gh o AI AI' := sorry
theorem kA_0 (h : ∀ b, b ≠ gh 30 0 → AI' b = AI b) : kA gh o AI AI' := sorry
theorem kA_1 (h : ∀ b, b ≠ gh 31 0 → AI' b = AI b) : kA gh o AI AI' := sorry
theorem kA_2 (h : ∀ b, b ≠ gh 32 0 → AI' b = AI b) : kA gh o AI AI' := sorry
theorem cells_ne (hv : gInv g gh R AR I AI) (ho : gO g o 4) (hx : gO g x 4) (h : x ≠ o) : gh 0 x ≠ gh 0 o := sorry
theorem cells_9 (hv : gInv g gh R AR I AI) (hx : gO g x 4) : gh 9 (gh 0 x) = 1 := sorry
theorem ne_9 {b d n m : Nat} (hb : gh 9 b = n) (hd : gh 9 d = m) (h : n ≠ m) : b ≠ d := sorry
theorem cells_k (hv : gInv g gh R AR I AI) (ha : gO g a 3) (hx : gO g x 4) : gh 0 x ≠ gh 30 0 ∧ gh 0 x ≠ gh 31 0 ∧ gh 0 x ≠ gh 32 0 := sorry
theorem kA_x (f : kA gh o AI AI') (hv : gInv g gh R AR I0 AI0) (ha : gO g a 3) (ho : gO g o 4) (hx : gO g x 4) (h : x ≠ o) : AI' (gh 0 x) = AI (gh 0 x) := sorry
theorem ln_9 (hv : gInv g gh R AR I AI) (hl : gO g ln 0) : gh 9 (gh 3 ln) = 2 := sorry
theorem kA_l (f : kA gh o AI AI') (hv : gInv g gh R AR I0 AI0) (ha : gO g a 3) (ho : gO g o 4) (hl : gO g ln 0) : AI' (gh 3 ln) = AI (gh 3 ln) := sorry
theorem rk_ne (hv : gInv g gh R AR I AI) (ha : gO g a 3) : gh 30 0 ≠ gh 31 0 ∧ gh 30 0 ≠ gh 32 0 ∧ gh 31 0 ≠ gh 32 0 := sorry
end KFrame
/-! a part of the rows goes over, in order -/
def selI (f : Nat → Int32) (m : Nat) (x : Nat → Int32) (n i : Nat) (S : Tup → Int32) : Prop :=
  isB f m S zM ∧ m ≤ i ∧ ∀ r k, r < m → i ≤ k → k < n → tc (tup f r) (tup x k) = -1
section Sel
variable {f f' x : Nat → Int32} {m n i : Nat} {S : Tup → Int32} {κ : Tup → Tup} {α : Tup → Int32 → Int32} {iz : Int}
theorem selI_0 : selI f 0 x n 0 s0T := sorry
theorem selI_no (h : selI f m x n i (sR κ α x i s0T)) (ha : α (tup x i) (x (6 * i + 4)) = 0) : selI f m x n (i + 1) (sR κ α x (i + 1) s0T) := sorry
theorem selI_ap (hx : okB x n) (hi : i < n) (h : selI f m x n i (sR κ α x i s0T)) (hk : κ (tup x i) = tup x i) (ha : α (tup x i) (x (6 * i + 4)) ≠ 0) (e : insW f f' m m (tup x i) (α (tup x i) (x (6 * i + 4))) 0) : selI f' (m + 1) x n (i + 1) (sR κ α x (i + 1) s0T) := sorry
end Sel
/-- a bag whose sum goes over rows has no more of them -/
def prjI (f : Nat → Int32) (m i : Nat) (S : Tup → Int32) : Prop := isB f m S zM ∧ m ≤ i
theorem add_le {f f' : Nat → Int32} {lim len len' x z : Int} {v : Nat → Int} (h : addP 4 lim f f' len len' v x z) : len' ≤ len + 1 := sorry
/-- a key of a few cells is a tuple -/
theorem key_tu {f : Nat → Int32} {t : Tup} (h : ∀ k, k < 4 → f k = tg t k) : ∀ k, k < 4 → rk f 0 k = tu t k := sorry
theorem prj_step {f f' x : Nat → Int32} {m i : Nat} {κ : Tup → Tup} {α : Tup → Int32 → Int32} {lim len len' z n : Int} {v : Nat → Int} (h : prjI f m i (sR κ α x i s0T)) (hl : len = (m : Int)) (q : addP 4 lim f f' len len' v n z) (hv : ∀ k, k < 4 → v k = tu (κ (tup x i)) k) (hx : iI n = α (tup x i) (x (6 * i + 4))) (zn : zr n) (hlim : len < lim) : z = 1 ∧ 0 ≤ len' ∧ prjI f' len'.toNat (i + 1) (sR κ α x (i + 1) s0T) := sorry
theorem vK_id {c : LC} {t : Tup} (h : c.1 0 ≠ 2) : vK c t = t := sorry
theorem vK_2 {c : LC} {t : Tup} (h : c.1 0 = 2) : vK c t = trT c (tg t) := sorry
theorem vA1_y {c : LC} {t : Tup} {a : Int32} (h : c.1 0 = 1) (k : hldP c t) : vA c t a = a := sorry
theorem vA1_n {c : LC} {t : Tup} {a : Int32} (h : c.1 0 = 1) (k : ¬ hldP c t) : vA c t a = 0 := sorry
theorem vA6_y {c : LC} {t : Tup} {a : Int32} (h : c.1 0 = 6) (k : 0 < a.toInt) : vA c t a = 1 := sorry
theorem vA6_n {c : LC} {t : Tup} {a : Int32} (h : c.1 0 = 6) (k : ¬ 0 < a.toInt) : vA c t a = 0 := sorry
theorem vA_id {c : LC} {t : Tup} {a : Int32} (h : c.1 0 ≠ 1) (k : c.1 0 ≠ 6) : vA c t a = a := sorry
theorem rowt {f : Nat → Int32} {i : Int} (h : 0 ≤ i) : ∀ j, j < 4 → f ((i * 6).toNat + j) = tg (tup f i.toNat) j := sorry
theorem tst3_y {v s w : Int} (h1 : s = 61 → v = w) (h2 : s = 60 → v < w) (h3 : s ≠ 61 → s ≠ 60 → w < v) : tst3 v s w := sorry
theorem tst3_e {v s w : Int} (h : tst3 v s w) : (s = 61 ∧ v = w) ∨ (s = 60 ∧ v < w) ∨ (s ≠ 61 ∧ s ≠ 60 ∧ w < v) := sorry

end

section
/-! joins: a pair is told by its tuple -/
section Join
variable {c : LC} {x y : Nat → Int32} {t u t' u' s : Tup} {n m i j d q : Nat}
theorem jc_le : ∀ (e d : Nat), jc c d ≤ jc c (d + e) := sorry
theorem jc_s (h : ¬ tld c d) : jc c (d + 1) = jc c d + 1 := sorry
theorem jc_k (h : tld c d) : jc c (d + 1) = jc c d := sorry
theorem jc_lt (h : ¬ tld c d) (k : d < q) : jc c d < jc c q := sorry
theorem jc_u : ∀ d, jc c d ≤ d := sorry
theorem jc_at : ∀ (m q : Nat), q < jc c m → ∃ d, d < m ∧ ¬ tld c d ∧ jc c d = q := sorry
theorem jat_y : ∀ (m : Nat), d < m → ¬ tld c d → jat c u m (jc c d) = tg u d := sorry
theorem jat_n : ∀ (m : Nat), jc c m ≤ q → jat c u m q = 0 := sorry
/-- a key that is told column by column is the joined tuple -/
theorem jn_of {k : Nat → Int32} (h1 : ∀ j : Nat, (j : Int) < c.1 5 → j < 4 → k j = tg t j) (h2 : ∀ d : Nat, d < (c.1 6).toNat → ¬ tld c d → k ((c.1 5).toNat + jc c d) = tg u d) (h3 : ∀ j : Nat, (c.1 5).toNat + jc c (c.1 6).toNat ≤ j → j < 4 → k j = 0) (h5 : 0 ≤ c.1 5) : ∀ j, j < 4 → k j = tg (jn c t u) j := sorry
/-- of two pairs that are alike and have one tuple: they are one -/
def jOK (c : LC) : Prop := 0 ≤ c.1 5 ∧ c.1 5 ≤ 4 ∧ 0 ≤ c.1 6 ∧ c.1 6 ≤ 4 ∧ (c.1 5).toNat + jc c (c.1 6).toNat ≤ 4 ∧ ∀ k : Nat, (k : Int) < c.1 4 → 0 ≤ c.2 k 0 ∧ c.2 k 0 < c.1 5 ∧ 0 ≤ c.2 k 1 ∧ c.2 k 1 < c.1 6
def zT (cols : Int) (t : Tup) : Prop := ∀ k : Nat, cols ≤ (k : Int) → k < 4 → tg t k = 0
theorem jn_i (hc : jOK c) (zt : zT (c.1 5) t) (zt' : zT (c.1 5) t') (zu : zT (c.1 6) u) (zu' : zT (c.1 6) u') (a : alk c t u) (b : alk c t' u') (e : jn c t u = jn c t' u') : t = t' ∧ u = u' := sorry
/-- a pair ahead of the place (i, j) -/
def bfr (i j i' j' : Nat) : Prop := i' < i ∨ (i' = i ∧ j' < j)
theorem sR_supp {κ : Tup → Tup} {α : Tup → Int32 → Int32} {S : Tup → Int32} : ∀ (m : Nat) (s : Tup), sR κ α y m S s ≠ 0 → S s ≠ 0 ∨ ∃ j, j < m ∧ α (tup y j) (y (6 * j + 4)) ≠ 0 ∧ κ (tup y j) = s := sorry
theorem sR_keep {κ : Tup → Tup} {α : Tup → Int32 → Int32} {S : Tup → Int32} : ∀ (k m : Nat) (s : Tup), (∀ j, m ≤ j → j < m + k → α (tup y j) (y (6 * j + 4)) ≠ 0 → κ (tup y j) ≠ s) → sR κ α y (m + k) S s = sR κ α y m S s := sorry
theorem pI_ne {p : Prop} {a : Int32} (h : pI p a 0 ≠ 0) : p := sorry
theorem sJ_supp : ∀ (i : Nat) (s : Tup), sJ c x y m i s ≠ 0 → ∃ i' j', i' < i ∧ j' < m ∧ alk c (tup x i') (tup y j') ∧ jn c (tup x i') (tup y j') = s := sorry
theorem sJ1_supp (h : sJ1 c (tup x i) (x (6 * i + 4)) y j (sJ c x y m i) s ≠ 0) : ∃ i' j', (i' < i ∧ j' < m ∨ i' = i ∧ j' < j) ∧ alk c (tup x i') (tup y j') ∧ jn c (tup x i') (tup y j') = s := sorry
def zB (cols : Int) (f : Nat → Int32) (n : Nat) : Prop := ∀ i, i < n → zT cols (tup f i)
theorem jn_r (hc : jOK c) (hx : okB x n) (hy : okB y m) (zx : zB (c.1 5) x n) (zy : zB (c.1 6) y m) {i j i' j' : Nat} (h1 : i < n) (h2 : j < m) (h3 : i' < n) (h4 : j' < m) (a : alk c (tup x i) (tup y j)) (b : alk c (tup x i') (tup y j')) (e : jn c (tup x i) (tup y j) = jn c (tup x i') (tup y j')) : i = i' ∧ j = j' := sorry
/-- what is there of a tuple stays -/
theorem sJ_keep (hc : jOK c) (hx : okB x n) (hy : okB y m) (zx : zB (c.1 5) x n) (zy : zB (c.1 6) y m) : ∀ (k i : Nat), i + k ≤ n → ∀ s, sJ c x y m i s ≠ 0 → sJ c x y m (i + k) s = sJ c x y m i s := sorry
theorem sJ1_keep (hc : jOK c) (hx : okB x n) (hy : okB y m) (zx : zB (c.1 5) x n) (zy : zB (c.1 6) y m) (hi : i < n) (hj : j ≤ m) (hs : sJ1 c (tup x i) (x (6 * i + 4)) y j (sJ c x y m i) s ≠ 0) : sJ c x y m n s ≠ 0 := sorry
theorem pC_le {t : Tup} : ∀ (k j : Nat), pC c t y j ≤ pC c t y (j + k) := sorry
theorem pJ_le : ∀ (k i : Nat), pJ c x y m i ≤ pJ c x y m (i + k) := sorry
theorem pJ_at (hi : i < n) (hj : j ≤ m) : pJ c x y m i + pC c (tup x i) y j ≤ pJ c x y m n := sorry
theorem pC_y (h : alk c t (tup y j)) : pC c t y (j + 1) = pC c t y j + 1 := sorry
theorem pC_n (h : ¬ alk c t (tup y j)) : pC c t y (j + 1) = pC c t y j := sorry
theorem sJ1_y {a : Int32} {S : Tup → Int32} (h : alk c t (tup y j)) : sJ1 c t a y (j + 1) S = sAdd (sJ1 c t a y j S) (jn c t (tup y j)) (a * y (6 * j + 4)) := sorry
theorem sJ1_n {a : Int32} {S : Tup → Int32} (h : ¬ alk c t (tup y j)) : sJ1 c t a y (j + 1) S = sJ1 c t a y j S := sorry
/-- no place for one more: there are too many -/
theorem isB_full {f : Nat → Int32} {L : Nat} {S : Tup → Int32} {v : Int32} (h : isB f L S zM) (h0 : S s = 0) (hv : v ≠ 0) : bigP L (fun t => sAdd S s v t ≠ 0) := sorry
end Join
theorem isB_full9 {f : Nat → Int32} {L k : Nat} {S : Tup → Int32} {s : Tup} {v : Int32} (h : isB f k S zM) (hk : L ≤ k) (h0 : S s = 0) (hv : v ≠ 0) : bigP L (fun t => sAdd S s v t ≠ 0) := sorry
theorem isB_add9 {f f' : Nat → Int32} {n : Nat} {S : Tup → Int32} {t : Tup} {v : Nat → Int} {lim len len' z x : Int} (a : isB f n S zM) (hl : len = (n : Int)) (h : addP 4 lim f f' len len' v x z) (hv : ∀ k, k < 4 → v k = tu t k) (zc : zr x) : (z = 1 ∧ 0 ≤ len' ∧ isB f' len'.toNat (sAdd S t (iI x)) zM) ∨ (z = 0 ∧ lim ≤ len ∧ S t = 0 ∧ iI x ≠ 0) := sorry
theorem tld_ln {f P : Nat → Int32} {c : LC} {z : Int} (h : lnC f P c) (hk : c.1 0 = 3) (h0 : 0 ≤ z) : (∃ j : Nat, (j : Int) < (f 8).toInt ∧ (P (2 * j + 1)).toInt = z) ↔ tld c z.toNat := sorry
theorem jn_e1 {c : LC} {c2 : Int} {k : Nat → Int32} {u : Tup} (h : ∀ d : Nat, (d : Int) < c2 → ¬ tld c d → k ((c.1 5).toNat + jc c d) = tg u d) (h0 : 0 ≤ c2) (hh : c2 = c.1 6 ∨ 4 ≤ c.1 5 + jc c c2.toNat) (d : Nat) (hd : d < (c.1 6).toNat) (hn : ¬ tld c d) (h9 : (c.1 5).toNat + jc c (c.1 6).toNat ≤ 4) (h5 : 0 ≤ c.1 5) : k ((c.1 5).toNat + jc c d) = tg u d := sorry
theorem jn_e2 {c : LC} {c2 : Int} {j : Nat} (h0 : 0 ≤ c2) (h2 : c2 ≤ c.1 6) (h : (c.1 5).toNat + jc c (c.1 6).toNat ≤ j) : (c.1 5).toNat + jc c c2.toNat ≤ j := sorry

end

section
/-! groups -/
def fldP (c : LC) (f f' : Nat → Int32) (row : Nat) (v a : Int32) : Prop :=
  (∀ j, j ≠ 6 * row + 4 → j ≠ 6 * row + 5 → f' j = f j) ∧ f' (6 * row + 4) = (fS c (f (6 * row + 5), f (6 * row + 4)) v a).2 ∧ f' (6 * row + 5) = (fS c (f (6 * row + 5), f (6 * row + 4)) v a).1
section Fold
variable {c : LC} {f f' : Nat → Int32} {row : Nat} {v a : Int32}
theorem fld_cnt (h9 : c.1 9 = 0) (e : ∀ j, j ≠ 6 * row + 4 → f' j = f j) (e4 : f' (6 * row + 4) = f (6 * row + 4) + a) : fldP c f f' row v a := sorry
theorem fld_sum (h9 : c.1 9 = 1) (e : ∀ j, j ≠ 6 * row + 4 → f' j = f j) (e4 : f' (6 * row + 4) = f (6 * row + 4) + a * v) : fldP c f f' row v a := sorry
theorem fld_no (h0 : c.1 9 ≠ 0) (h1 : c.1 9 ≠ 1) (ha : ¬ 0 < a.toInt) : fldP c f f row v a := sorry
theorem fld_set (h0 : c.1 9 ≠ 0) (h1 : c.1 9 ≠ 1) (ha : 0 < a.toInt) (hc : f (6 * row + 5) = 0 ∨ (c.1 9 = 2 ∧ v.toInt < (f (6 * row + 4)).toInt) ∨ (c.1 9 ≠ 2 ∧ (f (6 * row + 4)).toInt < v.toInt)) (e : ∀ j, j ≠ 6 * row + 4 → j ≠ 6 * row + 5 → f' j = f j) (e4 : f' (6 * row + 4) = v) (e5 : f' (6 * row + 5) = 1) : fldP c f f' row v a := sorry
theorem fld_keep (h0 : c.1 9 ≠ 0) (h1 : c.1 9 ≠ 1) (ha : 0 < a.toInt) (hc : ¬ (f (6 * row + 5) = 0 ∨ (c.1 9 = 2 ∧ v.toInt < (f (6 * row + 4)).toInt) ∨ (c.1 9 ≠ 2 ∧ (f (6 * row + 4)).toInt < v.toInt))) (e : ∀ j, j ≠ 6 * row + 5 → f' j = f j) (e5 : f' (6 * row + 5) = 1) : fldP c f f' row v a := sorry
end Fold
/-- the groups of the first i rows: their folds, whether they have one -/
def gPs (c : LC) (x : Nat → Int32) (i : Nat) : Tup → Prop := fun u => ∃ k, k < i ∧ gk c (tup x k) = u
def gSs (c : LC) (x : Nat → Int32) (i : Nat) : Tup → Int32 := fun u => (gF c x u i).2
def gMs (c : LC) (x : Nat → Int32) (i : Nat) : Tup → Int32 := fun u => (gF c x u i).1
section Group
variable {c : LC} {f f' f1 f2 f3 x : Nat → Int32} {n m i k row : Nat} {u t : Tup}
theorem gF_0 : ∀ i, (∀ k, k < i → gk c (tup x k) ≠ u) → gF c x u i = (0, 0) := sorry
theorem gF_y (h : gk c (tup x i) = u) : gF c x u (i + 1) = fS c (gF c x u i) (tg (tup x i) (c.1 10).toNat) (x (6 * i + 4)) := sorry
theorem gF_n (h : gk c (tup x i) ≠ u) : gF c x u (i + 1) = gF c x u i := sorry
/-- the row's group is there -/
def grI (c : LC) (x f : Nat → Int32) (m i : Nat) : Prop := isW f m (gPs c x i) (gSs c x i) (gMs c x i) ∧ m ≤ i
theorem grI_0 : grI c x f 0 0 := sorry
/-- behind finding it, or its coming in -/
def grJ (c : LC) (x f : Nat → Int32) (m i : Nat) : Prop := isW f m (gPs c x (i + 1)) (gSs c x i) (gMs c x i) ∧ m ≤ i + 1
theorem grJ_y (h : grI c x f m i) (hr : row < m) (e : tup f row = gk c (tup x i)) : grJ c x f m i := sorry
theorem grJ_n (h : grI c x f m i) (hat : atW f m row (gk c (tup x i))) (e : insW f f' row m (gk c (tup x i)) 0 0) : grJ c x f' (m + 1) i := sorry
theorem grI_s (h : grJ c x f m i) (hr : row < m) (e : tup f row = gk c (tup x i)) (q : fldP c f f' row (tg (tup x i) (c.1 10).toNat) (x (6 * i + 4))) : grI c x f' m (i + 1) := sorry
/-- the first k rows have the fold in their column -/
def grF (c : LC) (x f : Nat → Int32) (n m k : Nat) : Prop :=
  ∃ f0, isW f0 m (gPs c x n) (gSs c x n) (gMs c x n) ∧ (∀ j, 6 * k ≤ j → f j = f0 j) ∧ ∀ r, r < k → tup f r = tset (tup f0 r) (c.1 4).toNat (f0 (6 * r + 4)) ∧ f (6 * r + 4) = 1 ∧ f (6 * r + 5) = 0
theorem grF_0 (h : grI c x f m n) : grF c x f n m 0 := sorry
theorem tg_ts {t : Tup} {k j : Nat} {v : Int32} (hj : j < 4) : tg (tset t k v) j = if j = k then v else tg t j := sorry
theorem grF_s (h : grF c x f n m k) (hk : k < m) (h4 : (c.1 4).toNat < 4) (e1 : ∀ j, j ≠ 6 * k + (c.1 4).toNat → f1 j = f j) (e1' : f1 (6 * k + (c.1 4).toNat) = f (6 * k + 4)) (e2 : ∀ j, j ≠ 6 * k + 4 → f2 j = f1 j) (e2' : f2 (6 * k + 4) = 1) (e3 : ∀ j, j ≠ 6 * k + 5 → f3 j = f2 j) (e3' : f3 (6 * k + 5) = 0) : grF c x f3 n m (k + 1) := sorry
theorem gk_z (h : c.1 4 ≤ (k : Int)) (hk : k < 4) : tg (gk c t) k = 0 := sorry
theorem grF_e (h : grF c x f n m m) (h0 : 0 ≤ c.1 4) (h4 : c.1 4 ≤ 3) : isB f m (sG c x n) zM := sorry
end Group


end

section
/-! rings -/
def arT (A : Nat → Int32) (k : Nat) : Tup := tmk (fun j => A (4 * k + j))
theorem arT_at {A : Nat → Int32} {k j : Nat} (hj : j < 4) : tg (arT A k) j = A (4 * k + j) := sorry
theorem arT_c {A A' : Nat → Int32} {k : Nat} (h : ∀ j, j < 4 → A' (4 * k + j) = A (4 * k + j)) : arT A' k = arT A k := sorry
def rOK (c : LC) : Prop := 1 ≤ c.1 5 ∧ 0 ≤ c.1 6 ∧ c.1 5 + c.1 6 ≤ 4 ∧ c.1 4 = c.1 5 ∧ 0 ≤ c.1 7 ∧ c.1 7 < c.1 5 ∧ 0 ≤ c.1 8 ∧ c.1 8 < c.1 6 ∧ ∀ k : Nat, (k : Int) < c.1 4 → -1 ≤ c.2 k 0 ∧ c.2 k 0 < c.1 5 + c.1 6
section RGo
variable {c : LC} {y : Nat → Int32} {j : Nat} {t s : Tup}
theorem rGo_0 : ¬ rGo c y 0 t s := sorry
theorem rGo_s : rGo c y (j + 1) t s ↔ rGo c y j t s ∨ (0 < (y (6 * j + 4)).toInt ∧ tg t (c.1 7).toNat = tg (tup y j) (c.1 8).toNat ∧ trT c (sdH c t (tup y j)) = s) := sorry
end RGo
/-- the rows of a ring and the order in which they came: n rows, of them those from a on new against P -/
def rgI (f A : Nat → Int32) (n a : Nat) (P Q : Tup → Prop) (M : Tup → Int32) (rd : Int32) : Prop :=
  isW f n (fun s => P s ∨ Q s) (fun _ => 1) (fun t => pI (P t) (M t) rd) ∧ a ≤ n ∧ (∀ k, a ≤ k → k < n → ¬ P (arT A k) ∧ Q (arT A k)) ∧ ∀ s, ¬ P s → Q s → ∃ k, a ≤ k ∧ k < n ∧ arT A k = s
section RgI
variable {f f' A A' : Nat → Int32} {n a p : Nat} {P Q Q' : Tup → Prop} {M : Tup → Int32} {rd : Int32} {t : Tup}
theorem rgI_q (h : rgI f A n a P Q M rd) (hQ : ∀ s, P s ∨ Q' s ↔ P s ∨ Q s) : rgI f A n a P Q' M rd := sorry
theorem rgI_c (h : rgI f A n a P Q M rd) (e : rwA f' f n) (eA : ∀ j, j < 4 * n → A' j = A j) : rgI f' A' n a P Q M rd := sorry
/-- one more comes -/
theorem rgI_ins (h : rgI f A n a P Q M rd) (hat : atW f n p t) (e : insW f f' p n t 1 rd) (eA : ∀ j, j < 4 * n → A' j = A j) (eT : arT A' n = t) : rgI f' A' (n + 1) a P (fun s => Q s ∨ s = t) M rd := sorry
theorem rgI_big {L : Nat} (h : rgI f A n a P Q M rd) (hl : L ≤ n) (hat : atW f n p t) : bigP L (fun s => (P s ∨ Q s) ∨ s = t) := sorry
end RgI
/-! the rounds: fr is where the tuples of round r begin -/
def rgR (c : LC) (x : Nat → Int32) (n : Nat) (y : Nat → Int32) (m : Nat) (f A : Nat → Int32) (len fr r : Nat) : Prop :=
  ∃ M, isW f len (rS c x n y m r).2 (fun _ => 1) M ∧ (∀ q t, q ≤ r → (rS c x n y m q).1 t → M t = iI (q : Int)) ∧ fr ≤ len ∧ len ≤ 120 ∧ (∀ k, fr ≤ k → k < len → (rS c x n y m r).1 (arT A k)) ∧ (∀ s, (rS c x n y m r).1 s → ∃ k, fr ≤ k ∧ k < len ∧ arT A k = s) ∧
    (1 ≤ r → ∃ t, (rS c x n y m (r - 1)).1 t) ∧ (41 ≤ r → fr = len)
/-- in a round behind round r: the tuples fr to k have gone on -/
def rgK (c : LC) (x : Nat → Int32) (n : Nat) (y : Nat → Int32) (m : Nat) (f A : Nat → Int32) (len fr to k r : Nat) (M : Tup → Int32) (T : Nat → Tup) : Prop :=
  (∀ i, i < to → arT A i = T i) ∧ rgI f A len to (rS c x n y m r).2 (fun s => ∃ i, fr ≤ i ∧ i < k ∧ rGo c y m (T i) s) M (iI ((r : Int) + 1)) ∧ (∀ q t, q ≤ r → (rS c x n y m q).1 t → M t = iI (q : Int)) ∧ (∀ i, fr ≤ i → i < to → (rS c x n y m r).1 (T i)) ∧ (∀ s, (rS c x n y m r).1 s → ∃ i, fr ≤ i ∧ i < to ∧ T i = s) ∧ (40 ≤ r → len = to) ∧ len ≤ 120 ∧ to ≤ 120
section Rounds
variable {c : LC} {x y f f' A A' : Nat → Int32} {n m len len' fr to k r : Nat} {M : Tup → Int32} {T : Nat → Tup}
theorem rg_init {M : Tup → Int32} (h : rgI f A len 0 (fun _ => False) (fun s => ∃ i, i < n ∧ 0 < (x (6 * i + 4)).toInt ∧ tup x i = s) M (iI 0)) (hl : len ≤ 120) : rgR c x n y m f A len 0 0 := sorry
theorem rg_enter (h : rgR c x n y m f A len fr r) : ∃ M T, rgK c x n y m f A len fr len fr r M T := sorry
theorem rg_step (h : rgK c x n y m f A len fr to k r M T) (hk : fr ≤ k) (q : rgI f' A' len' to (rS c x n y m r).2 (fun s => (∃ i, fr ≤ i ∧ i < k ∧ rGo c y m (T i) s) ∨ rGo c y m (T k) s) M (iI ((r : Int) + 1))) (eA : ∀ j, j < 4 * len → A' j = A j) (hl : 40 ≤ r → len' = len) (h120 : len' ≤ 120) : rgK c x n y m f' A' len' fr to (k + 1) r M T := sorry
theorem rg_new (h : rgK c x n y m f A len fr to k r M T) (hk : k ≤ to) {s : Tup} (hq : ∃ i, fr ≤ i ∧ i < k ∧ rGo c y m (T i) s) (hn : ¬ (rS c x n y m r).2 s) : (rS c x n y m (r + 1)).1 s := sorry
theorem rg_round (h : rgK c x n y m f A len fr to to r M T) (hlt : fr < to) : rgR c x n y m f A len to (r + 1) := sorry
theorem rg_big (h : rgK c x n y m f A len fr to k r M T) (hk : fr ≤ k) (hk2 : k < to) (hr : r + 1 ≤ 40) (hb : bigP 120 (fun s => (rS c x n y m r).2 s ∨ (∃ i, fr ≤ i ∧ i < k ∧ rGo c y m (T i) s) ∨ rGo c y m (T k) s)) : ∃ q, q ≤ 40 ∧ bigP 120 (rS c x n y m q).2 := sorry
theorem rg_many (h : rgK c x n y m f A len fr to k r M T) (hk : fr ≤ k) (hk2 : k < to) (hr : r = 40) {s : Tup} (hs : ¬ ((rS c x n y m r).2 s ∨ ∃ i, fr ≤ i ∧ i < k ∧ rGo c y m (T i) s)) (hg : rGo c y m (T k) s) : (∃ t, (rS c x n y m 41).1 t) ∧ ¬ bigP 120 (rS c x n y m 40).2 := sorry
theorem rg_end (h : rgR c x n y m f A len fr r) (hr : r ≤ 41) (he : fr = len ∨ r = 41) : ∃ R, rgY c x n y m R f len := sorry
end Rounds
/-! steps of the walk -/
def rQ0 (x : Nat → Int32) (n : Nat) : Tup → Prop := fun s => ∃ i, i < n ∧ 0 < (x (6 * i + 4)).toInt ∧ tup x i = s
section RWalk
variable {c : LC} {x y f A : Nat → Int32} {n m i j a p : Nat} {P Q : Tup → Prop} {M : Tup → Int32} {rd : Int32} {t s : Tup}
theorem insW_m {f f1 f2 : Nat → Int32} {p n : Nat} {t : Tup} {c m0 m : Int32} (h : insW f f1 p n t c m0) (e : ∀ j, j ≠ 6 * p + 5 → f2 j = f1 j) (e5 : f2 (6 * p + 5) = m) : insW f f2 p n t c m := sorry
theorem rgI_n (h : rgI f A n a P Q M rd) (hat : atW f n p t) : ¬ (P t ∨ Q t) := sorry
theorem rGo_m (h : j ≤ m) (w : rGo c y j t s) : rGo c y m t s := sorry
theorem rg_go (h1 : 0 < (y (6 * j + 4)).toInt) (h2 : tg t (c.1 7).toNat = tg (tup y j) (c.1 8).toNat) (hj : j < m) : rGo c y m t (trT c (sdH c t (tup y j))) := sorry
theorem rg_q1 (h1 : 0 < (y (6 * j + 4)).toInt) (h2 : tg t (c.1 7).toNat = tg (tup y j) (c.1 8).toNat) : (P s ∨ Q s ∨ rGo c y j t s ∨ (0 < (y (6 * j + 4)).toInt ∧ tg t (c.1 7).toNat = tg (tup y j) (c.1 8).toNat ∧ trT c (sdH c t (tup y j)) = s)) ↔ (P s ∨ (Q s ∨ rGo c y j t s) ∨ s = trT c (sdH c t (tup y j))) := sorry
theorem rg_q2 (h1 : 0 < (y (6 * j + 4)).toInt) (h2 : tg t (c.1 7).toNat = tg (tup y j) (c.1 8).toNat) (h3 : P (trT c (sdH c t (tup y j))) ∨ Q (trT c (sdH c t (tup y j))) ∨ rGo c y j t (trT c (sdH c t (tup y j)))) : (P s ∨ Q s ∨ rGo c y j t s ∨ (0 < (y (6 * j + 4)).toInt ∧ tg t (c.1 7).toNat = tg (tup y j) (c.1 8).toNat ∧ trT c (sdH c t (tup y j)) = s)) ↔ (P s ∨ Q s ∨ rGo c y j t s) := sorry
theorem rg_q3 (h1 : ¬ (0 < (y (6 * j + 4)).toInt ∧ tg t (c.1 7).toNat = tg (tup y j) (c.1 8).toNat ∧ trT c (sdH c t (tup y j)) = s)) : (P s ∨ Q s ∨ rGo c y j t s ∨ (0 < (y (6 * j + 4)).toInt ∧ tg t (c.1 7).toNat = tg (tup y j) (c.1 8).toNat ∧ trT c (sdH c t (tup y j)) = s)) ↔ (P s ∨ Q s ∨ rGo c y j t s) := sorry
theorem rg_zero : rgI f A 0 0 (fun _ => False) (rQ0 x 0) zM (iI 0) := sorry
theorem rg_at (h : rgI f A n 0 (fun _ => False) (rQ0 x i) M rd) (hx : okB x m) (hi : i < m) : atW f n n (tup x i) := sorry
theorem rq0_y (h : 0 < (x (6 * i + 4)).toInt) : (False ∨ rQ0 x (i + 1) s) ↔ (False ∨ rQ0 x i s ∨ s = tup x i) := sorry
theorem rq0_n (h : ¬ 0 < (x (6 * i + 4)).toInt) : (False ∨ rQ0 x (i + 1) s) ↔ (False ∨ rQ0 x i s) := sorry
end RWalk
theorem rgR_le {c : LC} {x y f A : Nat → Int32} {n m len fr r : Nat} (h : rgR c x n y m f A len fr r) : fr ≤ len ∧ len ≤ 120 := sorry

end

section
/-! the relations of a plan -/
def rob (AR : gR) (b r : Nat) : Nat := (AR b r).getD 0
theorem rob_e {AR : gR} {b r y : Nat} (h : AR b r = some y) : rob AR b r = y := sorry
/-- what an array of bags has -/
def rfC (gh : gGh) (AR : gR) (I AI : gI) (b : Nat) : RF := fun r => ((I (rob AR b r) 3).toInt.toNat, AI (gh 0 (rob AR b r)))
def cOK (c : LC) (r : Nat) (cl : Nat → Int) : Prop :=
  (1 ≤ c.1 0 ∧ c.1 0 ≤ 8 ∧ 0 ≤ c.1 2 ∧ c.1 2 < (r : Int) ∧ -1 ≤ c.1 3 ∧ c.1 3 < (r : Int)) ∧ ((c.1 0 = 3 ∨ c.1 0 = 4 ∨ c.1 0 = 5 ∨ c.1 0 = 8) → 0 ≤ c.1 3) ∧
  (c.1 0 = 2 → 0 ≤ c.1 4 ∧ ∀ k : Nat, (k : Int) < c.1 4 → c.2 k 0 < 4) ∧ (c.1 0 = 3 → jOK c ∧ c.1 5 = cl (c.1 2).toNat ∧ c.1 6 = cl (c.1 3).toNat) ∧
  (c.1 0 = 7 → (0 ≤ c.1 4 ∧ c.1 4 ≤ 3) ∧ (0 ≤ c.1 9 ∧ c.1 9 ≤ 3) ∧ 0 ≤ c.1 10 ∧ c.1 10 ≤ 3) ∧ (c.1 0 = 8 → rOK c ∧ c.1 5 = cl (c.1 2).toNat ∧ c.1 6 = cl (c.1 3).toNat)
/-- the columns of a view -/
def cZ (c : LC) (r : Nat) (cl : Nat → Int) : Prop :=
  (c.1 0 = 1 ∨ c.1 0 = 6 → cl r = cl (c.1 2).toNat) ∧ (c.1 0 = 4 ∨ c.1 0 = 5 → cl r = cl (c.1 2).toNat ∧ cl (c.1 3).toNat = cl (c.1 2).toNat) ∧ (c.1 0 = 2 → cl r = c.1 4) ∧ (c.1 0 = 3 → cl r = c.1 5 + jc c (c.1 6).toNat) ∧ (c.1 0 = 7 → cl r = c.1 4 + 1) ∧ (c.1 0 = 8 → cl r = c.1 5)
def bgOK (F : RF) (cl : Nat → Int) (r : Nat) : Prop := okB (F r).2 (F r).1 ∧ (F r).1 ≤ 120 ∧ zB (cl r) (F r).2 (F r).1
section Vw
variable {c : LC} {F : RF} {x y f : Nat → Int32} {n m k r : Nat} {z len : Int} {cl : Nat → Int} {t : Tup}
theorem vw_1 (hk : c.1 0 = 1 ∨ c.1 0 = 2 ∨ c.1 0 = 6) (h1 : F (c.1 2).toNat = (n, x)) (h : z = 0 ∧ isB f len.toNat (sR (vK c) (vA c) x n s0T) zM ∧ len ≤ (n : Int)) (hn : n ≤ 120) : vwP c F z f len.toNat := sorry
theorem vw_7 (hk : c.1 0 = 7) (h1 : F (c.1 2).toNat = (n, x)) (h : z = 0 ∧ isB f len.toNat (sG c x n) zM ∧ len ≤ (n : Int)) (hn : n ≤ 120) : vwP c F z f len.toNat := sorry
theorem vw_8 (hk : c.1 0 = 8) (h1 : F (c.1 2).toNat = (n, x)) (h2 : F (c.1 3).toNat = (m, y)) (h : rgP c x n y m z f k) : vwP c F z f k := sorry
theorem vw_3 (hk : c.1 0 = 3) (h1 : F (c.1 2).toNat = (n, x)) (h2 : F (c.1 3).toNat = (m, y)) (h : (z = 0 ∧ ¬ 1500 < pJ c x y m n ∧ isB f len.toNat (sJ c x y m n) zM ∧ len ≤ 120) ∨ (z = -3 ∧ (1500 < pJ c x y m n ∨ bigP 120 (fun t => sJ c x y m n t ≠ 0)))) : vwP c F z f len.toNat := sorry
theorem vw_4 {sg : Int} {w : Int} (hk : (c.1 0 = 4 ∧ sg = 1) ∨ (c.1 0 = 5 ∧ sg = -1)) (h1 : F (c.1 2).toNat = (n, x)) (h2 : F (c.1 3).toNat = (m, y)) (h : (w = 1 ∧ isB f len.toNat (fun t => bS x n t + iI sg * bS y m t) zM) ∨ (w = 0 ∧ bigP 120 (fun t => bS x n t + iI sg * bS y m t ≠ 0))) (hl : len ≤ 120) (hz : (w = 1 ∧ z = 0) ∨ (w = 0 ∧ z = -3)) : vwP c F z f len.toNat := sorry
/-! what a view has is a bag again, 0 beyond its columns -/
theorem zT_m {a b : Int} {t : Tup} (h : a ≤ b) (k : zT a t) : zT b t := sorry
theorem zB_of {cols : Int} {f : Nat → Int32} {n : Nat} {P : Tup → Prop} {S M : Tup → Int32} (a : isW f n P S M) (h : ∀ t, P t → zT cols t) : zB cols f n := sorry
theorem trT_z {h : Nat → Int32} : zT (c.1 4) (trT c h) := sorry
theorem jn_z {u : Tup} (h5 : 0 ≤ c.1 5) (h6 : c.1 5 ≤ 4) : zT (c.1 5 + jc c (c.1 6).toNat) (jn c t u) := sorry
theorem bS_z {cols : Int} (h : zB cols f n) (hs : bS f n t ≠ 0) : zT cols t := sorry
theorem vw_ok (hc : cOK c r cl) (hz : cZ c r cl) (hb : ∀ q, q < r → bgOK F cl q) (h : vwP c F 0 f k) : okB f k ∧ k ≤ 120 ∧ zB (cl r) f k := sorry
end Vw


end

section
/-! changes of tables -/
def btu (f : Nat → Int32) (i : Nat) : Tup := (f (6 * i + 1), f (6 * i + 2), f (6 * i + 3), f (6 * i + 4))
theorem btu_at {f : Nat → Int32} {i k : Nat} (hk : k < 4) : tg (btu f i) k = f (6 * i + 1 + k) := sorry
/-- by how much a table's tuple becomes more -/
def cS (f : Nat → Int32) (tb : Int) : Nat → Tup → Int32
  | 0, _ => 0
  | i + 1, t => if (f (6 * i)).toInt = tb ∧ btu f i = t then f (6 * i + 5) else cS f tb i t
/-- a batch: in order, no amount is 0 -/
def btO (f : Nat → Int32) (n : Nat) : Prop := srt 5 f (n : Int) ∧ ∀ i, i < n → f (6 * i + 5) ≠ 0
section Batch
variable {f f' g : Nat → Int32} {n m i j : Nat} {tb : Int} {t : Tup}
theorem bt_lt (h : srt 5 f (n : Int)) (hij : i < j) (hj : j < n) (e : (f (6 * i)).toInt = (f (6 * j)).toInt) : tc (btu f i) (btu f j) = -1 := sorry
theorem cS_n : ∀ i, (∀ j, j < i → ¬ ((f (6 * j)).toInt = tb ∧ btu f j = t)) → cS f tb i t = 0 := sorry
theorem cS_c {f f' : Nat → Int32} : ∀ n, (∀ j, j < 6 * n → f' j = f j) → cS f' tb n t = cS f tb n t := sorry
theorem cS_y (h : srt 5 f (n : Int)) : ∀ m, m ≤ n → j < m → (f (6 * j)).toInt = tb → cS f tb m (btu f j) = f (6 * j + 5) := sorry
/-- the changes of one table, picked so far: m rows -/
def pkI (f g : Nat → Int32) (n : Nat) (tb : Int) (m i : Nat) : Prop :=
  isB g m (fun t => cS f tb i t) zM ∧ m ≤ i ∧ ∀ r, r < m → ∃ j, j < i ∧ (f (6 * j)).toInt = tb ∧ tup g r = btu f j
theorem pkI_0 : pkI f g n tb 0 0 := sorry
theorem pkI_n (h : pkI f g n tb m i) (hn : (f (6 * i)).toInt ≠ tb) : pkI f g n tb m (i + 1) := sorry
theorem pkI_y {g' : Nat → Int32} (hb : btO f n) (hi : i < n) (h : pkI f g n tb m i) (he : (f (6 * i)).toInt = tb) (e : insW g g' m m (btu f i) (f (6 * i + 5)) 0) : pkI f g' n tb (m + 1) (i + 1) := sorry
end Batch
/-! what a batch would make of the relations -/
/-- a table's tuple falls below 0 -/
def blw (f : Nat → Int32) (F : RF) (sg : Int) (i : Nat) : Prop := (bS (F (f (6 * i)).toInt.toNat).2 (F (f (6 * i)).toInt.toNat).1 (btu f i) + iI sg * f (6 * i + 5)).toInt < 0
def tbS (f : Nat → Int32) (n : Nat) (F : RF) (sg : Int) (r : Nat) : Tup → Int32 := fun t => bS (F r).2 (F r).1 t + iI sg * cS f (r : Int) n t
/-- relation r is as it should be -/
def stP (tbs : Int) (c : Nat → LC) (T : Nat → Tup → Int32) (F : RF) (r : Nat) : Prop :=
  if (r : Int) < tbs then isB (F r).2 (F r).1 (T r) zM ∧ (F r).1 ≤ 120 else vwP (c r) F 0 (F r).2 (F r).1
def stF (tbs : Int) (c : Nat → LC) (T : Nat → Tup → Int32) (F : RF) (r : Nat) (z : Int) : Prop :=
  if (r : Int) < tbs then z = -3 ∧ bigP 120 (fun t => T r t ≠ 0) else z ≠ 0 ∧ ∃ f k, vwP (c r) F z f k
def rnP (tbs : Int) (nr : Nat) (c : Nat → LC) (bl : Prop) (T : Nat → Tup → Int32) (z : Int) (F : RF) : Prop :=
  (bl ∧ z = -2) ∨ (¬ bl ∧ ∃ r, r ≤ nr ∧ (∀ q, q < r → stP tbs c T F q) ∧ ((r = nr ∧ z = 0) ∨ (r < nr ∧ stF tbs c T F r z)))
section Rn
variable {tbs : Int} {nr r : Nat} {c : Nat → LC} {bl : Prop} {T : Nat → Tup → Int32} {z z' : Int} {F F' : RF}
/-- views look at relations ahead of them -/
def cLt (tbs : Int) (nr : Nat) (c : Nat → LC) : Prop := ∀ r : Nat, r < nr → tbs ≤ (r : Int) → (c r).1 2 < (r : Int) ∧ 0 ≤ (c r).1 2 ∧ (c r).1 3 < (r : Int)
theorem stP_u (hl : cLt tbs nr c) (hr : r ≤ nr) (a : ∀ q, q < r → stP tbs c T F q) (b : ∀ q, q < r → stP tbs c T F' q) : ∀ q, q < r → rfA F F' q := sorry
theorem rnP_u (hl : cLt tbs nr c) (a : rnP tbs nr c bl T z F) (b : rnP tbs nr c bl T z' F') : z = z' ∧ (z = 0 → ∀ q, q < nr → rfA F F' q) := sorry
end Rn


end

section
/-! the bags that come next: who is who, what stays -/
def rsD (AR : gR) (b n : Nat) : Prop := ∀ i j, i < n → j < n → rob AR b i = rob AR b j → i = j
def rsX (AR : gR) (b n b' n' : Nat) : Prop := ∀ i j, i < n → j < n' → rob AR b i ≠ rob AR b' j
def nIf (gh : gGh) (AR : gR) (nA : Nat) (I I' : gI) : Prop := ∀ b, b ≠ gh 39 0 → (∀ r, r < 16 → rob AR nA r ≠ b) → I' b = I b
def nAf (gh : gGh) (AR : gR) (nA : Nat) (AI AI' : gI) : Prop := ∀ b, b ≠ gh 0 (gh 39 0) → (∀ r, r < 16 → gh 0 (rob AR nA r) ≠ b) → b ≠ gh 29 0 → b ≠ gh 30 0 → b ≠ gh 31 0 → b ≠ gh 32 0 → AI' b = AI b
section Next
variable {g : gG} {gh : gGh} {R AR : gR} {I I' I'' AI AI' AI'' I0 AI0 : gI} {nA bA b o q r n : Nat}
theorem nIf_r : nIf gh AR nA I I := sorry
theorem nIf_t (h : nIf gh AR nA I I') (h' : nIf gh AR nA I' I'') : nIf gh AR nA I I'' := sorry
theorem nAf_r : nAf gh AR nA AI AI := sorry
theorem nAf_t (h : nAf gh AR nA AI AI') (h' : nAf gh AR nA AI' AI'') : nAf gh AR nA AI AI'' := sorry
theorem nIf_n (hr : r < 16) (h : ∀ b, b ≠ rob AR nA r → I' b = I b) : nIf gh AR nA I I' := sorry
theorem nAf_n (hr : r < 16) (h : ∀ b, b ≠ gh 0 (rob AR nA r) → AI' b = AI b) : nAf gh AR nA AI AI' := sorry
theorem nAf_k (hr : r < 16) (h : kA gh (rob AR nA r) AI AI') : nAf gh AR nA AI AI' := sorry
theorem nIf_c (h : ∀ b, b ≠ gh 39 0 → I' b = I b) : nIf gh AR nA I I' := sorry
theorem nAf_c (h : ∀ b, b ≠ gh 0 (gh 39 0) → b ≠ gh 29 0 → AI' b = AI b) : nAf gh AR nA AI AI' := sorry
theorem nAf_y (h : ∀ b, b ≠ gh 29 0 → AI' b = AI b) : nAf gh AR nA AI AI' := sorry
theorem isRA_o {lim key : Nat} (h : isRA g gh AR b n lim key) (hr : r < n) : AR b r = some (rob AR b r) ∧ gO g (rob AR b r) 4 ∧ gh 1 (rob AR b r) = lim ∧ gh 2 (rob AR b r) = key := sorry
theorem rfC_k (hI : I' (rob AR b r) = I (rob AR b r)) (hA : AI' (gh 0 (rob AR b r)) = AI (gh 0 (rob AR b r))) : rfC gh AR I' AI' b r = rfC gh AR I AI b r := sorry
/-- a Rows that is none of those that change stays -/
theorem nAf_o (f : nAf gh AR nA AI AI') (hv : gInv g gh R AR I0 AI0) {x : Nat} (hx : gO g x 6) (ho : gO g o 4) (hn : isRA g gh AR nA 16 120 4) (h39 : o ≠ gh 39 0) (hne : ∀ r, r < 16 → rob AR nA r ≠ o) : AI' (gh 0 o) = AI (gh 0 o) := sorry
theorem nAf_ln (f : nAf gh AR nA AI AI') (hv : gInv g gh R AR I0 AI0) {x ln : Nat} (hx : gO g x 6) (hl : gO g ln 0) (hn : isRA g gh AR nA 16 120 4) : AI' (gh 3 ln) = AI (gh 3 ln) := sorry
end Next
section StP
variable {tbs : Int} {nr r q : Nat} {c : Nat → LC} {T : Nat → Tup → Int32} {F F' : RF} {cl : Nat → Int} {f : Nat → Int32} {n : Nat} {sg : Int}
theorem stP_k (hl : cLt tbs nr c) (hq : q < nr) (h : ∀ p, p ≤ q → F' p = F p) (a : stP tbs c T F q) : stP tbs c T F' q := sorry
/-- a batch's changes have 0 beyond their tables' columns -/
def btZ (cl : Nat → Int) (f : Nat → Int32) (n : Nat) : Prop := ∀ i, i < n → zT (cl (f (6 * i)).toInt.toNat) (btu f i)
theorem cS_z {r : Nat} (hz : btZ cl f n) {t : Tup} : ∀ m, m ≤ n → cS f (r : Int) m t ≠ 0 → zT (cl r) t := sorry
theorem tb_ok {k : Nat} {g : Nat → Int32} (hF : zB (cl r) (F r).2 (F r).1) (hz : btZ cl f n) (h : isB g k (tbS f n F sg r) zM) (hk : k ≤ 120) : okB g k ∧ k ≤ 120 ∧ zB (cl r) g k := sorry
end StP


end

section
/-! one relation more -/
section Steps
variable {tbs sg : Int} {nr k n m : Nat} {c : Nat → LC} {T : Nat → Tup → Int32} {F F' F0 : RF} {cl : Nat → Int} {f g : Nat → Int32} {z : Int}
def stA (tbs : Int) (c : Nat → LC) (T : Nat → Tup → Int32) (cl : Nat → Int) (F : RF) (k : Nat) : Prop := ∀ q, q < k → stP tbs c T F q ∧ bgOK F cl q
theorem cLt_of (h : ∀ r : Nat, r < nr → tbs ≤ (r : Int) → cOK (c r) r cl ∧ cZ (c r) r cl) : cLt tbs nr c := sorry
theorem st_0 : stA tbs c T cl F 0 := sorry
theorem st_up (hl : cLt tbs nr c) (hk : k ≤ nr) (e : ∀ q, q < k → F' q = F q) (h : stA tbs c T cl F k) : stA tbs c T cl F' k := sorry
theorem st_tb (h : stA tbs c (tbS f n F0 sg) cl F k) (hk : (k : Int) < tbs) (e : F k = (m, g)) (hF : zB (cl k) (F0 k).2 (F0 k).1) (hz : btZ cl f n) (hB : isB g m (tbS f n F0 sg k) zM) (hm : m ≤ 120) : stA tbs c (tbS f n F0 sg) cl F (k + 1) := sorry
theorem st_vw (h : stA tbs c T cl F k) (hk : tbs ≤ (k : Int)) (hc : cOK (c k) k cl ∧ cZ (c k) k cl) (e : F k = (m, g)) (hv : vwP (c k) F 0 g m) : stA tbs c T cl F (k + 1) := sorry
theorem st_vc (hc : cOK (c k) k cl) (e : ∀ q, q < k → F' q = F q) (h : vwP (c k) F z g m) : vwP (c k) F' z g m := sorry
end Steps
/-- what moved of a relation -/
def mvQ (gh : gGh) (AR : gR) (I AI : gI) (bA nA : Nat) (I' AI' : gI) (r : Nat) : Prop :=
  isB (AI' (gh 0 (rob AR (gh 35 0) r))) (I' (rob AR (gh 35 0) r) 3).toInt.toNat (fun t => bS (AI (gh 0 (rob AR nA r))) (I (rob AR nA r) 3).toInt.toNat t + iI (-1) * bS (AI (gh 0 (rob AR bA r))) (I (rob AR bA r) 3).toInt.toNat t) zM ∧ 0 ≤ (I' (rob AR (gh 35 0) r) 3).toInt


end

section
/-! sums of lengths -/
def smL (f : Nat → Int) (a : Nat) : Nat → Int
  | 0 => 0
  | k + 1 => smL f a k + f (a + k)
def lnR (AR : gR) (I : gI) (b : Nat) : Nat → Int := fun r => (I (rob AR b r) 3).toInt
theorem smL_c {f f' : Nat → Int} {a : Nat} : ∀ k, (∀ r, a ≤ r → r < a + k → f r = f' r) → smL f a k = smL f' a k := sorry
/-- what a batch that is done leaves: the next bags, what moved, the history, numbers -/
def cmY (gh : gGh) (AR : gR) (x bA nA nr : Nat) (tbs : Int) (I AI : gI) (nb : Nat) (Fn : RF) (z : Int) (I' AI' : gI) : Prop :=
  (∀ r, r < nr → rfC gh AR I' AI' nA r = Fn r) ∧ (∀ r, r < nr → isB (rfC gh AR I' AI' (gh 35 0) r).2 (rfC gh AR I' AI' (gh 35 0) r).1 (fun t => bS (Fn r).2 (Fn r).1 t + iI (-1) * bS (rfC gh AR I AI bA r).2 (rfC gh AR I AI bA r).1 t) zM) ∧
  (∀ k, k < 8 → k ≠ (I x 14).toInt.toNat → rfC gh AR I' AI' (gh 36 0) k = rfC gh AR I AI (gh 36 0) k) ∧ ((rfC gh AR I' AI' (gh 36 0) (I x 14).toInt.toNat).1 = nb ∧ rwA (rfC gh AR I' AI' (gh 36 0) (I x 14).toInt.toNat).2 (AI (gh 0 (gh 37 0))) nb) ∧
  ((I' x 14).toInt = ((I x 14).toInt + 1) % 8 ∧ ((I x 15).toInt < 8 → (I' x 15).toInt = (I x 15).toInt + 1) ∧ ((I x 15).toInt = 8 → (I' x 15).toInt = 8)) ∧ I' x 16 = I x 16 + 1 ∧ I' x 17 = I x 17 ∧ z = smL (lnR AR I' (gh 35 0)) tbs.toNat (nr - tbs.toNat)
/-- all that lasts is as it was -/
def cmS (gh : gGh) (AR : gR) (x bA : Nat) (I AI I' AI' : gI) : Prop :=
  (∀ r, r < 16 → rfC gh AR I' AI' bA r = rfC gh AR I AI bA r) ∧ (∀ r, r < 16 → rfC gh AR I' AI' (gh 35 0) r = rfC gh AR I AI (gh 35 0) r) ∧ (∀ k, k < 8 → rfC gh AR I' AI' (gh 36 0) k = rfC gh AR I AI (gh 36 0) k)
/-- who is who in the class -/
def xD (gh : gGh) (AR : gR) (bA nA : Nat) : Prop := rsD AR bA 16 ∧ rsD AR nA 16 ∧ rsX AR bA 16 nA 16 ∧ rsD AR (gh 35 0) 16 ∧ rsD AR (gh 36 0) 8 ∧ (∀ i, i < 8 → rob AR (gh 36 0) i ≠ gh 38 0) ∧ gh 37 0 ≠ gh 38 0 ∧ ∀ i, i < 16 → rob AR (gh 35 0) i ≠ gh 40 0
theorem xD_s {gh : gGh} {AR : gR} {bA nA : Nat} (h : xD gh AR bA nA) : xD gh AR nA bA := sorry
section XD
variable {g : gG} {gh : gGh} {R AR : gR} {I I' AI AI' I0 AI0 : gI} {x pA bA nA : Nat}
/-- rows of one array are none of another kind's -/
theorem ra_ne {b b' n n' lim key lim' key' : Nat} (h : isRA g gh AR b n lim key) (h' : isRA g gh AR b' n' lim' key') (hk : lim ≠ lim' ∨ key ≠ key') {i j : Nat} (hi : i < n) (hj : j < n') : rob AR b i ≠ rob AR b' j := sorry
theorem ra_ne1 {b n lim key lim' key' o : Nat} (h : isRA g gh AR b n lim key) (h1 : gh 1 o = lim') (h2 : gh 2 o = key') (hk : lim ≠ lim' ∨ key ≠ key') {i : Nat} (hi : i < n) : rob AR b i ≠ o := sorry
/-- a run of reckonNext leaves what lasts -/
theorem cmS_n (hv : gInv g gh R AR I0 AI0) (hx : xS g gh R AR x pA bA nA) (hD : xD gh AR bA nA) (fN : nIf gh AR nA I I') (fM : nAf gh AR nA AI AI') : cmS gh AR x bA I AI I' AI' := sorry
end XD
section CM
variable {g : gG} {gh : gGh} {R AR : gR} {I I1 I2 I3 I4 I5 AI AI1 AI2 AI4 I0 AI0 : gI} {x pA bA nA nb nr : Nat} {tbs z : Int}
theorem isRA_37 {b n lim key r : Nat} (h : isRA g gh AR b n lim key) (hr : r < n) : rob AR b r ≠ gh 37 0 := sorry
theorem cm_yes (hv : gInv g gh R AR I0 AI0) (hx : xS g gh R AR x pA bA nA) (hD : xD gh AR bA nA) (hh : 0 ≤ (I x 14).toInt ∧ (I x 14).toInt ≤ 7) (hn : 0 ≤ tbs ∧ tbs ≤ (nr : Int) ∧ nr ≤ 16) (fN : nIf gh AR nA I I1) (fM : nAf gh AR nA AI AI1)
    (r1 : ∀ b j, b ≠ x ∨ (j ≠ 14 ∧ j ≠ 15) → b ≠ rob AR (gh 36 0) (I1 x 14).toInt.toNat → I2 b j = I1 b j) (r2 : ∀ b, b ≠ gh 0 (rob AR (gh 36 0) (I1 x 14).toInt.toNat) → AI2 b = AI1 b)
    (r3 : (I2 x 14).toInt = ((I1 x 14).toInt + 1) % 8 ∧ ((I1 x 15).toInt < 8 → (I2 x 15).toInt = (I1 x 15).toInt + 1) ∧ ((I1 x 15).toInt = 8 → (I2 x 15).toInt = 8)) (r4 : (I2 (rob AR (gh 36 0) (I1 x 14).toInt.toNat) 3).toInt = (nb : Int) ∧ rwA (AI2 (gh 0 (rob AR (gh 36 0) (I1 x 14).toInt.toNat))) (AI1 (gh 0 (gh 37 0))) nb)
    (d3 : ∀ b j, b ≠ x ∨ j ≠ 16 → I3 b j = I2 b j) (d4 : I3 x 16 = I2 x 16 + 1) (t1 : ∀ b, (∀ r, r < 16 → rob AR (gh 35 0) r ≠ b) → I4 b = I3 b) (t2 : ∀ b, (∀ r, r < 16 → gh 0 (rob AR (gh 35 0) r) ≠ b) → AI4 b = AI2 b) (t3 : ∀ r, r < nr → mvQ gh AR I3 AI2 bA nA I4 AI4 r)
    (b5 : ∀ b j, b ≠ gh 37 0 ∨ j ≠ 3 → I5 b j = I4 b j) (zs : z = smL (lnR AR I4 (gh 35 0)) tbs.toNat (nr - tbs.toNat)) : cmY gh AR x bA nA nr tbs I AI nb (rfC gh AR I1 AI1 nA) z I5 AI4 := sorry
theorem cm_no (hv : gInv g gh R AR I0 AI0) (hx : xS g gh R AR x pA bA nA) (hD : xD gh AR bA nA) (fN : nIf gh AR nA I I1) (fM : nAf gh AR nA AI AI1)
    (d3 : ∀ b j, b ≠ x ∨ j ≠ 17 → I3 b j = I1 b j) (d4 : I3 x 17 = I1 x 17 + 1) (b5 : ∀ b j, b ≠ gh 37 0 ∨ j ≠ 3 → I5 b j = I3 b j) : cmS gh AR x bA I AI I5 AI1 ∧ I5 x 14 = I x 14 ∧ I5 x 15 = I x 15 ∧ I5 x 16 = I x 16 ∧ I5 x 17 = I x 17 + 1 := sorry
end CM


end

section
/-! the reference: where a tuple comes -/
theorem ry6_n {f : Nat → Int32} {k : Int} (h : 0 ≤ k) : rk f (6 * k) = ry6 f k.toNat := sorry
section Ref
variable {f f' : Nat → Int32} {n k : Nat} {t : Tup} {c m : Int32}
def loW (f : Nat → Int32) (n k : Nat) (t : Tup) : Prop := k ≤ n ∧ (∀ i, i < k → tc (tup f i) t = -1) ∧ ∀ i, k ≤ i → i < n → tc (tup f i) t ≠ -1
theorem lo_of (hs : srtB f n) (hk : k ≤ n) (a : 0 < k → tc (tup f (k - 1)) t = -1) (b : k < n → tc (tup f k) t ≠ -1) : loW f n k t := sorry
theorem lo_at (hs : srtB f n) (h : loW f n k t) (hk : k < n → tc (tup f k) t ≠ 0) : atW f n k t := sorry
/-- rows moved up by one, a row written -/
def shW (f f' : Nat → Int32) (n : Nat) (i : Int) : Prop := (∀ j : Nat, (j : Int) ≤ i + 6 → f' j = f j) ∧ ∀ j : Nat, i < (j : Int) → j < 6 * n → f' (j + 6) = f j
theorem shW_0 : shW f f n (6 * (n : Int) - 1) := sorry
theorem shW_s {f'' : Nat → Int32} {i : Int} (h : shW f f' n i) (h0 : 0 ≤ i) (e : ∀ j : Nat, j ≠ (i + 6).toNat → f'' j = f' j) (e' : f'' (i + 6).toNat = f' i.toNat) : shW f f'' n (i - 1) := sorry
def wrW (f f' : Nat → Int32) (k n : Nat) (t : Tup) (i : Int) : Prop := (∀ j : Nat, j < 6 * k → f' j = f j) ∧ (∀ j : Nat, (j : Int) < i → f' (6 * k + j) = tg t j) ∧ ∀ j : Nat, 6 * k ≤ j → j < 6 * n → f' (j + 6) = f j
theorem wrW_0 {i : Int} (h : shW f f' n i) (hi : i = 6 * (k : Int) - 1) : wrW f f' k n t 0 := sorry
theorem wrW_s {f'' : Nat → Int32} {i : Int} (h : wrW f f' k n t i) (h0 : 0 ≤ i ∧ i < 4) (e : ∀ j : Nat, j ≠ 6 * k + i.toNat → f'' j = f' j) (e' : f'' (6 * k + i.toNat) = tg t i.toNat) : wrW f f'' k n t (i + 1) := sorry
theorem wrW_e {f1 f2 : Nat → Int32} {i : Int} (h : wrW f f' k n t i) (hi : 4 ≤ i) (e1 : ∀ j, j ≠ 6 * k + 4 → f1 j = f' j) (e1' : f1 (6 * k + 4) = c) (e2 : ∀ j, j ≠ 6 * k + 5 → f2 j = f1 j) (e2' : f2 (6 * k + 5) = m) : insW f f2 k n t c m := sorry
end Ref


end

section
def rmX7_placeOff : Room := { frames := 1, cells := 0, slots := 0, locals := 24 }
set_option maxHeartbeats 4000000 in
set_option maxRecDepth 100000 in
/-- the place of the tuple -/
theorem c_X7_placeOff (l : Launch) (g : gG) (gh : gGh) (T : Nat → Int32) (n : Nat) (P : Tup → Prop) (S M : Tup → Int32) (t : Tup) (I : gI) (R : gR) (J : gJ) (AI : gI) (AJ : gJ) (AR : gR) (mo : Nat) (hv : mInv g gh R I AI) (hm : gO g mo 7) (hT : AI (gh 50 0) = T) (hw : isW (AI (gh 75 0)) n P S M) (hn : (I mo 26).toInt = (n : Int)) (ht : ∀ j, j < 4 → (AI (gh 77 0)) j = tg t j) : gMet l g yX7_placeOf tsX7_placeOf rmX7_placeOff [.ref mo] (I, R, J, AI, AJ, AR) (gQi g (fun (z : Int) (w : gS) => I = w.1 ∧ R = w.2.1 ∧ J = w.2.2.1 ∧ AI = w.2.2.2.1 ∧ AJ = w.2.2.2.2.1 ∧ AR = w.2.2.2.2.2 ∧ (0 ≤ z ∧ z ≤ (I mo 26).toInt) ∧ (loW (AI (gh 75 0)) n z.toNat t))) := sorry

end

section
def rmX7_gathersf : Room := { frames := 2, cells := 0, slots := 0, locals := 47 }
set_option maxHeartbeats 4000000 in
set_option maxRecDepth 100000 in
/-- a tuple comes -/
theorem c_X7_gathersf (l : Launch) (g : gG) (gh : gGh) (T : Nat → Int32) (n : Nat) (P : Tup → Prop) (S M : Tup → Int32) (t : Tup) (I : gI) (R : gR) (J : gJ) (AI : gI) (AJ : gJ) (AR : gR) (mo : Nat) (cn : Int) (rd : Int) (zcn : zr cn) (zrd : zr rd) (hv : mInv g gh R I AI) (hm : gO g mo 7) (hT : AI (gh 50 0) = T) (h0 : (I mo 26).toInt ≤ 1599) (hw : isW (AI (gh 75 0)) n P S M) (hn : (I mo 26).toInt = (n : Int)) (ht : ∀ j, j < 4 → (AI (gh 77 0)) j = tg t j) : gMet l g yX7_gathers tsX7_gathers rmX7_gathersf [.ref mo, .int (iI cn), .int (iI rd)] (I, R, J, AI, AJ, AR) (gQi g (fun (z : Int) (w : gS) => R = w.2.1 ∧ J = w.2.2.1 ∧ AJ = w.2.2.2.2.1 ∧ AR = w.2.2.2.2.2 ∧ (mInv g gh R (w.1) (w.2.2.2.1)) ∧ ((w.2.2.2.1) (gh 50 0) = T) ∧ (wF mo I (w.1)) ∧ ((z = 0 ∧ ((w.1) mo 26).toInt = (I mo 26).toInt) ∨ (z = 1 ∧ ((w.1) mo 26).toInt = (I mo 26).toInt + 1)) ∧ ((z = 0 ∧ P t ∧ ((w.1) mo 26).toInt = (n : Int) ∧ isW ((w.2.2.2.1) (gh 75 0)) n P (sAdd S t (iI cn)) M) ∨ (z = 1 ∧ ¬ P t ∧ ((w.1) mo 26).toInt = (n : Int) + 1 ∧ isW ((w.2.2.2.1) (gh 75 0)) (n + 1) (pAdd P t) (tUp S t (iI cn)) (tUp M t (iI rd)))) ∧ (∀ b, b ≠ gh 75 0 → (w.2.2.2.1) b = AI b))) := sorry
def rmX7_takesf : Room := { frames := 0, cells := 0, slots := 0, locals := 0 }
set_option maxHeartbeats 4000000 in
set_option maxRecDepth 100000 in
/-- takes a tuple -/
theorem c_X7_takesf (l : Launch) (g : gG) (gh : gGh) (T : Nat → Int32) (I : gI) (R : gR) (J : gJ) (AI : gI) (AJ : gJ) (AR : gR) (mo : Nat) (fm : Int) (zfm : zr fm) (hv : mInv g gh R I AI) (hm : gO g mo 7) (hT : AI (gh 50 0) = T) (h0 : 0 ≤ fm ∧ fm + 4 ≤ 126720) : gMet l g yX7_takes tsX7_takes rmX7_takesf [.ref mo, .int (iI fm)] (I, R, J, AI, AJ, AR) (gQv g (fun w : gS => I = w.1 ∧ R = w.2.1 ∧ J = w.2.2.1 ∧ AJ = w.2.2.2.2.1 ∧ AR = w.2.2.2.2.2 ∧ (mInv g gh R I (w.2.2.2.1)) ∧ ((w.2.2.2.1) (gh 50 0) = T) ∧ (∀ b, b ≠ gh 77 0 → (w.2.2.2.1) b = AI b) ∧ (∀ j, j < 4 → (w.2.2.2.1) (gh 77 0) j = (AI (gh 56 0)) (fm.toNat + j)))) := sorry

end

section
/-! the reference: a line's tests and terms as told -/
def tsM (T : Nat → Int32) (r : Int) (c : LC) : Prop := tI T (40 * r + 4) = c.1 4 ∧ ∀ k : Nat, (k : Int) < c.1 4 → mP T r (k : Int) 0 = c.2 k 0 ∧
  ((mP T r (k : Int) 1 = 0 ∧ c.2 k 1 = 61) ∨ (mP T r (k : Int) 1 = 1 ∧ c.2 k 1 = 60) ∨ (mP T r (k : Int) 1 ≠ 0 ∧ mP T r (k : Int) 1 ≠ 1 ∧ c.2 k 1 ≠ 61 ∧ c.2 k 1 ≠ 60)) ∧
  ((mP T r (k : Int) 2 = 1 ∧ c.2 k 2 ≠ -1 ∧ mP T r (k : Int) 3 = c.2 k 2) ∨ (mP T r (k : Int) 2 ≠ 1 ∧ c.2 k 2 = -1 ∧ mP T r (k : Int) 3 = c.2 k 3))
theorem tsM_at {T : Nat → Int32} {r k : Int} {c : LC} (h : tsM T r c) (h0 : 0 ≤ k) (h1 : k < c.1 4) : mP T r k 0 = c.2 k.toNat 0 ∧
    ((mP T r k 1 = 0 ∧ c.2 k.toNat 1 = 61) ∨ (mP T r k 1 = 1 ∧ c.2 k.toNat 1 = 60) ∨ (mP T r k 1 ≠ 0 ∧ mP T r k 1 ≠ 1 ∧ c.2 k.toNat 1 ≠ 61 ∧ c.2 k.toNat 1 ≠ 60)) ∧
    ((mP T r k 2 = 1 ∧ c.2 k.toNat 2 ≠ -1 ∧ mP T r k 3 = c.2 k.toNat 2) ∨ (mP T r k 2 ≠ 1 ∧ c.2 k.toNat 2 = -1 ∧ mP T r k 3 = c.2 k.toNat 3)) := sorry
def tmM (T : Nat → Int32) (r fm : Int) (c : LC) : Prop := ∀ k : Nat, (k : Int) < c.1 4 → mP T r (fm + (k : Int)) 0 = c.2 k 0 ∧ mP T r (fm + (k : Int)) 1 = c.2 k 1 ∧ (0 ≤ c.2 k 0 ∨ c.2 k 0 = -1)
theorem tmM_at {T : Nat → Int32} {r fm k : Int} {c : LC} (h : tmM T r fm c) (h0 : 0 ≤ k) (h1 : k < c.1 4) : mP T r (fm + k) 0 = c.2 k.toNat 0 ∧ mP T r (fm + k) 1 = c.2 k.toNat 1 ∧ (0 ≤ c.2 k.toNat 0 ∨ c.2 k.toNat 0 = -1) := sorry
theorem trT_n {c : LC} {h : Nat → Int32} {k : Nat} (hk : k < 4) (h1 : c.1 4 ≤ (k : Int)) : tg (trT c h) k = 0 := sorry
theorem trT_y {c : LC} {h : Nat → Int32} {k : Nat} (hk : k < 4) (h1 : (k : Int) < c.1 4) : tg (trT c h) k = trm c h k := sorry

end

section
def rmX7_holdsf : Room := { frames := 1, cells := 0, slots := 0, locals := 23 }
set_option maxHeartbeats 4000000 in
set_option maxRecDepth 100000 in
/-- holds -/
theorem c_X7_holdsf (l : Launch) (g : gG) (gh : gGh) (T : Nat → Int32) (lc : LC) (t : Tup) (I : gI) (R : gR) (J : gJ) (AI : gI) (AJ : gJ) (AR : gR) (mo : Nat) (rr : Int) (fm : Int) (zrr : zr rr) (zfm : zr fm) (hv : mInv g gh R I AI) (hm : gO g mo 7) (hT : AI (gh 50 0) = T) (hr0 : 0 ≤ rr ∧ rr < (I mo 2).toInt) (hk : tI T (40 * rr) = 1) (h0 : 0 ≤ fm ∧ fm + 4 ≤ 126720) (hts : tsM T rr lc) (ht : ∀ j, j < 4 → AI (gh 56 0) (fm.toNat + j) = tg t j) : gMet l g yX7_holds tsX7_holds rmX7_holdsf [.ref mo, .int (iI rr), .int (iI fm)] (I, R, J, AI, AJ, AR) (gQi g (fun (z : Int) (w : gS) => I = w.1 ∧ R = w.2.1 ∧ J = w.2.2.1 ∧ AI = w.2.2.2.1 ∧ AJ = w.2.2.2.2.1 ∧ AR = w.2.2.2.2.2 ∧ (z = 0 ∨ z = 1) ∧ (tIz z (hldP lc t)))) := sorry
def rmX7_termsf : Room := { frames := 1, cells := 0, slots := 0, locals := 23 }
set_option maxHeartbeats 4000000 in
set_option maxRecDepth 100000 in
/-- terms -/
theorem c_X7_termsf (l : Launch) (g : gG) (gh : gGh) (T : Nat → Int32) (lc : LC) (hh : Nat → Int32) (I : gI) (R : gR) (J : gJ) (AI : gI) (AJ : gJ) (AR : gR) (mo : Nat) (rr : Int) (fm : Int) (n : Int) (zrr : zr rr) (zfm : zr fm) (zn : zr n) (hv : mInv g gh R I AI) (hm : gO g mo 7) (hT : AI (gh 50 0) = T) (hr0 : 0 ≤ rr ∧ rr ≤ 15) (h0 : 0 ≤ fm ∧ fm ≤ 1) (hq : ∀ k : Int, 0 ≤ k → k < 4 → k < n → mP T rr (fm + k) 0 ≤ 3) (htm : tmM T rr fm lc) (hlc4 : n = lc.1 4) (hhh : ∀ j : Nat, j < 8 → AI (gh 78 0) j = hh j) : gMet l g yX7_terms tsX7_terms rmX7_termsf [.ref mo, .int (iI rr), .int (iI fm), .int (iI n)] (I, R, J, AI, AJ, AR) (gQv g (fun w : gS => I = w.1 ∧ R = w.2.1 ∧ J = w.2.2.1 ∧ AJ = w.2.2.2.2.1 ∧ AR = w.2.2.2.2.2 ∧ (mInv g gh R I (w.2.2.2.1)) ∧ ((w.2.2.2.1) (gh 50 0) = T) ∧ (∀ b, b ≠ gh 77 0 → (w.2.2.2.1) b = AI b) ∧ (∀ j, j < 4 → (w.2.2.2.1) (gh 77 0) j = tg (trT lc hh) j))) := sorry

end

section
/-! the reference: rows laid -/
section Lay
variable {f g g' g'' : Nat → Int32} {b : Nat} {k e : Int}
def layP (f g g' : Nat → Int32) (b : Nat) (k e : Int) : Prop :=
  (∀ r : Nat, (r : Int) < k → f (6 * r + 4) ≠ 0 → ∀ j : Nat, j < 6 → g' (b + 6 * (wCnt f r).toNat + j) = f (6 * r + j)) ∧
  (∀ j : Nat, (j : Int) < e → g' (b + 6 * (wCnt f k.toNat).toNat + j) = f (6 * k.toNat + j)) ∧
  ∀ p : Nat, p < b ∨ b + 6 * (wCnt f k.toNat).toNat + e.toNat ≤ p → g' p = g p
theorem layP_0 : layP f g g b 0 0 := sorry
theorem wC_lt {r k : Nat} (h : r < k) (n : f (6 * r + 4) ≠ 0) : wCnt f r + 1 ≤ wCnt f k := sorry
theorem layP_s (h : layP f g g' b k e) (hk : 0 ≤ k) (h0 : 0 ≤ e ∧ e < 6) (hp : ∀ p : Nat, p ≠ b + 6 * (wCnt f k.toNat).toNat + e.toNat → g'' p = g' p) (hq : g'' (b + 6 * (wCnt f k.toNat).toNat + e.toNat) = f (6 * k.toNat + e.toNat)) : layP f g g'' b k (e + 1) := sorry
theorem layP_n (h : layP f g g' b k 6) (hk : 0 ≤ k) (n : tI f (6 * k + 4) ≠ 0) : layP f g g' b (k + 1) 0 := sorry
theorem layP_z (h : layP f g g' b k 0) (hk : 0 ≤ k) (n : tI f (6 * k + 4) = 0) : layP f g g' b (k + 1) 0 := sorry
end Lay
/-- what lays answers and leaves -/
def lyP (gh : gGh) (sd rr n : Int) (AI AI' : gI) (z : Int) : Prop :=
  (z = 0 ∧ layP (AI (gh 75 0)) (AI (gh 56 0)) (AI' (gh 56 0)) (11520 * sd + 720 * rr).toNat n 0 ∧ (∀ j : Nat, j ≠ (16 * sd + rr).toNat → AI' (gh 57 0) j = AI (gh 57 0) j) ∧ AI' (gh 57 0) (16 * sd + rr).toNat = iI (wCnt (AI (gh 75 0)) n.toNat) ∧ wCnt (AI (gh 75 0)) n.toNat ≤ 120) ∨
  (z = -3 ∧ 120 < wCnt (AI (gh 75 0)) n.toNat ∧ AI' (gh 56 0) = AI (gh 56 0) ∧ AI' (gh 57 0) = AI (gh 57 0))
theorem lyP_z {gh : gGh} {sd rr n : Int} {AI AI' : gI} {z : Int} (h : lyP gh sd rr n AI AI' z) : z = 0 ∨ z = -3 ∨ z = -4 := sorry

end

section
def rmX7_laysf : Room := { frames := 1, cells := 0, slots := 0, locals := 22 }
set_option maxHeartbeats 4000000 in
set_option maxRecDepth 100000 in
/-- the bag is laid -/
theorem c_X7_laysf (l : Launch) (g : gG) (gh : gGh) (T : Nat → Int32) (I : gI) (R : gR) (J : gJ) (AI : gI) (AJ : gJ) (AR : gR) (mo : Nat) (sd : Int) (rr : Int) (zsd : zr sd) (zrr : zr rr) (hv : mInv g gh R I AI) (hm : gO g mo 7) (hT : AI (gh 50 0) = T) (hs : 0 ≤ sd ∧ sd ≤ 10) (hr0 : 0 ≤ rr ∧ rr ≤ 15) : gMet l g yX7_lays tsX7_lays rmX7_laysf [.ref mo, .int (iI sd), .int (iI rr)] (I, R, J, AI, AJ, AR) (gQi g (fun (z : Int) (w : gS) => I = w.1 ∧ R = w.2.1 ∧ J = w.2.2.1 ∧ AJ = w.2.2.2.2.1 ∧ AR = w.2.2.2.2.2 ∧ (mInv g gh R I (w.2.2.2.1)) ∧ ((w.2.2.2.1) (gh 50 0) = T) ∧ ((w.2.2.2.1) (gh 75 0) = AI (gh 75 0)) ∧ (∀ b, b ≠ gh 56 0 → b ≠ gh 57 0 → (w.2.2.2.1) b = AI b) ∧ (lyP gh sd rr (I mo 26).toInt AI (w.2.2.2.1) z))) := sorry

end

section
/-! the reference: tuples of one group -/
section One
variable {c : LC} {t u : Tup} {T : Nat → Int32} {r k : Int}
def gpM (T : Nat → Int32) (r : Int) (c : LC) : Prop := tI T (40 * r + 4) = c.1 4 ∧ c.1 4 ≤ 4 ∧ ∀ k : Nat, (k : Int) < c.1 4 → mP T r (k : Int) 0 = c.2 k 0
theorem gpM_at (h : gpM T r c) (h0 : 0 ≤ k) (h1 : k < c.1 4) : mP T r k 0 = c.2 k.toNat 0 := sorry
theorem gk_t (h : ∀ j : Nat, (j : Int) < c.1 4 → tg t (c.2 j 0).toNat = tg u (c.2 j 0).toNat) : gk c t = gk c u := sorry
theorem gk_k {j : Nat} (h : gk c t = gk c u) (h1 : (j : Int) < c.1 4) (h4 : j < 4) : tg t (c.2 j 0).toNat = tg u (c.2 j 0).toNat := sorry
end One


end

section
def rmX7_areOneGroupf : Room := { frames := 1, cells := 0, slots := 0, locals := 23 }
set_option maxHeartbeats 4000000 in
set_option maxRecDepth 100000 in
/-- one group -/
theorem c_X7_areOneGroupf (l : Launch) (g : gG) (gh : gGh) (T : Nat → Int32) (lc : LC) (t u : Tup) (I : gI) (R : gR) (J : gJ) (AI : gI) (AJ : gJ) (AR : gR) (mo : Nat) (rr : Int) (px : Int) (py : Int) (zrr : zr rr) (zpx : zr px) (zpy : zr py) (hv : mInv g gh R I AI) (hm : gO g mo 7) (hT : AI (gh 50 0) = T) (hr0 : 0 ≤ rr ∧ rr < (I mo 2).toInt) (hk : tI T (40 * rr) = 7) (h0 : 0 ≤ px ∧ px + 4 ≤ 126720 ∧ 0 ≤ py ∧ py + 4 ≤ 126720) (hgp : gpM T rr lc) (ht : ∀ j, j < 4 → AI (gh 56 0) (px.toNat + j) = tg t j) (hu : ∀ j, j < 4 → AI (gh 56 0) (py.toNat + j) = tg u j) : gMet l g yX7_areOneGroup tsX7_areOneGroup rmX7_areOneGroupf [.ref mo, .int (iI rr), .int (iI px), .int (iI py)] (I, R, J, AI, AJ, AR) (gQi g (fun (z : Int) (w : gS) => I = w.1 ∧ R = w.2.1 ∧ J = w.2.2.1 ∧ AI = w.2.2.2.1 ∧ AJ = w.2.2.2.2.1 ∧ AR = w.2.2.2.2.2 ∧ (z = 0 ∨ z = 1) ∧ (tIz z (gk lc t = gk lc u)))) := sorry

end

section
/-! the reference: a row of a bag -/
theorem hF_at {f F : Nat → Int32} {b : Int} {k p : Int} (h : ∀ q : Nat, q < 720 → f (b.toNat + q) = F q) (hb : 0 ≤ b) (h0 : 0 ≤ k ∧ k < 120) (e : p = b + 6 * k) : ∀ j, j < 4 → f (p.toNat + j) = tg (tup F k.toNat) j := sorry

end

section
def rmX7_isFirstOfGroupf : Room := { frames := 2, cells := 0, slots := 0, locals := 47 }
set_option maxHeartbeats 4000000 in
set_option maxRecDepth 100000 in
/-- the first of its group -/
theorem c_X7_isFirstOfGroupf (l : Launch) (g : gG) (gh : gGh) (T : Nat → Int32) (lc : LC) (bg : Nat → Int32) (I : gI) (R : gR) (J : gJ) (AI : gI) (AJ : gJ) (AR : gR) (mo : Nat) (sd : Int) (rr : Int) (ip : Int) (zsd : zr sd) (zrr : zr rr) (zip : zr ip) (hv : mInv g gh R I AI) (hm : gO g mo 7) (hT : AI (gh 50 0) = T) (hs : 0 ≤ sd ∧ sd ≤ 10) (hr0 : 0 ≤ rr ∧ rr < (I mo 2).toInt) (hk : tI T (40 * rr) = 7) (h0 : 0 ≤ ip ∧ ip ≤ 119) (hgp : gpM T rr lc) (hF : ∀ q : Nat, q < 720 → AI (gh 56 0) ((11520 * sd + 720 * tI T (40 * rr + 2)).toNat + q) = bg q) : gMet l g yX7_isFirstOfGroup tsX7_isFirstOfGroup rmX7_isFirstOfGroupf [.ref mo, .int (iI sd), .int (iI rr), .int (iI ip)] (I, R, J, AI, AJ, AR) (gQi g (fun (z : Int) (w : gS) => I = w.1 ∧ R = w.2.1 ∧ J = w.2.2.1 ∧ AI = w.2.2.2.1 ∧ AJ = w.2.2.2.2.1 ∧ AR = w.2.2.2.2.2 ∧ (z = 0 ∨ z = 1) ∧ (tIz z (∀ j : Nat, (j : Int) < ip → gk lc (tup bg j) ≠ gk lc (tup bg ip.toNat))))) := sorry

end

section
/-! the reference: what is laid is a bag -/
section Laid
variable {f g g' : Nat → Int32} {b n : Nat} {P : Tup → Prop} {S M : Tup → Int32}
theorem wC_ex : ∀ (n q : Nat), (q : Int) < wCnt f n → ∃ r : Nat, r < n ∧ f (6 * r + 4) ≠ 0 ∧ wCnt f r = (q : Int) := sorry
theorem layP_B (hw : isW f n P S M) (h : layP f g g' b (n : Int) 0) (h0 : ∀ t, S t ≠ 0 → P t) : isB (fun q => g' (b + q)) (wCnt f n).toNat S M := sorry
end Laid


end

section
/-! the reference: what was gathered so far -/
section Gat
variable {f f' g g' : Nat → Int32} {n b : Nat} {S : Tup → Int32} {P : Tup → Prop} {t : Tup} {cn : Int32} {z k : Int}
def gaR (f : Nat → Int32) (n : Nat) (S : Tup → Int32) : Prop := ∃ P : Tup → Prop, isW f n P S zM ∧ ∀ t, S t ≠ 0 → P t
theorem gaR_0 : gaR f 0 s0T := sorry
theorem gaR_s (hS : ∀ t, S t ≠ 0 → P t) (h : (z = 0 ∧ P t ∧ k = (n : Int) ∧ isW f' n P (sAdd S t cn) zM) ∨ (z = 1 ∧ ¬ P t ∧ k = (n : Int) + 1 ∧ isW f' (n + 1) (pAdd P t) (tUp S t cn) (tUp zM t (iI 0)))) : gaR f' k.toNat (sAdd S t cn) := sorry
theorem gaR_lay (h : gaR f n S) (hl : layP f g g' b (n : Int) 0) : isB (fun q => g' (b + q)) (wCnt f n).toNat S zM := sorry
theorem gaR_big (h : gaR f n S) (hl : 120 < wCnt f n) : bigP 120 (fun t => S t ≠ 0) := sorry
end Gat
/-! the reference: a join -/
section Jn
variable {c : LC} {t u : Tup} {T : Nat → Int32} {r k d is : Int} {K K' : Nat → Int32}
def jnM (T : Nat → Int32) (r : Int) (c : LC) : Prop := tI T (40 * r + 4) = c.1 4 ∧ tI T (40 * tI T (40 * r + 2) + 1) = c.1 5 ∧ tI T (40 * tI T (40 * r + 3) + 1) = c.1 6 ∧
  (∀ k : Nat, (k : Int) < c.1 4 → mP T r (k : Int) 0 = c.2 k 0 ∧ mP T r (k : Int) 1 = c.2 k 1) ∧ ∀ d : Nat, (d : Int) < c.1 6 → (mBit (tI T (40 * r + 5)) (d : Int) = 1 ↔ tld c d)
theorem jnM_at (h : jnM T r c) (h0 : 0 ≤ k) (h1 : k < c.1 4) : mP T r k 0 = c.2 k.toNat 0 ∧ mP T r k 1 = c.2 k.toNat 1 := sorry
theorem jnM_d (h : jnM T r c) (h0 : 0 ≤ d) (h1 : d < c.1 6) : mBit (tI T (40 * r + 5)) d = 1 ↔ tld c d.toNat := sorry
theorem jnM_c (h : jnM T r c) : ∀ d : Nat, (d : Int) ≤ c.1 6 → mCnt (tI T (40 * r + 5)) d = ((jc c d : Nat) : Int) := sorry
def alI (c : LC) (t u : Tup) (is k : Int) : Prop := (is = 1 ∧ ∀ j : Nat, (j : Int) < k → tg t (c.2 j 0).toNat = tg u (c.2 j 1).toNat) ∨ (is = 0 ∧ ¬ alk c t u)
theorem alI_0 : alI c t u 1 0 := sorry
theorem alI_y (h : alI c t u is k) (hi : is ≠ 0) (h0 : 0 ≤ k) (e : tg t (c.2 k.toNat 0).toNat = tg u (c.2 k.toNat 1).toNat) : alI c t u 1 (k + 1) := sorry
theorem alI_n (h0 : 0 ≤ k) (h1 : k < c.1 4) (e : tg t (c.2 k.toNat 0).toNat ≠ tg u (c.2 k.toNat 1).toNat) : alI c t u 0 (k + 1) := sorry
theorem alI_z (h : alI c t u is k) (hi : is = 0) : alI c t u 0 (k + 1) := sorry
theorem alI_t (h : alI c t u is k) (hi : is ≠ 0) (hk : c.1 4 ≤ k) : alk c t u := sorry
theorem alI_f (h : alI c t u is k) (hi : is = 0) : ¬ alk c t u := sorry
def jtM (c : LC) (t u : Tup) (K : Nat → Int32) (d : Int) : Prop := (∀ j : Nat, (j : Int) < c.1 5 → j < 4 → K j = tg t j) ∧ (∀ q : Nat, (q : Int) < d → ¬ tld c q → K ((c.1 5).toNat + jc c q) = tg u q) ∧ ∀ j : Nat, (c.1 5).toNat + jc c d.toNat ≤ j → j < 4 → K j = 0
theorem jtM_0 (h : ∀ j, j < 4 → K j = tg t j) (z : zT (c.1 5) t) (h5 : 0 ≤ c.1 5) : jtM c t u K 0 := sorry
theorem jtM_k (h : jtM c t u K d) (h0 : 0 ≤ d) (w : tld c d.toNat) : jtM c t u K (d + 1) := sorry
theorem jtM_s (h : jtM c t u K d) (h0 : 0 ≤ d) (h5 : 0 ≤ c.1 5) (w : ¬ tld c d.toNat) (e : ∀ j, j ≠ (c.1 5).toNat + jc c d.toNat → K' j = K j) (e' : K' ((c.1 5).toNat + jc c d.toNat) = tg u d.toNat) : jtM c t u K' (d + 1) := sorry
theorem jtM_e (h : jtM c t u K d) (h0 : 0 ≤ d) (hd : c.1 6 ≤ d) (hd2 : d ≤ c.1 6) (h5 : 0 ≤ c.1 5) : ∀ j, j < 4 → K j = tg (jn c t u) j := sorry
end Jn


end

section
def rmX7_joinsf : Room := { frames := 3, cells := 0, slots := 0, locals := 71 }
set_option maxHeartbeats 4000000 in
set_option maxRecDepth 100000 in
/-- a join -/
theorem c_X7_joinsf (l : Launch) (g : gG) (gh : gGh) (T : Nat → Int32) (lc : LC) (na my : Nat) (bxa bxb : Nat → Int32) (I : gI) (R : gR) (J : gJ) (AI : gI) (AJ : gJ) (AR : gR) (mo : Nat) (sd : Int) (rr : Int) (zsd : zr sd) (zrr : zr rr) (hv : mInv g gh R I AI) (hm : gO g mo 7) (hT : AI (gh 50 0) = T) (hs : 0 ≤ sd ∧ sd ≤ 10) (hr0 : 0 ≤ rr ∧ rr < (I mo 2).toInt) (hk : tI T (40 * rr) = 3) (hw : (I mo 26).toInt = 0) (hjm : jnM T rr lc) (hjo : jOK lc) (hna : tI (AI (gh 57 0)) (16 * sd + tI T (40 * rr + 2)) = (na : Int)) (hXa : ∀ q : Nat, q < 720 → AI (gh 56 0) ((11520 * sd + 720 * tI T (40 * rr + 2)).toNat + q) = bxa q) (hnb : tI (AI (gh 57 0)) (16 * sd + tI T (40 * rr + 3)) = (my : Int)) (hXb : ∀ q : Nat, q < 720 → AI (gh 56 0) ((11520 * sd + 720 * tI T (40 * rr + 3)).toNat + q) = bxb q) (zx : zB (lc.1 5) bxa na) (h120 : na ≤ 120 ∧ my ≤ 120) : gMet l g yX7_joins tsX7_joins rmX7_joinsf [.ref mo, .int (iI sd), .int (iI rr)] (I, R, J, AI, AJ, AR) (gQi g (fun (z : Int) (w : gS) => R = w.2.1 ∧ J = w.2.2.1 ∧ AJ = w.2.2.2.2.1 ∧ AR = w.2.2.2.2.2 ∧ (mInv g gh R (w.1) (w.2.2.2.1)) ∧ ((w.2.2.2.1) (gh 50 0) = T) ∧ (wF mo I (w.1)) ∧ (∀ b, b ≠ gh 75 0 → b ≠ gh 77 0 → (w.2.2.2.1) b = AI b) ∧ ((z = 0 ∧ ¬ 1500 < pJ lc bxa bxb my na ∧ gaR ((w.2.2.2.1) (gh 75 0)) ((w.1) mo 26).toInt.toNat (sJ lc bxa bxb my na)) ∨ (z = -3 ∧ 1500 < pJ lc bxa bxb my na)))) := sorry

end

section
/-! the reference: groups -/
section Grp
variable {c : LC} {f W W' : Nat → Int32} {t u : Tup} {T : Nat → Int32} {r hs su v z k' : Int} {n i m k : Nat}
def gfM (T : Nat → Int32) (r : Int) (c : LC) : Prop := gpM T r c ∧ (mP T r (c.1 4) 1 = c.1 9 ∧ mP T r (c.1 4) 0 = c.1 10) ∧ 0 ≤ c.1 9 ∧ c.1 9 ≤ 3 ∧ 0 ≤ c.1 10 ∧ c.1 10 ≤ 3 ∧ 0 ≤ c.1 4 ∧ c.1 4 ≤ 3
def gfI (c : LC) (f : Nat → Int32) (u : Tup) (i : Nat) (hs su : Int) : Prop := gF c f u i = (iI hs, iI su) ∧ (hs = 0 ∨ hs = 1)
theorem gfI_0 (h : ∀ j : Nat, (j : Int) < (i : Int) → gk c (tup f j) ≠ u) : gfI c f u i 0 0 := sorry
theorem gfI_n (h : gfI c f u i hs su) (w : gk c (tup f i) ≠ u) : gfI c f u (i + 1) hs su := sorry
theorem gfI_c {su' : Int} (h : gfI c f u i hs su) (w : gk c (tup f i) = u) (h9 : c.1 9 = 0) (e : iI su' = iI su + f (6 * i + 4)) : gfI c f u (i + 1) hs su' := sorry
theorem gfI_s {su' : Int} (h : gfI c f u i hs su) (w : gk c (tup f i) = u) (h9 : c.1 9 = 1) (e : iI su' = iI su + f (6 * i + 4) * tg (tup f i) (c.1 10).toNat) : gfI c f u (i + 1) hs su' := sorry
theorem gfI_z (h : gfI c f u i hs su) (w : gk c (tup f i) = u) (h0 : 2 ≤ c.1 9) (ha : (f (6 * i + 4)).toInt ≤ 0) : gfI c f u (i + 1) hs su := sorry
theorem gfI_cd (hb : hs = 0 ∨ hs = 1) (zs : zr su) (zv : zr v) : ((iI hs : Int32) = 0 ∨ (c.1 9 = 2 ∧ (iI v).toInt < (iI su).toInt) ∨ (c.1 9 ≠ 2 ∧ (iI su).toInt < (iI v).toInt)) ↔ (hs = 0 ∨ (c.1 9 = 2 ∧ v < su) ∨ (c.1 9 ≠ 2 ∧ su < v)) := sorry
theorem gfI_t (h : gfI c f u i hs su) (w : gk c (tup f i) = u) (h0 : 2 ≤ c.1 9) (ha : 0 < (f (6 * i + 4)).toInt) (zs : zr su) (zv : zr v) (e : iI v = tg (tup f i) (c.1 10).toNat) (hc : hs = 0 ∨ (c.1 9 = 2 ∧ v < su) ∨ (c.1 9 ≠ 2 ∧ su < v)) : gfI c f u (i + 1) 1 v := sorry
theorem gfI_k (h : gfI c f u i hs su) (w : gk c (tup f i) = u) (h0 : 2 ≤ c.1 9) (ha : 0 < (f (6 * i + 4)).toInt) (zs : zr su) (zv : zr v) (e : iI v = tg (tup f i) (c.1 10).toNat) (hc : ¬ (hs = 0 ∨ (c.1 9 = 2 ∧ v < su) ∨ (c.1 9 ≠ 2 ∧ su < v))) : gfI c f u (i + 1) 1 su := sorry
theorem gTp_l (hk : (k : Int) < c.1 4) (h4 : k < 4) : tg (gTp c f n (gk c t)) k = tg t (c.2 k 0).toNat := sorry
theorem gTp_m (hk : (k : Int) = c.1 4) (h4 : k < 4) : tg (gTp c f n u) k = (gF c f u n).2 := sorry
theorem gTp_r (hk : c.1 4 < (k : Int)) (h0 : 0 ≤ c.1 4) (h4 : k < 4) : tg (gTp c f n (gk c t)) k = 0 := sorry
theorem gTp_i (h0 : 0 ≤ c.1 4) (e : gTp c f n (gk c t) = gTp c f n (gk c u)) : gk c t = gk c u := sorry
def gPM (c : LC) (f : Nat → Int32) (n i : Nat) : Tup → Prop := fun t => ∃ k, k < i ∧ gTp c f n (gk c (tup f k)) = t
def grM (c : LC) (f : Nat → Int32) (n i : Nat) (W : Nat → Int32) (m : Nat) : Prop := isW W m (gPM c f n i) (fun _ => 1) zM
theorem grM_0 : grM c f n 0 W 0 := sorry
theorem grM_k (h : grM c f n i W m) (hn : ¬ ∀ j : Nat, (j : Int) < (i : Int) → gk c (tup f j) ≠ gk c (tup f i)) : grM c f n (i + 1) W m := sorry
theorem grM_s (h0 : 0 ≤ c.1 4) (hn : ∀ j : Nat, (j : Int) < (i : Int) → gk c (tup f j) ≠ gk c (tup f i))
    (h : (z = 0 ∧ gPM c f n i (gTp c f n (gk c (tup f i))) ∧ k' = (m : Int) ∧ isW W' m (gPM c f n i) (sAdd (fun _ => 1) (gTp c f n (gk c (tup f i))) (iI 1)) zM) ∨
      (z = 1 ∧ ¬ gPM c f n i (gTp c f n (gk c (tup f i))) ∧ k' = (m : Int) + 1 ∧ isW W' (m + 1) (pAdd (gPM c f n i) (gTp c f n (gk c (tup f i)))) (tUp (fun _ => 1) (gTp c f n (gk c (tup f i))) (iI 1)) (tUp zM (gTp c f n (gk c (tup f i))) (iI 0)))) : grM c f n (i + 1) W' k'.toNat := sorry
theorem grM_e (h : grM c f n n W m) : gaR W m (sG c f n) := sorry
end Grp


end

section
def rmX7_groupsf : Room := { frames := 3, cells := 0, slots := 0, locals := 71 }
set_option maxHeartbeats 4000000 in
set_option maxRecDepth 100000 in
/-- groups -/
theorem c_X7_groupsf (l : Launch) (g : gG) (gh : gGh) (T : Nat → Int32) (lc : LC) (na : Nat) (bxa : Nat → Int32) (I : gI) (R : gR) (J : gJ) (AI : gI) (AJ : gJ) (AR : gR) (mo : Nat) (sd : Int) (rr : Int) (zsd : zr sd) (zrr : zr rr) (hv : mInv g gh R I AI) (hm : gO g mo 7) (hT : AI (gh 50 0) = T) (hs : 0 ≤ sd ∧ sd ≤ 10) (hr0 : 0 ≤ rr ∧ rr < (I mo 2).toInt) (hk : tI T (40 * rr) = 7) (hw : (I mo 26).toInt = 0) (hgm : gfM T rr lc) (hna : tI (AI (gh 57 0)) (16 * sd + tI T (40 * rr + 2)) = (na : Int)) (hXa : ∀ q : Nat, q < 720 → AI (gh 56 0) ((11520 * sd + 720 * tI T (40 * rr + 2)).toNat + q) = bxa q) (h120 : na ≤ 120) : gMet l g yX7_groups tsX7_groups rmX7_groupsf [.ref mo, .int (iI sd), .int (iI rr)] (I, R, J, AI, AJ, AR) (gQv g (fun w : gS => R = w.2.1 ∧ J = w.2.2.1 ∧ AJ = w.2.2.2.2.1 ∧ AR = w.2.2.2.2.2 ∧ (mInv g gh R (w.1) (w.2.2.2.1)) ∧ ((w.2.2.2.1) (gh 50 0) = T) ∧ (wF mo I (w.1)) ∧ (∀ b, b ≠ gh 75 0 → b ≠ gh 77 0 → (w.2.2.2.1) b = AI b) ∧ (gaR ((w.2.2.2.1) (gh 75 0)) ((w.1) mo 26).toInt.toNat (sG lc bxa na)))) := sorry

end

section
/-! the reference: rings -/
section Rgm
variable {c : LC} {x y f f' F F' A : Nat → Int32} {t u s : Tup} {T : Nat → Int32} {r z k' : Int} {n m i j k p was len len' R : Nat} {P Q Q' : Tup → Prop} {M : Tup → Int32} {rd : Int32} {Tk : Nat → Tup} {hh h2 : Nat → Int32}
def rgM (T : Nat → Int32) (r : Int) (c : LC) : Prop := tmM T r 1 c ∧ tI T (40 * r + 4) = c.1 4 ∧ tI T (40 * tI T (40 * r + 2) + 1) = c.1 5 ∧ tI T (40 * tI T (40 * r + 3) + 1) = c.1 6 ∧ mP T r 0 0 = c.1 7 ∧ mP T r 0 1 = c.1 8
theorem isW_bg {S M : Tup → Int32} {L : Nat} (a : isW f n P S M) (h : L < n) : bigP L P := sorry
theorem trT_cg (h : ∀ k : Nat, (k : Int) < c.1 4 → c.2 k 0 ≠ -1 → hh (c.2 k 0).toNat = h2 (c.2 k 0).toNat) : trT c hh = trT c h2 := sorry
def rfI (f : Nat → Int32) (n : Nat) (P Q : Tup → Prop) (M : Tup → Int32) (rd : Int32) : Prop := isW f n (fun s => P s ∨ Q s) (fun _ => 1) (fun t => pI (P t) (M t) rd)
theorem rfI_q (h : rfI f n P Q M rd) (hQ : ∀ s, P s ∨ Q' s ↔ P s ∨ Q s) : rfI f n P Q' M rd := sorry
theorem rfI_s (hn : ¬ (P t ∨ Q t)) (h : (z = 0 ∧ (P t ∨ Q t) ∧ k' = (n : Int) ∧ isW f' n (fun s => P s ∨ Q s) (sAdd (fun _ => 1) t (iI 1)) (fun t => pI (P t) (M t) rd)) ∨
    (z = 1 ∧ ¬ (P t ∨ Q t) ∧ k' = (n : Int) + 1 ∧ isW f' (n + 1) (pAdd (fun s => P s ∨ Q s) t) (tUp (fun _ => 1) t (iI 1)) (tUp (fun t => pI (P t) (M t) rd) t rd))) : z = 1 ∧ k' = (n : Int) + 1 ∧ rfI f' k'.toNat P (fun s => Q s ∨ s = t) M rd := sorry
/-- what comes of the tuples ahead of k, and of k with the first j -/
def rqM (c : LC) (y : Nat → Int32) (m : Nat) (Tk : Nat → Tup) (k j : Nat) : Tup → Prop := fun s => (∃ i, i < k ∧ rGo c y m (Tk i) s) ∨ rGo c y j (Tk k) s
theorem rqM_0 : ¬ rqM c y m Tk 0 0 s := sorry
theorem rqM_r : rqM c y m Tk (k + 1) 0 s ↔ rqM c y m Tk k m s := sorry
theorem rqM_3 (h1 : ¬ (0 < (y (6 * j + 4)).toInt ∧ tg (Tk k) (c.1 7).toNat = tg (tup y j) (c.1 8).toNat)) : rqM c y m Tk k (j + 1) s ↔ rqM c y m Tk k j s := sorry
theorem rqM_1 (h1 : 0 < (y (6 * j + 4)).toInt) (h2 : tg (Tk k) (c.1 7).toNat = tg (tup y j) (c.1 8).toNat) : rqM c y m Tk k (j + 1) s ↔ rqM c y m Tk k j s ∨ s = trT c (sdH c (Tk k) (tup y j)) := sorry
theorem rqM_a (h : rqM c y m Tk k j s) (hk : k < was) (hj : j ≤ m) : ∃ i, i < was ∧ rGo c y m (Tk i) s := sorry
theorem rqM_e : rqM c y m Tk was 0 s ↔ ∃ i, i < was ∧ rGo c y m (Tk i) s := sorry
theorem rq_d (hin : P t ∨ Q t) (e : Q' s ↔ Q s ∨ s = t) : P s ∨ Q' s ↔ P s ∨ Q s := sorry
/-- the tuples of the round, as they were picked -/
def frW (W : Nat → Int32) (r : Nat) (F : Nat → Int32) (was k : Nat) : Prop := (∀ i, i < was → ∃ p, p < k ∧ tup W p = arT F i ∧ W (6 * p + 5) = iI (r : Int)) ∧ ∀ p, p < k → W (6 * p + 5) = iI (r : Int) → ∃ i, i < was ∧ arT F i = tup W p
theorem frW_0 : frW f R F 0 0 := sorry
theorem frW_n (h : frW f R F was k) (hn : f (6 * k + 5) ≠ iI (R : Int)) : frW f R F was (k + 1) := sorry
theorem frW_y (h : frW f R F was k) (hy : f (6 * k + 5) = iI (R : Int)) (e : ∀ j, j < 4 * was → F' j = F j) (e' : ∀ j, j < 4 → F' (4 * was + j) = f (6 * k + j)) : frW f R F' (was + 1) (k + 1) := sorry
/-- the set at a round's end -/
def rhM (c : LC) (x : Nat → Int32) (n : Nat) (y : Nat → Int32) (m : Nat) (W : Nat → Int32) (len r : Nat) : Prop :=
  ∃ M, isW W len (rS c x n y m r).2 (fun _ => 1) M ∧ (∀ q t, q ≤ r → (rS c x n y m q).1 t → M t = iI (q : Int)) ∧ len ≤ 120 ∧ (1 ≤ r → ∃ t, (rS c x n y m r).1 t)
def frA (c : LC) (x : Nat → Int32) (n : Nat) (y : Nat → Int32) (m r was : Nat) (Tk : Nat → Tup) : Prop := (∀ i, i < was → (rS c x n y m r).1 (Tk i)) ∧ ∀ t, (rS c x n y m r).1 t → ∃ i, i < was ∧ Tk i = t
theorem frW_e (hW : isW f len (rS c x n y m R).2 (fun _ => 1) M) (hM : ∀ q t, q ≤ R → (rS c x n y m q).1 t → M t = iI (q : Int)) (hR : R ≤ 40) (h : frW f R F was len) : frA c x n y m R was (arT F) := sorry
theorem rh_new (hT : frA c x n y m R was Tk) : (rS c x n y m (R + 1)).1 s ↔ rqM c y m Tk was 0 s ∧ ¬ (rS c x n y m R).2 s := sorry
theorem rh_all (hT : frA c x n y m R was Tk) : (rS c x n y m (R + 1)).2 s ↔ (rS c x n y m R).2 s ∨ rqM c y m Tk was 0 s := sorry
theorem rh_no (hW : isW f len (rS c x n y m R).2 (fun _ => 1) M) (hT : frA c x n y m R was Tk) (h : rfI f' len' (rS c x n y m R).2 (rqM c y m Tk was 0) M rd) (e : len' = len) : ∀ t, ¬ (rS c x n y m (R + 1)).1 t := sorry
theorem rh_end (hW : isW f len (rS c x n y m R).2 (fun _ => 1) M) (hM : ∀ q t, q ≤ R → (rS c x n y m q).1 t → M t = iI (q : Int)) (hN : 1 ≤ R → ∃ t, (rS c x n y m R).1 t) (hR : R ≤ 40) (hl : len ≤ 120) (hT : frA c x n y m R was Tk) (h : rfI f' len' (rS c x n y m R).2 (rqM c y m Tk was 0) M rd) (e : len' = len) : rgY c x n y m R f' len' := sorry
theorem rh_next (hW : isW f len (rS c x n y m R).2 (fun _ => 1) M) (hM : ∀ q t, q ≤ R → (rS c x n y m q).1 t → M t = iI (q : Int)) (hT : frA c x n y m R was Tk) (h : rfI f' len' (rS c x n y m R).2 (rqM c y m Tk was 0) M (iI ((R : Int) + 1))) (hl : len' ≤ 120) (e : len' ≠ len) : rhM c x n y m f' len' (R + 1) := sorry
theorem rh_big (hT : frA c x n y m R was Tk) (hR : R + 1 ≤ 40) (hb : bigP 120 (fun s => (rS c x n y m R).2 s ∨ ∃ i, i < was ∧ rGo c y m (Tk i) s)) : ∃ q, q ≤ 40 ∧ bigP 120 (rS c x n y m q).2 := sorry
theorem rh_many (hW : isW f len (rS c x n y m R).2 (fun _ => 1) M) (hl : len ≤ 120) (hT : frA c x n y m R was Tk) (hR : R = 40) (hs : ∃ s, ¬ (rS c x n y m R).2 s ∧ ∃ i, i < was ∧ rGo c y m (Tk i) s) : (∃ t, (rS c x n y m 41).1 t) ∧ ¬ bigP 120 (rS c x n y m 40).2 := sorry
/-- round 0 -/
theorem rh_0 (h : isW f len (rQ0 x n) (fun _ => 1) zM) (hl : len ≤ 120) : rhM c x n y m f len 0 := sorry
theorem rq_s (hn : ¬ rQ0 x i t) (h0 : 0 < (x (6 * i + 4)).toInt) (et : tup x i = t) (h : (z = 0 ∧ rQ0 x i t ∧ k' = (len : Int) ∧ isW f' len (rQ0 x i) (sAdd (fun _ => 1) t (iI 1)) zM) ∨ (z = 1 ∧ ¬ rQ0 x i t ∧ k' = (len : Int) + 1 ∧ isW f' (len + 1) (pAdd (rQ0 x i) t) (tUp (fun _ => 1) t (iI 1)) (tUp zM t (iI 0)))) : isW f' k'.toNat (rQ0 x (i + 1)) (fun _ => 1) zM := sorry
theorem rq_n (h0 : ¬ 0 < (x (6 * i + 4)).toInt) (h : isW f len (rQ0 x i) (fun _ => 1) zM) : isW f len (rQ0 x (i + 1)) (fun _ => 1) zM := sorry
theorem rq_no (hx : okB x n) (hi : i < n) : ¬ rQ0 x i (tup x i) := sorry
/-- a ring's set, laid -/
theorem rgY_lay {W g g' : Nat → Int32} {b : Nat} (h : rgY c x n y m R W k) (hl : layP W g g' b (k : Int) 0) : rgY c x n y m R (fun q => g' (b + q)) (wCnt W k).toNat := sorry
end Rgm


end

section
def rmX7_ringsOncef : Room := { frames := 3, cells := 0, slots := 0, locals := 71 }
set_option maxHeartbeats 4000000 in
set_option maxRecDepth 100000 in
/-- one round -/
theorem c_X7_ringsOncef (l : Launch) (g : gG) (gh : gGh) (T : Nat → Int32) (lc : LC) (my : Nat) (bxb : Nat → Int32) (Ps : Tup → Prop) (Ms : Tup → Int32) (Tk : Nat → Tup) (I : gI) (R : gR) (J : gJ) (AI : gI) (AJ : gJ) (AR : gR) (mo : Nat) (sd : Int) (rr : Int) (n : Int) (was : Int) (rd : Int) (zsd : zr sd) (zrr : zr rr) (zn : zr n) (zwas : zr was) (zrd : zr rd) (hv : mInv g gh R I AI) (hm : gO g mo 7) (hT : AI (gh 50 0) = T) (hs : 0 ≤ sd ∧ sd ≤ 10) (hr0 : 0 ≤ rr ∧ rr < (I mo 2).toInt) (hk : tI T (40 * rr) = 8) (hn : n = tI T (40 * tI T (40 * rr + 2) + 1)) (hw : 0 ≤ was ∧ was ≤ 120) (hw2 : (I mo 26).toInt ≤ 120) (hgm : rgM T rr lc) (hro : rOK lc) (hnb : tI (AI (gh 57 0)) (16 * sd + tI T (40 * rr + 3)) = (my : Int)) (hXb : ∀ q : Nat, q < 720 → AI (gh 56 0) ((11520 * sd + 720 * tI T (40 * rr + 3)).toNat + q) = bxb q) (h120 : my ≤ 120) (hTk : ∀ i : Nat, (i : Int) < was → arT (AI (gh 80 0)) i = Tk i) (hrf : rfI (AI (gh 75 0)) (I mo 26).toInt.toNat Ps (rqM lc bxb my Tk 0 0) Ms (iI rd)) : gMet l g yX7_ringsOnce tsX7_ringsOnce rmX7_ringsOncef [.ref mo, .int (iI sd), .int (iI rr), .int (iI n), .int (iI was), .int (iI rd)] (I, R, J, AI, AJ, AR) (gQi g (fun (z : Int) (w : gS) => R = w.2.1 ∧ J = w.2.2.1 ∧ AJ = w.2.2.2.2.1 ∧ AR = w.2.2.2.2.2 ∧ (mInv g gh R (w.1) (w.2.2.2.1)) ∧ ((w.2.2.2.1) (gh 50 0) = T) ∧ (wF mo I (w.1)) ∧ (z < 0 ∨ (z = 0 ∧ ((w.1) mo 26).toInt ≤ 120 ∧ (I mo 26).toInt ≤ ((w.1) mo 26).toInt ∧ (40 < rd → ((w.1) mo 26).toInt = (I mo 26).toInt))) ∧ (∀ b, b ≠ gh 75 0 → b ≠ gh 77 0 → b ≠ gh 78 0 → (w.2.2.2.1) b = AI b) ∧ ((z = 0 ∧ rfI ((w.2.2.2.1) (gh 75 0)) ((w.1) mo 26).toInt.toNat Ps (rqM lc bxb my Tk was.toNat 0) Ms (iI rd)) ∨ (z = -3 ∧ rd ≤ 40 ∧ bigP 120 (fun s => Ps s ∨ ∃ i, i < was.toNat ∧ rGo lc bxb my (Tk i) s)) ∨ (z = -4 ∧ 40 < rd ∧ ∃ s, ¬ Ps s ∧ ∃ i, i < was.toNat ∧ rGo lc bxb my (Tk i) s)))) := sorry

end

section
def rmX7_ringsf : Room := { frames := 4, cells := 0, slots := 0, locals := 102 }
set_option maxHeartbeats 4000000 in
set_option maxRecDepth 100000 in
/-- a ring -/
theorem c_X7_ringsf (l : Launch) (g : gG) (gh : gGh) (T : Nat → Int32) (lc : LC) (na my : Nat) (bxa bxb : Nat → Int32) (I : gI) (R : gR) (J : gJ) (AI : gI) (AJ : gJ) (AR : gR) (mo : Nat) (sd : Int) (rr : Int) (zsd : zr sd) (zrr : zr rr) (hv : mInv g gh R I AI) (hm : gO g mo 7) (hT : AI (gh 50 0) = T) (hs : 0 ≤ sd ∧ sd ≤ 10) (hr0 : 0 ≤ rr ∧ rr < (I mo 2).toInt) (hk : tI T (40 * rr) = 8) (hw : (I mo 26).toInt = 0) (hgm : rgM T rr lc) (hro : rOK lc) (hna : tI (AI (gh 57 0)) (16 * sd + tI T (40 * rr + 2)) = (na : Int)) (hXa : ∀ q : Nat, q < 720 → AI (gh 56 0) ((11520 * sd + 720 * tI T (40 * rr + 2)).toNat + q) = bxa q) (hnb : tI (AI (gh 57 0)) (16 * sd + tI T (40 * rr + 3)) = (my : Int)) (hXb : ∀ q : Nat, q < 720 → AI (gh 56 0) ((11520 * sd + 720 * tI T (40 * rr + 3)).toNat + q) = bxb q) (h120 : na ≤ 120 ∧ my ≤ 120) (hA : okB bxa na) : gMet l g yX7_rings tsX7_rings rmX7_ringsf [.ref mo, .int (iI sd), .int (iI rr)] (I, R, J, AI, AJ, AR) (gQi g (fun (z : Int) (w : gS) => R = w.2.1 ∧ J = w.2.2.1 ∧ AJ = w.2.2.2.2.1 ∧ AR = w.2.2.2.2.2 ∧ (mInv g gh R (w.1) (w.2.2.2.1)) ∧ ((w.2.2.2.1) (gh 50 0) = T) ∧ (wF mo I (w.1)) ∧ (∀ b, b ≠ gh 75 0 → b ≠ gh 77 0 → b ≠ gh 78 0 → b ≠ gh 79 0 → b ≠ gh 80 0 → (w.2.2.2.1) b = AI b) ∧ (rgP lc bxa na bxb my z ((w.2.2.2.1) (gh 75 0)) ((w.1) mo 26).toInt.toNat ∧ (z = 0 → ∃ R : Nat, rgY lc bxa na bxb my R ((w.2.2.2.1) (gh 75 0)) ((w.1) mo 26).toInt.toNat ∧ (w.2.2.2.1) (gh 79 0) (16 * sd + rr).toNat = iI (R : Int)) ∧ (z = 0 ∨ z = -3 ∨ z = -4) ∧ ∀ j : Nat, j ≠ (16 * sd + rr).toNat → (w.2.2.2.1) (gh 79 0) j = AI (gh 79 0) j))) := sorry

end

section
/-! the reference: a side's bags, a view reckoned -/
def rfM (gh : gGh) (AI : gI) (sd : Int) : RF := fun r => ((AI (gh 57 0) (16 * sd + (r : Int)).toNat).toInt.toNat, fun q => if q < 720 then AI (gh 56 0) ((11520 * sd + 720 * (r : Int)).toNat + q) else 0)
def lnM (T : Nat → Int32) (r : Int) (c : LC) : Prop := (tI T (40 * r) = c.1 0 ∧ tI T (40 * r + 1) = c.1 1 ∧ tI T (40 * r + 2) = c.1 2 ∧ tI T (40 * r + 3) = c.1 3) ∧ (c.1 0 = 1 → tsM T r c) ∧ (c.1 0 = 2 → tmM T r 0 c ∧ tI T (40 * r + 4) = c.1 4) ∧ (c.1 0 = 3 → jnM T r c) ∧ (c.1 0 = 7 → gfM T r c) ∧ (c.1 0 = 8 → rgM T r c)
def rkM (gh : gGh) (sd rr : Int) (AI AI' : gI) : Prop :=
  (∀ b, b ≠ gh 56 0 → b ≠ gh 57 0 → b ≠ gh 75 0 → b ≠ gh 77 0 → b ≠ gh 78 0 → b ≠ gh 79 0 → b ≠ gh 80 0 → AI' b = AI b) ∧
  (∀ q : Nat, q < (11520 * sd + 720 * rr).toNat ∨ (11520 * sd + 720 * rr).toNat + 720 ≤ q → AI' (gh 56 0) q = AI (gh 56 0) q) ∧
  (∀ j : Nat, j ≠ (16 * sd + rr).toNat → AI' (gh 57 0) j = AI (gh 57 0) j) ∧ ∀ j : Nat, j ≠ (16 * sd + rr).toNat → AI' (gh 79 0) j = AI (gh 79 0) j
def visP (c : LC) (t : Tup) (a : Int32) : Prop := (c.1 0 = 1 → hldP c t) ∧ (c.1 0 = 6 → 0 < a.toInt)
def sgU (c : LC) : Int := if c.1 0 = 4 then 1 else -1
section Rkm
variable {g : gG} {gh : gGh} {R : gR} {I I2 AI AI' AI1 AI2 : gI} {mo : Nat} {sd rr k z a : Int} {c : LC} {F : RF} {x y f f' : Nat → Int32} {n m R0 k1 k2 : Nat} {t : Tup} {am : Int32}
theorem rfM_s (e : rfM gh AI sd a.toNat = (n, f)) (h0 : 0 ≤ a) (hs : 0 ≤ tI (AI (gh 57 0)) (16 * sd + a)) : tI (AI (gh 57 0)) (16 * sd + a) = (n : Int) ∧ ∀ q : Nat, q < 720 → AI (gh 56 0) ((11520 * sd + 720 * a).toNat + q) = f q := sorry
theorem rfM_1 (h0 : 0 ≤ rr) : (rfM gh AI sd rr.toNat).1 = (AI (gh 57 0) (16 * sd + rr).toNat).toInt.toNat := sorry
theorem rfM_2 (h0 : 0 ≤ rr) {q : Nat} (hq : q < 720) : (rfM gh AI sd rr.toNat).2 q = AI (gh 56 0) ((11520 * sd + 720 * rr).toNat + q) := sorry
theorem rfM_w (h0 : 0 ≤ rr) {k9 : Nat} (hk : k9 ≤ 120) : rwA (rfM gh AI sd rr.toNat).2 (fun q => AI (gh 56 0) ((11520 * sd + 720 * rr).toNat + q)) k9 := sorry
theorem vis_1 (hk : c.1 0 = 1) : visP c t am ↔ hldP c t := sorry
theorem vA_0 (h : ¬ visP c t am) : vA c t am = 0 := sorry
theorem vA_6 (h : visP c t am) (hk : c.1 0 = 6) : vA c t am = 1 := sorry
theorem vA_y (h : visP c t am) (hk : c.1 0 ≠ 6) : vA c t am = am := sorry
theorem vS_1 (hk : c.1 0 = 1 ∨ c.1 0 = 2 ∨ c.1 0 = 6) (h1 : F (c.1 2).toNat = (n, x)) : vS c F = sR (vK c) (vA c) x n s0T := sorry
theorem vS_7 (hk : c.1 0 = 7) (h1 : F (c.1 2).toNat = (n, x)) : vS c F = sG c x n := sorry
theorem vS_3 (hk : c.1 0 = 3) (h1 : F (c.1 2).toNat = (n, x)) (h2 : F (c.1 3).toNat = (m, y)) : vS c F = sJ c x y m n := sorry
theorem vM_3 (hk : c.1 0 = 3) (h1 : F (c.1 2).toNat = (n, x)) (h2 : F (c.1 3).toNat = (m, y)) : vMany c F ↔ 1500 < pJ c x y m n := sorry
theorem vM_n (hk : c.1 0 ≠ 3) : ¬ vMany c F := sorry
theorem vS_45 (hk : c.1 0 = 4 ∨ c.1 0 = 5) (h1 : F (c.1 2).toNat = (n, x)) (h2 : F (c.1 3).toNat = (m, y)) (hA : okB x n) (hB : okB y m) : sR id (fun _ a => iI (sgU c) * a) y m (sR (vK c) (vA c) x n s0T) = vS c F := sorry
theorem rgP_z (h : rgP c x n y m z f k1) (hz : z ≠ 0) : rgP c x n y m z f' k2 := sorry
theorem lay_v0 (hk8 : c.1 0 ≠ 8) (hm : ¬ vMany c F) (hn : 0 ≤ k) (h : gaR (AI (gh 75 0)) k.toNat (vS c F)) (hl : lyP gh sd rr k AI AI' z) : vwP c F z (fun q => AI' (gh 56 0) ((11520 * sd + 720 * rr).toNat + q)) (AI' (gh 57 0) (16 * sd + rr).toNat).toInt.toNat := sorry
theorem lay_80 (hn : 0 ≤ k) (h : rgY c x n y m R0 (AI (gh 75 0)) k.toNat) (hl : lyP gh sd rr k AI AI' z) : z = 0 ∧ rgY c x n y m R0 (fun q => AI' (gh 56 0) ((11520 * sd + 720 * rr).toNat + q)) (AI' (gh 57 0) (16 * sd + rr).toNat).toInt.toNat := sorry
theorem lay_v (h0 : 0 ≤ rr) (h1 : tI (AI' (gh 57 0)) (16 * sd + rr) ≤ 120) (hk8 : c.1 0 ≠ 8) (hm : ¬ vMany c F) (hn : 0 ≤ k) (h : gaR (AI (gh 75 0)) k.toNat (vS c F)) (hl : lyP gh sd rr k AI AI' z) : vwP c F z (rfM gh AI' sd rr.toNat).2 (rfM gh AI' sd rr.toNat).1 := sorry
theorem rgY_f {f2 : Nat → Int32} (e : rwA f2 f k1) (h : rgY c x n y m R0 f k1) : rgY c x n y m R0 f2 k1 := sorry
theorem lay_8 (h0 : 0 ≤ rr) (h1 : tI (AI' (gh 57 0)) (16 * sd + rr) ≤ 120) (hn : 0 ≤ k) (h : rgY c x n y m R0 (AI (gh 75 0)) k.toNat) (hl : lyP gh sd rr k AI AI' z) : z = 0 ∧ rgY c x n y m R0 (rfM gh AI' sd rr.toNat).2 (rfM gh AI' sd rr.toNat).1 := sorry
theorem rk_F (h : rkM gh sd rr AI AI') {sd' : Int} {r' : Nat} (h0 : 0 ≤ sd ∧ 0 ≤ rr ∧ rr ≤ 15) (h1 : 0 ≤ sd' ∧ r' < 16) (hne : sd' ≠ sd ∨ (r' : Int) ≠ rr) : rfM gh AI' sd' r' = rfM gh AI sd' r' := sorry
theorem rk_1 (hv : mInv g gh R I AI) (hm : gO g mo 7) (f : ∀ b, b ≠ gh 75 0 → b ≠ gh 77 0 → b ≠ gh 78 0 → b ≠ gh 79 0 → b ≠ gh 80 0 → AI1 b = AI b) (h79 : ∀ j : Nat, j ≠ (16 * sd + rr).toNat → AI1 (gh 79 0) j = AI (gh 79 0) j) : rkM gh sd rr AI AI1 := sorry
theorem rk_2 (hv : mInv g gh R I AI) (hm : gO g mo 7) (h : rkM gh sd rr AI AI1) (hf : ∀ b, b ≠ gh 56 0 → b ≠ gh 57 0 → AI2 b = AI1 b) (hl : lyP gh sd rr k AI1 AI2 z) : rkM gh sd rr AI AI2 := sorry
end Rkm


end

section
def rmX7_reckonsf : Room := { frames := 5, cells := 0, slots := 0, locals := 130 }
set_option maxHeartbeats 4000000 in
set_option maxRecDepth 100000 in
/-- a view reckoned -/
theorem c_X7_reckonsf (l : Launch) (g : gG) (gh : gGh) (T : Nat → Int32) (lc : LC) (cl : Nat → Int) (I : gI) (R : gR) (J : gJ) (AI : gI) (AJ : gJ) (AR : gR) (mo : Nat) (sd : Int) (rr : Int) (zsd : zr sd) (zrr : zr rr) (hv : mInv g gh R I AI) (hm : gO g mo 7) (hT : AI (gh 50 0) = T) (hs : 0 ≤ sd ∧ sd ≤ 10) (hr0 : 0 ≤ rr ∧ rr < (I mo 2).toInt) (hk0 : tI T (40 * rr) ≠ 0) (hlm : lnM T rr lc) (hcK : cOK lc rr.toNat cl) (hbg : ∀ q : Nat, q < rr.toNat → bgOK (rfM gh AI sd) cl q) : gMet l g yX7_reckons tsX7_reckons rmX7_reckonsf [.ref mo, .int (iI sd), .int (iI rr)] (I, R, J, AI, AJ, AR) (gQi g (fun (z : Int) (w : gS) => R = w.2.1 ∧ J = w.2.2.1 ∧ AJ = w.2.2.2.2.1 ∧ AR = w.2.2.2.2.2 ∧ (mInv g gh R (w.1) (w.2.2.2.1)) ∧ ((w.2.2.2.1) (gh 50 0) = T) ∧ (wF mo I (w.1)) ∧ (rkM gh sd rr AI (w.2.2.2.1)) ∧ (vwP lc (rfM gh AI sd) z (rfM gh (w.2.2.2.1) sd rr.toNat).2 (rfM gh (w.2.2.2.1) sd rr.toNat).1) ∧ (z = 0 ∨ z = -3 ∨ z = -4) ∧ (lc.1 0 = 8 → z = 0 → ∃ R9 : Nat, rgY lc (rfM gh AI sd (lc.1 2).toNat).2 (rfM gh AI sd (lc.1 2).toNat).1 (rfM gh AI sd (lc.1 3).toNat).2 (rfM gh AI sd (lc.1 3).toNat).1 R9 (rfM gh (w.2.2.2.1) sd rr.toNat).2 (rfM gh (w.2.2.2.1) sd rr.toNat).1 ∧ (w.2.2.2.1) (gh 79 0) (16 * sd + rr).toNat = iI (R9 : Int)))) := sorry

end

section
/-! the reference: sides copied -/
def cpL (f f' : Nat → Int32) (N fm to k : Int) : Prop := (∀ q : Nat, (q : Int) < N * to ∨ N * to + k ≤ (q : Int) → f' q = f q) ∧ ∀ q : Nat, (q : Int) < k → f' ((N * to).toNat + q) = f ((N * fm).toNat + q)
theorem cpL_0 {f : Nat → Int32} {N fm to : Int} : cpL f f N fm to 0 := sorry
theorem cpL_s {f f' f2 : Nat → Int32} {N fm to k : Int} (h : cpL f f' N fm to k) (h0 : 0 ≤ k) (ht : 0 ≤ N * to) (hf : 0 ≤ N * fm) (hk : N * fm = N * to ∨ N * fm + k < N * to ∨ N * to + k ≤ N * fm) (e : ∀ j, j ≠ (N * to + k).toNat → f2 j = f' j) (e' : f2 (N * to + k).toNat = f' (N * fm + k).toNat) : cpL f f2 N fm to (k + 1) := sorry
def cpP (gh : gGh) (fm to : Int) (AI AI' : gI) : Prop := (∀ b, b ≠ gh 56 0 → b ≠ gh 57 0 → b ≠ gh 79 0 → AI' b = AI b) ∧ cpL (AI (gh 56 0)) (AI' (gh 56 0)) 11520 fm to 11520 ∧ cpL (AI (gh 57 0)) (AI' (gh 57 0)) 16 fm to 16 ∧ cpL (AI (gh 79 0)) (AI' (gh 79 0)) 16 fm to 16
theorem cp_to {gh : gGh} {fm to : Int} {AI AI' : gI} (h : cpP gh fm to AI AI') (h0 : 0 ≤ fm ∧ 0 ≤ to) {r : Nat} (hr : r < 16) : rfM gh AI' to r = rfM gh AI fm r := sorry
theorem cp_o {gh : gGh} {fm to sd : Int} {AI AI' : gI} (h : cpP gh fm to AI AI') (h0 : 0 ≤ fm ∧ 0 ≤ to) (hs : 0 ≤ sd) (hne : sd ≠ to) {r : Nat} (hr : r < 16) : rfM gh AI' sd r = rfM gh AI sd r := sorry
/-! the reference: a table with its changes -/
section Chm
variable {x b W W' : Nat → Int32} {n m i j nb : Nat} {rr z k' : Int} {t : Tup} {P : Tup → Prop} {S : Tup → Int32} {cn : Int32}
/-- the batch, read off three arrays -/
def rbE (T V C b : Nat → Int32) (nb : Nat) : Prop := ∀ i, i < nb → T i = b (6 * i) ∧ (∀ k, k < 4 → V (4 * i + k) = b (6 * i + 1 + k)) ∧ C i = b (6 * i + 5)
def gaX (f : Nat → Int32) (n : Nat) (P : Tup → Prop) (S : Tup → Int32) : Prop := isW f n P S zM ∧ ∀ t, S t ≠ 0 → P t
theorem gaX_R (h : gaX W n P S) : gaR W n S := sorry
theorem gaX_s (h0 : ∀ t, S t ≠ 0 → P t) (h : (z = 0 ∧ P t ∧ k' = (n : Int) ∧ isW W' n P (sAdd S t cn) zM) ∨ (z = 1 ∧ ¬ P t ∧ k' = (n : Int) + 1 ∧ isW W' (n + 1) (pAdd P t) (tUp S t cn) (tUp zM t (iI 0)))) : gaX W' k'.toNat (pAdd P t) (sAdd S t cn) := sorry
theorem gaX_q {P' : Tup → Prop} {S' : Tup → Int32} (h : gaX W n P S) (hP : ∀ t, P' t ↔ P t) (hS : ∀ t, S' t = S t) : gaX W n P' S' := sorry
def paX (x : Nat → Int32) (i : Nat) : Tup → Prop := fun t => ∃ q, q < i ∧ tup x q = t
def pbX (x : Nat → Int32) (n : Nat) (b : Nat → Int32) (rr : Int) (j : Nat) : Tup → Prop := fun t => paX x n t ∨ ∃ q, q < j ∧ (b (6 * q)).toInt = rr ∧ btu b q = t
def sbX (x : Nat → Int32) (n : Nat) (b : Nat → Int32) (rr : Int) (j : Nat) : Tup → Int32 := fun t => bS x n t + cS b rr j t
abbrev s1X (x : Nat → Int32) (i : Nat) : Tup → Int32 := sR id (fun _ a => a) x i s0T
theorem gx_0 : gaX W 0 (paX x 0) (s1X x 0) := sorry
theorem gx_1 (h : gaX W m (pAdd (paX x i) (tup x i)) (sAdd (s1X x i) (tup x i) (x (6 * i + 4)))) : gaX W m (paX x (i + 1)) (s1X x (i + 1)) := sorry
theorem gx_2 (hx : okB x n) (h : gaX W m (paX x n) (s1X x n)) : gaX W m (pbX x n b rr 0) (sbX x n b rr 0) := sorry
theorem gx_n (hn : (b (6 * j)).toInt ≠ rr) (h : gaX W m (pbX x n b rr j) (sbX x n b rr j)) : gaX W m (pbX x n b rr (j + 1)) (sbX x n b rr (j + 1)) := sorry
theorem gx_y (hb : btO b nb) (hj : j < nb) (hy : (b (6 * j)).toInt = rr) (h : gaX W m (pAdd (pbX x n b rr j) (btu b j)) (sAdd (sbX x n b rr j) (btu b j) (b (6 * j + 5)))) : gaX W m (pbX x n b rr (j + 1)) (sbX x n b rr (j + 1)) := sorry
/-- a table's count would be below 0 -/
def lowX (x : Nat → Int32) (n : Nat) (b : Nat → Int32) (rr : Int) (nb : Nat) : Prop := ∃ t, pbX x n b rr nb t ∧ (sbX x n b rr nb t).toInt < 0
theorem low_y (h : gaX W m (pbX x n b rr nb) (sbX x n b rr nb)) (hi : i < m) (hl : (W (6 * i + 4)).toInt < 0) : lowX x n b rr nb := sorry
theorem low_n (h : gaX W m (pbX x n b rr nb) (sbX x n b rr nb)) (hn : ∀ i : Nat, (i : Int) < (m : Int) → 0 ≤ (W (6 * i + 4)).toInt) : ¬ lowX x n b rr nb := sorry
theorem low_b {F : RF} (hb : btO b nb) (hF : ∀ t, 0 ≤ (bS (F rr.toNat).2 (F rr.toNat).1 t).toInt) (h0 : 0 ≤ rr) (h : lowX (F rr.toNat).2 (F rr.toNat).1 b rr nb) : ∃ i, i < nb ∧ blw b F 1 i := sorry
theorem low_f {F : RF} {tbs : Int} (hb : btO b nb) (htb : ∀ i, i < nb → 0 ≤ (b (6 * i)).toInt ∧ (b (6 * i)).toInt < tbs) (h : ∀ q : Nat, (q : Int) < tbs → ¬ lowX (F q).2 (F q).1 b (q : Int) nb) : ¬ ∃ i, i < nb ∧ blw b F 1 i := sorry
theorem sb_tb {F : RF} {r : Nat} : sbX (F r).2 (F r).1 b (r : Int) nb = tbS b nb F 1 r := sorry
end Chm


end

section
def rmX7_copiesf : Room := { frames := 0, cells := 0, slots := 0, locals := 0 }
set_option maxHeartbeats 4000000 in
set_option maxRecDepth 100000 in
/-- a side is copied -/
theorem c_X7_copiesf (l : Launch) (g : gG) (gh : gGh) (T : Nat → Int32) (I : gI) (R : gR) (J : gJ) (AI : gI) (AJ : gJ) (AR : gR) (mo : Nat) (fm : Int) (to : Int) (zfm : zr fm) (zto : zr to) (hv : mInv g gh R I AI) (hm : gO g mo 7) (hT : AI (gh 50 0) = T) (h0 : 0 ≤ fm ∧ fm ≤ 10 ∧ 0 ≤ to ∧ to ≤ 10) : gMet l g yX7_copies tsX7_copies rmX7_copiesf [.ref mo, .int (iI fm), .int (iI to)] (I, R, J, AI, AJ, AR) (gQv g (fun w : gS => I = w.1 ∧ R = w.2.1 ∧ J = w.2.2.1 ∧ AJ = w.2.2.2.2.1 ∧ AR = w.2.2.2.2.2 ∧ (mInv g gh R I (w.2.2.2.1)) ∧ ((w.2.2.2.1) (gh 50 0) = T) ∧ (cpP gh fm to AI (w.2.2.2.1)))) := sorry
def rmX7_tablesf : Room := { frames := 1, cells := 0, slots := 0, locals := 21 }
set_option maxHeartbeats 4000000 in
set_option maxRecDepth 100000 in
/-- how many tables -/
theorem c_X7_tablesf (l : Launch) (g : gG) (gh : gGh) (T : Nat → Int32) (I : gI) (R : gR) (J : gJ) (AI : gI) (AJ : gJ) (AR : gR) (mo : Nat) (hv : mInv g gh R I AI) (hm : gO g mo 7) (hT : AI (gh 50 0) = T) : gMet l g yX7_tables tsX7_tables rmX7_tablesf [.ref mo] (I, R, J, AI, AJ, AR) (gQi g (fun (z : Int) (w : gS) => I = w.1 ∧ R = w.2.1 ∧ J = w.2.2.1 ∧ AI = w.2.2.2.1 ∧ AJ = w.2.2.2.2.1 ∧ AR = w.2.2.2.2.2 ∧ (0 ≤ z ∧ z ≤ (I mo 2).toInt) ∧ (∀ r : Int, z ≤ r → r < (I mo 2).toInt → tI T (40 * r) ≠ 0) ∧ (∀ r : Int, 0 ≤ r → r < z → tI T (40 * r) = 0))) := sorry

end

section
def rmX7_changesOff : Room := { frames := 3, cells := 0, slots := 0, locals := 71 }
set_option maxHeartbeats 4000000 in
set_option maxRecDepth 100000 in
/-- a table with its changes -/
theorem c_X7_changesOff (l : Launch) (g : gG) (gh : gGh) (T : Nat → Int32) (na nb : Nat) (bxa bf : Nat → Int32) (I : gI) (R : gR) (J : gJ) (AI : gI) (AJ : gJ) (AR : gR) (mo : Nat) (sd : Int) (rr : Int) (zsd : zr sd) (zrr : zr rr) (hv : mInv g gh R I AI) (hm : gO g mo 7) (hT : AI (gh 50 0) = T) (hs : 0 ≤ sd ∧ sd ≤ 10) (hr0 : 0 ≤ rr ∧ rr ≤ 15) (hna : tI (AI (gh 57 0)) (16 * sd + rr) = (na : Int)) (hXa : ∀ q : Nat, q < 720 → AI (gh 56 0) ((11520 * sd + 720 * rr).toNat + q) = bxa q) (h120 : na ≤ 120) (hA : okB bxa na) (hnb : (I mo 14).toInt = (nb : Int)) (hbf : rbE (AI (gh 61 0)) (AI (gh 62 0)) (AI (gh 63 0)) bf nb) (hbt : btO bf nb) : gMet l g yX7_changesOf tsX7_changesOf rmX7_changesOff [.ref mo, .int (iI sd), .int (iI rr)] (I, R, J, AI, AJ, AR) (gQi g (fun (z : Int) (w : gS) => R = w.2.1 ∧ J = w.2.2.1 ∧ AJ = w.2.2.2.2.1 ∧ AR = w.2.2.2.2.2 ∧ (mInv g gh R (w.1) (w.2.2.2.1)) ∧ ((w.2.2.2.1) (gh 50 0) = T) ∧ (wF mo I (w.1)) ∧ (z = 0 ∨ z = 1) ∧ (∀ b, b ≠ gh 75 0 → b ≠ gh 77 0 → (w.2.2.2.1) b = AI b) ∧ (gaX ((w.2.2.2.1) (gh 75 0)) ((w.1) mo 26).toInt.toNat (pbX bxa na bf rr nb) (sbX bxa na bf rr nb)) ∧ (tIz z (lowX bxa na bf rr nb)))) := sorry

end

section
/-! the reference: the draft -/
theorem rfM_g {gh : gGh} {AI AI' : gI} {sd : Int} (h56 : AI' (gh 56 0) = AI (gh 56 0)) (h57 : AI' (gh 57 0) = AI (gh 57 0)) : rfM gh AI' sd = rfM gh AI sd := sorry
theorem tb_eq {T : Nat → Int32} {z tbs many : Int} (h1 : 0 ≤ z ∧ z ≤ many) (h2 : ∀ r : Int, z ≤ r → r < many → tI T (40 * r) ≠ 0) (h3 : ∀ r : Int, 0 ≤ r → r < z → tI T (40 * r) = 0) (h4 : 0 ≤ tbs ∧ tbs ≤ many) (h5 : ∀ r : Int, 0 ≤ r → r < tbs → tI T (40 * r) = 0) (h6 : ∀ r : Int, tbs ≤ r → r < many → tI T (40 * r) ≠ 0) : z = tbs := sorry
/-- the plan, as the reference has it -/
def plM9 (T : Nat → Int32) (tbs : Int) (nr : Nat) (cc : Nat → LC) (cl : Nat → Int) : Prop := (0 ≤ tbs ∧ tbs ≤ (nr : Int)) ∧ (∀ r : Int, 0 ≤ r → r < tbs → tI T (40 * r) = 0) ∧ ∀ r : Nat, r < nr → tbs ≤ (r : Int) → lnM T (r : Int) (cc r) ∧ cOK (cc r) r cl ∧ cZ (cc r) r cl
theorem pl_6 {T : Nat → Int32} {tbs many : Int} {nr : Nat} {cc : Nat → LC} {cl : Nat → Int} (h : plM9 T tbs nr cc cl) (hm : many = (nr : Int)) : ∀ r : Int, tbs ≤ r → r < many → tI T (40 * r) ≠ 0 := sorry
/-- the batch, as the reference has it -/
def btM9 (gh : gGh) (AI : gI) (bf : Nat → Int32) (nb : Nat) (tbs : Int) (cl : Nat → Int) : Prop := rbE (AI (gh 61 0)) (AI (gh 62 0)) (AI (gh 63 0)) bf nb ∧ btO bf nb ∧ btZ cl bf nb ∧ ∀ i, i < nb → 0 ≤ (bf (6 * i)).toInt ∧ (bf (6 * i)).toInt < tbs
/-- sides ahead of the draft are as they were -/
def sdK (gh : gGh) (AI AI' : gI) : Prop := (∀ q : Nat, q < 115200 → AI' (gh 56 0) q = AI (gh 56 0) q) ∧ ∀ j : Nat, j < 160 → AI' (gh 57 0) j = AI (gh 57 0) j ∧ AI' (gh 79 0) j = AI (gh 79 0) j
def noZ (gh : gGh) (AI AI' : gI) : Prop := ∀ b, b ≠ gh 56 0 → b ≠ gh 57 0 → b ≠ gh 75 0 → b ≠ gh 77 0 → b ≠ gh 78 0 → b ≠ gh 79 0 → b ≠ gh 80 0 → AI' b = AI b
/-- the rounds of rings -/
def rdA (tbs : Int) (cc : Nat → LC) (F : RF) (RM : Nat → Int32) (k : Nat) : Prop := ∀ q : Nat, q < k → tbs ≤ (q : Int) → (cc q).1 0 = 8 → ∃ R9 : Nat, rgY (cc q) (F ((cc q).1 2).toNat).2 (F ((cc q).1 2).toNat).1 (F ((cc q).1 3).toNat).2 (F ((cc q).1 3).toNat).1 R9 (F q).2 (F q).1 ∧ RM q = iI (R9 : Int)
section Drm
variable {gh : gGh} {AI A1 AI' AI2 : gI} {sd rr k z tbs : Int} {n m nr nb r : Nat} {cc : Nat → LC} {cl : Nat → Int} {bf : Nat → Int32} {S : Tup → Int32} {F F' F0 : RF} {RM RM' : Nat → Int32}
theorem sdK_r : sdK gh AI AI := sorry
theorem sdK_k (h : sdK gh AI AI') (q : rkM gh 10 rr AI' AI2) (h0 : 0 ≤ rr) : sdK gh AI AI2 := sorry
theorem noZ_r : noZ gh AI AI := sorry
theorem noZ_k (h : noZ gh AI AI') (q : rkM gh sd rr AI' AI2) : noZ gh AI AI2 := sorry
theorem sdK_c (h : cpP gh 0 10 AI A1) : sdK gh AI A1 := sorry
theorem noZ_c (h : cpP gh 0 10 AI A1) : noZ gh AI A1 := sorry
theorem noZ_t (h : noZ gh AI AI') (q : noZ gh AI' AI2) : noZ gh AI AI2 := sorry
/-- a table laid -/
theorem lay_t (h0 : 0 ≤ rr) (h1 : tI (AI' (gh 57 0)) (16 * sd + rr) ≤ 120) (hn : 0 ≤ k) (h : gaR (AI (gh 75 0)) k.toNat S) (hl : lyP gh sd rr k AI AI' z) : (z = 0 ∧ isB (rfM gh AI' sd rr.toNat).2 (rfM gh AI' sd rr.toNat).1 S zM ∧ (rfM gh AI' sd rr.toNat).1 ≤ 120) ∨ (z = -3 ∧ bigP 120 (fun t => S t ≠ 0)) := sorry
theorem rd_up (hl : cLt tbs nr cc) (hk : r ≤ nr) (e : ∀ q, q < r → F' q = F q) (eR : ∀ q, q < r → RM' q = RM q) (h : rdA tbs cc F RM r) : rdA tbs cc F' RM' r := sorry
theorem rd_s (h : rdA tbs cc F RM r) (hn : tbs ≤ (r : Int) → (cc r).1 0 = 8 → ∃ R9 : Nat, rgY (cc r) (F ((cc r).1 2).toNat).2 (F ((cc r).1 2).toNat).1 (F ((cc r).1 3).toNat).2 (F ((cc r).1 3).toNat).1 R9 (F r).2 (F r).1 ∧ RM r = iI (R9 : Int)) : rdA tbs cc F RM (r + 1) := sorry
/-- the draft up to relation r -/
def drS (gh : gGh) (AI : gI) (tbs : Int) (nr : Nat) (cc : Nat → LC) (cl : Nat → Int) (bf : Nat → Int32) (nb : Nat) (AI' : gI) (r : Nat) : Prop :=
  sdK gh AI AI' ∧ noZ gh AI AI' ∧ stA tbs cc (tbS bf nb (rfM gh AI 0) 1) cl (rfM gh AI' 10) r ∧ (∀ q : Nat, r ≤ q → q < 16 → rfM gh AI' 10 q = rfM gh AI 0 q) ∧ rdA tbs cc (rfM gh AI' 10) (fun q => AI' (gh 79 0) (160 + q)) r
theorem dr_0 (hs : sdK gh AI AI') (hz : noZ gh AI AI') (h : ∀ q : Nat, q < 16 → rfM gh AI' 10 q = rfM gh AI 0 q) : drS gh AI tbs nr cc cl bf nb AI' 0 := sorry
/-- what a step keeps -/
theorem dr_k (hl : cLt tbs nr cc) (hr : r < nr) (h16 : nr ≤ 16) (h : drS gh AI tbs nr cc cl bf nb AI' r) (q : rkM gh 10 (r : Int) AI' AI2) :
    sdK gh AI AI2 ∧ noZ gh AI AI2 ∧ stA tbs cc (tbS bf nb (rfM gh AI 0) 1) cl (rfM gh AI2 10) r ∧ (∀ p : Nat, r + 1 ≤ p → p < 16 → rfM gh AI2 10 p = rfM gh AI 0 p) ∧ rdA tbs cc (rfM gh AI2 10) (fun q => AI2 (gh 79 0) (160 + q)) r ∧ ∀ p, p < r → rfM gh AI2 10 p = rfM gh AI' 10 p := sorry
theorem dr_t (hl : cLt tbs nr cc) (hr : r < nr) (h16 : nr ≤ 16) (ht : (r : Int) < tbs) (h : drS gh AI tbs nr cc cl bf nb AI' r) (q : rkM gh 10 (r : Int) AI' AI2) (hF : zB (cl r) (rfM gh AI 0 r).2 (rfM gh AI 0 r).1) (hz : btZ cl bf nb)
    (hB : isB (rfM gh AI2 10 r).2 (rfM gh AI2 10 r).1 (tbS bf nb (rfM gh AI 0) 1 r) zM) (hm : (rfM gh AI2 10 r).1 ≤ 120) : drS gh AI tbs nr cc cl bf nb AI2 (r + 1) := sorry
theorem dr_v (hl : cLt tbs nr cc) (hr : r < nr) (h16 : nr ≤ 16) (ht : tbs ≤ (r : Int)) (hc : cOK (cc r) r cl ∧ cZ (cc r) r cl) (h : drS gh AI tbs nr cc cl bf nb AI' r) (q : rkM gh 10 (r : Int) AI' AI2)
    (hv : vwP (cc r) (rfM gh AI' 10) 0 (rfM gh AI2 10 r).2 (rfM gh AI2 10 r).1) (hR : (cc r).1 0 = 8 → ∃ R9 : Nat, rgY (cc r) (rfM gh AI' 10 ((cc r).1 2).toNat).2 (rfM gh AI' 10 ((cc r).1 2).toNat).1 (rfM gh AI' 10 ((cc r).1 3).toNat).2 (rfM gh AI' 10 ((cc r).1 3).toNat).1 R9 (rfM gh AI2 10 r).2 (rfM gh AI2 10 r).1 ∧ AI2 (gh 79 0) (160 + r) = iI (R9 : Int)) : drS gh AI tbs nr cc cl bf nb AI2 (r + 1) := sorry
/-- what drafts answers and leaves -/
def drP (gh : gGh) (AI : gI) (tbs : Int) (nr : Nat) (cc : Nat → LC) (cl : Nat → Int) (bf : Nat → Int32) (nb : Nat) (z : Int) (AI' : gI) : Prop :=
  sdK gh AI AI' ∧ noZ gh AI AI' ∧ rnP tbs nr cc (∃ i, i < nb ∧ blw bf (rfM gh AI 0) 1 i) (tbS bf nb (rfM gh AI 0) 1) z (rfM gh AI' 10) ∧ (z = 0 → stA tbs cc (tbS bf nb (rfM gh AI 0) 1) cl (rfM gh AI' 10) nr ∧ rdA tbs cc (rfM gh AI' 10) (fun q => AI' (gh 79 0) (160 + q)) nr) ∧ (z = 0 ∨ z = -2 ∨ z = -3 ∨ z = -4)
theorem dr_low (hs : sdK gh AI AI') (hz : noZ gh AI AI') (h : ∃ i, i < nb ∧ blw bf (rfM gh AI 0) 1 i) : drP gh AI tbs nr cc cl bf nb (-2) AI' := sorry
theorem dr_end (h : drS gh AI tbs nr cc cl bf nb AI' nr) (hb : ¬ ∃ i, i < nb ∧ blw bf (rfM gh AI 0) 1 i) : drP gh AI tbs nr cc cl bf nb 0 AI' := sorry
theorem dr_tm (hl : cLt tbs nr cc) (hr : r < nr) (h16 : nr ≤ 16) (ht : (r : Int) < tbs) (h : drS gh AI tbs nr cc cl bf nb AI' r) (q : rkM gh 10 (r : Int) AI' AI2) (hb : ¬ ∃ i, i < nb ∧ blw bf (rfM gh AI 0) 1 i) (hB : bigP 120 (fun t => tbS bf nb (rfM gh AI 0) 1 r t ≠ 0)) : drP gh AI tbs nr cc cl bf nb (-3) AI2 := sorry
theorem dr_vm (hl : cLt tbs nr cc) (hr : r < nr) (h16 : nr ≤ 16) (ht : tbs ≤ (r : Int)) (hc : cOK (cc r) r cl) (h : drS gh AI tbs nr cc cl bf nb AI' r) (q : rkM gh 10 (r : Int) AI' AI2) (hb : ¬ ∃ i, i < nb ∧ blw bf (rfM gh AI 0) 1 i) (hz : z = 0 ∨ z = -3 ∨ z = -4) (hz0 : z ≠ 0)
    (hv : vwP (cc r) (rfM gh AI' 10) z (rfM gh AI2 10 r).2 (rfM gh AI2 10 r).1) : drP gh AI tbs nr cc cl bf nb z AI2 := sorry
end Drm


end

section
def rmX7_draftsf : Room := { frames := 6, cells := 0, slots := 0, locals := 159 }
set_option maxHeartbeats 4000000 in
set_option maxRecDepth 100000 in
/-- the draft -/
theorem c_X7_draftsf (l : Launch) (g : gG) (gh : gGh) (T : Nat → Int32) (tbs : Int) (nr nb : Nat) (cc : Nat → LC) (cl : Nat → Int) (bf : Nat → Int32) (I : gI) (R : gR) (J : gJ) (AI : gI) (AJ : gJ) (AR : gR) (mo : Nat) (hv : mInv g gh R I AI) (hm : gO g mo 7) (hT : AI (gh 50 0) = T) (hmr : (I mo 2).toInt = (nr : Int)) (hpl : plM9 T tbs nr cc cl) (hnb : (I mo 14).toInt = (nb : Int)) (hbm : btM9 gh AI bf nb tbs cl) (hbg : ∀ r : Nat, r < nr → bgOK (rfM gh AI 0) cl r) (hps : ∀ r : Nat, (r : Int) < tbs → ∀ t, 0 ≤ (bS (rfM gh AI 0 r).2 (rfM gh AI 0 r).1 t).toInt) : gMet l g yX7_drafts tsX7_drafts rmX7_draftsf [.ref mo] (I, R, J, AI, AJ, AR) (gQi g (fun (z : Int) (w : gS) => R = w.2.1 ∧ J = w.2.2.1 ∧ AJ = w.2.2.2.2.1 ∧ AR = w.2.2.2.2.2 ∧ (mInv g gh R (w.1) (w.2.2.2.1)) ∧ ((w.2.2.2.1) (gh 50 0) = T) ∧ (wF mo I (w.1)) ∧ (drP gh AI tbs nr cc cl bf nb z (w.2.2.2.1)))) := sorry

end

section
/-! the reference: what moved -/
/-- rows of five as rows of six -/
def w65 (f : Nat → Int32) : Nat → Int32 := fun q => if q % 6 = 5 then 0 else f (5 * (q / 6) + q % 6)
theorem w65_k {f : Nat → Int32} {i k : Nat} (hk : k < 5) : w65 f (6 * i + k) = f (5 * i + k) := sorry
theorem w65_5 {f : Nat → Int32} {i : Nat} : w65 f (6 * i + 5) = 0 := sorry
theorem w65_i {f f' : Nat → Int32} {n : Nat} {t : Tup} {c : Int32} (h1 : ∀ q : Nat, q < 5 * n → f' q = f q) (h2 : ∀ j : Nat, j < 4 → f' (5 * n + j) = tg t j) (h3 : f' (5 * n + 4) = c) : insW (w65 f) (w65 f') n n t c 0 := sorry
theorem rk_tu {f : Nat → Int32} {z : Int} {t : Tup} (h : ∀ k, k < 4 → f (z.toNat + k) = tg t k) : ∀ k, k < 4 → rk f z k = tu t k := sorry
def mvS (x : Nat → Int32) (n : Nat) (y : Nat → Int32) (m : Nat) : Tup → Int32 := fun t => bS x n t + iI (-1) * bS y m t
section Mvm
variable {x y f f' : Nat → Int32} {n m k : Nat} {i j is t1 t2 by9 : Int} {xa yb : Int32} {t : Tup} {S : Tup → Int32}
/-- which head is less: of y (ahead) at i, of x (now) at j -/
def mvC (x : Nat → Int32) (n : Nat) (y : Nat → Int32) (m : Nat) (i j is : Int) : Prop := ((m : Int) ≤ i ∧ is = 1) ∨ (i < (m : Int) ∧ (n : Int) ≤ j ∧ is = -1) ∨ (i < (m : Int) ∧ j < (n : Int) ∧ is = tc (tup y i.toNat) (tup x j.toNat))
def tyP (p : Prop) (v : Int) (a : Int32) : Prop := (p ∧ iI v = a) ∨ (¬ p ∧ iI v = 0)
theorem tyP_y {p : Prop} {v : Int} {a : Int32} (h : tyP p v a) (hp : p) : iI v = a := sorry
theorem tyP_n {p : Prop} {v : Int} {a : Int32} (h : tyP p v a) (hp : ¬ p) : iI v = 0 := sorry
def mvJ (is j : Int) : Int := if 0 ≤ is then j + 1 else j
def mvI (is i : Int) : Int := if is ≤ 0 then i + 1 else i
theorem mv_hd (hA : okB x n) (hB : okB y m) (h0 : 0 ≤ i ∧ 0 ≤ j) (hr : -1 ≤ is ∧ is ≤ 1) (hor : i < (m : Int) ∨ j < (n : Int)) (hc : mvC x n y m i j is) (h1 : tyP (0 ≤ is) t1 (x (6 * j.toNat + 4))) (h2 : tyP (is ≤ 0) t2 (y (6 * i.toNat + 4))) (e : iI by9 = iI (t1 - t2)) (hg : gaI x y f n m j.toNat i.toNat k (mvS x n y m)) :
    ∃ t, gaT x y n m j.toNat i.toNat (mvJ is j).toNat (mvI is i).toNat t ∧ mvS x n y m t = iI by9 ∧ (is ≤ 0 → t = tup y i.toNat) ∧ (0 < is → t = tup x j.toNat) := sorry
end Mvm


end

section
def rmX7_laysMovedf : Room := { frames := 1, cells := 0, slots := 0, locals := 24 }
set_option maxHeartbeats 4000000 in
set_option maxRecDepth 100000 in
/-- what moved -/
theorem c_X7_laysMovedf (l : Launch) (g : gG) (gh : gGh) (T : Nat → Int32) (na my : Nat) (bxa bxb : Nat → Int32) (I : gI) (R : gR) (J : gJ) (AI : gI) (AJ : gJ) (AR : gR) (mo : Nat) (rr : Int) (zrr : zr rr) (hv : mInv g gh R I AI) (hm : gO g mo 7) (hT : AI (gh 50 0) = T) (hr0 : 0 ≤ rr ∧ rr ≤ 15) (hna : tI (AI (gh 57 0)) (16 * 0 + rr) = (na : Int)) (hXa : ∀ q : Nat, q < 720 → AI (gh 56 0) ((11520 * 0 + 720 * rr).toNat + q) = bxa q) (hnb : tI (AI (gh 57 0)) (16 * 9 + rr) = (my : Int)) (hXb : ∀ q : Nat, q < 720 → AI (gh 56 0) ((11520 * 9 + 720 * rr).toNat + q) = bxb q) (hA : okB bxa na) (hB : okB bxb my) (h120 : na ≤ 120 ∧ my ≤ 120) : gMet l g yX7_laysMoved tsX7_laysMoved rmX7_laysMovedf [.ref mo, .int (iI rr)] (I, R, J, AI, AJ, AR) (gQi g (fun (z : Int) (w : gS) => I = w.1 ∧ R = w.2.1 ∧ J = w.2.2.1 ∧ AJ = w.2.2.2.2.1 ∧ AR = w.2.2.2.2.2 ∧ (mInv g gh R I (w.2.2.2.1)) ∧ ((w.2.2.2.1) (gh 50 0) = T) ∧ ((w.2.2.2.1) (gh 57 0) = AI (gh 57 0)) ∧ (0 ≤ z ∧ z ≤ 240) ∧ (∀ b, b ≠ gh 81 0 → (w.2.2.2.1) b = AI b) ∧ (isB (w65 ((w.2.2.2.1) (gh 81 0))) z.toNat (mvS bxa na bxb my) zM))) := sorry

end

section
/-! the reference: sizes by sums, sides with rounds -/
noncomputable def bgN (S : Tup → Int32) : Nat := @dite _ (∃ m f, isB f m S zM) (Classical.propDecidable _) (fun h => h.choose) (fun _ => 0)
theorem bgN_e {f : Nat → Int32} {m : Nat} {S : Tup → Int32} (h : isB f m S zM) : bgN S = m := sorry
def rsM (gh : gGh) (AI : gI) (sd : Int) (r : Nat) : (Nat × (Nat → Int32)) × Int32 := (rfM gh AI sd r, AI (gh 79 0) (16 * sd + (r : Int)).toNat)
def mvF (gh : gGh) (AI : gI) (r : Nat) : Tup → Int32 := mvS (rfM gh AI 0 r).2 (rfM gh AI 0 r).1 (rfM gh AI 9 r).2 (rfM gh AI 9 r).1
section Cmm
variable {gh : gGh} {AI AI' AI2 A1 : gI} {fm to sd u a : Int} {r n : Nat} {f : Nat → Int32}
theorem cps_to (h : cpP gh fm to AI AI') (h0 : 0 ≤ fm ∧ 0 ≤ to) (hr : r < 16) : rsM gh AI' to r = rsM gh AI fm r := sorry
theorem cps_o (h : cpP gh fm to AI AI') (h0 : 0 ≤ fm ∧ 0 ≤ to) (hs : 0 ≤ sd) (hne : sd ≠ to) (hr : r < 16) : rsM gh AI' sd r = rsM gh AI sd r := sorry
theorem rs_rf (h : rsM gh AI' fm r = rsM gh AI sd r) : rfM gh AI' fm r = rfM gh AI sd r := sorry
theorem rs_79 (h : rsM gh AI' fm r = rsM gh AI sd r) : AI' (gh 79 0) (16 * fm + (r : Int)).toNat = AI (gh 79 0) (16 * sd + (r : Int)).toNat := sorry
theorem rsM_k (h : sdK gh AI AI') (h0 : 0 ≤ sd ∧ sd ≤ 9) (hr : r < 16) : rsM gh AI' sd r = rsM gh AI sd r := sorry
theorem rsM_g (h56 : AI' (gh 56 0) = AI (gh 56 0)) (h57 : AI' (gh 57 0) = AI (gh 57 0)) (h79 : AI' (gh 79 0) = AI (gh 79 0)) : rsM gh AI' sd = rsM gh AI sd := sorry
/-- the steps to undo, as a new one comes -/
def bkP (gh : gGh) (AI AI' : gI) (u u' : Int) : Prop :=
  (u < 8 ∧ u' = u + 1 ∧ (∀ j : Int, 0 ≤ j → j < u → ∀ r : Nat, r < 16 → rsM gh AI' (1 + j) r = rsM gh AI (1 + j) r) ∧ ∀ r : Nat, r < 16 → rsM gh AI' (1 + u) r = rsM gh AI 0 r) ∨
  (u = 8 ∧ u' = 8 ∧ (∀ j : Int, 0 ≤ j → j < 7 → ∀ r : Nat, r < 16 → rsM gh AI' (1 + j) r = rsM gh AI (2 + j) r) ∧ ∀ r : Nat, r < 16 → rsM gh AI' 8 r = rsM gh AI 0 r)
/-- moved down by one so far -/
def bkI (gh : gGh) (AI AI' : gI) (k : Int) : Prop := (∀ j : Int, 0 ≤ j → j < k - 1 → ∀ r : Nat, r < 16 → rsM gh AI' (1 + j) r = rsM gh AI (2 + j) r) ∧ (∀ sd : Int, sd = 0 ∨ sd = 9 ∨ sd = 10 ∨ (k ≤ sd ∧ sd ≤ 8) → ∀ r : Nat, r < 16 → rsM gh AI' sd r = rsM gh AI sd r) ∧ ∀ b, b ≠ gh 56 0 → b ≠ gh 57 0 → b ≠ gh 79 0 → AI' b = AI b
theorem bkI_1 : bkI gh AI AI 1 := sorry
theorem bkI_s {k : Int} (h : bkI gh AI AI' k) (h1 : 1 ≤ k ∧ k < 8) (q : cpP gh fm to AI' AI2) (e1 : fm = 1 + k) (e2 : to = k) : bkI gh AI AI2 (k + 1) := sorry
/-- what commit leaves of the sides -/
def cmM (gh : gGh) (AI A1 AI' : gI) (u u' : Int) : Prop := (∀ r : Nat, r < 16 → rsM gh AI' 0 r = rsM gh A1 10 r) ∧ (∀ r : Nat, r < 16 → rsM gh AI' 9 r = rsM gh AI 0 r) ∧ bkP gh AI AI' u u'
theorem cm_a {B1 B2 B3 : gI} (hu : 0 ≤ u ∧ u < 8) (hk : sdK gh AI A1) (q1 : cpP gh 0 (1 + u) A1 B1) (q2 : cpP gh 0 9 B1 B2) (q3 : cpP gh 10 0 B2 B3) : cmM gh AI A1 B3 u (u + 1) := sorry
theorem cm_b {B0 B1 B2 B3 : gI} (hk : sdK gh AI A1) (q0 : bkI gh A1 B0 8) (q1 : cpP gh 0 8 B0 B1) (q2 : cpP gh 0 9 B1 B2) (q3 : cpP gh 10 0 B2 B3) : cmM gh AI A1 B3 8 8 := sorry
theorem noZ_cp (h : noZ gh AI AI') (q : cpP gh fm to AI' AI2) : noZ gh AI AI2 := sorry
theorem noZ_bk {k : Int} (h : noZ gh AI AI') (q : bkI gh AI' AI2 k) : noZ gh AI AI2 := sorry
/-- what undo leaves of the sides -/
def unM (gh : gGh) (AI AI' : gI) (u' : Int) : Prop := (∀ r : Nat, r < 16 → rsM gh AI' 0 r = rsM gh AI (1 + u') r) ∧ (∀ r : Nat, r < 16 → rsM gh AI' 9 r = rsM gh AI 0 r) ∧ (∀ sd : Int, 1 ≤ sd → sd ≤ 8 → ∀ r : Nat, r < 16 → rsM gh AI' sd r = rsM gh AI sd r) ∧ ∀ b, b ≠ gh 56 0 → b ≠ gh 57 0 → b ≠ gh 79 0 → AI' b = AI b
theorem un_m {B1 B2 : gI} (hu : 0 ≤ u ∧ u < 8) (q1 : cpP gh 0 9 AI B1) (q2 : cpP gh (1 + u) 0 B1 B2) : unM gh AI B2 u := sorry
end Cmm
section Cmm2
variable {gh : gGh} {AI AI' AI2 A1 B0 B1 B2 B3 : gI} {u u' tbs n k : Int} {nr : Nat} {f : Nat → Int}
def noY (gh : gGh) (AI AI' : gI) : Prop := ∀ b, b ≠ gh 56 0 → b ≠ gh 57 0 → b ≠ gh 75 0 → b ≠ gh 77 0 → b ≠ gh 78 0 → b ≠ gh 79 0 → b ≠ gh 80 0 → b ≠ gh 81 0 → AI' b = AI b
theorem noY_z (h : noZ gh AI AI') (q : ∀ b, b ≠ gh 81 0 → AI2 b = AI' b) : noY gh AI AI2 := sorry
def bkU (gh : gGh) (A1 B : gI) (u u' : Int) : Prop := (u < 8 ∧ u' = u ∧ B = A1) ∨ (u = 8 ∧ u' = 7 ∧ bkI gh A1 B 8)
theorem cm_all (hk : sdK gh AI A1) (hb : bkU gh A1 B0 u u') (h0 : 0 ≤ u) (q1 : cpP gh 0 (1 + u') B0 B1) (q2 : cpP gh 0 9 B1 B2) (q3 : cpP gh 10 0 B2 B3) : cmM gh AI A1 B3 u (u' + 1) := sorry
theorem cmM_g (h : cmM gh AI A1 AI' u u') (h56 : AI2 (gh 56 0) = AI' (gh 56 0)) (h57 : AI2 (gh 57 0) = AI' (gh 57 0)) (h79 : AI2 (gh 79 0) = AI' (gh 79 0)) : cmM gh AI A1 AI2 u u' := sorry
theorem noZ_bu (h : noZ gh AI A1) (hb : bkU gh A1 B0 u u') : noZ gh AI B0 := sorry
theorem smL_s (h0 : 0 ≤ tbs) (hk : tbs ≤ k) (e : n = smL f tbs.toNat (k - tbs).toNat) : n + f k.toNat = smL f tbs.toNat (k + 1 - tbs).toNat := sorry
end Cmm2


end

section
def rmX7_movedInViewsf : Room := { frames := 2, cells := 0, slots := 0, locals := 54 }
set_option maxHeartbeats 4000000 in
set_option maxRecDepth 100000 in
/-- moved in views -/
theorem c_X7_movedInViewsf (l : Launch) (g : gG) (gh : gGh) (T : Nat → Int32) (tbs : Int) (nr : Nat) (cc : Nat → LC) (cl : Nat → Int) (I : gI) (R : gR) (J : gJ) (AI : gI) (AJ : gJ) (AR : gR) (mo : Nat) (hv : mInv g gh R I AI) (hm : gO g mo 7) (hT : AI (gh 50 0) = T) (hmr : (I mo 2).toInt = (nr : Int)) (hpl : plM9 T tbs nr cc cl) (hbg : ∀ r : Nat, r < nr → bgOK (rfM gh AI 0) cl r) (hb9 : ∀ r : Nat, r < nr → bgOK (rfM gh AI 9) cl r) : gMet l g yX7_movedInViews tsX7_movedInViews rmX7_movedInViewsf [.ref mo] (I, R, J, AI, AJ, AR) (gQi g (fun (z : Int) (w : gS) => I = w.1 ∧ R = w.2.1 ∧ J = w.2.2.1 ∧ AJ = w.2.2.2.2.1 ∧ AR = w.2.2.2.2.2 ∧ (mInv g gh R I (w.2.2.2.1)) ∧ ((w.2.2.2.1) (gh 50 0) = T) ∧ (∀ b, b ≠ gh 81 0 → (w.2.2.2.1) b = AI b) ∧ (z = smL (fun r => ((bgN (mvF gh AI r) : Nat) : Int)) tbs.toNat (nr - tbs.toNat)))) := sorry
def rmX7_cameTof : Room := { frames := 2, cells := 0, slots := 0, locals := 54 }
set_option maxHeartbeats 4000000 in
set_option maxRecDepth 100000 in
/-- what came -/
theorem c_X7_cameTof (l : Launch) (g : gG) (gh : gGh) (T : Nat → Int32) (lc : LC) (nr : Nat) (cl : Nat → Int) (I : gI) (R : gR) (J : gJ) (AI : gI) (AJ : gJ) (AR : gR) (mo : Nat) (rr : Int) (zrr : zr rr) (hv : mInv g gh R I AI) (hm : gO g mo 7) (hT : AI (gh 50 0) = T) (hr0 : 0 ≤ rr ∧ rr < (I mo 2).toInt) (hk0 : tI T (40 * rr) ≠ 0) (hmr : (I mo 2).toInt = (nr : Int)) (hlm : lnM T rr lc) (hcK : cOK lc rr.toNat cl) (hbg : ∀ r : Nat, r < nr → bgOK (rfM gh AI 0) cl r) (hb9 : ∀ r : Nat, r < nr → bgOK (rfM gh AI 9) cl r) : gMet l g yX7_cameTo tsX7_cameTo rmX7_cameTof [.ref mo, .int (iI rr)] (I, R, J, AI, AJ, AR) (gQi g (fun (z : Int) (w : gS) => I = w.1 ∧ R = w.2.1 ∧ J = w.2.2.1 ∧ AJ = w.2.2.2.2.1 ∧ AR = w.2.2.2.2.2 ∧ (mInv g gh R I (w.2.2.2.1)) ∧ ((w.2.2.2.1) (gh 50 0) = T) ∧ (0 ≤ z ∧ z ≤ 480) ∧ (∀ b, b ≠ gh 81 0 → (w.2.2.2.1) b = AI b) ∧ (z = ((bgN (mvF gh AI (lc.1 2).toNat) : Nat) : Int) + (if lc.1 3 < 0 then 0 else ((bgN (mvF gh AI (lc.1 3).toNat) : Nat) : Int))))) := sorry

end

section
def rmX7_commitf : Room := { frames := 7, cells := 0, slots := 0, locals := 182 }
set_option maxHeartbeats 4000000 in
set_option maxRecDepth 100000 in
/-- commit -/
theorem c_X7_commitf (l : Launch) (g : gG) (gh : gGh) (T : Nat → Int32) (tbs : Int) (nr nb : Nat) (cc : Nat → LC) (cl : Nat → Int) (bf : Nat → Int32) (I : gI) (R : gR) (J : gJ) (AI : gI) (AJ : gJ) (AR : gR) (mo : Nat) (hv : mInv g gh R I AI) (hm : gO g mo 7) (hT : AI (gh 50 0) = T) (hmr : (I mo 2).toInt = (nr : Int)) (hpl : plM9 T tbs nr cc cl) (hnb : (I mo 14).toInt = (nb : Int)) (hbm : btM9 gh AI bf nb tbs cl) (hbg : ∀ r : Nat, r < nr → bgOK (rfM gh AI 0) cl r) (hps : ∀ r : Nat, (r : Int) < tbs → ∀ t, 0 ≤ (bS (rfM gh AI 0 r).2 (rfM gh AI 0 r).1 t).toInt) : gMet l g yX7_commit tsX7_commit rmX7_commitf [.ref mo] (I, R, J, AI, AJ, AR) (gQi g (fun (z : Int) (w : gS) => R = w.2.1 ∧ J = w.2.2.1 ∧ AJ = w.2.2.2.2.1 ∧ AR = w.2.2.2.2.2 ∧ (mInv g gh R (w.1) (w.2.2.2.1)) ∧ ((w.2.2.2.1) (gh 50 0) = T) ∧ (mF mo I (w.1)) ∧ (((w.1) mo 14).toInt = 0) ∧ ((z < 0 ∧ drP gh AI tbs nr cc cl bf nb z (w.2.2.2.1) ∧ (w.1) mo 8 = I mo 8 ∧ (w.1) mo 9 = I mo 9 ∧ (w.1) mo 10 = I mo 10 + 1) ∨ (∃ A1 : gI, drP gh AI tbs nr cc cl bf nb 0 A1 ∧ cmM gh AI A1 (w.2.2.2.1) (I mo 8).toInt ((w.1) mo 8).toInt ∧ (w.1) mo 9 = I mo 9 + 1 ∧ (w.1) mo 10 = I mo 10 ∧ noY gh AI (w.2.2.2.1) ∧ z = smL (fun r => ((bgN (mvF gh (w.2.2.2.1) r) : Nat) : Int)) tbs.toNat (nr - tbs.toNat))))) := sorry
def rmX7_wouldf : Room := { frames := 7, cells := 0, slots := 0, locals := 182 }
set_option maxHeartbeats 4000000 in
set_option maxRecDepth 100000 in
/-- would -/
theorem c_X7_wouldf (l : Launch) (g : gG) (gh : gGh) (T : Nat → Int32) (tbs : Int) (nr nb : Nat) (cc : Nat → LC) (cl : Nat → Int) (bf : Nat → Int32) (I : gI) (R : gR) (J : gJ) (AI : gI) (AJ : gJ) (AR : gR) (mo : Nat) (rr : Int) (zrr : zr rr) (hv : mInv g gh R I AI) (hm : gO g mo 7) (hT : AI (gh 50 0) = T) (hmr : (I mo 2).toInt = (nr : Int)) (hpl : plM9 T tbs nr cc cl) (hnb : (I mo 14).toInt = (nb : Int)) (hbm : btM9 gh AI bf nb tbs cl) (hbg : ∀ r : Nat, r < nr → bgOK (rfM gh AI 0) cl r) (hps : ∀ r : Nat, (r : Int) < tbs → ∀ t, 0 ≤ (bS (rfM gh AI 0 r).2 (rfM gh AI 0 r).1 t).toInt) : gMet l g yX7_would tsX7_would rmX7_wouldf [.ref mo, .int (iI rr)] (I, R, J, AI, AJ, AR) (gQi g (fun (z : Int) (w : gS) => R = w.2.1 ∧ J = w.2.2.1 ∧ AJ = w.2.2.2.2.1 ∧ AR = w.2.2.2.2.2 ∧ (mInv g gh R (w.1) (w.2.2.2.1)) ∧ ((w.2.2.2.1) (gh 50 0) = T) ∧ (nF mo I (w.1)) ∧ (((rr < 0 ∨ (nr : Int) ≤ rr) ∧ z = -1 ∧ (w.2.2.2.1) = AI) ∨ (0 ≤ rr ∧ rr < (nr : Int) ∧ ∃ code : Int, drP gh AI tbs nr cc cl bf nb code (w.2.2.2.1) ∧ ((code = 0 ∧ z = (((rfM gh (w.2.2.2.1) 10 rr.toNat).1 : Nat) : Int)) ∨ (code ≠ 0 ∧ z = code)))) ∧ ((w.1) mo 8 = I mo 8 ∧ (w.1) mo 9 = I mo 9 ∧ (w.1) mo 10 = I mo 10))) := sorry
def rmX7_undof : Room := { frames := 1, cells := 0, slots := 0, locals := 23 }
set_option maxHeartbeats 4000000 in
set_option maxRecDepth 100000 in
/-- undo -/
theorem c_X7_undof (l : Launch) (g : gG) (gh : gGh) (T : Nat → Int32) (I : gI) (R : gR) (J : gJ) (AI : gI) (AJ : gJ) (AR : gR) (mo : Nat) (hv : mInv g gh R I AI) (hm : gO g mo 7) (hT : AI (gh 50 0) = T) : gMet l g yX7_undo tsX7_undo rmX7_undof [.ref mo] (I, R, J, AI, AJ, AR) (gQi g (fun (z : Int) (w : gS) => R = w.2.1 ∧ J = w.2.2.1 ∧ AJ = w.2.2.2.2.1 ∧ AR = w.2.2.2.2.2 ∧ (mInv g gh R (w.1) (w.2.2.2.1)) ∧ ((w.2.2.2.1) (gh 50 0) = T) ∧ (nF mo I (w.1)) ∧ (((I mo 8).toInt = 0 ∧ z = -1 ∧ (w.2.2.2.1) = AI ∧ (w.1) mo 8 = I mo 8) ∨ (0 < (I mo 8).toInt ∧ z = (I mo 8).toInt - 1 ∧ ((w.1) mo 8).toInt = (I mo 8).toInt - 1 ∧ unM gh AI (w.2.2.2.1) ((I mo 8).toInt - 1))) ∧ ((w.1) mo 9 = I mo 9 ∧ (w.1) mo 10 = I mo 10))) := sorry

end

section
/-! the reference: what is read -/
/-- a tuple as it is told, 0 beyond the columns -/
def kyT (cols a b c d : Int) : Tup := (iI a, iI (if 1 < cols then b else 0), iI (if 2 < cols then c else 0), iI (if 3 < cols then d else 0))
theorem kyT_of {cols a b c d k0 k1 k2 k3 : Int} {h : Nat → Int32} (e0 : h 0 = iI k0) (e1 : h 1 = iI k1) (e2 : h 2 = iI k2) (e3 : h 3 = iI k3) (f0 : k0 = a) (f1 : k1 = if 1 < cols then b else 0) (f2 : k2 = if 2 < cols then c else 0) (f3 : k3 = if 3 < cols then d else 0) : ∀ j, j < 4 → h j = tg (kyT cols a b c d) j := sorry
/-- where a tuple is found -/
def fdM (f : Nat → Int32) (n : Nat) (t : Tup) (z : Int) : Prop := (0 ≤ z ∧ z < (n : Int) ∧ tup f z.toNat = t) ∨ (z = -1 ∧ ∀ q : Nat, q < n → tup f q ≠ t)
theorem fdM_r {f : Nat → Int32} {n : Nat} {t : Tup} {z : Int} (h : fdM f n t z) : z = -1 ∨ (0 ≤ z ∧ z < (n : Int)) := sorry
theorem fdM_y {f : Nat → Int32} {n : Nat} {t : Tup} {z : Int} (h : fdM f n t z) (h0 : 0 ≤ z) : tup f z.toNat = t := sorry
theorem fdM_n {f : Nat → Int32} {n : Nat} {t : Tup} {z : Int} (h : fdM f n t z) (h0 : z < 0) : ∀ q : Nat, q < n → tup f q ≠ t := sorry
theorem fdM_c {f : Nat → Int32} {n : Nat} {t : Tup} {z : Int} (ok : okB f n) (h : fdM f n t z) (h0 : 0 ≤ z) : bS f n t = f (6 * z.toNat + 4) := sorry
theorem fdM_0 {f : Nat → Int32} {n : Nat} {t : Tup} {z : Int} (h : fdM f n t z) (h0 : z < 0) : bS f n t = 0 := sorry
def smA (f : Nat → Int32) : Nat → Int32
  | 0 => 0
  | i + 1 => smA f i + f (6 * i + 4)
theorem smA_c {f f' : Nat → Int32} : ∀ n, rwA f f' n → smA f n = smA f' n := sorry
/-- told or not -/
def tdM (T : Nat → Int32) (nr : Nat) (rr wh : Int) : Prop := (0 ≤ rr ∧ rr < (nr : Int)) ∧ (wh = 4 ∨ (0 ≤ wh ∧ wh < tI T (40 * rr + 1)))
/-- the round of a tuple -/
def mkR (f : Nat → Int32) (n : Nat) (t : Tup) (z : Int) : Prop := (∃ i, i < n ∧ tup f i = t ∧ z = (f (6 * i + 5)).toInt) ∨ ((∀ q : Nat, q < n → tup f q ≠ t) ∧ z = -1)


end

section
def rmX7_isToldf : Room := { frames := 2, cells := 0, slots := 0, locals := 43 }
set_option maxHeartbeats 4000000 in
set_option maxRecDepth 100000 in
/-- told -/
theorem c_X7_isToldf (l : Launch) (g : gG) (gh : gGh) (T : Nat → Int32) (nr : Nat) (I : gI) (R : gR) (J : gJ) (AI : gI) (AJ : gJ) (AR : gR) (mo : Nat) (rr : Int) (wh : Int) (zrr : zr rr) (zwh : zr wh) (hv : mInv g gh R I AI) (hm : gO g mo 7) (hT : AI (gh 50 0) = T) (hmr : (I mo 2).toInt = (nr : Int)) : gMet l g yX7_isTold tsX7_isTold rmX7_isToldf [.ref mo, .int (iI rr), .int (iI wh)] (I, R, J, AI, AJ, AR) (gQi g (fun (z : Int) (w : gS) => I = w.1 ∧ R = w.2.1 ∧ J = w.2.2.1 ∧ AI = w.2.2.2.1 ∧ AJ = w.2.2.2.2.1 ∧ AR = w.2.2.2.2.2 ∧ ((z = 0 ∨ z = 1) ∧ (z = 1 → 0 ≤ rr ∧ rr ≤ 15 ∧ 0 ≤ wh ∧ wh ≤ 4)) ∧ (tIz z (tdM T nr rr wh)))) := sorry
def rmX7_findf : Room := { frames := 1, cells := 0, slots := 0, locals := 24 }
set_option maxHeartbeats 4000000 in
set_option maxRecDepth 100000 in
/-- find -/
theorem c_X7_findf (l : Launch) (g : gG) (gh : gGh) (T : Nat → Int32) (na : Nat) (bxa : Nat → Int32) (I : gI) (R : gR) (J : gJ) (AI : gI) (AJ : gJ) (AR : gR) (mo : Nat) (sd : Int) (rr : Int) (a1 : Int) (b1 : Int) (c1 : Int) (d1 : Int) (zsd : zr sd) (zrr : zr rr) (za1 : zr a1) (zb1 : zr b1) (zc1 : zr c1) (zd1 : zr d1) (hv : mInv g gh R I AI) (hm : gO g mo 7) (hT : AI (gh 50 0) = T) (hs : 0 ≤ sd ∧ sd ≤ 10) (hr0 : 0 ≤ rr ∧ rr ≤ 15) (hna : tI (AI (gh 57 0)) (16 * sd + rr) = (na : Int)) (hXa : ∀ q : Nat, q < 720 → AI (gh 56 0) ((11520 * sd + 720 * rr).toNat + q) = bxa q) (h120 : na ≤ 120) : gMet l g yX7_find tsX7_find rmX7_findf [.ref mo, .int (iI sd), .int (iI rr), .int (iI a1), .int (iI b1), .int (iI c1), .int (iI d1)] (I, R, J, AI, AJ, AR) (gQi g (fun (z : Int) (w : gS) => I = w.1 ∧ R = w.2.1 ∧ J = w.2.2.1 ∧ AJ = w.2.2.2.2.1 ∧ AR = w.2.2.2.2.2 ∧ (mInv g gh R I (w.2.2.2.1)) ∧ ((w.2.2.2.1) (gh 50 0) = T) ∧ (-1 ≤ z ∧ z ≤ 119) ∧ (∀ b, b ≠ gh 77 0 → (w.2.2.2.1) b = AI b) ∧ (fdM bxa na (kyT (tI T (40 * rr + 1)) a1 b1 c1 d1) z))) := sorry

end

section
/-! the reference: reckoned afresh -/
def dfI (gh : gGh) (AI AI' : gI) (nr : Nat) : Prop := ∀ q : Nat, q < nr → rfA (rfM gh AI' 10) (rfM gh AI 0) q
theorem bgOK_f {F F' : RF} {cl : Nat → Int} {q : Nat} (h : rfA F F' q) (b : bgOK F' cl q) : bgOK F cl q := sorry
section Dfm
variable {gh : gGh} {AI AI' AI2 : gI} {nr k : Nat} {z : Int} {cc : Nat → LC} {cl : Nat → Int}
theorem df_0 (h : ∀ q : Nat, q < 16 → rfM gh AI' 10 q = rfM gh AI 0 q) (hn : nr ≤ 16) : dfI gh AI AI' nr := sorry
theorem df_s (h : dfI gh AI AI' nr) (hk : k < nr) (hn : nr ≤ 16) (q : rkM gh 10 (k : Int) AI' AI2) (vw : vwP (cc k) (rfM gh AI' 10) z (rfM gh AI2 10 k).2 (rfM gh AI2 10 k).1) (hv : vwP (cc k) (rfM gh AI 0) 0 (rfM gh AI 0 k).2 (rfM gh AI 0 k).1) (hc : cOK (cc k) k cl) : z = 0 ∧ dfI gh AI AI2 nr := sorry
theorem df_g (h : dfI gh AI AI' nr) (hk : k < nr) (b : bgOK (rfM gh AI 0) cl k) : bgOK (rfM gh AI' 10) cl k := sorry
/-- row i of what is, row j of what was reckoned -/
theorem df_e {f f' : Nat → Int32} {n i j : Nat} (ok : okB f n) (h : rwA f' f n) (hi : i < n) (hj : j < n) : (tup f i = tup f' j ↔ i = j) := sorry
theorem df_4 {f f' : Nat → Int32} {n i : Nat} (h : rwA f' f n) (hi : i < n) : f' (6 * i + 4) = f (6 * i + 4) := sorry
end Dfm
/-- what came to a view -/
noncomputable def ctF (gh : gGh) (AI : gI) (cc : Nat → LC) (r : Nat) : Int := ((bgN (mvF gh AI ((cc r).1 2).toNat) : Nat) : Int) + (if (cc r).1 3 < 0 then 0 else ((bgN (mvF gh AI ((cc r).1 3).toNat) : Nat) : Int))


end

section
/-! the reference: a column's values -/
def cvM (f : Nat → Int32) (c q : Nat) : Int := (f (6 * q + c)).toInt
def leI (f : Nat → Int32) (c : Nat) (i : Nat) (v : Int) : Prop := (∀ q, q < i → v ≤ cvM f c q) ∧ (v = 2147483647 ∨ ∃ q, q < i ∧ v = cvM f c q)
def moI (f : Nat → Int32) (c : Nat) (i : Nat) (v : Int) : Prop := (∀ q, q < i → cvM f c q ≤ v) ∧ (v = -2147483648 ∨ ∃ q, q < i ∧ v = cvM f c q)
def leL (f : Nat → Int32) (c n : Nat) (v : Int) : Prop := (∀ q, q < n → v ≤ cvM f c q) ∧ ∃ q, q < n ∧ v = cvM f c q
def moL (f : Nat → Int32) (c n : Nat) (v : Int) : Prop := (∀ q, q < n → cvM f c q ≤ v) ∧ ∃ q, q < n ∧ v = cvM f c q
noncomputable def unC (f : Nat → Int32) (c : Nat) : Nat → Nat
  | 0 => 0
  | i + 1 => unC f c i + pN1 (∀ q, q < i → cvM f c q ≠ cvM f c i)
section Clm
variable {f : Nat → Int32} {c i n : Nat} {v w is j : Int}
theorem cv_r : -2147483648 ≤ cvM f c i ∧ cvM f c i ≤ 2147483647 := sorry
theorem leI_0 : leI f c 0 2147483647 := sorry
theorem moI_0 : moI f c 0 (-2147483648) := sorry
theorem leI_k (h : leI f c i v) (hw : v ≤ cvM f c i) : leI f c (i + 1) v := sorry
theorem leI_n (h : leI f c i v) (hw : cvM f c i ≤ v) : leI f c (i + 1) (cvM f c i) := sorry
theorem moI_k (h : moI f c i v) (hw : cvM f c i ≤ v) : moI f c (i + 1) v := sorry
theorem moI_n (h : moI f c i v) (hw : v ≤ cvM f c i) : moI f c (i + 1) (cvM f c i) := sorry
theorem leI_e (h : leI f c n v) (hn : 0 < n) : leL f c n v := sorry
theorem moI_e (h : moI f c n v) (hn : 0 < n) : moL f c n v := sorry
/-- so far none ahead is alike -/
def unI (f : Nat → Int32) (c i : Nat) (is j : Int) : Prop := (is = 1 ∧ ∀ q : Nat, (q : Int) < j → cvM f c q ≠ cvM f c i) ∨ (is = 0 ∧ ¬ ∀ q, q < i → cvM f c q ≠ cvM f c i)
theorem unI_0 : unI f c i 1 0 := sorry
theorem unI_y (h : unI f c i is j) (hi : is ≠ 0) (h0 : 0 ≤ j) (e : cvM f c j.toNat ≠ cvM f c i) : unI f c i 1 (j + 1) := sorry
theorem unI_n (h0 : 0 ≤ j) (hj : j < (i : Int)) (e : cvM f c j.toNat = cvM f c i) : unI f c i 0 (j + 1) := sorry
theorem unI_z (h : unI f c i is j) (hi : is = 0) : unI f c i 0 (j + 1) := sorry
theorem unI_r (h : unI f c i is j) : is = 0 ∨ is = 1 := sorry
theorem unI_e (h : unI f c i is j) (hj : (i : Int) ≤ j) : ((unC f c (i + 1) : Nat) : Int) = ((unC f c i : Nat) : Int) + is := sorry
end Clm
def clM (T : Nat → Int32) (nr : Nat) (n : Nat) (rr cl wh : Int) : Prop := (0 ≤ rr ∧ rr < (nr : Int)) ∧ (0 ≤ cl ∧ cl < tI T (40 * rr + 1)) ∧ (0 ≤ wh ∧ wh ≤ 2) ∧ (wh = 2 ∨ 0 < n)
def clP (f : Nat → Int32) (n : Nat) (cl wh z : Int) : Prop := (wh = 0 ∧ leL f cl.toNat n z) ∨ (wh = 1 ∧ moL f cl.toNat n z) ∨ (wh = 2 ∧ z = ((unC f cl.toNat n : Nat) : Int))


end
