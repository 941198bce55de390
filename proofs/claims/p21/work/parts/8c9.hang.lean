section
/-! who hangs on whom, how far, what letters a name begins and ends with -/
/-- one bit -/
def kBt (z : Int) : Int32 := iI 1 <<< (iI z &&& 31)
/-- whom a relation hangs on, as the reference reckons it; K its kind, F and S its first and second -/
def kHs (K F S : Nat → Int) : Nat → Nat → Int32
  | 0, _ => 0
  | d + 1, r => if K r = 0 then 0 else if S r < 0 then kBt (F r) ||| kHs K F S d (F r).toNat else ((kBt (F r) ||| kHs K F S d (F r).toNat) ||| kBt (S r)) ||| kHs K F S d (S r).toNat
def kMx (a b : Int) : Int := if a > b then a else b
/-- how far it is -/
def kDs (K F S : Nat → Int) : Nat → Nat → Int
  | 0, _ => 0
  | d + 1, r => if K r = 0 then 0 else 1 + kMx (kDs K F S d (F r).toNat) (if S r < 0 then 0 else kDs K F S d (S r).toNat)
/-- each tells of those ahead alone -/
def kWf (K F S : Nat → Int) (n : Nat) : Prop := ∀ r : Nat, r < n → K r ≠ 0 → 0 ≤ F r ∧ F r < (r : Int) ∧ -1 ≤ S r ∧ S r < (r : Int)
section Hang
variable {K F S K' F' S' : Nat → Int} {n : Nat}
theorem kWf_m {m : Nat} (w : kWf K F S n) (h : m ≤ n) : kWf K F S m := fun r hr => w r (by omega)
theorem kHs_0 {d r : Nat} (h : K r = 0) : kHs K F S (d + 1) r = 0 := if_pos h
theorem kHs_1 {d r : Nat} (h : K r ≠ 0) (s : S r < 0) : kHs K F S (d + 1) r = kBt (F r) ||| kHs K F S d (F r).toNat := (if_neg h).trans (if_pos s)
theorem kHs_2 {d r : Nat} (h : K r ≠ 0) (s : ¬ S r < 0) : kHs K F S (d + 1) r = ((kBt (F r) ||| kHs K F S d (F r).toNat) ||| kBt (S r)) ||| kHs K F S d (S r).toNat := (if_neg h).trans (if_neg s)
theorem kDs_0 {d r : Nat} (h : K r = 0) : kDs K F S (d + 1) r = 0 := if_pos h
theorem kDs_1 {d r : Nat} (h : K r ≠ 0) : kDs K F S (d + 1) r = 1 + kMx (kDs K F S d (F r).toNat) (if S r < 0 then 0 else kDs K F S d (S r).toNat) := if_neg h
theorem kDs_b : ∀ (d r : Nat), 0 ≤ kDs K F S d r ∧ kDs K F S d r ≤ (d : Int)
  | 0, _ => ⟨Int.le_refl 0, Int.le_refl 0⟩
  | d + 1, r => by
    by_cases h : K r = 0
    · rw [kDs_0 h]; omega
    · rw [kDs_1 h]
      have a := kDs_b d (F r).toNat
      have b := kDs_b d (S r).toNat
      unfold kMx
      by_cases s : S r < 0
      · rw [if_pos s]
        by_cases q : kDs K F S d (F r).toNat > 0
        · rw [if_pos q]; omega
        · rw [if_neg q]; omega
      · rw [if_neg s]
        by_cases q : kDs K F S d (F r).toNat > kDs K F S d (S r).toNat
        · rw [if_pos q]; omega
        · rw [if_neg q]; omega
theorem kHs_d (w : kWf K F S n) : ∀ (d d' r : Nat), r < n → r < d → r < d' → kHs K F S d r = kHs K F S d' r
  | 0, _, r, _, h, _ => absurd h (Nat.not_lt_zero r)
  | _ + 1, 0, r, _, _, h => absurd h (Nat.not_lt_zero r)
  | d + 1, d' + 1, r, hn, h, h' => by
    by_cases k : K r = 0
    · rw [kHs_0 k, kHs_0 k]
    · have a := w r hn k
      have e := kHs_d w d d' (F r).toNat (by omega) (by omega) (by omega)
      by_cases s : S r < 0
      · rw [kHs_1 k s, kHs_1 k s, e]
      · rw [kHs_2 k s, kHs_2 k s, e, kHs_d w d d' (S r).toNat (by omega) (by omega) (by omega)]
theorem kDs_d (w : kWf K F S n) : ∀ (d d' r : Nat), r < n → r < d → r < d' → kDs K F S d r = kDs K F S d' r
  | 0, _, r, _, h, _ => absurd h (Nat.not_lt_zero r)
  | _ + 1, 0, r, _, _, h => absurd h (Nat.not_lt_zero r)
  | d + 1, d' + 1, r, hn, h, h' => by
    by_cases k : K r = 0
    · rw [kDs_0 k, kDs_0 k]
    · have a := w r hn k
      have e := kDs_d w d d' (F r).toNat (by omega) (by omega) (by omega)
      rw [kDs_1 k, kDs_1 k, e]
      by_cases s : S r < 0
      · rw [if_pos s, if_pos s]
      · rw [if_neg s, if_neg s, kDs_d w d d' (S r).toNat (by omega) (by omega) (by omega)]
theorem kHs_c (w : kWf K F S n) (e : ∀ r : Nat, r < n → K' r = K r ∧ (K r ≠ 0 → F' r = F r ∧ S' r = S r)) : ∀ (d r : Nat), r < n → kHs K' F' S' d r = kHs K F S d r
  | 0, _, _ => rfl
  | d + 1, r, hn => by
    have q := e r hn
    by_cases k : K r = 0
    · rw [kHs_0 k, kHs_0 (q.1.trans k)]
    · have a := w r hn k
      have k' : K' r ≠ 0 := fun h => k (q.1.symm.trans h)
      have f := (q.2 k).1
      have t := (q.2 k).2
      have e1 := kHs_c w e d (F r).toNat (by omega)
      by_cases s : S r < 0
      · have s' : S' r < 0 := by omega
        rw [kHs_1 k s, kHs_1 k' s', f, e1]
      · have s' : ¬ S' r < 0 := by omega
        rw [kHs_2 k s, kHs_2 k' s', f, t, e1, kHs_c w e d (S r).toNat (by omega)]
theorem kDs_c (w : kWf K F S n) (e : ∀ r : Nat, r < n → K' r = K r ∧ (K r ≠ 0 → F' r = F r ∧ S' r = S r)) : ∀ (d r : Nat), r < n → kDs K' F' S' d r = kDs K F S d r
  | 0, _, _ => rfl
  | d + 1, r, hn => by
    have q := e r hn
    by_cases k : K r = 0
    · rw [kDs_0 k, kDs_0 (q.1.trans k)]
    · have a := w r hn k
      have k' : K' r ≠ 0 := fun h => k (q.1.symm.trans h)
      have f := (q.2 k).1
      have t := (q.2 k).2
      rw [kDs_1 k, kDs_1 k', f, t, kDs_c w e d (F r).toNat (by omega)]
      by_cases s : S r < 0
      · rw [if_pos s, if_pos s]
      · rw [if_neg s, if_neg s, kDs_c w e d (S r).toNat (by omega)]
/-- what the class's hang makes of a line's set: x it was, h the other's -/
theorem hg_1 {h : Int32} {z : Int} : (0 : Int32) ||| (h ||| kBt z) = kBt z ||| h := by rw [Int32.zero_or, Int32.or_comm]
theorem hg_2 {x h : Int32} {z : Int} : x ||| (h ||| kBt z) = (x ||| kBt z) ||| h := by rw [Int32.or_comm h, Int32.or_assoc]
end Hang
/-! the class's lines: what hang and keepLine leave, step by step -/
def kH2 (x : Int32) (z : Int) (H : Nat → Int32) : Int32 := if z < 0 then x else x ||| (H z.toNat ||| kBt z)
def kD2 (x z : Int) (D : Nat → Int) : Int := if z < 0 then x else kMx x (D z.toNat + 1)
theorem hd_p {K F S f s D : Nat → Int} {H : Nat → Int32} {n : Nat} (w : kWf K F S n) (h16 : n ≤ 16) (ef : ∀ r : Nat, r < n → f r = F r ∧ s r = S r) (e0 : ∀ r : Nat, r < n → K r = 0 → f r < 0 ∧ s r < 0) (eH : ∀ r : Nat, r < n → H r = kH2 (kH2 0 (f r) H) (s r) H) (eD : ∀ r : Nat, r < n → D r = kD2 (kD2 0 (f r) D) (s r) D) : ∀ r : Nat, r < n → H r = kHs K F S 16 r ∧ D r = kDs K F S 16 r := by
  intro r
  induction r using Nat.strongRecOn with
  | ind r ih =>
    intro hr
    rw [eH r hr, eD r hr]
    have e := ef r hr
    by_cases k : K r = 0
    · have z := e0 r hr k
      have q1 : kHs K F S 16 r = 0 := kHs_0 (d := 15) k
      have q2 : kDs K F S 16 r = 0 := kDs_0 (d := 15) k
      rw [q1, q2]
      unfold kH2 kD2
      rw [if_pos z.2, if_pos z.1, if_pos z.2, if_pos z.1]
      exact ⟨rfl, rfl⟩
    · have a := w r hr k
      have nf : ¬ f r < 0 := by omega
      have u1 := ih (F r).toNat (by omega) (by omega)
      have d1 := kHs_d w 15 16 (F r).toNat (by omega) (by omega) (by omega)
      have d2 := kDs_d w 15 16 (F r).toNat (by omega) (by omega) (by omega)
      have b1 := kDs_b (K := K) (F := F) (S := S) 16 (F r).toNat
      have q2 : kDs K F S 16 r = 1 + kMx (kDs K F S 15 (F r).toNat) (if S r < 0 then 0 else kDs K F S 15 (S r).toNat) := kDs_1 (d := 15) k
      rw [q2, d2]
      unfold kH2 kD2
      rw [if_neg nf, if_neg nf, e.1, e.2, u1.1, u1.2]
      by_cases z : S r < 0
      · have q1 : kHs K F S 16 r = kBt (F r) ||| kHs K F S 15 (F r).toNat := kHs_1 (d := 15) k z
        rw [if_pos z, if_pos z, if_pos z, q1, d1]
        refine ⟨hg_1, ?_⟩
        unfold kMx
        rw [if_neg (show ¬ (0 : Int) > kDs K F S 16 (F r).toNat + 1 by omega)]
        by_cases q : kDs K F S 16 (F r).toNat > 0
        · rw [if_pos q]; omega
        · rw [if_neg q]; omega
      · have u2 := ih (S r).toNat (by omega) (by omega)
        have d3 := kHs_d w 15 16 (S r).toNat (by omega) (by omega) (by omega)
        have d4 := kDs_d w 15 16 (S r).toNat (by omega) (by omega) (by omega)
        have b2 := kDs_b (K := K) (F := F) (S := S) 16 (S r).toNat
        have q1 : kHs K F S 16 r = ((kBt (F r) ||| kHs K F S 15 (F r).toNat) ||| kBt (S r)) ||| kHs K F S 15 (S r).toNat := kHs_2 (d := 15) k z
        rw [if_neg z, if_neg z, if_neg z, q1, d1, d3, d4, u2.1, u2.2]
        refine ⟨by rw [hg_1, hg_2], ?_⟩
        generalize kDs K F S 16 (F r).toNat = x at b1 ⊢
        generalize kDs K F S 16 (S r).toNat = y at b2 ⊢
        unfold kMx
        rw [if_neg (show ¬ (0 : Int) > x + 1 by omega)]
        by_cases q : x > y
        · rw [if_pos (show x + 1 > y + 1 by omega), if_pos q]; omega
        · rw [if_neg (show ¬ x + 1 > y + 1 by omega), if_neg q]; omega
/-! who hangs on a relation: what the class folds and what the reference folds -/
/-- a bit of a set, as the class takes it -/
def kUt (x : Int32) (z : Int) : Int32 := (x.toUInt32 >>> ((iI z).toUInt32 &&& Int32.toUInt32 31)).toInt32 &&& iI 1
def kHc (H : Nat → Int32) (z : Int) : Nat → Int32
  | 0 => 0
  | r + 1 => kHc H z r ||| (kUt (H r) z <<< (iI (r : Int) &&& 31))
def kHm (H : Nat → Int32) (z : Int) : Nat → Int32
  | 0 => 0
  | r + 1 => if mBit (H r).toInt z = 1 then kHm H z r ||| kBt (r : Int) else kHm H z r
theorem bv_1 {x : BitVec 32} {k : Nat} (h : k < 32) : x.sshiftRight k &&& 1#32 = (x >>> k) &&& 1#32 := by
  apply BitVec.eq_of_getLsbD_eq
  intro i hi
  rw [BitVec.getLsbD_and, BitVec.getLsbD_and, BitVec.getLsbD_one]
  by_cases q : i = 0
  · subst q
    rw [BitVec.getLsbD_sshiftRight, BitVec.getLsbD_ushiftRight]
    simp [h]
  · simp [q]
theorem bv_2 {x : BitVec 32} : x &&& 1#32 = 0#32 ∨ x &&& 1#32 = 1#32 := by
  by_cases q : x.getLsbD 0
  · right
    apply BitVec.eq_of_getLsbD_eq
    intro i hi
    rw [BitVec.getLsbD_and, BitVec.getLsbD_one]
    by_cases w : i = 0
    · subst w; simp [q]
    · simp [w]
  · left
    apply BitVec.eq_of_getLsbD_eq
    intro i hi
    rw [BitVec.getLsbD_and, BitVec.getLsbD_one]
    by_cases w : i = 0
    · subst w; rw [(Bool.not_eq_true _).mp q]; simp
    · simp [w]
theorem kUt_b {x : Int32} : ∀ k : Nat, k < 16 → kUt x (k : Int) = (x >>> (iI (k : Int) &&& 31)) &&& iI 1 := by
  intro k hk
  have m1 : ∀ k : Nat, k < 16 → ((iI (k : Int)).toUInt32 &&& Int32.toUInt32 31).toBitVec % 32#32 = BitVec.ofNat 32 k := by decide +kernel
  have m2 : ∀ k : Nat, k < 16 → (iI (k : Int) &&& 31).toBitVec.smod 32#32 = BitVec.ofNat 32 k := by decide +kernel
  have m3 : (iI 1).toBitVec = 1#32 := by decide +kernel
  have m4 : (BitVec.ofNat 32 k).toNat = k := by rw [BitVec.toNat_ofNat]; exact Nat.mod_eq_of_lt (by omega)
  have e : (x.toUInt32 >>> ((iI (k : Int)).toUInt32 &&& Int32.toUInt32 31)).toInt32.toBitVec = x.toBitVec >>> k := by
    have e1 : (x.toUInt32 >>> ((iI (k : Int)).toUInt32 &&& Int32.toUInt32 31)).toInt32.toBitVec = x.toBitVec >>> (((iI (k : Int)).toUInt32 &&& Int32.toUInt32 31).toBitVec % 32#32) := rfl
    rw [e1, m1 k hk]
    show x.toBitVec >>> (BitVec.ofNat 32 k).toNat = _
    rw [m4]
  have e2 : (x >>> (iI (k : Int) &&& 31)).toBitVec = x.toBitVec.sshiftRight k := by
    have e1 : (x >>> (iI (k : Int) &&& 31)).toBitVec = x.toBitVec.sshiftRight' ((iI (k : Int) &&& 31).toBitVec.smod 32#32) := rfl
    rw [e1, m2 k hk]
    show x.toBitVec.sshiftRight (BitVec.ofNat 32 k).toNat = _
    rw [m4]
  apply Int32.toBitVec_inj.mp
  unfold kUt
  rw [Int32.toBitVec_and, Int32.toBitVec_and, e, e2, m3]
  exact (bv_1 (by omega)).symm
theorem kUt_m {x : Int32} {k : Nat} (hk : k < 16) : (kUt x (k : Int)).toInt = mBit x.toInt (k : Int) := by
  rw [kUt_b k hk]
  unfold mBit
  rw [iI_self, iI_self]
theorem kUt_r {x : Int32} {z : Int} : kUt x z = 0 ∨ kUt x z = iI 1 := by
  unfold kUt
  generalize (x.toUInt32 >>> ((iI z).toUInt32 &&& Int32.toUInt32 31)).toInt32 = y
  rcases bv_2 (x := y.toBitVec) with h | h
  · left; exact Int32.toBitVec_inj.mp (by rw [Int32.toBitVec_and]; exact h)
  · right; exact Int32.toBitVec_inj.mp (by rw [Int32.toBitVec_and]; exact h)
theorem sh_0 : ∀ r : Nat, r < 16 → (0 : Int32) <<< (iI (r : Int) &&& 31) = 0 := by decide +kernel
theorem kHc_m {H H' : Nat → Int32} {k : Nat} (hk : k < 16) : ∀ n : Nat, n ≤ 16 → (∀ r, r < n → H' r = H r) → kHc H' (k : Int) n = kHm H (k : Int) n
  | 0, _, _ => rfl
  | r + 1, h, e => by
    rw [kHc, kHm, kHc_m hk r (by omega) (fun u hu => e u (by omega)), e r (by omega)]
    have w := kUt_m (x := H r) hk
    rcases kUt_r (x := H r) (z := (k : Int)) with q | q
    · rw [q] at w
      rw [q, sh_0 r (by omega), Int32.or_zero, if_neg (by rw [← w]; decide)]
    · rw [q] at w
      rw [q, if_pos (by rw [← w]; exact iI_val ⟨by decide, by decide⟩)]
      rfl
/-! first and last letters -/
def kFa (x : Int64) : Nat → Int64
  | 0 => x
  | j + 1 => ((kFa x j).toUInt64 >>> ((iI 5).toInt64.toUInt64 &&& Int64.toUInt64 63)).toInt64
def kFb (x : Int64) : Nat → Int64
  | 0 => x
  | j + 1 => kFb x j / 256
/-- the class's first letter -/
def kLa (x : Int64) (z : Int) : Prop := ∃ j : Nat, j ≤ 8 ∧ (∀ i, i < j → 31 < (kFa x i).toInt) ∧ (j < 8 → (kFa x j).toInt ≤ 31) ∧ iI z = (kFa x j).toInt32
/-- the reference's -/
def kLb (x : Int64) (z : Int) : Prop := ∃ j : Nat, (∀ i, i < j → 256 ≤ (kFb x i).toInt) ∧ (kFb x j).toInt < 256 ∧ iI z = iI ((kFb x j).toInt32.toInt - 97 + 1)
/-- the class's last letter, the reference's -/
def kLc (x : Int64) : Int32 := (x &&& 31).toInt32
def kLd (x : Int64) : Int32 := iI ((x % 256).toInt32.toInt - 97 + 1)
theorem uB_t {x : Int64} (h : uB x < 2 ^ 63) : x.toInt = (uB x : Int) := by
  unfold uB at *
  show x.toBitVec.toInt = _
  rw [BitVec.toInt_eq_toNat_of_lt (by omega)]
theorem uB_lt {x : Int64} : uB x < 2 ^ 64 := x.toBitVec.isLt
theorem t32 {x : Int64} (h : uB x < 2 ^ 31) : x.toInt32.toInt = (uB x : Int) := by
  have h' : uB x < 2147483648 := h
  have e : x.toInt = (uB x : Int) := uB_t (by omega)
  rw [Int64.toInt_toInt32, e]
  exact Int.bmod_eq_of_le (m := 4294967296) (by omega) (by omega)
theorem uB_r5 {x : Int64} : uB ((x.toUInt64 >>> ((iI 5).toInt64.toUInt64 &&& Int64.toUInt64 63)).toInt64) = uB x / 32 := by
  have m : ((iI 5).toInt64.toUInt64 &&& Int64.toUInt64 63).toBitVec % 64#64 = 5#64 := by decide +kernel
  have e1 : (x.toUInt64 >>> ((iI 5).toInt64.toUInt64 &&& Int64.toUInt64 63)).toInt64.toBitVec = x.toBitVec >>> (((iI 5).toInt64.toUInt64 &&& Int64.toUInt64 63).toBitVec % 64#64) := rfl
  have e : (x.toUInt64 >>> ((iI 5).toInt64.toUInt64 &&& Int64.toUInt64 63)).toInt64.toBitVec = x.toBitVec >>> (5 : Nat) := by rw [e1, m]; rfl
  unfold uB
  rw [e, BitVec.toNat_ushiftRight]
  exact Nat.shiftRight_eq_div_pow _ 5
theorem uB_d {x : Int64} (h : uB x < 2 ^ 63) : uB (x / 256) = uB x / 256 := by
  have e := uB_t h
  have q : (x / 256).toInt = (uB x : Int) / 256 := by
    rw [Int64.toInt_div, e]
    have : Int64.toInt 256 = 256 := by decide
    rw [this, Int.tdiv_eq_ediv_of_nonneg (by omega)]
    have h' : uB x < 9223372036854775808 := h
    exact Int.bmod_eq_of_le (m := 18446744073709551616) (by omega) (by omega)
  have l : uB (x / 256) < 2 ^ 63 := by
    by_cases c : uB (x / 256) < 2 ^ 63
    · exact c
    · exfalso
      have w : (x / 256).toInt < 0 := by
        unfold uB at c
        show (x / 256).toBitVec.toInt < 0
        rw [BitVec.toInt_eq_toNat_cond, if_neg (by omega)]
        have := (x / 256).toBitVec.isLt
        omega
      omega
  have r := uB_t l
  omega
theorem uB_md {x : Int64} (h : uB x < 2 ^ 63) : uB (x % 256) = uB x % 256 := by
  have e := uB_t h
  have q : (x % 256).toInt = (uB x : Int) % 256 := by
    rw [Int64.toInt_mod, e]
    have : Int64.toInt 256 = 256 := by decide
    rw [this, Int.tmod_eq_emod_of_nonneg (by omega)]
  have l : uB (x % 256) < 2 ^ 63 := by
    by_cases c : uB (x % 256) < 2 ^ 63
    · exact c
    · exfalso
      have w : (x % 256).toInt < 0 := by
        unfold uB at c
        show (x % 256).toBitVec.toInt < 0
        rw [BitVec.toInt_eq_toNat_cond, if_neg (by omega)]
        have := (x % 256).toBitVec.isLt
        omega
      omega
  have r := uB_t l
  omega
theorem uB_31 {x : Int64} : uB (x &&& 31) = uB x % 32 := by
  unfold uB
  rw [Int64.toBitVec_and, BitVec.toNat_and]
  have e : (Int64.toBitVec 31).toNat = 2 ^ 5 - 1 := by decide +kernel
  rw [e]
  exact Nat.and_two_pow_sub_one_eq_mod _ 5
section Letters
variable {b : tTx} {k : Nat}
theorem tN_k : ∀ {m j}, tLt b k m → m ≤ 8 → j ≤ m → uB (kFa (tNm b k m) j) = uB (tNm b k (m - j))
  | m, 0, _, _, _ => rfl
  | m, j + 1, h, hm, hj => by
    have ih := tN_k (m := m) (j := j) h hm (by omega)
    rw [kFa, uB_r5, ih]
    have w := (tNm_u (b := b) (k := k) (m := m - j - 1) (fun i hi => h i (by omega)) (by omega)).1
    have l := h (m - j - 1) (by omega)
    rw [show m - j - 1 + 1 = m - j by omega] at w
    rw [w, show m - (j + 1) = m - j - 1 by omega]
    omega
theorem tM_b : ∀ {m}, tLt b k (m + 1) → m + 1 ≤ 8 → uB (tMw b k (m + 1)) < 123 * 256 ^ m
  | 0, h, hm => by
    have w := (tMw_u (b := b) (k := k) (m := 0) h hm).1
    have l := h 0 (by omega)
    have e0 : uB (tMw b k 0) = 0 := uB_0
    rw [w, e0]
    omega
  | m + 1, h, hm => by
    have ih := tM_b (m := m) (fun i hi => h i (by omega)) (by omega)
    have w := (tMw_u (b := b) (k := k) (m := m + 1) h hm).1
    have l := h (m + 1) (by omega)
    rw [w, Nat.pow_succ]
    omega
theorem tM_k : ∀ {m j}, tLt b k m → m ≤ 8 → j ≤ m → uB (kFb (tMw b k m) j) = uB (tMw b k (m - j)) ∧ uB (tMw b k (m - j)) < 2 ^ 63
  | m, 0, h, hm, _ => by
    refine ⟨rfl, ?_⟩
    show uB (tMw b k m) < 2 ^ 63
    by_cases z : m = 0
    · rw [z, show uB (tMw b k 0) = 0 from uB_0]; decide
    · have w := tM_b (b := b) (k := k) (m := m - 1) (fun i hi => h i (by omega)) (by omega)
      have p : 256 ^ (m - 1) ≤ 256 ^ 7 := Nat.pow_le_pow_right (by decide) (by omega)
      have p7 : (256 : Nat) ^ 7 = 72057594037927936 := by decide
      rw [show m - 1 + 1 = m by omega] at w
      omega
  | m, j + 1, h, hm, hj => by
    have ih := tM_k (m := m) (j := j) h hm (by omega)
    have w := (tMw_u (b := b) (k := k) (m := m - j - 1) (fun i hi => h i (by omega)) (by omega)).1
    have l := h (m - j - 1) (by omega)
    rw [show m - j - 1 + 1 = m - j by omega] at w
    rw [show m - (j + 1) = m - j - 1 by omega]
    refine ⟨?_, by omega⟩
    rw [kFb, uB_d (by rw [ih.1]; exact ih.2), ih.1, w]
    omega
theorem tN_1 {m : Nat} (h : tLt b k (m + 1)) (hm : m + 1 ≤ 8) : uB (tNm b k (m + 1)) % 32 = (b (k + m) - 96).toNat ∧ (0 < m → 31 < uB (tNm b k (m + 1))) ∧ (m = 0 → uB (tNm b k (m + 1)) = (b k - 96).toNat) ∧ uB (tNm b k (m + 1)) < 2 ^ 40 := by
  have w := tNm_u h hm
  have l := h m (by omega)
  have l0 := h 0 (by omega)
  have p : 32 ^ m ≤ 32 ^ 7 := Nat.pow_le_pow_right (by decide) (by omega)
  have p7 : (32 : Nat) ^ 7 = 34359738368 := by decide
  refine ⟨by omega, fun z => ?_, fun z => ?_, by omega⟩
  · have v := (tNm_u (b := b) (k := k) (m := m - 1) (fun i hi => h i (by omega)) (by omega)).1
    have l1 := h (m - 1) (by omega)
    rw [show m - 1 + 1 = m by omega] at v
    omega
  · subst z
    have e0 : uB (tNm b k 0) = 0 := uB_0
    rw [w.1, e0]
    show 32 * 0 + (b (k + 0) - 96).toNat = _
    rw [Nat.add_zero]; omega
theorem tM_1 {m : Nat} (h : tLt b k (m + 1)) (hm : m + 1 ≤ 8) : uB (tMw b k (m + 1)) % 256 = (b (k + m)).toNat ∧ (0 < m → 256 ≤ uB (tMw b k (m + 1))) ∧ (m = 0 → uB (tMw b k (m + 1)) = (b k).toNat) := by
  have w := tMw_u h hm
  have l := h m (by omega)
  have l0 := h 0 (by omega)
  refine ⟨by omega, fun z => ?_, fun z => ?_⟩
  · have v := (tMw_u (b := b) (k := k) (m := m - 1) (fun i hi => h i (by omega)) (by omega)).1
    have l1 := h (m - 1) (by omega)
    rw [show m - 1 + 1 = m by omega] at v
    omega
  · subst z
    have e0 : uB (tMw b k 0) = 0 := uB_0
    rw [w.1, e0]
    show 256 * 0 + (b (k + 0)).toNat = _
    rw [Nat.add_zero]; omega
theorem kLa_v {m : Nat} (h : tLt b k (m + 1)) (hm : m + 1 ≤ 8) {z : Int} (a : kLa (tNm b k (m + 1)) z) : iI z = iI (b k - 96) := by
  obtain ⟨j, h8, h1, h2, h3⟩ := a
  have l0 := h 0 (by omega)
  have l0 : 97 ≤ b k ∧ b k ≤ 122 := l0
  have jm : j = m := by
    rcases Nat.lt_trichotomy j m with q | q | q
    · exfalso
      have e := tN_k (j := j) h hm (by omega)
      have w := tN_1 (m := m - j) (fun i hi => h i (by omega)) (by omega)
      rw [show m + 1 - j = m - j + 1 by omega] at e
      have t := uB_t (x := kFa (tNm b k (m + 1)) j) (by omega)
      have := h2 (by omega)
      have := w.2.1 (by omega)
      omega
    · exact q
    · exfalso
      have e := tN_k (j := m) h hm (by omega)
      have w := tN_1 (m := 0) (fun i hi => h i (by omega)) (by decide)
      rw [show m + 1 - m = 0 + 1 by omega] at e
      have t := uB_t (x := kFa (tNm b k (m + 1)) m) (by omega)
      have := h1 m q
      have := w.2.2.1 rfl
      omega
  subst jm
  have e := tN_k (j := j) h hm (by omega)
  have w := tN_1 (m := 0) (fun i hi => h i (by omega)) (by decide)
  rw [show j + 1 - j = 0 + 1 by omega] at e
  have w0 := w.2.2.1 rfl
  have t := t32 (x := kFa (tNm b k (j + 1)) j) (by omega)
  rw [h3, ← iI_self (kFa (tNm b k (j + 1)) j).toInt32, t]
  congr 1
  omega
theorem kLb_v {m : Nat} (h : tLt b k (m + 1)) (hm : m + 1 ≤ 8) {z : Int} (a : kLb (tMw b k (m + 1)) z) : iI z = iI (b k - 96) := by
  obtain ⟨j, h1, h2, h3⟩ := a
  have l0 : 97 ≤ b k ∧ b k ≤ 122 := h 0 (by omega)
  have jm : j = m := by
    rcases Nat.lt_trichotomy j m with q | q | q
    · exfalso
      have e := tM_k (j := j) h hm (by omega)
      have w := tM_1 (m := m - j) (fun i hi => h i (by omega)) (by omega)
      rw [show m + 1 - j = m - j + 1 by omega] at e
      have t := uB_t (x := kFb (tMw b k (m + 1)) j) (by omega)
      have := w.2.1 (by omega)
      omega
    · exact q
    · exfalso
      have e := tM_k (j := m) h hm (by omega)
      have w := tM_1 (m := 0) (fun i hi => h i (by omega)) (by decide)
      rw [show m + 1 - m = 0 + 1 by omega] at e
      have t := uB_t (x := kFb (tMw b k (m + 1)) m) (by omega)
      have := h1 m q
      have := w.2.2 rfl
      omega
  subst jm
  have e := tM_k (j := j) h hm (by omega)
  have w := tM_1 (m := 0) (fun i hi => h i (by omega)) (by decide)
  rw [show j + 1 - j = 0 + 1 by omega] at e
  have w0 := w.2.2 rfl
  have t := t32 (x := kFb (tMw b k (j + 1)) j) (by omega)
  rw [h3, t]
  congr 1
  omega
theorem kLc_v {m : Nat} (h : tLt b k (m + 1)) (hm : m + 1 ≤ 8) : kLc (tNm b k (m + 1)) = iI (b (k + m) - 96) := by
  have l := h m (by omega)
  have w := tN_1 h hm
  have u := uB_31 (x := tNm b k (m + 1))
  have t := t32 (x := tNm b k (m + 1) &&& 31) (by omega)
  unfold kLc
  rw [← iI_self (tNm b k (m + 1) &&& 31).toInt32, t]
  congr 1
  omega
theorem kLd_v {m : Nat} (h : tLt b k (m + 1)) (hm : m + 1 ≤ 8) : kLd (tMw b k (m + 1)) = iI (b (k + m) - 96) := by
  have l := h m (by omega)
  have w := tM_1 h hm
  have u := uB_md (x := tMw b k (m + 1)) (tM_k (j := 0) h hm (by omega)).2
  have t := t32 (x := tMw b k (m + 1) % 256) (by omega)
  unfold kLd
  rw [t]
  congr 1
  omega
end Letters
theorem pR_lt {b : tTx} {n h : Nat} (e : pK b n h = 3) : tPs b n h < tRn b n (tPs b n h) := by
  have w := pK_3 e
  unfold pK at e
  generalize tPs b n h = k at e w ⊢
  unfold tKd at e
  by_cases a : n ≤ k
  · rw [if_pos a] at e; exact absurd e (by decide)
  · rw [if_neg a] at e
    by_cases r : tRu (b k)
    · rw [tRn_b (by omega) r]
      exact (tRn_le (b := b) (n := n) (k := k + 1) (by omega)).1
    · rw [if_neg r] at e
      by_cases s : tSg (b k)
      · rw [if_pos s] at e; omega
      · rw [if_neg s] at e; exact absurd e (by decide)
/-- a word's letters on both sides -/
theorem nm_ab {b : tTx} {n h : Nat} (e : pK b n h = 3) {z y : Int} (a : kLa (pN b n h) z) (c : kLb (pMw b n h) y) : iI z = iI y := by
  have w := pK_3 e
  have g := tRn_le (b := b) (n := n) (k := tPs b n h) (by omega)
  unfold pMw at c
  rw [w.2.2.2.2] at a
  obtain ⟨m, hm⟩ : ∃ m, tRn b n (tPs b n h) - tPs b n h = m + 1 := by
    refine ⟨tRn b n (tPs b n h) - tPs b n h - 1, ?_⟩
    have : tPs b n h < tRn b n (tPs b n h) := pR_lt e
    omega
  rw [hm] at a c w
  rw [kLa_v w.2.1 w.2.2.1 a, kLb_v w.2.1 w.2.2.1 c]
theorem nm_cd {b : tTx} {n h : Nat} (e : pK b n h = 3) : kLc (pN b n h) = kLd (pMw b n h) := by
  have w := pK_3 e
  unfold pMw
  rw [w.2.2.2.2]
  obtain ⟨m, hm⟩ : ∃ m, tRn b n (tPs b n h) - tPs b n h = m + 1 := by
    refine ⟨tRn b n (tPs b n h) - tPs b n h - 1, ?_⟩
    have : tPs b n h < tRn b n (tPs b n h) := pR_lt e
    omega
  rw [hm] at w ⊢
  rw [kLc_v w.2.1 w.2.2.1, kLd_v w.2.1 w.2.2.1]
/-! the class's lines: what hang and keepLine leave -/
def kHg (AR : gR) (P : Nat) (I I' : gI) (ln : Nat) (z : Int) : Prop := (z < 0 ∧ I' = I) ∨ (0 ≤ z ∧ I' ln 13 = I ln 13 ||| (I (rob AR P z.toNat) 13 ||| kBt z) ∧ (0 ≤ (I (rob AR P z.toNat) 14).toInt ∧ (I (rob AR P z.toNat) 14).toInt ≤ 100 → (I' ln 14).toInt = kMx (I ln 14).toInt ((I (rob AR P z.toNat) 14).toInt + 1)))
/-- what keepLine makes of the line behind the others -/
def kHl (AR : gR) (P : Nat) (I : gI) (f f' : Nat → Int32) : Prop :=
  f' 13 = kH2 (kH2 (f 13) (f 3).toInt (fun u => I (rob AR P u) 13)) (f 4).toInt (fun u => I (rob AR P u) 13) ∧
  (f' 14).toInt = kD2 (kD2 (f 14).toInt (f 3).toInt (fun u => (I (rob AR P u) 14).toInt)) (f 4).toInt (fun u => (I (rob AR P u) 14).toInt)
theorem kHl_2 {AR : gR} {P ln : Nat} {I Ia Ib Ic : gI} {z1 z2 nn : Int} (ea : Ia ln = I ln) (er : ∀ u : Nat, (u : Int) < nn → Ia (rob AR P u) = I (rob AR P u)) (hd : ∀ u : Nat, (u : Int) < nn → 0 ≤ (I (rob AR P u) 14).toInt ∧ (I (rob AR P u) 14).toInt ≤ 100) (hne : ∀ u : Nat, (u : Int) < nn → rob AR P u ≠ ln)
    (h1 : kHg AR P Ia Ib ln z1) (g1 : ∀ q, q ≠ ln → Ib q = Ia q) (h2 : kHg AR P Ib Ic ln z2) (e1 : z1 = (I ln 3).toInt) (e2 : z2 = (I ln 4).toInt) (l1 : z1 < nn) (l2 : z2 < nn) : kHl AR P I (I ln) (Ic ln) := by
  have b13 : Ib ln 13 = kH2 (I ln 13) (I ln 3).toInt (fun u => I (rob AR P u) 13) ∧ (Ib ln 14).toInt = kD2 (I ln 14).toInt (I ln 3).toInt (fun u => (I (rob AR P u) 14).toInt) := by
    rw [← e1]
    unfold kH2 kD2
    rcases h1 with ⟨a, e⟩ | ⟨a, e, d⟩
    · rw [if_pos a, if_pos a, e, ea]; exact ⟨rfl, rfl⟩
    · have u := er z1.toNat (by omega)
      have v := hd z1.toNat (by omega)
      rw [u, ea] at e d
      rw [if_neg (by omega), if_neg (by omega)]
      exact ⟨e, d v⟩
  unfold kHl
  rw [← e2, ← b13.1, ← b13.2]
  unfold kH2 kD2
  rcases h2 with ⟨a, e⟩ | ⟨a, e, d⟩
  · rw [if_pos a, if_pos a, e]; exact ⟨rfl, rfl⟩
  · have u := (g1 _ (hne z2.toNat (by omega))).trans (er z2.toNat (by omega))
    have v := hd z2.toNat (by omega)
    rw [u] at e d
    rw [if_neg (by omega), if_neg (by omega)]
    exact ⟨e, d v⟩
/-- the lines so far -/
def rowsH (gh : gGh) (AR : gR) (I : gI) (q nr : Nat) : Prop := ∀ r : Nat, r < nr →
  ((I (rob AR (gh 6 q) r) 3).toInt < (r : Int) ∧ (I (rob AR (gh 6 q) r) 4).toInt < (r : Int)) ∧
  I (rob AR (gh 6 q) r) 13 = kH2 (kH2 0 (I (rob AR (gh 6 q) r) 3).toInt (fun u => I (rob AR (gh 6 q) u) 13)) (I (rob AR (gh 6 q) r) 4).toInt (fun u => I (rob AR (gh 6 q) u) 13) ∧
  (I (rob AR (gh 6 q) r) 14).toInt = kD2 (kD2 0 (I (rob AR (gh 6 q) r) 3).toInt (fun u => (I (rob AR (gh 6 q) u) 14).toInt)) (I (rob AR (gh 6 q) r) 4).toInt (fun u => (I (rob AR (gh 6 q) u) 14).toInt) ∧
  0 ≤ (I (rob AR (gh 6 q) r) 14).toInt ∧ (I (rob AR (gh 6 q) r) 14).toInt ≤ (r : Int)
section RowsH
variable {gh : gGh} {AR : gR} {I I' : gI} {q nr ln : Nat}
theorem rowsH_0 : rowsH gh AR I q 0 := fun r hr => absurd hr (Nat.not_lt_zero r)
theorem kH2_c {x : Int32} {z : Int} {H H' : Nat → Int32} {m : Nat} (hz : z < (m : Int)) (e : ∀ u, u < m → H' u = H u) : kH2 x z H' = kH2 x z H := by
  unfold kH2
  by_cases q : z < 0
  · rw [if_pos q, if_pos q]
  · rw [if_neg q, if_neg q, e z.toNat (by omega)]
theorem kD2_c {x z : Int} {H H' : Nat → Int} {m : Nat} (hz : z < (m : Int)) (e : ∀ u, u < m → H' u = H u) : kD2 x z H' = kD2 x z H := by
  unfold kD2
  by_cases q : z < 0
  · rw [if_pos q, if_pos q]
  · rw [if_neg q, if_neg q, e z.toNat (by omega)]
theorem rowsH_f (h : rowsH gh AR I q nr) (e : ∀ r, r < nr → I' (rob AR (gh 6 q) r) = I (rob AR (gh 6 q) r)) : rowsH gh AR I' q nr := fun r hr => by
  have w := h r hr
  have e13 : ∀ u, u < r → (fun u => I' (rob AR (gh 6 q) u) 13) u = (fun u => I (rob AR (gh 6 q) u) 13) u := fun u hu => congrFun (e u (by omega)) 13
  have e14 : ∀ u, u < r → (fun u => (I' (rob AR (gh 6 q) u) 14).toInt) u = (fun u => (I (rob AR (gh 6 q) u) 14).toInt) u := fun u hu => congrArg Int32.toInt (congrFun (e u (by omega)) 14)
  rw [e r hr]
  refine ⟨w.1, ?_, ?_, w.2.2.2⟩
  · rw [kH2_c (m := r) w.1.2 e13, kH2_c (m := r) w.1.1 e13]; exact w.2.1
  · rw [kD2_c (m := r) w.1.2 e14, kD2_c (m := r) w.1.1 e14]; exact w.2.2.1
theorem rowsH_d (h : rowsH gh AR I q nr) (h16 : nr ≤ 16) : ∀ u : Nat, (u : Int) < (nr : Int) → 0 ≤ (I (rob AR (gh 6 q) u) 14).toInt ∧ (I (rob AR (gh 6 q) u) 14).toInt ≤ 100 := fun u hu => by
  have w := (h u (by omega)).2.2.2
  exact ⟨w.1, by omega⟩
theorem rowsH_s (h : rowsH gh AR I q nr) (hr : rob AR (gh 6 q) nr = ln) (e : ∀ r, r < nr → I' (rob AR (gh 6 q) r) = I (rob AR (gh 6 q) r)) (ej : ∀ j, j ≠ 13 → j ≠ 14 → I' ln j = I ln j) (hl : kHl AR (gh 6 q) I (I ln) (I' ln)) (z13 : I ln 13 = 0) (z14 : I ln 14 = 0) (l1 : (I ln 3).toInt < (nr : Int)) (l2 : (I ln 4).toInt < (nr : Int)) : rowsH gh AR I' q (nr + 1) := fun r hr1 => by
  by_cases k : r = nr
  · subst k
    have e13 : ∀ u, u < r → (fun u => I' (rob AR (gh 6 q) u) 13) u = (fun u => I (rob AR (gh 6 q) u) 13) u := fun u hu => congrFun (e u (by omega)) 13
    have e14 : ∀ u, u < r → (fun u => (I' (rob AR (gh 6 q) u) 14).toInt) u = (fun u => (I (rob AR (gh 6 q) u) 14).toInt) u := fun u hu => congrArg Int32.toInt (congrFun (e u (by omega)) 14)
    rw [hr, ej 3 (by decide) (by decide), ej 4 (by decide) (by decide)]
    obtain ⟨a, c⟩ := hl
    rw [z13] at a
    rw [z14, show (0 : Int32).toInt = 0 by decide] at c
    have c9 : (I' ln 14).toInt = kD2 (kD2 0 (I ln 3).toInt (fun u => (I (rob AR (gh 6 q) u) 14).toInt)) (I ln 4).toInt (fun u => (I (rob AR (gh 6 q) u) 14).toInt) := c
    refine ⟨⟨l1, l2⟩, ?_, ?_, ?_⟩
    · rw [kH2_c (m := r) l2 e13, kH2_c (m := r) l1 e13]; exact a
    · rw [kD2_c (m := r) l2 e14, kD2_c (m := r) l1 e14]; exact c9
    · have b : ∀ z : Int, z < (r : Int) → ¬ z < 0 → 0 ≤ (I (rob AR (gh 6 q) z.toNat) 14).toInt ∧ (I (rob AR (gh 6 q) z.toNat) 14).toInt + 1 ≤ (r : Int) := fun z h1 h2 => by
        have w := (h z.toNat (by omega)).2.2.2
        omega
      rw [c9]
      have b1 := b (I ln 3).toInt l1
      have b2 := b (I ln 4).toInt l2
      unfold kD2 kMx
      (try dsimp only)
      by_cases q1 : (I ln 3).toInt < 0
      · rw [if_pos q1]
        by_cases q2 : (I ln 4).toInt < 0
        · rw [if_pos q2]; omega
        · rw [if_neg q2]
          have := b2 q2
          by_cases q3 : (0 : Int) > (I (rob AR (gh 6 q) (I ln 4).toInt.toNat) 14).toInt + 1
          · rw [if_pos q3]; omega
          · rw [if_neg q3]; omega
      · rw [if_neg q1]
        have := b1 q1
        by_cases q4 : (0 : Int) > (I (rob AR (gh 6 q) (I ln 3).toInt.toNat) 14).toInt + 1
        · omega
        · rw [if_neg q4]
          by_cases q2 : (I ln 4).toInt < 0
          · rw [if_pos q2]; omega
          · rw [if_neg q2]
            have := b2 q2
            by_cases q3 : (I (rob AR (gh 6 q) (I ln 3).toInt.toNat) 14).toInt + 1 > (I (rob AR (gh 6 q) (I ln 4).toInt.toNat) 14).toInt + 1
            · rw [if_pos q3]; omega
            · rw [if_neg q3]; omega
  · have w := rowsH_f (nr := nr) h e r (by omega)
    exact w
end RowsH
/-- one answer of of: k its kind, c its columns, f and s first and second, h whom it hangs on, o who hangs on it, d how far, P the first letter, l the last -/
def kOf (k c f s : Int) (h o : Int32) (d : Int) (P : Int → Prop) (l : Int32) (wh z : Int) : Prop :=
  (wh = 0 ∧ z = k) ∨ (wh = 1 ∧ z = c) ∨ (wh = 2 ∧ z = f) ∨ (wh = 3 ∧ z = s) ∨ (wh = 4 ∧ iI z = h) ∨ (wh = 5 ∧ iI z = o) ∨ (wh = 6 ∧ z = d) ∨ (wh = 7 ∧ P z) ∨ (wh = 8 ∧ iI z = l) ∨ ((wh < 0 ∨ 8 < wh) ∧ z = -1)
theorem kOf_u {k c f s d k' c' f' s' d' : Int} {h o l h' o' l' : Int32} {P P' : Int → Prop} {wh z y : Int} (hz : zr z) (hy : zr y) (ek : k = k') (ec : c = c') (ef : f = f') (es : s = s') (eh : h = h') (eo : o = o') (ed : d = d') (eP : ∀ z y, P z → P' y → iI z = iI y) (el : l = l') (a : kOf k c f s h o d P l wh z) (a' : kOf k' c' f' s' h' o' d' P' l' wh y) : z = y := by
  subst ek ec ef es eh eo ed el
  have I9 : iI z = iI y → z = y := (iI_eq hz hy).mp
  rcases a with a | a | a | a | a | a | a | a | a | a <;> rcases a' with c | c | c | c | c | c | c | c | c | c
  all_goals first
    | (exfalso; obtain ⟨a1, _⟩ := a; obtain ⟨c1, _⟩ := c; omega)
    | exact a.2.trans c.2.symm
    | exact I9 (a.2.trans c.2.symm)
    | exact I9 (eP z y a.2 c.2)
end
section
def rmX2_hangl : Room := { frames := 1, cells := 0, slots := 0, locals := 40 }
set_option maxHeartbeats 4000000 in
set_option maxRecDepth 100000 in
/-- a line hangs on a relation -/
theorem c_X2_hangl (l : Launch) (g : gG) (gh : gGh) (I : gI) (R : gR) (J : gJ) (AI : gI) (AJ : gJ) (AR : gR) (a : Nat) (ln : Nat) (rel : Int) (zrel : zr rel) (hv : gInv g gh R AR I AI) (ha : gO g a 2) (hln : gO g ln 0) (h0 : -1 ≤ rel ∧ rel ≤ 15) : gMet l g yX2_hang wsX2_hang rmX2_hangl [.ref a, .ref ln, .int (iI rel)] (I, R, J, AI, AJ, AR) (gQv g (fun w : gS => R = w.2.1 ∧ J = w.2.2.1 ∧ AI = w.2.2.2.1 ∧ AJ = w.2.2.2.2.1 ∧ AR = w.2.2.2.2.2 ∧ (gInv g gh R AR (w.1) AI) ∧ (∀ b j, j ≠ 13 → j ≠ 14 → (w.1) b j = I b j) ∧ (∀ q, q ≠ ln → (w.1) q = I q) ∧ (kHg AR (gh 6 a) I (w.1) ln rel))) := by
  refine gStart (cc := cX2_hang) (maxL := 3) (ret := none) (by decide) rfl (Nat.le_of_ble_eq_true rfl) ?_
  intro p e s m below meth c ls F hr hlk hH hz hS hl
  have hl : lv_has ls 3 [(0, .ref a), (1, .ref ln), (2, .int (iI rel))] := hl
  have hS : va_S (gA g) s.heap s.heap [] := hS
  obtain ⟨H, hHe⟩ : ∃ H : Heap, H = s.heap := ⟨_, rfl⟩
  obtain ⟨locs, hlo⟩ : ∃ k : List Loc, k = [] := ⟨_, rfl⟩
  have hH : gH g I R J AI AJ AR H := by rw [hHe]; exact hH
  have hS : va_S (gA g) s.heap H locs := by rw [hHe, hlo]; exact hS
  suffices hw : W p l e rmX2_hangl s m ([.ref a, .ref ln, .int (iI rel)] : List Value).toArray below meth c H locs 0 0 (MQ below (gQv g (fun w : gS => R = w.2.1 ∧ J = w.2.2.1 ∧ AI = w.2.2.2.1 ∧ AJ = w.2.2.2.2.1 ∧ AR = w.2.2.2.2.2 ∧ (gInv g gh R AR (w.1) AI) ∧ (∀ b j, j ≠ 13 → j ≠ 14 → (w.1) b j = I b j) ∧ (∀ q, q ≠ ln → (w.1) q = I q) ∧ (kHg AR (gh 6 a) I (w.1) ln rel))) ([.ref a, .ref ln, .int (iI rel)] : List Value).toArray s 0 0 (gA g)) (F0 m 0 ls []) by
    rw [hHe, hlo] at hw; exact hw
  clear hHe hlo
  have iX2 : ∀ w ∈ u_ws RX2 TX2 3, w ∈ wsX2_hang := (by decide +kernel)
  have iX0 : ∀ w ∈ u_ws RX0 TX0 15, w ∈ wsX2_hang := (by decide +kernel)
  have k26 : Cond.fieldLink RX2 26 (TX0 13).1 (TX0 13).2.1 (TX0 13).2.2.1 ∈ wsX2_hang := List.mem_of_getElem? (i := 1) rfl
  have k11 : Cond.fieldLink RX2 11 (TX2 0).1 (TX2 0).2.1 (TX2 0).2.2.1 ∈ wsX2_hang := List.mem_of_getElem? (i := 2) rfl
  have k45 : Cond.fieldLink RX2 45 (TX0 14).1 (TX0 14).2.1 (TX0 14).2.2.1 ∈ wsX2_hang := List.mem_of_getElem? (i := 3) rfl
  refine lv_iload_n F.1 F.2.1 dX2_hang_0 rfl (lv_at hl 2 rfl) ?_
  refine z_iconst F dX2_hang_1 ?_
  refine z_icmp_eq (tgt := 49) F dX2_hang_2 (by decide) zrel ⟨by decide, by decide⟩ (fun c_1 => ?_) (fun c_1 => ?_)
  · exact g_vret F hr hlk hH hS hz ⟨rfl, rfl, rfl, rfl, rfl, hv, fun _ _ _ _ => rfl, fun _ _ => rfl, Or.inl ⟨by omega, rfl⟩⟩ dX2_hang_49
  · refine lv_aload_n F.1 F.2.1 dX2_hang_5 rfl (lv_at hl 1 rfl) ?_
    refine lv_dup F.1 F.2.1 dX2_hang_6 rfl ?_
    refine g_getI (ci := 0) (k := 13) F hH rfl (by decide) iX0 hln (by decide) rfl k26 dX2_hang_7 ?_
    refine lv_aload_n F.1 F.2.1 dX2_hang_10 rfl (lv_at hl 0 rfl) ?_
    obtain ⟨r_2a, r_2b⟩ := gR_lines hv ha
    refine g_getR (ci := 2) (k := 0) F hH rfl (by decide) iX2 ha (by decide) rfl (b := gh 6 a) r_2a k11 dX2_hang_11 ?_
    refine lv_iload_n F.1 F.2.1 dX2_hang_14 rfl (lv_at hl 2 rfl) ?_
    have hx15 : 0 ≤ rel ∧ rel < ((16 : Nat) : Int) ∧ rel ≤ 2147483647 := ⟨by omega, by omega, by omega⟩
    obtain ⟨y_3, y_3a, y_3b, y_3c, y_3d⟩ := gA_lines hv ha (z := rel) (by omega) (by omega)
    refine g_aldL F hH r_2b hx15.1 hx15.2.1 hx15.2.2 (b := y_3) y_3a dX2_hang_15 ?_
    refine g_getI (ci := 0) (k := 13) F hH rfl (by decide) iX0 y_3b (by decide) rfl k26 dX2_hang_16 ?_
    refine z_iconst F dX2_hang_19 ?_
    refine lv_iload_n F.1 F.2.1 dX2_hang_20 rfl (lv_at hl 2 rfl) ?_
    refine lv_ishl F.1 F.2.1 dX2_hang_21 ?_
    refine z_top (fun v_4 zv_4 ev_4 => ?_)
    refine lv_ior F.1 F.2.1 dX2_hang_22 ?_
    refine z_top (fun v_5 zv_5 ev_5 => ?_)
    refine lv_ior F.1 F.2.1 dX2_hang_23 ?_
    refine z_top (fun v_6 zv_6 ev_6 => ?_)
    refine g_putI (ci := 0) (k := 13) F hH hS rfl (by decide) iX0 hln (by decide) tyX0 tyX0_ok nmX0 rfl rfl rfl k26 dX2_hang_24 (fun H locs hH hS => ?_)
    obtain ⟨I_7, eI_7⟩ : ∃ qQ, qQ = gup2 I ln 13 (iI (v_6)) := ⟨_, rfl⟩
    rw [← eI_7] at hH
    have kI_7 : ∀ b, b ≠ ln → I_7 b = I b := fun b hb => by rw [eI_7]; exact funext fun j => gup2_a _ _ hb
    have hv : gInv g gh R AR I_7 AI := by rw [eI_7]; exact gInv_line13 hv hln
    have f1 : ∀ b j, j ≠ 13 → j ≠ 14 → I_7 b j = I b j := fun b j h _ => by rw [eI_7]; exact gup2_k _ _ h
    have h13a : I_7 ln 13 = I ln 13 ||| (I (rob AR (gh 6 a) rel.toNat) 13 ||| kBt rel) := by
      rw [eI_7, gup2_s, rob_e y_3a]
      simp only [ev_6, ev_5, ev_4, iI_self]
      rfl
    refine lv_aload_n F.1 F.2.1 dX2_hang_27 rfl (lv_at hl 1 rfl) ?_
    refine lv_aload_n F.1 F.2.1 dX2_hang_28 rfl (lv_at hl 1 rfl) ?_
    refine g_getI (ci := 0) (k := 14) F hH rfl (by decide) iX0 hln (by decide) rfl k45 dX2_hang_29 ?_
    refine lv_aload_n F.1 F.2.1 dX2_hang_32 rfl (lv_at hl 0 rfl) ?_
    refine g_getR (ci := 2) (k := 0) F hH rfl (by decide) iX2 ha (by decide) rfl (b := gh 6 a) r_2a k11 dX2_hang_33 ?_
    refine lv_iload_n F.1 F.2.1 dX2_hang_36 rfl (lv_at hl 2 rfl) ?_
    have hx37 : 0 ≤ rel ∧ rel < ((16 : Nat) : Int) ∧ rel ≤ 2147483647 := ⟨by omega, by omega, by omega⟩
    obtain ⟨y_9, y_9a, y_9b, y_9c, y_9d⟩ := gA_lines hv ha (z := rel) (by omega) (by omega)
    refine g_aldL F hH r_2b hx37.1 hx37.2.1 hx37.2.2 (b := y_9) y_9a dX2_hang_37 ?_
    refine g_getI (ci := 0) (k := 14) F hH rfl (by decide) iX0 y_9b (by decide) rfl k45 dX2_hang_38 ?_
    refine z_iconst F dX2_hang_41 ?_
    refine z_iadd F dX2_hang_42 ?_
    refine z_norm (fun v_10 zv_10 ev_10 => ?_)
    refine z_mmax (rest := [.ref ln]) F hl.1 (List.mem_of_getElem? (i := 4) rfl) (List.mem_of_getElem? (i := 5) rfl) (List.mem_of_getElem? (i := 6) rfl) (List.mem_of_getElem? (i := 7) rfl) (Nat.le_of_ble_eq_true rfl) (Nat.le_of_ble_eq_true rfl) (Nat.zero_le _) (Nat.zero_le _) (zr_t _) zv_10 dX2_hang_43 (fun v_11 zv_11 qv_11 => ?_)
    refine g_putI (ci := 0) (k := 14) F hH hS rfl (by decide) iX0 hln (by decide) tyX0 tyX0_ok nmX0 rfl rfl rfl k45 dX2_hang_46 (fun H locs hH hS => ?_)
    obtain ⟨I_12, eI_12⟩ : ∃ qQ, qQ = gup2 I_7 ln 14 (iI (v_11)) := ⟨_, rfl⟩
    rw [← eI_12] at hH
    have kI_12 : ∀ b, b ≠ ln → I_12 b = I_7 b := fun b hb => by rw [eI_12]; exact funext fun j => gup2_a _ _ hb
    have hv : gInv g gh R AR I_12 AI := by rw [eI_12]; exact gInv_line14 hv hln
    have f2 : ∀ b j, j ≠ 13 → j ≠ 14 → I_12 b j = I b j := fun b j h h' => by rw [eI_12, gup2_k _ _ h']; exact f1 b j h h'
    have h13 : I_12 ln 13 = I ln 13 ||| (I (rob AR (gh 6 a) rel.toNat) 13 ||| kBt rel) := by rw [eI_12, gup2_k _ _ (by decide)]; exact h13a
    have h14 : 0 ≤ (I (rob AR (gh 6 a) rel.toNat) 14).toInt ∧ (I (rob AR (gh 6 a) rel.toNat) 14).toInt ≤ 100 → (I_12 ln 14).toInt = kMx (I ln 14).toInt ((I (rob AR (gh 6 a) rel.toNat) 14).toInt + 1) := fun w1 => by
      rw [rob_e y_9a] at w1 ⊢
      have x1 : I_7 ln 14 = I ln 14 := by rw [eI_7]; exact gup2_k _ _ (by decide)
      have x2 : I_7 y_9 14 = I y_9 14 := by rw [eI_7]; exact gup2_k _ _ (by decide)
      have x4 := qv_11
      rw [x1] at x4
      rw [x2] at ev_10
      have x3 := (iI_eq zv_10 ⟨by omega, by omega⟩).mp ev_10
      rw [eI_12, gup2_s, iI_val zv_11]
      unfold kMx
      by_cases q9 : (I ln 14).toInt > (I y_9 14).toInt + 1
      · rw [if_pos q9]; omega
      · rw [if_neg q9]; omega
    exact g_vret F hr hlk hH hS hz ⟨rfl, rfl, rfl, rfl, rfl, hv, f2, fun b hb => (kI_12 b hb).trans (kI_7 b hb), Or.inr ⟨by omega, h13, h14⟩⟩ dX2_hang_49
end
section
/-! what a line holds, by tokens alone: items behind each other (nx: the token behind an item, sp: a separator there) -/
def iCnt (nx : Nat → Nat) (sp : Nat → Bool) : Nat → Nat → Nat
  | 0, _ => 0
  | f + 1, t => if sp (nx t) = true then iCnt nx sp f (nx t + 1) + 1 else 1
def iPos (nx : Nat → Nat) (t : Nat) : Nat → Nat
  | 0 => t
  | k + 1 => nx (iPos nx t k) + 1
/-- i items of F at most are read from h on, the next one is at hc -/
def iL (nx : Nat → Nat) (sp : Nat → Bool) (F h : Nat) (i : Int) (hc : Nat) : Prop :=
  0 ≤ i ∧ ((iCnt nx sp F h : Nat) : Int) = i + ((iCnt nx sp (F - i.toNat) hc : Nat) : Int) ∧ hc = iPos nx h i.toNat
section IL
variable {nx : Nat → Nat} {sp : Nat → Bool} {F h hc t : Nat} {i : Int}
theorem iL_0 : iL nx sp F h 0 h := ⟨Int.le_refl 0, by rw [show ((0 : Int).toNat) = 0 from rfl, Nat.sub_zero]; omega, rfl⟩
theorem iL_p (w : iL nx sp F h i hc) : hc = iPos nx h i.toNat := w.2.2
theorem iL_go (w : iL nx sp F h i hc) (hF : i < (F : Int)) (ht : t = nx hc) (hs : sp t = true) : iL nx sp F h (i + 1) (t + 1) := by
  obtain ⟨w0, w1, w2⟩ := w
  subst ht
  refine ⟨by omega, ?_, ?_⟩
  · rw [show F - i.toNat = (F - (i + 1).toNat) + 1 by omega, iCnt, if_pos hs] at w1
    omega
  · rw [show (i + 1).toNat = i.toNat + 1 by omega, iPos, ← w2]
theorem iL_st (w : iL nx sp F h i hc) (hF : i < (F : Int)) (ht : t = nx hc) (hs : sp t ≠ true) : ((iCnt nx sp F h : Nat) : Int) = i + 1 := by
  obtain ⟨w0, w1, w2⟩ := w
  subst ht
  rw [show F - i.toNat = (F - (i + 1).toNat) + 1 by omega, iCnt, if_neg hs] at w1
  omega
end IL
section Items
variable (b : tTx) (n : Nat)
def nxT (t : Nat) : Nat := t + 3
def spA (t : Nat) : Bool := decide (pK b n t = 3 ∧ pV b n t = 11)
def nxE (t : Nat) : Nat := if pK b n t = 4 then t + 1 else if pK b n (t + 1) = 43 ∨ pK b n (t + 1) = 45 then t + 3 else t + 1
def spC (t : Nat) : Bool := decide (pK b n t = 44)
def nxB (t : Nat) : Nat := t + 1
/-- a term: its column or -1, its number -/
def teC (t : Nat) : Int := if pK b n t = 4 then -1 else pV b n t
def teN (t : Nat) : Int := if pK b n t = 4 then pV b n t else if pK b n (t + 1) = 43 then pV b n (t + 2) else if pK b n (t + 1) = 45 then - pV b n (t + 2) else 0
/-- the class's parts: tests, terms, pairs, columns -/
def qTest (P : Nat → Int32) (j t : Nat) : Prop := (P (4 * j)).toInt = pV b n t ∧ (P (4 * j + 1)).toInt = pK b n (t + 1) ∧ (P (4 * j + 2)).toInt = (if pK b n (t + 2) = 4 then -1 else pV b n (t + 2)) ∧ (P (4 * j + 3)).toInt = pV b n (t + 2)
def qTerm (P : Nat → Int32) (j t : Nat) : Prop := (P (2 * j)).toInt = teC b n t ∧ (P (2 * j + 1)).toInt = teN b n t
def qPair (P : Nat → Int32) (j t : Nat) : Prop := (P (2 * j)).toInt = pV b n t ∧ (P (2 * j + 1)).toInt = pV b n (t + 2)
def qBy (P : Nat → Int32) (j t : Nat) : Prop := (P j).toInt = pV b n t
end Items
/-- the first k items from h on, each as q says; w cells an item -/
def qAll (q : (Nat → Int32) → Nat → Nat → Prop) (nx : Nat → Nat) (P : Nat → Int32) (h : Nat) (k : Int) : Prop := ∀ j : Nat, (j : Int) < k → q P j (iPos nx h j)
def qLoc (q : (Nat → Int32) → Nat → Nat → Prop) (w : Nat) : Prop := ∀ (P P' : Nat → Int32) (j t : Nat), (∀ i, i < w * (j + 1) → P' i = P i) → q P j t → q P' j t
theorem qTest_l {b : tTx} {n : Nat} : qLoc (qTest b n) 4 := fun P P' j t f h => by
  unfold qTest at h ⊢
  rw [f (4 * j) (by omega), f (4 * j + 1) (by omega), f (4 * j + 2) (by omega), f (4 * j + 3) (by omega)]; exact h
theorem qTerm_l {b : tTx} {n : Nat} : qLoc (qTerm b n) 2 := fun P P' j t f h => by
  unfold qTerm at h ⊢
  rw [f (2 * j) (by omega), f (2 * j + 1) (by omega)]; exact h
theorem qPair_l {b : tTx} {n : Nat} : qLoc (qPair b n) 2 := fun P P' j t f h => by
  unfold qPair at h ⊢
  rw [f (2 * j) (by omega), f (2 * j + 1) (by omega)]; exact h
theorem qBy_l {b : tTx} {n : Nat} : qLoc (qBy b n) 1 := fun P P' j t f h => by
  unfold qBy at h ⊢
  rw [f j (by omega)]; exact h
theorem qAll_0 {q : (Nat → Int32) → Nat → Nat → Prop} {nx : Nat → Nat} {P : Nat → Int32} {h : Nat} {k : Int} (e : k ≤ 0) : qAll q nx P h k := fun j hj => absurd hj (by omega)
theorem qAll_s {q : (Nat → Int32) → Nat → Nat → Prop} {nx : Nat → Nat} {sp : Nat → Bool} {P P' : Nat → Int32} {F h hc w : Nat} {k : Int} (hq : qLoc q w) (a : qAll q nx P h k) (hl : iL nx sp F h k hc) (f : ∀ i : Nat, (i : Int) < (w : Int) * k → P' i = P i) (e : q P' k.toNat hc) : qAll q nx P' h (k + 1) := fun j hj => by
  have h0 := hl.1
  by_cases c : (j : Int) < k
  · exact hq P P' j _ (fun i hi => f i (by
      have : (w : Int) * ((j : Int) + 1) ≤ (w : Int) * k := Int.mul_le_mul_of_nonneg_left (by omega) (by omega)
      have h2 : (i : Int) < ((w * (j + 1) : Nat) : Int) := by omega
      rw [Int.natCast_mul, Int.natCast_add] at h2
      exact Int.lt_of_lt_of_le h2 this)) (a j c)
  · have : j = k.toNat := by omega
    subst this
    rw [← iL_p hl]; exact e
/-! where the tokens lie -/
section Where
variable {b : tTx} {n nr h : Nat} {nt : Nat → Nat} {cl : Nat → Int} {c d k lim : Int} {L : List Int} {r : pR}
theorem sTk_h (e : r = sTk b n k h) (h0 : r.1 = 0) : r.2.1 = h + 1 := by
  subst e; unfold sTk at h0 ⊢
  by_cases q : pK b n h = k
  · rw [if_pos q]
  · rw [if_neg q] at h0; exact (pr_no h0 (by decide)).elim
theorem sTw_h (e : r = sTw b n k h) (h0 : r.1 = 0) : r.2.1 = h + 1 := by
  subst e; unfold sTw at h0 ⊢
  by_cases q : pK b n h = 3 ∧ pV b n h = k
  · rw [if_pos q]
  · rw [if_neg q] at h0; exact (pr_no h0 (by decide)).elim
theorem sRl_h (e : r = sRl b n nr nt cl h) (h0 : r.1 = 0) : r.2.1 = h + 1 ∧ r.2.2 = cF b n nr nt cl h ∧ 0 ≤ pFd b n nt nr h := by
  subst e; unfold sRl at h0 ⊢
  by_cases q : pRf b n nt nr h = 0
  · rw [if_pos q]; exact ⟨rfl, rfl, (pRf_i q).2⟩
  · rw [if_neg q] at h0; exact absurd h0 q
theorem sTest_h (e : r = sTest b n c k h) (h0 : r.1 = 0) : r.2.1 = nxT h := by
  subst e; unfold sTest at h0 ⊢
  by_cases q : pCf b n c h = 0
  · rw [if_pos q] at h0 ⊢
    by_cases q1 : 8 ≤ k
    · rw [if_pos q1] at h0; exact (pr_no h0 (by decide)).elim
    · rw [if_neg q1] at h0 ⊢
      by_cases q2 : pK b n (h + 1) = 61 ∨ pK b n (h + 1) = 60 ∨ pK b n (h + 1) = 62
      · rw [if_pos q2] at h0 ⊢
        by_cases q3 : pK b n (h + 2) = 4
        · rw [if_pos q3]; rfl
        · rw [if_neg q3] at h0 ⊢
          by_cases q4 : pCf b n c (h + 2) = 0
          · rw [if_pos q4]; rfl
          · rw [if_neg q4] at h0; exact absurd h0 q4
      · rw [if_neg q2] at h0; exact (pr_no h0 (by decide)).elim
  · rw [if_neg q] at h0; exact absurd h0 q
theorem sTerm_h (e : r = sTerm b n c k h) (h0 : r.1 = 0) : r.2.1 = nxE b n h := by
  subst e; unfold sTerm at h0 ⊢; unfold nxE
  by_cases q : pK b n h = 4
  · rw [if_pos q] at h0 ⊢
    rw [if_pos q]
    by_cases q1 : 4 ≤ k
    · rw [if_pos q1] at h0; exact (pr_no h0 (by decide)).elim
    · rw [if_neg q1]
  · rw [if_neg q] at h0 ⊢
    rw [if_neg q]
    by_cases q1 : pCf b n c h = 0
    · rw [if_pos q1] at h0 ⊢
      by_cases q2 : 4 ≤ k
      · rw [if_pos q2] at h0; exact (pr_no h0 (by decide)).elim
      · rw [if_neg q2] at h0 ⊢
        by_cases q3 : pK b n (h + 1) = 43 ∨ pK b n (h + 1) = 45
        · rw [if_pos q3] at h0 ⊢
          rw [if_pos q3]
          by_cases q4 : pK b n (h + 2) = 4
          · rw [if_pos q4]
          · rw [if_neg q4] at h0; exact (pr_no h0 (by decide)).elim
        · rw [if_neg q3]; rw [if_neg q3]
    · rw [if_neg q1] at h0; exact absurd h0 q1
theorem sPair_h (e : r = sPair b n c d k lim h) (h0 : r.1 = 0) : r.2.1 = nxT h ∧ r.2.2 = pV b n (h + 2) := by
  subst e; unfold sPair at h0 ⊢
  by_cases q : pCf b n c h = 0
  · rw [if_pos q] at h0 ⊢
    by_cases q1 : lim ≤ k
    · rw [if_pos q1] at h0; exact (pr_no h0 (by decide)).elim
    · rw [if_neg q1] at h0 ⊢
      by_cases q2 : (sTk b n 61 (h + 1)).1 = 0
      · have e2 := sTk_h rfl q2
        rw [thn_y (f := fun t _ => if pCf b n d t = 0 then (0, t + 1, pV b n t) else (pCf b n d t, t, 0)) rfl q2 rfl, e2] at h0 ⊢
        by_cases q3 : pCf b n d (h + 1 + 1) = 0
        · rw [if_pos q3]; exact ⟨rfl, rfl⟩
        · rw [if_neg q3] at h0; exact absurd h0 q3
      · rw [thn_x rfl q2] at h0; exact absurd h0 q2
  · rw [if_neg q] at h0; exact absurd h0 q
theorem sBy_h (e : r = sBy b n c k L h) (h0 : r.1 = 0) : r.2.1 = nxB h ∧ r.2.2 = pV b n h := by
  subst e; unfold sBy at h0 ⊢
  by_cases q : pCf b n c h = 0
  · rw [if_pos q] at h0 ⊢
    by_cases q1 : pV b n h ∈ L
    · rw [if_pos q1] at h0; exact (pr_no h0 (by decide)).elim
    · rw [if_neg q1] at h0 ⊢
      by_cases q2 : 3 ≤ k
      · rw [if_pos q2] at h0; exact (pr_no h0 (by decide)).elim
      · rw [if_neg q2]; exact ⟨rfl, rfl⟩
  · rw [if_neg q] at h0; exact absurd h0 q
theorem pFd_c {nt' : Nat → Nat} : ∀ (f w : Nat), (∀ u, w ≤ u → u < w + f → nt' u = nt u) → pFdF b n nt' h f w = pFdF b n nt h f w
  | 0, _, _ => rfl
  | f + 1, w, e => by rw [pFdF, pFdF, e w (Nat.le_refl _) (by omega), pFd_c f (w + 1) (fun u h1 h2 => e u (by omega) (by omega))]
theorem pFd_lt : ∀ (f w : Nat), pFdF b n nt h f w < (w : Int) + f
  | 0, w => by rw [pFdF]; omega
  | f + 1, w => by
    rw [pFdF]
    by_cases q : pN b n (nt w) = pN b n h
    · rw [if_pos q]; omega
    · rw [if_neg q]; have := pFd_lt f (w + 1); omega
end Where
/-! what a line of the class holds; h: where its body begins -/
section Line
variable (b : tTx) (n nr : Nat) (nt : Nat → Nat) (cl : Nat → Int) (h : Nat) (f P : Nat → Int32)
def lA : Int := pFd b n nt nr h
def kSel : Prop := (f 3).toInt = pFd b n nt nr h ∧ (f 4).toInt = -1 ∧ (f 8).toInt = ((iCnt nxT (spA b n) 9 (h + 2) : Nat) : Int) ∧ qAll (qTest b n) nxT P (h + 2) (f 8).toInt
def kPrj : Prop := (f 3).toInt = pFd b n nt nr h ∧ (f 4).toInt = -1 ∧ (f 8).toInt = ((iCnt (nxE b n) (spC b n) 5 (h + 1) : Nat) : Int) ∧ qAll (qTerm b n) (nxE b n) P (h + 1) (f 8).toInt
def kJoi : Prop := (f 3).toInt = pFd b n nt nr h ∧ (f 4).toInt = pFd b n nt nr (h + 1) ∧ (f 5).toInt = cF b n nr nt cl h ∧ (f 6).toInt = cF b n nr nt cl (h + 1) ∧ (f 8).toInt = ((iCnt nxT (spC b n) 5 (h + 3) : Nat) : Int) ∧ qAll (qPair b n) nxT P (h + 3) (f 8).toInt
def kTwo : Prop := (f 3).toInt = pFd b n nt nr h ∧ (f 4).toInt = pFd b n nt nr (h + 1)
def kOne : Prop := (f 3).toInt = pFd b n nt nr h ∧ (f 4).toInt = -1
def kFo (t : Nat) : Prop := (f 11).toInt = pV b n t ∧ (f 12).toInt = (if pV b n t = 16 then 0 else pV b n (t + 1))
def kGrp : Prop := (f 3).toInt = pFd b n nt nr h ∧ (f 4).toInt = -1 ∧ (f 8).toInt = ((iCnt nxB (spC b n) 4 (h + 2) : Nat) : Int) ∧ qAll (qBy b n) nxB P (h + 2) (f 8).toInt ∧ kFo b n f (nxB (iPos nxB (h + 2) ((f 8).toInt.toNat - 1)))
def kRng : Prop := (f 3).toInt = pFd b n nt nr h ∧ (f 4).toInt = pFd b n nt nr (h + 2) ∧ (f 5).toInt = cF b n nr nt cl h ∧ (f 6).toInt = cF b n nr nt cl (h + 2) ∧ (f 9).toInt = pV b n (h + 4) ∧ (f 10).toInt = pV b n (h + 6) ∧ (f 8).toInt = ((iCnt (nxE b n) (spC b n) 5 (h + 8) : Nat) : Int) ∧ qAll (qTerm b n) (nxE b n) P (h + 8) (f 8).toInt
def kLn (kd : Int) : Prop :=
  if kd = 1 then kSel b n nr nt h f P else if kd = 2 then kPrj b n nr nt h f P else if kd = 3 then kJoi b n nr nt cl h f P else if kd = 4 ∨ kd = 5 then kTwo b n nr nt h f
  else if kd = 6 then kOne b n nr nt h f else if kd = 7 then kGrp b n nr nt h f P else if kd = 8 then kRng b n nr nt cl h f P else (f 3).toInt = -1 ∧ (f 4).toInt = -1
end Line
/-- hidden from the arithmetic: where all went well -/
def zIf (z : Int) (p : Prop) : Prop := z = 0 → p
theorem zIf_n {z : Int} {p : Prop} (h : z ≠ 0) : zIf z p := fun e => absurd e h
theorem zIf_y {z : Int} {p : Prop} (h : p) : zIf z p := fun _ => h
theorem pV_n {b : tTx} {n h : Nat} (e : pK b n h = 4) : 0 ≤ pV b n h ∧ pV b n h ≤ 9999 := by
  unfold pK at e
  unfold pV
  generalize tPs b n h = k at e
  unfold tKd at e
  unfold tVl
  by_cases a : n ≤ k
  · rw [if_pos a] at e; exact absurd e (by decide)
  · rw [if_neg a] at e ⊢
    by_cases r : tRu (b k)
    · rw [if_pos r] at e ⊢
      unfold tVr
      rw [e, if_neg (by decide), if_pos rfl]
      unfold tKr at e
      by_cases c : tDc b k (tRn b n k - k) = 0 ∧ tRn b n k - k ≤ 8
      · rw [if_pos c] at e; exact absurd e (by decide)
      · rw [if_neg c] at e
        by_cases d : tDc b k (tRn b n k - k) = tRn b n k - k ∧ tRn b n k - k ≤ 4
        · exact tNb_4 (tDc_all d.1) d.2
        · rw [if_neg d] at e
          by_cases f : tRn b n k - k = 2 ∧ b k = 99 ∧ 48 ≤ b (k + 1) ∧ b (k + 1) ≤ 51
          · rw [if_pos f] at e; exact absurd e (by decide)
          · rw [if_neg f] at e; exact absurd e (by decide)
    · rw [if_neg r] at e
      by_cases s : tSg (b k)
      · rw [if_pos s] at e; have s9 := s; unfold tSg at s9; omega
      · rw [if_neg s] at e; exact absurd e (by decide)
end
