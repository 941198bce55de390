/-! counting -/
def wCnt (f : Nat → Int32) : Nat → Int
  | 0 => 0
  | n + 1 => wCnt f n + (if tI f (6 * (n : Int) + 4) = 0 then 0 else 1)
theorem wCnt_z {f : Nat → Int32} {k : Int} (hk : 0 ≤ k) (h : tI f (6 * k + 4) = 0) : wCnt f (k + 1).toNat = wCnt f k.toNat := by
  have e : (k + 1).toNat = k.toNat + 1 := by omega
  have c : ((k.toNat : Nat) : Int) = k := by omega
  rw [e, wCnt, c, if_pos h]; omega
theorem wCnt_s {f : Nat → Int32} {k : Int} (hk : 0 ≤ k) (h : tI f (6 * k + 4) ≠ 0) : wCnt f (k + 1).toNat = wCnt f k.toNat + 1 := by
  have e : (k + 1).toNat = k.toNat + 1 := by omega
  have c : ((k.toNat : Nat) : Int) = k := by omega
  rw [e, wCnt, c, if_neg h]
theorem wCnt_le {f : Nat → Int32} {a b : Nat} (h : a ≤ b) : wCnt f a ≤ wCnt f b := by
  induction b with
  | zero => have : a = 0 := by omega
            subst this; exact Int.le_refl _
  | succ n ih =>
    by_cases q : a = n + 1
    · subst q; exact Int.le_refl _
    · have := ih (by omega)
      rw [wCnt]
      split <;> omega
theorem wCnt_0 {f : Nat → Int32} {a : Nat} : 0 ≤ wCnt f a := wCnt_le (Nat.zero_le a)
theorem mCnt_z {x k : Int} (hk : 0 ≤ k) (h : mBit x k = 1) : mCnt x (k + 1).toNat = mCnt x k.toNat := by
  have e : (k + 1).toNat = k.toNat + 1 := by omega
  have c : ((k.toNat : Nat) : Int) = k := by omega
  rw [e, mCnt, c, if_pos h]; omega
theorem mCnt_s {x k : Int} (hk : 0 ≤ k) (h : mBit x k ≠ 1) : mCnt x (k + 1).toNat = mCnt x k.toNat + 1 := by
  have e : (k + 1).toNat = k.toNat + 1 := by omega
  have c : ((k.toNat : Nat) : Int) = k := by omega
  rw [e, mCnt, c, if_neg h]
theorem mCnt_le {x : Int} {a b : Nat} (h : a ≤ b) : mCnt x a ≤ mCnt x b := by
  induction b with
  | zero => have : a = 0 := by omega
            subst this; exact Int.le_refl _
  | succ n ih =>
    by_cases q : a = n + 1
    · subst q; exact Int.le_refl _
    · have := ih (by omega)
      rw [mCnt]
      split <;> omega
theorem mCnt_0 {x : Int} {a : Nat} : 0 ≤ mCnt x a := mCnt_le (Nat.zero_le a)
theorem mViews {g : gG} {gh : gGh} {R : gR} {I AI : gI} {m : Nat} {T : Nat → Int32} (hv : mInv g gh R I AI) (hm : gO g m 7) (hT : AI (gh 50 0) = T) {n : Int} (h0 : 0 ≤ n) (h : n < (I m 2).toInt → tI T (40 * n) ≠ 0) : ∀ r : Int, n ≤ r → r < (I m 2).toInt → tI T (40 * r) ≠ 0 := by
  have q : ∀ d : Nat, n + d < (I m 2).toInt → tI T (40 * (n + d)) ≠ 0 := by
    intro d
    induction d with
    | zero => intro hd; have e : n + ((0 : Nat) : Int) = n := by omega
              rw [e] at hd ⊢; exact h hd
    | succ d ih =>
      intro hd hz
      obtain ⟨_, _, _, rd, _⟩ := mRow hv hm hT (z := n + ((d + 1 : Nat) : Int)) (by omega) hd
      have e := rd hz (by omega)
      have c : n + ((d + 1 : Nat) : Int) - 1 = n + (d : Int) := by omega
      rw [c] at e
      exact ih (by omega) e
  intro r h1 h2
  have e : r = n + (((r - n).toNat : Nat) : Int) := by omega
  rw [e]
  exact q _ (by omega)
theorem wCnt_u {f : Nat → Int32} {a : Nat} : wCnt f a ≤ a := by
  induction a with
  | zero => exact Int.le_refl _
  | succ n ih => rw [wCnt]; split <;> omega
theorem mInv_sizes1 {g : gG} {gh : gGh} {R : gR} {I AI AI' : gI} {m : Nat} {z v : Int} (hv : mInv g gh R I AI) (hm : gO g m 7) (e : AI' = gup2 AI (gh 57 0) z.toNat (iI v)) (h0 : 0 ≤ v) (h1 : v ≤ 120) : mInv g gh R I AI' := by
  refine mInv_sizes hv hm (fun b hb => by rw [e]; exact funext fun j => gup2_a _ _ hb) (fun j hj => ?_)
  rw [e]
  by_cases q : j = z.toNat
  · rw [gup2_e _ _ q, iI_val ⟨by omega, by omega⟩]; omega
  · rw [gup2_k _ _ q]; exact (hv.2.1 m hm).2.1 j hj
theorem mInv_ct1 {g : gG} {gh : gGh} {R : gR} {I AI AI' : gI} {m : Nat} {z v : Int} (hv : mInv g gh R I AI) (hm : gO g m 7) (h61 : gh 9 (gh 61 0) = 5) (e : AI' = gup2 AI (gh 61 0) z.toNat (iI v)) (h0 : 0 ≤ v) (h1 : v ≤ 15) : mInv g gh R I AI' := by
  refine mInv_ct hv hm h61 (fun b hb => by rw [e]; exact funext fun j => gup2_a _ _ hb) (fun j hj => ?_)
  rw [e]
  by_cases q : j = z.toNat
  · rw [gup2_e _ _ q, iI_val ⟨by omega, by omega⟩]; omega
  · rw [gup2_k _ _ q]; exact (hv.2.1 m hm).2.2.1 j hj
theorem z_lcmp_lt {x y : Int64} : (lg_cmp x y).toInt < 0 ↔ x.toInt < y.toInt := by
  unfold lg_cmp
  by_cases h1 : y < x
  · rw [if_pos h1]; rw [Int64.lt_iff_toInt_lt] at h1
    constructor
    · intro h; exact absurd h (by decide)
    · intro h; omega
  · rw [if_neg h1]; rw [Int64.lt_iff_toInt_lt] at h1
    by_cases h2 : x = y
    · rw [if_pos h2]
      subst h2
      constructor
      · intro h; exact absurd h (by decide)
      · intro h; omega
    · rw [if_neg h2]
      have e' : x.toInt ≠ y.toInt := fun q => h2 (Int64.toInt_inj.mp q)
      constructor
      · intro _; omega
      · intro _; decide
theorem z_ldiv256 {x : Int64} (h : 256 ≤ x.toInt) : (x / 256).toInt < x.toInt := by
  have e : (x / 256).toInt = x.toInt / 256 := by
    rw [Int64.toInt_div_of_ne_right x 256 (by decide)]
    show x.toInt.tdiv 256 = _
    exact Int.tdiv_eq_ediv_of_nonneg (by omega)
  omega
theorem mSz1 {g : gG} {gh : gGh} {R : gR} {I AI : gI} {m : Nat} (hv : mInv g gh R I AI) (hm : gO g m 7) {z : Int} (h0 : 0 ≤ z) (h1 : z < 176) : 0 ≤ tI (AI (gh 57 0)) z ∧ tI (AI (gh 57 0)) z ≤ 120 := mSz hv hm h0 h1
