section
section MPut
variable {g : gG} {gh : gGh} {R : gR} {I AI : gI} {m : Nat}
theorem mP8 {z : Int} (hv : mInv g gh R I AI) (hm : gO g m 7) (h0 : 0 ≤ z) (h9 : z ≤ 8) : mInv g gh R (gup2 I m 8 (iI z)) AI := mInv_f hv hm (by decide) (by
  have h := mI hv hm
  unfold mNum at h ⊢
  rw [gup2_k (j := 2) (k := 8) _ _ (by decide), gup2_k (j := 5) (k := 8) _ _ (by decide), gup2_k (j := 14) (k := 8) _ _ (by decide), gup2_k (j := 16) (k := 8) _ _ (by decide), gup2_k (j := 18) (k := 8) _ _ (by decide), gup2_k (j := 19) (k := 8) _ _ (by decide), gup2_k (j := 20) (k := 8) _ _ (by decide), gup2_k (j := 21) (k := 8) _ _ (by decide), gup2_k (j := 23) (k := 8) _ _ (by decide), gup2_k (j := 24) (k := 8) _ _ (by decide), gup2_k (j := 26) (k := 8) _ _ (by decide), gup2_s, iI_val ⟨by omega, by omega⟩]
  omega)
theorem mP14 {z : Int} (hv : mInv g gh R I AI) (hm : gO g m 7) (h0 : 0 ≤ z) (h9 : z ≤ 40) : mInv g gh R (gup2 I m 14 (iI z)) AI := mInv_f hv hm (by decide) (by
  have h := mI hv hm
  unfold mNum at h ⊢
  rw [gup2_k (j := 2) (k := 14) _ _ (by decide), gup2_k (j := 5) (k := 14) _ _ (by decide), gup2_k (j := 8) (k := 14) _ _ (by decide), gup2_k (j := 16) (k := 14) _ _ (by decide), gup2_k (j := 18) (k := 14) _ _ (by decide), gup2_k (j := 19) (k := 14) _ _ (by decide), gup2_k (j := 20) (k := 14) _ _ (by decide), gup2_k (j := 21) (k := 14) _ _ (by decide), gup2_k (j := 23) (k := 14) _ _ (by decide), gup2_k (j := 24) (k := 14) _ _ (by decide), gup2_k (j := 26) (k := 14) _ _ (by decide), gup2_s, iI_val ⟨by omega, by omega⟩]
  omega)
theorem mP16 {z : Int} (hv : mInv g gh R I AI) (hm : gO g m 7) (h0 : 0 ≤ z) (h9 : z ≤ 936) : mInv g gh R (gup2 I m 16 (iI z)) AI := mInv_f hv hm (by decide) (by
  have h := mI hv hm
  unfold mNum at h ⊢
  rw [gup2_k (j := 2) (k := 16) _ _ (by decide), gup2_k (j := 5) (k := 16) _ _ (by decide), gup2_k (j := 8) (k := 16) _ _ (by decide), gup2_k (j := 14) (k := 16) _ _ (by decide), gup2_k (j := 18) (k := 16) _ _ (by decide), gup2_k (j := 19) (k := 16) _ _ (by decide), gup2_k (j := 20) (k := 16) _ _ (by decide), gup2_k (j := 21) (k := 16) _ _ (by decide), gup2_k (j := 23) (k := 16) _ _ (by decide), gup2_k (j := 24) (k := 16) _ _ (by decide), gup2_k (j := 26) (k := 16) _ _ (by decide), gup2_s, iI_val ⟨by omega, by omega⟩]
  omega)
theorem mP18 {z : Int} (hv : mInv g gh R I AI) (hm : gO g m 7) (h0 : 0 ≤ z) (h9 : z ≤ 936) : mInv g gh R (gup2 I m 18 (iI z)) AI := mInv_f hv hm (by decide) (by
  have h := mI hv hm
  unfold mNum at h ⊢
  rw [gup2_k (j := 2) (k := 18) _ _ (by decide), gup2_k (j := 5) (k := 18) _ _ (by decide), gup2_k (j := 8) (k := 18) _ _ (by decide), gup2_k (j := 14) (k := 18) _ _ (by decide), gup2_k (j := 16) (k := 18) _ _ (by decide), gup2_k (j := 19) (k := 18) _ _ (by decide), gup2_k (j := 20) (k := 18) _ _ (by decide), gup2_k (j := 21) (k := 18) _ _ (by decide), gup2_k (j := 23) (k := 18) _ _ (by decide), gup2_k (j := 24) (k := 18) _ _ (by decide), gup2_k (j := 26) (k := 18) _ _ (by decide), gup2_s, iI_val ⟨by omega, by omega⟩]
  omega)
theorem mP19 {z : Int} (hv : mInv g gh R I AI) (hm : gO g m 7) (h0 : 0 ≤ z) (h9 : z ≤ 937) : mInv g gh R (gup2 I m 19 (iI z)) AI := mInv_f hv hm (by decide) (by
  have h := mI hv hm
  unfold mNum at h ⊢
  rw [gup2_k (j := 2) (k := 19) _ _ (by decide), gup2_k (j := 5) (k := 19) _ _ (by decide), gup2_k (j := 8) (k := 19) _ _ (by decide), gup2_k (j := 14) (k := 19) _ _ (by decide), gup2_k (j := 16) (k := 19) _ _ (by decide), gup2_k (j := 18) (k := 19) _ _ (by decide), gup2_k (j := 20) (k := 19) _ _ (by decide), gup2_k (j := 21) (k := 19) _ _ (by decide), gup2_k (j := 23) (k := 19) _ _ (by decide), gup2_k (j := 24) (k := 19) _ _ (by decide), gup2_k (j := 26) (k := 19) _ _ (by decide), gup2_s, iI_val ⟨by omega, by omega⟩]
  omega)
theorem mP20 {z : Int} (hv : mInv g gh R I AI) (hm : gO g m 7) (h0 : 0 ≤ z) (h9 : z ≤ 937) : mInv g gh R (gup2 I m 20 (iI z)) AI := mInv_f hv hm (by decide) (by
  have h := mI hv hm
  unfold mNum at h ⊢
  rw [gup2_k (j := 2) (k := 20) _ _ (by decide), gup2_k (j := 5) (k := 20) _ _ (by decide), gup2_k (j := 8) (k := 20) _ _ (by decide), gup2_k (j := 14) (k := 20) _ _ (by decide), gup2_k (j := 16) (k := 20) _ _ (by decide), gup2_k (j := 18) (k := 20) _ _ (by decide), gup2_k (j := 19) (k := 20) _ _ (by decide), gup2_k (j := 21) (k := 20) _ _ (by decide), gup2_k (j := 23) (k := 20) _ _ (by decide), gup2_k (j := 24) (k := 20) _ _ (by decide), gup2_k (j := 26) (k := 20) _ _ (by decide), gup2_s, iI_val ⟨by omega, by omega⟩]
  omega)
theorem mP24 {z : Int} (hv : mInv g gh R I AI) (hm : gO g m 7) (h0 : 0 ≤ z) (h9 : z ≤ 10000) : mInv g gh R (gup2 I m 24 (iI z)) AI := mInv_f hv hm (by decide) (by
  have h := mI hv hm
  unfold mNum at h ⊢
  rw [gup2_k (j := 2) (k := 24) _ _ (by decide), gup2_k (j := 5) (k := 24) _ _ (by decide), gup2_k (j := 8) (k := 24) _ _ (by decide), gup2_k (j := 14) (k := 24) _ _ (by decide), gup2_k (j := 16) (k := 24) _ _ (by decide), gup2_k (j := 18) (k := 24) _ _ (by decide), gup2_k (j := 19) (k := 24) _ _ (by decide), gup2_k (j := 20) (k := 24) _ _ (by decide), gup2_k (j := 21) (k := 24) _ _ (by decide), gup2_k (j := 23) (k := 24) _ _ (by decide), gup2_k (j := 26) (k := 24) _ _ (by decide), gup2_s, iI_val ⟨by omega, by omega⟩]
  omega)
theorem mP26 {z : Int} (hv : mInv g gh R I AI) (hm : gO g m 7) (h0 : 0 ≤ z) (h9 : z ≤ 1600) : mInv g gh R (gup2 I m 26 (iI z)) AI := mInv_f hv hm (by decide) (by
  have h := mI hv hm
  unfold mNum at h ⊢
  rw [gup2_k (j := 2) (k := 26) _ _ (by decide), gup2_k (j := 5) (k := 26) _ _ (by decide), gup2_k (j := 8) (k := 26) _ _ (by decide), gup2_k (j := 14) (k := 26) _ _ (by decide), gup2_k (j := 16) (k := 26) _ _ (by decide), gup2_k (j := 18) (k := 26) _ _ (by decide), gup2_k (j := 19) (k := 26) _ _ (by decide), gup2_k (j := 20) (k := 26) _ _ (by decide), gup2_k (j := 21) (k := 26) _ _ (by decide), gup2_k (j := 23) (k := 26) _ _ (by decide), gup2_k (j := 24) (k := 26) _ _ (by decide), gup2_s, iI_val ⟨by omega, by omega⟩]
  omega)
theorem mP21 {z : Int} (hv : mInv g gh R I AI) (hm : gO g m 7) (hz : zr z) (hc : z = 1 → 0 ≤ (I m 23).toInt ∧ (I m 23).toInt ≤ 3) : mInv g gh R (gup2 I m 21 (iI z)) AI := mInv_f hv hm (by decide) (by
  have h := mI hv hm
  unfold mNum at h ⊢
  rw [gup2_k (j := 2) (k := 21) _ _ (by decide), gup2_k (j := 5) (k := 21) _ _ (by decide), gup2_k (j := 8) (k := 21) _ _ (by decide), gup2_k (j := 14) (k := 21) _ _ (by decide), gup2_k (j := 16) (k := 21) _ _ (by decide), gup2_k (j := 18) (k := 21) _ _ (by decide), gup2_k (j := 19) (k := 21) _ _ (by decide), gup2_k (j := 20) (k := 21) _ _ (by decide), gup2_k (j := 23) (k := 21) _ _ (by decide), gup2_k (j := 24) (k := 21) _ _ (by decide), gup2_k (j := 26) (k := 21) _ _ (by decide), gup2_s, iI_val ⟨by omega, by omega⟩]
  omega)
theorem mP23 {z : Int} (hv : mInv g gh R I AI) (hm : gO g m 7) (hz : zr z) (hc : (I m 21).toInt = 1 → 0 ≤ z ∧ z ≤ 3) : mInv g gh R (gup2 I m 23 (iI z)) AI := mInv_f hv hm (by decide) (by
  have h := mI hv hm
  unfold mNum at h ⊢
  rw [gup2_k (j := 2) (k := 23) _ _ (by decide), gup2_k (j := 5) (k := 23) _ _ (by decide), gup2_k (j := 8) (k := 23) _ _ (by decide), gup2_k (j := 14) (k := 23) _ _ (by decide), gup2_k (j := 16) (k := 23) _ _ (by decide), gup2_k (j := 18) (k := 23) _ _ (by decide), gup2_k (j := 19) (k := 23) _ _ (by decide), gup2_k (j := 20) (k := 23) _ _ (by decide), gup2_k (j := 21) (k := 23) _ _ (by decide), gup2_k (j := 24) (k := 23) _ _ (by decide), gup2_k (j := 26) (k := 23) _ _ (by decide), gup2_s, iI_val ⟨by omega, by omega⟩]
  omega)
theorem mP9 {v : Int32} (hv : mInv g gh R I AI) (hm : gO g m 7) : mInv g gh R (gup2 I m 9 v) AI := mInv_f hv hm (by decide) (by
  have h := mI hv hm
  unfold mNum at h ⊢
  rw [gup2_k (j := 2) (k := 9) _ _ (by decide), gup2_k (j := 5) (k := 9) _ _ (by decide), gup2_k (j := 8) (k := 9) _ _ (by decide), gup2_k (j := 14) (k := 9) _ _ (by decide), gup2_k (j := 16) (k := 9) _ _ (by decide), gup2_k (j := 18) (k := 9) _ _ (by decide), gup2_k (j := 19) (k := 9) _ _ (by decide), gup2_k (j := 20) (k := 9) _ _ (by decide), gup2_k (j := 21) (k := 9) _ _ (by decide), gup2_k (j := 23) (k := 9) _ _ (by decide), gup2_k (j := 24) (k := 9) _ _ (by decide), gup2_k (j := 26) (k := 9) _ _ (by decide)]
  exact h)
theorem mP10 {v : Int32} (hv : mInv g gh R I AI) (hm : gO g m 7) : mInv g gh R (gup2 I m 10 v) AI := mInv_f hv hm (by decide) (by
  have h := mI hv hm
  unfold mNum at h ⊢
  rw [gup2_k (j := 2) (k := 10) _ _ (by decide), gup2_k (j := 5) (k := 10) _ _ (by decide), gup2_k (j := 8) (k := 10) _ _ (by decide), gup2_k (j := 14) (k := 10) _ _ (by decide), gup2_k (j := 16) (k := 10) _ _ (by decide), gup2_k (j := 18) (k := 10) _ _ (by decide), gup2_k (j := 19) (k := 10) _ _ (by decide), gup2_k (j := 20) (k := 10) _ _ (by decide), gup2_k (j := 21) (k := 10) _ _ (by decide), gup2_k (j := 23) (k := 10) _ _ (by decide), gup2_k (j := 24) (k := 10) _ _ (by decide), gup2_k (j := 26) (k := 10) _ _ (by decide)]
  exact h)
theorem mP17 {v : Int32} (hv : mInv g gh R I AI) (hm : gO g m 7) : mInv g gh R (gup2 I m 17 v) AI := mInv_f hv hm (by decide) (by
  have h := mI hv hm
  unfold mNum at h ⊢
  rw [gup2_k (j := 2) (k := 17) _ _ (by decide), gup2_k (j := 5) (k := 17) _ _ (by decide), gup2_k (j := 8) (k := 17) _ _ (by decide), gup2_k (j := 14) (k := 17) _ _ (by decide), gup2_k (j := 16) (k := 17) _ _ (by decide), gup2_k (j := 18) (k := 17) _ _ (by decide), gup2_k (j := 19) (k := 17) _ _ (by decide), gup2_k (j := 20) (k := 17) _ _ (by decide), gup2_k (j := 21) (k := 17) _ _ (by decide), gup2_k (j := 23) (k := 17) _ _ (by decide), gup2_k (j := 24) (k := 17) _ _ (by decide), gup2_k (j := 26) (k := 17) _ _ (by decide)]
  exact h)
end MPut
end
section
/-! counting -/
def wCnt (f : Nat → Int32) : Nat → Int
  | 0 => 0
  | n + 1 => wCnt f n + (if tI f (6 * (n : Int) + 4) = 0 then 0 else 1)
theorem wCnt_z {f : Nat → Int32} {k : Int} (hk : 0 ≤ k) (h : tI f (6 * k + 4) = 0) : wCnt f (k + 1).toNat = wCnt f k.toNat := by
  have e : (k + 1).toNat = k.toNat + 1 := by omega
  have c : ((k.toNat : Nat) : Int) = k := by omega
  rw [e, wCnt, c, if_pos h]; omega
theorem wCnt_s {f : Nat → Int32} {k : Int} (hk : 0 ≤ k) (h : tI f (6 * k + 4) ≠ 0) : wCnt f (k + 1).toNat = wCnt f k.toNat + 1 := by
  have e : (k + 1).toNat = k.toNat + 1 := by omega
  have c : ((k.toNat : Nat) : Int) = k := by omega
  rw [e, wCnt, c, if_neg h]
theorem wCnt_le {f : Nat → Int32} {a b : Nat} (h : a ≤ b) : wCnt f a ≤ wCnt f b := by
  induction b with
  | zero => have : a = 0 := by omega
            subst this; exact Int.le_refl _
  | succ n ih =>
    by_cases q : a = n + 1
    · subst q; exact Int.le_refl _
    · have := ih (by omega)
      rw [wCnt]
      split <;> omega
theorem wCnt_0 {f : Nat → Int32} {a : Nat} : 0 ≤ wCnt f a := wCnt_le (Nat.zero_le a)
theorem mCnt_z {x k : Int} (hk : 0 ≤ k) (h : mBit x k = 1) : mCnt x (k + 1).toNat = mCnt x k.toNat := by
  have e : (k + 1).toNat = k.toNat + 1 := by omega
  have c : ((k.toNat : Nat) : Int) = k := by omega
  rw [e, mCnt, c, if_pos h]; omega
theorem mCnt_s {x k : Int} (hk : 0 ≤ k) (h : mBit x k ≠ 1) : mCnt x (k + 1).toNat = mCnt x k.toNat + 1 := by
  have e : (k + 1).toNat = k.toNat + 1 := by omega
  have c : ((k.toNat : Nat) : Int) = k := by omega
  rw [e, mCnt, c, if_neg h]
theorem mCnt_le {x : Int} {a b : Nat} (h : a ≤ b) : mCnt x a ≤ mCnt x b := by
  induction b with
  | zero => have : a = 0 := by omega
            subst this; exact Int.le_refl _
  | succ n ih =>
    by_cases q : a = n + 1
    · subst q; exact Int.le_refl _
    · have := ih (by omega)
      rw [mCnt]
      split <;> omega
theorem mCnt_0 {x : Int} {a : Nat} : 0 ≤ mCnt x a := mCnt_le (Nat.zero_le a)
theorem mViews {g : gG} {gh : gGh} {R : gR} {I AI : gI} {m : Nat} {T : Nat → Int32} (hv : mInv g gh R I AI) (hm : gO g m 7) (hT : AI (gh 50 0) = T) {n : Int} (h0 : 0 ≤ n) (h : n < (I m 2).toInt → tI T (40 * n) ≠ 0) : ∀ r : Int, n ≤ r → r < (I m 2).toInt → tI T (40 * r) ≠ 0 := by
  have q : ∀ d : Nat, n + d < (I m 2).toInt → tI T (40 * (n + d)) ≠ 0 := by
    intro d
    induction d with
    | zero => intro hd; have e : n + ((0 : Nat) : Int) = n := by omega
              rw [e] at hd ⊢; exact h hd
    | succ d ih =>
      intro hd hz
      obtain ⟨_, _, _, rd, _⟩ := mRow hv hm hT (z := n + ((d + 1 : Nat) : Int)) (by omega) hd
      have e := rd hz (by omega)
      have c : n + ((d + 1 : Nat) : Int) - 1 = n + (d : Int) := by omega
      rw [c] at e
      exact ih (by omega) e
  intro r h1 h2
  have e : r = n + (((r - n).toNat : Nat) : Int) := by omega
  rw [e]
  exact q _ (by omega)
theorem wCnt_u {f : Nat → Int32} {a : Nat} : wCnt f a ≤ a := by
  induction a with
  | zero => exact Int.le_refl _
  | succ n ih => rw [wCnt]; split <;> omega
theorem mInv_sizes1 {g : gG} {gh : gGh} {R : gR} {I AI AI' : gI} {m : Nat} {z v : Int} (hv : mInv g gh R I AI) (hm : gO g m 7) (e : AI' = gup2 AI (gh 57 0) z.toNat (iI v)) (h0 : 0 ≤ v) (h1 : v ≤ 120) : mInv g gh R I AI' := by
  refine mInv_sizes hv hm (fun b hb => by rw [e]; exact funext fun j => gup2_a _ _ hb) (fun j hj => ?_)
  rw [e]
  by_cases q : j = z.toNat
  · rw [gup2_e _ _ q, iI_val ⟨by omega, by omega⟩]; omega
  · rw [gup2_k _ _ q]; exact (hv.2.1 m hm).2.1 j hj
theorem mInv_ct1 {g : gG} {gh : gGh} {R : gR} {I AI AI' : gI} {m : Nat} {z v : Int} (hv : mInv g gh R I AI) (hm : gO g m 7) (h61 : gh 9 (gh 61 0) = 5) (e : AI' = gup2 AI (gh 61 0) z.toNat (iI v)) (h0 : 0 ≤ v) (h1 : v ≤ 15) : mInv g gh R I AI' := by
  refine mInv_ct hv hm h61 (fun b hb => by rw [e]; exact funext fun j => gup2_a _ _ hb) (fun j hj => ?_)
  rw [e]
  by_cases q : j = z.toNat
  · rw [gup2_e _ _ q, iI_val ⟨by omega, by omega⟩]; omega
  · rw [gup2_k _ _ q]; exact (hv.2.1 m hm).2.2.1 j hj
theorem z_lcmp_lt {x y : Int64} : (lg_cmp x y).toInt < 0 ↔ x.toInt < y.toInt := by
  unfold lg_cmp
  by_cases h1 : y < x
  · rw [if_pos h1]; rw [Int64.lt_iff_toInt_lt] at h1
    constructor
    · intro h; exact absurd h (by decide)
    · intro h; omega
  · rw [if_neg h1]; rw [Int64.lt_iff_toInt_lt] at h1
    by_cases h2 : x = y
    · rw [if_pos h2]
      subst h2
      constructor
      · intro h; exact absurd h (by decide)
      · intro h; omega
    · rw [if_neg h2]
      have e' : x.toInt ≠ y.toInt := fun q => h2 (Int64.toInt_inj.mp q)
      constructor
      · intro _; omega
      · intro _; decide
theorem z_ldiv256 {x : Int64} (h : 256 ≤ x.toInt) : (x / 256).toInt < x.toInt := by
  have e : (x / 256).toInt = x.toInt / 256 := by
    rw [Int64.toInt_div_of_ne_right x 256 (by decide)]
    show x.toInt.tdiv 256 = _
    exact Int.tdiv_eq_ediv_of_nonneg (by omega)
  omega
theorem mSz1 {g : gG} {gh : gGh} {R : gR} {I AI : gI} {m : Nat} (hv : mInv g gh R I AI) (hm : gO g m 7) {z : Int} (h0 : 0 ≤ z) (h1 : z < 176) : 0 ≤ tI (AI (gh 57 0)) z ∧ tI (AI (gh 57 0)) z ≤ 120 := mSz hv hm h0 h1
end
section
def rmX7_within : Room := { frames := 0, cells := 0, slots := 0, locals := 0 }
theorem hdX7_within : yX7_within.cls = RX7 ∧ yX7_within.cls ≠ "java/lang/invoke/MethodHandle" ∧ yX7_within.cls ≠ "java/lang/invoke/VarHandle" ∧ (parseMethodDescriptor yX7_within.desc).map (fun d => d.parameters.length) = some 3 := by decide +kernel
set_option maxHeartbeats 4000000 in
set_option maxRecDepth 100000 in
/-- within -/
theorem c_X7_within (l : Launch) (g : gG)  (I : gI) (R : gR) (J : gJ) (AI : gI) (AJ : gJ) (AR : gR) (va : Int) (lw : Int) (hg : Int) (zva : zr va) (zlw : zr lw) (zhg : zr hg) : gMet l g yX7_within tsX7_within rmX7_within [.int (iI va), .int (iI lw), .int (iI hg)] (I, R, J, AI, AJ, AR) (gQi g (fun (z : Int) (w : gS) => I = w.1 ∧ R = w.2.1 ∧ J = w.2.2.1 ∧ AI = w.2.2.2.1 ∧ AJ = w.2.2.2.2.1 ∧ AR = w.2.2.2.2.2 ∧ ((z = 0 ∨ z = 1) ∧ (z = 1 → lw ≤ va ∧ va ≤ hg) ∧ (z = 0 → va < lw ∨ hg < va)))) := by
  refine gStart (cc := cX7_within) (maxL := 3) (ret := (some (.boolean))) (by decide) rfl (Nat.le_of_ble_eq_true rfl) ?_
  intro p e s m below meth c ls F hr hlk hH hz hS hl
  have hl : lv_has ls 3 [(0, .int (iI va)), (1, .int (iI lw)), (2, .int (iI hg))] := hl
  have hS : va_S (gA g) s.heap s.heap [] := hS
  obtain ⟨H, hHe⟩ : ∃ H : Heap, H = s.heap := ⟨_, rfl⟩
  obtain ⟨locs, hlo⟩ : ∃ k : List Loc, k = [] := ⟨_, rfl⟩
  have hH : gH g I R J AI AJ AR H := by rw [hHe]; exact hH
  have hS : va_S (gA g) s.heap H locs := by rw [hHe, hlo]; exact hS
  suffices hw : W p l e rmX7_within s m ([.int (iI va), .int (iI lw), .int (iI hg)] : List Value).toArray below meth c H locs 0 0 (MQ below (gQi g (fun (z : Int) (w : gS) => I = w.1 ∧ R = w.2.1 ∧ J = w.2.2.1 ∧ AI = w.2.2.2.1 ∧ AJ = w.2.2.2.2.1 ∧ AR = w.2.2.2.2.2 ∧ ((z = 0 ∨ z = 1) ∧ (z = 1 → lw ≤ va ∧ va ≤ hg) ∧ (z = 0 → va < lw ∨ hg < va)))) ([.int (iI va), .int (iI lw), .int (iI hg)] : List Value).toArray s 0 0 (gA g)) (F0 m 0 ls []) by
    rw [hHe, hlo] at hw; exact hw
  clear hHe hlo
  refine lv_iload_n F.1 F.2.1 dX7_within_0 rfl (lv_at hl 0 rfl) ?_
  refine lv_iload_n F.1 F.2.1 dX7_within_1 rfl (lv_at hl 1 rfl) ?_
  refine z_icmp_lt (tgt := 14) F dX7_within_2 (by decide) zva zlw (fun c_1 => ?_) (fun c_1 => ?_)
  · refine z_iconst F dX7_within_14 ?_
    exact g_zret F hr hlk hH hS hz (by omega) ⟨rfl, rfl, rfl, rfl, rfl, rfl, ⟨by omega, fun _ => by omega, fun _ => by omega⟩⟩ dX7_within_15
  · refine lv_iload_n F.1 F.2.1 dX7_within_5 rfl (lv_at hl 0 rfl) ?_
    refine lv_iload_n F.1 F.2.1 dX7_within_6 rfl (lv_at hl 2 rfl) ?_
    refine z_icmp_gt (tgt := 14) F dX7_within_7 (by decide) zva zhg (fun c_2 => ?_) (fun c_2 => ?_)
    · refine z_iconst F dX7_within_14 ?_
      exact g_zret F hr hlk hH hS hz (by omega) ⟨rfl, rfl, rfl, rfl, rfl, rfl, ⟨by omega, fun _ => by omega, fun _ => by omega⟩⟩ dX7_within_15
    · refine z_iconst F dX7_within_10 ?_
      refine z_goto (tgt := 15) F dX7_within_11 (by decide) ?_
      exact g_zret F hr hlk hH hS hz (by omega) ⟨rfl, rfl, rfl, rfl, rfl, rfl, ⟨by omega, fun _ => by omega, fun _ => by omega⟩⟩ dX7_within_15

theorem hdX7_isRelation : yX7_isRelation.cls = RX7 ∧ yX7_isRelation.cls ≠ "java/lang/invoke/MethodHandle" ∧ yX7_isRelation.cls ≠ "java/lang/invoke/VarHandle" ∧ (parseMethodDescriptor yX7_isRelation.desc).map (fun d => d.parameters.length) = some 1 := by decide +kernel
def rmX7_kindOf : Room := { frames := 0, cells := 0, slots := 0, locals := 0 }
theorem hdX7_kindOf : yX7_kindOf.cls = RX7 ∧ yX7_kindOf.cls ≠ "java/lang/invoke/MethodHandle" ∧ yX7_kindOf.cls ≠ "java/lang/invoke/VarHandle" ∧ (parseMethodDescriptor yX7_kindOf.desc).map (fun d => d.parameters.length) = some 1 := by decide +kernel
set_option maxHeartbeats 4000000 in
set_option maxRecDepth 100000 in
/-- kindOf -/
theorem c_X7_kindOf (l : Launch) (g : gG) (gh : gGh) (T : Nat → Int32) (I : gI) (R : gR) (J : gJ) (AI : gI) (AJ : gJ) (AR : gR) (mo : Nat) (rr : Int) (zrr : zr rr) (hv : mInv g gh R I AI) (hm : gO g mo 7) (hT : AI (gh 50 0) = T) (h0 : 0 ≤ rr ∧ rr ≤ 15) : gMet l g yX7_kindOf tsX7_kindOf rmX7_kindOf [.ref mo, .int (iI rr)] (I, R, J, AI, AJ, AR) (gQi g (fun (z : Int) (w : gS) => I = w.1 ∧ R = w.2.1 ∧ J = w.2.2.1 ∧ AI = w.2.2.2.1 ∧ AJ = w.2.2.2.2.1 ∧ AR = w.2.2.2.2.2 ∧ (z = tI T (40 * rr)))) := by
  refine gStart (cc := cX7_kindOf) (maxL := 2) (ret := (some (.int))) (by decide) rfl (Nat.le_of_ble_eq_true rfl) ?_
  intro p e s m below meth c ls F hr hlk hH hz hS hl
  have hl : lv_has ls 2 [(0, .ref mo), (1, .int (iI rr))] := hl
  have hS : va_S (gA g) s.heap s.heap [] := hS
  obtain ⟨H, hHe⟩ : ∃ H : Heap, H = s.heap := ⟨_, rfl⟩
  obtain ⟨locs, hlo⟩ : ∃ k : List Loc, k = [] := ⟨_, rfl⟩
  have hH : gH g I R J AI AJ AR H := by rw [hHe]; exact hH
  have hS : va_S (gA g) s.heap H locs := by rw [hHe, hlo]; exact hS
  suffices hw : W p l e rmX7_kindOf s m ([.ref mo, .int (iI rr)] : List Value).toArray below meth c H locs 0 0 (MQ below (gQi g (fun (z : Int) (w : gS) => I = w.1 ∧ R = w.2.1 ∧ J = w.2.2.1 ∧ AI = w.2.2.2.1 ∧ AJ = w.2.2.2.2.1 ∧ AR = w.2.2.2.2.2 ∧ (z = tI T (40 * rr)))) ([.ref mo, .int (iI rr)] : List Value).toArray s 0 0 (gA g)) (F0 m 0 ls []) by
    rw [hHe, hlo] at hw; exact hw
  clear hHe hlo
  have iX7 : ∀ w ∈ u_ws RX7 TX7 32, w ∈ tsX7_kindOf := fun w h => List.mem_cons_of_mem _ (inTB7 w h)
  have k7 : Cond.fieldLink RX7 7 (TX7 0).1 (TX7 0).2.1 (TX7 0).2.2.1 ∈ tsX7_kindOf := List.mem_cons_of_mem _ fl_7
  refine lv_aload_n F.1 F.2.1 dX7_kindOf_0 rfl (lv_at hl 0 rfl) ?_
  obtain ⟨r_1a, r_1b⟩ : R mo 0 = some (gh 50 0) ∧ gAr g (gh 50 0) 9 640 := mR hv hm (q := (0, 640)) (by decide)
  refine g_getR (ci := 7) (k := 0) F hH rfl (by decide) iX7 hm (by decide) rfl (b := gh 50 0) r_1a k7 dX7_kindOf_1 ?_
  refine z_bipush F dX7_kindOf_4 (by decide) ?_
  refine lv_iload_n F.1 F.2.1 dX7_kindOf_6 rfl (lv_at hl 1 rfl) ?_
  refine z_imul F dX7_kindOf_7 ?_
  have hx8 : 0 ≤ (40 * rr) ∧ (40 * rr) < ((640 : Nat) : Int) ∧ (40 * rr) ≤ 2147483647 := ⟨by omega, by omega, by omega⟩
  refine g_iald F hH r_1b hx8.1 hx8.2.1 hx8.2.2 dX7_kindOf_8 ?_
  exact g_iret F hr hlk hH hS hz (zr_t _) ⟨rfl, rfl, rfl, rfl, rfl, rfl, by rw [← hT]; rfl⟩ dX7_kindOf_9

def rmX7_columnsOf : Room := { frames := 0, cells := 0, slots := 0, locals := 0 }
theorem hdX7_columnsOf : yX7_columnsOf.cls = RX7 ∧ yX7_columnsOf.cls ≠ "java/lang/invoke/MethodHandle" ∧ yX7_columnsOf.cls ≠ "java/lang/invoke/VarHandle" ∧ (parseMethodDescriptor yX7_columnsOf.desc).map (fun d => d.parameters.length) = some 1 := by decide +kernel
set_option maxHeartbeats 4000000 in
set_option maxRecDepth 100000 in
/-- columnsOf -/
theorem c_X7_columnsOf (l : Launch) (g : gG) (gh : gGh) (T : Nat → Int32) (I : gI) (R : gR) (J : gJ) (AI : gI) (AJ : gJ) (AR : gR) (mo : Nat) (rr : Int) (zrr : zr rr) (hv : mInv g gh R I AI) (hm : gO g mo 7) (hT : AI (gh 50 0) = T) (h0 : 0 ≤ rr ∧ rr ≤ 15) : gMet l g yX7_columnsOf tsX7_columnsOf rmX7_columnsOf [.ref mo, .int (iI rr)] (I, R, J, AI, AJ, AR) (gQi g (fun (z : Int) (w : gS) => I = w.1 ∧ R = w.2.1 ∧ J = w.2.2.1 ∧ AI = w.2.2.2.1 ∧ AJ = w.2.2.2.2.1 ∧ AR = w.2.2.2.2.2 ∧ (z = tI T (40 * rr + 1)))) := by
  refine gStart (cc := cX7_columnsOf) (maxL := 2) (ret := (some (.int))) (by decide) rfl (Nat.le_of_ble_eq_true rfl) ?_
  intro p e s m below meth c ls F hr hlk hH hz hS hl
  have hl : lv_has ls 2 [(0, .ref mo), (1, .int (iI rr))] := hl
  have hS : va_S (gA g) s.heap s.heap [] := hS
  obtain ⟨H, hHe⟩ : ∃ H : Heap, H = s.heap := ⟨_, rfl⟩
  obtain ⟨locs, hlo⟩ : ∃ k : List Loc, k = [] := ⟨_, rfl⟩
  have hH : gH g I R J AI AJ AR H := by rw [hHe]; exact hH
  have hS : va_S (gA g) s.heap H locs := by rw [hHe, hlo]; exact hS
  suffices hw : W p l e rmX7_columnsOf s m ([.ref mo, .int (iI rr)] : List Value).toArray below meth c H locs 0 0 (MQ below (gQi g (fun (z : Int) (w : gS) => I = w.1 ∧ R = w.2.1 ∧ J = w.2.2.1 ∧ AI = w.2.2.2.1 ∧ AJ = w.2.2.2.2.1 ∧ AR = w.2.2.2.2.2 ∧ (z = tI T (40 * rr + 1)))) ([.ref mo, .int (iI rr)] : List Value).toArray s 0 0 (gA g)) (F0 m 0 ls []) by
    rw [hHe, hlo] at hw; exact hw
  clear hHe hlo
  have iX7 : ∀ w ∈ u_ws RX7 TX7 32, w ∈ tsX7_columnsOf := fun w h => List.mem_cons_of_mem _ (inTB7 w h)
  have k7 : Cond.fieldLink RX7 7 (TX7 0).1 (TX7 0).2.1 (TX7 0).2.2.1 ∈ tsX7_columnsOf := List.mem_cons_of_mem _ fl_7
  refine lv_aload_n F.1 F.2.1 dX7_columnsOf_0 rfl (lv_at hl 0 rfl) ?_
  obtain ⟨r_1a, r_1b⟩ : R mo 0 = some (gh 50 0) ∧ gAr g (gh 50 0) 9 640 := mR hv hm (q := (0, 640)) (by decide)
  refine g_getR (ci := 7) (k := 0) F hH rfl (by decide) iX7 hm (by decide) rfl (b := gh 50 0) r_1a k7 dX7_columnsOf_1 ?_
  refine z_bipush F dX7_columnsOf_4 (by decide) ?_
  refine lv_iload_n F.1 F.2.1 dX7_columnsOf_6 rfl (lv_at hl 1 rfl) ?_
  refine z_imul F dX7_columnsOf_7 ?_
  refine z_iconst F dX7_columnsOf_8 ?_
  refine z_iadd F dX7_columnsOf_9 ?_
  have hx10 : 0 ≤ ((40 * rr) + 1) ∧ ((40 * rr) + 1) < ((640 : Nat) : Int) ∧ ((40 * rr) + 1) ≤ 2147483647 := ⟨by omega, by omega, by omega⟩
  refine g_iald F hH r_1b hx10.1 hx10.2.1 hx10.2.2 dX7_columnsOf_10 ?_
  exact g_iret F hr hlk hH hS hz (zr_t _) ⟨rfl, rfl, rfl, rfl, rfl, rfl, by rw [← hT]; rfl⟩ dX7_columnsOf_11

def rmX7_firstOf : Room := { frames := 0, cells := 0, slots := 0, locals := 0 }
theorem hdX7_firstOf : yX7_firstOf.cls = RX7 ∧ yX7_firstOf.cls ≠ "java/lang/invoke/MethodHandle" ∧ yX7_firstOf.cls ≠ "java/lang/invoke/VarHandle" ∧ (parseMethodDescriptor yX7_firstOf.desc).map (fun d => d.parameters.length) = some 1 := by decide +kernel
set_option maxHeartbeats 4000000 in
set_option maxRecDepth 100000 in
/-- firstOf -/
theorem c_X7_firstOf (l : Launch) (g : gG) (gh : gGh) (T : Nat → Int32) (I : gI) (R : gR) (J : gJ) (AI : gI) (AJ : gJ) (AR : gR) (mo : Nat) (rr : Int) (zrr : zr rr) (hv : mInv g gh R I AI) (hm : gO g mo 7) (hT : AI (gh 50 0) = T) (h0 : 0 ≤ rr ∧ rr ≤ 15) : gMet l g yX7_firstOf tsX7_firstOf rmX7_firstOf [.ref mo, .int (iI rr)] (I, R, J, AI, AJ, AR) (gQi g (fun (z : Int) (w : gS) => I = w.1 ∧ R = w.2.1 ∧ J = w.2.2.1 ∧ AI = w.2.2.2.1 ∧ AJ = w.2.2.2.2.1 ∧ AR = w.2.2.2.2.2 ∧ (z = tI T (40 * rr + 2)))) := by
  refine gStart (cc := cX7_firstOf) (maxL := 2) (ret := (some (.int))) (by decide) rfl (Nat.le_of_ble_eq_true rfl) ?_
  intro p e s m below meth c ls F hr hlk hH hz hS hl
  have hl : lv_has ls 2 [(0, .ref mo), (1, .int (iI rr))] := hl
  have hS : va_S (gA g) s.heap s.heap [] := hS
  obtain ⟨H, hHe⟩ : ∃ H : Heap, H = s.heap := ⟨_, rfl⟩
  obtain ⟨locs, hlo⟩ : ∃ k : List Loc, k = [] := ⟨_, rfl⟩
  have hH : gH g I R J AI AJ AR H := by rw [hHe]; exact hH
  have hS : va_S (gA g) s.heap H locs := by rw [hHe, hlo]; exact hS
  suffices hw : W p l e rmX7_firstOf s m ([.ref mo, .int (iI rr)] : List Value).toArray below meth c H locs 0 0 (MQ below (gQi g (fun (z : Int) (w : gS) => I = w.1 ∧ R = w.2.1 ∧ J = w.2.2.1 ∧ AI = w.2.2.2.1 ∧ AJ = w.2.2.2.2.1 ∧ AR = w.2.2.2.2.2 ∧ (z = tI T (40 * rr + 2)))) ([.ref mo, .int (iI rr)] : List Value).toArray s 0 0 (gA g)) (F0 m 0 ls []) by
    rw [hHe, hlo] at hw; exact hw
  clear hHe hlo
  have iX7 : ∀ w ∈ u_ws RX7 TX7 32, w ∈ tsX7_firstOf := fun w h => List.mem_cons_of_mem _ (inTB7 w h)
  have k7 : Cond.fieldLink RX7 7 (TX7 0).1 (TX7 0).2.1 (TX7 0).2.2.1 ∈ tsX7_firstOf := List.mem_cons_of_mem _ fl_7
  refine lv_aload_n F.1 F.2.1 dX7_firstOf_0 rfl (lv_at hl 0 rfl) ?_
  obtain ⟨r_1a, r_1b⟩ : R mo 0 = some (gh 50 0) ∧ gAr g (gh 50 0) 9 640 := mR hv hm (q := (0, 640)) (by decide)
  refine g_getR (ci := 7) (k := 0) F hH rfl (by decide) iX7 hm (by decide) rfl (b := gh 50 0) r_1a k7 dX7_firstOf_1 ?_
  refine z_bipush F dX7_firstOf_4 (by decide) ?_
  refine lv_iload_n F.1 F.2.1 dX7_firstOf_6 rfl (lv_at hl 1 rfl) ?_
  refine z_imul F dX7_firstOf_7 ?_
  refine z_iconst F dX7_firstOf_8 ?_
  refine z_iadd F dX7_firstOf_9 ?_
  have hx10 : 0 ≤ ((40 * rr) + 2) ∧ ((40 * rr) + 2) < ((640 : Nat) : Int) ∧ ((40 * rr) + 2) ≤ 2147483647 := ⟨by omega, by omega, by omega⟩
  refine g_iald F hH r_1b hx10.1 hx10.2.1 hx10.2.2 dX7_firstOf_10 ?_
  exact g_iret F hr hlk hH hS hz (zr_t _) ⟨rfl, rfl, rfl, rfl, rfl, rfl, by rw [← hT]; rfl⟩ dX7_firstOf_11

def rmX7_secondOf : Room := { frames := 0, cells := 0, slots := 0, locals := 0 }
theorem hdX7_secondOf : yX7_secondOf.cls = RX7 ∧ yX7_secondOf.cls ≠ "java/lang/invoke/MethodHandle" ∧ yX7_secondOf.cls ≠ "java/lang/invoke/VarHandle" ∧ (parseMethodDescriptor yX7_secondOf.desc).map (fun d => d.parameters.length) = some 1 := by decide +kernel
set_option maxHeartbeats 4000000 in
set_option maxRecDepth 100000 in
/-- secondOf -/
theorem c_X7_secondOf (l : Launch) (g : gG) (gh : gGh) (T : Nat → Int32) (I : gI) (R : gR) (J : gJ) (AI : gI) (AJ : gJ) (AR : gR) (mo : Nat) (rr : Int) (zrr : zr rr) (hv : mInv g gh R I AI) (hm : gO g mo 7) (hT : AI (gh 50 0) = T) (h0 : 0 ≤ rr ∧ rr ≤ 15) : gMet l g yX7_secondOf tsX7_secondOf rmX7_secondOf [.ref mo, .int (iI rr)] (I, R, J, AI, AJ, AR) (gQi g (fun (z : Int) (w : gS) => I = w.1 ∧ R = w.2.1 ∧ J = w.2.2.1 ∧ AI = w.2.2.2.1 ∧ AJ = w.2.2.2.2.1 ∧ AR = w.2.2.2.2.2 ∧ (z = tI T (40 * rr + 3)))) := by
  refine gStart (cc := cX7_secondOf) (maxL := 2) (ret := (some (.int))) (by decide) rfl (Nat.le_of_ble_eq_true rfl) ?_
  intro p e s m below meth c ls F hr hlk hH hz hS hl
  have hl : lv_has ls 2 [(0, .ref mo), (1, .int (iI rr))] := hl
  have hS : va_S (gA g) s.heap s.heap [] := hS
  obtain ⟨H, hHe⟩ : ∃ H : Heap, H = s.heap := ⟨_, rfl⟩
  obtain ⟨locs, hlo⟩ : ∃ k : List Loc, k = [] := ⟨_, rfl⟩
  have hH : gH g I R J AI AJ AR H := by rw [hHe]; exact hH
  have hS : va_S (gA g) s.heap H locs := by rw [hHe, hlo]; exact hS
  suffices hw : W p l e rmX7_secondOf s m ([.ref mo, .int (iI rr)] : List Value).toArray below meth c H locs 0 0 (MQ below (gQi g (fun (z : Int) (w : gS) => I = w.1 ∧ R = w.2.1 ∧ J = w.2.2.1 ∧ AI = w.2.2.2.1 ∧ AJ = w.2.2.2.2.1 ∧ AR = w.2.2.2.2.2 ∧ (z = tI T (40 * rr + 3)))) ([.ref mo, .int (iI rr)] : List Value).toArray s 0 0 (gA g)) (F0 m 0 ls []) by
    rw [hHe, hlo] at hw; exact hw
  clear hHe hlo
  have iX7 : ∀ w ∈ u_ws RX7 TX7 32, w ∈ tsX7_secondOf := fun w h => List.mem_cons_of_mem _ (inTB7 w h)
  have k7 : Cond.fieldLink RX7 7 (TX7 0).1 (TX7 0).2.1 (TX7 0).2.2.1 ∈ tsX7_secondOf := List.mem_cons_of_mem _ fl_7
  refine lv_aload_n F.1 F.2.1 dX7_secondOf_0 rfl (lv_at hl 0 rfl) ?_
  obtain ⟨r_1a, r_1b⟩ : R mo 0 = some (gh 50 0) ∧ gAr g (gh 50 0) 9 640 := mR hv hm (q := (0, 640)) (by decide)
  refine g_getR (ci := 7) (k := 0) F hH rfl (by decide) iX7 hm (by decide) rfl (b := gh 50 0) r_1a k7 dX7_secondOf_1 ?_
  refine z_bipush F dX7_secondOf_4 (by decide) ?_
  refine lv_iload_n F.1 F.2.1 dX7_secondOf_6 rfl (lv_at hl 1 rfl) ?_
  refine z_imul F dX7_secondOf_7 ?_
  refine z_iconst F dX7_secondOf_8 ?_
  refine z_iadd F dX7_secondOf_9 ?_
  have hx10 : 0 ≤ ((40 * rr) + 3) ∧ ((40 * rr) + 3) < ((640 : Nat) : Int) ∧ ((40 * rr) + 3) ≤ 2147483647 := ⟨by omega, by omega, by omega⟩
  refine g_iald F hH r_1b hx10.1 hx10.2.1 hx10.2.2 dX7_secondOf_10 ?_
  exact g_iret F hr hlk hH hS hz (zr_t _) ⟨rfl, rfl, rfl, rfl, rfl, rfl, by rw [← hT]; rfl⟩ dX7_secondOf_11

def rmX7_partsOf : Room := { frames := 0, cells := 0, slots := 0, locals := 0 }
theorem hdX7_partsOf : yX7_partsOf.cls = RX7 ∧ yX7_partsOf.cls ≠ "java/lang/invoke/MethodHandle" ∧ yX7_partsOf.cls ≠ "java/lang/invoke/VarHandle" ∧ (parseMethodDescriptor yX7_partsOf.desc).map (fun d => d.parameters.length) = some 1 := by decide +kernel
set_option maxHeartbeats 4000000 in
set_option maxRecDepth 100000 in
/-- partsOf -/
theorem c_X7_partsOf (l : Launch) (g : gG) (gh : gGh) (T : Nat → Int32) (I : gI) (R : gR) (J : gJ) (AI : gI) (AJ : gJ) (AR : gR) (mo : Nat) (rr : Int) (zrr : zr rr) (hv : mInv g gh R I AI) (hm : gO g mo 7) (hT : AI (gh 50 0) = T) (h0 : 0 ≤ rr ∧ rr ≤ 15) : gMet l g yX7_partsOf tsX7_partsOf rmX7_partsOf [.ref mo, .int (iI rr)] (I, R, J, AI, AJ, AR) (gQi g (fun (z : Int) (w : gS) => I = w.1 ∧ R = w.2.1 ∧ J = w.2.2.1 ∧ AI = w.2.2.2.1 ∧ AJ = w.2.2.2.2.1 ∧ AR = w.2.2.2.2.2 ∧ (z = tI T (40 * rr + 4)))) := by
  refine gStart (cc := cX7_partsOf) (maxL := 2) (ret := (some (.int))) (by decide) rfl (Nat.le_of_ble_eq_true rfl) ?_
  intro p e s m below meth c ls F hr hlk hH hz hS hl
  have hl : lv_has ls 2 [(0, .ref mo), (1, .int (iI rr))] := hl
  have hS : va_S (gA g) s.heap s.heap [] := hS
  obtain ⟨H, hHe⟩ : ∃ H : Heap, H = s.heap := ⟨_, rfl⟩
  obtain ⟨locs, hlo⟩ : ∃ k : List Loc, k = [] := ⟨_, rfl⟩
  have hH : gH g I R J AI AJ AR H := by rw [hHe]; exact hH
  have hS : va_S (gA g) s.heap H locs := by rw [hHe, hlo]; exact hS
  suffices hw : W p l e rmX7_partsOf s m ([.ref mo, .int (iI rr)] : List Value).toArray below meth c H locs 0 0 (MQ below (gQi g (fun (z : Int) (w : gS) => I = w.1 ∧ R = w.2.1 ∧ J = w.2.2.1 ∧ AI = w.2.2.2.1 ∧ AJ = w.2.2.2.2.1 ∧ AR = w.2.2.2.2.2 ∧ (z = tI T (40 * rr + 4)))) ([.ref mo, .int (iI rr)] : List Value).toArray s 0 0 (gA g)) (F0 m 0 ls []) by
    rw [hHe, hlo] at hw; exact hw
  clear hHe hlo
  have iX7 : ∀ w ∈ u_ws RX7 TX7 32, w ∈ tsX7_partsOf := fun w h => List.mem_cons_of_mem _ (inTB7 w h)
  have k7 : Cond.fieldLink RX7 7 (TX7 0).1 (TX7 0).2.1 (TX7 0).2.2.1 ∈ tsX7_partsOf := List.mem_cons_of_mem _ fl_7
  refine lv_aload_n F.1 F.2.1 dX7_partsOf_0 rfl (lv_at hl 0 rfl) ?_
  obtain ⟨r_1a, r_1b⟩ : R mo 0 = some (gh 50 0) ∧ gAr g (gh 50 0) 9 640 := mR hv hm (q := (0, 640)) (by decide)
  refine g_getR (ci := 7) (k := 0) F hH rfl (by decide) iX7 hm (by decide) rfl (b := gh 50 0) r_1a k7 dX7_partsOf_1 ?_
  refine z_bipush F dX7_partsOf_4 (by decide) ?_
  refine lv_iload_n F.1 F.2.1 dX7_partsOf_6 rfl (lv_at hl 1 rfl) ?_
  refine z_imul F dX7_partsOf_7 ?_
  refine z_iconst F dX7_partsOf_8 ?_
  refine z_iadd F dX7_partsOf_9 ?_
  have hx10 : 0 ≤ ((40 * rr) + 4) ∧ ((40 * rr) + 4) < ((640 : Nat) : Int) ∧ ((40 * rr) + 4) ≤ 2147483647 := ⟨by omega, by omega, by omega⟩
  refine g_iald F hH r_1b hx10.1 hx10.2.1 hx10.2.2 dX7_partsOf_10 ?_
  exact g_iret F hr hlk hH hS hz (zr_t _) ⟨rfl, rfl, rfl, rfl, rfl, rfl, by rw [← hT]; rfl⟩ dX7_partsOf_11

def rmX7_part : Room := { frames := 0, cells := 0, slots := 0, locals := 0 }
theorem hdX7_part : yX7_part.cls = RX7 ∧ yX7_part.cls ≠ "java/lang/invoke/MethodHandle" ∧ yX7_part.cls ≠ "java/lang/invoke/VarHandle" ∧ (parseMethodDescriptor yX7_part.desc).map (fun d => d.parameters.length) = some 3 := by decide +kernel
set_option maxHeartbeats 4000000 in
set_option maxRecDepth 100000 in
/-- part -/
theorem c_X7_part (l : Launch) (g : gG) (gh : gGh) (T : Nat → Int32) (I : gI) (R : gR) (J : gJ) (AI : gI) (AJ : gJ) (AR : gR) (mo : Nat) (rr : Int) (kp : Int) (wh : Int) (zrr : zr rr) (zkp : zr kp) (zwh : zr wh) (hv : mInv g gh R I AI) (hm : gO g mo 7) (hT : AI (gh 50 0) = T) (h0 : 0 ≤ rr ∧ rr ≤ 15) (h1 : 0 ≤ kp ∧ kp ≤ 7) (h2 : 0 ≤ wh ∧ wh ≤ 3) : gMet l g yX7_part tsX7_part rmX7_part [.ref mo, .int (iI rr), .int (iI kp), .int (iI wh)] (I, R, J, AI, AJ, AR) (gQi g (fun (z : Int) (w : gS) => I = w.1 ∧ R = w.2.1 ∧ J = w.2.2.1 ∧ AI = w.2.2.2.1 ∧ AJ = w.2.2.2.2.1 ∧ AR = w.2.2.2.2.2 ∧ (z = mP T rr kp wh))) := by
  refine gStart (cc := cX7_part) (maxL := 4) (ret := (some (.int))) (by decide) rfl (Nat.le_of_ble_eq_true rfl) ?_
  intro p e s m below meth c ls F hr hlk hH hz hS hl
  have hl : lv_has ls 4 [(0, .ref mo), (1, .int (iI rr)), (2, .int (iI kp)), (3, .int (iI wh))] := hl
  have hS : va_S (gA g) s.heap s.heap [] := hS
  obtain ⟨H, hHe⟩ : ∃ H : Heap, H = s.heap := ⟨_, rfl⟩
  obtain ⟨locs, hlo⟩ : ∃ k : List Loc, k = [] := ⟨_, rfl⟩
  have hH : gH g I R J AI AJ AR H := by rw [hHe]; exact hH
  have hS : va_S (gA g) s.heap H locs := by rw [hHe, hlo]; exact hS
  suffices hw : W p l e rmX7_part s m ([.ref mo, .int (iI rr), .int (iI kp), .int (iI wh)] : List Value).toArray below meth c H locs 0 0 (MQ below (gQi g (fun (z : Int) (w : gS) => I = w.1 ∧ R = w.2.1 ∧ J = w.2.2.1 ∧ AI = w.2.2.2.1 ∧ AJ = w.2.2.2.2.1 ∧ AR = w.2.2.2.2.2 ∧ (z = mP T rr kp wh))) ([.ref mo, .int (iI rr), .int (iI kp), .int (iI wh)] : List Value).toArray s 0 0 (gA g)) (F0 m 0 ls []) by
    rw [hHe, hlo] at hw; exact hw
  clear hHe hlo
  have iX7 : ∀ w ∈ u_ws RX7 TX7 32, w ∈ tsX7_part := fun w h => List.mem_cons_of_mem _ (inTB7 w h)
  have k7 : Cond.fieldLink RX7 7 (TX7 0).1 (TX7 0).2.1 (TX7 0).2.2.1 ∈ tsX7_part := List.mem_cons_of_mem _ fl_7
  refine lv_aload_n F.1 F.2.1 dX7_part_0 rfl (lv_at hl 0 rfl) ?_
  obtain ⟨r_1a, r_1b⟩ : R mo 0 = some (gh 50 0) ∧ gAr g (gh 50 0) 9 640 := mR hv hm (q := (0, 640)) (by decide)
  refine g_getR (ci := 7) (k := 0) F hH rfl (by decide) iX7 hm (by decide) rfl (b := gh 50 0) r_1a k7 dX7_part_1 ?_
  refine z_bipush F dX7_part_4 (by decide) ?_
  refine lv_iload_n F.1 F.2.1 dX7_part_6 rfl (lv_at hl 1 rfl) ?_
  refine z_imul F dX7_part_7 ?_
  refine z_bipush F dX7_part_8 (by decide) ?_
  refine z_iadd F dX7_part_10 ?_
  refine z_iconst F dX7_part_11 ?_
  refine lv_iload_n F.1 F.2.1 dX7_part_12 rfl (lv_at hl 2 rfl) ?_
  refine z_imul F dX7_part_13 ?_
  refine z_iadd F dX7_part_14 ?_
  refine lv_iload_n F.1 F.2.1 dX7_part_15 rfl (lv_at hl 3 rfl) ?_
  refine z_iadd F dX7_part_16 ?_
  have hx17 : 0 ≤ ((((40 * rr) + 6) + (4 * kp)) + wh) ∧ ((((40 * rr) + 6) + (4 * kp)) + wh) < ((640 : Nat) : Int) ∧ ((((40 * rr) + 6) + (4 * kp)) + wh) ≤ 2147483647 := ⟨by omega, by omega, by omega⟩
  refine g_iald F hH r_1b hx17.1 hx17.2.1 hx17.2.2 dX7_part_17 ?_
  exact g_iret F hr hlk hH hS hz (zr_t _) ⟨rfl, rfl, rfl, rfl, rfl, rfl, by rw [← hT]; rfl⟩ dX7_part_18

def rmX7_spot : Room := { frames := 0, cells := 0, slots := 0, locals := 0 }
theorem hdX7_spot : yX7_spot.cls = RX7 ∧ yX7_spot.cls ≠ "java/lang/invoke/MethodHandle" ∧ yX7_spot.cls ≠ "java/lang/invoke/VarHandle" ∧ (parseMethodDescriptor yX7_spot.desc).map (fun d => d.parameters.length) = some 3 := by decide +kernel
set_option maxHeartbeats 4000000 in
set_option maxRecDepth 100000 in
/-- a spot -/
theorem c_X7_spot (l : Launch) (g : gG)  (I : gI) (R : gR) (J : gJ) (AI : gI) (AJ : gJ) (AR : gR) (sd : Int) (rr : Int) (ip : Int) (zsd : zr sd) (zrr : zr rr) (zip : zr ip) (h0 : 0 ≤ sd ∧ sd ≤ 10) (h1 : 0 ≤ rr ∧ rr ≤ 15) (h2 : 0 ≤ ip ∧ ip ≤ 120) : gMet l g yX7_spot tsX7_spot rmX7_spot [.int (iI sd), .int (iI rr), .int (iI ip)] (I, R, J, AI, AJ, AR) (gQi g (fun (z : Int) (w : gS) => I = w.1 ∧ R = w.2.1 ∧ J = w.2.2.1 ∧ AI = w.2.2.2.1 ∧ AJ = w.2.2.2.2.1 ∧ AR = w.2.2.2.2.2 ∧ (z = 11520 * sd + 720 * rr + 6 * ip))) := by
  refine gStart (cc := cX7_spot) (maxL := 3) (ret := (some (.int))) (by decide) rfl (Nat.le_of_ble_eq_true rfl) ?_
  intro p e s m below meth c ls F hr hlk hH hz hS hl
  have hl : lv_has ls 3 [(0, .int (iI sd)), (1, .int (iI rr)), (2, .int (iI ip))] := hl
  have hS : va_S (gA g) s.heap s.heap [] := hS
  obtain ⟨H, hHe⟩ : ∃ H : Heap, H = s.heap := ⟨_, rfl⟩
  obtain ⟨locs, hlo⟩ : ∃ k : List Loc, k = [] := ⟨_, rfl⟩
  have hH : gH g I R J AI AJ AR H := by rw [hHe]; exact hH
  have hS : va_S (gA g) s.heap H locs := by rw [hHe, hlo]; exact hS
  suffices hw : W p l e rmX7_spot s m ([.int (iI sd), .int (iI rr), .int (iI ip)] : List Value).toArray below meth c H locs 0 0 (MQ below (gQi g (fun (z : Int) (w : gS) => I = w.1 ∧ R = w.2.1 ∧ J = w.2.2.1 ∧ AI = w.2.2.2.1 ∧ AJ = w.2.2.2.2.1 ∧ AR = w.2.2.2.2.2 ∧ (z = 11520 * sd + 720 * rr + 6 * ip))) ([.int (iI sd), .int (iI rr), .int (iI ip)] : List Value).toArray s 0 0 (gA g)) (F0 m 0 ls []) by
    rw [hHe, hlo] at hw; exact hw
  clear hHe hlo
  refine z_sipush F dX7_spot_0 (by decide) ?_
  refine lv_iload_n F.1 F.2.1 dX7_spot_3 rfl (lv_at hl 0 rfl) ?_
  refine z_imul F dX7_spot_4 ?_
  refine z_sipush F dX7_spot_5 (by decide) ?_
  refine lv_iload_n F.1 F.2.1 dX7_spot_8 rfl (lv_at hl 1 rfl) ?_
  refine z_imul F dX7_spot_9 ?_
  refine z_iadd F dX7_spot_10 ?_
  refine z_bipush F dX7_spot_11 (by decide) ?_
  refine lv_iload_n F.1 F.2.1 dX7_spot_13 rfl (lv_at hl 2 rfl) ?_
  refine z_imul F dX7_spot_14 ?_
  refine z_iadd F dX7_spot_15 ?_
  exact g_iret F hr hlk hH hS hz ⟨by omega, by omega⟩ ⟨rfl, rfl, rfl, rfl, rfl, rfl, by first | omega | rfl | (dsimp only; omega)⟩ dX7_spot_16

def rmX7_sizeOf : Room := { frames := 0, cells := 0, slots := 0, locals := 0 }
theorem hdX7_sizeOf : yX7_sizeOf.cls = RX7 ∧ yX7_sizeOf.cls ≠ "java/lang/invoke/MethodHandle" ∧ yX7_sizeOf.cls ≠ "java/lang/invoke/VarHandle" ∧ (parseMethodDescriptor yX7_sizeOf.desc).map (fun d => d.parameters.length) = some 2 := by decide +kernel
set_option maxHeartbeats 4000000 in
set_option maxRecDepth 100000 in
/-- the size -/
theorem c_X7_sizeOf (l : Launch) (g : gG) (gh : gGh) (T : Nat → Int32) (I : gI) (R : gR) (J : gJ) (AI : gI) (AJ : gJ) (AR : gR) (mo : Nat) (sd : Int) (rr : Int) (zsd : zr sd) (zrr : zr rr) (hv : mInv g gh R I AI) (hm : gO g mo 7) (hT : AI (gh 50 0) = T) (h0 : 0 ≤ sd ∧ sd ≤ 10) (h1 : 0 ≤ rr ∧ rr ≤ 15) : gMet l g yX7_sizeOf tsX7_sizeOf rmX7_sizeOf [.ref mo, .int (iI sd), .int (iI rr)] (I, R, J, AI, AJ, AR) (gQi g (fun (z : Int) (w : gS) => I = w.1 ∧ R = w.2.1 ∧ J = w.2.2.1 ∧ AI = w.2.2.2.1 ∧ AJ = w.2.2.2.2.1 ∧ AR = w.2.2.2.2.2 ∧ (0 ≤ z ∧ z ≤ 120) ∧ (z = tI (AI (gh 57 0)) (16 * sd + rr)))) := by
  refine gStart (cc := cX7_sizeOf) (maxL := 3) (ret := (some (.int))) (by decide) rfl (Nat.le_of_ble_eq_true rfl) ?_
  intro p e s m below meth c ls F hr hlk hH hz hS hl
  have hl : lv_has ls 3 [(0, .ref mo), (1, .int (iI sd)), (2, .int (iI rr))] := hl
  have hS : va_S (gA g) s.heap s.heap [] := hS
  obtain ⟨H, hHe⟩ : ∃ H : Heap, H = s.heap := ⟨_, rfl⟩
  obtain ⟨locs, hlo⟩ : ∃ k : List Loc, k = [] := ⟨_, rfl⟩
  have hH : gH g I R J AI AJ AR H := by rw [hHe]; exact hH
  have hS : va_S (gA g) s.heap H locs := by rw [hHe, hlo]; exact hS
  suffices hw : W p l e rmX7_sizeOf s m ([.ref mo, .int (iI sd), .int (iI rr)] : List Value).toArray below meth c H locs 0 0 (MQ below (gQi g (fun (z : Int) (w : gS) => I = w.1 ∧ R = w.2.1 ∧ J = w.2.2.1 ∧ AI = w.2.2.2.1 ∧ AJ = w.2.2.2.2.1 ∧ AR = w.2.2.2.2.2 ∧ (0 ≤ z ∧ z ≤ 120) ∧ (z = tI (AI (gh 57 0)) (16 * sd + rr)))) ([.ref mo, .int (iI sd), .int (iI rr)] : List Value).toArray s 0 0 (gA g)) (F0 m 0 ls []) by
    rw [hHe, hlo] at hw; exact hw
  clear hHe hlo
  have iX7 : ∀ w ∈ u_ws RX7 TX7 32, w ∈ tsX7_sizeOf := fun w h => List.mem_cons_of_mem _ (inTB7 w h)
  have k27 : Cond.fieldLink RX7 27 (TX7 7).1 (TX7 7).2.1 (TX7 7).2.2.1 ∈ tsX7_sizeOf := List.mem_cons_of_mem _ fl_27
  refine lv_aload_n F.1 F.2.1 dX7_sizeOf_0 rfl (lv_at hl 0 rfl) ?_
  obtain ⟨r_1a, r_1b⟩ : R mo 7 = some (gh 57 0) ∧ gAr g (gh 57 0) 9 176 := mR hv hm (q := (7, 176)) (by decide)
  refine g_getR (ci := 7) (k := 7) F hH rfl (by decide) iX7 hm (by decide) rfl (b := gh 57 0) r_1a k27 dX7_sizeOf_1 ?_
  refine z_bipush F dX7_sizeOf_4 (by decide) ?_
  refine lv_iload_n F.1 F.2.1 dX7_sizeOf_6 rfl (lv_at hl 1 rfl) ?_
  refine z_imul F dX7_sizeOf_7 ?_
  refine lv_iload_n F.1 F.2.1 dX7_sizeOf_8 rfl (lv_at hl 2 rfl) ?_
  refine z_iadd F dX7_sizeOf_9 ?_
  have hx10 : 0 ≤ ((16 * sd) + rr) ∧ ((16 * sd) + rr) < ((176 : Nat) : Int) ∧ ((16 * sd) + rr) ≤ 2147483647 := ⟨by omega, by omega, by omega⟩
  refine g_iald F hH r_1b hx10.1 hx10.2.1 hx10.2.2 dX7_sizeOf_10 ?_
  exact g_iret F hr hlk hH hS hz (zr_t _) ⟨rfl, rfl, rfl, rfl, rfl, rfl, mSz hv hm (by omega) (by omega), rfl⟩ dX7_sizeOf_11

theorem hdX7_eight : yX7_eight.cls = RX7 ∧ yX7_eight.cls ≠ "java/lang/invoke/MethodHandle" ∧ yX7_eight.cls ≠ "java/lang/invoke/VarHandle" ∧ (parseMethodDescriptor yX7_eight.desc).map (fun d => d.parameters.length) = some 1 := by decide +kernel
theorem hdX7_feed : yX7_feed.cls = RX7 ∧ yX7_feed.cls ≠ "java/lang/invoke/MethodHandle" ∧ yX7_feed.cls ≠ "java/lang/invoke/VarHandle" ∧ (parseMethodDescriptor yX7_feed.desc).map (fun d => d.parameters.length) = some 3 := by decide +kernel
theorem hdX7_end : yX7_end.cls = RX7 ∧ yX7_end.cls ≠ "java/lang/invoke/MethodHandle" ∧ yX7_end.cls ≠ "java/lang/invoke/VarHandle" ∧ (parseMethodDescriptor yX7_end.desc).map (fun d => d.parameters.length) = some 1 := by decide +kernel
theorem hdX7_byteAt : yX7_byteAt.cls = RX7 ∧ yX7_byteAt.cls ≠ "java/lang/invoke/MethodHandle" ∧ yX7_byteAt.cls ≠ "java/lang/invoke/VarHandle" ∧ (parseMethodDescriptor yX7_byteAt.desc).map (fun d => d.parameters.length) = some 1 := by decide +kernel
theorem hdX7_isSmall : yX7_isSmall.cls = RX7 ∧ yX7_isSmall.cls ≠ "java/lang/invoke/MethodHandle" ∧ yX7_isSmall.cls ≠ "java/lang/invoke/VarHandle" ∧ (parseMethodDescriptor yX7_isSmall.desc).map (fun d => d.parameters.length) = some 1 := by decide +kernel
theorem hdX7_isDigit : yX7_isDigit.cls = RX7 ∧ yX7_isDigit.cls ≠ "java/lang/invoke/MethodHandle" ∧ yX7_isDigit.cls ≠ "java/lang/invoke/VarHandle" ∧ (parseMethodDescriptor yX7_isDigit.desc).map (fun d => d.parameters.length) = some 1 := by decide +kernel
theorem hdX7_compare : yX7_compare.cls = RX7 ∧ yX7_compare.cls ≠ "java/lang/invoke/MethodHandle" ∧ yX7_compare.cls ≠ "java/lang/invoke/VarHandle" ∧ (parseMethodDescriptor yX7_compare.desc).map (fun d => d.parameters.length) = some 4 := by decide +kernel
end
section
theorem hdX7_placeOf : yX7_placeOf.cls = RX7 ∧ yX7_placeOf.cls ≠ "java/lang/invoke/MethodHandle" ∧ yX7_placeOf.cls ≠ "java/lang/invoke/VarHandle" ∧ (parseMethodDescriptor yX7_placeOf.desc).map (fun d => d.parameters.length) = some 0 := by decide +kernel
theorem hdX7_gathers : yX7_gathers.cls = RX7 ∧ yX7_gathers.cls ≠ "java/lang/invoke/MethodHandle" ∧ yX7_gathers.cls ≠ "java/lang/invoke/VarHandle" ∧ (parseMethodDescriptor yX7_gathers.desc).map (fun d => d.parameters.length) = some 2 := by decide +kernel
theorem hdX7_lays : yX7_lays.cls = RX7 ∧ yX7_lays.cls ≠ "java/lang/invoke/MethodHandle" ∧ yX7_lays.cls ≠ "java/lang/invoke/VarHandle" ∧ (parseMethodDescriptor yX7_lays.desc).map (fun d => d.parameters.length) = some 2 := by decide +kernel
theorem hdX7_takes : yX7_takes.cls = RX7 ∧ yX7_takes.cls ≠ "java/lang/invoke/MethodHandle" ∧ yX7_takes.cls ≠ "java/lang/invoke/VarHandle" ∧ (parseMethodDescriptor yX7_takes.desc).map (fun d => d.parameters.length) = some 1 := by decide +kernel
theorem hdX7_holds : yX7_holds.cls = RX7 ∧ yX7_holds.cls ≠ "java/lang/invoke/MethodHandle" ∧ yX7_holds.cls ≠ "java/lang/invoke/VarHandle" ∧ (parseMethodDescriptor yX7_holds.desc).map (fun d => d.parameters.length) = some 2 := by decide +kernel
theorem hdX7_terms : yX7_terms.cls = RX7 ∧ yX7_terms.cls ≠ "java/lang/invoke/MethodHandle" ∧ yX7_terms.cls ≠ "java/lang/invoke/VarHandle" ∧ (parseMethodDescriptor yX7_terms.desc).map (fun d => d.parameters.length) = some 3 := by decide +kernel
theorem hdX7_areOneGroup : yX7_areOneGroup.cls = RX7 ∧ yX7_areOneGroup.cls ≠ "java/lang/invoke/MethodHandle" ∧ yX7_areOneGroup.cls ≠ "java/lang/invoke/VarHandle" ∧ (parseMethodDescriptor yX7_areOneGroup.desc).map (fun d => d.parameters.length) = some 3 := by decide +kernel
theorem hdX7_isFirstOfGroup : yX7_isFirstOfGroup.cls = RX7 ∧ yX7_isFirstOfGroup.cls ≠ "java/lang/invoke/MethodHandle" ∧ yX7_isFirstOfGroup.cls ≠ "java/lang/invoke/VarHandle" ∧ (parseMethodDescriptor yX7_isFirstOfGroup.desc).map (fun d => d.parameters.length) = some 3 := by decide +kernel
theorem hdX7_copies : yX7_copies.cls = RX7 ∧ yX7_copies.cls ≠ "java/lang/invoke/MethodHandle" ∧ yX7_copies.cls ≠ "java/lang/invoke/VarHandle" ∧ (parseMethodDescriptor yX7_copies.desc).map (fun d => d.parameters.length) = some 2 := by decide +kernel
theorem hdX7_tables : yX7_tables.cls = RX7 ∧ yX7_tables.cls ≠ "java/lang/invoke/MethodHandle" ∧ yX7_tables.cls ≠ "java/lang/invoke/VarHandle" ∧ (parseMethodDescriptor yX7_tables.desc).map (fun d => d.parameters.length) = some 0 := by decide +kernel
theorem hdX7_changesOf : yX7_changesOf.cls = RX7 ∧ yX7_changesOf.cls ≠ "java/lang/invoke/MethodHandle" ∧ yX7_changesOf.cls ≠ "java/lang/invoke/VarHandle" ∧ (parseMethodDescriptor yX7_changesOf.desc).map (fun d => d.parameters.length) = some 2 := by decide +kernel
end
section
theorem hdX7_joins : yX7_joins.cls = RX7 ∧ yX7_joins.cls ≠ "java/lang/invoke/MethodHandle" ∧ yX7_joins.cls ≠ "java/lang/invoke/VarHandle" ∧ (parseMethodDescriptor yX7_joins.desc).map (fun d => d.parameters.length) = some 2 := by decide +kernel
end
section
theorem hdX7_groups : yX7_groups.cls = RX7 ∧ yX7_groups.cls ≠ "java/lang/invoke/MethodHandle" ∧ yX7_groups.cls ≠ "java/lang/invoke/VarHandle" ∧ (parseMethodDescriptor yX7_groups.desc).map (fun d => d.parameters.length) = some 2 := by decide +kernel
end
section
theorem hdX7_ringsOnce : yX7_ringsOnce.cls = RX7 ∧ yX7_ringsOnce.cls ≠ "java/lang/invoke/MethodHandle" ∧ yX7_ringsOnce.cls ≠ "java/lang/invoke/VarHandle" ∧ (parseMethodDescriptor yX7_ringsOnce.desc).map (fun d => d.parameters.length) = some 5 := by decide +kernel
theorem hdX7_rings : yX7_rings.cls = RX7 ∧ yX7_rings.cls ≠ "java/lang/invoke/MethodHandle" ∧ yX7_rings.cls ≠ "java/lang/invoke/VarHandle" ∧ (parseMethodDescriptor yX7_rings.desc).map (fun d => d.parameters.length) = some 2 := by decide +kernel
end
section
theorem hdX7_reckons : yX7_reckons.cls = RX7 ∧ yX7_reckons.cls ≠ "java/lang/invoke/MethodHandle" ∧ yX7_reckons.cls ≠ "java/lang/invoke/VarHandle" ∧ (parseMethodDescriptor yX7_reckons.desc).map (fun d => d.parameters.length) = some 2 := by decide +kernel
theorem hdX7_drafts : yX7_drafts.cls = RX7 ∧ yX7_drafts.cls ≠ "java/lang/invoke/MethodHandle" ∧ yX7_drafts.cls ≠ "java/lang/invoke/VarHandle" ∧ (parseMethodDescriptor yX7_drafts.desc).map (fun d => d.parameters.length) = some 0 := by decide +kernel
end
section
theorem hdX7_moves : yX7_moves.cls = RX7 ∧ yX7_moves.cls ≠ "java/lang/invoke/MethodHandle" ∧ yX7_moves.cls ≠ "java/lang/invoke/VarHandle" ∧ (parseMethodDescriptor yX7_moves.desc).map (fun d => d.parameters.length) = some 2 := by decide +kernel
theorem hdX7_change : yX7_change.cls = RX7 ∧ yX7_change.cls ≠ "java/lang/invoke/MethodHandle" ∧ yX7_change.cls ≠ "java/lang/invoke/VarHandle" ∧ (parseMethodDescriptor yX7_change.desc).map (fun d => d.parameters.length) = some 6 := by decide +kernel
theorem hdX7_pending : yX7_pending.cls = RX7 ∧ yX7_pending.cls ≠ "java/lang/invoke/MethodHandle" ∧ yX7_pending.cls ≠ "java/lang/invoke/VarHandle" ∧ (parseMethodDescriptor yX7_pending.desc).map (fun d => d.parameters.length) = some 2 := by decide +kernel
theorem hdX7_cancel : yX7_cancel.cls = RX7 ∧ yX7_cancel.cls ≠ "java/lang/invoke/MethodHandle" ∧ yX7_cancel.cls ≠ "java/lang/invoke/VarHandle" ∧ (parseMethodDescriptor yX7_cancel.desc).map (fun d => d.parameters.length) = some 0 := by decide +kernel
theorem hdX7_laysMoved : yX7_laysMoved.cls = RX7 ∧ yX7_laysMoved.cls ≠ "java/lang/invoke/MethodHandle" ∧ yX7_laysMoved.cls ≠ "java/lang/invoke/VarHandle" ∧ (parseMethodDescriptor yX7_laysMoved.desc).map (fun d => d.parameters.length) = some 1 := by decide +kernel
theorem hdX7_movedInViews : yX7_movedInViews.cls = RX7 ∧ yX7_movedInViews.cls ≠ "java/lang/invoke/MethodHandle" ∧ yX7_movedInViews.cls ≠ "java/lang/invoke/VarHandle" ∧ (parseMethodDescriptor yX7_movedInViews.desc).map (fun d => d.parameters.length) = some 0 := by decide +kernel
theorem hdX7_cameTo : yX7_cameTo.cls = RX7 ∧ yX7_cameTo.cls ≠ "java/lang/invoke/MethodHandle" ∧ yX7_cameTo.cls ≠ "java/lang/invoke/VarHandle" ∧ (parseMethodDescriptor yX7_cameTo.desc).map (fun d => d.parameters.length) = some 1 := by decide +kernel
theorem hdX7_commit : yX7_commit.cls = RX7 ∧ yX7_commit.cls ≠ "java/lang/invoke/MethodHandle" ∧ yX7_commit.cls ≠ "java/lang/invoke/VarHandle" ∧ (parseMethodDescriptor yX7_commit.desc).map (fun d => d.parameters.length) = some 0 := by decide +kernel
theorem hdX7_would : yX7_would.cls = RX7 ∧ yX7_would.cls ≠ "java/lang/invoke/MethodHandle" ∧ yX7_would.cls ≠ "java/lang/invoke/VarHandle" ∧ (parseMethodDescriptor yX7_would.desc).map (fun d => d.parameters.length) = some 1 := by decide +kernel
theorem hdX7_undo : yX7_undo.cls = RX7 ∧ yX7_undo.cls ≠ "java/lang/invoke/MethodHandle" ∧ yX7_undo.cls ≠ "java/lang/invoke/VarHandle" ∧ (parseMethodDescriptor yX7_undo.desc).map (fun d => d.parameters.length) = some 0 := by decide +kernel
theorem hdX7_size : yX7_size.cls = RX7 ∧ yX7_size.cls ≠ "java/lang/invoke/MethodHandle" ∧ yX7_size.cls ≠ "java/lang/invoke/VarHandle" ∧ (parseMethodDescriptor yX7_size.desc).map (fun d => d.parameters.length) = some 1 := by decide +kernel
theorem hdX7_isTold : yX7_isTold.cls = RX7 ∧ yX7_isTold.cls ≠ "java/lang/invoke/MethodHandle" ∧ yX7_isTold.cls ≠ "java/lang/invoke/VarHandle" ∧ (parseMethodDescriptor yX7_isTold.desc).map (fun d => d.parameters.length) = some 2 := by decide +kernel
theorem hdX7_at : yX7_at.cls = RX7 ∧ yX7_at.cls ≠ "java/lang/invoke/MethodHandle" ∧ yX7_at.cls ≠ "java/lang/invoke/VarHandle" ∧ (parseMethodDescriptor yX7_at.desc).map (fun d => d.parameters.length) = some 3 := by decide +kernel
theorem hdX7_find : yX7_find.cls = RX7 ∧ yX7_find.cls ≠ "java/lang/invoke/MethodHandle" ∧ yX7_find.cls ≠ "java/lang/invoke/VarHandle" ∧ (parseMethodDescriptor yX7_find.desc).map (fun d => d.parameters.length) = some 6 := by decide +kernel
theorem hdX7_count : yX7_count.cls = RX7 ∧ yX7_count.cls ≠ "java/lang/invoke/MethodHandle" ∧ yX7_count.cls ≠ "java/lang/invoke/VarHandle" ∧ (parseMethodDescriptor yX7_count.desc).map (fun d => d.parameters.length) = some 5 := by decide +kernel
theorem hdX7_total : yX7_total.cls = RX7 ∧ yX7_total.cls ≠ "java/lang/invoke/MethodHandle" ∧ yX7_total.cls ≠ "java/lang/invoke/VarHandle" ∧ (parseMethodDescriptor yX7_total.desc).map (fun d => d.parameters.length) = some 1 := by decide +kernel
theorem hdX7_moved : yX7_moved.cls = RX7 ∧ yX7_moved.cls ≠ "java/lang/invoke/MethodHandle" ∧ yX7_moved.cls ≠ "java/lang/invoke/VarHandle" ∧ (parseMethodDescriptor yX7_moved.desc).map (fun d => d.parameters.length) = some 1 := by decide +kernel
theorem hdX7_movedAt : yX7_movedAt.cls = RX7 ∧ yX7_movedAt.cls ≠ "java/lang/invoke/MethodHandle" ∧ yX7_movedAt.cls ≠ "java/lang/invoke/VarHandle" ∧ (parseMethodDescriptor yX7_movedAt.desc).map (fun d => d.parameters.length) = some 3 := by decide +kernel
theorem hdX7_came : yX7_came.cls = RX7 ∧ yX7_came.cls ≠ "java/lang/invoke/MethodHandle" ∧ yX7_came.cls ≠ "java/lang/invoke/VarHandle" ∧ (parseMethodDescriptor yX7_came.desc).map (fun d => d.parameters.length) = some 1 := by decide +kernel
theorem hdX7_round : yX7_round.cls = RX7 ∧ yX7_round.cls ≠ "java/lang/invoke/MethodHandle" ∧ yX7_round.cls ≠ "java/lang/invoke/VarHandle" ∧ (parseMethodDescriptor yX7_round.desc).map (fun d => d.parameters.length) = some 5 := by decide +kernel
theorem hdX7_rounds : yX7_rounds.cls = RX7 ∧ yX7_rounds.cls ≠ "java/lang/invoke/MethodHandle" ∧ yX7_rounds.cls ≠ "java/lang/invoke/VarHandle" ∧ (parseMethodDescriptor yX7_rounds.desc).map (fun d => d.parameters.length) = some 1 := by decide +kernel
end
section
theorem hdX7_hangsOn : yX7_hangsOn.cls = RX7 ∧ yX7_hangsOn.cls ≠ "java/lang/invoke/MethodHandle" ∧ yX7_hangsOn.cls ≠ "java/lang/invoke/VarHandle" ∧ (parseMethodDescriptor yX7_hangsOn.desc).map (fun d => d.parameters.length) = some 1 := by decide +kernel
theorem hdX7_farOf : yX7_farOf.cls = RX7 ∧ yX7_farOf.cls ≠ "java/lang/invoke/MethodHandle" ∧ yX7_farOf.cls ≠ "java/lang/invoke/VarHandle" ∧ (parseMethodDescriptor yX7_farOf.desc).map (fun d => d.parameters.length) = some 1 := by decide +kernel
theorem hdX7_hangOn : yX7_hangOn.cls = RX7 ∧ yX7_hangOn.cls ≠ "java/lang/invoke/MethodHandle" ∧ yX7_hangOn.cls ≠ "java/lang/invoke/VarHandle" ∧ (parseMethodDescriptor yX7_hangOn.desc).map (fun d => d.parameters.length) = some 1 := by decide +kernel
theorem hdX7_of : yX7_of.cls = RX7 ∧ yX7_of.cls ≠ "java/lang/invoke/MethodHandle" ∧ yX7_of.cls ≠ "java/lang/invoke/VarHandle" ∧ (parseMethodDescriptor yX7_of.desc).map (fun d => d.parameters.length) = some 2 := by decide +kernel
theorem hdX7_differs : yX7_differs.cls = RX7 ∧ yX7_differs.cls ≠ "java/lang/invoke/MethodHandle" ∧ yX7_differs.cls ≠ "java/lang/invoke/VarHandle" ∧ (parseMethodDescriptor yX7_differs.desc).map (fun d => d.parameters.length) = some 1 := by decide +kernel
theorem hdX7_column_ : yX7_column_.cls = RX7 ∧ yX7_column_.cls ≠ "java/lang/invoke/MethodHandle" ∧ yX7_column_.cls ≠ "java/lang/invoke/VarHandle" ∧ (parseMethodDescriptor yX7_column_.desc).map (fun d => d.parameters.length) = some 3 := by decide +kernel
theorem hdX7_told : yX7_told.cls = RX7 ∧ yX7_told.cls ≠ "java/lang/invoke/MethodHandle" ∧ yX7_told.cls ≠ "java/lang/invoke/VarHandle" ∧ (parseMethodDescriptor yX7_told.desc).map (fun d => d.parameters.length) = some 1 := by decide +kernel
end
section
/-! the reference's reading of a tape: what its steps leave in the row that is read -/
theorem z_eq {v x : Int} (hv : zr v) (hx : zr x) (h : iI v = iI x) : v = x := by have := congrArg Int32.toInt h; rwa [iI_val hv, iI_val hx] at this
theorem z_wrap (x : Int) : ∃ v, zr v ∧ iI x = iI v ∧ (zr x → v = x) := ⟨(iI x).toInt, zr_t _, (iI_self _).symm, fun h => iI_val h⟩
theorem mBit01 (x d : Int) : mBit x d = 0 ∨ mBit x d = 1 := by
  unfold mBit
  generalize (iI ((iI x >>> (iI d &&& 31)).toInt)) = y
  have h : y &&& iI 1 = 0 ∨ y &&& iI 1 = 1 := by
    have t : (y &&& iI 1).toBitVec = y.toBitVec &&& 1#32 := rfl
    rw [BitVec.and_one_eq_setWidth_ofBool_getLsbD] at t
    cases q : y.toBitVec.getLsbD 0
    · rw [q] at t; exact Or.inl (Int32.toBitVec_inj.mp t)
    · rw [q] at t; exact Or.inr (Int32.toBitVec_inj.mp t)
  rcases h with h | h <;> rw [h]
  · exact Or.inl rfl
  · exact Or.inr rfl
theorem tI_s {A : gI} {b : Nat} {z v : Int} (hv : zr v) : tI (gup2 A b z.toNat (iI v) b) z = v := by unfold tI; rw [gup2_s]; exact iI_val hv
theorem tI_k {A : gI} {b : Nat} {z y : Int} {v : Int32} (hz : 0 ≤ z) (hy : 0 ≤ y) (h : y ≠ z) : tI (gup2 A b z.toNat v b) y = tI (A b) y := by unfold tI; rw [gup2_k _ _ (by omega)]
def s1 (f f' : Nat → Int32) (x v : Int) : Prop := (∀ z : Int, 0 ≤ z → z ≠ x → tI f' z = tI f z) ∧ tI f' x = v
theorem s1_mk {A A' : gI} {b : Nat} {x v : Int} (hx : 0 ≤ x) (hv : zr v) (e : A' = gup2 A b x.toNat (iI v)) : s1 (A b) (A' b) x v := by
  subst e
  exact ⟨fun z hz hn => tI_k hx hz hn, tI_s hv⟩
def sP (f f' : Nat → Int32) (M k a b c d : Int) : Prop := (∀ z : Int, 0 ≤ z → (z < 40 * M + 6 + 4 * k ∨ 40 * M + 6 + 4 * k + 4 ≤ z) → tI f' z = tI f z) ∧ mP f' M k 0 = a ∧ mP f' M k 1 = b ∧ mP f' M k 2 = c ∧ mP f' M k 3 = d
theorem sP_mk {A A1 A2 A3 A4 : gI} {o : Nat} {z M k a b c d : Int} (hM : 0 ≤ M) (hk : 0 ≤ k) (ha : zr a) (hb : zr b) (hc : zr c) (hd : zr d) (hz : z = 40 * M + 6 + 4 * k)
    (e1 : A1 = gup2 A o z.toNat (iI a)) (e2 : A2 = gup2 A1 o (z + 1).toNat (iI b)) (e3 : A3 = gup2 A2 o (z + 2).toNat (iI c)) (e4 : A4 = gup2 A3 o (z + 3).toNat (iI d)) : sP (A o) (A4 o) M k a b c d := by
  subst e1 e2 e3 e4
  subst hz
  refine ⟨fun y hy hn => ?_, ?_, ?_, ?_, ?_⟩
  · rw [tI_k (by omega) hy (by omega), tI_k (by omega) hy (by omega), tI_k (by omega) hy (by omega), tI_k (by omega) hy (by omega)]
  · unfold mP; rw [Int.add_zero, tI_k (by omega) (by omega) (by omega), tI_k (by omega) (by omega) (by omega), tI_k (by omega) (by omega) (by omega)]; exact tI_s ha
  · unfold mP; rw [tI_k (by omega) (by omega) (by omega), tI_k (by omega) (by omega) (by omega)]; exact tI_s hb
  · unfold mP; rw [tI_k (by omega) (by omega) (by omega)]; exact tI_s hc
  · exact tI_s hd
def hP (f f' : Nat → Int32) (M kd cl one oth ps : Int) : Prop := (∀ z : Int, 0 ≤ z → (z < 40 * M ∨ 40 * M + 6 ≤ z) → tI f' z = tI f z) ∧ tI f' (40 * M) = kd ∧ tI f' (40 * M + 1) = cl ∧ tI f' (40 * M + 2) = one ∧ tI f' (40 * M + 3) = oth ∧ tI f' (40 * M + 4) = ps
theorem hP_mk {f f1 f2 f3 f4 f5 : Nat → Int32} {M a b c d e : Int} (hM : 0 ≤ M) (h1 : s1 f f1 (40 * M + 0) a) (h2 : s1 f1 f2 (40 * M + 1) b) (h3 : s1 f2 f3 (40 * M + 2) c) (h4 : s1 f3 f4 (40 * M + 3) d) (h5 : s1 f4 f5 (40 * M + 4) e) : hP f f5 M a b c d e := by
  refine ⟨fun z hz hn => ?_, ?_, ?_, ?_, ?_, h5.2⟩
  · rw [h5.1 z hz (by omega), h4.1 z hz (by omega), h3.1 z hz (by omega), h2.1 z hz (by omega), h1.1 z hz (by omega)]
  · rw [h5.1 _ (by omega) (by omega), h4.1 _ (by omega) (by omega), h3.1 _ (by omega) (by omega), h2.1 _ (by omega) (by omega)]; have := h1.2; rwa [Int.add_zero] at this
  · rw [h5.1 _ (by omega) (by omega), h4.1 _ (by omega) (by omega), h3.1 _ (by omega) (by omega)]; exact h2.2
  · rw [h5.1 _ (by omega) (by omega), h4.1 _ (by omega) (by omega)]; exact h3.2
  · rw [h5.1 _ (by omega) (by omega)]; exact h4.2
theorem hP_s5 {f f1 f2 : Nat → Int32} {M a b c d e v : Int} (hM : 0 ≤ M) (h : hP f f1 M a b c d e) (h5 : s1 f1 f2 (40 * M + 5) v) : hP f f2 M a b c d e ∧ tI f2 (40 * M + 5) = v := by
  obtain ⟨h0, ha, hb, hc, hd, he⟩ := h
  refine ⟨⟨fun z hz hn => ?_, ?_, ?_, ?_, ?_, ?_⟩, h5.2⟩
  · rw [h5.1 z hz (by omega), h0 z hz hn]
  · rw [h5.1 _ (by omega) (by omega)]; exact ha
  · rw [h5.1 _ (by omega) (by omega)]; exact hb
  · rw [h5.1 _ (by omega) (by omega)]; exact hc
  · rw [h5.1 _ (by omega) (by omega)]; exact hd
  · rw [h5.1 _ (by omega) (by omega)]; exact he
/-- parts of a selection, of a list of terms, of a join, of a group -/
def selP (f : Nat → Int32) (M n : Int) : Prop := ∀ k : Int, 0 ≤ k → k < n → 0 ≤ mP f M k 0 ∧ mP f M k 0 ≤ 3 ∧ (mP f M k 2 = 1 → 0 ≤ mP f M k 3 ∧ mP f M k 3 ≤ 3)
def termP (f : Nat → Int32) (M fm n : Int) : Prop := ∀ k : Int, 0 ≤ k → k < n → mP f M (fm + k) 0 ≤ 3
def joinP (f : Nat → Int32) (M n : Int) : Prop := ∀ k : Int, 0 ≤ k → k < n → 0 ≤ mP f M k 0 ∧ mP f M k 0 ≤ 3 ∧ 0 ≤ mP f M k 1 ∧ mP f M k 1 ≤ 3
def grpP (f : Nat → Int32) (M n : Int) : Prop := ∀ k : Int, 0 ≤ k → k < n → 0 ≤ mP f M k 0 ∧ mP f M k 0 ≤ 3
def trF (f f' : Nat → Int32) (M fm : Int) : Prop := ∀ z : Int, 0 ≤ z → (z < 40 * M + 6 + 4 * fm ∨ 40 * M + 6 + 4 * fm + 16 ≤ z) → tI f' z = tI f z
theorem sP_old {f f' : Nat → Int32} {M n a b c d k w : Int} (h : sP f f' M n a b c d) (hM : 0 ≤ M) (hk : 0 ≤ k) (hl : k < n) (hw : 0 ≤ w ∧ w ≤ 3) : mP f' M k w = mP f M k w := h.1 _ (by omega) (by omega)
theorem selP_step {f f' : Nat → Int32} {M n a b c d : Int} (hM : 0 ≤ M) (h : selP f M n) (hs : sP f f' M n a b c d) (ha : 0 ≤ a ∧ a ≤ 3) (hd : c = 1 → 0 ≤ d ∧ d ≤ 3) : selP f' M (n + 1) := by
  intro k hk hl
  by_cases q : k = n
  · subst q; rw [hs.2.1, hs.2.2.2.1, hs.2.2.2.2]; exact ⟨ha.1, ha.2, hd⟩
  · rw [sP_old hs hM hk (by omega) (by decide), sP_old hs hM hk (by omega) (by decide), sP_old hs hM hk (by omega) (by decide)]; exact h k hk (by omega)
theorem joinP_step {f f' : Nat → Int32} {M n a b c d : Int} (hM : 0 ≤ M) (h : joinP f M n) (hs : sP f f' M n a b c d) (ha : 0 ≤ a ∧ a ≤ 3) (hb : 0 ≤ b ∧ b ≤ 3) : joinP f' M (n + 1) := by
  intro k hk hl
  by_cases q : k = n
  · subst q; rw [hs.2.1, hs.2.2.1]; exact ⟨ha.1, ha.2, hb⟩
  · rw [sP_old hs hM hk (by omega) (by decide), sP_old hs hM hk (by omega) (by decide)]; exact h k hk (by omega)
theorem grpP_step {f f' : Nat → Int32} {M n a b c d : Int} (hM : 0 ≤ M) (h : grpP f M n) (hs : sP f f' M n a b c d) (ha : 0 ≤ a ∧ a ≤ 3) : grpP f' M (n + 1) := by
  intro k hk hl
  by_cases q : k = n
  · subst q; rw [hs.2.1]; exact ha
  · rw [sP_old hs hM hk (by omega) (by decide)]; exact h k hk (by omega)
theorem termP_step {f f' : Nat → Int32} {M fm n a b c d : Int} (hM : 0 ≤ M) (hfm : 0 ≤ fm) (h : termP f M fm n) (hs : sP f f' M (fm + n) a b c d) (ha : a ≤ 3) : termP f' M fm (n + 1) := by
  intro k hk hl
  by_cases q : k = n
  · subst q; rw [hs.2.1]; exact ha
  · rw [sP_old hs hM (by omega) (by omega) (by decide)]; exact h k hk (by omega)
theorem trF_step {f f' f'' : Nat → Int32} {M fm n a b c d : Int} (h : trF f f' M fm) (hn : 0 ≤ n ∧ n ≤ 3) (hs : sP f' f'' M (fm + n) a b c d) : trF f f'' M fm := fun z hz hl => (hs.1 z hz (by omega)).trans (h z hz hl)
theorem trF_r {f : Nat → Int32} {M fm : Int} : trF f f M fm := fun _ _ _ => rfl
theorem row_mk {f f' : Nat → Int32} {M kd cl one oth ps : Int} (hM : 0 ≤ M) (h : hP f f' M kd cl one oth ps) (hk : 0 ≤ kd ∧ kd ≤ 8) (hc : 1 ≤ cl ∧ cl ≤ 4) (h1 : kd ≠ 0 → 0 ≤ one ∧ one < M ∧ -1 ≤ oth ∧ oth < M) (hp : 0 ≤ ps ∧ ps ≤ 8)
    (h0 : kd = 0 → 0 < M → tI f (40 * (M - 1)) = 0) (c1 : kd = 1 → selP f M ps) (c2 : kd = 2 → ps ≤ 4 ∧ termP f M 0 ps)
    (c3 : kd = 3 → 0 ≤ oth ∧ ps ≤ 4 ∧ joinP f M ps ∧ tI f (40 * one + 1) + mCnt (tI f' (40 * M + 5)) (tI f (40 * oth + 1)).toNat ≤ 4)
    (c4 : kd = 4 ∨ kd = 5 → 0 ≤ oth) (c7 : kd = 7 → ps ≤ 3 ∧ grpP f M (ps + 1))
    (c8 : kd = 8 → 0 ≤ oth ∧ ps ≤ 4 ∧ 0 ≤ mP f M 0 0 ∧ mP f M 0 0 ≤ 3 ∧ 0 ≤ mP f M 0 1 ∧ mP f M 0 1 ≤ 3 ∧ termP f M 1 ps ∧ ps = tI f (40 * one + 1)) : rowOK f' M := by
  obtain ⟨hf, q0, q1, q2, q3, q4⟩ := h
  have ep : ∀ k w : Int, 0 ≤ k → 0 ≤ w → mP f' M k w = mP f M k w := fun k w _ _ => hf _ (by omega) (by omega)
  unfold rowOK
  rw [q0, q1, q2, q3, q4]
  refine ⟨⟨hk.1, hk.2, hc.1, hc.2⟩, h1, hp, fun a b => by rw [hf _ (by omega) (by omega)]; exact h0 a b, fun a k b c => ?_, fun a => ⟨(c2 a).1, fun k b c => ?_⟩, fun a => ?_, c4, fun a => ?_, fun a => ?_⟩
  · rw [ep k 0 b (by decide), ep k 2 b (by decide), ep k 3 b (by decide)]; exact c1 a k b c
  · rw [ep k 0 b (by decide)]; have := (c2 a).2 k b c; rwa [Int.zero_add] at this
  · obtain ⟨x1, x2, x3, x4⟩ := c3 a
    have y := h1 (by omega)
    refine ⟨x1, x2, fun k b c => ?_, ?_⟩
    · rw [ep k 0 b (by decide), ep k 1 b (by decide)]; exact x3 k b c
    · rw [hf (40 * one + 1) (by omega) (by omega), hf (40 * oth + 1) (by omega) (by omega)]; exact x4
  · obtain ⟨x1, x2⟩ := c7 a
    refine ⟨x1, fun k b c => ?_, ?_⟩
    · rw [ep k 0 b (by decide)]; exact x2 k b (by omega)
    · rw [ep ps 0 hp.1 (by decide)]; exact x2 ps hp.1 (by omega)
  · obtain ⟨x1, x2, x3, x4, x5, x6, x7, x8⟩ := c8 a
    have y := h1 (by omega)
    rw [ep 0 0 (by decide) (by decide), ep 0 1 (by decide) (by decide), hf (40 * one + 1) (by omega) (by omega)]
    exact ⟨x1, x2, x3, x4, x5, x6, fun k b c => by rw [ep (1 + k) 0 (by omega) (by decide)]; exact x7 k b c, x8⟩
theorem mCol {g : gG} {gh : gGh} {R : gR} {I AI : gI} {m : Nat} (hv : mInv g gh R I AI) (hm : gO g m 7) {z : Int} (h0 : 0 ≤ z) (h1 : z < (I m 5).toInt) : 1 ≤ tI (AI (gh 53 0)) (40 * z + 1) ∧ tI (AI (gh 53 0)) (40 * z + 1) ≤ 4 := by
  have h := (mRead hv hm h0 h1).1
  omega
theorem named_step {f : Nat → Int64} {k : Int} {w : Int64} (h : ∀ j : Int, 0 ≤ j → j < k → f j.toNat ≠ w) (hk : f k.toNat ≠ w) : ∀ j : Int, 0 ≤ j → j < k + 1 → f j.toNat ≠ w := fun j h0 h1 => by
  by_cases q : j = k
  · subst q; exact hk
  · exact h j h0 (by omega)
theorem mP5_0 {g : gG} {gh : gGh} {R : gR} {I AI : gI} {m : Nat} (hv : mInv g gh R I AI) (hm : gO g m 7) : mInv g gh R (gup2 I m 5 (iI 0)) AI := by
  refine ⟨hv.1, fun b hb => ?_, fun b c hb hc => (gup2_o hm hb hc).trans (hv.2.2.1 b c hb hc), hv.2.2.2⟩
  have e := mOne hv hm hb
  subst e
  obtain ⟨q, q1, q2, q3, q4⟩ := hv.2.1 b hb
  refine ⟨?_, q1, q2, ?_, ?_⟩
  · unfold mNum at q ⊢
    rw [gup2_k (j := 2) (k := 5) _ _ (by decide), gup2_k (j := 8) (k := 5) _ _ (by decide), gup2_k (j := 14) (k := 5) _ _ (by decide), gup2_k (j := 16) (k := 5) _ _ (by decide), gup2_k (j := 18) (k := 5) _ _ (by decide), gup2_k (j := 19) (k := 5) _ _ (by decide), gup2_k (j := 20) (k := 5) _ _ (by decide), gup2_k (j := 21) (k := 5) _ _ (by decide), gup2_k (j := 23) (k := 5) _ _ (by decide), gup2_k (j := 24) (k := 5) _ _ (by decide), gup2_k (j := 26) (k := 5) _ _ (by decide), gup2_s, iI_val ⟨by omega, by omega⟩]
    omega
  · rw [gup2_k (j := 2) (k := 5) _ _ (by decide)]; exact q3
  · intro r h0 h1
    rw [gup2_s, iI_val ⟨by omega, by omega⟩] at h1
    exact absurd h1 (by omega)
theorem mP5 {g : gG} {gh : gGh} {R : gR} {I AI : gI} {m : Nat} {z : Int} (hv : mInv g gh R I AI) (hm : gO g m 7) (hz : z = (I m 5).toInt + 1) (hl : z ≤ 16) (hr : rowOK (AI (gh 53 0)) (I m 5).toInt) : mInv g gh R (gup2 I m 5 (iI z)) AI := by
  refine ⟨hv.1, fun b hb => ?_, fun b c hb hc => (gup2_o hm hb hc).trans (hv.2.2.1 b c hb hc), hv.2.2.2⟩
  have e := mOne hv hm hb
  subst e
  obtain ⟨q, q1, q2, q3, q4⟩ := hv.2.1 b hb
  have q0 := q
  unfold mNum at q0
  refine ⟨?_, q1, q2, ?_, ?_⟩
  · unfold mNum
    rw [gup2_k (j := 2) (k := 5) _ _ (by decide), gup2_k (j := 8) (k := 5) _ _ (by decide), gup2_k (j := 14) (k := 5) _ _ (by decide), gup2_k (j := 16) (k := 5) _ _ (by decide), gup2_k (j := 18) (k := 5) _ _ (by decide), gup2_k (j := 19) (k := 5) _ _ (by decide), gup2_k (j := 20) (k := 5) _ _ (by decide), gup2_k (j := 21) (k := 5) _ _ (by decide), gup2_k (j := 23) (k := 5) _ _ (by decide), gup2_k (j := 24) (k := 5) _ _ (by decide), gup2_k (j := 26) (k := 5) _ _ (by decide), gup2_s, iI_val ⟨by omega, by omega⟩]
    omega
  · rw [gup2_k (j := 2) (k := 5) _ _ (by decide)]; exact q3
  · intro r h0 h1
    rw [gup2_s, iI_val ⟨by omega, by omega⟩] at h1
    by_cases e : r = (I b 5).toInt
    · rw [e]; exact hr
    · exact q4 r h0 (by omega)
/-- no relation told: told may be written -/
theorem mP2_0 {g : gG} {gh : gGh} {R : gR} {I AI : gI} {m : Nat} (hv : mInv g gh R I AI) (hm : gO g m 7) : mInv g gh R (gup2 I m 2 (iI 0)) AI := by
  refine ⟨hv.1, fun b hb => ?_, fun b c hb hc => (gup2_o hm hb hc).trans (hv.2.2.1 b c hb hc), hv.2.2.2⟩
  have e := mOne hv hm hb
  subst e
  obtain ⟨q, q1, q2, q3, q4⟩ := hv.2.1 b hb
  refine ⟨?_, q1, q2, ?_, ?_⟩
  · unfold mNum at q ⊢
    rw [gup2_k (j := 5) (k := 2) _ _ (by decide), gup2_k (j := 8) (k := 2) _ _ (by decide), gup2_k (j := 14) (k := 2) _ _ (by decide), gup2_k (j := 16) (k := 2) _ _ (by decide), gup2_k (j := 18) (k := 2) _ _ (by decide), gup2_k (j := 19) (k := 2) _ _ (by decide), gup2_k (j := 20) (k := 2) _ _ (by decide), gup2_k (j := 21) (k := 2) _ _ (by decide), gup2_k (j := 23) (k := 2) _ _ (by decide), gup2_k (j := 24) (k := 2) _ _ (by decide), gup2_k (j := 26) (k := 2) _ _ (by decide), gup2_s, iI_val ⟨by omega, by omega⟩]
    omega
  · intro r h0 h1
    rw [gup2_s, iI_val ⟨by omega, by omega⟩] at h1
    exact absurd h1 (by omega)
  · rw [gup2_k (j := 5) (k := 2) _ _ (by decide)]; exact q4
theorem mInv_told0 {g : gG} {gh : gGh} {R : gR} {I AI AI' : gI} {m z : Nat} {v : Int32} (hv : mInv g gh R I AI) (hm : gO g m 7) (h0 : (I m 2).toInt = 0) (e : AI' = gup2 AI (gh 50 0) z v) : mInv g gh R I AI' := by
  have hr := (hv.1 m hm).2.1 (0, 640) (by decide)
  have h10 : gh 10 (gh 50 0) = 0 := hr.2.2.2
  have e' : ∀ b, b ≠ gh 50 0 → AI' b = AI b := fun b hb => by rw [e]; exact funext fun j => gup2_a _ _ hb
  have s : ∀ p ∈ mTab, p.1 ≠ 0 → AI' (gh (50 + p.1) 0) = AI (gh (50 + p.1) 0) := fun p hp hne => e' _ (fun z => hne (by have := ((hv.1 m hm).2.1 p hp).2.2.2; rw [z, h10] at this; exact this.symm))
  refine ⟨hv.1, fun b hb => ⟨(hv.2.1 b hb).1, ?_⟩, hv.2.2.1, fun b hb => (e' b (fun z => hb (by rw [z]; exact hr.2.2.1 (by decide) (by decide) (by decide) (by decide)))).trans (hv.2.2.2 b hb)⟩
  have hbm := mOne hv hm hb
  subst hbm
  have q := (hv.2.1 b hb).2
  unfold mCon
  have s7 : AI' (gh 57 0) = AI (gh 57 0) := s (7, 176) (by decide) (by decide)
  have s11 : AI' (gh 61 0) = AI (gh 61 0) := s (11, 41) (by decide) (by decide)
  have s3 : AI' (gh 53 0) = AI (gh 53 0) := s (3, 640) (by decide) (by decide)
  rw [s7, s11, s3]
  exact ⟨q.1, q.2.1, fun r h1 h2 => absurd h2 (by omega), q.2.2.2⟩
theorem mPlan {g : gG} {gh : gGh} {R : gR} {I I' Iv AI : gI} {m : Nat} {M : Int} (hv : mInv g gh R Iv AI) (hm : gO g m 7) (hN : mNum (I m)) (eIv : Iv = gup2 I m 2 (iI 0)) (hM : M = (I m 5).toInt)
    (ef : I' = gup2 (gup2 (gup2 (gup2 (gup2 I m 2 (iI M)) m 8 (iI 0)) m 9 (iI 0)) m 10 (iI 0)) m 14 (iI 0)) (hr : ∀ r : Int, 0 ≤ r → r < M → rowOK (AI (gh 50 0)) r) : mInv g gh R I' AI ∧ (I' m 16).toInt = (I m 16).toInt := by
  have e : ∀ j, j ≠ 2 → j ≠ 8 → j ≠ 9 → j ≠ 10 → j ≠ 14 → I' m j = I m j := fun j a b c d q => by rw [ef, gup2_k _ _ q, gup2_k _ _ d, gup2_k _ _ c, gup2_k _ _ b, gup2_k _ _ a]
  have e14 : (I' m 14).toInt = 0 := by rw [ef, gup2_s]; exact iI_val ⟨by omega, by omega⟩
  have e8 : (I' m 8).toInt = 0 := by rw [ef, gup2_k (j := 8) (k := 14) _ _ (by decide), gup2_k (j := 8) (k := 10) _ _ (by decide), gup2_k (j := 8) (k := 9) _ _ (by decide), gup2_s]; exact iI_val ⟨by omega, by omega⟩
  have h0 := hN
  unfold mNum at h0
  have e2 : (I' m 2).toInt = M := by rw [ef, gup2_k (j := 2) (k := 14) _ _ (by decide), gup2_k (j := 2) (k := 10) _ _ (by decide), gup2_k (j := 2) (k := 9) _ _ (by decide), gup2_k (j := 2) (k := 8) _ _ (by decide), gup2_s]; exact iI_val ⟨by omega, by omega⟩
  refine ⟨⟨hv.1, fun b hb => ?_, fun b c hb hc => ?_, hv.2.2.2⟩, by rw [e 16 (by decide) (by decide) (by decide) (by decide) (by decide)]⟩
  · have q := mOne hv hm hb
    subst q
    obtain ⟨_, q1, q2, q3, q4⟩ := hv.2.1 b hb
    refine ⟨?_, q1, q2, ?_, ?_⟩
    · unfold mNum
      rw [e2, e8, e14, e 5 (by decide) (by decide) (by decide) (by decide) (by decide), e 16 (by decide) (by decide) (by decide) (by decide) (by decide), e 18 (by decide) (by decide) (by decide) (by decide) (by decide), e 19 (by decide) (by decide) (by decide) (by decide) (by decide), e 20 (by decide) (by decide) (by decide) (by decide) (by decide), e 21 (by decide) (by decide) (by decide) (by decide) (by decide), e 23 (by decide) (by decide) (by decide) (by decide) (by decide), e 24 (by decide) (by decide) (by decide) (by decide) (by decide), e 26 (by decide) (by decide) (by decide) (by decide) (by decide)]
      omega
    · rw [e2]; exact hr
    · rw [e 5 (by decide) (by decide) (by decide) (by decide) (by decide)]
      rw [eIv, gup2_k (j := 5) (k := 2) _ _ (by decide)] at q4
      exact q4
  · have q := hv.2.2.1 b c hb hc
    rw [eIv] at q
    have q' := (gup2_o (k := 2) (v := iI 0) (I := I) hm hb hc).symm.trans q
    rw [ef, gup2_o hm hb hc, gup2_o hm hb hc, gup2_o hm hb hc, gup2_o hm hb hc, gup2_o hm hb hc]
    exact q'
theorem mCnt_u {x : Int} {a : Nat} : mCnt x a ≤ a := by
  induction a with
  | zero => exact Int.le_refl _
  | succ n ih => rw [mCnt]; split <;> omega
end
section
theorem hdX7_wrong : yX7_wrong.cls = RX7 ∧ yX7_wrong.cls ≠ "java/lang/invoke/MethodHandle" ∧ yX7_wrong.cls ≠ "java/lang/invoke/VarHandle" ∧ (parseMethodDescriptor yX7_wrong.desc).map (fun d => d.parameters.length) = some 1 := by decide +kernel
theorem hdX7_runs : yX7_runs.cls = RX7 ∧ yX7_runs.cls ≠ "java/lang/invoke/MethodHandle" ∧ yX7_runs.cls ≠ "java/lang/invoke/VarHandle" ∧ (parseMethodDescriptor yX7_runs.desc).map (fun d => d.parameters.length) = some 1 := by decide +kernel
theorem hdX7_next : yX7_next.cls = RX7 ∧ yX7_next.cls ≠ "java/lang/invoke/MethodHandle" ∧ yX7_next.cls ≠ "java/lang/invoke/VarHandle" ∧ (parseMethodDescriptor yX7_next.desc).map (fun d => d.parameters.length) = some 0 := by decide +kernel
end
section
theorem hdX7_packed : yX7_packed.cls = RX7 ∧ yX7_packed.cls ≠ "java/lang/invoke/MethodHandle" ∧ yX7_packed.cls ≠ "java/lang/invoke/VarHandle" ∧ (parseMethodDescriptor yX7_packed.desc).map (fun d => d.parameters.length) = some 1 := by decide +kernel
theorem hdX7_isWord : yX7_isWord.cls = RX7 ∧ yX7_isWord.cls ≠ "java/lang/invoke/MethodHandle" ∧ yX7_isWord.cls ≠ "java/lang/invoke/VarHandle" ∧ (parseMethodDescriptor yX7_isWord.desc).map (fun d => d.parameters.length) = some 1 := by decide +kernel
theorem hdX7_isSign : yX7_isSign.cls = RX7 ∧ yX7_isSign.cls ≠ "java/lang/invoke/MethodHandle" ∧ yX7_isSign.cls ≠ "java/lang/invoke/VarHandle" ∧ (parseMethodDescriptor yX7_isSign.desc).map (fun d => d.parameters.length) = some 1 := by decide +kernel
theorem hdX7_mustSign : yX7_mustSign.cls = RX7 ∧ yX7_mustSign.cls ≠ "java/lang/invoke/MethodHandle" ∧ yX7_mustSign.cls ≠ "java/lang/invoke/VarHandle" ∧ (parseMethodDescriptor yX7_mustSign.desc).map (fun d => d.parameters.length) = some 1 := by decide +kernel
theorem hdX7_mustWord : yX7_mustWord.cls = RX7 ∧ yX7_mustWord.cls ≠ "java/lang/invoke/MethodHandle" ∧ yX7_mustWord.cls ≠ "java/lang/invoke/VarHandle" ∧ (parseMethodDescriptor yX7_mustWord.desc).map (fun d => d.parameters.length) = some 1 := by decide +kernel
theorem hdX7_isReserved : yX7_isReserved.cls = RX7 ∧ yX7_isReserved.cls ≠ "java/lang/invoke/MethodHandle" ∧ yX7_isReserved.cls ≠ "java/lang/invoke/VarHandle" ∧ (parseMethodDescriptor yX7_isReserved.desc).map (fun d => d.parameters.length) = some 0 := by decide +kernel
def rmX7_named : Room := { frames := 0, cells := 0, slots := 0, locals := 0 }
theorem hdX7_named : yX7_named.cls = RX7 ∧ yX7_named.cls ≠ "java/lang/invoke/MethodHandle" ∧ yX7_named.cls ≠ "java/lang/invoke/VarHandle" ∧ (parseMethodDescriptor yX7_named.desc).map (fun d => d.parameters.length) = some 1 := by decide +kernel
set_option maxHeartbeats 4000000 in
set_option maxRecDepth 100000 in
/-- named -/
theorem c_X7_named (l : Launch) (g : gG) (gh : gGh) (T : Nat → Int32) (I : gI) (R : gR) (J : gJ) (AI : gI) (AJ : gJ) (AR : gR) (mo : Nat) (lw : Int64) (hv : mInv g gh R I AI) (hm : gO g mo 7) (hT : AI (gh 50 0) = T) : gMet l g yX7_named tsX7_named rmX7_named [.ref mo, .long lw] (I, R, J, AI, AJ, AR) (gQi g (fun (z : Int) (w : gS) => I = w.1 ∧ R = w.2.1 ∧ J = w.2.2.1 ∧ AI = w.2.2.2.1 ∧ AJ = w.2.2.2.2.1 ∧ AR = w.2.2.2.2.2 ∧ (-1 ≤ z ∧ z < (I mo 5).toInt) ∧ ((0 ≤ z → AJ (gh 54 0) z.toNat = lw) ∧ (z < 0 → ∀ j : Int, 0 ≤ j → j < (I mo 5).toInt → AJ (gh 54 0) j.toNat ≠ lw)))) := by
  refine gStart (cc := cX7_named) (maxL := 4) (ret := (some (.int))) (by decide) rfl (Nat.le_of_ble_eq_true rfl) ?_
  intro p e s m below meth c ls F hr hlk hH hz hS hl
  have hl : lv_has ls 4 [(0, .ref mo), (1, .long lw)] := hl
  have hS : va_S (gA g) s.heap s.heap [] := hS
  obtain ⟨H, hHe⟩ : ∃ H : Heap, H = s.heap := ⟨_, rfl⟩
  obtain ⟨locs, hlo⟩ : ∃ k : List Loc, k = [] := ⟨_, rfl⟩
  have hH : gH g I R J AI AJ AR H := by rw [hHe]; exact hH
  have hS : va_S (gA g) s.heap H locs := by rw [hHe, hlo]; exact hS
  suffices hw : W p l e rmX7_named s m ([.ref mo, .long lw] : List Value).toArray below meth c H locs 0 0 (MQ below (gQi g (fun (z : Int) (w : gS) => I = w.1 ∧ R = w.2.1 ∧ J = w.2.2.1 ∧ AI = w.2.2.2.1 ∧ AJ = w.2.2.2.2.1 ∧ AR = w.2.2.2.2.2 ∧ (-1 ≤ z ∧ z < (I mo 5).toInt) ∧ ((0 ≤ z → AJ (gh 54 0) z.toNat = lw) ∧ (z < 0 → ∀ j : Int, 0 ≤ j → j < (I mo 5).toInt → AJ (gh 54 0) j.toNat ≠ lw)))) ([.ref mo, .long lw] : List Value).toArray s 0 0 (gA g)) (F0 m 0 ls []) by
    rw [hHe, hlo] at hw; exact hw
  clear hHe hlo
  have hb0 := mJ hv hm
  unfold mNum1 at hb0
  have iX7 : ∀ w ∈ u_ws RX7 TX7 32, w ∈ tsX7_named := fun w h => List.mem_cons_of_mem _ (inTB7 w h)
  have k184 : Cond.fieldLink RX7 184 (TX7 5).1 (TX7 5).2.1 (TX7 5).2.2.1 ∈ tsX7_named := List.mem_cons_of_mem _ fl_184
  have k20 : Cond.fieldLink RX7 20 (TX7 4).1 (TX7 4).2.1 (TX7 4).2.2.1 ∈ tsX7_named := List.mem_cons_of_mem _ fl_20
  refine z_iconst F dX7_named_0 ?_
  refine lv_istore_n (lv' := [(3, .int (iI 0)), (0, .ref mo), (1, .long lw)]) F.1 F.2.1 dX7_named_1 rfl hl (by decide) rfl (fun ls hl => ?_)
  have cut_2_0 : ∀ (NN : Nat) (k : Int) (H : Heap) (locs : List Loc) (ls : Array Slot), zr k → (0 ≤ k ∧ k ≤ (I mo 5).toInt) → (∀ j : Int, 0 ≤ j → j < k → AJ (gh 54 0) j.toNat ≠ lw) → ((I mo 5).toInt - k) < ((NN : Nat) : Int) → gH g I R J AI AJ AR H → va_S (gA g) s.heap H locs → lv_has ls 4 [(3, .int (iI k)), (0, .ref mo), (1, .long lw)] → W p l e rmX7_named s m ([.ref mo, .long lw] : List Value).toArray below meth c H locs 0 0 (MQ below (gQi g (fun (z : Int) (w : gS) => I = w.1 ∧ R = w.2.1 ∧ J = w.2.2.1 ∧ AI = w.2.2.2.1 ∧ AJ = w.2.2.2.2.1 ∧ AR = w.2.2.2.2.2 ∧ (-1 ≤ z ∧ z < (I mo 5).toInt) ∧ ((0 ≤ z → AJ (gh 54 0) z.toNat = lw) ∧ (z < 0 → ∀ j : Int, 0 ≤ j → j < (I mo 5).toInt → AJ (gh 54 0) j.toNat ≠ lw)))) ([.ref mo, .long lw] : List Value).toArray s 0 0 (gA g)) (F0 m 2 ls []) := by
    intro NN2
    induction NN2 with
    | zero =>
      intro k H locs ls zk hk hno hm2 hH hS hl
      exact absurd hm2 (by omega)
    | succ NN2 ih2 =>
      intro k H locs ls zk hk hno hm2 hH hS hl
      refine lv_iload_n F.1 F.2.1 dX7_named_2 rfl (lv_at hl 0 rfl) ?_
      refine lv_aload_n F.1 F.2.1 dX7_named_3 rfl (lv_at hl 1 rfl) ?_
      refine g_getI (ci := 7) (k := 5) F hH rfl (by decide) iX7 hm (by decide) rfl k184 dX7_named_4 ?_
      have b_2 := mJ hv hm
      unfold mNum1 at b_2
      refine z_icmp_ge (tgt := 29) F dX7_named_7 (by decide) zk (zr_t _) (fun c_3 => ?_) (fun c_3 => ?_)
      · refine z_iconst F dX7_named_29 ?_
        exact g_iret F hr hlk hH hS hz ⟨by decide, by decide⟩ ⟨rfl, rfl, rfl, rfl, rfl, rfl, by first | omega | rfl | (dsimp only; omega), by first | exact ⟨fun _ => hlc.mp (by omega), fun h => absurd h (by omega)⟩ | exact ⟨fun h => absurd h (by decide), fun _ j h1 h2 => hno j h1 (by omega)⟩⟩ dX7_named_30
      · refine lv_aload_n F.1 F.2.1 dX7_named_10 rfl (lv_at hl 1 rfl) ?_
        refine g_getR (ci := 7) (k := 4) F hH rfl (by decide) iX7 hm (by decide) rfl (b := gh 54 0) (hv.1 mo hm).2.2.2.1 k20 dX7_named_11 ?_
        refine lv_iload_n F.1 F.2.1 dX7_named_14 rfl (lv_at hl 0 rfl) ?_
        have hx15 : 0 ≤ k ∧ k < ((16 : Nat) : Int) ∧ k ≤ 2147483647 := ⟨by omega, by omega, by omega⟩
        refine g_lald F hH (hv.1 mo hm).2.2.2.2 hx15.1 hx15.2.1 hx15.2.2 dX7_named_15 ?_
        refine lv_topl (fun j_4 ej_4 => ?_)
        refine lv_lload_n F.1 F.2.1 dX7_named_16 rfl (lv_at hl 2 rfl) ?_
        refine W.lcmp F.1 F.2.1 dX7_named_17 ?_
        refine z_top (fun v_5 zv_5 ev_5 => ?_)
        have lv_5 : v_5 = 0 ↔ j_4 = lw := by rw [ev_5]; exact z_lcmp
        have hlc : v_5 = 0 ↔ AJ (gh 54 0) k.toNat = lw := by rw [← ej_4]; exact lv_5
        refine z_if_ne (tgt := 23) F dX7_named_18 (by decide) zv_5 (fun c_6 => ?_) (fun c_6 => ?_)
        · refine z_iinc (lv' := [(3, .int (iI (k + 1))), (0, .ref mo), (1, .long lw)]) F dX7_named_23 hl (k := 0) rfl (by decide) rfl (fun ls hl => ?_)
          refine z_goto (tgt := 2) F dX7_named_26 (by decide) ?_
          exact ih2 (k + 1) H locs ls ⟨by omega, by omega⟩ (by omega) (by first | exact (fun j h1 h2 => absurd h2 (by omega)) | exact (named_step hno (fun h => absurd (hlc.mpr h) (by omega)))) (by omega) hH hS (lv_sub hl [0, 1, 2] rfl)
        · refine lv_iload_n F.1 F.2.1 dX7_named_21 rfl (lv_at hl 0 rfl) ?_
          exact g_iret F hr hlk hH hS hz zk ⟨rfl, rfl, rfl, rfl, rfl, rfl, by first | omega | rfl | (dsimp only; omega), by first | exact ⟨fun _ => hlc.mp (by omega), fun h => absurd h (by omega)⟩ | exact ⟨fun h => absurd h (by decide), fun _ j h1 h2 => hno j h1 (by omega)⟩⟩ dX7_named_22
  exact cut_2_0 ((((I mo 5).toInt - 0) + 1 : Int).toNat) 0 H locs ls ⟨by decide, by decide⟩ (by omega) (by first | exact (fun j h1 h2 => absurd h2 (by omega)) | exact (named_step hno (fun h => absurd (hlc.mpr h) (by omega)))) (by omega) hH hS (lv_sub hl [0, 1, 2] rfl)

theorem hdX7_newName : yX7_newName.cls = RX7 ∧ yX7_newName.cls ≠ "java/lang/invoke/MethodHandle" ∧ yX7_newName.cls ≠ "java/lang/invoke/VarHandle" ∧ (parseMethodDescriptor yX7_newName.desc).map (fun d => d.parameters.length) = some 0 := by decide +kernel
theorem hdX7_relation : yX7_relation.cls = RX7 ∧ yX7_relation.cls ≠ "java/lang/invoke/MethodHandle" ∧ yX7_relation.cls ≠ "java/lang/invoke/VarHandle" ∧ (parseMethodDescriptor yX7_relation.desc).map (fun d => d.parameters.length) = some 0 := by decide +kernel
def rmX7_columns : Room := { frames := 0, cells := 0, slots := 0, locals := 0 }
theorem hdX7_columns : yX7_columns.cls = RX7 ∧ yX7_columns.cls ≠ "java/lang/invoke/MethodHandle" ∧ yX7_columns.cls ≠ "java/lang/invoke/VarHandle" ∧ (parseMethodDescriptor yX7_columns.desc).map (fun d => d.parameters.length) = some 1 := by decide +kernel
set_option maxHeartbeats 4000000 in
set_option maxRecDepth 100000 in
/-- columns -/
theorem c_X7_columns (l : Launch) (g : gG) (gh : gGh) (T : Nat → Int32) (I : gI) (R : gR) (J : gJ) (AI : gI) (AJ : gJ) (AR : gR) (mo : Nat) (rr : Int) (zrr : zr rr) (hv : mInv g gh R I AI) (hm : gO g mo 7) (hT : AI (gh 50 0) = T) (hr0 : 0 ≤ rr ∧ rr ≤ 15) : gMet l g yX7_columns tsX7_columns rmX7_columns [.ref mo, .int (iI rr)] (I, R, J, AI, AJ, AR) (gQi g (fun (z : Int) (w : gS) => I = w.1 ∧ R = w.2.1 ∧ J = w.2.2.1 ∧ AI = w.2.2.2.1 ∧ AJ = w.2.2.2.2.1 ∧ AR = w.2.2.2.2.2 ∧ (z = tI (AI (gh 53 0)) (40 * rr + 1)))) := by
  refine gStart (cc := cX7_columns) (maxL := 2) (ret := (some (.int))) (by decide) rfl (Nat.le_of_ble_eq_true rfl) ?_
  intro p e s m below meth c ls F hr hlk hH hz hS hl
  have hl : lv_has ls 2 [(0, .ref mo), (1, .int (iI rr))] := hl
  have hS : va_S (gA g) s.heap s.heap [] := hS
  obtain ⟨H, hHe⟩ : ∃ H : Heap, H = s.heap := ⟨_, rfl⟩
  obtain ⟨locs, hlo⟩ : ∃ k : List Loc, k = [] := ⟨_, rfl⟩
  have hH : gH g I R J AI AJ AR H := by rw [hHe]; exact hH
  have hS : va_S (gA g) s.heap H locs := by rw [hHe, hlo]; exact hS
  suffices hw : W p l e rmX7_columns s m ([.ref mo, .int (iI rr)] : List Value).toArray below meth c H locs 0 0 (MQ below (gQi g (fun (z : Int) (w : gS) => I = w.1 ∧ R = w.2.1 ∧ J = w.2.2.1 ∧ AI = w.2.2.2.1 ∧ AJ = w.2.2.2.2.1 ∧ AR = w.2.2.2.2.2 ∧ (z = tI (AI (gh 53 0)) (40 * rr + 1)))) ([.ref mo, .int (iI rr)] : List Value).toArray s 0 0 (gA g)) (F0 m 0 ls []) by
    rw [hHe, hlo] at hw; exact hw
  clear hHe hlo
  have iX7 : ∀ w ∈ u_ws RX7 TX7 32, w ∈ tsX7_columns := fun w h => List.mem_cons_of_mem _ (inTB7 w h)
  have k17 : Cond.fieldLink RX7 17 (TX7 3).1 (TX7 3).2.1 (TX7 3).2.2.1 ∈ tsX7_columns := List.mem_cons_of_mem _ fl_17
  refine lv_aload_n F.1 F.2.1 dX7_columns_0 rfl (lv_at hl 0 rfl) ?_
  obtain ⟨r_1a, r_1b⟩ : R mo 3 = some (gh 53 0) ∧ gAr g (gh 53 0) 9 640 := mR hv hm (q := (3, 640)) (by decide)
  refine g_getR (ci := 7) (k := 3) F hH rfl (by decide) iX7 hm (by decide) rfl (b := gh 53 0) r_1a k17 dX7_columns_1 ?_
  refine z_bipush F dX7_columns_4 (by decide) ?_
  refine lv_iload_n F.1 F.2.1 dX7_columns_6 rfl (lv_at hl 1 rfl) ?_
  refine z_imul F dX7_columns_7 ?_
  refine z_iconst F dX7_columns_8 ?_
  refine z_iadd F dX7_columns_9 ?_
  have hx10 : 0 ≤ ((40 * rr) + 1) ∧ ((40 * rr) + 1) < ((640 : Nat) : Int) ∧ ((40 * rr) + 1) ≤ 2147483647 := ⟨by omega, by omega, by omega⟩
  refine g_iald F hH r_1b hx10.1 hx10.2.1 hx10.2.2 dX7_columns_10 ?_
  exact g_iret F hr hlk hH hS hz (zr_t _) ⟨rfl, rfl, rfl, rfl, rfl, rfl, rfl⟩ dX7_columns_11

theorem hdX7_column : yX7_column.cls = RX7 ∧ yX7_column.cls ≠ "java/lang/invoke/MethodHandle" ∧ yX7_column.cls ≠ "java/lang/invoke/VarHandle" ∧ (parseMethodDescriptor yX7_column.desc).map (fun d => d.parameters.length) = some 1 := by decide +kernel
theorem hdX7_numberTold : yX7_numberTold.cls = RX7 ∧ yX7_numberTold.cls ≠ "java/lang/invoke/MethodHandle" ∧ yX7_numberTold.cls ≠ "java/lang/invoke/VarHandle" ∧ (parseMethodDescriptor yX7_numberTold.desc).map (fun d => d.parameters.length) = some 0 := by decide +kernel
theorem hdX7_sets : yX7_sets.cls = RX7 ∧ yX7_sets.cls ≠ "java/lang/invoke/MethodHandle" ∧ yX7_sets.cls ≠ "java/lang/invoke/VarHandle" ∧ (parseMethodDescriptor yX7_sets.desc).map (fun d => d.parameters.length) = some 2 := by decide +kernel
theorem hdX7_setsPart : yX7_setsPart.cls = RX7 ∧ yX7_setsPart.cls ≠ "java/lang/invoke/MethodHandle" ∧ yX7_setsPart.cls ≠ "java/lang/invoke/VarHandle" ∧ (parseMethodDescriptor yX7_setsPart.desc).map (fun d => d.parameters.length) = some 5 := by decide +kernel
theorem hdX7_header : yX7_header.cls = RX7 ∧ yX7_header.cls ≠ "java/lang/invoke/MethodHandle" ∧ yX7_header.cls ≠ "java/lang/invoke/VarHandle" ∧ (parseMethodDescriptor yX7_header.desc).map (fun d => d.parameters.length) = some 5 := by decide +kernel
end
section
theorem hdX7_termsTold : yX7_termsTold.cls = RX7 ∧ yX7_termsTold.cls ≠ "java/lang/invoke/MethodHandle" ∧ yX7_termsTold.cls ≠ "java/lang/invoke/VarHandle" ∧ (parseMethodDescriptor yX7_termsTold.desc).map (fun d => d.parameters.length) = some 2 := by decide +kernel
theorem hdX7_selectTold : yX7_selectTold.cls = RX7 ∧ yX7_selectTold.cls ≠ "java/lang/invoke/MethodHandle" ∧ yX7_selectTold.cls ≠ "java/lang/invoke/VarHandle" ∧ (parseMethodDescriptor yX7_selectTold.desc).map (fun d => d.parameters.length) = some 0 := by decide +kernel
theorem hdX7_projectTold : yX7_projectTold.cls = RX7 ∧ yX7_projectTold.cls ≠ "java/lang/invoke/MethodHandle" ∧ yX7_projectTold.cls ≠ "java/lang/invoke/VarHandle" ∧ (parseMethodDescriptor yX7_projectTold.desc).map (fun d => d.parameters.length) = some 0 := by decide +kernel
end
section
theorem hdX7_joinTold : yX7_joinTold.cls = RX7 ∧ yX7_joinTold.cls ≠ "java/lang/invoke/MethodHandle" ∧ yX7_joinTold.cls ≠ "java/lang/invoke/VarHandle" ∧ (parseMethodDescriptor yX7_joinTold.desc).map (fun d => d.parameters.length) = some 0 := by decide +kernel
theorem hdX7_bothTold : yX7_bothTold.cls = RX7 ∧ yX7_bothTold.cls ≠ "java/lang/invoke/MethodHandle" ∧ yX7_bothTold.cls ≠ "java/lang/invoke/VarHandle" ∧ (parseMethodDescriptor yX7_bothTold.desc).map (fun d => d.parameters.length) = some 1 := by decide +kernel
end
section
theorem hdX7_groupTold : yX7_groupTold.cls = RX7 ∧ yX7_groupTold.cls ≠ "java/lang/invoke/MethodHandle" ∧ yX7_groupTold.cls ≠ "java/lang/invoke/VarHandle" ∧ (parseMethodDescriptor yX7_groupTold.desc).map (fun d => d.parameters.length) = some 0 := by decide +kernel
theorem hdX7_ringTold : yX7_ringTold.cls = RX7 ∧ yX7_ringTold.cls ≠ "java/lang/invoke/MethodHandle" ∧ yX7_ringTold.cls ≠ "java/lang/invoke/VarHandle" ∧ (parseMethodDescriptor yX7_ringTold.desc).map (fun d => d.parameters.length) = some 0 := by decide +kernel
end
section
theorem kind0_step {f f' : Nat → Int32} {M cl one oth ps : Int} (hM : 0 ≤ M) (h : ∀ r : Int, 0 ≤ r → r < M → tI f (40 * r) = 0) (hp : hP f f' M 0 cl one oth ps) : ∀ r : Int, 0 ≤ r → r < M + 1 → tI f' (40 * r) = 0 := fun r h0 h1 => by
  by_cases q : r = M
  · rw [q]; exact hp.2.1
  · rw [hp.1 _ (by omega) (by omega)]; exact h r h0 (by omega)
theorem mCp {g : gG} {gh : gGh} {R : gR} {I AI AI' : gI} {m : Nat} {i v : Int} (hv : mInv g gh R I AI) (hm : gO g m 7) (h0 : 0 ≤ i) (e : AI' = gup2 AI (gh 50 0) i.toNat (iI v)) (ev : v = (AI (gh 53 0) i.toNat).toInt)
    (h : ∀ y : Int, 0 ≤ y → y < i → tI (AI (gh 50 0)) y = tI (AI (gh 53 0)) y) : ∀ y : Int, 0 ≤ y → y < i + 1 → tI (AI' (gh 50 0)) y = tI (AI' (gh 53 0)) y := fun y a b => by
  have e3 : AI' (gh 53 0) = AI (gh 53 0) := mK hv hm (p := (3, 640)) (q := (0, 640)) (by decide) (by decide) (by decide) (fun b hb => by rw [e]; exact funext fun j => gup2_a _ _ hb)
  rw [e3, e]
  by_cases q : y = i
  · rw [q, ev]; unfold tI; rw [gup2_s, iI_self]
  · rw [tI_k h0 a q]; exact h y a (by omega)
theorem hdX7_tableTold : yX7_tableTold.cls = RX7 ∧ yX7_tableTold.cls ≠ "java/lang/invoke/MethodHandle" ∧ yX7_tableTold.cls ≠ "java/lang/invoke/VarHandle" ∧ (parseMethodDescriptor yX7_tableTold.desc).map (fun d => d.parameters.length) = some 1 := by decide +kernel
theorem hdX7_viewTold : yX7_viewTold.cls = RX7 ∧ yX7_viewTold.cls ≠ "java/lang/invoke/MethodHandle" ∧ yX7_viewTold.cls ≠ "java/lang/invoke/VarHandle" ∧ (parseMethodDescriptor yX7_viewTold.desc).map (fun d => d.parameters.length) = some 0 := by decide +kernel
end
section
theorem hdX7_plan : yX7_plan.cls = RX7 ∧ yX7_plan.cls ≠ "java/lang/invoke/MethodHandle" ∧ yX7_plan.cls ≠ "java/lang/invoke/VarHandle" ∧ (parseMethodDescriptor yX7_plan.desc).map (fun d => d.parameters.length) = some 0 := by decide +kernel
end
