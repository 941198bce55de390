section
/-! a byte of a long: the class's and the reference's are one, but for the sign -/
theorem by_u : ∀ n : Nat, n < 57 → (((iI (n : Int)).toInt64.toUInt64 &&& Int64.toUInt64 63).toBitVec % 64).toNat = n := by decide +kernel
theorem by_s : ∀ n : Nat, n < 57 → (((iI (n : Int)).toInt64 &&& 63).toBitVec.smod 64).toNat = n := by decide +kernel
theorem by_ub (v : Int64) {n i : Nat} (hn : n < 57) (hi : i < 8) : ((v.toUInt64 >>> ((iI (n : Int)).toInt64.toUInt64 &&& Int64.toUInt64 63)).toInt64.toInt32).toBitVec.getLsbD i = v.toBitVec.getLsbD (n + i) := by
  rw [Int64.toBitVec_toInt32, BitVec.getLsbD_signExtend, if_pos (by omega)]
  show (decide (i < 32) && (v.toUInt64 >>> ((iI (n : Int)).toInt64.toUInt64 &&& Int64.toUInt64 63)).toBitVec.getLsbD i) = v.toUInt64.toBitVec.getLsbD (n + i)
  rw [UInt64.toBitVec_shiftRight]
  show (decide (i < 32) && (v.toUInt64.toBitVec >>> (((iI (n : Int)).toInt64.toUInt64 &&& Int64.toUInt64 63).toBitVec % 64).toNat).getLsbD i) = _
  rw [by_u n hn, BitVec.getLsbD_ushiftRight, decide_eq_true (by omega : i < 32), Bool.true_and]
theorem by_sb (v : Int64) {n i : Nat} (hn : n < 57) (hi : i < 8) : ((v >>> ((iI (n : Int)).toInt64 &&& 63)).toInt32).toBitVec.getLsbD i = v.toBitVec.getLsbD (n + i) := by
  rw [Int64.toBitVec_toInt32, BitVec.getLsbD_signExtend, if_pos (by omega), Int64.toBitVec_shiftRight]
  show (decide (i < 32) && (v.toBitVec.sshiftRight (((iI (n : Int)).toInt64 &&& 63).toBitVec.smod 64).toNat).getLsbD i) = _
  rw [by_s n hn, BitVec.getLsbD_sshiftRight, decide_eq_true (by omega : i < 32), Bool.true_and, if_pos (by omega), decide_eq_false (by omega : ¬ 64 ≤ i)]
  rfl
theorem by_m : ∀ i < 32, 8 ≤ i → (255 : Int32).toBitVec.getLsbD i = false := by decide
theorem by_b (x : Int32) : x.toInt8.toInt32 &&& 255 = x &&& 255 := by
  apply Int32.toBitVec_inj.mp
  rw [Int32.toBitVec_and, Int32.toBitVec_and, Int8.toBitVec_toInt32, Int32.toBitVec_toInt8]
  apply BitVec.eq_of_getLsbD_eq
  intro i hi
  rw [BitVec.getLsbD_and, BitVec.getLsbD_and]
  rcases Nat.lt_or_ge i 8 with z | z
  · rw [BitVec.getLsbD_signExtend, BitVec.getLsbD_signExtend, if_pos z, if_pos hi]
    simp only [z, hi, decide_true, Bool.true_and]
  · rw [by_m i hi z]; simp
theorem by_c (v : Int64) (sh : Int) : cBs v sh = ((((v.toUInt64 >>> ((iI sh).toInt64.toUInt64 &&& Int64.toUInt64 63)).toInt64.toInt32).toInt8.toInt32).toInt8.toInt32) := by
  unfold cBs
  rw [iI_self, iI_self]
  rfl
theorem by_eq (v : Int64) {n : Nat} (hn : n < 57) : cBs v (n : Int) &&& 255 = mBs v (n : Int) := by
  rw [by_c, by_b, by_b]
  unfold mBs
  rw [iI_self, iI_self, show iI 255 = 255 from rfl]
  apply Int32.toBitVec_inj.mp
  rw [Int32.toBitVec_and, Int32.toBitVec_and]
  apply BitVec.eq_of_getLsbD_eq
  intro i hi
  rw [BitVec.getLsbD_and, BitVec.getLsbD_and]
  rcases Nat.lt_or_ge i 8 with z | z
  · rw [by_ub v hn z, by_sb v hn z]
  · rw [by_m i hi z]; simp
theorem by_r (v : Int64) (sh : Int) : -128 ≤ (cBs v sh).toInt ∧ (cBs v sh).toInt ≤ 127 := by
  rw [by_c, Int8.toInt_toInt32]
  have a := Int8.le_toInt (((v.toUInt64 >>> ((iI sh).toInt64.toUInt64 &&& Int64.toUInt64 63)).toInt64.toInt32).toInt8.toInt32).toInt8
  have b := Int8.toInt_lt (((v.toUInt64 >>> ((iI sh).toInt64.toUInt64 &&& Int64.toUInt64 63)).toInt64.toInt32).toInt8.toInt32).toInt8
  omega
/-- the reference's number of a byte -/
theorem by_n (x : Int32) (h : -128 ≤ x.toInt ∧ x.toInt ≤ 127) : (x &&& 255).toInt = x.toInt % 256 := by
  have q : ∀ k : Nat, k < 256 → (iI ((k : Int) - 128) &&& 255).toInt = ((k : Int) - 128) % 256 := by decide +kernel
  have e := q (x.toInt + 128).toNat (by omega)
  rw [show (((x.toInt + 128).toNat : Nat) : Int) - 128 = x.toInt by omega, iI_self] at e
  exact e
end
section
/-! the same tokens, as the reference keeps them -/
def tMw (b : tTx) (k : Nat) : Nat → Int64
  | 0 => 0
  | m + 1 => if m < 8 then 256 * tMw b k m + (iI (b (k + m) % 256)).toInt64 else tMw b k m
def tNq (b : tTx) (k : Nat) : Nat → Int
  | 0 => 0
  | m + 1 => if m < 4 ∧ tDg (b (k + m)) then 10 * tNq b k m + b (k + m) - 48 else tNq b k m
/-- the reference's number of a kind -/
def tkM (K : Int) : Int := if K = 0 then 0 else if K = 1 then 5 else if K = 2 then 1 else if K = 3 then 2 else if K = 4 then 3 else 4
theorem tNq_le {b : tTx} {k : Nat} : ∀ m, 0 ≤ tNq b k m ∧ tNq b k m ≤ 10 ^ (min m 4) - 1
  | 0 => by show (0 : Int) ≤ 0 ∧ (0 : Int) ≤ 10 ^ 0 - 1; decide
  | m + 1 => by
    have g := tNq_le (b := b) (k := k) m
    rw [tNq]
    by_cases h : m < 4 ∧ tDg (b (k + m))
    · rw [if_pos h]
      rw [show min m 4 = m by omega] at g
      rw [show min (m + 1) 4 = m + 1 by omega, Int.pow_succ]
      have := h.2
      omega
    · rw [if_neg h]
      refine ⟨g.1, Int.le_trans g.2 ?_⟩
      have : (10 : Int) ^ min m 4 ≤ 10 ^ min (m + 1) 4 := by
        rcases (show m = 0 ∨ m = 1 ∨ m = 2 ∨ m = 3 ∨ 4 ≤ m by omega) with rfl | rfl | rfl | rfl | h4
        · decide
        · decide
        · decide
        · decide
        · rw [show min m 4 = 4 by omega, show min (m + 1) 4 = 4 by omega]; exact Int.le_refl _
      omega
theorem tNq_9 {b : tTx} {k m : Nat} : 0 ≤ tNq b k m ∧ tNq b k m ≤ 9999 := by
  have g := tNq_le (b := b) (k := k) m
  have : (10 : Int) ^ min m 4 ≤ 10000 := by
    rcases (show min m 4 = 0 ∨ min m 4 = 1 ∨ min m 4 = 2 ∨ min m 4 = 3 ∨ min m 4 = 4 by omega) with h | h | h | h | h <;> rw [h] <;> decide
  omega
/-- all digits: the number itself -/
theorem tNq_nb {b : tTx} {k : Nat} : ∀ {m}, m ≤ 4 → (∀ j, j < m → tDg (b (k + j))) → tNq b k m = tNb b k m
  | 0, _, _ => rfl
  | m + 1, hm, h => by rw [tNq, tNb, if_pos ⟨by omega, h m (by omega)⟩, tNq_nb (by omega) (fun j hj => h j (by omega))]
theorem tNq_2 {b : tTx} {k : Nat} (h0 : ¬ tDg (b k)) (h1 : tDg (b (k + 1))) : tNq b k 2 = b (k + 1) - 48 := by
  rw [tNq, if_pos ⟨by decide, h1⟩, tNq, if_neg (fun q => h0 q.2), tNq]; omega
/-- the reference at the token that stands at k: place, end, kind, number, word -/
def tMk (b : tTx) (n k : Nat) (f : Nat → Int32) (w : Int64) : Prop :=
  (f 19).toInt = (k : Int) ∧ (f 20).toInt = (tNd b n k : Int) ∧ (f 21).toInt = tkM (tKd b n k) ∧
  (tkM (tKd b n k) = 4 → (f 23).toInt = tKd b n k) ∧ (tKd b n k = 2 ∨ tKd b n k = 4 → (f 23).toInt = tVl b n k) ∧ (tKd b n k = 3 → w = tMw b k (tRn b n k - k))
/-- what a run is: its end, kind and number -/
theorem tMk_run {b : tTx} {n k : Nat} {f : Nat → Int32} {w : Int64} (hk : k < n) (hr : tRu (b k)) (h19 : (f 19).toInt = (k : Int)) (h20 : (f 20).toInt = (tRn b n k : Int)) (h21 : (f 21).toInt = tkM (tKr b k (tRn b n k - k))) (h23 : (f 23).toInt = tNq b k (tRn b n k - k)) (hw : w = tMw b k (tRn b n k - k)) : tMk b n k f w := by
  have eK : tKd b n k = tKr b k (tRn b n k - k) := by unfold tKd; rw [if_neg (by omega), if_pos hr]
  have eV : tVl b n k = tVr b k (tRn b n k - k) := by unfold tVl; rw [if_neg (by omega), if_pos hr]
  have eN : tNd b n k = tRn b n k := by unfold tNd; rw [if_neg (by omega), if_pos hr]
  refine ⟨h19, by rw [eN]; exact h20, by rw [eK]; exact h21, fun q => ?_, fun q => ?_, fun _ => hw⟩
  · rw [eK] at q
    exfalso
    have h : tKr b k (tRn b n k - k) = 1 ∨ tKr b k (tRn b n k - k) = 2 ∨ tKr b k (tRn b n k - k) = 3 ∨ tKr b k (tRn b n k - k) = 4 := by
      unfold tKr
      by_cases a : tDc b k (tRn b n k - k) = 0 ∧ tRn b n k - k ≤ 8
      · rw [if_pos a]; omega
      · rw [if_neg a]
        by_cases c : tDc b k (tRn b n k - k) = tRn b n k - k ∧ tRn b n k - k ≤ 4
        · rw [if_pos c]; omega
        · rw [if_neg c]
          by_cases d : tRn b n k - k = 2 ∧ b k = 99 ∧ 48 ≤ b (k + 1) ∧ b (k + 1) ≤ 51
          · rw [if_pos d]; omega
          · rw [if_neg d]; omega
    rcases h with h | h | h | h <;> rw [h] at q <;> exact absurd q (by decide)
  · rw [eK] at q
    rw [h23, eV]
    unfold tVr
    rcases q with q | q
    · rw [q, if_neg (by decide), if_neg (by decide), if_pos rfl]
      unfold tKr at q
      by_cases a : tDc b k (tRn b n k - k) = 0 ∧ tRn b n k - k ≤ 8
      · rw [if_pos a] at q; exact absurd q (by decide)
      · rw [if_neg a] at q
        by_cases c : tDc b k (tRn b n k - k) = tRn b n k - k ∧ tRn b n k - k ≤ 4
        · rw [if_pos c] at q; exact absurd q (by decide)
        · rw [if_neg c] at q
          by_cases d : tRn b n k - k = 2 ∧ b k = 99 ∧ 48 ≤ b (k + 1) ∧ b (k + 1) ≤ 51
          · rw [d.1]; exact tNq_2 (by omega) (by omega)
          · rw [if_neg d] at q; exact absurd q (by decide)
    · rw [q, if_neg (by decide), if_pos rfl]
      unfold tKr at q
      by_cases a : tDc b k (tRn b n k - k) = 0 ∧ tRn b n k - k ≤ 8
      · rw [if_pos a] at q; exact absurd q (by decide)
      · rw [if_neg a] at q
        by_cases c : tDc b k (tRn b n k - k) = tRn b n k - k ∧ tRn b n k - k ≤ 4
        · exact tNq_nb c.2 (tDc_all c.1)
        · rw [if_neg c] at q
          by_cases d : tRn b n k - k = 2 ∧ b k = 99 ∧ 48 ≤ b (k + 1) ∧ b (k + 1) ≤ 51
          · rw [if_pos d] at q; exact absurd q (by decide)
          · rw [if_neg d] at q; exact absurd q (by decide)
theorem tMk_end {b : tTx} {n k : Nat} {f : Nat → Int32} {w : Int64} (hk : n ≤ k) (hn : k ≤ n) (h19 : (f 19).toInt = (k : Int)) (h20 : (f 20).toInt = (k : Int)) (h21 : (f 21).toInt = 0) : tMk b n k f w := by
  have e : k = n := by omega
  subst e
  have eK : tKd b k k = 0 := by unfold tKd; rw [if_pos (Nat.le_refl _)]
  have eN : tNd b k k = k := by unfold tNd; rw [if_pos (Nat.le_refl _)]
  refine ⟨h19, by rw [eN]; exact h20, by rw [eK]; exact h21, fun q => ?_, fun q => ?_, fun q => ?_⟩
  · rw [eK] at q; exact absurd q (by decide)
  · rw [eK] at q; exact absurd q (by decide)
  · rw [eK] at q; exact absurd q (by decide)
theorem tMk_sg {b : tTx} {n k : Nat} {f : Nat → Int32} {w : Int64} (hk : k < n) (hr : ¬ tRu (b k)) (h19 : (f 19).toInt = (k : Int)) (h20 : (f 20).toInt = (k : Int) + 1) (h : (tSg (b k) ∧ (f 21).toInt = 4 ∧ (f 23).toInt = b k) ∨ (¬ tSg (b k) ∧ (f 21).toInt = 5)) : tMk b n k f w := by
  have eN : tNd b n k = k + 1 := by unfold tNd; rw [if_neg (by omega), if_neg hr]
  rcases h with ⟨a, c, d⟩ | ⟨a, c⟩
  · have eK : tKd b n k = b k := by unfold tKd; rw [if_neg (by omega), if_neg hr, if_pos a]
    have e4 : tkM (b k) = 4 := by unfold tkM; rw [if_neg (by omega), if_neg (by omega), if_neg (by omega), if_neg (by omega), if_neg (by omega)]
    refine ⟨h19, by rw [eN]; omega, by rw [eK, e4]; exact c, fun _ => by rw [eK]; exact d, fun q => ?_, fun q => ?_⟩
    · rw [eK] at q; exact absurd q (by omega)
    · rw [eK] at q; exact absurd q (by omega)
  · have eK : tKd b n k = 1 := by unfold tKd; rw [if_neg (by omega), if_neg hr, if_neg a]
    refine ⟨h19, by rw [eN]; omega, by rw [eK]; exact c, fun q => ?_, fun q => ?_, fun q => ?_⟩
    · rw [eK] at q; exact absurd q (by decide)
    · rw [eK] at q; exact absurd q (by decide)
    · rw [eK] at q; exact absurd q (by decide)
end
section
theorem nx_0 {b : tTx} {n e0 : Nat} {k : Int} (h : k = (e0 : Int)) (h1 : e0 ≤ n) : tSk b n e0 = tSk b n k.toNat ∧ k ≤ (n : Int) ∧ (e0 : Int) ≤ k := by
  refine ⟨?_, by omega, by omega⟩
  rw [show k.toNat = e0 by omega]
theorem nx_bl {b : tTx} {n e0 : Nat} {k : Int} (h : tSk b n e0 = tSk b n k.toNat ∧ k ≤ (n : Int) ∧ (e0 : Int) ≤ k) (h0 : k < (n : Int)) (hb : tBl (b k.toNat)) : tSk b n e0 = tSk b n (k + 1).toNat ∧ k + 1 ≤ (n : Int) ∧ (e0 : Int) ≤ k + 1 := by
  refine ⟨?_, by omega, by omega⟩
  rw [h.1, tSk_b (by omega) hb, show (k + 1).toNat = k.toNat + 1 by omega]
theorem nx_sk {b : tTx} {n e0 : Nat} {k : Int} (h : tSk b n e0 = tSk b n k.toNat ∧ k ≤ (n : Int) ∧ (e0 : Int) ≤ k) (h0 : 0 ≤ k) (hb : (n : Int) ≤ k ∨ ¬ tBl (b k.toNat)) : tSk b n e0 = k.toNat := by
  rw [h.1]
  by_cases q : k < (n : Int)
  · exact tSk_s (by omega) (by omega)
  · exact tSk_n (by omega)
theorem tDc_one {b : tTx} {k : Nat} (h : ¬ tDg (b k)) : tDc b k 2 = if tDg (b (k + 1)) then 1 else 0 := by
  show 0 + (if tDg (b (k + 0)) then 1 else 0) + (if tDg (b (k + 1)) then 1 else 0) = _
  rw [if_neg (show ¬ tDg (b (k + 0)) from h)]; omega
theorem tKm {b : tTx} {k m : Nat} {lt nu tok : Int} (hm : 1 ≤ m) (hl : lt = (m : Int) - (tDc b k m : Int)) (hn : nu = tNq b k m) (hr : -128 ≤ b k ∧ b k ≤ 127)
    (h : (lt = (m : Int) ∧ (m : Int) ≤ 8 ∧ tok = 2 ∧ ¬ ((m : Int) = 2 ∧ b k % 256 = 99 ∧ lt = 1 ∧ nu < 4)) ∨ (lt = 0 ∧ (m : Int) ≤ 4 ∧ tok = 3) ∨ ((m : Int) = 2 ∧ b k % 256 = 99 ∧ lt = 1 ∧ nu < 4 ∧ tok = 1) ∨ (¬ (lt = (m : Int) ∧ (m : Int) ≤ 8) ∧ ¬ (lt = 0 ∧ (m : Int) ≤ 4) ∧ ¬ ((m : Int) = 2 ∧ b k % 256 = 99 ∧ lt = 1 ∧ nu < 4) ∧ tok = 5)) : tok = tkM (tKr b k m) := by
  unfold tKr
  by_cases a : tDc b k m = 0 ∧ m ≤ 8
  · rw [if_pos a]; show tok = 2; omega
  · rw [if_neg a]
    by_cases c : tDc b k m = m ∧ m ≤ 4
    · rw [if_pos c]; show tok = 3; omega
    · rw [if_neg c]
      by_cases d : m = 2 ∧ b k = 99 ∧ 48 ≤ b (k + 1) ∧ b (k + 1) ≤ 51
      · rw [if_pos d]
        obtain ⟨d1, d2, d3, d4⟩ := d
        subst d1
        have e := tDc_one (b := b) (k := k) (by omega)
        rw [if_pos (by omega)] at e
        rw [tNq_2 (by omega) (by omega)] at hn
        show tok = 1
        omega
      · rw [if_neg d]
        show tok = 5
        by_cases q : m = 2 ∧ b k = 99
        · obtain ⟨q1, q2⟩ := q
          subst q1
          have e := tDc_one (b := b) (k := k) (by omega)
          by_cases r : tDg (b (k + 1))
          · rw [if_pos r] at e
            rw [tNq_2 (by omega) r] at hn
            omega
          · rw [if_neg r] at e
            omega
        · omega
/-- hidden from the arithmetic: an answer of yes or no, a run's sign, a byte or -1 -/
def tIz (z : Int) (P : Prop) : Prop := (z = 1 ∧ P) ∨ (z = 0 ∧ ¬ P)
theorem tIz_1 {z : Int} {P : Prop} (h : tIz z P) (hz : z ≠ 0) : P := by rcases h with h | h; (· exact h.2); (· exact absurd h.1 hz)
theorem tIz_0 {z : Int} {P : Prop} (h : tIz z P) (hz : z = 0) : ¬ P := by rcases h with h | h; (· exact absurd (hz.symm.trans h.1) (by decide)); (· exact h.2)
def tRx (b : tTx) (k : Nat) : Prop := tRu (b k)
def tSx (b : tTx) (k : Nat) : Prop := tSg (b k)
def tBa (b : tTx) (n : Nat) (k : Int) : Int := if k < (n : Int) then b k.toNat % 256 else -1
def rTk (lt m tok : Int) : Prop := (lt = m ∧ m ≤ 8 ∧ tok = 2) ∨ (lt = 0 ∧ m ≤ 4 ∧ tok = 3) ∨ (¬ (lt = m ∧ m ≤ 8) ∧ ¬ (lt = 0 ∧ m ≤ 4) ∧ tok = 5)
section TBA
variable {b : tTx} {n : Nat} {k z z2 c : Int}
theorem tBa_lt (h : k < (n : Int)) : tBa b n k = b k.toNat % 256 := if_pos h
theorem tBa_ge (h : (n : Int) ≤ k) : tBa b n k = -1 := if_neg (by omega)
theorem tBa_run (e : z = tBa b n k) (hr : -128 ≤ b k.toNat ∧ b k.toNat ≤ 127) (h : (97 ≤ z ∧ z ≤ 122) ∨ (48 ≤ z ∧ z ≤ 57)) : k < (n : Int) ∧ tRx b k.toNat := by
  by_cases q : k < (n : Int)
  · rw [tBa_lt q] at e
    refine ⟨q, ?_⟩
    unfold tRx
    omega
  · rw [tBa_ge (by omega)] at e; omega
theorem tBa_no (e : z = tBa b n k) (hr : -128 ≤ b k.toNat ∧ b k.toNat ≤ 127) (h1 : ¬ (97 ≤ z ∧ z ≤ 122)) (h2 : ¬ (48 ≤ z ∧ z ≤ 57)) : (n : Int) ≤ k ∨ ¬ tRu (b k.toNat) := by
  by_cases q : k < (n : Int)
  · rw [tBa_lt q] at e; omega
  · omega
theorem nx_b1 (e : z = tBa b n k) (h : z = 32 ∨ z = 10) : k < (n : Int) := by
  by_cases q : k < (n : Int)
  · exact q
  · rw [tBa_ge (by omega)] at e; omega
theorem nx_b2 (e : z = tBa b n k) (hr : -128 ≤ b k.toNat ∧ b k.toNat ≤ 127) (h : z = 32 ∨ z = 10) : tBl (b k.toNat) := by
  rw [tBa_lt (nx_b1 e h)] at e; omega
theorem nx_nb (e : z = tBa b n k) (e2 : z2 = tBa b n k) (hr : -128 ≤ b k.toNat ∧ b k.toNat ≤ 127) (h : z ≠ 32) (h2 : z2 ≠ 10) : (n : Int) ≤ k ∨ ¬ tBl (b k.toNat) := by
  by_cases q : k < (n : Int)
  · rw [tBa_lt q] at e e2; omega
  · omega
theorem nx_k (e : z = tBa b n k) (h : 0 ≤ k ∧ z ≠ -1) : k.toNat < n := by
  by_cases q : k < (n : Int)
  · omega
  · rw [tBa_ge (by omega)] at e; omega
theorem nx_e (e : z = tBa b n k) (hr : -128 ≤ b k.toNat ∧ b k.toNat ≤ 127) (h : z = -1 ∧ 0 ≤ k) : n ≤ k.toNat := by
  by_cases q : k < (n : Int)
  · rw [tBa_lt q] at e; omega
  · omega
theorem nx_s (e : z = tBa b n k) (hr : -128 ≤ b k.toNat ∧ b k.toNat ≤ 127) (h : tSg z) : tSx b k.toNat ∧ z = b k.toNat := by
  unfold tSx
  by_cases q : k < (n : Int)
  · rw [tBa_lt q] at e; omega
  · rw [tBa_ge (by omega)] at e; omega
theorem nx_sr {j : Nat} (h : tSx b j) : ¬ tRu (b j) := by unfold tSx at h; omega
theorem nx_ns (e : z = tBa b n k) (hr : -128 ≤ b k.toNat ∧ b k.toNat ≤ 127) (hk : k.toNat < n) (h : 0 ≤ k ∧ ¬ tSg z) : ¬ tSg (b k.toNat) := by
  rw [tBa_lt (by omega)] at e; omega
theorem nx_nr (e : z = tBa b n k) (hr : -128 ≤ b k.toNat ∧ b k.toNat ≤ 127) (hk : k.toNat < n) (h1 : ¬ (97 ≤ z ∧ z ≤ 122)) (h2 : ¬ (48 ≤ z ∧ z ≤ 57)) : ¬ tRu (b k.toNat) := by
  rcases tBa_no e hr h1 h2 with a | a
  · omega
  · exact a
theorem rx_1 {i i2 : Int} (hru : ∀ j : Nat, i.toNat ≤ j → (j : Int) < i2 → tRx b j) (h : tRx b i2.toNat) (h0 : 0 ≤ i2) : ∀ j : Nat, i.toNat ≤ j → (j : Int) < i2 + 1 → tRx b j := ru_1 (b := b) hru h h0
theorem rl_0 {kp : Int} (h : 0 ≤ kp) (h1 : kp ≤ (n : Int)) : (0 : Int) = kp - kp - (tDc b kp.toNat (kp - kp).toNat : Int) ∧ kp ≤ (n : Int) := by
  refine ⟨?_, h1⟩
  rw [show (kp - kp).toNat = 0 by omega]; show (0 : Int) = kp - kp - ((0 : Nat) : Int); omega
theorem tDg_n {e1 : Int} (t : c = b e1.toNat % 256) (hr : -128 ≤ b e1.toNat ∧ b e1.toNat ≤ 127) (h : ¬ (48 ≤ c ∧ c ≤ 57)) : ¬ tDg (b e1.toNat) := by omega
theorem rg_1 {kp e1 : Int} (h : kp < (n : Int)) (hk : tRx b kp.toNat) (hru : ∀ j : Nat, kp.toNat ≤ j → (j : Int) < e1 → tRx b j) (e : z = tBa b n e1) (e2 : z2 = tBa b n e1) (hr : -128 ≤ b e1.toNat ∧ b e1.toNat ≤ 127) (h1 : ¬ (97 ≤ z ∧ z ≤ 122)) (h2 : ¬ (48 ≤ z2 ∧ z2 ≤ 57)) (h0 : 0 ≤ kp ∧ kp ≤ e1) : 1 ≤ e1 - kp := by
  by_cases q : e1 = kp
  · subst q
    rw [e2.trans e.symm] at h2
    unfold tRx at hk
    rcases tBa_no e hr h1 h2 with a | a
    · omega
    · exact absurd hk a
  · omega
theorem tDc_La {lt e1 kp : Int} (h : lt = e1 - kp - (tDc b kp.toNat (e1 - kp).toNat : Int) ∧ e1 ≤ (n : Int)) (t : c = b e1.toNat % 256) (hr : -128 ≤ b e1.toNat ∧ b e1.toNat ≤ 127) (hs : 97 ≤ c ∧ c ≤ 122) (h0 : 0 ≤ kp ∧ kp ≤ e1) (h1 : e1 < (n : Int)) : lt + 1 = e1 + 1 - kp - (tDc b kp.toNat (e1 + 1 - kp).toNat : Int) ∧ e1 + 1 ≤ (n : Int) := by
  refine ⟨?_, by omega⟩
  rw [show (e1 + 1 - kp).toNat = (e1 - kp).toNat + 1 by omega, tDc, show kp.toNat + (e1 - kp).toNat = e1.toNat by omega, if_neg (by omega)]
  omega
theorem tDc_Lb {lt e1 kp : Int} (h : lt = e1 - kp - (tDc b kp.toNat (e1 - kp).toNat : Int) ∧ e1 ≤ (n : Int)) (t : c = b e1.toNat % 256) (hr : -128 ≤ b e1.toNat ∧ b e1.toNat ≤ 127) (hx : tRx b e1.toNat) (hs : ¬ (97 ≤ c ∧ c ≤ 122)) (h0 : 0 ≤ kp ∧ kp ≤ e1) (h1 : e1 < (n : Int)) : lt = e1 + 1 - kp - (tDc b kp.toNat (e1 + 1 - kp).toNat : Int) ∧ e1 + 1 ≤ (n : Int) := by
  unfold tRx at hx
  refine ⟨?_, by omega⟩
  rw [show (e1 + 1 - kp).toNat = (e1 - kp).toNat + 1 by omega, tDc, show kp.toNat + (e1 - kp).toNat = e1.toNat by omega, if_pos (by omega)]
  omega
theorem tKm1 {k m : Nat} {lt nu tok : Int} (hm : 1 ≤ m) (hl : lt = (m : Int) - (tDc b k m : Int)) (hn : nu = tNq b k m) (hr : -128 ≤ b k ∧ b k ≤ 127) (h : rTk lt (m : Int) tok) (hc : ¬ ((m : Int) = 2 ∧ b k % 256 = 99 ∧ lt = 1 ∧ nu < 4)) : tok = tkM (tKr b k m) := tKm hm hl hn hr (by unfold rTk at h; omega)
theorem tKm2 {k m : Nat} {lt nu tok : Int} (hm : 1 ≤ m) (hl : lt = (m : Int) - (tDc b k m : Int)) (hn : nu = tNq b k m) (hr : -128 ≤ b k ∧ b k ≤ 127) (hc : (m : Int) = 2 ∧ b k % 256 = 99 ∧ lt = 1 ∧ nu < 4 ∧ tok = 1) : tok = tkM (tKr b k m) := tKm hm hl hn hr (by omega)
end TBA
theorem tMw_8 {b : tTx} {e1 kp : Int} {w : Int64} (h : w = tMw b kp.toNat (e1 - kp).toNat) (h0 : 0 ≤ kp ∧ kp ≤ e1) (h8 : 8 ≤ e1 - kp) : w = tMw b kp.toNat (e1 + 1 - kp).toNat := by
  rw [show (e1 + 1 - kp).toNat = (e1 - kp).toNat + 1 by omega, tMw, if_neg (by omega)]; exact h
theorem tNq_y {b : tTx} {e1 kp x y c : Int} (h : x = tNq b kp.toNat (e1 - kp).toNat) (h0 : 0 ≤ kp ∧ kp ≤ e1) (h4 : e1 - kp < 4) (t : c = b e1.toNat % 256) (hr : -128 ≤ b e1.toNat ∧ b e1.toNat ≤ 127) (hd : 48 ≤ c ∧ c ≤ 57) (hy : y = 10 * x + c - 48) : y = tNq b kp.toNat (e1 + 1 - kp).toNat := by
  rw [show (e1 + 1 - kp).toNat = (e1 - kp).toNat + 1 by omega, tNq, show kp.toNat + (e1 - kp).toNat = e1.toNat by omega, if_pos ⟨by omega, by omega⟩, ← h]; omega
theorem tNq_n {b : tTx} {e1 kp x : Int} (h : x = tNq b kp.toNat (e1 - kp).toNat) (h0 : 0 ≤ kp ∧ kp ≤ e1) (hd : 4 ≤ e1 - kp ∨ ¬ tDg (b e1.toNat)) : x = tNq b kp.toNat (e1 + 1 - kp).toNat := by
  rw [show (e1 + 1 - kp).toNat = (e1 - kp).toNat + 1 by omega, tNq, show kp.toNat + (e1 - kp).toNat = e1.toNat by omega, if_neg (fun q => by rcases hd with a | a; (· omega); (· exact a q.2))]; exact h
theorem tRn_M {b : tTx} {n : Nat} {e1 kp : Int} (hru : ∀ j : Nat, kp.toNat ≤ j → (j : Int) < e1 → tRx b j) (h0 : 0 ≤ kp ∧ kp ≤ e1) (h1 : e1 ≤ (n : Int)) (h2 : (n : Int) ≤ e1 ∨ ¬ tRu (b e1.toNat)) : tRn b n kp.toNat = e1.toNat :=
  tRn_at (by omega) (by omega) (fun j hj hl => hru j hj (by omega)) (fun q => by rcases h2 with a | a; (· omega); (· exact a))
def rmX7_byteAtf : Room := { frames := 0, cells := 0, slots := 0, locals := 0 }
set_option maxHeartbeats 4000000 in
set_option maxRecDepth 100000 in
/-- a byte -/
theorem c_X7_byteAtf (l : Launch) (g : gG) (gh : gGh) (T : Nat → Int32) (b : tTx) (n : Nat) (I : gI) (R : gR) (J : gJ) (AI : gI) (AJ : gJ) (AR : gR) (mo : Nat) (kp : Int) (zkp : zr kp) (hv : mInv g gh R I AI) (hm : gO g mo 7) (hT : AI (gh 50 0) = T) (h0 : 0 ≤ kp) (hb : ∀ k : Nat, k < n → (AI (gh 65 0) k).toInt = b k % 256) (hr7 : ∀ k : Nat, -128 ≤ b k ∧ b k ≤ 127) (hsz : (I mo 18).toInt = (n : Int)) (hn9 : n ≤ 900) : gMet l g yX7_byteAt tsX7_byteAt rmX7_byteAtf [.ref mo, .int (iI kp)] (I, R, J, AI, AJ, AR) (gQi g (fun (z : Int) (w : gS) => I = w.1 ∧ R = w.2.1 ∧ J = w.2.2.1 ∧ AI = w.2.2.2.1 ∧ AJ = w.2.2.2.2.1 ∧ AR = w.2.2.2.2.2 ∧ (z = tBa b n kp))) := by
  refine gStart (cc := cX7_byteAt) (maxL := 2) (ret := (some (.int))) (by decide) rfl (Nat.le_of_ble_eq_true rfl) ?_
  intro p e s m below meth c ls F hr hlk hH hz hS hl
  have hl : lv_has ls 2 [(0, .ref mo), (1, .int (iI kp))] := hl
  have hS : va_S (gA g) s.heap s.heap [] := hS
  obtain ⟨H, hHe⟩ : ∃ H : Heap, H = s.heap := ⟨_, rfl⟩
  obtain ⟨locs, hlo⟩ : ∃ k : List Loc, k = [] := ⟨_, rfl⟩
  have hH : gH g I R J AI AJ AR H := by rw [hHe]; exact hH
  have hS : va_S (gA g) s.heap H locs := by rw [hHe, hlo]; exact hS
  suffices hw : W p l e rmX7_byteAtf s m ([.ref mo, .int (iI kp)] : List Value).toArray below meth c H locs 0 0 (MQ below (gQi g (fun (z : Int) (w : gS) => I = w.1 ∧ R = w.2.1 ∧ J = w.2.2.1 ∧ AI = w.2.2.2.1 ∧ AJ = w.2.2.2.2.1 ∧ AR = w.2.2.2.2.2 ∧ (z = tBa b n kp))) ([.ref mo, .int (iI kp)] : List Value).toArray s 0 0 (gA g)) (F0 m 0 ls []) by
    rw [hHe, hlo] at hw; exact hw
  clear hHe hlo
  have iX7 : ∀ w ∈ u_ws RX7 TX7 32, w ∈ tsX7_byteAt := fun w h => List.mem_cons_of_mem _ (inTB7 w h)
  have k78 : Cond.fieldLink RX7 78 (TX7 18).1 (TX7 18).2.1 (TX7 18).2.2.1 ∈ tsX7_byteAt := List.mem_cons_of_mem _ fl_78
  have k39 : Cond.fieldLink RX7 39 (TX7 15).1 (TX7 15).2.1 (TX7 15).2.2.1 ∈ tsX7_byteAt := List.mem_cons_of_mem _ fl_39
  refine lv_iload_n F.1 F.2.1 dX7_byteAt_0 rfl (lv_at hl 1 rfl) ?_
  refine lv_aload_n F.1 F.2.1 dX7_byteAt_1 rfl (lv_at hl 0 rfl) ?_
  refine g_getI (ci := 7) (k := 18) F hH rfl (by decide) iX7 hm (by decide) rfl k78 dX7_byteAt_2 ?_
  have b_1 := mJ hv hm
  unfold mNum1 at b_1
  refine z_icmp_ge (tgt := 17) F dX7_byteAt_5 (by decide) zkp (zr_t _) (fun c_2 => ?_) (fun c_2 => ?_)
  · refine z_iconst F dX7_byteAt_17 ?_
    exact g_iret F hr hlk hH hS hz ⟨by decide, by decide⟩ ⟨rfl, rfl, rfl, rfl, rfl, rfl, by first | exact t13.trans (tBa_lt (by omega)).symm | exact (tBa_ge (by omega)).symm⟩ dX7_byteAt_18
  · refine lv_aload_n F.1 F.2.1 dX7_byteAt_8 rfl (lv_at hl 0 rfl) ?_
    obtain ⟨r_3a, r_3b⟩ : R mo 15 = some (gh 65 0) ∧ gAr g (gh 65 0) 9 936 := mR hv hm (q := (15, 936)) (by decide)
    refine g_getR (ci := 7) (k := 15) F hH rfl (by decide) iX7 hm (by decide) rfl (b := gh 65 0) r_3a k39 dX7_byteAt_9 ?_
    refine lv_iload_n F.1 F.2.1 dX7_byteAt_12 rfl (lv_at hl 1 rfl) ?_
    have hx13 : 0 ≤ kp ∧ kp < ((936 : Nat) : Int) ∧ kp ≤ 2147483647 := ⟨by omega, by omega, by omega⟩
    refine g_iald F hH r_3b hx13.1 hx13.2.1 hx13.2.2 dX7_byteAt_13 ?_
    refine z_name (fun v_4 ev_4 => ?_)
    have zv_4 : zr v_4 := by rw [ev_4]; exact zr_t _
    have t13 : v_4 = b kp.toNat % 256 := by rw [ev_4]; exact hb _ (by omega)
    refine z_goto (tgt := 18) F dX7_byteAt_14 (by decide) ?_
    exact g_iret F hr hlk hH hS hz zv_4 ⟨rfl, rfl, rfl, rfl, rfl, rfl, by first | exact t13.trans (tBa_lt (by omega)).symm | exact (tBa_ge (by omega)).symm⟩ dX7_byteAt_18

def rmX7_isSmallf : Room := { frames := 0, cells := 0, slots := 0, locals := 0 }
set_option maxHeartbeats 4000000 in
set_option maxRecDepth 100000 in
/-- a letter -/
theorem c_X7_isSmallf (l : Launch) (g : gG)  (I : gI) (R : gR) (J : gJ) (AI : gI) (AJ : gJ) (AR : gR) (ch : Int) (zch : zr ch) : gMet l g yX7_isSmall tsX7_isSmall rmX7_isSmallf [.int (iI ch)] (I, R, J, AI, AJ, AR) (gQi g (fun (z : Int) (w : gS) => I = w.1 ∧ R = w.2.1 ∧ J = w.2.2.1 ∧ AI = w.2.2.2.1 ∧ AJ = w.2.2.2.2.1 ∧ AR = w.2.2.2.2.2 ∧ (tIz z (97 ≤ ch ∧ ch ≤ 122)))) := by
  refine gStart (cc := cX7_isSmall) (maxL := 1) (ret := (some (.boolean))) (by decide) rfl (Nat.le_of_ble_eq_true rfl) ?_
  intro p e s m below meth c ls F hr hlk hH hz hS hl
  have hl : lv_has ls 1 [(0, .int (iI ch))] := hl
  have hS : va_S (gA g) s.heap s.heap [] := hS
  obtain ⟨H, hHe⟩ : ∃ H : Heap, H = s.heap := ⟨_, rfl⟩
  obtain ⟨locs, hlo⟩ : ∃ k : List Loc, k = [] := ⟨_, rfl⟩
  have hH : gH g I R J AI AJ AR H := by rw [hHe]; exact hH
  have hS : va_S (gA g) s.heap H locs := by rw [hHe, hlo]; exact hS
  suffices hw : W p l e rmX7_isSmallf s m ([.int (iI ch)] : List Value).toArray below meth c H locs 0 0 (MQ below (gQi g (fun (z : Int) (w : gS) => I = w.1 ∧ R = w.2.1 ∧ J = w.2.2.1 ∧ AI = w.2.2.2.1 ∧ AJ = w.2.2.2.2.1 ∧ AR = w.2.2.2.2.2 ∧ (tIz z (97 ≤ ch ∧ ch ≤ 122)))) ([.int (iI ch)] : List Value).toArray s 0 0 (gA g)) (F0 m 0 ls []) by
    rw [hHe, hlo] at hw; exact hw
  clear hHe hlo
  refine lv_iload_n F.1 F.2.1 dX7_isSmall_0 rfl (lv_at hl 0 rfl) ?_
  refine z_bipush F dX7_isSmall_1 (by decide) ?_
  refine z_icmp_lt (tgt := 16) F dX7_isSmall_3 (by decide) zch ⟨by decide, by decide⟩ (fun c_1 => ?_) (fun c_1 => ?_)
  · refine z_iconst F dX7_isSmall_16 ?_
    exact g_zret F hr hlk hH hS hz (by omega) ⟨rfl, rfl, rfl, rfl, rfl, rfl, by unfold tIz; omega⟩ dX7_isSmall_17
  · refine lv_iload_n F.1 F.2.1 dX7_isSmall_6 rfl (lv_at hl 0 rfl) ?_
    refine z_bipush F dX7_isSmall_7 (by decide) ?_
    refine z_icmp_gt (tgt := 16) F dX7_isSmall_9 (by decide) zch ⟨by decide, by decide⟩ (fun c_2 => ?_) (fun c_2 => ?_)
    · refine z_iconst F dX7_isSmall_16 ?_
      exact g_zret F hr hlk hH hS hz (by omega) ⟨rfl, rfl, rfl, rfl, rfl, rfl, by unfold tIz; omega⟩ dX7_isSmall_17
    · refine z_iconst F dX7_isSmall_12 ?_
      refine z_goto (tgt := 17) F dX7_isSmall_13 (by decide) ?_
      exact g_zret F hr hlk hH hS hz (by omega) ⟨rfl, rfl, rfl, rfl, rfl, rfl, by unfold tIz; omega⟩ dX7_isSmall_17

def rmX7_isDigitf : Room := { frames := 0, cells := 0, slots := 0, locals := 0 }
set_option maxHeartbeats 4000000 in
set_option maxRecDepth 100000 in
/-- a digit -/
theorem c_X7_isDigitf (l : Launch) (g : gG)  (I : gI) (R : gR) (J : gJ) (AI : gI) (AJ : gJ) (AR : gR) (ch : Int) (zch : zr ch) : gMet l g yX7_isDigit tsX7_isDigit rmX7_isDigitf [.int (iI ch)] (I, R, J, AI, AJ, AR) (gQi g (fun (z : Int) (w : gS) => I = w.1 ∧ R = w.2.1 ∧ J = w.2.2.1 ∧ AI = w.2.2.2.1 ∧ AJ = w.2.2.2.2.1 ∧ AR = w.2.2.2.2.2 ∧ (tIz z (48 ≤ ch ∧ ch ≤ 57)))) := by
  refine gStart (cc := cX7_isDigit) (maxL := 1) (ret := (some (.boolean))) (by decide) rfl (Nat.le_of_ble_eq_true rfl) ?_
  intro p e s m below meth c ls F hr hlk hH hz hS hl
  have hl : lv_has ls 1 [(0, .int (iI ch))] := hl
  have hS : va_S (gA g) s.heap s.heap [] := hS
  obtain ⟨H, hHe⟩ : ∃ H : Heap, H = s.heap := ⟨_, rfl⟩
  obtain ⟨locs, hlo⟩ : ∃ k : List Loc, k = [] := ⟨_, rfl⟩
  have hH : gH g I R J AI AJ AR H := by rw [hHe]; exact hH
  have hS : va_S (gA g) s.heap H locs := by rw [hHe, hlo]; exact hS
  suffices hw : W p l e rmX7_isDigitf s m ([.int (iI ch)] : List Value).toArray below meth c H locs 0 0 (MQ below (gQi g (fun (z : Int) (w : gS) => I = w.1 ∧ R = w.2.1 ∧ J = w.2.2.1 ∧ AI = w.2.2.2.1 ∧ AJ = w.2.2.2.2.1 ∧ AR = w.2.2.2.2.2 ∧ (tIz z (48 ≤ ch ∧ ch ≤ 57)))) ([.int (iI ch)] : List Value).toArray s 0 0 (gA g)) (F0 m 0 ls []) by
    rw [hHe, hlo] at hw; exact hw
  clear hHe hlo
  refine lv_iload_n F.1 F.2.1 dX7_isDigit_0 rfl (lv_at hl 0 rfl) ?_
  refine z_bipush F dX7_isDigit_1 (by decide) ?_
  refine z_icmp_lt (tgt := 16) F dX7_isDigit_3 (by decide) zch ⟨by decide, by decide⟩ (fun c_1 => ?_) (fun c_1 => ?_)
  · refine z_iconst F dX7_isDigit_16 ?_
    exact g_zret F hr hlk hH hS hz (by omega) ⟨rfl, rfl, rfl, rfl, rfl, rfl, by unfold tIz; omega⟩ dX7_isDigit_17
  · refine lv_iload_n F.1 F.2.1 dX7_isDigit_6 rfl (lv_at hl 0 rfl) ?_
    refine z_bipush F dX7_isDigit_7 (by decide) ?_
    refine z_icmp_gt (tgt := 16) F dX7_isDigit_9 (by decide) zch ⟨by decide, by decide⟩ (fun c_2 => ?_) (fun c_2 => ?_)
    · refine z_iconst F dX7_isDigit_16 ?_
      exact g_zret F hr hlk hH hS hz (by omega) ⟨rfl, rfl, rfl, rfl, rfl, rfl, by unfold tIz; omega⟩ dX7_isDigit_17
    · refine z_iconst F dX7_isDigit_12 ?_
      refine z_goto (tgt := 17) F dX7_isDigit_13 (by decide) ?_
      exact g_zret F hr hlk hH hS hz (by omega) ⟨rfl, rfl, rfl, rfl, rfl, rfl, by unfold tIz; omega⟩ dX7_isDigit_17

def rmX7_runsf : Room := { frames := 1, cells := 0, slots := 0, locals := 21 }
set_option maxHeartbeats 4000000 in
set_option maxRecDepth 100000 in
/-- a run of letters and digits -/
theorem c_X7_runsf (l : Launch) (g : gG) (gh : gGh) (T : Nat → Int32) (b : tTx) (n : Nat) (I : gI) (R : gR) (J : gJ) (AI : gI) (AJ : gJ) (AR : gR) (mo : Nat) (kp : Int) (zkp : zr kp) (hv : mInv g gh R I AI) (hm : gO g mo 7) (hT : AI (gh 50 0) = T) (hE : (I mo 20).toInt ≤ 936) (h0 : 0 ≤ kp ∧ kp ≤ 936) (ht : (I mo 21).toInt = 5) (hb : ∀ k : Nat, k < n → (AI (gh 65 0) k).toInt = b k % 256) (hr7 : ∀ k : Nat, -128 ≤ b k ∧ b k ≤ 127) (hsz : (I mo 18).toInt = (n : Int)) (hn9 : n ≤ 900) (hkn : kp < (n : Int)) (hkr : tRx b kp.toNat) : gMet l g yX7_runs tsX7_runs rmX7_runsf [.ref mo, .int (iI kp)] (I, R, J, AI, AJ, AR) (gQv g (fun w : gS => R = w.2.1 ∧ AI = w.2.2.2.1 ∧ AJ = w.2.2.2.2.1 ∧ AR = w.2.2.2.2.2 ∧ (mInv g gh R (w.1) AI) ∧ (qF mo I (w.1)) ∧ (((w.1) mo 20).toInt ≤ 936 ∧ (I mo 24).toInt ≤ ((w.1) mo 24).toInt) ∧ (((w.1) mo 24).toInt = (I mo 24).toInt) ∧ (((w.1) mo 20).toInt = (tRn b n kp.toNat : Int)) ∧ (((w.1) mo 21).toInt = tkM (tKr b kp.toNat (tRn b n kp.toNat - kp.toNat))) ∧ (((w.1) mo 23).toInt = tNq b kp.toNat (tRn b n kp.toNat - kp.toNat)) ∧ (((w.1) mo 19).toInt = (I mo 19).toInt) ∧ ((w.2.2.1) mo 22 = tMw b kp.toNat (tRn b n kp.toNat - kp.toNat)))) := by
  refine gStart (cc := cX7_runs) (maxL := 5) (ret := none) (by decide) rfl (Nat.le_of_ble_eq_true rfl) ?_
  intro p e s m below meth c ls F hr hlk hH hz hS hl
  have hl : lv_has ls 5 [(0, .ref mo), (1, .int (iI kp))] := hl
  have hS : va_S (gA g) s.heap s.heap [] := hS
  obtain ⟨H, hHe⟩ : ∃ H : Heap, H = s.heap := ⟨_, rfl⟩
  obtain ⟨locs, hlo⟩ : ∃ k : List Loc, k = [] := ⟨_, rfl⟩
  have hH : gH g I R J AI AJ AR H := by rw [hHe]; exact hH
  have hS : va_S (gA g) s.heap H locs := by rw [hHe, hlo]; exact hS
  suffices hw : W p l e rmX7_runsf s m ([.ref mo, .int (iI kp)] : List Value).toArray below meth c H locs 0 0 (MQ below (gQv g (fun w : gS => R = w.2.1 ∧ AI = w.2.2.2.1 ∧ AJ = w.2.2.2.2.1 ∧ AR = w.2.2.2.2.2 ∧ (mInv g gh R (w.1) AI) ∧ (qF mo I (w.1)) ∧ (((w.1) mo 20).toInt ≤ 936 ∧ (I mo 24).toInt ≤ ((w.1) mo 24).toInt) ∧ (((w.1) mo 24).toInt = (I mo 24).toInt) ∧ (((w.1) mo 20).toInt = (tRn b n kp.toNat : Int)) ∧ (((w.1) mo 21).toInt = tkM (tKr b kp.toNat (tRn b n kp.toNat - kp.toNat))) ∧ (((w.1) mo 23).toInt = tNq b kp.toNat (tRn b n kp.toNat - kp.toNat)) ∧ (((w.1) mo 19).toInt = (I mo 19).toInt) ∧ ((w.2.2.1) mo 22 = tMw b kp.toNat (tRn b n kp.toNat - kp.toNat)))) ([.ref mo, .int (iI kp)] : List Value).toArray s 0 0 (gA g)) (F0 m 0 ls []) by
    rw [hHe, hlo] at hw; exact hw
  clear hHe hlo
  have pf : qF mo I I := qF_r
  have hb0 := mJ hv hm
  unfold mNum1 at hb0
  have iX7 : ∀ w ∈ u_ws RX7 TX7 32, w ∈ tsX7_runs := fun w h => List.mem_cons_of_mem _ (inTB7 w h)
  have k111 : Cond.fieldLink RX7 111 (TX7 22).1 (TX7 22).2.1 (TX7 22).2.2.1 ∈ tsX7_runs := List.mem_cons_of_mem _ fl_111
  have k97 : Cond.fieldLink RX7 97 (TX7 23).1 (TX7 23).2.1 (TX7 23).2.2.1 ∈ tsX7_runs := List.mem_cons_of_mem _ fl_97
  have k84 : Cond.fieldLink RX7 84 (TX7 20).1 (TX7 20).2.1 (TX7 20).2.2.1 ∈ tsX7_runs := List.mem_cons_of_mem _ fl_84
  have k94 : Cond.fieldLink RX7 94 (TX7 21).1 (TX7 21).2.1 (TX7 21).2.2.1 ∈ tsX7_runs := List.mem_cons_of_mem _ fl_94
  have k39 : Cond.fieldLink RX7 39 (TX7 15).1 (TX7 15).2.1 (TX7 15).2.2.1 ∈ tsX7_runs := List.mem_cons_of_mem _ fl_39
  refine z_iconst F dX7_runs_0 ?_
  refine lv_istore_n (lv' := [(2, .int (iI 0)), (0, .ref mo), (1, .int (iI kp))]) F.1 F.2.1 dX7_runs_1 rfl hl (by decide) rfl (fun ls hl => ?_)
  refine lv_iload_n F.1 F.2.1 dX7_runs_2 rfl (lv_at hl 2 rfl) ?_
  refine lv_istore_n (lv' := [(3, .int (iI kp)), (2, .int (iI 0)), (0, .ref mo), (1, .int (iI kp))]) F.1 F.2.1 dX7_runs_3 rfl hl (by decide) rfl (fun ls hl => ?_)
  refine lv_aload_n F.1 F.2.1 dX7_runs_4 rfl (lv_at hl 2 rfl) ?_
  refine lv_lconst (v := 0) F.1 F.2.1 dX7_runs_5 (by decide) ?_
  refine g_putJ (ci := 7) (k := 22) F hH hS rfl (by decide) iX7 hm (by decide) tyX7 tyX7_ok nmX7 rfl rfl rfl k111 dX7_runs_6 (fun H locs hH hS => ?_)
  obtain ⟨J_2, eJ_2⟩ : ∃ qQ, qQ = gup2 J mo 22 (0) := ⟨_, rfl⟩
  rw [← eJ_2] at hH
  have kJ_2 : ∀ b, b ≠ mo → J_2 b = J b := fun b hb => by rw [eJ_2]; exact funext fun j => gup2_a _ _ hb
  have hw0 : J_2 mo 22 = 0 := by rw [eJ_2, gup2_s]
  refine lv_aload_n F.1 F.2.1 dX7_runs_9 rfl (lv_at hl 2 rfl) ?_
  refine z_iconst F dX7_runs_10 ?_
  refine g_putI (ci := 7) (k := 23) F hH hS rfl (by decide) iX7 hm (by decide) tyX7 tyX7_ok nmX7 rfl rfl rfl k97 dX7_runs_11 (fun H locs hH hS => ?_)
  obtain ⟨I_3, eI_3⟩ : ∃ qQ, qQ = gup2 I mo 23 (iI (0)) := ⟨_, rfl⟩
  rw [← eI_3] at hH
  have kI_3 : ∀ b, b ≠ mo → I_3 b = I b := fun b hb => by rw [eI_3]; exact funext fun j => gup2_a _ _ hb
  have w_4 : (I_3 mo 23).toInt = 0 := by rw [eI_3, gup2_s]; exact iI_val ⟨by decide, by decide⟩
  have hv : mInv g gh R I_3 AI := by rw [eI_3]; exact mP23 hv hm ⟨by decide, by decide⟩ (by omega)
  have pf : qF mo I I_3 := qF_t pf (by rw [eI_3]; exact qF_p (by decide))
  have u_5_2 : (I_3 mo 2).toInt = (I mo 2).toInt := by rw [pf 2 (by decide) (by decide) (by decide) (by decide) (by decide)]
  have u_5_5 : (I_3 mo 5).toInt = (I mo 5).toInt := by rw [pf 5 (by decide) (by decide) (by decide) (by decide) (by decide)]
  have u_5_14 : (I_3 mo 14).toInt = (I mo 14).toInt := by rw [pf 14 (by decide) (by decide) (by decide) (by decide) (by decide)]
  have u_5_16 : (I_3 mo 16).toInt = (I mo 16).toInt := by rw [pf 16 (by decide) (by decide) (by decide) (by decide) (by decide)]
  have u_5_18 : (I_3 mo 18).toInt = (I mo 18).toInt := by rw [pf 18 (by decide) (by decide) (by decide) (by decide) (by decide)]
  have w_4_k19 : (I_3 mo 19).toInt = (I mo 19).toInt := by rw [eI_3, gup2_k _ _ (by decide)]
  have w_4_k20 : (I_3 mo 20).toInt = (I mo 20).toInt := by rw [eI_3, gup2_k _ _ (by decide)]
  have w_4_k21 : (I_3 mo 21).toInt = (I mo 21).toInt := by rw [eI_3, gup2_k _ _ (by decide)]
  have w_4_k24 : (I_3 mo 24).toInt = (I mo 24).toInt := by rw [eI_3, gup2_k _ _ (by decide)]
  have cut_14_7 : ∀ (NN : Nat) (lt e1 : Int) (I_6 : gI) (J_7 : gJ) (H : Heap) (locs : List Loc) (ls : Array Slot), zr lt → zr e1 → (mInv g gh R I_6 AI) → (qF mo I I_6) → (kp ≤ e1 ∧ e1 ≤ 936 ∧ 0 ≤ lt ∧ lt ≤ e1 - kp ∧ (I_6 mo 21).toInt = 5 ∧ (I_6 mo 20).toInt ≤ 936 ∧ (I_6 mo 24).toInt = (I mo 24).toInt) → (∀ j : Nat, kp.toNat ≤ j → (j : Int) < e1 → tRx b j) → (lt = e1 - kp - (tDc b kp.toNat (e1 - kp).toNat : Int) ∧ e1 ≤ (n : Int)) → ((I_6 mo 23).toInt = tNq b kp.toNat (e1 - kp).toNat) → (J_7 mo 22 = tMw b kp.toNat (e1 - kp).toNat) → ((I_6 mo 19).toInt = (I mo 19).toInt) → (936 - e1) < ((NN : Nat) : Int) → gH g I_6 R J_7 AI AJ AR H → va_S (gA g) s.heap H locs → lv_has ls 5 [(3, .int (iI e1)), (2, .int (iI lt)), (0, .ref mo), (1, .int (iI kp))] → W p l e rmX7_runsf s m ([.ref mo, .int (iI kp)] : List Value).toArray below meth c H locs 0 0 (MQ below (gQv g (fun w : gS => R = w.2.1 ∧ AI = w.2.2.2.1 ∧ AJ = w.2.2.2.2.1 ∧ AR = w.2.2.2.2.2 ∧ (mInv g gh R (w.1) AI) ∧ (qF mo I (w.1)) ∧ (((w.1) mo 20).toInt ≤ 936 ∧ (I mo 24).toInt ≤ ((w.1) mo 24).toInt) ∧ (((w.1) mo 24).toInt = (I mo 24).toInt) ∧ (((w.1) mo 20).toInt = (tRn b n kp.toNat : Int)) ∧ (((w.1) mo 21).toInt = tkM (tKr b kp.toNat (tRn b n kp.toNat - kp.toNat))) ∧ (((w.1) mo 23).toInt = tNq b kp.toNat (tRn b n kp.toNat - kp.toNat)) ∧ (((w.1) mo 19).toInt = (I mo 19).toInt) ∧ ((w.2.2.1) mo 22 = tMw b kp.toNat (tRn b n kp.toNat - kp.toNat)))) ([.ref mo, .int (iI kp)] : List Value).toArray s 0 0 (gA g)) (F0 m 14 ls []) := by
    intro NN14
    induction NN14 with
    | zero =>
      intro lt e1 I_6 J_7 H locs ls zlt ze1 hv pf hx hrun hlt hnq hw h19 hm14 hH hS hl
      exact absurd hm14 (by omega)
    | succ NN14 ih14 =>
      intro lt e1 I_6 J_7 H locs ls zlt ze1 hv pf hx hrun hlt hnq hw h19 hm14 hH hS hl
      have uc_2 : (I_6 mo 2).toInt = (I mo 2).toInt := by rw [pf 2 (by decide) (by decide) (by decide) (by decide) (by decide)]
      have uc_5 : (I_6 mo 5).toInt = (I mo 5).toInt := by rw [pf 5 (by decide) (by decide) (by decide) (by decide) (by decide)]
      have uc_14 : (I_6 mo 14).toInt = (I mo 14).toInt := by rw [pf 14 (by decide) (by decide) (by decide) (by decide) (by decide)]
      have uc_16 : (I_6 mo 16).toInt = (I mo 16).toInt := by rw [pf 16 (by decide) (by decide) (by decide) (by decide) (by decide)]
      have uc_18 : (I_6 mo 18).toInt = (I mo 18).toInt := by rw [pf 18 (by decide) (by decide) (by decide) (by decide) (by decide)]
      have hq9 := tNq_9 (b := b) (k := kp.toNat) (m := (e1 - kp).toNat)
      have cut_36_8 : ∀ (H : Heap) (locs : List Loc) (ls : Array Slot), (e1 < (n : Int) ∧ tRx b e1.toNat) → gH g I_6 R J_7 AI AJ AR H → va_S (gA g) s.heap H locs → lv_has ls 5 [(3, .int (iI e1)), (2, .int (iI lt)), (0, .ref mo), (1, .int (iI kp))] → W p l e rmX7_runsf s m ([.ref mo, .int (iI kp)] : List Value).toArray below meth c H locs 0 0 (MQ below (gQv g (fun w : gS => R = w.2.1 ∧ AI = w.2.2.2.1 ∧ AJ = w.2.2.2.2.1 ∧ AR = w.2.2.2.2.2 ∧ (mInv g gh R (w.1) AI) ∧ (qF mo I (w.1)) ∧ (((w.1) mo 20).toInt ≤ 936 ∧ (I mo 24).toInt ≤ ((w.1) mo 24).toInt) ∧ (((w.1) mo 24).toInt = (I mo 24).toInt) ∧ (((w.1) mo 20).toInt = (tRn b n kp.toNat : Int)) ∧ (((w.1) mo 21).toInt = tkM (tKr b kp.toNat (tRn b n kp.toNat - kp.toNat))) ∧ (((w.1) mo 23).toInt = tNq b kp.toNat (tRn b n kp.toNat - kp.toNat)) ∧ (((w.1) mo 19).toInt = (I mo 19).toInt) ∧ ((w.2.2.1) mo 22 = tMw b kp.toNat (tRn b n kp.toNat - kp.toNat)))) ([.ref mo, .int (iI kp)] : List Value).toArray s 0 0 (gA g)) (F0 m 36 ls []) := by
        intro H locs ls h36 hH hS hl
        refine lv_aload_n F.1 F.2.1 dX7_runs_36 rfl (lv_at hl 2 rfl) ?_
        refine lv_iload_n F.1 F.2.1 dX7_runs_37 rfl (lv_at hl 0 rfl) ?_
        have b_10 := mJ hv hm
        unfold mNum1 at b_10
        refine g_calli (g_runV (As := [.int (iI e1)]) (rest := []) (ci := 7) F hl.1 hH hS hz (c_X7_byteAtf l g gh T b n I_6 R J_7 AI AJ AR mo e1 ze1 hv hm hT (by omega) hb hr7 (by omega) (by omega)) (cwV 1 F.2.2.2.2.1 (good_up gT_X7_byteAt) rfl rfl rfl hdX7_byteAt ⟨Nat.le_of_ble_eq_true rfl, Nat.le_of_ble_eq_true rfl⟩) hm (by decide) rfl rfl rfl (Nat.le_of_ble_eq_true rfl) dX7_runs_38 ⟨Nat.zero_le _, Nat.zero_le _⟩) hS (fun v_17 I_11 R_12 J_13 AI_14 AJ_15 AR_16 H locs zv_17 hp_18 hH hS => ?_)
        dsimp only at hp_18
        obtain ⟨rfl, rfl, rfl, rfl, rfl, rfl, q38⟩ := hp_18
        have t38 : v_17 = b e1.toNat % 256 := q38.trans (tBa_lt h36.1)
        refine lv_istore (lv' := [(4, .int (iI v_17)), (3, .int (iI e1)), (2, .int (iI lt)), (0, .ref mo), (1, .int (iI kp))]) F.1 F.2.1 dX7_runs_41 hl (by decide) rfl (fun ls hl => ?_)
        have cut_54_18 : ∀ (lt2 : Int) (H : Heap) (locs : List Loc) (ls : Array Slot), zr lt2 → (0 ≤ lt2 ∧ lt2 ≤ e1 - kp + 1) → (lt2 = e1 + 1 - kp - (tDc b kp.toNat (e1 + 1 - kp).toNat : Int) ∧ e1 + 1 ≤ (n : Int)) → gH g I_6 R J_7 AI AJ AR H → va_S (gA g) s.heap H locs → lv_has ls 5 [(4, .int (iI v_17)), (3, .int (iI e1)), (2, .int (iI lt2)), (0, .ref mo), (1, .int (iI kp))] → W p l e rmX7_runsf s m ([.ref mo, .int (iI kp)] : List Value).toArray below meth c H locs 0 0 (MQ below (gQv g (fun w : gS => R = w.2.1 ∧ AI = w.2.2.2.1 ∧ AJ = w.2.2.2.2.1 ∧ AR = w.2.2.2.2.2 ∧ (mInv g gh R (w.1) AI) ∧ (qF mo I (w.1)) ∧ (((w.1) mo 20).toInt ≤ 936 ∧ (I mo 24).toInt ≤ ((w.1) mo 24).toInt) ∧ (((w.1) mo 24).toInt = (I mo 24).toInt) ∧ (((w.1) mo 20).toInt = (tRn b n kp.toNat : Int)) ∧ (((w.1) mo 21).toInt = tkM (tKr b kp.toNat (tRn b n kp.toNat - kp.toNat))) ∧ (((w.1) mo 23).toInt = tNq b kp.toNat (tRn b n kp.toNat - kp.toNat)) ∧ (((w.1) mo 19).toInt = (I mo 19).toInt) ∧ ((w.2.2.1) mo 22 = tMw b kp.toNat (tRn b n kp.toNat - kp.toNat)))) ([.ref mo, .int (iI kp)] : List Value).toArray s 0 0 (gA g)) (F0 m 54 ls []) := by
          intro lt2 H locs ls zlt2 hl2 hl3 hH hS hl
          have cut_78_20 : ∀ (J_20 : gJ) (H : Heap) (locs : List Loc) (ls : Array Slot), (mInv g gh R I_6 AI) → (J_20 mo 22 = tMw b kp.toNat (e1 + 1 - kp).toNat) → gH g I_6 R J_20 AI AJ AR H → va_S (gA g) s.heap H locs → lv_has ls 5 [(4, .int (iI v_17)), (3, .int (iI e1)), (2, .int (iI lt2)), (0, .ref mo), (1, .int (iI kp))] → W p l e rmX7_runsf s m ([.ref mo, .int (iI kp)] : List Value).toArray below meth c H locs 0 0 (MQ below (gQv g (fun w : gS => R = w.2.1 ∧ AI = w.2.2.2.1 ∧ AJ = w.2.2.2.2.1 ∧ AR = w.2.2.2.2.2 ∧ (mInv g gh R (w.1) AI) ∧ (qF mo I (w.1)) ∧ (((w.1) mo 20).toInt ≤ 936 ∧ (I mo 24).toInt ≤ ((w.1) mo 24).toInt) ∧ (((w.1) mo 24).toInt = (I mo 24).toInt) ∧ (((w.1) mo 20).toInt = (tRn b n kp.toNat : Int)) ∧ (((w.1) mo 21).toInt = tkM (tKr b kp.toNat (tRn b n kp.toNat - kp.toNat))) ∧ (((w.1) mo 23).toInt = tNq b kp.toNat (tRn b n kp.toNat - kp.toNat)) ∧ (((w.1) mo 19).toInt = (I mo 19).toInt) ∧ ((w.2.2.1) mo 22 = tMw b kp.toNat (tRn b n kp.toNat - kp.toNat)))) ([.ref mo, .int (iI kp)] : List Value).toArray s 0 0 (gA g)) (F0 m 78 ls []) := by
            intro J_20 H locs ls hv hw2 hH hS hl
            have cut_110_22 : ∀ (I_22 : gI) (H : Heap) (locs : List Loc) (ls : Array Slot), (mInv g gh R I_22 AI) → (qF mo I I_22) → ((I_22 mo 21).toInt = 5 ∧ (I_22 mo 20).toInt ≤ 936 ∧ (I_22 mo 24).toInt = (I mo 24).toInt) → ((I_22 mo 23).toInt = tNq b kp.toNat (e1 + 1 - kp).toNat) → ((I_22 mo 19).toInt = (I mo 19).toInt) → gH g I_22 R J_20 AI AJ AR H → va_S (gA g) s.heap H locs → lv_has ls 5 [(4, .int (iI v_17)), (3, .int (iI e1)), (2, .int (iI lt2)), (0, .ref mo), (1, .int (iI kp))] → W p l e rmX7_runsf s m ([.ref mo, .int (iI kp)] : List Value).toArray below meth c H locs 0 0 (MQ below (gQv g (fun w : gS => R = w.2.1 ∧ AI = w.2.2.2.1 ∧ AJ = w.2.2.2.2.1 ∧ AR = w.2.2.2.2.2 ∧ (mInv g gh R (w.1) AI) ∧ (qF mo I (w.1)) ∧ (((w.1) mo 20).toInt ≤ 936 ∧ (I mo 24).toInt ≤ ((w.1) mo 24).toInt) ∧ (((w.1) mo 24).toInt = (I mo 24).toInt) ∧ (((w.1) mo 20).toInt = (tRn b n kp.toNat : Int)) ∧ (((w.1) mo 21).toInt = tkM (tKr b kp.toNat (tRn b n kp.toNat - kp.toNat))) ∧ (((w.1) mo 23).toInt = tNq b kp.toNat (tRn b n kp.toNat - kp.toNat)) ∧ (((w.1) mo 19).toInt = (I mo 19).toInt) ∧ ((w.2.2.1) mo 22 = tMw b kp.toNat (tRn b n kp.toNat - kp.toNat)))) ([.ref mo, .int (iI kp)] : List Value).toArray s 0 0 (gA g)) (F0 m 110 ls []) := by
              intro I_22 H locs ls hv pf hx2 hnq2 h19b hH hS hl
              have uc_2 : (I_22 mo 2).toInt = (I mo 2).toInt := by rw [pf 2 (by decide) (by decide) (by decide) (by decide) (by decide)]
              have uc_5 : (I_22 mo 5).toInt = (I mo 5).toInt := by rw [pf 5 (by decide) (by decide) (by decide) (by decide) (by decide)]
              have uc_14 : (I_22 mo 14).toInt = (I mo 14).toInt := by rw [pf 14 (by decide) (by decide) (by decide) (by decide) (by decide)]
              have uc_16 : (I_22 mo 16).toInt = (I mo 16).toInt := by rw [pf 16 (by decide) (by decide) (by decide) (by decide) (by decide)]
              have uc_18 : (I_22 mo 18).toInt = (I mo 18).toInt := by rw [pf 18 (by decide) (by decide) (by decide) (by decide) (by decide)]
              refine z_iinc (lv' := [(3, .int (iI (e1 + 1))), (4, .int (iI v_17)), (2, .int (iI lt2)), (0, .ref mo), (1, .int (iI kp))]) F dX7_runs_110 hl (k := 1) rfl (by decide) rfl (fun ls hl => ?_)
              refine z_goto (tgt := 14) F dX7_runs_113 (by decide) ?_
              exact ih14 lt2 (e1 + 1) I_22 J_20 H locs ls zlt2 ⟨by omega, by omega⟩ hv pf (by omega) (by first | exact (fun j h1 h2 => absurd h2 (by omega)) | exact rx_1 hrun h36.2 (by omega)) (by first | exact hl3 | exact rl_0 (by omega) (by omega)) (by first | exact hnq2 | (rw [show (kp - kp).toNat = 0 by omega]; show _ = (0 : Int); omega)) (by first | exact hw2 | (rw [show (kp - kp).toNat = 0 by omega]; exact hw0)) (by omega) (by omega) hH hS (lv_sub hl [0, 2, 3, 4] rfl)
            refine lv_iload_n F.1 F.2.1 dX7_runs_78 rfl (lv_at hl 1 rfl) ?_
            refine lv_iload_n F.1 F.2.1 dX7_runs_79 rfl (lv_at hl 4 rfl) ?_
            refine z_isub F dX7_runs_80 ?_
            refine z_iconst F dX7_runs_81 ?_
            refine z_icmp_ge (tgt := 110) F dX7_runs_82 (by decide) ⟨by omega, by omega⟩ ⟨by decide, by decide⟩ (fun c_24 => ?_) (fun c_24 => ?_)
            · exact cut_110_22 I_6 H locs ls hv pf (by omega) (by first | exact tNq_y hnq (by omega) (by omega) t38 (hr7 _) (tIz_1 q87 (by omega)) (by omega) | exact tNq_n hnq (by omega) (Or.inl (by omega)) | exact tNq_n hnq (by omega) (Or.inr (tDg_n t38 (hr7 _) (tIz_0 q87 (by omega))))) (by omega) hH hS (lv_sub hl [0, 1, 2, 3, 4] rfl)
            · refine lv_iload F.1 F.2.1 dX7_runs_85 (lv_at hl 0 rfl) ?_
              refine g_calli (g_runS (As := [.int (iI v_17)]) (rest := []) F hl.1 hH hS hz (c_X7_isDigitf l g  I_6 R J_20 AI AJ AR v_17 zv_17) (va_cwS 1 F.2.2.2.2.1 (good_up gT_X7_isDigit) rfl rfl rfl hdX7_isDigit.2 ⟨Nat.le_of_ble_eq_true rfl, Nat.le_of_ble_eq_true rfl⟩) rfl rfl (Nat.le_of_ble_eq_true rfl) dX7_runs_87 ⟨Nat.zero_le _, Nat.zero_le _⟩) hS (fun v_31 I_25 R_26 J_27 AI_28 AJ_29 AR_30 H locs zv_31 hp_32 hH hS => ?_)
              dsimp only at hp_32
              obtain ⟨rfl, rfl, rfl, rfl, rfl, rfl, q87⟩ := hp_32
              refine z_if_eq (tgt := 110) F dX7_runs_90 (by decide) zv_31 (fun c_33 => ?_) (fun c_33 => ?_)
              · exact cut_110_22 I_6 H locs ls hv pf (by omega) (by first | exact tNq_y hnq (by omega) (by omega) t38 (hr7 _) (tIz_1 q87 (by omega)) (by omega) | exact tNq_n hnq (by omega) (Or.inl (by omega)) | exact tNq_n hnq (by omega) (Or.inr (tDg_n t38 (hr7 _) (tIz_0 q87 (by omega))))) (by omega) hH hS (lv_sub hl [0, 1, 2, 3, 4] rfl)
              · refine lv_aload_n F.1 F.2.1 dX7_runs_93 rfl (lv_at hl 3 rfl) ?_
                refine z_bipush F dX7_runs_94 (by decide) ?_
                refine lv_aload_n F.1 F.2.1 dX7_runs_96 rfl (lv_at hl 3 rfl) ?_
                refine g_getI (ci := 7) (k := 23) F hH rfl (by decide) iX7 hm (by decide) rfl k97 dX7_runs_97 ?_
                refine z_imul F dX7_runs_100 ?_
                refine lv_iload F.1 F.2.1 dX7_runs_101 (lv_at hl 0 rfl) ?_
                refine z_iadd F dX7_runs_103 ?_
                refine z_bipush F dX7_runs_104 (by decide) ?_
                refine z_isub F dX7_runs_106 ?_
                refine g_putI (ci := 7) (k := 23) F hH hS rfl (by decide) iX7 hm (by decide) tyX7 tyX7_ok nmX7 rfl rfl rfl k97 dX7_runs_107 (fun H locs hH hS => ?_)
                obtain ⟨I_34, eI_34⟩ : ∃ qQ, qQ = gup2 I_6 mo 23 (iI (((10 * ((I_6 mo 23).toInt)) + v_17) - 48)) := ⟨_, rfl⟩
                rw [← eI_34] at hH
                have kI_34 : ∀ b, b ≠ mo → I_34 b = I_6 b := fun b hb => by rw [eI_34]; exact funext fun j => gup2_a _ _ hb
                have w_35 : (I_34 mo 23).toInt = ((10 * ((I_6 mo 23).toInt)) + v_17) - 48 := by rw [eI_34, gup2_s]; exact iI_val ⟨by omega, by omega⟩
                have hv : mInv g gh R I_34 AI := by rw [eI_34]; exact mP23 hv hm ⟨by omega, by omega⟩ (by omega)
                have pf : qF mo I I_34 := qF_t pf (by rw [eI_34]; exact qF_p (by decide))
                have u_36_2 : (I_34 mo 2).toInt = (I mo 2).toInt := by rw [pf 2 (by decide) (by decide) (by decide) (by decide) (by decide)]
                have u_36_5 : (I_34 mo 5).toInt = (I mo 5).toInt := by rw [pf 5 (by decide) (by decide) (by decide) (by decide) (by decide)]
                have u_36_14 : (I_34 mo 14).toInt = (I mo 14).toInt := by rw [pf 14 (by decide) (by decide) (by decide) (by decide) (by decide)]
                have u_36_16 : (I_34 mo 16).toInt = (I mo 16).toInt := by rw [pf 16 (by decide) (by decide) (by decide) (by decide) (by decide)]
                have u_36_18 : (I_34 mo 18).toInt = (I mo 18).toInt := by rw [pf 18 (by decide) (by decide) (by decide) (by decide) (by decide)]
                have w_35_k19 : (I_34 mo 19).toInt = (I_6 mo 19).toInt := by rw [eI_34, gup2_k _ _ (by decide)]
                have w_35_k20 : (I_34 mo 20).toInt = (I_6 mo 20).toInt := by rw [eI_34, gup2_k _ _ (by decide)]
                have w_35_k21 : (I_34 mo 21).toInt = (I_6 mo 21).toInt := by rw [eI_34, gup2_k _ _ (by decide)]
                have w_35_k24 : (I_34 mo 24).toInt = (I_6 mo 24).toInt := by rw [eI_34, gup2_k _ _ (by decide)]
                exact cut_110_22 I_34 H locs ls hv pf (by omega) (by first | exact tNq_y hnq (by omega) (by omega) t38 (hr7 _) (tIz_1 q87 (by omega)) (by omega) | exact tNq_n hnq (by omega) (Or.inl (by omega)) | exact tNq_n hnq (by omega) (Or.inr (tDg_n t38 (hr7 _) (tIz_0 q87 (by omega))))) (by omega) hH hS (lv_sub hl [0, 1, 2, 3, 4] rfl)
          refine lv_iload_n F.1 F.2.1 dX7_runs_54 rfl (lv_at hl 1 rfl) ?_
          refine lv_iload_n F.1 F.2.1 dX7_runs_55 rfl (lv_at hl 4 rfl) ?_
          refine z_isub F dX7_runs_56 ?_
          refine z_bipush F dX7_runs_57 (by decide) ?_
          refine z_icmp_ge (tgt := 78) F dX7_runs_59 (by decide) ⟨by omega, by omega⟩ ⟨by decide, by decide⟩ (fun c_37 => ?_) (fun c_37 => ?_)
          · exact cut_78_20 J_7 H locs ls hv (by first | exact hw2 | exact tMw_8 hw (by omega) (by omega)) hH hS (lv_sub hl [0, 1, 2, 3, 4] rfl)
          · refine lv_aload_n F.1 F.2.1 dX7_runs_62 rfl (lv_at hl 3 rfl) ?_
            refine lv_ldc2 (v := 256) F.1 F.2.1 F.2.2.2.1 (F.2.2.2.2.1 _ (List.mem_cons_of_mem _ cl_115)) dX7_runs_63 ?_
            refine lv_aload_n F.1 F.2.1 dX7_runs_66 rfl (lv_at hl 3 rfl) ?_
            refine g_getJ (ci := 7) (k := 22) F hH rfl (by decide) iX7 hm (by decide) rfl k111 dX7_runs_67 ?_
            refine lv_topl (fun j_38 ej_38 => ?_)
            refine lv_lmul F.1 F.2.1 dX7_runs_70 ?_
            refine lv_topl (fun j_39 ej_39 => ?_)
            refine lv_iload F.1 F.2.1 dX7_runs_71 (lv_at hl 0 rfl) ?_
            refine lv_i2l F.1 F.2.1 dX7_runs_73 rfl ?_
            refine lv_topl (fun j_40 ej_40 => ?_)
            refine lv_ladd F.1 F.2.1 dX7_runs_74 ?_
            refine lv_topl (fun j_41 ej_41 => ?_)
            refine g_putJ (ci := 7) (k := 22) F hH hS rfl (by decide) iX7 hm (by decide) tyX7 tyX7_ok nmX7 rfl rfl rfl k111 dX7_runs_75 (fun H locs hH hS => ?_)
            obtain ⟨J_42, eJ_42⟩ : ∃ qQ, qQ = gup2 J_7 mo 22 (j_41) := ⟨_, rfl⟩
            rw [← eJ_42] at hH
            have kJ_42 : ∀ b, b ≠ mo → J_42 b = J_7 b := fun b hb => by rw [eJ_42]; exact funext fun j => gup2_a _ _ hb
            have hw2 : J_42 mo 22 = tMw b kp.toNat (e1 + 1 - kp).toNat := by rw [show (e1 + 1 - kp).toNat = (e1 - kp).toNat + 1 by omega, tMw, if_pos (by omega), show kp.toNat + (e1 - kp).toNat = e1.toNat by omega, eJ_42, gup2_s, ej_41, ej_40, ej_39, ej_38, hw, t38]
            exact cut_78_20 J_42 H locs ls hv (by first | exact hw2 | exact tMw_8 hw (by omega) (by omega)) hH hS (lv_sub hl [0, 1, 2, 3, 4] rfl)
        refine lv_iload F.1 F.2.1 dX7_runs_43 (lv_at hl 0 rfl) ?_
        refine g_calli (g_runS (As := [.int (iI v_17)]) (rest := []) F hl.1 hH hS hz (c_X7_isSmallf l g  I_6 R J_7 AI AJ AR v_17 zv_17) (va_cwS 1 F.2.2.2.2.1 (good_up gT_X7_isSmall) rfl rfl rfl hdX7_isSmall.2 ⟨Nat.le_of_ble_eq_true rfl, Nat.le_of_ble_eq_true rfl⟩) rfl rfl (Nat.le_of_ble_eq_true rfl) dX7_runs_45 ⟨Nat.zero_le _, Nat.zero_le _⟩) hS (fun v_49 I_43 R_44 J_45 AI_46 AJ_47 AR_48 H locs zv_49 hp_50 hH hS => ?_)
        dsimp only at hp_50
        obtain ⟨rfl, rfl, rfl, rfl, rfl, rfl, q45⟩ := hp_50
        refine z_if_eq (tgt := 54) F dX7_runs_48 (by decide) zv_49 (fun c_51 => ?_) (fun c_51 => ?_)
        · exact cut_54_18 lt H locs ls zlt (by omega) (by first | exact tDc_La hlt t38 (hr7 _) (tIz_1 q45 (by omega)) (by omega) h36.1 | exact tDc_Lb hlt t38 (hr7 _) h36.2 (tIz_0 q45 (by omega)) (by omega) h36.1) hH hS (lv_sub hl [0, 1, 2, 3, 4] rfl)
        · refine z_iinc (lv' := [(2, .int (iI (lt + 1))), (4, .int (iI v_17)), (3, .int (iI e1)), (0, .ref mo), (1, .int (iI kp))]) F dX7_runs_51 hl (k := 2) rfl (by decide) rfl (fun ls hl => ?_)
          exact cut_54_18 (lt + 1) H locs ls ⟨by omega, by omega⟩ (by omega) (by first | exact tDc_La hlt t38 (hr7 _) (tIz_1 q45 (by omega)) (by omega) h36.1 | exact tDc_Lb hlt t38 (hr7 _) h36.2 (tIz_0 q45 (by omega)) (by omega) h36.1) hH hS (lv_sub hl [1, 2, 0, 3, 4] rfl)
      have cut_116_51 : ∀ (H : Heap) (locs : List Loc) (ls : Array Slot), (tRn b n kp.toNat = e1.toNat) → (1 ≤ e1 - kp) → gH g I_6 R J_7 AI AJ AR H → va_S (gA g) s.heap H locs → lv_has ls 5 [(3, .int (iI e1)), (2, .int (iI lt)), (0, .ref mo), (1, .int (iI kp))] → W p l e rmX7_runsf s m ([.ref mo, .int (iI kp)] : List Value).toArray below meth c H locs 0 0 (MQ below (gQv g (fun w : gS => R = w.2.1 ∧ AI = w.2.2.2.1 ∧ AJ = w.2.2.2.2.1 ∧ AR = w.2.2.2.2.2 ∧ (mInv g gh R (w.1) AI) ∧ (qF mo I (w.1)) ∧ (((w.1) mo 20).toInt ≤ 936 ∧ (I mo 24).toInt ≤ ((w.1) mo 24).toInt) ∧ (((w.1) mo 24).toInt = (I mo 24).toInt) ∧ (((w.1) mo 20).toInt = (tRn b n kp.toNat : Int)) ∧ (((w.1) mo 21).toInt = tkM (tKr b kp.toNat (tRn b n kp.toNat - kp.toNat))) ∧ (((w.1) mo 23).toInt = tNq b kp.toNat (tRn b n kp.toNat - kp.toNat)) ∧ (((w.1) mo 19).toInt = (I mo 19).toInt) ∧ ((w.2.2.1) mo 22 = tMw b kp.toNat (tRn b n kp.toNat - kp.toNat)))) ([.ref mo, .int (iI kp)] : List Value).toArray s 0 0 (gA g)) (F0 m 116 ls []) := by
        intro H locs ls hend hge hH hS hl
        refine lv_aload_n F.1 F.2.1 dX7_runs_116 rfl (lv_at hl 2 rfl) ?_
        refine lv_iload_n F.1 F.2.1 dX7_runs_117 rfl (lv_at hl 0 rfl) ?_
        refine g_putI (ci := 7) (k := 20) F hH hS rfl (by decide) iX7 hm (by decide) tyX7 tyX7_ok nmX7 rfl rfl rfl k84 dX7_runs_118 (fun H locs hH hS => ?_)
        obtain ⟨I_53, eI_53⟩ : ∃ qQ, qQ = gup2 I_6 mo 20 (iI (e1)) := ⟨_, rfl⟩
        rw [← eI_53] at hH
        have kI_53 : ∀ b, b ≠ mo → I_53 b = I_6 b := fun b hb => by rw [eI_53]; exact funext fun j => gup2_a _ _ hb
        have w_54 : (I_53 mo 20).toInt = e1 := by rw [eI_53, gup2_s]; exact iI_val ze1
        have hv : mInv g gh R I_53 AI := by rw [eI_53]; exact mP20 hv hm (by omega) (by omega)
        have pf : qF mo I I_53 := qF_t pf (by rw [eI_53]; exact qF_p (by decide))
        have u_55_2 : (I_53 mo 2).toInt = (I mo 2).toInt := by rw [pf 2 (by decide) (by decide) (by decide) (by decide) (by decide)]
        have u_55_5 : (I_53 mo 5).toInt = (I mo 5).toInt := by rw [pf 5 (by decide) (by decide) (by decide) (by decide) (by decide)]
        have u_55_14 : (I_53 mo 14).toInt = (I mo 14).toInt := by rw [pf 14 (by decide) (by decide) (by decide) (by decide) (by decide)]
        have u_55_16 : (I_53 mo 16).toInt = (I mo 16).toInt := by rw [pf 16 (by decide) (by decide) (by decide) (by decide) (by decide)]
        have u_55_18 : (I_53 mo 18).toInt = (I mo 18).toInt := by rw [pf 18 (by decide) (by decide) (by decide) (by decide) (by decide)]
        have w_54_k19 : (I_53 mo 19).toInt = (I_6 mo 19).toInt := by rw [eI_53, gup2_k _ _ (by decide)]
        have w_54_k21 : (I_53 mo 21).toInt = (I_6 mo 21).toInt := by rw [eI_53, gup2_k _ _ (by decide)]
        have w_54_k23 : (I_53 mo 23).toInt = (I_6 mo 23).toInt := by rw [eI_53, gup2_k _ _ (by decide)]
        have w_54_k24 : (I_53 mo 24).toInt = (I_6 mo 24).toInt := by rw [eI_53, gup2_k _ _ (by decide)]
        obtain ⟨nu, enu⟩ : ∃ q, q = (I_53 mo 23).toInt := ⟨_, rfl⟩
        have hnu : 0 ≤ nu := by omega
        have hnun : nu = tNq b kp.toNat (e1 - kp).toNat := by omega
        refine lv_iload_n F.1 F.2.1 dX7_runs_121 rfl (lv_at hl 0 rfl) ?_
        refine lv_iload_n F.1 F.2.1 dX7_runs_122 rfl (lv_at hl 3 rfl) ?_
        refine z_isub F dX7_runs_123 ?_
        refine lv_istore (lv' := [(4, .int (iI (e1 - kp))), (3, .int (iI e1)), (2, .int (iI lt)), (0, .ref mo), (1, .int (iI kp))]) F.1 F.2.1 dX7_runs_124 hl (by decide) rfl (fun ls hl => ?_)
        have cut_159_56 : ∀ (I_56 : gI) (H : Heap) (locs : List Loc) (ls : Array Slot), (mInv g gh R I_56 AI) → (qF mo I I_56) → ((I_56 mo 21).toInt ≠ 1 ∧ (I_56 mo 23).toInt = nu ∧ (I_56 mo 20).toInt ≤ 936 ∧ (I_56 mo 24).toInt = (I mo 24).toInt) → ((I_56 mo 20).toInt = e1 ∧ (I_56 mo 19).toInt = (I mo 19).toInt) → (rTk lt (e1 - kp) (I_56 mo 21).toInt) → gH g I_56 R J_7 AI AJ AR H → va_S (gA g) s.heap H locs → lv_has ls 5 [(4, .int (iI (e1 - kp))), (3, .int (iI e1)), (2, .int (iI lt)), (0, .ref mo), (1, .int (iI kp))] → W p l e rmX7_runsf s m ([.ref mo, .int (iI kp)] : List Value).toArray below meth c H locs 0 0 (MQ below (gQv g (fun w : gS => R = w.2.1 ∧ AI = w.2.2.2.1 ∧ AJ = w.2.2.2.2.1 ∧ AR = w.2.2.2.2.2 ∧ (mInv g gh R (w.1) AI) ∧ (qF mo I (w.1)) ∧ (((w.1) mo 20).toInt ≤ 936 ∧ (I mo 24).toInt ≤ ((w.1) mo 24).toInt) ∧ (((w.1) mo 24).toInt = (I mo 24).toInt) ∧ (((w.1) mo 20).toInt = (tRn b n kp.toNat : Int)) ∧ (((w.1) mo 21).toInt = tkM (tKr b kp.toNat (tRn b n kp.toNat - kp.toNat))) ∧ (((w.1) mo 23).toInt = tNq b kp.toNat (tRn b n kp.toNat - kp.toNat)) ∧ (((w.1) mo 19).toInt = (I mo 19).toInt) ∧ ((w.2.2.1) mo 22 = tMw b kp.toNat (tRn b n kp.toNat - kp.toNat)))) ([.ref mo, .int (iI kp)] : List Value).toArray s 0 0 (gA g)) (F0 m 159 ls []) := by
          intro I_56 H locs ls hv pf h159 h159b h159t hH hS hl
          have uc_2 : (I_56 mo 2).toInt = (I mo 2).toInt := by rw [pf 2 (by decide) (by decide) (by decide) (by decide) (by decide)]
          have uc_5 : (I_56 mo 5).toInt = (I mo 5).toInt := by rw [pf 5 (by decide) (by decide) (by decide) (by decide) (by decide)]
          have uc_14 : (I_56 mo 14).toInt = (I mo 14).toInt := by rw [pf 14 (by decide) (by decide) (by decide) (by decide) (by decide)]
          have uc_16 : (I_56 mo 16).toInt = (I mo 16).toInt := by rw [pf 16 (by decide) (by decide) (by decide) (by decide) (by decide)]
          have uc_18 : (I_56 mo 18).toInt = (I mo 18).toInt := by rw [pf 18 (by decide) (by decide) (by decide) (by decide) (by decide)]
          refine lv_iload F.1 F.2.1 dX7_runs_159 (lv_at hl 0 rfl) ?_
          refine z_iconst F dX7_runs_161 ?_
          refine z_icmp_ne (tgt := 194) F dX7_runs_162 (by decide) ⟨by omega, by omega⟩ ⟨by decide, by decide⟩ (fun c_58 => ?_) (fun c_58 => ?_)
          · exact g_vret F hr hlk hH hS hz ⟨rfl, rfl, rfl, rfl, hv, pf, by first | omega | rfl | (dsimp only; omega), by first | omega | rfl | (dsimp only; omega), by (try dsimp only); rw [hend]; omega, by (try dsimp only); rw [hend, show e1.toNat - kp.toNat = (e1 - kp).toNat by omega]; first | exact tKm1 (lt := lt) (nu := nu) (by omega) (by omega) hnun (hr7 _) (by rw [show (((e1 - kp).toNat : Nat) : Int) = e1 - kp by omega]; exact h159t) (by omega) | exact tKm2 (lt := lt) (nu := nu) (by omega) (by omega) hnun (hr7 _) (by omega), by (try dsimp only); rw [hend, show e1.toNat - kp.toNat = (e1 - kp).toNat by omega, ← hnun]; omega, by (try dsimp only); omega, by (try dsimp only); rw [hend, show e1.toNat - kp.toNat = (e1 - kp).toNat by omega]; exact hw⟩ dX7_runs_194
          · refine lv_aload_n F.1 F.2.1 dX7_runs_165 rfl (lv_at hl 3 rfl) ?_
            obtain ⟨r_59a, r_59b⟩ : R mo 15 = some (gh 65 0) ∧ gAr g (gh 65 0) 9 936 := mR hv hm (q := (15, 936)) (by decide)
            refine g_getR (ci := 7) (k := 15) F hH rfl (by decide) iX7 hm (by decide) rfl (b := gh 65 0) r_59a k39 dX7_runs_166 ?_
            refine lv_iload_n F.1 F.2.1 dX7_runs_169 rfl (lv_at hl 4 rfl) ?_
            have hx170 : 0 ≤ kp ∧ kp < ((936 : Nat) : Int) ∧ kp ≤ 2147483647 := ⟨by omega, by omega, by omega⟩
            refine g_iald F hH r_59b hx170.1 hx170.2.1 hx170.2.2 dX7_runs_170 ?_
            refine z_name (fun v_60 ev_60 => ?_)
            have zv_60 : zr v_60 := by rw [ev_60]; exact zr_t _
            have t170 : v_60 = b kp.toNat % 256 := by rw [ev_60]; exact hb _ (by omega)
            refine z_bipush F dX7_runs_171 (by decide) ?_
            refine z_icmp_ne (tgt := 194) F dX7_runs_173 (by decide) zv_60 ⟨by decide, by decide⟩ (fun c_61 => ?_) (fun c_61 => ?_)
            · exact g_vret F hr hlk hH hS hz ⟨rfl, rfl, rfl, rfl, hv, pf, by first | omega | rfl | (dsimp only; omega), by first | omega | rfl | (dsimp only; omega), by (try dsimp only); rw [hend]; omega, by (try dsimp only); rw [hend, show e1.toNat - kp.toNat = (e1 - kp).toNat by omega]; first | exact tKm1 (lt := lt) (nu := nu) (by omega) (by omega) hnun (hr7 _) (by rw [show (((e1 - kp).toNat : Nat) : Int) = e1 - kp by omega]; exact h159t) (by omega) | exact tKm2 (lt := lt) (nu := nu) (by omega) (by omega) hnun (hr7 _) (by omega), by (try dsimp only); rw [hend, show e1.toNat - kp.toNat = (e1 - kp).toNat by omega, ← hnun]; omega, by (try dsimp only); omega, by (try dsimp only); rw [hend, show e1.toNat - kp.toNat = (e1 - kp).toNat by omega]; exact hw⟩ dX7_runs_194
            · refine lv_iload_n F.1 F.2.1 dX7_runs_176 rfl (lv_at hl 2 rfl) ?_
              refine z_iconst F dX7_runs_177 ?_
              refine z_icmp_ne (tgt := 194) F dX7_runs_178 (by decide) zlt ⟨by decide, by decide⟩ (fun c_62 => ?_) (fun c_62 => ?_)
              · exact g_vret F hr hlk hH hS hz ⟨rfl, rfl, rfl, rfl, hv, pf, by first | omega | rfl | (dsimp only; omega), by first | omega | rfl | (dsimp only; omega), by (try dsimp only); rw [hend]; omega, by (try dsimp only); rw [hend, show e1.toNat - kp.toNat = (e1 - kp).toNat by omega]; first | exact tKm1 (lt := lt) (nu := nu) (by omega) (by omega) hnun (hr7 _) (by rw [show (((e1 - kp).toNat : Nat) : Int) = e1 - kp by omega]; exact h159t) (by omega) | exact tKm2 (lt := lt) (nu := nu) (by omega) (by omega) hnun (hr7 _) (by omega), by (try dsimp only); rw [hend, show e1.toNat - kp.toNat = (e1 - kp).toNat by omega, ← hnun]; omega, by (try dsimp only); omega, by (try dsimp only); rw [hend, show e1.toNat - kp.toNat = (e1 - kp).toNat by omega]; exact hw⟩ dX7_runs_194
              · refine lv_aload_n F.1 F.2.1 dX7_runs_181 rfl (lv_at hl 3 rfl) ?_
                refine g_getI (ci := 7) (k := 23) F hH rfl (by decide) iX7 hm (by decide) rfl k97 dX7_runs_182 ?_
                have b_63 := mJ hv hm
                unfold mNum1 at b_63
                refine z_iconst F dX7_runs_185 ?_
                refine z_icmp_ge (tgt := 194) F dX7_runs_186 (by decide) (zr_t _) ⟨by decide, by decide⟩ (fun c_64 => ?_) (fun c_64 => ?_)
                · exact g_vret F hr hlk hH hS hz ⟨rfl, rfl, rfl, rfl, hv, pf, by first | omega | rfl | (dsimp only; omega), by first | omega | rfl | (dsimp only; omega), by (try dsimp only); rw [hend]; omega, by (try dsimp only); rw [hend, show e1.toNat - kp.toNat = (e1 - kp).toNat by omega]; first | exact tKm1 (lt := lt) (nu := nu) (by omega) (by omega) hnun (hr7 _) (by rw [show (((e1 - kp).toNat : Nat) : Int) = e1 - kp by omega]; exact h159t) (by omega) | exact tKm2 (lt := lt) (nu := nu) (by omega) (by omega) hnun (hr7 _) (by omega), by (try dsimp only); rw [hend, show e1.toNat - kp.toNat = (e1 - kp).toNat by omega, ← hnun]; omega, by (try dsimp only); omega, by (try dsimp only); rw [hend, show e1.toNat - kp.toNat = (e1 - kp).toNat by omega]; exact hw⟩ dX7_runs_194
                · refine lv_aload_n F.1 F.2.1 dX7_runs_189 rfl (lv_at hl 3 rfl) ?_
                  refine z_iconst F dX7_runs_190 ?_
                  refine g_putI (ci := 7) (k := 21) F hH hS rfl (by decide) iX7 hm (by decide) tyX7 tyX7_ok nmX7 rfl rfl rfl k94 dX7_runs_191 (fun H locs hH hS => ?_)
                  obtain ⟨I_65, eI_65⟩ : ∃ qQ, qQ = gup2 I_56 mo 21 (iI (1)) := ⟨_, rfl⟩
                  rw [← eI_65] at hH
                  have kI_65 : ∀ b, b ≠ mo → I_65 b = I_56 b := fun b hb => by rw [eI_65]; exact funext fun j => gup2_a _ _ hb
                  have w_66 : (I_65 mo 21).toInt = 1 := by rw [eI_65, gup2_s]; exact iI_val ⟨by decide, by decide⟩
                  have hv : mInv g gh R I_65 AI := by rw [eI_65]; exact mP21 hv hm ⟨by decide, by decide⟩ (by omega)
                  have pf : qF mo I I_65 := qF_t pf (by rw [eI_65]; exact qF_p (by decide))
                  have u_67_2 : (I_65 mo 2).toInt = (I mo 2).toInt := by rw [pf 2 (by decide) (by decide) (by decide) (by decide) (by decide)]
                  have u_67_5 : (I_65 mo 5).toInt = (I mo 5).toInt := by rw [pf 5 (by decide) (by decide) (by decide) (by decide) (by decide)]
                  have u_67_14 : (I_65 mo 14).toInt = (I mo 14).toInt := by rw [pf 14 (by decide) (by decide) (by decide) (by decide) (by decide)]
                  have u_67_16 : (I_65 mo 16).toInt = (I mo 16).toInt := by rw [pf 16 (by decide) (by decide) (by decide) (by decide) (by decide)]
                  have u_67_18 : (I_65 mo 18).toInt = (I mo 18).toInt := by rw [pf 18 (by decide) (by decide) (by decide) (by decide) (by decide)]
                  have w_66_k19 : (I_65 mo 19).toInt = (I_56 mo 19).toInt := by rw [eI_65, gup2_k _ _ (by decide)]
                  have w_66_k20 : (I_65 mo 20).toInt = (I_56 mo 20).toInt := by rw [eI_65, gup2_k _ _ (by decide)]
                  have w_66_k23 : (I_65 mo 23).toInt = (I_56 mo 23).toInt := by rw [eI_65, gup2_k _ _ (by decide)]
                  have w_66_k24 : (I_65 mo 24).toInt = (I_56 mo 24).toInt := by rw [eI_65, gup2_k _ _ (by decide)]
                  exact g_vret F hr hlk hH hS hz ⟨rfl, rfl, rfl, rfl, hv, pf, by first | omega | rfl | (dsimp only; omega), by first | omega | rfl | (dsimp only; omega), by (try dsimp only); rw [hend]; omega, by (try dsimp only); rw [hend, show e1.toNat - kp.toNat = (e1 - kp).toNat by omega]; first | exact tKm1 (lt := lt) (nu := nu) (by omega) (by omega) hnun (hr7 _) (by rw [show (((e1 - kp).toNat : Nat) : Int) = e1 - kp by omega]; exact h159t) (by omega) | exact tKm2 (lt := lt) (nu := nu) (by omega) (by omega) hnun (hr7 _) (by omega), by (try dsimp only); rw [hend, show e1.toNat - kp.toNat = (e1 - kp).toNat by omega, ← hnun]; omega, by (try dsimp only); omega, by (try dsimp only); rw [hend, show e1.toNat - kp.toNat = (e1 - kp).toNat by omega]; exact hw⟩ dX7_runs_194
        refine lv_iload_n F.1 F.2.1 dX7_runs_126 rfl (lv_at hl 2 rfl) ?_
        refine lv_iload F.1 F.2.1 dX7_runs_127 (lv_at hl 0 rfl) ?_
        refine z_icmp_ne (tgt := 144) F dX7_runs_129 (by decide) zlt ⟨by omega, by omega⟩ (fun c_68 => ?_) (fun c_68 => ?_)
        · refine lv_iload_n F.1 F.2.1 dX7_runs_144 rfl (lv_at hl 2 rfl) ?_
          refine z_if_ne (tgt := 159) F dX7_runs_145 (by decide) zlt (fun c_69 => ?_) (fun c_69 => ?_)
          · exact cut_159_56 I_53 H locs ls hv pf (by omega) (by omega) (by unfold rTk; omega) hH hS (lv_sub hl [0, 1, 2, 3, 4] rfl)
          · refine lv_iload F.1 F.2.1 dX7_runs_148 (lv_at hl 0 rfl) ?_
            refine z_iconst F dX7_runs_150 ?_
            refine z_icmp_ge (tgt := 159) F dX7_runs_151 (by decide) ⟨by omega, by omega⟩ ⟨by decide, by decide⟩ (fun c_70 => ?_) (fun c_70 => ?_)
            · exact cut_159_56 I_53 H locs ls hv pf (by omega) (by omega) (by unfold rTk; omega) hH hS (lv_sub hl [0, 1, 2, 3, 4] rfl)
            · refine lv_aload_n F.1 F.2.1 dX7_runs_154 rfl (lv_at hl 3 rfl) ?_
              refine z_iconst F dX7_runs_155 ?_
              refine g_putI (ci := 7) (k := 21) F hH hS rfl (by decide) iX7 hm (by decide) tyX7 tyX7_ok nmX7 rfl rfl rfl k94 dX7_runs_156 (fun H locs hH hS => ?_)
              obtain ⟨I_71, eI_71⟩ : ∃ qQ, qQ = gup2 I_53 mo 21 (iI (3)) := ⟨_, rfl⟩
              rw [← eI_71] at hH
              have kI_71 : ∀ b, b ≠ mo → I_71 b = I_53 b := fun b hb => by rw [eI_71]; exact funext fun j => gup2_a _ _ hb
              have w_72 : (I_71 mo 21).toInt = 3 := by rw [eI_71, gup2_s]; exact iI_val ⟨by decide, by decide⟩
              have hv : mInv g gh R I_71 AI := by rw [eI_71]; exact mP21 hv hm ⟨by decide, by decide⟩ (by omega)
              have pf : qF mo I I_71 := qF_t pf (by rw [eI_71]; exact qF_p (by decide))
              have u_73_2 : (I_71 mo 2).toInt = (I mo 2).toInt := by rw [pf 2 (by decide) (by decide) (by decide) (by decide) (by decide)]
              have u_73_5 : (I_71 mo 5).toInt = (I mo 5).toInt := by rw [pf 5 (by decide) (by decide) (by decide) (by decide) (by decide)]
              have u_73_14 : (I_71 mo 14).toInt = (I mo 14).toInt := by rw [pf 14 (by decide) (by decide) (by decide) (by decide) (by decide)]
              have u_73_16 : (I_71 mo 16).toInt = (I mo 16).toInt := by rw [pf 16 (by decide) (by decide) (by decide) (by decide) (by decide)]
              have u_73_18 : (I_71 mo 18).toInt = (I mo 18).toInt := by rw [pf 18 (by decide) (by decide) (by decide) (by decide) (by decide)]
              have w_72_k19 : (I_71 mo 19).toInt = (I_53 mo 19).toInt := by rw [eI_71, gup2_k _ _ (by decide)]
              have w_72_k20 : (I_71 mo 20).toInt = (I_53 mo 20).toInt := by rw [eI_71, gup2_k _ _ (by decide)]
              have w_72_k23 : (I_71 mo 23).toInt = (I_53 mo 23).toInt := by rw [eI_71, gup2_k _ _ (by decide)]
              have w_72_k24 : (I_71 mo 24).toInt = (I_53 mo 24).toInt := by rw [eI_71, gup2_k _ _ (by decide)]
              exact cut_159_56 I_71 H locs ls hv pf (by omega) (by omega) (by unfold rTk; omega) hH hS (lv_sub hl [0, 1, 2, 3, 4] rfl)
        · refine lv_iload F.1 F.2.1 dX7_runs_132 (lv_at hl 0 rfl) ?_
          refine z_bipush F dX7_runs_134 (by decide) ?_
          refine z_icmp_ge (tgt := 144) F dX7_runs_136 (by decide) ⟨by omega, by omega⟩ ⟨by decide, by decide⟩ (fun c_74 => ?_) (fun c_74 => ?_)
          · refine lv_iload_n F.1 F.2.1 dX7_runs_144 rfl (lv_at hl 2 rfl) ?_
            refine z_if_ne (tgt := 159) F dX7_runs_145 (by decide) zlt (fun c_75 => ?_) (fun c_75 => ?_)
            · exact cut_159_56 I_53 H locs ls hv pf (by omega) (by omega) (by unfold rTk; omega) hH hS (lv_sub hl [0, 1, 2, 3, 4] rfl)
            · refine lv_iload F.1 F.2.1 dX7_runs_148 (lv_at hl 0 rfl) ?_
              refine z_iconst F dX7_runs_150 ?_
              refine z_icmp_ge (tgt := 159) F dX7_runs_151 (by decide) ⟨by omega, by omega⟩ ⟨by decide, by decide⟩ (fun c_76 => ?_) (fun c_76 => ?_)
              · exact cut_159_56 I_53 H locs ls hv pf (by omega) (by omega) (by unfold rTk; omega) hH hS (lv_sub hl [0, 1, 2, 3, 4] rfl)
              · refine lv_aload_n F.1 F.2.1 dX7_runs_154 rfl (lv_at hl 3 rfl) ?_
                refine z_iconst F dX7_runs_155 ?_
                refine g_putI (ci := 7) (k := 21) F hH hS rfl (by decide) iX7 hm (by decide) tyX7 tyX7_ok nmX7 rfl rfl rfl k94 dX7_runs_156 (fun H locs hH hS => ?_)
                obtain ⟨I_77, eI_77⟩ : ∃ qQ, qQ = gup2 I_53 mo 21 (iI (3)) := ⟨_, rfl⟩
                rw [← eI_77] at hH
                have kI_77 : ∀ b, b ≠ mo → I_77 b = I_53 b := fun b hb => by rw [eI_77]; exact funext fun j => gup2_a _ _ hb
                have w_78 : (I_77 mo 21).toInt = 3 := by rw [eI_77, gup2_s]; exact iI_val ⟨by decide, by decide⟩
                have hv : mInv g gh R I_77 AI := by rw [eI_77]; exact mP21 hv hm ⟨by decide, by decide⟩ (by omega)
                have pf : qF mo I I_77 := qF_t pf (by rw [eI_77]; exact qF_p (by decide))
                have u_79_2 : (I_77 mo 2).toInt = (I mo 2).toInt := by rw [pf 2 (by decide) (by decide) (by decide) (by decide) (by decide)]
                have u_79_5 : (I_77 mo 5).toInt = (I mo 5).toInt := by rw [pf 5 (by decide) (by decide) (by decide) (by decide) (by decide)]
                have u_79_14 : (I_77 mo 14).toInt = (I mo 14).toInt := by rw [pf 14 (by decide) (by decide) (by decide) (by decide) (by decide)]
                have u_79_16 : (I_77 mo 16).toInt = (I mo 16).toInt := by rw [pf 16 (by decide) (by decide) (by decide) (by decide) (by decide)]
                have u_79_18 : (I_77 mo 18).toInt = (I mo 18).toInt := by rw [pf 18 (by decide) (by decide) (by decide) (by decide) (by decide)]
                have w_78_k19 : (I_77 mo 19).toInt = (I_53 mo 19).toInt := by rw [eI_77, gup2_k _ _ (by decide)]
                have w_78_k20 : (I_77 mo 20).toInt = (I_53 mo 20).toInt := by rw [eI_77, gup2_k _ _ (by decide)]
                have w_78_k23 : (I_77 mo 23).toInt = (I_53 mo 23).toInt := by rw [eI_77, gup2_k _ _ (by decide)]
                have w_78_k24 : (I_77 mo 24).toInt = (I_53 mo 24).toInt := by rw [eI_77, gup2_k _ _ (by decide)]
                exact cut_159_56 I_77 H locs ls hv pf (by omega) (by omega) (by unfold rTk; omega) hH hS (lv_sub hl [0, 1, 2, 3, 4] rfl)
          · refine lv_aload_n F.1 F.2.1 dX7_runs_139 rfl (lv_at hl 3 rfl) ?_
            refine z_iconst F dX7_runs_140 ?_
            refine g_putI (ci := 7) (k := 21) F hH hS rfl (by decide) iX7 hm (by decide) tyX7 tyX7_ok nmX7 rfl rfl rfl k94 dX7_runs_141 (fun H locs hH hS => ?_)
            obtain ⟨I_80, eI_80⟩ : ∃ qQ, qQ = gup2 I_53 mo 21 (iI (2)) := ⟨_, rfl⟩
            rw [← eI_80] at hH
            have kI_80 : ∀ b, b ≠ mo → I_80 b = I_53 b := fun b hb => by rw [eI_80]; exact funext fun j => gup2_a _ _ hb
            have w_81 : (I_80 mo 21).toInt = 2 := by rw [eI_80, gup2_s]; exact iI_val ⟨by decide, by decide⟩
            have hv : mInv g gh R I_80 AI := by rw [eI_80]; exact mP21 hv hm ⟨by decide, by decide⟩ (by omega)
            have pf : qF mo I I_80 := qF_t pf (by rw [eI_80]; exact qF_p (by decide))
            have u_82_2 : (I_80 mo 2).toInt = (I mo 2).toInt := by rw [pf 2 (by decide) (by decide) (by decide) (by decide) (by decide)]
            have u_82_5 : (I_80 mo 5).toInt = (I mo 5).toInt := by rw [pf 5 (by decide) (by decide) (by decide) (by decide) (by decide)]
            have u_82_14 : (I_80 mo 14).toInt = (I mo 14).toInt := by rw [pf 14 (by decide) (by decide) (by decide) (by decide) (by decide)]
            have u_82_16 : (I_80 mo 16).toInt = (I mo 16).toInt := by rw [pf 16 (by decide) (by decide) (by decide) (by decide) (by decide)]
            have u_82_18 : (I_80 mo 18).toInt = (I mo 18).toInt := by rw [pf 18 (by decide) (by decide) (by decide) (by decide) (by decide)]
            have w_81_k19 : (I_80 mo 19).toInt = (I_53 mo 19).toInt := by rw [eI_80, gup2_k _ _ (by decide)]
            have w_81_k20 : (I_80 mo 20).toInt = (I_53 mo 20).toInt := by rw [eI_80, gup2_k _ _ (by decide)]
            have w_81_k23 : (I_80 mo 23).toInt = (I_53 mo 23).toInt := by rw [eI_80, gup2_k _ _ (by decide)]
            have w_81_k24 : (I_80 mo 24).toInt = (I_53 mo 24).toInt := by rw [eI_80, gup2_k _ _ (by decide)]
            refine lv_iload_n F.1 F.2.1 dX7_runs_144 rfl (lv_at hl 2 rfl) ?_
            refine z_if_ne (tgt := 159) F dX7_runs_145 (by decide) zlt (fun c_83 => ?_) (fun c_83 => ?_)
            · exact cut_159_56 I_80 H locs ls hv pf (by omega) (by omega) (by unfold rTk; omega) hH hS (lv_sub hl [0, 1, 2, 3, 4] rfl)
            · refine lv_iload F.1 F.2.1 dX7_runs_148 (lv_at hl 0 rfl) ?_
              refine z_iconst F dX7_runs_150 ?_
              refine z_icmp_ge (tgt := 159) F dX7_runs_151 (by decide) ⟨by omega, by omega⟩ ⟨by decide, by decide⟩ (fun c_84 => ?_) (fun c_84 => ?_)
              · exact cut_159_56 I_80 H locs ls hv pf (by omega) (by omega) (by unfold rTk; omega) hH hS (lv_sub hl [0, 1, 2, 3, 4] rfl)
              · refine lv_aload_n F.1 F.2.1 dX7_runs_154 rfl (lv_at hl 3 rfl) ?_
                refine z_iconst F dX7_runs_155 ?_
                refine g_putI (ci := 7) (k := 21) F hH hS rfl (by decide) iX7 hm (by decide) tyX7 tyX7_ok nmX7 rfl rfl rfl k94 dX7_runs_156 (fun H locs hH hS => ?_)
                obtain ⟨I_85, eI_85⟩ : ∃ qQ, qQ = gup2 I_80 mo 21 (iI (3)) := ⟨_, rfl⟩
                rw [← eI_85] at hH
                have kI_85 : ∀ b, b ≠ mo → I_85 b = I_80 b := fun b hb => by rw [eI_85]; exact funext fun j => gup2_a _ _ hb
                have w_86 : (I_85 mo 21).toInt = 3 := by rw [eI_85, gup2_s]; exact iI_val ⟨by decide, by decide⟩
                have hv : mInv g gh R I_85 AI := by rw [eI_85]; exact mP21 hv hm ⟨by decide, by decide⟩ (by omega)
                have pf : qF mo I I_85 := qF_t pf (by rw [eI_85]; exact qF_p (by decide))
                have u_87_2 : (I_85 mo 2).toInt = (I mo 2).toInt := by rw [pf 2 (by decide) (by decide) (by decide) (by decide) (by decide)]
                have u_87_5 : (I_85 mo 5).toInt = (I mo 5).toInt := by rw [pf 5 (by decide) (by decide) (by decide) (by decide) (by decide)]
                have u_87_14 : (I_85 mo 14).toInt = (I mo 14).toInt := by rw [pf 14 (by decide) (by decide) (by decide) (by decide) (by decide)]
                have u_87_16 : (I_85 mo 16).toInt = (I mo 16).toInt := by rw [pf 16 (by decide) (by decide) (by decide) (by decide) (by decide)]
                have u_87_18 : (I_85 mo 18).toInt = (I mo 18).toInt := by rw [pf 18 (by decide) (by decide) (by decide) (by decide) (by decide)]
                have w_86_k19 : (I_85 mo 19).toInt = (I_80 mo 19).toInt := by rw [eI_85, gup2_k _ _ (by decide)]
                have w_86_k20 : (I_85 mo 20).toInt = (I_80 mo 20).toInt := by rw [eI_85, gup2_k _ _ (by decide)]
                have w_86_k23 : (I_85 mo 23).toInt = (I_80 mo 23).toInt := by rw [eI_85, gup2_k _ _ (by decide)]
                have w_86_k24 : (I_85 mo 24).toInt = (I_80 mo 24).toInt := by rw [eI_85, gup2_k _ _ (by decide)]
                exact cut_159_56 I_85 H locs ls hv pf (by omega) (by omega) (by unfold rTk; omega) hH hS (lv_sub hl [0, 1, 2, 3, 4] rfl)
      refine lv_aload_n F.1 F.2.1 dX7_runs_14 rfl (lv_at hl 2 rfl) ?_
      refine lv_iload_n F.1 F.2.1 dX7_runs_15 rfl (lv_at hl 0 rfl) ?_
      have b_88 := mJ hv hm
      unfold mNum1 at b_88
      refine g_calli (g_runV (As := [.int (iI e1)]) (rest := []) (ci := 7) F hl.1 hH hS hz (c_X7_byteAtf l g gh T b n I_6 R J_7 AI AJ AR mo e1 ze1 hv hm hT (by omega) hb hr7 (by omega) (by omega)) (cwV 1 F.2.2.2.2.1 (good_up gT_X7_byteAt) rfl rfl rfl hdX7_byteAt ⟨Nat.le_of_ble_eq_true rfl, Nat.le_of_ble_eq_true rfl⟩) hm (by decide) rfl rfl rfl (Nat.le_of_ble_eq_true rfl) dX7_runs_16 ⟨Nat.zero_le _, Nat.zero_le _⟩) hS (fun v_95 I_89 R_90 J_91 AI_92 AJ_93 AR_94 H locs zv_95 hp_96 hH hS => ?_)
      dsimp only at hp_96
      obtain ⟨rfl, rfl, rfl, rfl, rfl, rfl, q16⟩ := hp_96
      refine g_calli (g_runS (As := [.int (iI v_95)]) (rest := []) F hl.1 hH hS hz (c_X7_isSmallf l g  I_6 R J_7 AI AJ AR v_95 zv_95) (va_cwS 1 F.2.2.2.2.1 (good_up gT_X7_isSmall) rfl rfl rfl hdX7_isSmall.2 ⟨Nat.le_of_ble_eq_true rfl, Nat.le_of_ble_eq_true rfl⟩) rfl rfl (Nat.le_of_ble_eq_true rfl) dX7_runs_19 ⟨Nat.zero_le _, Nat.zero_le _⟩) hS (fun v_103 I_97 R_98 J_99 AI_100 AJ_101 AR_102 H locs zv_103 hp_104 hH hS => ?_)
      dsimp only at hp_104
      obtain ⟨rfl, rfl, rfl, rfl, rfl, rfl, q19⟩ := hp_104
      refine z_if_ne (tgt := 36) F dX7_runs_22 (by decide) zv_103 (fun c_105 => ?_) (fun c_105 => ?_)
      · exact cut_36_8 H locs ls (by first | exact tBa_run q16 (hr7 _) (Or.inl (tIz_1 q19 (by omega))) | exact tBa_run q27 (hr7 _) (Or.inr (tIz_1 q30 (by omega)))) hH hS (lv_sub hl [0, 1, 2, 3] rfl)
      · refine lv_aload_n F.1 F.2.1 dX7_runs_25 rfl (lv_at hl 2 rfl) ?_
        refine lv_iload_n F.1 F.2.1 dX7_runs_26 rfl (lv_at hl 0 rfl) ?_
        refine g_calli (g_runV (As := [.int (iI e1)]) (rest := []) (ci := 7) F hl.1 hH hS hz (c_X7_byteAtf l g gh T b n I_6 R J_7 AI AJ AR mo e1 ze1 hv hm hT (by omega) hb hr7 (by omega) (by omega)) (cwV 1 F.2.2.2.2.1 (good_up gT_X7_byteAt) rfl rfl rfl hdX7_byteAt ⟨Nat.le_of_ble_eq_true rfl, Nat.le_of_ble_eq_true rfl⟩) hm (by decide) rfl rfl rfl (Nat.le_of_ble_eq_true rfl) dX7_runs_27 ⟨Nat.zero_le _, Nat.zero_le _⟩) hS (fun v_112 I_106 R_107 J_108 AI_109 AJ_110 AR_111 H locs zv_112 hp_113 hH hS => ?_)
        dsimp only at hp_113
        obtain ⟨rfl, rfl, rfl, rfl, rfl, rfl, q27⟩ := hp_113
        refine g_calli (g_runS (As := [.int (iI v_112)]) (rest := []) F hl.1 hH hS hz (c_X7_isDigitf l g  I_6 R J_7 AI AJ AR v_112 zv_112) (va_cwS 1 F.2.2.2.2.1 (good_up gT_X7_isDigit) rfl rfl rfl hdX7_isDigit.2 ⟨Nat.le_of_ble_eq_true rfl, Nat.le_of_ble_eq_true rfl⟩) rfl rfl (Nat.le_of_ble_eq_true rfl) dX7_runs_30 ⟨Nat.zero_le _, Nat.zero_le _⟩) hS (fun v_120 I_114 R_115 J_116 AI_117 AJ_118 AR_119 H locs zv_120 hp_121 hH hS => ?_)
        dsimp only at hp_121
        obtain ⟨rfl, rfl, rfl, rfl, rfl, rfl, q30⟩ := hp_121
        refine z_if_eq (tgt := 116) F dX7_runs_33 (by decide) zv_120 (fun c_122 => ?_) (fun c_122 => ?_)
        · exact cut_116_51 H locs ls (tRn_M hrun (by omega) (by omega) (tBa_no q16 (hr7 _) (tIz_0 q19 (by omega)) (by rw [q16, ← q27]; exact tIz_0 q30 (by omega)))) (rg_1 hkn hkr hrun q16 q27 (hr7 _) (tIz_0 q19 (by omega)) (tIz_0 q30 (by omega)) (by omega)) hH hS (lv_sub hl [0, 1, 2, 3] rfl)
        · exact cut_36_8 H locs ls (by first | exact tBa_run q16 (hr7 _) (Or.inl (tIz_1 q19 (by omega))) | exact tBa_run q27 (hr7 _) (Or.inr (tIz_1 q30 (by omega)))) hH hS (lv_sub hl [0, 1, 2, 3] rfl)
  exact cut_14_7 (((936 - kp) + 1 : Int).toNat) 0 kp I_3 J_2 H locs ls ⟨by decide, by decide⟩ zkp hv pf (by omega) (by first | exact (fun j h1 h2 => absurd h2 (by omega)) | exact rx_1 hrun h36.2 (by omega)) (by first | exact hl3 | exact rl_0 (by omega) (by omega)) (by first | exact hnq2 | (rw [show (kp - kp).toNat = 0 by omega]; show _ = (0 : Int); omega)) (by first | exact hw2 | (rw [show (kp - kp).toNat = 0 by omega]; exact hw0)) (by omega) (by omega) hH hS (lv_sub hl [0, 1, 2, 3] rfl)
end
