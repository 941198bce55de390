/-! a byte of a long: the class's and the reference's are one, but for the sign -/
theorem by_u : ∀ n : Nat, n < 57 → (((iI (n : Int)).toInt64.toUInt64 &&& Int64.toUInt64 63).toBitVec % 64).toNat = n := by decide +kernel
theorem by_s : ∀ n : Nat, n < 57 → (((iI (n : Int)).toInt64 &&& 63).toBitVec.smod 64).toNat = n := by decide +kernel
theorem by_ub (v : Int64) {n i : Nat} (hn : n < 57) (hi : i < 8) : ((v.toUInt64 >>> ((iI (n : Int)).toInt64.toUInt64 &&& Int64.toUInt64 63)).toInt64.toInt32).toBitVec.getLsbD i = v.toBitVec.getLsbD (n + i) := by
  rw [Int64.toBitVec_toInt32, BitVec.getLsbD_signExtend, if_pos (by omega)]
  show (decide (i < 32) && (v.toUInt64 >>> ((iI (n : Int)).toInt64.toUInt64 &&& Int64.toUInt64 63)).toBitVec.getLsbD i) = v.toUInt64.toBitVec.getLsbD (n + i)
  rw [UInt64.toBitVec_shiftRight]
  show (decide (i < 32) && (v.toUInt64.toBitVec >>> (((iI (n : Int)).toInt64.toUInt64 &&& Int64.toUInt64 63).toBitVec % 64).toNat).getLsbD i) = _
  rw [by_u n hn, BitVec.getLsbD_ushiftRight, decide_eq_true (by omega : i < 32), Bool.true_and]
theorem by_sb (v : Int64) {n i : Nat} (hn : n < 57) (hi : i < 8) : ((v >>> ((iI (n : Int)).toInt64 &&& 63)).toInt32).toBitVec.getLsbD i = v.toBitVec.getLsbD (n + i) := by
  rw [Int64.toBitVec_toInt32, BitVec.getLsbD_signExtend, if_pos (by omega), Int64.toBitVec_shiftRight]
  show (decide (i < 32) && (v.toBitVec.sshiftRight (((iI (n : Int)).toInt64 &&& 63).toBitVec.smod 64).toNat).getLsbD i) = _
  rw [by_s n hn, BitVec.getLsbD_sshiftRight, decide_eq_true (by omega : i < 32), Bool.true_and, if_pos (by omega), decide_eq_false (by omega : ¬ 64 ≤ i)]
  rfl
theorem by_m : ∀ i < 32, 8 ≤ i → (255 : Int32).toBitVec.getLsbD i = false := by decide
theorem by_b (x : Int32) : x.toInt8.toInt32 &&& 255 = x &&& 255 := by
  apply Int32.toBitVec_inj.mp
  rw [Int32.toBitVec_and, Int32.toBitVec_and, Int8.toBitVec_toInt32, Int32.toBitVec_toInt8]
  apply BitVec.eq_of_getLsbD_eq
  intro i hi
  rw [BitVec.getLsbD_and, BitVec.getLsbD_and]
  rcases Nat.lt_or_ge i 8 with z | z
  · rw [BitVec.getLsbD_signExtend, BitVec.getLsbD_signExtend, if_pos z, if_pos hi]
    simp only [z, hi, decide_true, Bool.true_and]
  · rw [by_m i hi z]; simp
theorem by_c (v : Int64) (sh : Int) : cBs v sh = ((((v.toUInt64 >>> ((iI sh).toInt64.toUInt64 &&& Int64.toUInt64 63)).toInt64.toInt32).toInt8.toInt32).toInt8.toInt32) := by
  unfold cBs
  rw [iI_self, iI_self]
  rfl
theorem by_eq (v : Int64) {n : Nat} (hn : n < 57) : cBs v (n : Int) &&& 255 = mBs v (n : Int) := by
  rw [by_c, by_b, by_b]
  unfold mBs
  rw [iI_self, iI_self, show iI 255 = 255 from rfl]
  apply Int32.toBitVec_inj.mp
  rw [Int32.toBitVec_and, Int32.toBitVec_and]
  apply BitVec.eq_of_getLsbD_eq
  intro i hi
  rw [BitVec.getLsbD_and, BitVec.getLsbD_and]
  rcases Nat.lt_or_ge i 8 with z | z
  · rw [by_ub v hn z, by_sb v hn z]
  · rw [by_m i hi z]; simp
theorem by_r (v : Int64) (sh : Int) : -128 ≤ (cBs v sh).toInt ∧ (cBs v sh).toInt ≤ 127 := by
  rw [by_c, Int8.toInt_toInt32]
  have a := Int8.le_toInt (((v.toUInt64 >>> ((iI sh).toInt64.toUInt64 &&& Int64.toUInt64 63)).toInt64.toInt32).toInt8.toInt32).toInt8
  have b := Int8.toInt_lt (((v.toUInt64 >>> ((iI sh).toInt64.toUInt64 &&& Int64.toUInt64 63)).toInt64.toInt32).toInt8.toInt32).toInt8
  omega
/-- the reference's number of a byte -/
theorem by_n (x : Int32) (h : -128 ≤ x.toInt ∧ x.toInt ≤ 127) : (x &&& 255).toInt = x.toInt % 256 := by
  have q : ∀ k : Nat, k < 256 → (iI ((k : Int) - 128) &&& 255).toInt = ((k : Int) - 128) % 256 := by decide +kernel
  have e := q (x.toInt + 128).toNat (by omega)
  rw [show (((x.toInt + 128).toNat : Nat) : Int) - 128 = x.toInt by omega, iI_self] at e
  exact e
