theorem sTab_all : ∀ q ∈ sTab, q.2.2.2.length ≤ 200 := by decide +kernel
theorem sTab_len {i : Nat} {q : String × Nat × String × List Int32} (h : sTab[i]? = some q) : q.2.2.2.length ≤ 200 := sTab_all q (List.mem_of_getElem? h)
theorem nar_byte {z : Int} (h0 : -128 ≤ z) (h1 : z ≤ 127) : narrow .byte (.int (iI z)) = .int (iI z) := by
  have h : (iI z).toInt8.toInt32 = iI z := lg_i2b_small (by rw [iI_val ⟨by omega, by omega⟩]; omega) (by rw [iI_val ⟨by omega, by omega⟩]; omega)
  have h2 := pk_nb (iI z)
  rwa [h] at h2
theorem nar_char {z : Int} (h0 : 0 ≤ z) (h1 : z ≤ 65535) : narrow .char (.int (iI z)) = .int (iI z) := by
  rw [iI_nI h0]
  exact (pk_charN (q := z.toNat) (by omega)).1
theorem z_i2c {x : Int32} {v : Int} (e : v = ((x.toUInt32 % 65536).toInt32).toInt) : 0 ≤ v ∧ v ≤ 65535 := by
  rw [pk_char] at e
  rw [nI_toInt (by omega)] at e
  omega
section GStr
variable {g : gG} {p : Program} {l : Launch} {e : Env} {Rm : Room} {s : State} {m : MethodId} {args : Array Value} {below : List Frame} {meth : Method} {c : Code} {H : Heap} {locs : List Loc} {cells slots : Nat} {Q : State → Prop}
variable {cc : ByteArray} {pc nL : Nat} {ls : Array Slot} {rest : List Value} {Ts : List Cond} {own : String}
theorem z_ishr0 (F : gFix g p c cc nL s args Ts own m) {x : Int} (hdg : decode cc pc = .ok (.ishr, 1)) (k : W p l e Rm s m args below meth c H locs cells slots Q (F0 m (pc + 1) ls (.int (iI x) :: rest))) : W p l e Rm s m args below meth c H locs cells slots Q (F0 m pc ls (.int (iI 0) :: .int (iI x) :: rest)) := by
  refine lv_ishr F.1 F.2.1 hdg ?_
  have h := sb_shr0 (iI x)
  first
    | (rw [show (iI x) >>> ((iI 0) &&& 31) = iI x from h]; exact k)
    | (rw [show (iI x) >>> (iI 0) = iI x from by rw [iI_0]; simp]; exact k)
end GStr
