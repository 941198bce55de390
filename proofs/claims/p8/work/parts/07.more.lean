theorem iI_nI {x : Int} (h : 0 ≤ x) : iI x = nI x.toNat := by
  obtain ⟨a, rfl⟩ := Int.eq_ofNat_of_zero_le h
  exact Int32.ofInt_eq_ofNat
section GMore
variable {g : gG} {I : gI} {R : gR} {J : gJ} {AI : gI} {AJ : gJ} {AR : gR}
variable {p : Program} {l : Launch} {e : Env} {Rm : Room} {s : State} {m : MethodId} {args : Array Value} {below : List Frame} {meth : Method} {c : Code} {H : Heap} {locs : List Loc} {cells slots : Nat} {Q : State → Prop}
variable {cc : ByteArray} {pc nL : Nat} {ls : Array Slot} {rest : List Value} {a : Nat} {H0 : Heap} {Ts : List Cond} {own : String}
theorem z_iushr1 (F : gFix g p c cc nL s args Ts own m) {x : Int} (h0 : 0 ≤ x) (h1 : x ≤ 2147483647) (hdg : decode cc pc = .ok (.iushr, 1)) (k : W p l e Rm s m args below meth c H locs cells slots Q (F0 m (pc + 1) ls (.int (iI (x / 2)) :: rest))) : W p l e Rm s m args below meth c H locs cells slots Q (F0 m pc ls (.int (iI 1) :: .int (iI x) :: rest)) := by
  refine lv_iushr (v := iI (x / 2)) F.1 F.2.1 hdg ?_ k
  obtain ⟨n, rfl⟩ := Int.eq_ofNat_of_zero_le h0
  rw [iI_nI h0, iI_nI (x := (n : Int) / 2) (by omega)]
  have h := pk_ushrN (n := n) (by omega) (iI 1) 1 (by decide)
  have e1 : ((n : Int)).toNat = n := by omega
  have e2 : ((n : Int) / 2).toNat = n / 2 ^ 1 := by omega
  rw [e1, e2]
  exact h
theorem z_idiv (F : gFix g p c cc nL s args Ts own m) {x y : Int} (h0 : 0 ≤ x) (h1 : x ≤ 2147483647) (h2 : 0 < y) (h3 : y ≤ 2147483647) (hdg : decode cc pc = .ok (.idiv, 1)) (k : W p l e Rm s m args below meth c H locs cells slots Q (F0 m (pc + 1) ls (.int (iI (x / y)) :: rest))) : W p l e Rm s m args below meth c H locs cells slots Q (F0 m pc ls (.int (iI y) :: .int (iI x) :: rest)) := by
  refine lv_idiv F.1 F.2.1 hdg (fun q => ?_) ?_
  · have := (iI_eq (a := y) (b := 0) ⟨by omega, h3⟩ zr_0).mp q
    omega
  · obtain ⟨n, rfl⟩ := Int.eq_ofNat_of_zero_le h0
    obtain ⟨d, rfl⟩ := Int.eq_ofNat_of_zero_le (Int.le_of_lt h2)
    have e1 : iI (n : Int) = nI n := Int32.ofInt_eq_ofNat
    have e2 : iI (d : Int) = nI d := Int32.ofInt_eq_ofNat
    have e3 : iI ((n : Int) / (d : Int)) = nI (n / d) := by rw [← Int.natCast_ediv]; exact Int32.ofInt_eq_ofNat
    rw [e1, e2, pk_div (by omega) (by omega) (by omega), ← e3]
    exact k
theorem z_irem (F : gFix g p c cc nL s args Ts own m) {x y : Int} (h0 : 0 ≤ x) (h1 : x ≤ 2147483647) (h2 : 0 < y) (h3 : y ≤ 2147483647) (hdg : decode cc pc = .ok (.irem, 1)) (k : W p l e Rm s m args below meth c H locs cells slots Q (F0 m (pc + 1) ls (.int (iI (x % y)) :: rest))) : W p l e Rm s m args below meth c H locs cells slots Q (F0 m pc ls (.int (iI y) :: .int (iI x) :: rest)) := by
  refine lv_irem F.1 F.2.1 hdg (fun q => ?_) ?_
  · have := (iI_eq (a := y) (b := 0) ⟨by omega, h3⟩ zr_0).mp q
    omega
  · obtain ⟨n, rfl⟩ := Int.eq_ofNat_of_zero_le h0
    obtain ⟨d, rfl⟩ := Int.eq_ofNat_of_zero_le (Int.le_of_lt h2)
    have e1 : iI (n : Int) = nI n := Int32.ofInt_eq_ofNat
    have e2 : iI (d : Int) = nI d := Int32.ofInt_eq_ofNat
    have e3 : iI ((n : Int) % (d : Int)) = nI (n % d) := by rw [← Int.natCast_emod]; exact Int32.ofInt_eq_ofNat
    rw [e1, e2, pk_rem (by omega) (by omega) (by omega), ← e3]
    exact k
theorem g_copyi (F : gFix g p c cc nL s args Ts own m) (hls : ls.size = nL) (hH : gH g I R J AI AJ AR H) (hS : va_S (gA g) H0 H locs) {a0 n0 n1 index : Nat} (hs : gAr g a0 9 n0) (hd : gAr g a 9 n1)
    (m1 : Cond.methodLink own index arraycopyName ∈ Ts) (m2 : Cond.native arraycopyName ∈ Ts) (m3 : Cond.static arraycopyName ∈ Ts) (m4 : Cond.initialized "java/lang/System" ∈ Ts)
    {sp dp n : Int} (hx : 0 ≤ sp ∧ 0 ≤ dp ∧ 0 ≤ n ∧ sp + n ≤ (n0 : Int) ∧ dp + n ≤ (n1 : Int) ∧ sp ≤ 2147483647 ∧ dp ≤ 2147483647 ∧ n ≤ 2147483647)
    (hfr : 1 ≤ Rm.frames) (hlo : (rest.map fun v => v.category).sum + (nativeFrameWords "java/lang/System" "arraycopy" 5 + 11) ≤ Rm.locals) (hdg : decode cc pc = .ok (.invokestatic index, 3))
    (kk : ∀ (H1 : Heap) (locs1 : List Loc), gH g I R J (gup1 AI a (va_cpy (AI a0) (AI a) sp.toNat dp.toNat n.toNat)) AJ AR H1 → va_S (gA g) H0 H1 locs1 → W p l e Rm s m args below meth c H1 locs1 cells slots Q (F0 m (pc + 3) ls rest)) : W p l e Rm s m args below meth c H locs cells slots Q (F0 m pc ls (.int (iI n) :: .int (iI dp) :: .ref a :: .int (iI sp) :: .ref a0 :: rest)) := by
  obtain ⟨h1, h2, h3, h4, h5, h6, h7, h8⟩ := hx
  obtain ⟨hx, hb0, hml, hown, hts, hK, -⟩ := F
  obtain ⟨q0, hq0⟩ := g_at (I := I) (R := R) (J := J) (AI := AI) (AJ := AJ) (AR := AR) hs.1
  obtain ⟨q1, hq1⟩ := g_at (I := I) (R := R) (J := J) (AI := AI) (AJ := AJ) (AR := AR) hd.1
  have hset := g_set (f' := gE g I R J (gup1 AI a (va_cpy (AI a0) (AI a) sp.toNat dp.toNat n.toNat)) AJ AR) (e := .inl (gY g 9, n1, .inl (va_cpy (AI a0) (AI a) sp.toNat dp.toNat n.toNat))) hH.2 hd.1 hq1
    (by rw [gE_arr hd.2.1 hd.2.2 (by decide), gup1_s]; rfl)
    (fun b hb => by
      unfold gE
      rw [gup1_a _ _ hb])
  rw [gE_arr hs.2.1 hs.2.2 (by decide)] at hq0
  rw [gE_arr hd.2.1 hd.2.2 (by decide)] at hq1
  have neg : ∀ z : Int, 0 ≤ z → z ≤ 2147483647 → ¬ iI z < 0 := fun z h h' q => by
    have := (iI_lt (a := z) (b := 0) ⟨by omega, h'⟩ zr_0).mp q
    omega
  refine va_copyi hx hb0 (hml.trans hls.symm) hown (hts _ m1) (hts _ m2) (hts _ m3) (hts _ m4) hK hH.1 hH.2 hS q0 q1 1 1 (ty := .int) (hq0.trans rfl) (hq1.trans rfl) rfl rfl rfl (neg sp h1 h6) (neg dp h2 h7) (neg n h3 h8) ?_ ?_ (fun _ _ => rfl) hfr hlo hdg (fun H1 locs1 g1 g2 g3 => kk H1 locs1 ⟨?_, ?_⟩ g3)
  · rw [iI_nat h1 h6, iI_nat h3 h8]; omega
  · rw [iI_nat h2 h7, iI_nat h3 h8]; omega
  · rw [← hset]; rw [iI_nat h1 h6, iI_nat h2 h7, iI_nat h3 h8] at g1; exact g1
  · rw [← hset]; rw [iI_nat h1 h6, iI_nat h2 h7, iI_nat h3 h8] at g2; exact g2
end GMore
