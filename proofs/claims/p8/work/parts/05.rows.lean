section GRows2
variable {g : gG} {I : gI} {R : gR} {J : gJ} {AI : gI} {AJ : gJ} {AR : gR}
variable {p : Program} {l : Launch} {e : Env} {Rm : Room} {s : State} {m : MethodId} {args : Array Value} {below : List Frame} {meth : Method} {c : Code} {H : Heap} {locs : List Loc} {cells slots : Nat} {Q : State → Prop}
variable {cc : ByteArray} {pc nL : Nat} {ls : Array Slot} {rest : List Value} {a : Nat} {H0 : Heap} {Ts : List Cond} {own : String}
theorem z_icmp_eq (F : gFix g p c cc nL s args Ts own m) {x y : Int} {off : Int} {tgt : Nat} (hdg : decode cc pc = .ok (.if_icmp .eq off, 3)) (ht : (pc : Int) + off = (tgt : Int)) (hx : zr x) (hy : zr y)
    (kt : x = y → W p l e Rm s m args below meth c H locs cells slots Q (F0 m tgt ls rest)) (kf : ¬ x = y → W p l e Rm s m args below meth c H locs cells slots Q (F0 m (pc + 3) ls rest)) : W p l e Rm s m args below meth c H locs cells slots Q (F0 m pc ls (.int (iI y) :: .int (iI x) :: rest)) :=
  lv_icmp_eq F.1 F.2.1 hdg ht (fun h => kt ((iI_eq hx hy).mp h)) (fun h => kf (fun q => h ((iI_eq hx hy).mpr q)))
theorem z_if_eq (F : gFix g p c cc nL s args Ts own m) {x : Int} {off : Int} {tgt : Nat} (hdg : decode cc pc = .ok (.ifCond .eq off, 3)) (ht : (pc : Int) + off = (tgt : Int)) (hx : zr x)
    (kt : x = 0 → W p l e Rm s m args below meth c H locs cells slots Q (F0 m tgt ls rest)) (kf : ¬ x = 0 → W p l e Rm s m args below meth c H locs cells slots Q (F0 m (pc + 3) ls rest)) : W p l e Rm s m args below meth c H locs cells slots Q (F0 m pc ls (.int (iI x) :: rest)) :=
  lv_if_eq F.1 F.2.1 hdg ht (fun h => kt ((iI_eq hx zr_0).mp h)) (fun h => kf (fun q => h ((iI_eq hx zr_0).mpr q)))
theorem z_icmp_ne (F : gFix g p c cc nL s args Ts own m) {x y : Int} {off : Int} {tgt : Nat} (hdg : decode cc pc = .ok (.if_icmp .ne off, 3)) (ht : (pc : Int) + off = (tgt : Int)) (hx : zr x) (hy : zr y)
    (kt : ¬ x = y → W p l e Rm s m args below meth c H locs cells slots Q (F0 m tgt ls rest)) (kf : x = y → W p l e Rm s m args below meth c H locs cells slots Q (F0 m (pc + 3) ls rest)) : W p l e Rm s m args below meth c H locs cells slots Q (F0 m pc ls (.int (iI y) :: .int (iI x) :: rest)) :=
  lv_icmp_ne F.1 F.2.1 hdg ht (fun h => kt (fun q => h ((iI_eq hx hy).mpr q))) (fun h => kf ((iI_eq hx hy).mp h))
theorem z_if_ne (F : gFix g p c cc nL s args Ts own m) {x : Int} {off : Int} {tgt : Nat} (hdg : decode cc pc = .ok (.ifCond .ne off, 3)) (ht : (pc : Int) + off = (tgt : Int)) (hx : zr x)
    (kt : ¬ x = 0 → W p l e Rm s m args below meth c H locs cells slots Q (F0 m tgt ls rest)) (kf : x = 0 → W p l e Rm s m args below meth c H locs cells slots Q (F0 m (pc + 3) ls rest)) : W p l e Rm s m args below meth c H locs cells slots Q (F0 m pc ls (.int (iI x) :: rest)) :=
  lv_if_ne F.1 F.2.1 hdg ht (fun h => kt (fun q => h ((iI_eq hx zr_0).mpr q))) (fun h => kf ((iI_eq hx zr_0).mp h))
theorem z_icmp_lt (F : gFix g p c cc nL s args Ts own m) {x y : Int} {off : Int} {tgt : Nat} (hdg : decode cc pc = .ok (.if_icmp .lt off, 3)) (ht : (pc : Int) + off = (tgt : Int)) (hx : zr x) (hy : zr y)
    (kt : x < y → W p l e Rm s m args below meth c H locs cells slots Q (F0 m tgt ls rest)) (kf : ¬ x < y → W p l e Rm s m args below meth c H locs cells slots Q (F0 m (pc + 3) ls rest)) : W p l e Rm s m args below meth c H locs cells slots Q (F0 m pc ls (.int (iI y) :: .int (iI x) :: rest)) :=
  lv_icmp_lt F.1 F.2.1 hdg ht (fun h => kt ((iI_lt hx hy).mp h)) (fun h => kf (fun q => h ((iI_lt hx hy).mpr q)))
theorem z_if_lt (F : gFix g p c cc nL s args Ts own m) {x : Int} {off : Int} {tgt : Nat} (hdg : decode cc pc = .ok (.ifCond .lt off, 3)) (ht : (pc : Int) + off = (tgt : Int)) (hx : zr x)
    (kt : x < 0 → W p l e Rm s m args below meth c H locs cells slots Q (F0 m tgt ls rest)) (kf : ¬ x < 0 → W p l e Rm s m args below meth c H locs cells slots Q (F0 m (pc + 3) ls rest)) : W p l e Rm s m args below meth c H locs cells slots Q (F0 m pc ls (.int (iI x) :: rest)) :=
  lv_if_lt F.1 F.2.1 hdg ht (fun h => kt ((iI_lt hx zr_0).mp h)) (fun h => kf (fun q => h ((iI_lt hx zr_0).mpr q)))
theorem z_icmp_ge (F : gFix g p c cc nL s args Ts own m) {x y : Int} {off : Int} {tgt : Nat} (hdg : decode cc pc = .ok (.if_icmp .ge off, 3)) (ht : (pc : Int) + off = (tgt : Int)) (hx : zr x) (hy : zr y)
    (kt : y ≤ x → W p l e Rm s m args below meth c H locs cells slots Q (F0 m tgt ls rest)) (kf : ¬ y ≤ x → W p l e Rm s m args below meth c H locs cells slots Q (F0 m (pc + 3) ls rest)) : W p l e Rm s m args below meth c H locs cells slots Q (F0 m pc ls (.int (iI y) :: .int (iI x) :: rest)) :=
  lv_icmp_ge F.1 F.2.1 hdg ht (fun h => kt ((iI_le hy hx).mp h)) (fun h => kf (fun q => h ((iI_le hy hx).mpr q)))
theorem z_if_ge (F : gFix g p c cc nL s args Ts own m) {x : Int} {off : Int} {tgt : Nat} (hdg : decode cc pc = .ok (.ifCond .ge off, 3)) (ht : (pc : Int) + off = (tgt : Int)) (hx : zr x)
    (kt : 0 ≤ x → W p l e Rm s m args below meth c H locs cells slots Q (F0 m tgt ls rest)) (kf : ¬ 0 ≤ x → W p l e Rm s m args below meth c H locs cells slots Q (F0 m (pc + 3) ls rest)) : W p l e Rm s m args below meth c H locs cells slots Q (F0 m pc ls (.int (iI x) :: rest)) :=
  lv_if_ge F.1 F.2.1 hdg ht (fun h => kt ((iI_le zr_0 hx).mp h)) (fun h => kf (fun q => h ((iI_le zr_0 hx).mpr q)))
theorem z_icmp_gt (F : gFix g p c cc nL s args Ts own m) {x y : Int} {off : Int} {tgt : Nat} (hdg : decode cc pc = .ok (.if_icmp .gt off, 3)) (ht : (pc : Int) + off = (tgt : Int)) (hx : zr x) (hy : zr y)
    (kt : y < x → W p l e Rm s m args below meth c H locs cells slots Q (F0 m tgt ls rest)) (kf : ¬ y < x → W p l e Rm s m args below meth c H locs cells slots Q (F0 m (pc + 3) ls rest)) : W p l e Rm s m args below meth c H locs cells slots Q (F0 m pc ls (.int (iI y) :: .int (iI x) :: rest)) :=
  lv_icmp_gt F.1 F.2.1 hdg ht (fun h => kt ((iI_lt hy hx).mp h)) (fun h => kf (fun q => h ((iI_lt hy hx).mpr q)))
theorem z_if_gt (F : gFix g p c cc nL s args Ts own m) {x : Int} {off : Int} {tgt : Nat} (hdg : decode cc pc = .ok (.ifCond .gt off, 3)) (ht : (pc : Int) + off = (tgt : Int)) (hx : zr x)
    (kt : 0 < x → W p l e Rm s m args below meth c H locs cells slots Q (F0 m tgt ls rest)) (kf : ¬ 0 < x → W p l e Rm s m args below meth c H locs cells slots Q (F0 m (pc + 3) ls rest)) : W p l e Rm s m args below meth c H locs cells slots Q (F0 m pc ls (.int (iI x) :: rest)) :=
  lv_if_gt F.1 F.2.1 hdg ht (fun h => kt ((iI_lt zr_0 hx).mp h)) (fun h => kf (fun q => h ((iI_lt zr_0 hx).mpr q)))
theorem z_icmp_le (F : gFix g p c cc nL s args Ts own m) {x y : Int} {off : Int} {tgt : Nat} (hdg : decode cc pc = .ok (.if_icmp .le off, 3)) (ht : (pc : Int) + off = (tgt : Int)) (hx : zr x) (hy : zr y)
    (kt : x ≤ y → W p l e Rm s m args below meth c H locs cells slots Q (F0 m tgt ls rest)) (kf : ¬ x ≤ y → W p l e Rm s m args below meth c H locs cells slots Q (F0 m (pc + 3) ls rest)) : W p l e Rm s m args below meth c H locs cells slots Q (F0 m pc ls (.int (iI y) :: .int (iI x) :: rest)) :=
  lv_icmp_le F.1 F.2.1 hdg ht (fun h => kt ((iI_le hx hy).mp h)) (fun h => kf (fun q => h ((iI_le hx hy).mpr q)))
theorem z_if_le (F : gFix g p c cc nL s args Ts own m) {x : Int} {off : Int} {tgt : Nat} (hdg : decode cc pc = .ok (.ifCond .le off, 3)) (ht : (pc : Int) + off = (tgt : Int)) (hx : zr x)
    (kt : x ≤ 0 → W p l e Rm s m args below meth c H locs cells slots Q (F0 m tgt ls rest)) (kf : ¬ x ≤ 0 → W p l e Rm s m args below meth c H locs cells slots Q (F0 m (pc + 3) ls rest)) : W p l e Rm s m args below meth c H locs cells slots Q (F0 m pc ls (.int (iI x) :: rest)) :=
  lv_if_le F.1 F.2.1 hdg ht (fun h => kt ((iI_le hx zr_0).mp h)) (fun h => kf (fun q => h ((iI_le hx zr_0).mpr q)))
theorem z_goto (F : gFix g p c cc nL s args Ts own m) {off : Int} {tgt : Nat} (hdg : decode cc pc = .ok (.goto off, 3)) (ht : (pc : Int) + off = (tgt : Int)) (k : W p l e Rm s m args below meth c H locs cells slots Q (F0 m tgt ls rest)) : W p l e Rm s m args below meth c H locs cells slots Q (F0 m pc ls rest) := lv_goto F.1 F.2.1 hdg ht k
theorem z_iinc (F : gFix g p c cc nL s args Ts own m) {i k : Nat} {n x : Int} {lv lv' : List (Nat × Value)} (hdg : decode cc pc = .ok (.iinc i n, 3)) (h : lv_has ls nL lv) (hk : lv[k]? = some (i, .int (iI x))) (hn : i < nL) (hl : (i, Value.int (iI (x + n))) :: lv.filter (fun q => !(q.1 == i) && !(q.1 + 1 == i && q.2.category == 2)) = lv')
    (kk : ∀ ls' : Array Slot, lv_has ls' nL lv' → W p l e Rm s m args below meth c H locs cells slots Q (F0 m (pc + 3) ls' rest)) : W p l e Rm s m args below meth c H locs cells slots Q (F0 m pc ls rest) :=
  lv_iinc (v := iI (x + n)) F.1 F.2.1 hdg h hk (iI_add x n) hn hl kk
theorem g_getI (F : gFix g p c cc nL s args Ts own m) (hH : gH g I R J AI AJ AR H) {C : String} {T : u_T} {N ci k index : Nat} (hc : vwCl[ci]? = some (C, T, N)) (hc8 : ci < 8) (hin : ∀ w ∈ u_ws C T N, w ∈ Ts) (ha : gO g a ci) (hk : k < N) (hf : (gft ci)[k]? = some 0) (hl : Cond.fieldLink own index (T k).1 (T k).2.1 (T k).2.2.1 ∈ Ts) (hdg : decode cc pc = .ok (.getfield index, 3))
    (kk : W p l e Rm s m args below meth c H locs cells slots Q (F0 m (pc + 3) ls (.int (iI (I a k).toInt) :: rest))) : W p l e Rm s m args below meth c H locs cells slots Q (F0 m pc ls (.ref a :: rest)) := by
  obtain ⟨hx, hb0, -, hown, hts, hK, -⟩ := F
  obtain ⟨q0, hq⟩ := g_at (I := I) (R := R) (J := J) (AI := AI) (AJ := AJ) (AR := AR) ha.1
  rw [gE_obj ha.2 hc8] at hq
  exact va_get hx hb0 hts hin hown hK hH.1 q0 hq hc k hk (hts _ hl) (fun _ h => h) (v := .int (iI (I a k).toInt)) (by rw [gFs_get hf]; show some (Value.int (I a k)) = _; rw [iI_self]) hdg kk
theorem g_getJ (F : gFix g p c cc nL s args Ts own m) (hH : gH g I R J AI AJ AR H) {C : String} {T : u_T} {N ci k index : Nat} (hc : vwCl[ci]? = some (C, T, N)) (hc8 : ci < 8) (hin : ∀ w ∈ u_ws C T N, w ∈ Ts) (ha : gO g a ci) (hk : k < N) (hf : (gft ci)[k]? = some 1) (hl : Cond.fieldLink own index (T k).1 (T k).2.1 (T k).2.2.1 ∈ Ts) (hdg : decode cc pc = .ok (.getfield index, 3))
    (kk : W p l e Rm s m args below meth c H locs cells slots Q (F0 m (pc + 3) ls (.long (J a k) :: rest))) : W p l e Rm s m args below meth c H locs cells slots Q (F0 m pc ls (.ref a :: rest)) := by
  obtain ⟨hx, hb0, -, hown, hts, hK, -⟩ := F
  obtain ⟨q0, hq⟩ := g_at (I := I) (R := R) (J := J) (AI := AI) (AJ := AJ) (AR := AR) ha.1
  rw [gE_obj ha.2 hc8] at hq
  exact va_get hx hb0 hts hin hown hK hH.1 q0 hq hc k hk (hts _ hl) (fun _ h => h) (v := .long (J a k)) (by rw [gFs_get hf]; rfl) hdg kk
theorem g_getR (F : gFix g p c cc nL s args Ts own m) (hH : gH g I R J AI AJ AR H) {C : String} {T : u_T} {N ci k index : Nat} (hc : vwCl[ci]? = some (C, T, N)) (hc8 : ci < 8) (hin : ∀ w ∈ u_ws C T N, w ∈ Ts) (ha : gO g a ci) (hk : k < N) (hf : (gft ci)[k]? = some 2) {b : Nat} (hb : R a k = some b) (hl : Cond.fieldLink own index (T k).1 (T k).2.1 (T k).2.2.1 ∈ Ts) (hdg : decode cc pc = .ok (.getfield index, 3))
    (kk : W p l e Rm s m args below meth c H locs cells slots Q (F0 m (pc + 3) ls (.ref b :: rest))) : W p l e Rm s m args below meth c H locs cells slots Q (F0 m pc ls (.ref a :: rest)) := by
  obtain ⟨hx, hb0, -, hown, hts, hK, -⟩ := F
  obtain ⟨q0, hq⟩ := g_at (I := I) (R := R) (J := J) (AI := AI) (AJ := AJ) (AR := AR) ha.1
  rw [gE_obj ha.2 hc8] at hq
  exact va_get hx hb0 hts hin hown hK hH.1 q0 hq hc k hk (hts _ hl) (fun _ h => h) (v := .ref b) (by rw [gFs_get hf]; show some (va_rf (R a k)) = _; rw [hb]; rfl) hdg kk
theorem g_putI (F : gFix g p c cc nL s args Ts own m) (hH : gH g I R J AI AJ AR H) (hS : va_S (gA g) H0 H locs) {C : String} {T : u_T} {N ci k index : Nat} (hc : vwCl[ci]? = some (C, T, N)) (hc8 : ci < 8) (hin : ∀ w ∈ u_ws C T N, w ∈ Ts) (ha : gO g a ci) (hk : k < N) (ty0 : Nat → FieldType) (hty : ∀ k, k < N → parseFieldDescriptor (T k).2.2.1 = some (ty0 k)) (hnm : ∀ a, a < N → ∀ b, b < N → a ≠ b → (T a).2.1 ≠ (T b).2.1) (hf : (gft ci)[k]? = some 0) {x : Int} (hfin : (T k).2.2.2 = false) (hd : parseFieldDescriptor (T k).2.2.1 = some .int) (hl : Cond.fieldLink own index (T k).1 (T k).2.1 (T k).2.2.1 ∈ Ts) (hdg : decode cc pc = .ok (.putfield index, 3))
    (kk : ∀ (H1 : Heap) (locs1 : List Loc), gH g (gup2 I a k (iI x)) R J AI AJ AR H1 → va_S (gA g) H0 H1 locs1 → W p l e Rm s m args below meth c H1 locs1 cells slots Q (F0 m (pc + 3) ls rest)) : W p l e Rm s m args below meth c H locs cells slots Q (F0 m pc ls (.int (iI x) :: .ref a :: rest)) := by
  obtain ⟨hx, hb0, -, hown, hts, hK, -⟩ := F
  obtain ⟨q0, hq⟩ := g_at (I := I) (R := R) (J := J) (AI := AI) (AJ := AJ) (AR := AR) ha.1
  have hlen : k < (gFs I R J a (gft ci)).length := (List.getElem?_eq_some_iff.mp (gFs_get (I := I) (R := R) (J := J) (a := a) hf)).1
  have hset := g_set (f' := gE g (gup2 I a k (iI x)) R J AI AJ AR) (e := .inr (ci, (gFs I R J a (gft ci)).set k (.int (iI x)))) hH.2 ha.1 hq
    (by rw [gE_obj ha.2 hc8]; exact congrArg (fun z => Sum.inr (ci, z)) (gFs_set hf (by show Value.int (gup2 I a k (iI x) a k) = _; rw [gup2_s]) (fun j t' hj => by
      unfold gV
      split
      · rw [gup2_k _ _ hj]
      · rfl
      · rfl)))
    (fun b hb => by
    unfold gE gFs gV
    simp only [gup2_a _ _ hb])
  rw [gE_obj ha.2 hc8] at hq
  refine va_put hx hb0 hts hin ty0 hty hnm hown hK hH.1 hH.2 hS q0 hq hc k hk (hts _ hl) (fun _ h => h) hfin hd rfl rfl hlen hdg (fun H1 locs1 h1 h2 h3 => kk H1 locs1 ⟨?_, ?_⟩ h3)
  · rw [← hset]; exact h1
  · rw [← hset]; exact h2
theorem g_putIF (F : gFix g p c cc nL s args Ts own m) (hH : gH g I R J AI AJ AR H) (hS : va_S (gA g) H0 H locs) {C : String} {T : u_T} {N ci k index : Nat} (hc : vwCl[ci]? = some (C, T, N)) (hc8 : ci < 8) (hin : ∀ w ∈ u_ws C T N, w ∈ Ts) (ha : gO g a ci) (hk : k < N) (ty0 : Nat → FieldType) (hty : ∀ k, k < N → parseFieldDescriptor (T k).2.2.1 = some (ty0 k)) (hnm : ∀ a, a < N → ∀ b, b < N → a ≠ b → (T a).2.1 ≠ (T b).2.1) (hf : (gft ci)[k]? = some 0) {x : Int} (hfin : (T k).2.2.2 = true) (hini : meth.name = "<init>") (hdecl : (T k).1 = own) (hd : parseFieldDescriptor (T k).2.2.1 = some .int) (hl : Cond.fieldLink own index (T k).1 (T k).2.1 (T k).2.2.1 ∈ Ts) (hdg : decode cc pc = .ok (.putfield index, 3))
    (kk : ∀ (H1 : Heap) (locs1 : List Loc), gH g (gup2 I a k (iI x)) R J AI AJ AR H1 → va_S (gA g) H0 H1 locs1 → W p l e Rm s m args below meth c H1 locs1 cells slots Q (F0 m (pc + 3) ls rest)) : W p l e Rm s m args below meth c H locs cells slots Q (F0 m pc ls (.int (iI x) :: .ref a :: rest)) := by
  obtain ⟨hx, hb0, -, hown, hts, hK, -⟩ := F
  obtain ⟨q0, hq⟩ := g_at (I := I) (R := R) (J := J) (AI := AI) (AJ := AJ) (AR := AR) ha.1
  have hlen : k < (gFs I R J a (gft ci)).length := (List.getElem?_eq_some_iff.mp (gFs_get (I := I) (R := R) (J := J) (a := a) hf)).1
  have hset := g_set (f' := gE g (gup2 I a k (iI x)) R J AI AJ AR) (e := .inr (ci, (gFs I R J a (gft ci)).set k (.int (iI x)))) hH.2 ha.1 hq
    (by rw [gE_obj ha.2 hc8]; exact congrArg (fun z => Sum.inr (ci, z)) (gFs_set hf (by show Value.int (gup2 I a k (iI x) a k) = _; rw [gup2_s]) (fun j t' hj => by
      unfold gV
      split
      · rw [gup2_k _ _ hj]
      · rfl
      · rfl)))
    (fun b hb => by
    unfold gE gFs gV
    simp only [gup2_a _ _ hb])
  rw [gE_obj ha.2 hc8] at hq
  refine va_putF hx hb0 hts hin ty0 hty hnm hown hK hH.1 hH.2 hS q0 hq hc k hk (hts _ hl) (fun _ h => h) hfin hini hdecl hd rfl rfl hlen hdg (fun H1 locs1 h1 h2 h3 => kk H1 locs1 ⟨?_, ?_⟩ h3)
  · rw [← hset]; exact h1
  · rw [← hset]; exact h2
theorem g_putJ (F : gFix g p c cc nL s args Ts own m) (hH : gH g I R J AI AJ AR H) (hS : va_S (gA g) H0 H locs) {C : String} {T : u_T} {N ci k index : Nat} (hc : vwCl[ci]? = some (C, T, N)) (hc8 : ci < 8) (hin : ∀ w ∈ u_ws C T N, w ∈ Ts) (ha : gO g a ci) (hk : k < N) (ty0 : Nat → FieldType) (hty : ∀ k, k < N → parseFieldDescriptor (T k).2.2.1 = some (ty0 k)) (hnm : ∀ a, a < N → ∀ b, b < N → a ≠ b → (T a).2.1 ≠ (T b).2.1) (hf : (gft ci)[k]? = some 1) {x : Int64} (hfin : (T k).2.2.2 = false) (hd : parseFieldDescriptor (T k).2.2.1 = some .long) (hl : Cond.fieldLink own index (T k).1 (T k).2.1 (T k).2.2.1 ∈ Ts) (hdg : decode cc pc = .ok (.putfield index, 3))
    (kk : ∀ (H1 : Heap) (locs1 : List Loc), gH g I R (gup2 J a k x) AI AJ AR H1 → va_S (gA g) H0 H1 locs1 → W p l e Rm s m args below meth c H1 locs1 cells slots Q (F0 m (pc + 3) ls rest)) : W p l e Rm s m args below meth c H locs cells slots Q (F0 m pc ls (.long x :: .ref a :: rest)) := by
  obtain ⟨hx, hb0, -, hown, hts, hK, -⟩ := F
  obtain ⟨q0, hq⟩ := g_at (I := I) (R := R) (J := J) (AI := AI) (AJ := AJ) (AR := AR) ha.1
  have hlen : k < (gFs I R J a (gft ci)).length := (List.getElem?_eq_some_iff.mp (gFs_get (I := I) (R := R) (J := J) (a := a) hf)).1
  have hset := g_set (f' := gE g I R (gup2 J a k x) AI AJ AR) (e := .inr (ci, (gFs I R J a (gft ci)).set k (.long x))) hH.2 ha.1 hq
    (by rw [gE_obj ha.2 hc8]; exact congrArg (fun z => Sum.inr (ci, z)) (gFs_set hf (by show Value.long (gup2 J a k x a k) = _; rw [gup2_s]) (fun j t' hj => by
      unfold gV
      split
      · rfl
      · rw [gup2_k _ _ hj]
      · rfl)))
    (fun b hb => by
    unfold gE gFs gV
    simp only [gup2_a _ _ hb])
  rw [gE_obj ha.2 hc8] at hq
  refine va_put hx hb0 hts hin ty0 hty hnm hown hK hH.1 hH.2 hS q0 hq hc k hk (hts _ hl) (fun _ h => h) hfin hd rfl rfl hlen hdg (fun H1 locs1 h1 h2 h3 => kk H1 locs1 ⟨?_, ?_⟩ h3)
  · rw [← hset]; exact h1
  · rw [← hset]; exact h2
theorem g_putJF (F : gFix g p c cc nL s args Ts own m) (hH : gH g I R J AI AJ AR H) (hS : va_S (gA g) H0 H locs) {C : String} {T : u_T} {N ci k index : Nat} (hc : vwCl[ci]? = some (C, T, N)) (hc8 : ci < 8) (hin : ∀ w ∈ u_ws C T N, w ∈ Ts) (ha : gO g a ci) (hk : k < N) (ty0 : Nat → FieldType) (hty : ∀ k, k < N → parseFieldDescriptor (T k).2.2.1 = some (ty0 k)) (hnm : ∀ a, a < N → ∀ b, b < N → a ≠ b → (T a).2.1 ≠ (T b).2.1) (hf : (gft ci)[k]? = some 1) {x : Int64} (hfin : (T k).2.2.2 = true) (hini : meth.name = "<init>") (hdecl : (T k).1 = own) (hd : parseFieldDescriptor (T k).2.2.1 = some .long) (hl : Cond.fieldLink own index (T k).1 (T k).2.1 (T k).2.2.1 ∈ Ts) (hdg : decode cc pc = .ok (.putfield index, 3))
    (kk : ∀ (H1 : Heap) (locs1 : List Loc), gH g I R (gup2 J a k x) AI AJ AR H1 → va_S (gA g) H0 H1 locs1 → W p l e Rm s m args below meth c H1 locs1 cells slots Q (F0 m (pc + 3) ls rest)) : W p l e Rm s m args below meth c H locs cells slots Q (F0 m pc ls (.long x :: .ref a :: rest)) := by
  obtain ⟨hx, hb0, -, hown, hts, hK, -⟩ := F
  obtain ⟨q0, hq⟩ := g_at (I := I) (R := R) (J := J) (AI := AI) (AJ := AJ) (AR := AR) ha.1
  have hlen : k < (gFs I R J a (gft ci)).length := (List.getElem?_eq_some_iff.mp (gFs_get (I := I) (R := R) (J := J) (a := a) hf)).1
  have hset := g_set (f' := gE g I R (gup2 J a k x) AI AJ AR) (e := .inr (ci, (gFs I R J a (gft ci)).set k (.long x))) hH.2 ha.1 hq
    (by rw [gE_obj ha.2 hc8]; exact congrArg (fun z => Sum.inr (ci, z)) (gFs_set hf (by show Value.long (gup2 J a k x a k) = _; rw [gup2_s]) (fun j t' hj => by
      unfold gV
      split
      · rfl
      · rw [gup2_k _ _ hj]
      · rfl)))
    (fun b hb => by
    unfold gE gFs gV
    simp only [gup2_a _ _ hb])
  rw [gE_obj ha.2 hc8] at hq
  refine va_putF hx hb0 hts hin ty0 hty hnm hown hK hH.1 hH.2 hS q0 hq hc k hk (hts _ hl) (fun _ h => h) hfin hini hdecl hd rfl rfl hlen hdg (fun H1 locs1 h1 h2 h3 => kk H1 locs1 ⟨?_, ?_⟩ h3)
  · rw [← hset]; exact h1
  · rw [← hset]; exact h2
theorem g_putR (F : gFix g p c cc nL s args Ts own m) (hH : gH g I R J AI AJ AR H) (hS : va_S (gA g) H0 H locs) {C : String} {T : u_T} {N ci k index : Nat} (hc : vwCl[ci]? = some (C, T, N)) (hc8 : ci < 8) (hin : ∀ w ∈ u_ws C T N, w ∈ Ts) (ha : gO g a ci) (hk : k < N) (ty0 : Nat → FieldType) (hty : ∀ k, k < N → parseFieldDescriptor (T k).2.2.1 = some (ty0 k)) (hnm : ∀ a, a < N → ∀ b, b < N → a ≠ b → (T a).2.1 ≠ (T b).2.1) (hf : (gft ci)[k]? = some 2) {x : Nat} {ty : FieldType} (hn : narrow ty (.ref x) = .ref x) (hfit : fits ty (.ref x) = true) (hfin : (T k).2.2.2 = false) (hd : parseFieldDescriptor (T k).2.2.1 = some ty) (hl : Cond.fieldLink own index (T k).1 (T k).2.1 (T k).2.2.1 ∈ Ts) (hdg : decode cc pc = .ok (.putfield index, 3))
    (kk : ∀ (H1 : Heap) (locs1 : List Loc), gH g I (gup2 R a k (some x)) J AI AJ AR H1 → va_S (gA g) H0 H1 locs1 → W p l e Rm s m args below meth c H1 locs1 cells slots Q (F0 m (pc + 3) ls rest)) : W p l e Rm s m args below meth c H locs cells slots Q (F0 m pc ls (.ref x :: .ref a :: rest)) := by
  obtain ⟨hx, hb0, -, hown, hts, hK, -⟩ := F
  obtain ⟨q0, hq⟩ := g_at (I := I) (R := R) (J := J) (AI := AI) (AJ := AJ) (AR := AR) ha.1
  have hlen : k < (gFs I R J a (gft ci)).length := (List.getElem?_eq_some_iff.mp (gFs_get (I := I) (R := R) (J := J) (a := a) hf)).1
  have hset := g_set (f' := gE g I (gup2 R a k (some x)) J AI AJ AR) (e := .inr (ci, (gFs I R J a (gft ci)).set k (.ref x))) hH.2 ha.1 hq
    (by rw [gE_obj ha.2 hc8]; exact congrArg (fun z => Sum.inr (ci, z)) (gFs_set hf (by show va_rf (gup2 R a k (some x) a k) = _; rw [gup2_s]; rfl) (fun j t' hj => by
      unfold gV
      split
      · rfl
      · rfl
      · rw [gup2_k _ _ hj])))
    (fun b hb => by
    unfold gE gFs gV
    simp only [gup2_a _ _ hb])
  rw [gE_obj ha.2 hc8] at hq
  refine va_put hx hb0 hts hin ty0 hty hnm hown hK hH.1 hH.2 hS q0 hq hc k hk (hts _ hl) (fun _ h => h) hfin hd hn hfit hlen hdg (fun H1 locs1 h1 h2 h3 => kk H1 locs1 ⟨?_, ?_⟩ h3)
  · rw [← hset]; exact h1
  · rw [← hset]; exact h2
theorem g_putRF (F : gFix g p c cc nL s args Ts own m) (hH : gH g I R J AI AJ AR H) (hS : va_S (gA g) H0 H locs) {C : String} {T : u_T} {N ci k index : Nat} (hc : vwCl[ci]? = some (C, T, N)) (hc8 : ci < 8) (hin : ∀ w ∈ u_ws C T N, w ∈ Ts) (ha : gO g a ci) (hk : k < N) (ty0 : Nat → FieldType) (hty : ∀ k, k < N → parseFieldDescriptor (T k).2.2.1 = some (ty0 k)) (hnm : ∀ a, a < N → ∀ b, b < N → a ≠ b → (T a).2.1 ≠ (T b).2.1) (hf : (gft ci)[k]? = some 2) {x : Nat} {ty : FieldType} (hn : narrow ty (.ref x) = .ref x) (hfit : fits ty (.ref x) = true) (hfin : (T k).2.2.2 = true) (hini : meth.name = "<init>") (hdecl : (T k).1 = own) (hd : parseFieldDescriptor (T k).2.2.1 = some ty) (hl : Cond.fieldLink own index (T k).1 (T k).2.1 (T k).2.2.1 ∈ Ts) (hdg : decode cc pc = .ok (.putfield index, 3))
    (kk : ∀ (H1 : Heap) (locs1 : List Loc), gH g I (gup2 R a k (some x)) J AI AJ AR H1 → va_S (gA g) H0 H1 locs1 → W p l e Rm s m args below meth c H1 locs1 cells slots Q (F0 m (pc + 3) ls rest)) : W p l e Rm s m args below meth c H locs cells slots Q (F0 m pc ls (.ref x :: .ref a :: rest)) := by
  obtain ⟨hx, hb0, -, hown, hts, hK, -⟩ := F
  obtain ⟨q0, hq⟩ := g_at (I := I) (R := R) (J := J) (AI := AI) (AJ := AJ) (AR := AR) ha.1
  have hlen : k < (gFs I R J a (gft ci)).length := (List.getElem?_eq_some_iff.mp (gFs_get (I := I) (R := R) (J := J) (a := a) hf)).1
  have hset := g_set (f' := gE g I (gup2 R a k (some x)) J AI AJ AR) (e := .inr (ci, (gFs I R J a (gft ci)).set k (.ref x))) hH.2 ha.1 hq
    (by rw [gE_obj ha.2 hc8]; exact congrArg (fun z => Sum.inr (ci, z)) (gFs_set hf (by show va_rf (gup2 R a k (some x) a k) = _; rw [gup2_s]; rfl) (fun j t' hj => by
      unfold gV
      split
      · rfl
      · rfl
      · rw [gup2_k _ _ hj])))
    (fun b hb => by
    unfold gE gFs gV
    simp only [gup2_a _ _ hb])
  rw [gE_obj ha.2 hc8] at hq
  refine va_putF hx hb0 hts hin ty0 hty hnm hown hK hH.1 hH.2 hS q0 hq hc k hk (hts _ hl) (fun _ h => h) hfin hini hdecl hd hn hfit hlen hdg (fun H1 locs1 h1 h2 h3 => kk H1 locs1 ⟨?_, ?_⟩ h3)
  · rw [← hset]; exact h1
  · rw [← hset]; exact h2
theorem g_iald (F : gFix g p c cc nL s args Ts own m) (hH : gH g I R J AI AJ AR H) {n : Nat} (ha : gAr g a 9 n) {z : Int} (h0 : 0 ≤ z) (h1 : z < (n : Int)) (h2 : z ≤ 2147483647) (hdg : decode cc pc = .ok (.iaload, 1))
    (kk : W p l e Rm s m args below meth c H locs cells slots Q (F0 m (pc + 1) ls (.int (iI (AI a z.toNat).toInt) :: rest))) : W p l e Rm s m args below meth c H locs cells slots Q (F0 m pc ls (.int (iI z) :: .ref a :: rest)) := by
  obtain ⟨hx, hb0, -, hown, hts, hK, -⟩ := F
  obtain ⟨q0, hq⟩ := g_at (I := I) (R := R) (J := J) (AI := AI) (AJ := AJ) (AR := AR) ha.1
  rw [gE_arr ha.2.1 ha.2.2 (by decide)] at hq
  refine va_iald hx hb0 hK hH.1 q0 1 (hq.trans rfl) rfl (iI_in h0 h1 h2) hdg ?_
  rw [iI_self] at kk; rw [iI_nat h0 h2]; exact kk
theorem g_iast (F : gFix g p c cc nL s args Ts own m) (hH : gH g I R J AI AJ AR H) (hS : va_S (gA g) H0 H locs) {n : Nat} (ha : gAr g a 9 n) {z : Int} {x : Int} (h0 : 0 ≤ z) (h1 : z < (n : Int)) (h2 : z ≤ 2147483647) (hdg : decode cc pc = .ok (.iastore, 1))
    (kk : ∀ (H1 : Heap) (locs1 : List Loc), gH g I R J (gup2 AI a z.toNat (iI x)) AJ AR H1 → va_S (gA g) H0 H1 locs1 → W p l e Rm s m args below meth c H1 locs1 cells slots Q (F0 m (pc + 1) ls rest)) : W p l e Rm s m args below meth c H locs cells slots Q (F0 m pc ls (.int (iI x) :: .int (iI z) :: .ref a :: rest)) := by
  obtain ⟨hx, hb0, -, hown, hts, hK, -⟩ := F
  obtain ⟨q0, hq⟩ := g_at (I := I) (R := R) (J := J) (AI := AI) (AJ := AJ) (AR := AR) ha.1
  have hrow : gup2 AI a z.toNat (iI x) a = upd (AI a) z.toNat (iI x) := by
    funext j
    unfold gup2 upd
    simp
  have hset := g_set (f' := gE g I R J (gup2 AI a z.toNat (iI x)) AJ AR) (e := .inl (gY g 9, n, .inl (upd (AI a) z.toNat (iI x)))) hH.2 ha.1 hq
    (by rw [gE_arr ha.2.1 ha.2.2 (by decide), hrow]; rfl)
    (fun b hb => by
      have : gup2 AI a z.toNat (iI x) b = AI b := by funext j; exact gup2_a _ _ hb
      unfold gE
      rw [this])
  rw [gE_arr ha.2.1 ha.2.2 (by decide)] at hq
  refine va_iast hx hb0 hK hH.1 hH.2 hS q0 1 (hq.trans rfl) rfl (iI_in h0 h1 h2) hdg (fun H1 locs1 h1 h2' h3 => kk H1 locs1 ⟨?_, ?_⟩ h3)
  · rw [← hset]; rw [iI_nat h0 h2] at h1; exact h1
  · rw [← hset]; rw [iI_nat h0 h2] at h2'; exact h2'
theorem g_bald (F : gFix g p c cc nL s args Ts own m) (hH : gH g I R J AI AJ AR H) {n : Nat} (ha : gAr g a 8 n) {z : Int} (h0 : 0 ≤ z) (h1 : z < (n : Int)) (h2 : z ≤ 2147483647) (hdg : decode cc pc = .ok (.baload, 1))
    (kk : W p l e Rm s m args below meth c H locs cells slots Q (F0 m (pc + 1) ls (.int (iI (AI a z.toNat).toInt) :: rest))) : W p l e Rm s m args below meth c H locs cells slots Q (F0 m pc ls (.int (iI z) :: .ref a :: rest)) := by
  obtain ⟨hx, hb0, -, hown, hts, hK, -⟩ := F
  obtain ⟨q0, hq⟩ := g_at (I := I) (R := R) (J := J) (AI := AI) (AJ := AJ) (AR := AR) ha.1
  rw [gE_arr ha.2.1 ha.2.2 (by decide)] at hq
  refine va_bald hx hb0 hK hH.1 q0 0 (hq.trans rfl) rfl (iI_in h0 h1 h2) hdg ?_
  rw [iI_self] at kk; rw [iI_nat h0 h2]; exact kk
theorem g_bast (F : gFix g p c cc nL s args Ts own m) (hH : gH g I R J AI AJ AR H) (hS : va_S (gA g) H0 H locs) {n : Nat} (ha : gAr g a 8 n) {z : Int} {x : Int} (h0 : 0 ≤ z) (h1 : z < (n : Int)) (h2 : z ≤ 2147483647) (hdg : decode cc pc = .ok (.bastore, 1))
    (kk : ∀ (H1 : Heap) (locs1 : List Loc), gH g I R J (gup2 AI a z.toNat (vp_nar .byte (iI x))) AJ AR H1 → va_S (gA g) H0 H1 locs1 → W p l e Rm s m args below meth c H1 locs1 cells slots Q (F0 m (pc + 1) ls rest)) : W p l e Rm s m args below meth c H locs cells slots Q (F0 m pc ls (.int (iI x) :: .int (iI z) :: .ref a :: rest)) := by
  obtain ⟨hx, hb0, -, hown, hts, hK, -⟩ := F
  obtain ⟨q0, hq⟩ := g_at (I := I) (R := R) (J := J) (AI := AI) (AJ := AJ) (AR := AR) ha.1
  have hrow : gup2 AI a z.toNat (vp_nar .byte (iI x)) a = upd (AI a) z.toNat (vp_nar .byte (iI x)) := by
    funext j
    unfold gup2 upd
    simp
  have hset := g_set (f' := gE g I R J (gup2 AI a z.toNat (vp_nar .byte (iI x))) AJ AR) (e := .inl (gY g 8, n, .inl (upd (AI a) z.toNat (vp_nar .byte (iI x))))) hH.2 ha.1 hq
    (by rw [gE_arr ha.2.1 ha.2.2 (by decide), hrow]; rfl)
    (fun b hb => by
      have : gup2 AI a z.toNat (vp_nar .byte (iI x)) b = AI b := by funext j; exact gup2_a _ _ hb
      unfold gE
      rw [this])
  rw [gE_arr ha.2.1 ha.2.2 (by decide)] at hq
  refine va_bast hx hb0 hK hH.1 hH.2 hS q0 0 (hq.trans rfl) rfl (iI_in h0 h1 h2) hdg (fun H1 locs1 h1 h2' h3 => kk H1 locs1 ⟨?_, ?_⟩ h3)
  · rw [← hset]; rw [iI_nat h0 h2] at h1; exact h1
  · rw [← hset]; rw [iI_nat h0 h2] at h2'; exact h2'
theorem g_lald (F : gFix g p c cc nL s args Ts own m) (hH : gH g I R J AI AJ AR H) {n : Nat} (ha : gAr g a 10 n) {z : Int} (h0 : 0 ≤ z) (h1 : z < (n : Int)) (h2 : z ≤ 2147483647) (hdg : decode cc pc = .ok (.laload, 1))
    (kk : W p l e Rm s m args below meth c H locs cells slots Q (F0 m (pc + 1) ls (.long (AJ a z.toNat) :: rest))) : W p l e Rm s m args below meth c H locs cells slots Q (F0 m pc ls (.int (iI z) :: .ref a :: rest)) := by
  obtain ⟨hx, hb0, -, hown, hts, hK, -⟩ := F
  obtain ⟨q0, hq⟩ := g_at (I := I) (R := R) (J := J) (AI := AI) (AJ := AJ) (AR := AR) ha.1
  rw [gE_arr ha.2.1 ha.2.2 (by decide)] at hq
  refine va_lald hx hb0 hK hH.1 q0 2 (hq.trans rfl) rfl (iI_in h0 h1 h2) hdg ?_
  rw [iI_nat h0 h2]; exact kk
theorem g_last (F : gFix g p c cc nL s args Ts own m) (hH : gH g I R J AI AJ AR H) (hS : va_S (gA g) H0 H locs) {n : Nat} (ha : gAr g a 10 n) {z : Int} {x : Int64} (h0 : 0 ≤ z) (h1 : z < (n : Int)) (h2 : z ≤ 2147483647) (hdg : decode cc pc = .ok (.lastore, 1))
    (kk : ∀ (H1 : Heap) (locs1 : List Loc), gH g I R J AI (gup2 AJ a z.toNat (x)) AR H1 → va_S (gA g) H0 H1 locs1 → W p l e Rm s m args below meth c H1 locs1 cells slots Q (F0 m (pc + 1) ls rest)) : W p l e Rm s m args below meth c H locs cells slots Q (F0 m pc ls (.long x :: .int (iI z) :: .ref a :: rest)) := by
  obtain ⟨hx, hb0, -, hown, hts, hK, -⟩ := F
  obtain ⟨q0, hq⟩ := g_at (I := I) (R := R) (J := J) (AI := AI) (AJ := AJ) (AR := AR) ha.1
  have hrow : gup2 AJ a z.toNat (x) a = vp_updL (AJ a) z.toNat x := by
    funext j
    unfold gup2 vp_updL
    simp
  have hset := g_set (f' := gE g I R J AI (gup2 AJ a z.toNat (x)) AR) (e := .inl (gY g 10, n, .inr (.inl (vp_updL (AJ a) z.toNat x)))) hH.2 ha.1 hq
    (by rw [gE_arr ha.2.1 ha.2.2 (by decide), hrow]; rfl)
    (fun b hb => by
      have : gup2 AJ a z.toNat (x) b = AJ b := by funext j; exact gup2_a _ _ hb
      unfold gE
      rw [this])
  rw [gE_arr ha.2.1 ha.2.2 (by decide)] at hq
  refine va_last hx hb0 hK hH.1 hH.2 hS q0 2 (hq.trans rfl) rfl (iI_in h0 h1 h2) hdg (fun H1 locs1 h1 h2' h3 => kk H1 locs1 ⟨?_, ?_⟩ h3)
  · rw [← hset]; rw [iI_nat h0 h2] at h1; exact h1
  · rw [← hset]; rw [iI_nat h0 h2] at h2'; exact h2'
theorem g_aldL (F : gFix g p c cc nL s args Ts own m) (hH : gH g I R J AI AJ AR H) {n : Nat} (ha : gAr g a 11 n) {z : Int} (h0 : 0 ≤ z) (h1 : z < (n : Int)) (h2 : z ≤ 2147483647) {b : Nat} (hb : AR a z.toNat = some b) (hdg : decode cc pc = .ok (.aaload, 1))
    (kk : W p l e Rm s m args below meth c H locs cells slots Q (F0 m (pc + 1) ls (.ref b :: rest))) : W p l e Rm s m args below meth c H locs cells slots Q (F0 m pc ls (.int (iI z) :: .ref a :: rest)) := by
  obtain ⟨hx, hb0, -, hown, hts, hK, -⟩ := F
  obtain ⟨q0, hq⟩ := g_at (I := I) (R := R) (J := J) (AI := AI) (AJ := AJ) (AR := AR) ha.1
  rw [gE_arr ha.2.1 ha.2.2 (by decide)] at hq
  refine va_aldq hx hb0 hK hH.1 q0 3 (hq.trans rfl) rfl (iI_in h0 h1 h2) hdg ?_
  rw [iI_nat h0 h2, hb]; exact kk
theorem g_aldR (F : gFix g p c cc nL s args Ts own m) (hH : gH g I R J AI AJ AR H) {n : Nat} (ha : gAr g a 12 n) {z : Int} (h0 : 0 ≤ z) (h1 : z < (n : Int)) (h2 : z ≤ 2147483647) {b : Nat} (hb : AR a z.toNat = some b) (hdg : decode cc pc = .ok (.aaload, 1))
    (kk : W p l e Rm s m args below meth c H locs cells slots Q (F0 m (pc + 1) ls (.ref b :: rest))) : W p l e Rm s m args below meth c H locs cells slots Q (F0 m pc ls (.int (iI z) :: .ref a :: rest)) := by
  obtain ⟨hx, hb0, -, hown, hts, hK, -⟩ := F
  obtain ⟨q0, hq⟩ := g_at (I := I) (R := R) (J := J) (AI := AI) (AJ := AJ) (AR := AR) ha.1
  rw [gE_arr ha.2.1 ha.2.2 (by decide)] at hq
  refine va_aldq hx hb0 hK hH.1 q0 4 (hq.trans rfl) rfl (iI_in h0 h1 h2) hdg ?_
  rw [iI_nat h0 h2, hb]; exact kk
theorem g_alen8 (F : gFix g p c cc nL s args Ts own m) (hH : gH g I R J AI AJ AR H) {n : Nat} (ha : gAr g a 8 n) (hdg : decode cc pc = .ok (.arraylength, 1))
    (kk : W p l e Rm s m args below meth c H locs cells slots Q (F0 m (pc + 1) ls (.int (iI (n : Int)) :: rest))) : W p l e Rm s m args below meth c H locs cells slots Q (F0 m pc ls (.ref a :: rest)) := by
  obtain ⟨hx, hb0, -, hown, hts, hK, -⟩ := F
  obtain ⟨q0, hq⟩ := g_at (I := I) (R := R) (J := J) (AI := AI) (AJ := AJ) (AR := AR) ha.1
  rw [gE_arr ha.2.1 ha.2.2 (by decide)] at hq
  exact va_alen hx hb0 hK hH.1 q0 0 hq rfl (v := iI (n : Int)) (Int32.ofInt_eq_ofNat).symm hdg kk
theorem g_alen9 (F : gFix g p c cc nL s args Ts own m) (hH : gH g I R J AI AJ AR H) {n : Nat} (ha : gAr g a 9 n) (hdg : decode cc pc = .ok (.arraylength, 1))
    (kk : W p l e Rm s m args below meth c H locs cells slots Q (F0 m (pc + 1) ls (.int (iI (n : Int)) :: rest))) : W p l e Rm s m args below meth c H locs cells slots Q (F0 m pc ls (.ref a :: rest)) := by
  obtain ⟨hx, hb0, -, hown, hts, hK, -⟩ := F
  obtain ⟨q0, hq⟩ := g_at (I := I) (R := R) (J := J) (AI := AI) (AJ := AJ) (AR := AR) ha.1
  rw [gE_arr ha.2.1 ha.2.2 (by decide)] at hq
  exact va_alen hx hb0 hK hH.1 q0 1 hq rfl (v := iI (n : Int)) (Int32.ofInt_eq_ofNat).symm hdg kk
theorem g_alen10 (F : gFix g p c cc nL s args Ts own m) (hH : gH g I R J AI AJ AR H) {n : Nat} (ha : gAr g a 10 n) (hdg : decode cc pc = .ok (.arraylength, 1))
    (kk : W p l e Rm s m args below meth c H locs cells slots Q (F0 m (pc + 1) ls (.int (iI (n : Int)) :: rest))) : W p l e Rm s m args below meth c H locs cells slots Q (F0 m pc ls (.ref a :: rest)) := by
  obtain ⟨hx, hb0, -, hown, hts, hK, -⟩ := F
  obtain ⟨q0, hq⟩ := g_at (I := I) (R := R) (J := J) (AI := AI) (AJ := AJ) (AR := AR) ha.1
  rw [gE_arr ha.2.1 ha.2.2 (by decide)] at hq
  exact va_alen hx hb0 hK hH.1 q0 2 hq rfl (v := iI (n : Int)) (Int32.ofInt_eq_ofNat).symm hdg kk
theorem g_alen11 (F : gFix g p c cc nL s args Ts own m) (hH : gH g I R J AI AJ AR H) {n : Nat} (ha : gAr g a 11 n) (hdg : decode cc pc = .ok (.arraylength, 1))
    (kk : W p l e Rm s m args below meth c H locs cells slots Q (F0 m (pc + 1) ls (.int (iI (n : Int)) :: rest))) : W p l e Rm s m args below meth c H locs cells slots Q (F0 m pc ls (.ref a :: rest)) := by
  obtain ⟨hx, hb0, -, hown, hts, hK, -⟩ := F
  obtain ⟨q0, hq⟩ := g_at (I := I) (R := R) (J := J) (AI := AI) (AJ := AJ) (AR := AR) ha.1
  rw [gE_arr ha.2.1 ha.2.2 (by decide)] at hq
  exact va_alen hx hb0 hK hH.1 q0 3 hq rfl (v := iI (n : Int)) (Int32.ofInt_eq_ofNat).symm hdg kk
theorem g_alen12 (F : gFix g p c cc nL s args Ts own m) (hH : gH g I R J AI AJ AR H) {n : Nat} (ha : gAr g a 12 n) (hdg : decode cc pc = .ok (.arraylength, 1))
    (kk : W p l e Rm s m args below meth c H locs cells slots Q (F0 m (pc + 1) ls (.int (iI (n : Int)) :: rest))) : W p l e Rm s m args below meth c H locs cells slots Q (F0 m pc ls (.ref a :: rest)) := by
  obtain ⟨hx, hb0, -, hown, hts, hK, -⟩ := F
  obtain ⟨q0, hq⟩ := g_at (I := I) (R := R) (J := J) (AI := AI) (AJ := AJ) (AR := AR) ha.1
  rw [gE_arr ha.2.1 ha.2.2 (by decide)] at hq
  exact va_alen hx hb0 hK hH.1 q0 4 hq rfl (v := iI (n : Int)) (Int32.ofInt_eq_ofNat).symm hdg kk
end GRows2
