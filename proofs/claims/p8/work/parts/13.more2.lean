section GMore2
variable {g : gG} {I : gI} {R : gR} {J : gJ} {AI : gI} {AJ : gJ} {AR : gR}
variable {p : Program} {l : Launch} {e : Env} {Rm : Room} {s : State} {m : MethodId} {args : Array Value} {below : List Frame} {meth : Method} {c : Code} {H : Heap} {locs : List Loc} {cells slots : Nat} {Q : State → Prop}
variable {cc : ByteArray} {pc nL : Nat} {ls : Array Slot} {rest : List Value} {a : Nat} {H0 : Heap} {Ts : List Cond} {own : String}
theorem z_mmin (F : gFix g p c cc nL s args Ts own m) (hls : ls.size = nL) {index : Nat} (m1 : Cond.methodLink own index Lib.Math.min.name ∈ Ts) (m2 : Cond.static Lib.Math.min.name ∈ Ts) (m3 : Cond.initialized "java/lang/Math" ∈ Ts) (m4 : Cond.code Lib.Math.min.name Lib.Math.min.code 2 (some .int) ∈ Ts)
    (hfr : 1 ≤ Rm.frames) (hlo : (rest.map fun v => v.category).sum + 13 ≤ Rm.locals) (hc : cells ≤ Rm.cells) (hs : slots ≤ Rm.slots) {x y : Int} (hx : zr x) (hy : zr y) (hdg : decode cc pc = .ok (.invokestatic index, 3))
    (kk : ∀ v : Int, zr v → (v = x ∨ v = y) ∧ v ≤ x ∧ v ≤ y → W p l e Rm s m args below meth c H locs cells slots Q (F0 m (pc + 3) ls (.int (iI v) :: rest))) : W p l e Rm s m args below meth c H locs cells slots Q (F0 m pc ls (.int (iI y) :: .int (iI x) :: rest)) := by
  obtain ⟨hx0, hb0, hml, hown, hts, hK, -⟩ := F
  refine va_mmin hx0 hb0 (hml.trans hls.symm) hown (hts _ m1) (hts _ m2) (hts _ m3) (hts _ m4) hfr hlo hc hs hdg ?_
  by_cases h : y < x
  · rw [if_pos ((iI_lt hy hx).mpr h)]
    exact kk y hy ⟨Or.inr rfl, by omega, by omega⟩
  · rw [if_neg (fun q => h ((iI_lt hy hx).mp q))]
    exact kk x hx ⟨Or.inl rfl, by omega, by omega⟩
theorem z_mmax (F : gFix g p c cc nL s args Ts own m) (hls : ls.size = nL) {index : Nat} (m1 : Cond.methodLink own index Lib.Math.max.name ∈ Ts) (m2 : Cond.static Lib.Math.max.name ∈ Ts) (m3 : Cond.initialized "java/lang/Math" ∈ Ts) (m4 : Cond.code Lib.Math.max.name Lib.Math.max.code 2 (some .int) ∈ Ts)
    (hfr : 1 ≤ Rm.frames) (hlo : (rest.map fun v => v.category).sum + 13 ≤ Rm.locals) (hc : cells ≤ Rm.cells) (hs : slots ≤ Rm.slots) {x y : Int} (hx : zr x) (hy : zr y) (hdg : decode cc pc = .ok (.invokestatic index, 3))
    (kk : ∀ v : Int, zr v → (v = x ∨ v = y) ∧ x ≤ v ∧ y ≤ v → W p l e Rm s m args below meth c H locs cells slots Q (F0 m (pc + 3) ls (.int (iI v) :: rest))) : W p l e Rm s m args below meth c H locs cells slots Q (F0 m pc ls (.int (iI y) :: .int (iI x) :: rest)) := by
  obtain ⟨hx0, hb0, hml, hown, hts, hK, -⟩ := F
  refine va_mmax hx0 hb0 (hml.trans hls.symm) hown (hts _ m1) (hts _ m2) (hts _ m3) (hts _ m4) hfr hlo hc hs hdg ?_
  by_cases h : x < y
  · rw [if_pos ((iI_lt hx hy).mpr h)]
    exact kk y hy ⟨Or.inr rfl, by omega, by omega⟩
  · rw [if_neg (fun q => h ((iI_lt hx hy).mp q))]
    exact kk x hx ⟨Or.inl rfl, by omega, by omega⟩
theorem z_name {x : Int} (k : ∀ v : Int, v = x → W p l e Rm s m args below meth c H locs cells slots Q (F0 m pc ls (.int (iI v) :: rest))) : W p l e Rm s m args below meth c H locs cells slots Q (F0 m pc ls (.int (iI x) :: rest)) := k x rfl
end GMore2
