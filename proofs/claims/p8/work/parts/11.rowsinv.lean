theorem cpy6 {f h : Nat → Int32} {P : Int32 → Prop} {sp dp n L L2 : Nat} (hs : sp % 6 = 0) (hd : dp % 6 = 0) (hb : sp + n ≤ 6 * L2) (hf : ∀ j : Nat, j < L2 → P (f (6 * j))) (hh : ∀ j : Nat, j < L → P (h (6 * j))) : ∀ j : Nat, j < L → P (va_cpy f h sp dp n (6 * j)) := by
  intro j hj
  unfold va_cpy
  split
  · rename_i q
    have e : sp + (6 * j - dp) = 6 * (sp / 6 + (j - dp / 6)) := by omega
    rw [e]
    exact hf _ (by omega)
  · exact hh j hj
theorem cpyK {f h : Nat → Int32} {P : Int32 → Prop} {dp n L : Nat} (hd : dp % 6 = 0) (hn : n ≤ 6) (hf : P (f 0)) (hh : ∀ j : Nat, j < L → P (h (6 * j))) : ∀ j : Nat, j < L → P (va_cpy f h 0 dp n (6 * j)) := by
  intro j hj
  unfold va_cpy
  split
  · rename_i q
    have e : 0 + (6 * j - dp) = 0 := by omega
    rw [e]
    exact hf
  · exact hh j hj
section RowsInv
variable {g : gG} {gh : gGh} {R AR : gR} {I AI : gI} {a : Nat}
theorem gInv_four {AI' : gI} (hv : gInv g gh R AR I AI) (ha : gO g a 4) (h4 : gh 2 a = 4) (e : ∀ b, b ≠ gh 0 a → AI' b = AI b) : gInv g gh R AR I AI' := gInv_cells hv ha e (fun h => absurd h (by omega)) (fun h => absurd h (by omega))
theorem gInv_cpyS (hv : gInv g gh R AR I AI) (ha : gO g a 4) {sp dp n : Int} (h1 : 0 ≤ sp ∧ sp % 6 = 0) (h2 : 0 ≤ dp ∧ dp % 6 = 0) (h3 : 0 ≤ n ∧ sp + n ≤ 6 * (gh 1 a : Int)) (hfz : gh 2 a = 5 → gh 42 0 = 1 → a ≠ gh 37 0) : gInv g gh R AR I (gup1 AI (gh 0 a) (va_cpy (AI (gh 0 a)) (AI (gh 0 a)) sp.toNat dp.toNat n.toNat)) :=
  gInv_cells hv ha (fun b hb => gup1_a _ _ hb) (fun h5 => by
    rw [gup1_s]
    exact cpy6 (P := fun x => 0 ≤ x.toInt ∧ x.toInt ≤ 15) (L2 := gh 1 a) (by omega) (by omega) (by omega) (hv.2.1 a ha h5) (hv.2.1 a ha h5)) hfz
theorem gInv_cpyO (hv : gInv g gh R AR I AI) (ha : gO g a 4) {b : Nat} (hb : gO g b 4) (h5 : gh 2 a = 5 → gh 2 b = 5) {sp dp n : Int} (h1 : 0 ≤ sp ∧ sp % 6 = 0) (h2 : 0 ≤ dp ∧ dp % 6 = 0) (h3 : 0 ≤ n ∧ sp + n ≤ 6 * (gh 1 b : Int)) (hfz : gh 2 a = 5 → gh 42 0 = 1 → a ≠ gh 37 0) : gInv g gh R AR I (gup1 AI (gh 0 a) (va_cpy (AI (gh 0 b)) (AI (gh 0 a)) sp.toNat dp.toNat n.toNat)) :=
  gInv_cells hv ha (fun b hb => gup1_a _ _ hb) (fun h => by
    rw [gup1_s]
    exact cpy6 (P := fun x => 0 ≤ x.toInt ∧ x.toInt ≤ 15) (L2 := gh 1 b) (by omega) (by omega) (by omega) (hv.2.1 b hb (h5 h)) (hv.2.1 a ha h)) hfz
theorem gInv_cpyK (hv : gInv g gh R AR I AI) (ha : gO g a 4) {k : Nat} (hk : gh 2 a = 5 → 0 ≤ (AI k 0).toInt ∧ (AI k 0).toInt ≤ 15) {dp n : Int} (h2 : 0 ≤ dp ∧ dp % 6 = 0) (h3 : 0 ≤ n ∧ n ≤ 6) (hfz : gh 2 a = 5 → gh 42 0 = 1 → a ≠ gh 37 0) : gInv g gh R AR I (gup1 AI (gh 0 a) (va_cpy (AI k) (AI (gh 0 a)) (0 : Int).toNat dp.toNat n.toNat)) :=
  gInv_cells hv ha (fun b hb => gup1_a _ _ hb) (fun h5 => by
    rw [gup1_s]
    exact cpyK (P := fun x => 0 ≤ x.toInt ∧ x.toInt ≤ 15) (by omega) (by omega) (hk h5) (hv.2.1 a ha h5)) hfz
theorem gInv_cell1 (hv : gInv g gh R AR I AI) (ha : gO g a 4) {ix : Int} {v : Int32} (h0 : 0 ≤ ix) (h : gh 2 a = 5 → ix % 6 ≠ 0) (hfz : gh 2 a = 5 → gh 42 0 = 1 → a ≠ gh 37 0) : gInv g gh R AR I (gup2 AI (gh 0 a) ix.toNat v) :=
  gInv_cells hv ha (fun b hb => funext fun j => gup2_a _ _ hb) (fun h5 j hj => by
    have := h h5
    rw [gup2_k _ _ (by omega)]
    exact hv.2.1 a ha h5 j hj) hfz
end RowsInv
