/-! the reference: what moved -/
/-- rows of five as rows of six -/
def w65 (f : Nat → Int32) : Nat → Int32 := fun q => if q % 6 = 5 then 0 else f (5 * (q / 6) + q % 6)
theorem w65_k {f : Nat → Int32} {i k : Nat} (hk : k < 5) : w65 f (6 * i + k) = f (5 * i + k) := by
  unfold w65; rw [if_neg (by omega)]; congr 1; omega
theorem w65_5 {f : Nat → Int32} {i : Nat} : w65 f (6 * i + 5) = 0 := by
  unfold w65; rw [if_pos (by omega)]
theorem w65_i {f f' : Nat → Int32} {n : Nat} {t : Tup} {c : Int32} (h1 : ∀ q : Nat, q < 5 * n → f' q = f q) (h2 : ∀ j : Nat, j < 4 → f' (5 * n + j) = tg t j) (h3 : f' (5 * n + 4) = c) : insW (w65 f) (w65 f') n n t c 0 := by
  refine ⟨fun i hi j hj => ?_, ⟨tg_x (fun j hj => ?_), ?_, w65_5⟩, fun i h1 h2 => absurd h2 (by omega)⟩
  · by_cases w : j = 5
    · rw [w, w65_5, w65_5]
    · rw [w65_k (by omega), w65_k (by omega)]; exact h1 _ (by omega)
  · rw [tg_up j hj, w65_k (by omega)]; exact h2 j hj
  · rw [w65_k (by omega)]; exact h3
theorem rk_tu {f : Nat → Int32} {z : Int} {t : Tup} (h : ∀ k, k < 4 → f (z.toNat + k) = tg t k) : ∀ k, k < 4 → rk f z k = tu t k := fun k hk => by
  show (f (z.toNat + k)).toInt = (tg t k).toInt
  rw [h k hk]
def mvS (x : Nat → Int32) (n : Nat) (y : Nat → Int32) (m : Nat) : Tup → Int32 := fun t => bS x n t + iI (-1) * bS y m t
section Mvm
variable {x y f f' : Nat → Int32} {n m k : Nat} {i j is t1 t2 by9 : Int} {xa yb : Int32} {t : Tup} {S : Tup → Int32}
/-- which head is less: of y (ahead) at i, of x (now) at j -/
def mvC (x : Nat → Int32) (n : Nat) (y : Nat → Int32) (m : Nat) (i j is : Int) : Prop := ((m : Int) ≤ i ∧ is = 1) ∨ (i < (m : Int) ∧ (n : Int) ≤ j ∧ is = -1) ∨ (i < (m : Int) ∧ j < (n : Int) ∧ is = tc (tup y i.toNat) (tup x j.toNat))
def tyP (p : Prop) (v : Int) (a : Int32) : Prop := (p ∧ iI v = a) ∨ (¬ p ∧ iI v = 0)
theorem tyP_y {p : Prop} {v : Int} {a : Int32} (h : tyP p v a) (hp : p) : iI v = a := by
  rcases h with h | h
  · exact h.2
  · exact absurd hp h.1
theorem tyP_n {p : Prop} {v : Int} {a : Int32} (h : tyP p v a) (hp : ¬ p) : iI v = 0 := by
  rcases h with h | h
  · exact absurd h.1 hp
  · exact h.2
def mvJ (is j : Int) : Int := if 0 ≤ is then j + 1 else j
def mvI (is i : Int) : Int := if is ≤ 0 then i + 1 else i
theorem mv_hd (hA : okB x n) (hB : okB y m) (h0 : 0 ≤ i ∧ 0 ≤ j) (hr : -1 ≤ is ∧ is ≤ 1) (hor : i < (m : Int) ∨ j < (n : Int)) (hc : mvC x n y m i j is) (h1 : tyP (0 ≤ is) t1 (x (6 * j.toNat + 4))) (h2 : tyP (is ≤ 0) t2 (y (6 * i.toNat + 4))) (e : iI by9 = iI (t1 - t2)) (hg : gaI x y f n m j.toNat i.toNat k (mvS x n y m)) :
    ∃ t, gaT x y n m j.toNat i.toNat (mvJ is j).toNat (mvI is i).toNat t ∧ mvS x n y m t = iI by9 ∧ (is ≤ 0 → t = tup y i.toNat) ∧ (0 < is → t = tup x j.toNat) := by
  have hS : ∀ t, mvS x n y m t = bS x n t + iI (-1) * bS y m t := fun _ => rfl
  have eb : iI by9 = iI t1 + iI (-1) * iI t2 := by
    rw [e, iI_mul, iI_add]; congr 1; omega
  by_cases c0 : is = 0
  · have q : j < (n : Int) ∧ i < (m : Int) ∧ tc (tup x j.toNat) (tup y i.toNat) = 0 := by
      rcases hc with h | h | h
      · omega
      · omega
      · exact ⟨h.2.1, h.1, by rw [tc_s, ← h.2.2, c0]; rfl⟩
    have r := ga_te hA hB hS hg rfl rfl h0.2 h0.1 q
    refine ⟨tup y i.toNat, ?_, ?_, fun _ => rfl, fun w => absurd w (by omega)⟩
    · unfold mvJ mvI
      rw [if_pos (by omega), if_pos (by omega), ← tc_0.mp q.2.2]; exact r.1
    · rw [← tc_0.mp q.2.2, r.2, eb, tyP_y h1 (by omega), tyP_y h2 (by omega)]
  · by_cases c1 : 0 < is
    · have q : j < (n : Int) ∧ (i < (m : Int) → tc (tup x j.toNat) (tup y i.toNat) = -1) := by
        rcases hc with h | h | h
        · exact ⟨by omega, fun w => absurd w (by omega)⟩
        · omega
        · exact ⟨h.2.1, fun _ => by rw [tc_s, ← h.2.2, show is = 1 by omega]⟩
      have r := ga_tl hA hB hS hg rfl rfl h0.2 h0.1 q
      refine ⟨tup x j.toNat, ?_, ?_, fun w => absurd w (by omega), fun _ => rfl⟩
      · unfold mvJ mvI
        rw [if_pos (by omega), if_neg (by omega)]; exact r.1
      · rw [r.2, eb, tyP_y h1 (by omega), tyP_n h2 (by omega), Int32.mul_zero, Int32.add_zero]
    · have q : i < (m : Int) ∧ (j < (n : Int) → tc (tup x j.toNat) (tup y i.toNat) = 1) := by
        rcases hc with h | h | h
        · omega
        · exact ⟨h.1, fun w => absurd w (by omega)⟩
        · exact ⟨h.1, fun _ => by rw [tc_s, ← h.2.2, show is = -1 by omega]; rfl⟩
      have r := ga_tg hA hB hS hg rfl rfl h0.2 h0.1 q
      refine ⟨tup y i.toNat, ?_, ?_, fun _ => rfl, fun w => absurd w c1⟩
      · unfold mvJ mvI
        rw [if_neg (by omega), if_pos (by omega)]; exact r.1
      · rw [r.2, eb, tyP_n h1 (by omega), tyP_y h2 (by omega), Int32.zero_add]
end Mvm
