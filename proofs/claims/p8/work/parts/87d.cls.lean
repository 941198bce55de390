/-! what a line of the class holds -/
def lnC (f P : Nat → Int32) (c : LC) : Prop :=
  ((f 0).toInt = c.1 0 ∧ (f 2).toInt = c.1 1 ∧ (f 3).toInt = c.1 2 ∧ (f 4).toInt = c.1 3) ∧
  ((c.1 0 = 1 ∨ c.1 0 = 2 ∨ c.1 0 = 3 ∨ c.1 0 = 7 ∨ c.1 0 = 8) → (f 8).toInt = c.1 4) ∧ ((c.1 0 = 3 ∨ c.1 0 = 8) → (f 5).toInt = c.1 5 ∧ (f 6).toInt = c.1 6) ∧
  (c.1 0 = 1 → ∀ k : Nat, (k : Int) < c.1 4 → (P (4 * k)).toInt = c.2 k 0 ∧ (P (4 * k + 1)).toInt = c.2 k 1 ∧ (P (4 * k + 2)).toInt = c.2 k 2 ∧ (P (4 * k + 3)).toInt = c.2 k 3) ∧
  ((c.1 0 = 2 ∨ c.1 0 = 3 ∨ c.1 0 = 8) → ∀ k : Nat, (k : Int) < c.1 4 → (P (2 * k)).toInt = c.2 k 0 ∧ (P (2 * k + 1)).toInt = c.2 k 1) ∧
  (c.1 0 = 7 → (∀ k : Nat, (k : Int) < c.1 4 → (P k).toInt = c.2 k 0) ∧ (f 11).toInt = 16 + c.1 9 ∧ (f 12).toInt = c.1 10) ∧
  (c.1 0 = 8 → (f 9).toInt = c.1 7 ∧ (f 10).toInt = c.1 8)
theorem lnC_m {f f' P P' : Nat → Int32} {c : LC} (h : lnC f P c) (e : f' = f) (e' : P' = P) : lnC f' P' c := by rw [e, e']; exact h
/-! heads of two bags -/
section Heads
variable {a b : Nat → Int32} {na nb i j v : Int}
theorem oh_lt (h0 : 0 ≤ i) (q : (na ≤ i ∧ v = 1) ∨ (i < na ∧ nb ≤ j ∧ v = -1) ∨ (i < na ∧ j < nb ∧ v = tc (tup a i.toNat) (tup b j.toNat))) (hv : v < 0) : i < na ∧ (j < nb → tc (tup a i.toNat) (tup b j.toNat) = -1) := by
  rcases q with ⟨_, q2⟩ | ⟨q1, q2, _⟩ | ⟨q1, q2, q3⟩
  · exact absurd q2 (by omega)
  · exact ⟨q1, fun h => absurd h (by omega)⟩
  · refine ⟨q1, fun _ => ?_⟩
    have := @tc_r (tup a i.toNat) (tup b j.toNat)
    omega
theorem oh_gt (h0 : 0 ≤ i) (q : (na ≤ i ∧ v = 1) ∨ (i < na ∧ nb ≤ j ∧ v = -1) ∨ (i < na ∧ j < nb ∧ v = tc (tup a i.toNat) (tup b j.toNat))) (hv : 0 < v) (hor : i < na ∨ j < nb) : j < nb ∧ (i < na → tc (tup a i.toNat) (tup b j.toNat) = 1) := by
  rcases q with ⟨q1, q2⟩ | ⟨q1, q2, q3⟩ | ⟨q1, q2, q3⟩
  · exact ⟨by omega, fun h => absurd h (by omega)⟩
  · exact absurd q3 (by omega)
  · refine ⟨q2, fun _ => ?_⟩
    have := @tc_r (tup a i.toNat) (tup b j.toNat)
    omega
theorem oh_eq (h0 : 0 ≤ i) (q : (na ≤ i ∧ v = 1) ∨ (i < na ∧ nb ≤ j ∧ v = -1) ∨ (i < na ∧ j < nb ∧ v = tc (tup a i.toNat) (tup b j.toNat))) (hv : v = 0) : i < na ∧ j < nb ∧ tc (tup a i.toNat) (tup b j.toNat) = 0 := by
  rcases q with ⟨_, q2⟩ | ⟨q1, q2, q3⟩ | ⟨q1, q2, q3⟩
  · exact absurd q2 (by omega)
  · exact absurd q3 (by omega)
  · exact ⟨q1, q2, by omega⟩
end Heads
/-- what a search told, at one place -/
theorem ga_tl {a b f : Nat → Int32} {na nb i j m : Nat} {S : Tup → Int32} {sg : Int32} {iz jz : Int} (hA : okB a na) (hB : okB b nb) (hS : ∀ t, S t = bS a na t + sg * bS b nb t) (h : gaI a b f na nb i j m S) (hi : i = iz.toNat) (hj : j = jz.toNat) (h0 : 0 ≤ iz) (h1 : 0 ≤ jz) (q : iz < (na : Int) ∧ (jz < (nb : Int) → tc (tup a iz.toNat) (tup b jz.toNat) = -1)) : gaT a b na nb i j (iz + 1).toNat j (tup a i) ∧ S (tup a i) = a (6 * i + 4) := by
  subst hi hj
  rw [show (iz + 1).toNat = iz.toNat + 1 by omega]
  exact ga_a hA hB hS h (by omega) (fun w => q.2 (by omega))
theorem ga_tg {a b f : Nat → Int32} {na nb i j m : Nat} {S : Tup → Int32} {sg : Int32} {iz jz : Int} (hA : okB a na) (hB : okB b nb) (hS : ∀ t, S t = bS a na t + sg * bS b nb t) (h : gaI a b f na nb i j m S) (hi : i = iz.toNat) (hj : j = jz.toNat) (h0 : 0 ≤ iz) (h1 : 0 ≤ jz) (q : jz < (nb : Int) ∧ (iz < (na : Int) → tc (tup a iz.toNat) (tup b jz.toNat) = 1)) : gaT a b na nb i j i (jz + 1).toNat (tup b j) ∧ S (tup b j) = sg * b (6 * j + 4) := by
  subst hi hj
  rw [show (jz + 1).toNat = jz.toNat + 1 by omega]
  exact ga_b hA hB hS h (by omega) (fun w => q.2 (by omega))
theorem ga_te {a b f : Nat → Int32} {na nb i j m : Nat} {S : Tup → Int32} {sg : Int32} {iz jz : Int} (hA : okB a na) (hB : okB b nb) (hS : ∀ t, S t = bS a na t + sg * bS b nb t) (h : gaI a b f na nb i j m S) (hi : i = iz.toNat) (hj : j = jz.toNat) (h0 : 0 ≤ iz) (h1 : 0 ≤ jz) (q : iz < (na : Int) ∧ jz < (nb : Int) ∧ tc (tup a iz.toNat) (tup b jz.toNat) = 0) : gaT a b na nb i j (iz + 1).toNat (jz + 1).toNat (tup a i) ∧ S (tup a i) = a (6 * i + 4) + sg * b (6 * j + 4) := by
  subst hi hj
  rw [show (iz + 1).toNat = iz.toNat + 1 by omega, show (jz + 1).toNat = jz.toNat + 1 by omega]
  exact ga_ab hA hB hS (by omega) (by omega) q.2.2
/-! frames of the reckoning -/
def kI (o : Nat) (I I' : gI) : Prop := ∀ b, b ≠ o → I' b = I b
def kA (gh : gGh) (o : Nat) (AI AI' : gI) : Prop := ∀ b, b ≠ gh 0 o → b ≠ gh 30 0 → b ≠ gh 31 0 → b ≠ gh 32 0 → AI' b = AI b
section KFrame
variable {g : gG} {gh : gGh} {R AR : gR} {I I' I'' AI AI' AI'' I0 AI0 : gI} {o x a ln : Nat}
theorem kI_r : kI o I I := fun _ _ => rfl
theorem kI_t (h : kI o I I') (h' : kI o I' I'') : kI o I I'' := fun b hb => (h' b hb).trans (h b hb)
theorem kA_r : kA gh o AI AI := fun _ _ _ _ _ => rfl
theorem kA_t (h : kA gh o AI AI') (h' : kA gh o AI' AI'') : kA gh o AI AI'' := fun b h0 h1 h2 h3 => (h' b h0 h1 h2 h3).trans (h b h0 h1 h2 h3)
theorem kA_o (h : ∀ b, b ≠ gh 0 o → AI' b = AI b) : kA gh o AI AI' := fun b h0 _ _ _ => h b h0
theorem kA_0 (h : ∀ b, b ≠ gh 30 0 → AI' b = AI b) : kA gh o AI AI' := fun b _ h0 _ _ => h b h0
theorem kA_1 (h : ∀ b, b ≠ gh 31 0 → AI' b = AI b) : kA gh o AI AI' := fun b _ _ h0 _ => h b h0
theorem kA_2 (h : ∀ b, b ≠ gh 32 0 → AI' b = AI b) : kA gh o AI AI' := fun b _ _ _ h0 => h b h0
theorem cells_ne (hv : gInv g gh R AR I AI) (ho : gO g o 4) (hx : gO g x 4) (h : x ≠ o) : gh 0 x ≠ gh 0 o := fun e => h (by rw [← (hv.1 x hx).1.2.2.2, e, (hv.1 o ho).1.2.2.2])
theorem cells_9 (hv : gInv g gh R AR I AI) (hx : gO g x 4) : gh 9 (gh 0 x) = 1 := (hv.1 x hx).1.2.2.1
theorem ne_9 {b d n m : Nat} (hb : gh 9 b = n) (hd : gh 9 d = m) (h : n ≠ m) : b ≠ d := fun e => h (by rw [← hb, ← hd, e])
theorem cells_k (hv : gInv g gh R AR I AI) (ha : gO g a 3) (hx : gO g x 4) : gh 0 x ≠ gh 30 0 ∧ gh 0 x ≠ gh 31 0 ∧ gh 0 x ≠ gh 32 0 :=
  ⟨ne_9 (cells_9 hv hx) (ro30 hv ha) (by decide), ne_9 (cells_9 hv hx) (ro31 hv ha) (by decide), ne_9 (cells_9 hv hx) (ro32 hv ha) (by decide)⟩
theorem kA_x (f : kA gh o AI AI') (hv : gInv g gh R AR I0 AI0) (ha : gO g a 3) (ho : gO g o 4) (hx : gO g x 4) (h : x ≠ o) : AI' (gh 0 x) = AI (gh 0 x) :=
  f _ (cells_ne hv ho hx h) (cells_k hv ha hx).1 (cells_k hv ha hx).2.1 (cells_k hv ha hx).2.2
theorem ln_9 (hv : gInv g gh R AR I AI) (hl : gO g ln 0) : gh 9 (gh 3 ln) = 2 := (hv.2.2.1 ln hl).1.2.2.1
theorem kA_l (f : kA gh o AI AI') (hv : gInv g gh R AR I0 AI0) (ha : gO g a 3) (ho : gO g o 4) (hl : gO g ln 0) : AI' (gh 3 ln) = AI (gh 3 ln) :=
  f _ (ne_9 (ln_9 hv hl) (cells_9 hv ho) (by decide)) (ne_9 (ln_9 hv hl) (ro30 hv ha) (by decide)) (ne_9 (ln_9 hv hl) (ro31 hv ha) (by decide)) (ne_9 (ln_9 hv hl) (ro32 hv ha) (by decide))
theorem rk_ne (hv : gInv g gh R AR I AI) (ha : gO g a 3) : gh 30 0 ≠ gh 31 0 ∧ gh 30 0 ≠ gh 32 0 ∧ gh 31 0 ≠ gh 32 0 := by
  have a0 := (gR_rk0 hv ha).2.2.2
  have a1 := (gR_rk1 hv ha).2.2.2
  have a2 := (gR_rk2 hv ha).2.2.2
  refine ⟨fun e => ?_, fun e => ?_, fun e => ?_⟩
  · rw [e] at a0; omega
  · rw [e] at a0; omega
  · rw [e] at a1; omega
end KFrame
/-! a part of the rows goes over, in order -/
def selI (f : Nat → Int32) (m : Nat) (x : Nat → Int32) (n i : Nat) (S : Tup → Int32) : Prop :=
  isB f m S zM ∧ m ≤ i ∧ ∀ r k, r < m → i ≤ k → k < n → tc (tup f r) (tup x k) = -1
section Sel
variable {f f' x : Nat → Int32} {m n i : Nat} {S : Tup → Int32} {κ : Tup → Tup} {α : Tup → Int32 → Int32} {iz : Int}
theorem selI_0 : selI f 0 x n 0 s0T := ⟨isW_0 (fun t h => h rfl), Nat.le_refl _, fun r k h => absurd h (Nat.not_lt_zero r)⟩
theorem selI_no (h : selI f m x n i (sR κ α x i s0T)) (ha : α (tup x i) (x (6 * i + 4)) = 0) : selI f m x n (i + 1) (sR κ α x (i + 1) s0T) := by
  rw [sR, ha, sAdd_0]
  exact ⟨h.1, by have := h.2.1; omega, fun r k hr hk hn => h.2.2 r k hr (by omega) hn⟩
theorem selI_ap (hx : okB x n) (hi : i < n) (h : selI f m x n i (sR κ α x i s0T)) (hk : κ (tup x i) = tup x i) (ha : α (tup x i) (x (6 * i + 4)) ≠ 0) (e : insW f f' m m (tup x i) (α (tup x i) (x (6 * i + 4))) 0) : selI f' (m + 1) x n (i + 1) (sR κ α x (i + 1) s0T) := by
  rw [sR, hk]
  refine ⟨isB_ap h.1 (fun r hr => h.2.2 r i hr (Nat.le_refl _) hi) e ha, by have := h.2.1; omega, fun r k hr hk hn => ?_⟩
  by_cases w : r < m
  · rw [rwS_t (e.1 r w)]; exact h.2.2 r k w (by omega) hn
  · rw [show r = m by omega, e.2.1.1]; exact hx.1 i k (by omega) hn
end Sel
/-- a bag whose sum goes over rows has no more of them -/
def prjI (f : Nat → Int32) (m i : Nat) (S : Tup → Int32) : Prop := isB f m S zM ∧ m ≤ i
theorem add_le {f f' : Nat → Int32} {lim len len' x z : Int} {v : Nat → Int} (h : addP 4 lim f f' len len' v x z) : len' ≤ len + 1 := by
  rcases h with ⟨_, _, _, h⟩ | ⟨_, _, _, _, h⟩
  · rcases h with ⟨_, _, h, _⟩ | ⟨_, _, _, h, _⟩ | ⟨_, _, _, h, _⟩ <;> omega
  · rcases h with ⟨_, h, _⟩ | ⟨_, h, _⟩ <;> omega
/-- a key of a few cells is a tuple -/
theorem key_tu {f : Nat → Int32} {t : Tup} (h : ∀ k, k < 4 → f k = tg t k) : ∀ k, k < 4 → rk f 0 k = tu t k := fun k hk => by
  unfold rk tu
  rw [show (0 : Int).toNat + k = k by simp, h k hk]
theorem prj_step {f f' x : Nat → Int32} {m i : Nat} {κ : Tup → Tup} {α : Tup → Int32 → Int32} {lim len len' z n : Int} {v : Nat → Int} (h : prjI f m i (sR κ α x i s0T)) (hl : len = (m : Int)) (q : addP 4 lim f f' len len' v n z) (hv : ∀ k, k < 4 → v k = tu (κ (tup x i)) k) (hx : iI n = α (tup x i) (x (6 * i + 4))) (zn : zr n) (hlim : len < lim) : z = 1 ∧ 0 ≤ len' ∧ prjI f' len'.toNat (i + 1) (sR κ α x (i + 1) s0T) := by
  subst hl
  have hle := add_le q
  have hm := h.2
  rcases isB_add h.1 hv q zn with ⟨a, b, d⟩ | ⟨_, a, _⟩
  · rw [hx] at d
    exact ⟨a, b, d, by omega⟩
  · omega
theorem vK_id {c : LC} {t : Tup} (h : c.1 0 ≠ 2) : vK c t = t := if_neg h
theorem vK_2 {c : LC} {t : Tup} (h : c.1 0 = 2) : vK c t = trT c (tg t) := if_pos h
theorem vA1_y {c : LC} {t : Tup} {a : Int32} (h : c.1 0 = 1) (k : hldP c t) : vA c t a = a := by unfold vA; rw [if_pos h, pI_y k]
theorem vA1_n {c : LC} {t : Tup} {a : Int32} (h : c.1 0 = 1) (k : ¬ hldP c t) : vA c t a = 0 := by unfold vA; rw [if_pos h, pI_n k]
theorem vA6_y {c : LC} {t : Tup} {a : Int32} (h : c.1 0 = 6) (k : 0 < a.toInt) : vA c t a = 1 := by unfold vA; rw [if_neg (by omega), if_pos h, pI_y k]
theorem vA6_n {c : LC} {t : Tup} {a : Int32} (h : c.1 0 = 6) (k : ¬ 0 < a.toInt) : vA c t a = 0 := by unfold vA; rw [if_neg (by omega), if_pos h, pI_n k]
theorem vA_id {c : LC} {t : Tup} {a : Int32} (h : c.1 0 ≠ 1) (k : c.1 0 ≠ 6) : vA c t a = a := by unfold vA; rw [if_neg h, if_neg k]
theorem rowt {f : Nat → Int32} {i : Int} (h : 0 ≤ i) : ∀ j, j < 4 → f ((i * 6).toNat + j) = tg (tup f i.toNat) j := fun j hj => by rw [tg_up j hj]; congr 1; omega
theorem tst3_y {v s w : Int} (h1 : s = 61 → v = w) (h2 : s = 60 → v < w) (h3 : s ≠ 61 → s ≠ 60 → w < v) : tst3 v s w := by
  unfold tst3
  by_cases a : s = 61
  · rw [if_pos a]; exact h1 a
  · rw [if_neg a]
    by_cases b : s = 60
    · rw [if_pos b]; exact h2 b
    · rw [if_neg b]; exact h3 a b
theorem tst3_e {v s w : Int} (h : tst3 v s w) : (s = 61 ∧ v = w) ∨ (s = 60 ∧ v < w) ∨ (s ≠ 61 ∧ s ≠ 60 ∧ w < v) := by
  unfold tst3 at h
  by_cases a : s = 61
  · rw [if_pos a] at h; exact Or.inl ⟨a, h⟩
  · rw [if_neg a] at h
    by_cases b : s = 60
    · rw [if_pos b] at h; exact Or.inr (Or.inl ⟨b, h⟩)
    · rw [if_neg b] at h; exact Or.inr (Or.inr ⟨a, b, h⟩)
