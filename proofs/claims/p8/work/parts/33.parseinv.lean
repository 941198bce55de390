def yF (g : gG) (I I' : gI) : Prop := ∀ b c, gO g b c → c ≠ 0 → c ≠ 1 → c ≠ 2 → c ≠ 5 → I' b = I b
theorem yF_r {g : gG} {I : gI} : yF g I I := fun _ _ _ _ _ _ _ => rfl
theorem yF_t {g : gG} {I I' I'' : gI} (h : yF g I I') (h' : yF g I' I'') : yF g I I'' := fun b c hb h0 h1 h2 h5 => (h' b c hb h0 h1 h2 h5).trans (h b c hb h0 h1 h2 h5)
theorem yF_o {g : gG} {I I' : gI} {o d : Nat} (ho : gO g o d) (hd : d = 0 ∨ d = 1 ∨ d = 2 ∨ d = 5) (f : ∀ b, b ≠ o → I' b = I b) : yF g I I' := fun b c hb h0 h1 h2 h5 => f b (gO_ne hb ho (by omega))
theorem xS_R {g : gG} {gh : gGh} {R R' AR : gR} {x p b n : Nat} (h : xS g gh R AR x p b n) (e : ∀ k, R' x k = R x k) : xS g gh R' AR x p b n := ⟨h.1, by rw [e]; exact h.2.1, h.2.2.1, by rw [e]; exact h.2.2.2.1, h.2.2.2.2.1, by rw [e]; exact h.2.2.2.2.2.1, h.2.2.2.2.2.2⟩
