section ReckInv
variable {g : gG} {gh : gGh} {R AR : gR} {I AI : gI} {a : Nat}
theorem gR_rk0 (hv : gInv g gh R AR I AI) (ha : gO g a 3) : R a 0 = some (gh 30 0) ∧ gAr g (gh 30 0) 9 5 := ⟨(hv.2.2.2.2.2.2.2.1 a ha).1.1, (hv.2.2.2.2.2.2.2.1 a ha).1.2.1⟩
theorem gR_rk1 (hv : gInv g gh R AR I AI) (ha : gO g a 3) : R a 1 = some (gh 31 0) ∧ gAr g (gh 31 0) 9 8 := ⟨(hv.2.2.2.2.2.2.2.1 a ha).2.1.1, (hv.2.2.2.2.2.2.2.1 a ha).2.1.2.1⟩
theorem gR_rk2 (hv : gInv g gh R AR I AI) (ha : gO g a 3) : R a 2 = some (gh 32 0) ∧ gAr g (gh 32 0) 9 480 := ⟨(hv.2.2.2.2.2.2.2.1 a ha).2.2.1, (hv.2.2.2.2.2.2.2.1 a ha).2.2.2.1⟩
theorem ro30 (hv : gInv g gh R AR I AI) (ha : gO g a 3) : gh 9 (gh 30 0) = 0 := (hv.2.2.2.2.2.2.2.1 a ha).1.2.2
theorem ro31 (hv : gInv g gh R AR I AI) (ha : gO g a 3) : gh 9 (gh 31 0) = 0 := (hv.2.2.2.2.2.2.2.1 a ha).2.1.2.2
theorem ro32 (hv : gInv g gh R AR I AI) (ha : gO g a 3) : gh 9 (gh 32 0) = 0 := (hv.2.2.2.2.2.2.2.1 a ha).2.2.2.2
def rF (g : gG) (I I' : gI) : Prop := ∀ b c, gO g b c → c ≠ 4 → I' b = I b
theorem rF_r {I : gI} : rF g I I := fun _ _ _ _ => rfl
theorem rF_t {I I' I'' : gI} (h : rF g I I') (h' : rF g I' I'') : rF g I I'' := fun b c hb hc => (h' b c hb hc).trans (h b c hb hc)
theorem rF_o {I I' : gI} {o : Nat} (ho : gO g o 4) (f : ∀ b, b ≠ o → I' b = I b) : rF g I I' := fun b _ hb hc => f b (gO_ne hb ho hc)
end ReckInv
