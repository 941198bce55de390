theorem kind0_step {f f' : Nat → Int32} {M cl one oth ps : Int} (hM : 0 ≤ M) (h : ∀ r : Int, 0 ≤ r → r < M → tI f (40 * r) = 0) (hp : hP f f' M 0 cl one oth ps) : ∀ r : Int, 0 ≤ r → r < M + 1 → tI f' (40 * r) = 0 := fun r h0 h1 => by
  by_cases q : r = M
  · rw [q]; exact hp.2.1
  · rw [hp.1 _ (by omega) (by omega)]; exact h r h0 (by omega)
theorem mCp {g : gG} {gh : gGh} {R : gR} {I AI AI' : gI} {m : Nat} {i v : Int} (hv : mInv g gh R I AI) (hm : gO g m 7) (h0 : 0 ≤ i) (e : AI' = gup2 AI (gh 50 0) i.toNat (iI v)) (ev : v = (AI (gh 53 0) i.toNat).toInt)
    (h : ∀ y : Int, 0 ≤ y → y < i → tI (AI (gh 50 0)) y = tI (AI (gh 53 0)) y) : ∀ y : Int, 0 ≤ y → y < i + 1 → tI (AI' (gh 50 0)) y = tI (AI' (gh 53 0)) y := fun y a b => by
  have e3 : AI' (gh 53 0) = AI (gh 53 0) := mK hv hm (p := (3, 640)) (q := (0, 640)) (by decide) (by decide) (by decide) (fun b hb => by rw [e]; exact funext fun j => gup2_a _ _ hb)
  rw [e3, e]
  by_cases q : y = i
  · rw [q, ev]; unfold tI; rw [gup2_s, iI_self]
  · rw [tI_k h0 a q]; exact h y a (by omega)
theorem hdX7_tableTold : yX7_tableTold.cls = RX7 ∧ yX7_tableTold.cls ≠ "java/lang/invoke/MethodHandle" ∧ yX7_tableTold.cls ≠ "java/lang/invoke/VarHandle" ∧ (parseMethodDescriptor yX7_tableTold.desc).map (fun d => d.parameters.length) = some 1 := by decide +kernel
theorem hdX7_viewTold : yX7_viewTold.cls = RX7 ∧ yX7_viewTold.cls ≠ "java/lang/invoke/MethodHandle" ∧ yX7_viewTold.cls ≠ "java/lang/invoke/VarHandle" ∧ (parseMethodDescriptor yX7_viewTold.desc).map (fun d => d.parameters.length) = some 0 := by decide +kernel
