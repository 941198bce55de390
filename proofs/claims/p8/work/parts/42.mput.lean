section MPut
variable {g : gG} {gh : gGh} {R : gR} {I AI : gI} {m : Nat}
theorem mP8 {z : Int} (hv : mInv g gh R I AI) (hm : gO g m 7) (h0 : 0 ≤ z) (h9 : z ≤ 8) : mInv g gh R (gup2 I m 8 (iI z)) AI := mInv_f hv hm (by decide) (by
  have h := mI hv hm
  unfold mNum at h ⊢
  rw [gup2_k (j := 2) (k := 8) _ _ (by decide), gup2_k (j := 5) (k := 8) _ _ (by decide), gup2_k (j := 14) (k := 8) _ _ (by decide), gup2_k (j := 16) (k := 8) _ _ (by decide), gup2_k (j := 18) (k := 8) _ _ (by decide), gup2_k (j := 19) (k := 8) _ _ (by decide), gup2_k (j := 20) (k := 8) _ _ (by decide), gup2_k (j := 21) (k := 8) _ _ (by decide), gup2_k (j := 23) (k := 8) _ _ (by decide), gup2_k (j := 24) (k := 8) _ _ (by decide), gup2_k (j := 26) (k := 8) _ _ (by decide), gup2_s, iI_val ⟨by omega, by omega⟩]
  omega)
theorem mP14 {z : Int} (hv : mInv g gh R I AI) (hm : gO g m 7) (h0 : 0 ≤ z) (h9 : z ≤ 40) : mInv g gh R (gup2 I m 14 (iI z)) AI := mInv_f hv hm (by decide) (by
  have h := mI hv hm
  unfold mNum at h ⊢
  rw [gup2_k (j := 2) (k := 14) _ _ (by decide), gup2_k (j := 5) (k := 14) _ _ (by decide), gup2_k (j := 8) (k := 14) _ _ (by decide), gup2_k (j := 16) (k := 14) _ _ (by decide), gup2_k (j := 18) (k := 14) _ _ (by decide), gup2_k (j := 19) (k := 14) _ _ (by decide), gup2_k (j := 20) (k := 14) _ _ (by decide), gup2_k (j := 21) (k := 14) _ _ (by decide), gup2_k (j := 23) (k := 14) _ _ (by decide), gup2_k (j := 24) (k := 14) _ _ (by decide), gup2_k (j := 26) (k := 14) _ _ (by decide), gup2_s, iI_val ⟨by omega, by omega⟩]
  omega)
theorem mP16 {z : Int} (hv : mInv g gh R I AI) (hm : gO g m 7) (h0 : 0 ≤ z) (h9 : z ≤ 936) : mInv g gh R (gup2 I m 16 (iI z)) AI := mInv_f hv hm (by decide) (by
  have h := mI hv hm
  unfold mNum at h ⊢
  rw [gup2_k (j := 2) (k := 16) _ _ (by decide), gup2_k (j := 5) (k := 16) _ _ (by decide), gup2_k (j := 8) (k := 16) _ _ (by decide), gup2_k (j := 14) (k := 16) _ _ (by decide), gup2_k (j := 18) (k := 16) _ _ (by decide), gup2_k (j := 19) (k := 16) _ _ (by decide), gup2_k (j := 20) (k := 16) _ _ (by decide), gup2_k (j := 21) (k := 16) _ _ (by decide), gup2_k (j := 23) (k := 16) _ _ (by decide), gup2_k (j := 24) (k := 16) _ _ (by decide), gup2_k (j := 26) (k := 16) _ _ (by decide), gup2_s, iI_val ⟨by omega, by omega⟩]
  omega)
theorem mP18 {z : Int} (hv : mInv g gh R I AI) (hm : gO g m 7) (h0 : 0 ≤ z) (h9 : z ≤ 936) : mInv g gh R (gup2 I m 18 (iI z)) AI := mInv_f hv hm (by decide) (by
  have h := mI hv hm
  unfold mNum at h ⊢
  rw [gup2_k (j := 2) (k := 18) _ _ (by decide), gup2_k (j := 5) (k := 18) _ _ (by decide), gup2_k (j := 8) (k := 18) _ _ (by decide), gup2_k (j := 14) (k := 18) _ _ (by decide), gup2_k (j := 16) (k := 18) _ _ (by decide), gup2_k (j := 19) (k := 18) _ _ (by decide), gup2_k (j := 20) (k := 18) _ _ (by decide), gup2_k (j := 21) (k := 18) _ _ (by decide), gup2_k (j := 23) (k := 18) _ _ (by decide), gup2_k (j := 24) (k := 18) _ _ (by decide), gup2_k (j := 26) (k := 18) _ _ (by decide), gup2_s, iI_val ⟨by omega, by omega⟩]
  omega)
theorem mP19 {z : Int} (hv : mInv g gh R I AI) (hm : gO g m 7) (h0 : 0 ≤ z) (h9 : z ≤ 937) : mInv g gh R (gup2 I m 19 (iI z)) AI := mInv_f hv hm (by decide) (by
  have h := mI hv hm
  unfold mNum at h ⊢
  rw [gup2_k (j := 2) (k := 19) _ _ (by decide), gup2_k (j := 5) (k := 19) _ _ (by decide), gup2_k (j := 8) (k := 19) _ _ (by decide), gup2_k (j := 14) (k := 19) _ _ (by decide), gup2_k (j := 16) (k := 19) _ _ (by decide), gup2_k (j := 18) (k := 19) _ _ (by decide), gup2_k (j := 20) (k := 19) _ _ (by decide), gup2_k (j := 21) (k := 19) _ _ (by decide), gup2_k (j := 23) (k := 19) _ _ (by decide), gup2_k (j := 24) (k := 19) _ _ (by decide), gup2_k (j := 26) (k := 19) _ _ (by decide), gup2_s, iI_val ⟨by omega, by omega⟩]
  omega)
theorem mP20 {z : Int} (hv : mInv g gh R I AI) (hm : gO g m 7) (h0 : 0 ≤ z) (h9 : z ≤ 937) : mInv g gh R (gup2 I m 20 (iI z)) AI := mInv_f hv hm (by decide) (by
  have h := mI hv hm
  unfold mNum at h ⊢
  rw [gup2_k (j := 2) (k := 20) _ _ (by decide), gup2_k (j := 5) (k := 20) _ _ (by decide), gup2_k (j := 8) (k := 20) _ _ (by decide), gup2_k (j := 14) (k := 20) _ _ (by decide), gup2_k (j := 16) (k := 20) _ _ (by decide), gup2_k (j := 18) (k := 20) _ _ (by decide), gup2_k (j := 19) (k := 20) _ _ (by decide), gup2_k (j := 21) (k := 20) _ _ (by decide), gup2_k (j := 23) (k := 20) _ _ (by decide), gup2_k (j := 24) (k := 20) _ _ (by decide), gup2_k (j := 26) (k := 20) _ _ (by decide), gup2_s, iI_val ⟨by omega, by omega⟩]
  omega)
theorem mP24 {z : Int} (hv : mInv g gh R I AI) (hm : gO g m 7) (h0 : 0 ≤ z) (h9 : z ≤ 10000) : mInv g gh R (gup2 I m 24 (iI z)) AI := mInv_f hv hm (by decide) (by
  have h := mI hv hm
  unfold mNum at h ⊢
  rw [gup2_k (j := 2) (k := 24) _ _ (by decide), gup2_k (j := 5) (k := 24) _ _ (by decide), gup2_k (j := 8) (k := 24) _ _ (by decide), gup2_k (j := 14) (k := 24) _ _ (by decide), gup2_k (j := 16) (k := 24) _ _ (by decide), gup2_k (j := 18) (k := 24) _ _ (by decide), gup2_k (j := 19) (k := 24) _ _ (by decide), gup2_k (j := 20) (k := 24) _ _ (by decide), gup2_k (j := 21) (k := 24) _ _ (by decide), gup2_k (j := 23) (k := 24) _ _ (by decide), gup2_k (j := 26) (k := 24) _ _ (by decide), gup2_s, iI_val ⟨by omega, by omega⟩]
  omega)
theorem mP26 {z : Int} (hv : mInv g gh R I AI) (hm : gO g m 7) (h0 : 0 ≤ z) (h9 : z ≤ 1600) : mInv g gh R (gup2 I m 26 (iI z)) AI := mInv_f hv hm (by decide) (by
  have h := mI hv hm
  unfold mNum at h ⊢
  rw [gup2_k (j := 2) (k := 26) _ _ (by decide), gup2_k (j := 5) (k := 26) _ _ (by decide), gup2_k (j := 8) (k := 26) _ _ (by decide), gup2_k (j := 14) (k := 26) _ _ (by decide), gup2_k (j := 16) (k := 26) _ _ (by decide), gup2_k (j := 18) (k := 26) _ _ (by decide), gup2_k (j := 19) (k := 26) _ _ (by decide), gup2_k (j := 20) (k := 26) _ _ (by decide), gup2_k (j := 21) (k := 26) _ _ (by decide), gup2_k (j := 23) (k := 26) _ _ (by decide), gup2_k (j := 24) (k := 26) _ _ (by decide), gup2_s, iI_val ⟨by omega, by omega⟩]
  omega)
theorem mP21 {z : Int} (hv : mInv g gh R I AI) (hm : gO g m 7) (hz : zr z) (hc : z = 1 → 0 ≤ (I m 23).toInt ∧ (I m 23).toInt ≤ 3) : mInv g gh R (gup2 I m 21 (iI z)) AI := mInv_f hv hm (by decide) (by
  have h := mI hv hm
  unfold mNum at h ⊢
  rw [gup2_k (j := 2) (k := 21) _ _ (by decide), gup2_k (j := 5) (k := 21) _ _ (by decide), gup2_k (j := 8) (k := 21) _ _ (by decide), gup2_k (j := 14) (k := 21) _ _ (by decide), gup2_k (j := 16) (k := 21) _ _ (by decide), gup2_k (j := 18) (k := 21) _ _ (by decide), gup2_k (j := 19) (k := 21) _ _ (by decide), gup2_k (j := 20) (k := 21) _ _ (by decide), gup2_k (j := 23) (k := 21) _ _ (by decide), gup2_k (j := 24) (k := 21) _ _ (by decide), gup2_k (j := 26) (k := 21) _ _ (by decide), gup2_s, iI_val ⟨by omega, by omega⟩]
  omega)
theorem mP23 {z : Int} (hv : mInv g gh R I AI) (hm : gO g m 7) (hz : zr z) (hc : (I m 21).toInt = 1 → 0 ≤ z ∧ z ≤ 3) : mInv g gh R (gup2 I m 23 (iI z)) AI := mInv_f hv hm (by decide) (by
  have h := mI hv hm
  unfold mNum at h ⊢
  rw [gup2_k (j := 2) (k := 23) _ _ (by decide), gup2_k (j := 5) (k := 23) _ _ (by decide), gup2_k (j := 8) (k := 23) _ _ (by decide), gup2_k (j := 14) (k := 23) _ _ (by decide), gup2_k (j := 16) (k := 23) _ _ (by decide), gup2_k (j := 18) (k := 23) _ _ (by decide), gup2_k (j := 19) (k := 23) _ _ (by decide), gup2_k (j := 20) (k := 23) _ _ (by decide), gup2_k (j := 21) (k := 23) _ _ (by decide), gup2_k (j := 24) (k := 23) _ _ (by decide), gup2_k (j := 26) (k := 23) _ _ (by decide), gup2_s, iI_val ⟨by omega, by omega⟩]
  omega)
theorem mP9 {v : Int32} (hv : mInv g gh R I AI) (hm : gO g m 7) : mInv g gh R (gup2 I m 9 v) AI := mInv_f hv hm (by decide) (by
  have h := mI hv hm
  unfold mNum at h ⊢
  rw [gup2_k (j := 2) (k := 9) _ _ (by decide), gup2_k (j := 5) (k := 9) _ _ (by decide), gup2_k (j := 8) (k := 9) _ _ (by decide), gup2_k (j := 14) (k := 9) _ _ (by decide), gup2_k (j := 16) (k := 9) _ _ (by decide), gup2_k (j := 18) (k := 9) _ _ (by decide), gup2_k (j := 19) (k := 9) _ _ (by decide), gup2_k (j := 20) (k := 9) _ _ (by decide), gup2_k (j := 21) (k := 9) _ _ (by decide), gup2_k (j := 23) (k := 9) _ _ (by decide), gup2_k (j := 24) (k := 9) _ _ (by decide), gup2_k (j := 26) (k := 9) _ _ (by decide)]
  exact h)
theorem mP10 {v : Int32} (hv : mInv g gh R I AI) (hm : gO g m 7) : mInv g gh R (gup2 I m 10 v) AI := mInv_f hv hm (by decide) (by
  have h := mI hv hm
  unfold mNum at h ⊢
  rw [gup2_k (j := 2) (k := 10) _ _ (by decide), gup2_k (j := 5) (k := 10) _ _ (by decide), gup2_k (j := 8) (k := 10) _ _ (by decide), gup2_k (j := 14) (k := 10) _ _ (by decide), gup2_k (j := 16) (k := 10) _ _ (by decide), gup2_k (j := 18) (k := 10) _ _ (by decide), gup2_k (j := 19) (k := 10) _ _ (by decide), gup2_k (j := 20) (k := 10) _ _ (by decide), gup2_k (j := 21) (k := 10) _ _ (by decide), gup2_k (j := 23) (k := 10) _ _ (by decide), gup2_k (j := 24) (k := 10) _ _ (by decide), gup2_k (j := 26) (k := 10) _ _ (by decide)]
  exact h)
theorem mP17 {v : Int32} (hv : mInv g gh R I AI) (hm : gO g m 7) : mInv g gh R (gup2 I m 17 v) AI := mInv_f hv hm (by decide) (by
  have h := mI hv hm
  unfold mNum at h ⊢
  rw [gup2_k (j := 2) (k := 17) _ _ (by decide), gup2_k (j := 5) (k := 17) _ _ (by decide), gup2_k (j := 8) (k := 17) _ _ (by decide), gup2_k (j := 14) (k := 17) _ _ (by decide), gup2_k (j := 16) (k := 17) _ _ (by decide), gup2_k (j := 18) (k := 17) _ _ (by decide), gup2_k (j := 19) (k := 17) _ _ (by decide), gup2_k (j := 20) (k := 17) _ _ (by decide), gup2_k (j := 21) (k := 17) _ _ (by decide), gup2_k (j := 23) (k := 17) _ _ (by decide), gup2_k (j := 24) (k := 17) _ _ (by decide), gup2_k (j := 26) (k := 17) _ _ (by decide)]
  exact h)
end MPut
