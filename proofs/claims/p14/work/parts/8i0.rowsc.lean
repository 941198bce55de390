section
/-! what the class's lines hold so far; what a plan leaves of the class -/
def rowsC (gh : gGh) (AR : gR) (I AI : gI) (q : Nat) (b : tTx) (n nr : Nat) (nt : Nat → Nat) (cl : Nat → Int) : Prop :=
  ∀ r : Nat, r < nr → LG b n nt cl r ∧ ∀ y, AR (gh 6 q) r = some y → (I y 0).toInt = kdT b n (nt r) ∧ kLn b n r nt cl (nt r + 3) (I y) (AI (gh 3 y)) (kdT b n (nt r))
section LgC
variable {b : tTx} {n nr r : Nat} {nt : Nat → Nat} {cl : Nat → Int}
theorem LG_1c (hc : ∀ u, u < r → 1 ≤ cl u ∧ cl u ≤ 4) (g : LG b n nt cl r) : 1 ≤ cl r := by
  rcases kd_cs g.1 with e | e | e | e | e | e | e | e
  · have q := g.2
    rw [show bTk b n (nt r) = nt r + 1 from if_pos e, e] at q
    have q1 : (sTc b n (nt r + 1)).1 = 0 := q.1
    have q2 : (sTc b n (nt r + 1)).2.2 = cl r := q.2.1
    rw [← q2]
    unfold sTc at q1 ⊢
    by_cases a : pK b n (nt r + 1) = 4
    · rw [if_pos a] at q1 ⊢
      by_cases d : 1 ≤ pV b n (nt r + 1) ∧ pV b n (nt r + 1) ≤ 4
      · rw [if_pos d]; exact d.1
      · rw [if_neg d] at q1; exact (pr_no q1 (by decide)).elim
    · rw [if_neg a] at q1; exact (pr_no q1 (by decide)).elim
  · have w := gSel (LG_1 g e).1
    rw [← (LG_1 g e).2, w.2.1]; exact (hc _ (by have := pFd_r (b := b) (n := n) (r := r) (nt := nt) (nt r + 3); omega)).1
  · have w := gPrj hc (LG_2 g e).1
    rw [← (LG_2 g e).2, w.2.1]; omega
  · have w := gJoi (LG_3 g e).1
    obtain ⟨w1, w2, ⟨L', w3, w4⟩, w5⟩ := w
    rw [← (LG_3 g e).2, w3]
    have := (hc (pFd b n nt r (nt r + 3)).toNat (by have := pFd_r (b := b) (n := n) (r := r) (nt := nt) (nt r + 3); omega)).1
    have j0 : ∀ m : Nat, 0 ≤ jC L' m := by
      intro m
      induction m with
      | zero => exact Int.le_refl 0
      | succ m ih => rw [jC]; by_cases z : (m : Int) ∈ L'; (· rw [if_pos z]; omega); (· rw [if_neg z]; omega)
    have := j0 (cF b n r nt cl (nt r + 3 + 1)).toNat
    unfold cF at *; omega
  · have w := gTwo (LG_4 g e).1
    rw [← (LG_4 g e).2, w.2.2.1]; exact (hc _ (by have := pFd_r (b := b) (n := n) (r := r) (nt := nt) (nt r + 3); omega)).1
  · have w := sRl_h rfl (LG_6 g e).1
    rw [← (LG_6 g e).2, w.2.1]; exact (hc _ (by have := pFd_r (b := b) (n := n) (r := r) (nt := nt) (nt r + 3); have := w.2.2; omega)).1
  · have w := gGrp (LG_7 g e).1
    rw [← (LG_7 g e).2, w.2.1]; omega
  · have w := gRng hc (LG_8 g e).1
    rw [← (LG_8 g e).2, w.2.2.1]
    unfold rX
    by_cases z : cF b n r nt cl (nt r + 3) + cF b n r nt cl (nt r + 3 + 2) ≤ 4 ∧ ((iCnt (nxE b n) (spC b n) 5 (nt r + 3 + 8) : Nat) : Int) = cF b n r nt cl (nt r + 3)
    · rw [if_pos z]; exact (hc _ (by have := pFd_r (b := b) (n := n) (r := r) (nt := nt) (nt r + 3); omega)).1
    · rw [if_neg z]; decide
theorem LG_cl : ∀ (m : Nat), (∀ r, r < m → LG b n nt cl r) → ∀ r, r < m → 1 ≤ cl r ∧ cl r ≤ 4
  | 0, _, r, hr => absurd hr (Nat.not_lt_zero r)
  | m + 1, h, r, hr => by
    have ih := LG_cl m (fun u hu => h u (by omega))
    by_cases q : r < m
    · exact ih r q
    · have : r = m := by omega
      subst this
      exact ⟨LG_1c ih (h r hr), (h r hr).2.2.2⟩
end LgC
section RowsC
variable {g : gG} {gh : gGh} {R AR : gR} {I I' I0 AI AI' AI0 : gI} {q ln h0 : Nat} {b : tTx} {n nr : Nat} {nt : Nat → Nat} {cl : Nat → Int} {x kd : Int} {f f' P : Nat → Int32} {h : Nat}
theorem rowsC_0 : rowsC gh AR I AI q b n 0 nt cl := fun r hr => absurd hr (Nat.not_lt_zero r)
theorem rowsC_cl (h : rowsC gh AR I AI q b n nr nt cl) : ∀ r, r < nr → 1 ≤ cl r ∧ cl r ≤ 4 := LG_cl nr (fun r hr => (h r hr).1)
theorem kLn_f (e : ∀ j, j ≠ 13 → j ≠ 14 → f' j = f j) (w : kLn b n nr nt cl h f P kd) : kLn b n nr nt cl h f' P kd := by
  unfold kLn kSel kPrj kJoi kTwo kOne kGrp kRng kFo at w ⊢
  rw [e 3 (by decide) (by decide), e 4 (by decide) (by decide), e 5 (by decide) (by decide), e 6 (by decide) (by decide), e 8 (by decide) (by decide), e 9 (by decide) (by decide), e 10 (by decide) (by decide), e 11 (by decide) (by decide), e 12 (by decide) (by decide)]
  exact w
theorem kLn_b {t : Nat} (w : kLn b n nr nt cl (bTk b n t) f P (kdT b n t)) : kLn b n nr nt cl (t + 3) f P (kdT b n t) := by
  unfold bTk at w
  by_cases k : kdT b n t = 0
  · rw [if_pos k, k] at w
    rw [k]
    unfold kLn at w ⊢
    rw [if_neg (by decide), if_neg (by decide), if_neg (by decide), if_neg (by decide), if_neg (by decide), if_neg (by decide), if_neg (by decide)] at w ⊢
    exact w
  · rw [if_neg k] at w; exact w
theorem ln3_ne (hv : gInv g gh R AR I0 AI0) {y z : Nat} (hy : gO g y 0) (hz : gO g z 0) (h : y ≠ z) : gh 3 y ≠ gh 3 z := fun e => h (by rw [← (hv.2.2.1 y hy).1.2.2.2.1, e, (hv.2.2.1 z hz).1.2.2.2.1])
/-- other things have changed -/
theorem rowsC_f (hv : gInv g gh R AR I0 AI0) (hq : gO g q 2) (h16 : nr ≤ 16) (w : rowsC gh AR I AI q b n nr nt cl) (e : ∀ y, gO g y 0 → gh 4 y = q → gh 5 y < nr → (∀ j, j ≠ 13 → j ≠ 14 → I' y j = I y j) ∧ AI' (gh 3 y) = AI (gh 3 y)) : rowsC gh AR I' AI' q b n nr nt cl := fun r hr => by
  refine ⟨(w r hr).1, fun y hy => ?_⟩
  obtain ⟨y', hy', h0, h4, h5⟩ := (hv.2.2.2.1 q hq).1.2.2.1 r (by omega)
  have ey : y = y' := Option.some.inj (hy.symm.trans hy')
  subst ey
  obtain ⟨e1, e2⟩ := e y h0 h4 (by omega)
  have z := (w r hr).2 y hy
  rw [e1 0 (by decide) (by decide), e2]
  exact ⟨z.1, kLn_f e1 z.2⟩
/-- one line more -/
theorem rowsC_s (hv : gInv g gh R AR I0 AI0) (hq : gO g q 2) (h15 : nr ≤ 15) (h0 : gO g ln 0) (h4 : gh 4 ln = q) (h5 : gh 5 ln = nr) (w : rowsC gh AR I AI q b n nr nt cl) {t : Nat} (hg : LG b n (sUp nt nr t) (sUp cl nr x) nr) (hk : (I ln 0).toInt = kdT b n t) (hl : kLn b n nr nt cl (t + 3) (I ln) (AI (gh 3 ln)) (kdT b n t)) : rowsC gh AR I AI q b n (nr + 1) (sUp nt nr t) (sUp cl nr x) := fun r hr => by
  have hc := rowsC_cl w
  by_cases k : r = nr
  · subst k
    refine ⟨hg, fun y hy => ?_⟩
    have z := (hv.2.2.2.1 q hq).1.2.2.2 ln h0 h4
    rw [h5] at z
    have ey : y = ln := Option.some.inj (hy.symm.trans z)
    subst ey
    rw [sUp_s]
    refine ⟨hk, ?_⟩
    have g2 := LG_b hg (kd := kdT b n t) (by rw [sUp_s])
    by_cases k3 : kdT b n t = 0
    · unfold kLn at hl ⊢
      rw [if_neg (by omega), if_neg (by omega), if_neg (by omega), if_neg (by omega), if_neg (by omega), if_neg (by omega), if_neg (by omega)] at hl ⊢
      exact hl
    · have g3 := g2 k3
      rw [sUp_s, sBody_cg (fun u hu => sUp_k (by omega)) (fun u hu => sUp_k (by omega))] at g3
      have cF9 : ∀ s, 0 ≤ pFd b n nt r s → cF b n r (sUp nt r t) (sUp cl r x) s = cF b n r nt cl s := fun s a => by
        have c := pFd_r (b := b) (n := n) (r := r) (nt := nt) s
        unfold cF
        rw [show pFd b n (sUp nt r t) r s = pFd b n nt r s from pFd_cg (nt' := sUp nt r t) (nt := nt) (fun u hu => sUp_k (by omega)) s, sUp_k (by omega)]
      refine kLn_cg (fun e => ?_) (fun e => ?_) (fun u hu => sUp_k (by omega)) hl
      · rw [e] at g3
        have gg := gJoi (show (sJoi b n r nt cl (t + 3)).1 = 0 from g3.1)
        exact ⟨cF9 _ gg.1, cF9 _ gg.2.1⟩
      · rw [e] at g3
        have gg := gRng hc (show (sRng b n r nt cl (t + 3)).1 = 0 from g3.1)
        exact ⟨cF9 _ gg.1, cF9 _ gg.2.1⟩
  · have z := w r (by omega)
    refine ⟨LG_cg (fun u hu => sUp_k (by omega)) (fun u hu => sUp_k (by omega)) z.1, fun y hy => ?_⟩
    rw [sUp_k k]
    obtain ⟨z1, z2⟩ := z.2 y hy
    exact ⟨z1, kLn_G (fun u hu => hc u (by omega)) z.1 (fun u hu => sUp_k (by omega)) (fun u hu => sUp_k (by omega)) z2⟩
end RowsC
/-- what a call of plan leaves of the class's bags and lines -/
def plC (g : gG) (gh : gGh) (AR : gR) (I AI I' AI' : gI) (x pA q bA : Nat) (b : tTx) (n : Nat) (z : Int) : Prop :=
  (z < 0 ∧ (∀ o, gO g o 4 → I' o = I o) ∧ (∀ o, gh 9 o = 1 → AI' o = AI o) ∧ (∀ k, k ≠ 1 → I' x k = I x k) ∧ ∀ y, gO g y 0 → gh 4 y = pA → AI' (gh 3 y) = AI (gh 3 y)) ∨
  (0 ≤ z ∧ rowsC gh AR I' AI' q b n (sPlF b n).1 (sPlF b n).2.1 (sPlF b n).2.2.1 ∧ (∀ r, r < 16 → (I' (rob AR bA r) 3).toInt = 0 ∧ (I' (rob AR (gh 35 0) r) 3).toInt = 0) ∧
    (∀ o, gO g o 4 → (∀ r, r < 16 → rob AR bA r ≠ o) → (∀ r, r < 16 → rob AR (gh 35 0) r ≠ o) → o ≠ gh 37 0 → I' o = I o) ∧ (∀ o, gh 9 o = 1 → AI' o = AI o) ∧ (I' x 15).toInt = 0 ∧ (I' x 16).toInt = 0 ∧ (I' x 17).toInt = 0)
theorem zk3 {I I' : gI} {y o : Nat} (e : I' = gup2 I y 3 (iI 0)) (h : (I o 3).toInt = 0) : (I' o 3).toInt = 0 := by
  rw [e]
  by_cases q : o = y
  · subst q; rw [gup2_s]; rfl
  · rw [gup2_a _ _ q]; exact h
theorem zx3 {I I' : gI} {x k o : Nat} {v : Int32} (e : I' = gup2 I x k v) (hk : k ≠ 3) (h : (I o 3).toInt = 0) : (I' o 3).toInt = 0 := by
  rw [e, gup2_k _ _ (fun q => hk q.symm)]; exact h
end
section
def rmX1_readHeadh : Room := { frames := 3, cells := 0, slots := 0, locals := 64 }
set_option maxHeartbeats 4000000 in
set_option maxRecDepth 100000 in
/-- the head of a line -/
theorem c_X1_readHeadh (l : Launch) (g : gG) (gh : gGh) (q : Nat) (b : tTx) (n : Nat) (tl : Int) (nr : Nat) (nt : Nat → Nat) (cl : Nat → Int) (h : Nat) (tb : Int) (I : gI) (R : gR) (J : gJ) (AI : gI) (AJ : gJ) (AR : gR) (a : Nat) (hv : gInv g gh R AR I AI) (h1 : gO g a 1) (hh : (I a 3).toInt < (I (gh 22 0) 4).toInt) (hRq : R a 1 = some q) (hq : gO g q 2) (hP : pH gh AR I J AI AJ a q b n tl nr nt cl h) (htb2 : (I q 2).toInt = tb) : gMet l g yX1_readHead wsX1_readHead rmX1_readHeadh [.ref a] (I, R, J, AI, AJ, AR) (gQi g (fun (z : Int) (w : gS) => AI = w.2.2.2.1 ∧ AJ = w.2.2.2.2.1 ∧ AR = w.2.2.2.2.2 ∧ (gInv g gh (w.2.1) AR (w.1) AI) ∧ (∀ b k, b ≠ a ∨ k ≠ 2 → (w.2.1) b k = R b k) ∧ (∀ b c, gO g b c → c ≠ 0 → c ≠ 1 → (w.1) b = I b) ∧ (((w.1) a 3).toInt < (I (gh 22 0) 4).toInt) ∧ (z = 0 → ∃ ln, pS g gh (w.2.1) (w.1) a q ln ∧ (I q 1).toInt ≤ 15 ∧ ((w.1) ln 0).toInt = (sHd b n nr nt tb h).2.2 ∧ ((w.1) ln 8).toInt = 0 ∧ (w.2.2.1) ln 1 = pN b n (h + 1) ∧ ((w.1) ln 3).toInt = -1 ∧ ((w.1) ln 4).toInt = -1) ∧ (0 ≤ z ∧ z ≤ 6) ∧ (z = (sHd b n nr nt tb h).1) ∧ (pH gh AR (w.1) (w.2.2.1) AI AJ a q b n tl nr nt cl (sHd b n nr nt tb h).2.1) ∧ (∀ y, gO g y 0 → gh 4 y ≠ q → (w.1) y = I y ∧ (w.2.2.1) y = J y) ∧ (∀ y, gO g y 0 → (gh 5 y : Int) ≠ (nr : Int) → (w.1) y = I y))) := by
  refine gStart (cc := cX1_readHead) (maxL := 3) (ret := (some (.int))) (by decide) rfl (Nat.le_of_ble_eq_true rfl) ?_
  intro p e s m below meth c ls F hr hlk hH hz hS hl
  have hl : lv_has ls 3 [(0, .ref a)] := hl
  have hS : va_S (gA g) s.heap s.heap [] := hS
  obtain ⟨H, hHe⟩ : ∃ H : Heap, H = s.heap := ⟨_, rfl⟩
  obtain ⟨locs, hlo⟩ : ∃ k : List Loc, k = [] := ⟨_, rfl⟩
  have hH : gH g I R J AI AJ AR H := by rw [hHe]; exact hH
  have hS : va_S (gA g) s.heap H locs := by rw [hHe, hlo]; exact hS
  suffices hw : W p l e rmX1_readHeadh s m ([.ref a] : List Value).toArray below meth c H locs 0 0 (MQ below (gQi g (fun (z : Int) (w : gS) => AI = w.2.2.2.1 ∧ AJ = w.2.2.2.2.1 ∧ AR = w.2.2.2.2.2 ∧ (gInv g gh (w.2.1) AR (w.1) AI) ∧ (∀ b k, b ≠ a ∨ k ≠ 2 → (w.2.1) b k = R b k) ∧ (∀ b c, gO g b c → c ≠ 0 → c ≠ 1 → (w.1) b = I b) ∧ (((w.1) a 3).toInt < (I (gh 22 0) 4).toInt) ∧ (z = 0 → ∃ ln, pS g gh (w.2.1) (w.1) a q ln ∧ (I q 1).toInt ≤ 15 ∧ ((w.1) ln 0).toInt = (sHd b n nr nt tb h).2.2 ∧ ((w.1) ln 8).toInt = 0 ∧ (w.2.2.1) ln 1 = pN b n (h + 1) ∧ ((w.1) ln 3).toInt = -1 ∧ ((w.1) ln 4).toInt = -1) ∧ (0 ≤ z ∧ z ≤ 6) ∧ (z = (sHd b n nr nt tb h).1) ∧ (pH gh AR (w.1) (w.2.2.1) AI AJ a q b n tl nr nt cl (sHd b n nr nt tb h).2.1) ∧ (∀ y, gO g y 0 → gh 4 y ≠ q → (w.1) y = I y ∧ (w.2.2.1) y = J y) ∧ (∀ y, gO g y 0 → (gh 5 y : Int) ≠ (nr : Int) → (w.1) y = I y))) ([.ref a] : List Value).toArray s 0 0 (gA g)) (F0 m 0 ls []) by
    rw [hHe, hlo] at hw; exact hw
  clear hHe hlo
  have fl : ∀ y, gO g y 0 → gh 4 y ≠ q → I y = I y ∧ J y = J y := fun _ _ _ => ⟨rfl, rfl⟩
  have hnl := pH_l hP
  have fl2 : ∀ y, gO g y 0 → (gh 5 y : Int) ≠ (nr : Int) → I y = I y := fun _ _ _ => rfl
  have iX2 : ∀ w ∈ u_ws RX2 TX2 3, w ∈ wsX1_readHead := (by decide +kernel)
  have iX1 : ∀ w ∈ u_ws RX1 TX1 4, w ∈ wsX1_readHead := (by decide +kernel)
  have k21 : Cond.fieldLink RX1 21 (TX1 1).1 (TX1 1).2.1 (TX1 1).2.2.1 ∈ wsX1_readHead := List.mem_of_getElem? (i := 1) rfl
  have k37 : Cond.fieldLink RX1 37 (TX2 1).1 (TX2 1).2.1 (TX2 1).2.2.1 ∈ wsX1_readHead := List.mem_of_getElem? (i := 2) rfl
  have k41 : Cond.fieldLink RX1 41 (TX2 2).1 (TX2 2).2.1 (TX2 2).2.2.1 ∈ wsX1_readHead := List.mem_of_getElem? (i := 3) rfl
  have k25 : Cond.fieldLink RX1 25 (TX2 0).1 (TX2 0).2.1 (TX2 0).2.2.1 ∈ wsX1_readHead := List.mem_of_getElem? (i := 4) rfl
  have k29 : Cond.fieldLink RX1 29 (TX1 2).1 (TX1 2).2.1 (TX1 2).2.2.1 ∈ wsX1_readHead := List.mem_of_getElem? (i := 5) rfl
  refine lv_aload_n F.1 F.2.1 dX1_readHead_0 rfl (lv_at hl 0 rfl) ?_
  refine z_iconst F dX1_readHead_1 ?_
  refine g_calli (g_runV (As := [.int (iI 0)]) (rest := []) (ci := 1) F hl.1 hH hS hz (c_X1_isWordg l g gh q b n tl nr nt cl h I R J AI AJ AR a 0 ⟨by decide, by decide⟩ hv h1 (by first | exact hp.2.2.2.2.2.2.2 | exact hh | omega) hP) (cwV 1 F.2.2.2.2.1 gX1_readHead_X1_isWord rfl rfl rfl hdX1_isWord ⟨Nat.le_of_ble_eq_true rfl, Nat.le_of_ble_eq_true rfl⟩) h1 (by decide) rfl rfl rfl (Nat.le_of_ble_eq_true rfl) dX1_readHead_2 ⟨Nat.zero_le _, Nat.zero_le _⟩) hS (fun v_7 I_1 R_2 J_3 AI_4 AJ_5 AR_6 H locs zv_7 hp_8 hH hS => ?_)
  dsimp only at hp_8
  obtain ⟨rfl, rfl, rfl, rfl, rfl, rfl, q_9, q_10⟩ := hp_8
  refine lv_istore_n (lv' := [(1, .int (iI v_7)), (0, .ref a)]) F.1 F.2.1 dX1_readHead_5 rfl hl (by decide) rfl (fun ls hl => ?_)
  refine lv_iload_n F.1 F.2.1 dX1_readHead_6 rfl (lv_at hl 0 rfl) ?_
  refine z_if_ne (tgt := 21) F dX1_readHead_7 (by decide) zv_7 (fun c_11 => ?_) (fun c_11 => ?_)
  · have t_12 := tIz_1 q_10 (by omega)
    refine lv_aload_n F.1 F.2.1 dX1_readHead_21 rfl (lv_at hl 1 rfl) ?_
    refine g_getR (ci := 1) (k := 1) F hH rfl (by decide) iX1 h1 (by decide) rfl (b := q) hRq k21 dX1_readHead_22 ?_
    refine g_getI (ci := 2) (k := 1) F hH rfl (by decide) iX2 hq (by decide) rfl k37 dX1_readHead_25 ?_
    have b_13 := gI_plan hv hq
    refine z_bipush F dX1_readHead_28 (by decide) ?_
    refine z_icmp_lt (tgt := 35) F dX1_readHead_30 (by decide) (zr_t _) ⟨by decide, by decide⟩ (fun c_14 => ?_) (fun c_14 => ?_)
    · refine lv_iload_n F.1 F.2.1 dX1_readHead_35 rfl (lv_at hl 0 rfl) ?_
      refine z_if_eq (tgt := 59) F dX1_readHead_36 (by decide) zv_7 (fun c_15 => ?_) (fun c_15 => ?_)
      · exact absurd trivial (by omega)
      · have t_16 := tIz_1 q_10 (by omega)
        refine lv_aload_n F.1 F.2.1 dX1_readHead_39 rfl (lv_at hl 1 rfl) ?_
        refine g_getR (ci := 1) (k := 1) F hH rfl (by decide) iX1 h1 (by decide) rfl (b := q) hRq k21 dX1_readHead_40 ?_
        refine g_getI (ci := 2) (k := 1) F hH rfl (by decide) iX2 hq (by decide) rfl k37 dX1_readHead_43 ?_
        refine lv_aload_n F.1 F.2.1 dX1_readHead_46 rfl (lv_at hl 1 rfl) ?_
        refine g_getR (ci := 1) (k := 1) F hH rfl (by decide) iX1 h1 (by decide) rfl (b := q) hRq k21 dX1_readHead_47 ?_
        refine g_getI (ci := 2) (k := 2) F hH rfl (by decide) iX2 hq (by decide) rfl k41 dX1_readHead_50 ?_
        refine z_icmp_le (tgt := 59) F dX1_readHead_53 (by decide) (zr_t _) (zr_t _) (fun c_17 => ?_) (fun c_17 => ?_)
        · refine lv_aload_n F.1 F.2.1 dX1_readHead_59 rfl (lv_at hl 1 rfl) ?_
          refine g_callv (g_runV (As := []) (rest := []) (ci := 1) F hl.1 hH hS hz (c_X1_stepg l g gh q b n tl nr nt cl h I R J AI AJ AR a hv h1 (by first | exact hp.2.2.2.2.2.2.2 | exact hh | omega) hP (by first | exact hp.2.2.1 | exact hq) (by omega)) (cwV 0 F.2.2.2.2.1 gX1_readHead_X1_step rfl rfl rfl hdX1_step ⟨Nat.le_of_ble_eq_true rfl, Nat.le_of_ble_eq_true rfl⟩) h1 (by decide) rfl rfl rfl (Nat.le_of_ble_eq_true rfl) dX1_readHead_60 ⟨Nat.zero_le _, Nat.zero_le _⟩) hS (fun I_18 R_19 J_20 AI_21 AJ_22 AR_23 H locs hp_24 hH hS => ?_)
          dsimp only at hp_24
          obtain ⟨rfl, rfl, rfl, rfl, rfl, hv, fs, hs, hP⟩ := hp_24
          have hP : pH gh AR I_18 J AI AJ a q b n tl nr nt cl (h + 1) := hP
          have fl : ∀ y, gO g y 0 → gh 4 y ≠ q → I_18 y = I y ∧ J y = J y := fun y hy h4 => ⟨(fs y (gO_ne hy h1 (by decide))).trans (fl y hy h4).1, (fl y hy h4).2⟩
          have fl2 : ∀ y, gO g y 0 → (gh 5 y : Int) ≠ (nr : Int) → I_18 y = I y := fun y hy h5 => (fs y (gO_ne hy h1 (by decide))).trans (fl2 y hy h5)
          have cf : ∀ b c, gO g b c → c ≠ 0 → c ≠ 1 → I_18 b = I b := fun b c hb h0 h1' => fs b (gO_ne hb h1 h1')
          have hq1 : (I_18 q 1).toInt = (I q 1).toInt := by rw [cf q 2 hq (by decide) (by decide)]
          have ht1 : I_18 (gh 22 0) = I (gh 22 0) := cf _ 5 (gR_pr0 hv h1).2 (by decide) (by decide)
          refine lv_aload_n F.1 F.2.1 dX1_readHead_63 rfl (lv_at hl 1 rfl) ?_
          refine lv_aload_n F.1 F.2.1 dX1_readHead_64 rfl (lv_at hl 1 rfl) ?_
          refine g_getR (ci := 1) (k := 1) F hH rfl (by decide) iX1 h1 (by decide) rfl (b := q) hRq k21 dX1_readHead_65 ?_
          obtain ⟨r_25a, r_25b⟩ := gR_lines hv hq
          refine g_getR (ci := 2) (k := 0) F hH rfl (by decide) iX2 hq (by decide) rfl (b := gh 6 q) r_25a k25 dX1_readHead_68 ?_
          refine lv_aload_n F.1 F.2.1 dX1_readHead_71 rfl (lv_at hl 1 rfl) ?_
          refine g_getR (ci := 1) (k := 1) F hH rfl (by decide) iX1 h1 (by decide) rfl (b := q) hRq k21 dX1_readHead_72 ?_
          refine g_getI (ci := 2) (k := 1) F hH rfl (by decide) iX2 hq (by decide) rfl k37 dX1_readHead_75 ?_
          have b_26 := gI_plan hv hq
          have hx78 : 0 ≤ ((I_18 q 1).toInt) ∧ ((I_18 q 1).toInt) < ((16 : Nat) : Int) ∧ ((I_18 q 1).toInt) ≤ 2147483647 := ⟨by omega, by omega, by omega⟩
          obtain ⟨y_27, y_27a, y_27b, y_27c, y_27d⟩ := gA_lines hv hq (z := (I_18 q 1).toInt) (by omega) (by omega)
          refine g_aldL F hH r_25b hx78.1 hx78.2.1 hx78.2.2 (b := y_27) y_27a dX1_readHead_78 ?_
          refine g_putR (ci := 1) (k := 2) F hH hS rfl (by decide) iX1 h1 (by decide) tyX1 tyX1_ok nmX1 rfl (ty := tyX1 2) rfl rfl rfl rfl k29 dX1_readHead_79 (fun H locs hH hS => ?_)
          obtain ⟨R_28, eR_28⟩ : ∃ qQ, qQ = gup2 R a 2 (some (y_27)) := ⟨_, rfl⟩
          rw [← eR_28] at hH
          have kR_28 : ∀ b, b ≠ a → R_28 b = R b := fun b hb => by rw [eR_28]; exact funext fun j => gup2_a _ _ hb
          have hv : gInv g gh R_28 AR I_18 AI := by rw [eR_28]; exact gInv_Rline hv h1 y_27b
          have hRq : R_28 a 1 = some q := by rw [eR_28, gup2_k _ _ (by decide)]; exact hRq
          have hRl : R_28 a 2 = some y_27 := by rw [eR_28, gup2_s]
          have rf : ∀ b k, b ≠ a ∨ k ≠ 2 → R_28 b k = R b k := fun b k h => by rw [eR_28]; rcases h with h | h; exact gup2_a _ _ h; exact gup2_k _ _ h
          refine lv_aload_n F.1 F.2.1 dX1_readHead_82 rfl (lv_at hl 1 rfl) ?_
          refine g_getR (ci := 1) (k := 2) F hH rfl (by decide) iX1 h1 (by decide) rfl (b := y_27) hRl k29 dX1_readHead_83 ?_
          refine z_iconst F dX1_readHead_86 ?_
          have b_29 := gI_line hv y_27b
          unfold vLineI at b_29
          refine g_callv (g_runV (As := [.int (iI 0)]) (rest := []) (ci := 0) F hl.1 hH hS hz (c_X0_clearg l g gh I_18 R_28 J AI AJ AR y_27 0 ⟨by decide, by decide⟩ hv y_27b rfl) (cwV 1 F.2.2.2.2.1 gX1_readHead_X0_clear rfl rfl rfl hdX0_clear ⟨Nat.le_of_ble_eq_true rfl, Nat.le_of_ble_eq_true rfl⟩) y_27b (by decide) rfl rfl rfl (Nat.le_of_ble_eq_true rfl) dX1_readHead_87 ⟨Nat.zero_le _, Nat.zero_le _⟩) hS (fun I_30 R_31 J_32 AI_33 AJ_34 AR_35 H locs hp_36 hH hS => ?_)
          dsimp only at hp_36
          obtain ⟨rfl, rfl, rfl, rfl, rfl, hv, fc, kc, kd34⟩ := hp_36
          have fl : ∀ y, gO g y 0 → gh 4 y ≠ q → I_30 y = I y ∧ J y = J y := fun y hy h4 => ⟨(fc y (fun e => h4 (by rw [e]; exact y_27c))).trans (fl y hy h4).1, (fl y hy h4).2⟩
          have fl2 : ∀ y, gO g y 0 → (gh 5 y : Int) ≠ (nr : Int) → I_30 y = I y := fun y hy h5 => (fc y (fun e => h5 (by rw [e]; have q7 := y_27d; have q8 := pH_l hP; omega))).trans (fl2 y hy h5)
          have hP := pH_g hv h1 hq y_27b y_27c y_27d hP fc
          have cf : ∀ b c, gO g b c → c ≠ 0 → c ≠ 1 → I_30 b = I b := fun b c hb h0 h1' => (fc b (gO_ne hb y_27b h0)).trans (cf b c hb h0 h1')
          have hp : pS g gh R_28 I_30 a q y_27 := ⟨h1, hRq, hq, hRl, y_27b, y_27c, by rw [cf q 2 hq (by decide) (by decide)]; omega, by rw [fc a (gO_ne h1 y_27b (by decide)), cf _ 5 (gR_pr0 hv h1).2 (by decide) (by decide)]; exact hs⟩
          refine lv_aload_n F.1 F.2.1 dX1_readHead_90 rfl (lv_at hl 1 rfl) ?_
          have hpo := hp
          have hPo := hP
          refine g_calli (g_runV (As := []) (rest := []) (ci := 1) F hl.1 hH hS hz (c_X1_readNewNameg l g gh q y_27 b n tl nr nt cl (h + 1) I_30 R_28 J AI AJ AR a hv hp hP) (cwV 0 F.2.2.2.2.1 gX1_readHead_X1_readNewName rfl rfl rfl hdX1_readNewName ⟨Nat.le_of_ble_eq_true rfl, Nat.le_of_ble_eq_true rfl⟩) h1 (by decide) rfl rfl rfl (Nat.le_of_ble_eq_true rfl) dX1_readHead_91 ⟨Nat.zero_le _, Nat.zero_le _⟩) hS (fun v_43 I_37 R_38 J_39 AI_40 AJ_41 AR_42 H locs zv_43 hp_44 hH hS => ?_)
          dsimp only at hp_44
          obtain ⟨r_45, er_45⟩ : ∃ qQ : pR, qQ = sNam b n nr nt (h + 1) := ⟨_, rfl⟩
          rw [← er_45] at hp_44
          obtain ⟨rfl, rfl, rfl, rfl, hv, hp, pfq, flq, q_46, q_47, hP, hx0, hjm, hjy⟩ := hp_44
          have fl : ∀ y, gO g y 0 → gh 4 y ≠ q → I_37 y = I y ∧ J_39 y = J y := fun y hy h4 => ⟨(pfq.1 y (gO_ne hy h1 (by decide)) (fun e => h4 (by rw [e]; exact hp.2.2.2.2.2.1))).trans (fl y hy h4).1, (hjy y (fun e => h4 (by rw [e]; exact hp.2.2.2.2.2.1))).trans (fl y hy h4).2⟩
          have fl2 : ∀ y, gO g y 0 → (gh 5 y : Int) ≠ (nr : Int) → I_37 y = I y := fun y hy h5 => (pfq.1 y (gO_ne hy h1 (by decide)) (fun e => h5 (by rw [e]; have q7 := hpo.2.2.2.2.2.2.1; have q8 := pH_l hPo; omega))).trans (fl2 y hy h5)
          have n8 : (I_37 y_27 8).toInt = 0 := by rw [flq]; exact kc.2
          have cf : ∀ b c, gO g b c → c ≠ 0 → c ≠ 1 → I_37 b = I b := fun b c hb h0 h1' => (pfq.1 b (gO_ne hb h1 h1') (gO_ne hb y_27b h0)).trans (cf b c hb h0 h1')
          have hs : (I_37 a 3).toInt < (I (gh 22 0) 4).toInt := by have := hp.2.2.2.2.2.2.2; rw [cf _ 5 (gR_pr0 hv h1).2 (by decide) (by decide)] at this; exact this
          have n0 : (I_37 y_27 0).toInt = 0 := by rw [flq]; exact kc.1
          have n3 : (I_37 y_27 3).toInt = -1 ∧ (I_37 y_27 4).toInt = -1 := by rw [flq]; exact kd34
          refine lv_istore_n (lv' := [(2, .int (iI v_43)), (1, .int (iI v_7)), (0, .ref a)]) F.1 F.2.1 dX1_readHead_94 rfl hl (by decide) rfl (fun ls hl => ?_)
          refine lv_iload_n F.1 F.2.1 dX1_readHead_95 rfl (lv_at hl 0 rfl) ?_
          refine z_if_ne (tgt := 108) F dX1_readHead_96 (by decide) zv_43 (fun c_48 => ?_) (fun c_48 => ?_)
          · refine lv_iload_n F.1 F.2.1 dX1_readHead_108 rfl (lv_at hl 0 rfl) ?_
            have hfin : sHd b n nr nt tb h = r_45 := by
              unfold sHd
              repeat (first | with_reducible rfl | refine ite_y (by omega) ?_ | refine ite_n (by omega) ?_ | exact er_45.symm | exact thn_x er_45 (by omega) | exact pr_e (by omega) (by omega) (by omega))
            exact g_iret F hr hlk hH hS hz zv_43 ⟨rfl, rfl, rfl, hv, rf, cf, hs, by (try dsimp only); first | exact (fun h => absurd h (by omega)) | exact (fun h0 => ⟨_, hp, by omega, by rw [hfin]; have q9 := hx0 h0; omega, n8, hjm (by omega), n3.1, n3.2⟩), by first | omega | rfl | (dsimp only; omega), by (try dsimp only); rw [hfin]; first | done | omega | rfl, by (try dsimp only); rw [hfin]; exact hP, fl, fl2⟩ dX1_readHead_109
          · have t_49 := hx0 (by omega)
            refine lv_iload_n F.1 F.2.1 dX1_readHead_99 rfl (lv_at hl 1 rfl) ?_
            refine z_if_ne (tgt := 108) F dX1_readHead_100 (by decide) zv_7 (fun c_50 => ?_) (fun c_50 => ?_)
            · have t_51 := tIz_1 q_10 (by omega)
              refine lv_iload_n F.1 F.2.1 dX1_readHead_108 rfl (lv_at hl 0 rfl) ?_
              have hfin : sHd b n nr nt tb h = r_45 := by
                unfold sHd
                repeat (first | with_reducible rfl | refine ite_y (by omega) ?_ | refine ite_n (by omega) ?_ | exact er_45.symm | exact thn_x er_45 (by omega) | exact pr_e (by omega) (by omega) (by omega))
              exact g_iret F hr hlk hH hS hz zv_43 ⟨rfl, rfl, rfl, hv, rf, cf, hs, by (try dsimp only); first | exact (fun h => absurd h (by omega)) | exact (fun h0 => ⟨_, hp, by omega, by rw [hfin]; have q9 := hx0 h0; omega, n8, hjm (by omega), n3.1, n3.2⟩), by first | omega | rfl | (dsimp only; omega), by (try dsimp only); rw [hfin]; first | done | omega | rfl, by (try dsimp only); rw [hfin]; exact hP, fl, fl2⟩ dX1_readHead_109
            · exact absurd trivial (by omega)
        · refine z_bipush F dX1_readHead_56 (by decide) ?_
          have hfin : sHd b n nr nt tb h = (6, h, 0) := by
            unfold sHd
            repeat (first | with_reducible rfl | refine ite_y (by omega) ?_ | refine ite_n (by omega) ?_ | exact pr_e (by omega) (by omega) (by omega))
          exact g_iret F hr hlk hH hS hz ⟨by decide, by decide⟩ ⟨rfl, rfl, rfl, hv, fun _ _ _ => rfl, fun _ _ _ _ _ => rfl, hh, fun h => absurd h (by omega), by first | omega | rfl | (dsimp only; omega), by (try dsimp only); rw [hfin]; first | done | omega | rfl, by (try dsimp only); rw [hfin]; exact hP, fl, fl2⟩ dX1_readHead_58
    · refine z_iconst F dX1_readHead_33 ?_
      have hfin : sHd b n nr nt tb h = (4, h, 0) := by
        unfold sHd
        repeat (first | with_reducible rfl | refine ite_y (by omega) ?_ | refine ite_n (by omega) ?_ | exact pr_e (by omega) (by omega) (by omega))
      exact g_iret F hr hlk hH hS hz ⟨by decide, by decide⟩ ⟨rfl, rfl, rfl, hv, fun _ _ _ => rfl, fun _ _ _ _ _ => rfl, hh, fun h => absurd h (by omega), by first | omega | rfl | (dsimp only; omega), by (try dsimp only); rw [hfin]; first | done | omega | rfl, by (try dsimp only); rw [hfin]; exact hP, fl, fl2⟩ dX1_readHead_34
  · have t_52 := tIz_0 q_10 (by omega)
    refine lv_aload_n F.1 F.2.1 dX1_readHead_10 rfl (lv_at hl 1 rfl) ?_
    refine z_bipush F dX1_readHead_11 (by decide) ?_
    refine g_calli (g_runV (As := [.int (iI 9)]) (rest := []) (ci := 1) F hl.1 hH hS hz (c_X1_isWordg l g gh q b n tl nr nt cl h I R J AI AJ AR a 9 ⟨by decide, by decide⟩ hv h1 (by first | exact hp.2.2.2.2.2.2.2 | exact hh | omega) hP) (cwV 1 F.2.2.2.2.1 gX1_readHead_X1_isWord rfl rfl rfl hdX1_isWord ⟨Nat.le_of_ble_eq_true rfl, Nat.le_of_ble_eq_true rfl⟩) h1 (by decide) rfl rfl rfl (Nat.le_of_ble_eq_true rfl) dX1_readHead_13 ⟨Nat.zero_le _, Nat.zero_le _⟩) hS (fun v_59 I_53 R_54 J_55 AI_56 AJ_57 AR_58 H locs zv_59 hp_60 hH hS => ?_)
    dsimp only at hp_60
    obtain ⟨rfl, rfl, rfl, rfl, rfl, rfl, q_61, q_62⟩ := hp_60
    refine z_if_ne (tgt := 21) F dX1_readHead_16 (by decide) zv_59 (fun c_63 => ?_) (fun c_63 => ?_)
    · have t_64 := tIz_1 q_62 (by omega)
      refine lv_aload_n F.1 F.2.1 dX1_readHead_21 rfl (lv_at hl 1 rfl) ?_
      refine g_getR (ci := 1) (k := 1) F hH rfl (by decide) iX1 h1 (by decide) rfl (b := q) hRq k21 dX1_readHead_22 ?_
      refine g_getI (ci := 2) (k := 1) F hH rfl (by decide) iX2 hq (by decide) rfl k37 dX1_readHead_25 ?_
      have b_65 := gI_plan hv hq
      refine z_bipush F dX1_readHead_28 (by decide) ?_
      refine z_icmp_lt (tgt := 35) F dX1_readHead_30 (by decide) (zr_t _) ⟨by decide, by decide⟩ (fun c_66 => ?_) (fun c_66 => ?_)
      · refine lv_iload_n F.1 F.2.1 dX1_readHead_35 rfl (lv_at hl 0 rfl) ?_
        refine z_if_eq (tgt := 59) F dX1_readHead_36 (by decide) zv_7 (fun c_67 => ?_) (fun c_67 => ?_)
        · have t_68 := tIz_0 q_10 (by omega)
          refine lv_aload_n F.1 F.2.1 dX1_readHead_59 rfl (lv_at hl 1 rfl) ?_
          refine g_callv (g_runV (As := []) (rest := []) (ci := 1) F hl.1 hH hS hz (c_X1_stepg l g gh q b n tl nr nt cl h I R J AI AJ AR a hv h1 (by first | exact hp.2.2.2.2.2.2.2 | exact hh | omega) hP (by first | exact hp.2.2.1 | exact hq) (by omega)) (cwV 0 F.2.2.2.2.1 gX1_readHead_X1_step rfl rfl rfl hdX1_step ⟨Nat.le_of_ble_eq_true rfl, Nat.le_of_ble_eq_true rfl⟩) h1 (by decide) rfl rfl rfl (Nat.le_of_ble_eq_true rfl) dX1_readHead_60 ⟨Nat.zero_le _, Nat.zero_le _⟩) hS (fun I_69 R_70 J_71 AI_72 AJ_73 AR_74 H locs hp_75 hH hS => ?_)
          dsimp only at hp_75
          obtain ⟨rfl, rfl, rfl, rfl, rfl, hv, fs, hs, hP⟩ := hp_75
          have hP : pH gh AR I_69 J AI AJ a q b n tl nr nt cl (h + 1) := hP
          have fl : ∀ y, gO g y 0 → gh 4 y ≠ q → I_69 y = I y ∧ J y = J y := fun y hy h4 => ⟨(fs y (gO_ne hy h1 (by decide))).trans (fl y hy h4).1, (fl y hy h4).2⟩
          have fl2 : ∀ y, gO g y 0 → (gh 5 y : Int) ≠ (nr : Int) → I_69 y = I y := fun y hy h5 => (fs y (gO_ne hy h1 (by decide))).trans (fl2 y hy h5)
          have cf : ∀ b c, gO g b c → c ≠ 0 → c ≠ 1 → I_69 b = I b := fun b c hb h0 h1' => fs b (gO_ne hb h1 h1')
          have hq1 : (I_69 q 1).toInt = (I q 1).toInt := by rw [cf q 2 hq (by decide) (by decide)]
          have ht1 : I_69 (gh 22 0) = I (gh 22 0) := cf _ 5 (gR_pr0 hv h1).2 (by decide) (by decide)
          refine lv_aload_n F.1 F.2.1 dX1_readHead_63 rfl (lv_at hl 1 rfl) ?_
          refine lv_aload_n F.1 F.2.1 dX1_readHead_64 rfl (lv_at hl 1 rfl) ?_
          refine g_getR (ci := 1) (k := 1) F hH rfl (by decide) iX1 h1 (by decide) rfl (b := q) hRq k21 dX1_readHead_65 ?_
          obtain ⟨r_76a, r_76b⟩ := gR_lines hv hq
          refine g_getR (ci := 2) (k := 0) F hH rfl (by decide) iX2 hq (by decide) rfl (b := gh 6 q) r_76a k25 dX1_readHead_68 ?_
          refine lv_aload_n F.1 F.2.1 dX1_readHead_71 rfl (lv_at hl 1 rfl) ?_
          refine g_getR (ci := 1) (k := 1) F hH rfl (by decide) iX1 h1 (by decide) rfl (b := q) hRq k21 dX1_readHead_72 ?_
          refine g_getI (ci := 2) (k := 1) F hH rfl (by decide) iX2 hq (by decide) rfl k37 dX1_readHead_75 ?_
          have b_77 := gI_plan hv hq
          have hx78 : 0 ≤ ((I_69 q 1).toInt) ∧ ((I_69 q 1).toInt) < ((16 : Nat) : Int) ∧ ((I_69 q 1).toInt) ≤ 2147483647 := ⟨by omega, by omega, by omega⟩
          obtain ⟨y_78, y_78a, y_78b, y_78c, y_78d⟩ := gA_lines hv hq (z := (I_69 q 1).toInt) (by omega) (by omega)
          refine g_aldL F hH r_76b hx78.1 hx78.2.1 hx78.2.2 (b := y_78) y_78a dX1_readHead_78 ?_
          refine g_putR (ci := 1) (k := 2) F hH hS rfl (by decide) iX1 h1 (by decide) tyX1 tyX1_ok nmX1 rfl (ty := tyX1 2) rfl rfl rfl rfl k29 dX1_readHead_79 (fun H locs hH hS => ?_)
          obtain ⟨R_79, eR_79⟩ : ∃ qQ, qQ = gup2 R a 2 (some (y_78)) := ⟨_, rfl⟩
          rw [← eR_79] at hH
          have kR_79 : ∀ b, b ≠ a → R_79 b = R b := fun b hb => by rw [eR_79]; exact funext fun j => gup2_a _ _ hb
          have hv : gInv g gh R_79 AR I_69 AI := by rw [eR_79]; exact gInv_Rline hv h1 y_78b
          have hRq : R_79 a 1 = some q := by rw [eR_79, gup2_k _ _ (by decide)]; exact hRq
          have hRl : R_79 a 2 = some y_78 := by rw [eR_79, gup2_s]
          have rf : ∀ b k, b ≠ a ∨ k ≠ 2 → R_79 b k = R b k := fun b k h => by rw [eR_79]; rcases h with h | h; exact gup2_a _ _ h; exact gup2_k _ _ h
          refine lv_aload_n F.1 F.2.1 dX1_readHead_82 rfl (lv_at hl 1 rfl) ?_
          refine g_getR (ci := 1) (k := 2) F hH rfl (by decide) iX1 h1 (by decide) rfl (b := y_78) hRl k29 dX1_readHead_83 ?_
          refine z_iconst F dX1_readHead_86 ?_
          have b_80 := gI_line hv y_78b
          unfold vLineI at b_80
          refine g_callv (g_runV (As := [.int (iI 0)]) (rest := []) (ci := 0) F hl.1 hH hS hz (c_X0_clearg l g gh I_69 R_79 J AI AJ AR y_78 0 ⟨by decide, by decide⟩ hv y_78b rfl) (cwV 1 F.2.2.2.2.1 gX1_readHead_X0_clear rfl rfl rfl hdX0_clear ⟨Nat.le_of_ble_eq_true rfl, Nat.le_of_ble_eq_true rfl⟩) y_78b (by decide) rfl rfl rfl (Nat.le_of_ble_eq_true rfl) dX1_readHead_87 ⟨Nat.zero_le _, Nat.zero_le _⟩) hS (fun I_81 R_82 J_83 AI_84 AJ_85 AR_86 H locs hp_87 hH hS => ?_)
          dsimp only at hp_87
          obtain ⟨rfl, rfl, rfl, rfl, rfl, hv, fc, kc, kd34⟩ := hp_87
          have fl : ∀ y, gO g y 0 → gh 4 y ≠ q → I_81 y = I y ∧ J y = J y := fun y hy h4 => ⟨(fc y (fun e => h4 (by rw [e]; exact y_78c))).trans (fl y hy h4).1, (fl y hy h4).2⟩
          have fl2 : ∀ y, gO g y 0 → (gh 5 y : Int) ≠ (nr : Int) → I_81 y = I y := fun y hy h5 => (fc y (fun e => h5 (by rw [e]; have q7 := y_78d; have q8 := pH_l hP; omega))).trans (fl2 y hy h5)
          have hP := pH_g hv h1 hq y_78b y_78c y_78d hP fc
          have cf : ∀ b c, gO g b c → c ≠ 0 → c ≠ 1 → I_81 b = I b := fun b c hb h0 h1' => (fc b (gO_ne hb y_78b h0)).trans (cf b c hb h0 h1')
          have hp : pS g gh R_79 I_81 a q y_78 := ⟨h1, hRq, hq, hRl, y_78b, y_78c, by rw [cf q 2 hq (by decide) (by decide)]; omega, by rw [fc a (gO_ne h1 y_78b (by decide)), cf _ 5 (gR_pr0 hv h1).2 (by decide) (by decide)]; exact hs⟩
          refine lv_aload_n F.1 F.2.1 dX1_readHead_90 rfl (lv_at hl 1 rfl) ?_
          have hpo := hp
          have hPo := hP
          refine g_calli (g_runV (As := []) (rest := []) (ci := 1) F hl.1 hH hS hz (c_X1_readNewNameg l g gh q y_78 b n tl nr nt cl (h + 1) I_81 R_79 J AI AJ AR a hv hp hP) (cwV 0 F.2.2.2.2.1 gX1_readHead_X1_readNewName rfl rfl rfl hdX1_readNewName ⟨Nat.le_of_ble_eq_true rfl, Nat.le_of_ble_eq_true rfl⟩) h1 (by decide) rfl rfl rfl (Nat.le_of_ble_eq_true rfl) dX1_readHead_91 ⟨Nat.zero_le _, Nat.zero_le _⟩) hS (fun v_94 I_88 R_89 J_90 AI_91 AJ_92 AR_93 H locs zv_94 hp_95 hH hS => ?_)
          dsimp only at hp_95
          obtain ⟨r_96, er_96⟩ : ∃ qQ : pR, qQ = sNam b n nr nt (h + 1) := ⟨_, rfl⟩
          rw [← er_96] at hp_95
          obtain ⟨rfl, rfl, rfl, rfl, hv, hp, pfq, flq, q_97, q_98, hP, hx0, hjm, hjy⟩ := hp_95
          have fl : ∀ y, gO g y 0 → gh 4 y ≠ q → I_88 y = I y ∧ J_90 y = J y := fun y hy h4 => ⟨(pfq.1 y (gO_ne hy h1 (by decide)) (fun e => h4 (by rw [e]; exact hp.2.2.2.2.2.1))).trans (fl y hy h4).1, (hjy y (fun e => h4 (by rw [e]; exact hp.2.2.2.2.2.1))).trans (fl y hy h4).2⟩
          have fl2 : ∀ y, gO g y 0 → (gh 5 y : Int) ≠ (nr : Int) → I_88 y = I y := fun y hy h5 => (pfq.1 y (gO_ne hy h1 (by decide)) (fun e => h5 (by rw [e]; have q7 := hpo.2.2.2.2.2.2.1; have q8 := pH_l hPo; omega))).trans (fl2 y hy h5)
          have n8 : (I_88 y_78 8).toInt = 0 := by rw [flq]; exact kc.2
          have cf : ∀ b c, gO g b c → c ≠ 0 → c ≠ 1 → I_88 b = I b := fun b c hb h0 h1' => (pfq.1 b (gO_ne hb h1 h1') (gO_ne hb y_78b h0)).trans (cf b c hb h0 h1')
          have hs : (I_88 a 3).toInt < (I (gh 22 0) 4).toInt := by have := hp.2.2.2.2.2.2.2; rw [cf _ 5 (gR_pr0 hv h1).2 (by decide) (by decide)] at this; exact this
          have n0 : (I_88 y_78 0).toInt = 0 := by rw [flq]; exact kc.1
          have n3 : (I_88 y_78 3).toInt = -1 ∧ (I_88 y_78 4).toInt = -1 := by rw [flq]; exact kd34
          refine lv_istore_n (lv' := [(2, .int (iI v_94)), (1, .int (iI v_7)), (0, .ref a)]) F.1 F.2.1 dX1_readHead_94 rfl hl (by decide) rfl (fun ls hl => ?_)
          refine lv_iload_n F.1 F.2.1 dX1_readHead_95 rfl (lv_at hl 0 rfl) ?_
          refine z_if_ne (tgt := 108) F dX1_readHead_96 (by decide) zv_94 (fun c_99 => ?_) (fun c_99 => ?_)
          · refine lv_iload_n F.1 F.2.1 dX1_readHead_108 rfl (lv_at hl 0 rfl) ?_
            have hfin : sHd b n nr nt tb h = r_96 := by
              unfold sHd
              repeat (first | with_reducible rfl | refine ite_y (by omega) ?_ | refine ite_n (by omega) ?_ | exact er_96.symm | exact thn_x er_96 (by omega) | exact pr_e (by omega) (by omega) (by omega))
            exact g_iret F hr hlk hH hS hz zv_94 ⟨rfl, rfl, rfl, hv, rf, cf, hs, by (try dsimp only); first | exact (fun h => absurd h (by omega)) | exact (fun h0 => ⟨_, hp, by omega, by rw [hfin]; have q9 := hx0 h0; omega, n8, hjm (by omega), n3.1, n3.2⟩), by first | omega | rfl | (dsimp only; omega), by (try dsimp only); rw [hfin]; first | done | omega | rfl, by (try dsimp only); rw [hfin]; exact hP, fl, fl2⟩ dX1_readHead_109
          · have t_100 := hx0 (by omega)
            refine lv_iload_n F.1 F.2.1 dX1_readHead_99 rfl (lv_at hl 1 rfl) ?_
            refine z_if_ne (tgt := 108) F dX1_readHead_100 (by decide) zv_7 (fun c_101 => ?_) (fun c_101 => ?_)
            · exact absurd trivial (by omega)
            · have t_102 := tIz_0 q_10 (by omega)
              refine lv_aload_n F.1 F.2.1 dX1_readHead_103 rfl (lv_at hl 2 rfl) ?_
              have hpo := hp
              have hPo := hP
              refine g_calli (g_runV (As := []) (rest := []) (ci := 1) F hl.1 hH hS hz (c_X1_readViewKindg l g gh q y_78 b n tl nr nt cl r_96.2.1 I_88 R_79 J_90 AI AJ AR a hv hp n8 hP) (cwV 0 F.2.2.2.2.1 gX1_readHead_X1_readViewKind rfl rfl rfl hdX1_readViewKind ⟨Nat.le_of_ble_eq_true rfl, Nat.le_of_ble_eq_true rfl⟩) h1 (by decide) rfl rfl rfl (Nat.le_of_ble_eq_true rfl) dX1_readHead_104 ⟨Nat.zero_le _, Nat.zero_le _⟩) hS (fun v_109 I_103 R_104 J_105 AI_106 AJ_107 AR_108 H locs zv_109 hp_110 hH hS => ?_)
              dsimp only at hp_110
              obtain ⟨r_111, er_111⟩ : ∃ qQ : pR, qQ = sVk b n r_96.2.1 := ⟨_, rfl⟩
              rw [← er_111] at hp_110
              obtain ⟨rfl, rfl, rfl, rfl, rfl, hv, hp, pgq, q_112, n8v, q_113, hP, hkv, kv34⟩ := hp_110
              have fl : ∀ y, gO g y 0 → gh 4 y ≠ q → I_103 y = I y ∧ J_90 y = J y := fun y hy h4 => ⟨(pgq y (gO_ne hy h1 (by decide)) (fun e => h4 (by rw [e]; exact hp.2.2.2.2.2.1))).trans (fl y hy h4).1, (fl y hy h4).2⟩
              have fl2 : ∀ y, gO g y 0 → (gh 5 y : Int) ≠ (nr : Int) → I_103 y = I y := fun y hy h5 => (pgq y (gO_ne hy h1 (by decide)) (fun e => h5 (by rw [e]; have q7 := hpo.2.2.2.2.2.2.1; have q8 := pH_l hPo; omega))).trans (fl2 y hy h5)
              have cf : ∀ b c, gO g b c → c ≠ 0 → c ≠ 1 → I_103 b = I b := fun b c hb h0 h1' => (pgq b (gO_ne hb h1 h1') (gO_ne hb y_78b h0)).trans (cf b c hb h0 h1')
              have hs : (I_103 a 3).toInt < (I (gh 22 0) 4).toInt := by have := hp.2.2.2.2.2.2.2; rw [cf _ 5 (gR_pr0 hv h1).2 (by decide) (by decide)] at this; exact this
              have n3 : (I_103 y_78 3).toInt = -1 ∧ (I_103 y_78 4).toInt = -1 := ⟨kv34.1.trans n3.1, kv34.2.trans n3.2⟩
              refine lv_istore_n (lv' := [(2, .int (iI v_109)), (1, .int (iI v_7)), (0, .ref a)]) F.1 F.2.1 dX1_readHead_107 rfl hl (by decide) rfl (fun ls hl => ?_)
              refine lv_iload_n F.1 F.2.1 dX1_readHead_108 rfl (lv_at hl 0 rfl) ?_
              have hfin : sHd b n nr nt tb h = r_111 := by
                unfold sHd
                repeat (first | with_reducible rfl | refine ite_y (by omega) ?_ | refine ite_n (by omega) ?_ | exact er_111.symm | exact thn_x er_111 (by omega) | refine thn_y er_96 (by omega) ?_ | exact pr_e (by omega) (by omega) (by omega))
              exact g_iret F hr hlk hH hS hz zv_109 ⟨rfl, rfl, rfl, hv, rf, cf, hs, by (try dsimp only); first | exact (fun h => absurd h (by omega)) | exact (fun h0 => ⟨_, hp, by omega, by rw [hfin]; exact hkv h0, n8v, hjm (by omega), n3.1, n3.2⟩), by first | omega | rfl | (dsimp only; omega), by (try dsimp only); rw [hfin]; first | done | omega | rfl, by (try dsimp only); rw [hfin]; exact hP, fl, fl2⟩ dX1_readHead_109
        · exact absurd trivial (by omega)
      · refine z_iconst F dX1_readHead_33 ?_
        have hfin : sHd b n nr nt tb h = (4, h, 0) := by
          unfold sHd
          repeat (first | with_reducible rfl | refine ite_y (by omega) ?_ | refine ite_n (by omega) ?_ | exact pr_e (by omega) (by omega) (by omega))
        exact g_iret F hr hlk hH hS hz ⟨by decide, by decide⟩ ⟨rfl, rfl, rfl, hv, fun _ _ _ => rfl, fun _ _ _ _ _ => rfl, hh, fun h => absurd h (by omega), by first | omega | rfl | (dsimp only; omega), by (try dsimp only); rw [hfin]; first | done | omega | rfl, by (try dsimp only); rw [hfin]; exact hP, fl, fl2⟩ dX1_readHead_34
    · have t_114 := tIz_0 q_62 (by omega)
      refine z_iconst F dX1_readHead_19 ?_
      have hfin : sHd b n nr nt tb h = (1, h, 0) := by
        unfold sHd
        repeat (first | with_reducible rfl | refine ite_y (by omega) ?_ | refine ite_n (by omega) ?_ | exact pr_e (by omega) (by omega) (by omega))
      exact g_iret F hr hlk hH hS hz ⟨by decide, by decide⟩ ⟨rfl, rfl, rfl, hv, fun _ _ _ => rfl, fun _ _ _ _ _ => rfl, hh, fun h => absurd h (by omega), by first | omega | rfl | (dsimp only; omega), by (try dsimp only); rw [hfin]; first | done | omega | rfl, by (try dsimp only); rw [hfin]; exact hP, fl, fl2⟩ dX1_readHead_20
end
section
def rmX6_startAnewg : Room := { frames := 0, cells := 0, slots := 0, locals := 0 }
set_option maxHeartbeats 4000000 in
set_option maxRecDepth 100000 in
/-- starts anew -/
theorem c_X6_startAnewg (l : Launch) (g : gG) (gh : gGh) (pA bA nA : Nat) (I : gI) (R : gR) (J : gJ) (AI : gI) (AJ : gJ) (AR : gR) (x : Nat) (hv : gInv g gh R AR I AI) (hx : xS g gh R AR x pA bA nA) (h37 : gh 42 0 ≠ 1) : gMet l g yX6_startAnew wsX6_startAnew rmX6_startAnewg [.ref x] (I, R, J, AI, AJ, AR) (gQv g (fun w : gS => R = w.2.1 ∧ J = w.2.2.1 ∧ AI = w.2.2.2.1 ∧ AJ = w.2.2.2.2.1 ∧ AR = w.2.2.2.2.2 ∧ (gInv g gh R AR (w.1) AI) ∧ (xF g x I (w.1)) ∧ (((w.1) (gh 37 0) 3).toInt = 0) ∧ (∀ r, r < 16 → ((w.1) (rob AR bA r) 3).toInt = 0 ∧ ((w.1) (rob AR (gh 35 0) r) 3).toInt = 0) ∧ (∀ b, gO g b 4 → (∀ r, r < 16 → rob AR bA r ≠ b) → (∀ r, r < 16 → rob AR (gh 35 0) r ≠ b) → b ≠ gh 37 0 → (w.1) b = I b) ∧ (((w.1) x 15).toInt = 0 ∧ ((w.1) x 16).toInt = 0 ∧ ((w.1) x 17).toInt = 0))) := by
  refine gStart (cc := cX6_startAnew) (maxL := 2) (ret := none) (by decide) rfl (Nat.le_of_ble_eq_true rfl) ?_
  intro p e s m below meth c ls F hr hlk hH hz hS hl
  have hl : lv_has ls 2 [(0, .ref x)] := hl
  have hS : va_S (gA g) s.heap s.heap [] := hS
  obtain ⟨H, hHe⟩ : ∃ H : Heap, H = s.heap := ⟨_, rfl⟩
  obtain ⟨locs, hlo⟩ : ∃ k : List Loc, k = [] := ⟨_, rfl⟩
  have hH : gH g I R J AI AJ AR H := by rw [hHe]; exact hH
  have hS : va_S (gA g) s.heap H locs := by rw [hHe, hlo]; exact hS
  suffices hw : W p l e rmX6_startAnewg s m ([.ref x] : List Value).toArray below meth c H locs 0 0 (MQ below (gQv g (fun w : gS => R = w.2.1 ∧ J = w.2.2.1 ∧ AI = w.2.2.2.1 ∧ AJ = w.2.2.2.2.1 ∧ AR = w.2.2.2.2.2 ∧ (gInv g gh R AR (w.1) AI) ∧ (xF g x I (w.1)) ∧ (((w.1) (gh 37 0) 3).toInt = 0) ∧ (∀ r, r < 16 → ((w.1) (rob AR bA r) 3).toInt = 0 ∧ ((w.1) (rob AR (gh 35 0) r) 3).toInt = 0) ∧ (∀ b, gO g b 4 → (∀ r, r < 16 → rob AR bA r ≠ b) → (∀ r, r < 16 → rob AR (gh 35 0) r ≠ b) → b ≠ gh 37 0 → (w.1) b = I b) ∧ (((w.1) x 15).toInt = 0 ∧ ((w.1) x 16).toInt = 0 ∧ ((w.1) x 17).toInt = 0))) ([.ref x] : List Value).toArray s 0 0 (gA g)) (F0 m 0 ls []) by
    rw [hHe, hlo] at hw; exact hw
  clear hHe hlo
  have xf : xF g x I I := xF_r
  have fRs : ∀ b, gO g b 4 → (∀ r, r < 16 → rob AR bA r ≠ b) → (∀ r, r < 16 → rob AR (gh 35 0) r ≠ b) → b ≠ gh 37 0 → I b = I b := fun _ _ _ _ _ => rfl
  have iX6 : ∀ w ∈ u_ws RX6 TX6 18, w ∈ wsX6_startAnew := (by decide +kernel)
  have iX4 : ∀ w ∈ u_ws RX4 TX4 4, w ∈ wsX6_startAnew := (by decide +kernel)
  have k38 : Cond.fieldLink RX6 38 (TX6 5).1 (TX6 5).2.1 (TX6 5).2.2.1 ∈ wsX6_startAnew := List.mem_of_getElem? (i := 1) rfl
  have k99 : Cond.fieldLink RX6 99 (TX4 3).1 (TX4 3).2.1 (TX4 3).2.2.1 ∈ wsX6_startAnew := List.mem_of_getElem? (i := 2) rfl
  have k45 : Cond.fieldLink RX6 45 (TX6 7).1 (TX6 7).2.1 (TX6 7).2.2.1 ∈ wsX6_startAnew := List.mem_of_getElem? (i := 3) rfl
  have k53 : Cond.fieldLink RX6 53 (TX6 8).1 (TX6 8).2.1 (TX6 8).2.2.1 ∈ wsX6_startAnew := List.mem_of_getElem? (i := 4) rfl
  have k100 : Cond.fieldLink RX6 100 (TX6 15).1 (TX6 15).2.1 (TX6 15).2.2.1 ∈ wsX6_startAnew := List.mem_of_getElem? (i := 5) rfl
  have k103 : Cond.fieldLink RX6 103 (TX6 16).1 (TX6 16).2.1 (TX6 16).2.2.1 ∈ wsX6_startAnew := List.mem_of_getElem? (i := 6) rfl
  have k106 : Cond.fieldLink RX6 106 (TX6 17).1 (TX6 17).2.1 (TX6 17).2.2.1 ∈ wsX6_startAnew := List.mem_of_getElem? (i := 7) rfl
  refine z_iconst F dX6_startAnew_0 ?_
  refine lv_istore_n (lv' := [(1, .int (iI 0)), (0, .ref x)]) F.1 F.2.1 dX6_startAnew_1 rfl hl (by decide) rfl (fun ls hl => ?_)
  have cut_2_1 : ∀ (NN : Nat) (i : Int) (I_1 : gI) (H : Heap) (locs : List Loc) (ls : Array Slot), zr i → (gInv g gh R AR I_1 AI) → (xF g x I I_1) → (0 ≤ i ∧ i ≤ 16) → (∀ r : Nat, r < 16 → (r : Int) < i → (I_1 (rob AR bA r) 3).toInt = 0 ∧ (I_1 (rob AR (gh 35 0) r) 3).toInt = 0) → (∀ b, gO g b 4 → (∀ r, r < 16 → rob AR bA r ≠ b) → (∀ r, r < 16 → rob AR (gh 35 0) r ≠ b) → b ≠ gh 37 0 → I_1 b = I b) → (16 - i) < ((NN : Nat) : Int) → gH g I_1 R J AI AJ AR H → va_S (gA g) s.heap H locs → lv_has ls 2 [(1, .int (iI i)), (0, .ref x)] → W p l e rmX6_startAnewg s m ([.ref x] : List Value).toArray below meth c H locs 0 0 (MQ below (gQv g (fun w : gS => R = w.2.1 ∧ J = w.2.2.1 ∧ AI = w.2.2.2.1 ∧ AJ = w.2.2.2.2.1 ∧ AR = w.2.2.2.2.2 ∧ (gInv g gh R AR (w.1) AI) ∧ (xF g x I (w.1)) ∧ (((w.1) (gh 37 0) 3).toInt = 0) ∧ (∀ r, r < 16 → ((w.1) (rob AR bA r) 3).toInt = 0 ∧ ((w.1) (rob AR (gh 35 0) r) 3).toInt = 0) ∧ (∀ b, gO g b 4 → (∀ r, r < 16 → rob AR bA r ≠ b) → (∀ r, r < 16 → rob AR (gh 35 0) r ≠ b) → b ≠ gh 37 0 → (w.1) b = I b) ∧ (((w.1) x 15).toInt = 0 ∧ ((w.1) x 16).toInt = 0 ∧ ((w.1) x 17).toInt = 0))) ([.ref x] : List Value).toArray s 0 0 (gA g)) (F0 m 2 ls []) := by
    intro NN2
    induction NN2 with
    | zero =>
      intro i I_1 H locs ls zi hv xf hi hzl fRs hm2 hH hS hl
      exact absurd hm2 (by omega)
    | succ NN2 ih2 =>
      intro i I_1 H locs ls zi hv xf hi hzl fRs hm2 hH hS hl
      refine lv_iload_n F.1 F.2.1 dX6_startAnew_2 rfl (lv_at hl 0 rfl) ?_
      refine z_bipush F dX6_startAnew_3 (by decide) ?_
      refine z_icmp_ge (tgt := 34) F dX6_startAnew_5 (by decide) zi ⟨by decide, by decide⟩ (fun c_3 => ?_) (fun c_3 => ?_)
      · refine lv_aload_n F.1 F.2.1 dX6_startAnew_34 rfl (lv_at hl 1 rfl) ?_
        obtain ⟨r_4a, r_4b, r_4c, r_4d⟩ := gR_x8 hv hx.1
        refine g_getR (ci := 6) (k := 8) F hH rfl (by decide) iX6 hx.1 (by decide) rfl (b := gh 37 0) r_4a k53 dX6_startAnew_35 ?_
        refine z_iconst F dX6_startAnew_38 ?_
        refine g_putI (ci := 4) (k := 3) F hH hS rfl (by decide) iX4 r_4b (by decide) tyX4 tyX4_ok nmX4 rfl rfl rfl k99 dX6_startAnew_39 (fun H locs hH hS => ?_)
        obtain ⟨I_5, eI_5⟩ : ∃ qQ, qQ = gup2 I_1 (gh 37 0) 3 (iI (0)) := ⟨_, rfl⟩
        rw [← eI_5] at hH
        have kI_5 : ∀ b, b ≠ (gh 37 0) → I_5 b = I_1 b := fun b hb => by rw [eI_5]; exact funext fun j => gup2_a _ _ hb
        have w_6 : (I_5 (gh 37 0) 3).toInt = 0 := by rw [eI_5, gup2_s]; exact iI_val ⟨by omega, by omega⟩
        have hv : gInv g gh R AR I_5 AI := by rw [eI_5]; exact gInv_len hv r_4b (by omega) (by omega) (by first | exact hfz | omega)
        have xf : xF g x I I_5 := xF_t xf (xF_rF hx.1 (rF_o r_4b kI_5))
        have w_7x : (I_5 x 1).toInt = (I x 1).toInt := by rw [xf.2]
        have hzl : ∀ r : Nat, r < 16 → (r : Int) < i → (I_5 (rob AR bA r) 3).toInt = 0 ∧ (I_5 (rob AR (gh 35 0) r) 3).toInt = 0 := fun r h1 h2 => ⟨zk3 eI_5 (hzl r h1 h2).1, zk3 eI_5 (hzl r h1 h2).2⟩
        have fRs : ∀ b, gO g b 4 → (∀ r, r < 16 → rob AR bA r ≠ b) → (∀ r, r < 16 → rob AR (gh 35 0) r ≠ b) → b ≠ gh 37 0 → I_5 b = I b := fun b hb h1 h2 h3 => (kI_5 b h3).trans (fRs b hb h1 h2 h3)
        refine lv_aload_n F.1 F.2.1 dX6_startAnew_42 rfl (lv_at hl 1 rfl) ?_
        refine z_iconst F dX6_startAnew_43 ?_
        refine g_putI (ci := 6) (k := 15) F hH hS rfl (by decide) iX6 hx.1 (by decide) tyX6 tyX6_ok nmX6 rfl rfl rfl k100 dX6_startAnew_44 (fun H locs hH hS => ?_)
        obtain ⟨I_8, eI_8⟩ : ∃ qQ, qQ = gup2 I_5 x 15 (iI (0)) := ⟨_, rfl⟩
        rw [← eI_8] at hH
        have kI_8 : ∀ b, b ≠ x → I_8 b = I_5 b := fun b hb => by rw [eI_8]; exact funext fun j => gup2_a _ _ hb
        have w_9 : (I_8 x 15).toInt = 0 := by rw [eI_8, gup2_s]; exact iI_val ⟨by omega, by omega⟩
        have hv : gInv g gh R AR I_8 AI := by rw [eI_8]; exact gInv_x15 hv hx.1 (by omega) (by omega)
        have xf : xF g x I I_8 := xF_t xf (by rw [eI_8]; exact xF_k hx.1 (by decide))
        have w_9t : (I_8 x 1).toInt = (I x 1).toInt := by rw [xf.2]
        have w_9_b : (I_8 (gh 37 0) 3).toInt = (I_5 (gh 37 0) 3).toInt := by rw [kI_8 _ (gO_ne (gR_x8 hv hx.1).2.1 hx.1 (by decide))]
        have w_9_14 : (I_8 x 14).toInt = (I_5 x 14).toInt := by rw [eI_8, gup2_k _ _ (by decide)]
        have hzl : ∀ r : Nat, r < 16 → (r : Int) < i → (I_8 (rob AR bA r) 3).toInt = 0 ∧ (I_8 (rob AR (gh 35 0) r) 3).toInt = 0 := fun r h1 h2 => ⟨zx3 eI_8 (by decide) (hzl r h1 h2).1, zx3 eI_8 (by decide) (hzl r h1 h2).2⟩
        have fRs : ∀ b, gO g b 4 → (∀ r, r < 16 → rob AR bA r ≠ b) → (∀ r, r < 16 → rob AR (gh 35 0) r ≠ b) → b ≠ gh 37 0 → I_8 b = I b := fun b hb h1 h2 h3 => (kI_8 b (gO_ne hb hx.1 (by decide))).trans (fRs b hb h1 h2 h3)
        have zx15 : (I_8 x 15).toInt = 0 := by rw [eI_8, gup2_s]; exact iI_val ⟨by decide, by decide⟩
        refine lv_aload_n F.1 F.2.1 dX6_startAnew_47 rfl (lv_at hl 1 rfl) ?_
        refine z_iconst F dX6_startAnew_48 ?_
        refine g_putI (ci := 6) (k := 16) F hH hS rfl (by decide) iX6 hx.1 (by decide) tyX6 tyX6_ok nmX6 rfl rfl rfl k103 dX6_startAnew_49 (fun H locs hH hS => ?_)
        obtain ⟨I_10, eI_10⟩ : ∃ qQ, qQ = gup2 I_8 x 16 (iI (0)) := ⟨_, rfl⟩
        rw [← eI_10] at hH
        have kI_10 : ∀ b, b ≠ x → I_10 b = I_8 b := fun b hb => by rw [eI_10]; exact funext fun j => gup2_a _ _ hb
        have hv : gInv g gh R AR I_10 AI := by rw [eI_10]; exact gInv_x16 hv hx.1
        have xf : xF g x I I_10 := xF_t xf (by rw [eI_10]; exact xF_k hx.1 (by decide))
        have w_11t : (I_10 x 1).toInt = (I x 1).toInt := by rw [xf.2]
        have w_11_b : (I_10 (gh 37 0) 3).toInt = (I_8 (gh 37 0) 3).toInt := by rw [kI_10 _ (gO_ne (gR_x8 hv hx.1).2.1 hx.1 (by decide))]
        have w_11_14 : (I_10 x 14).toInt = (I_8 x 14).toInt := by rw [eI_10, gup2_k _ _ (by decide)]
        have w_11_15 : (I_10 x 15).toInt = (I_8 x 15).toInt := by rw [eI_10, gup2_k _ _ (by decide)]
        have hzl : ∀ r : Nat, r < 16 → (r : Int) < i → (I_10 (rob AR bA r) 3).toInt = 0 ∧ (I_10 (rob AR (gh 35 0) r) 3).toInt = 0 := fun r h1 h2 => ⟨zx3 eI_10 (by decide) (hzl r h1 h2).1, zx3 eI_10 (by decide) (hzl r h1 h2).2⟩
        have fRs : ∀ b, gO g b 4 → (∀ r, r < 16 → rob AR bA r ≠ b) → (∀ r, r < 16 → rob AR (gh 35 0) r ≠ b) → b ≠ gh 37 0 → I_10 b = I b := fun b hb h1 h2 h3 => (kI_10 b (gO_ne hb hx.1 (by decide))).trans (fRs b hb h1 h2 h3)
        have zx16 : (I_10 x 16).toInt = 0 := by rw [eI_10, gup2_s]; exact iI_val ⟨by decide, by decide⟩
        have zx15 : (I_10 x 15).toInt = 0 := by rw [eI_10, gup2_k _ _ (by decide)]; exact zx15
        refine lv_aload_n F.1 F.2.1 dX6_startAnew_52 rfl (lv_at hl 1 rfl) ?_
        refine z_iconst F dX6_startAnew_53 ?_
        refine g_putI (ci := 6) (k := 17) F hH hS rfl (by decide) iX6 hx.1 (by decide) tyX6 tyX6_ok nmX6 rfl rfl rfl k106 dX6_startAnew_54 (fun H locs hH hS => ?_)
        obtain ⟨I_12, eI_12⟩ : ∃ qQ, qQ = gup2 I_10 x 17 (iI (0)) := ⟨_, rfl⟩
        rw [← eI_12] at hH
        have kI_12 : ∀ b, b ≠ x → I_12 b = I_10 b := fun b hb => by rw [eI_12]; exact funext fun j => gup2_a _ _ hb
        have hv : gInv g gh R AR I_12 AI := by rw [eI_12]; exact gInv_x17 hv hx.1
        have xf : xF g x I I_12 := xF_t xf (by rw [eI_12]; exact xF_k hx.1 (by decide))
        have w_13t : (I_12 x 1).toInt = (I x 1).toInt := by rw [xf.2]
        have w_13_b : (I_12 (gh 37 0) 3).toInt = (I_10 (gh 37 0) 3).toInt := by rw [kI_12 _ (gO_ne (gR_x8 hv hx.1).2.1 hx.1 (by decide))]
        have w_13_14 : (I_12 x 14).toInt = (I_10 x 14).toInt := by rw [eI_12, gup2_k _ _ (by decide)]
        have w_13_15 : (I_12 x 15).toInt = (I_10 x 15).toInt := by rw [eI_12, gup2_k _ _ (by decide)]
        have hzl : ∀ r : Nat, r < 16 → (r : Int) < i → (I_12 (rob AR bA r) 3).toInt = 0 ∧ (I_12 (rob AR (gh 35 0) r) 3).toInt = 0 := fun r h1 h2 => ⟨zx3 eI_12 (by decide) (hzl r h1 h2).1, zx3 eI_12 (by decide) (hzl r h1 h2).2⟩
        have fRs : ∀ b, gO g b 4 → (∀ r, r < 16 → rob AR bA r ≠ b) → (∀ r, r < 16 → rob AR (gh 35 0) r ≠ b) → b ≠ gh 37 0 → I_12 b = I b := fun b hb h1 h2 h3 => (kI_12 b (gO_ne hb hx.1 (by decide))).trans (fRs b hb h1 h2 h3)
        have zx17 : (I_12 x 17).toInt = 0 := by rw [eI_12, gup2_s]; exact iI_val ⟨by decide, by decide⟩
        have zx15 : (I_12 x 15).toInt = 0 := by rw [eI_12, gup2_k _ _ (by decide)]; exact zx15
        have zx16 : (I_12 x 16).toInt = 0 := by rw [eI_12, gup2_k _ _ (by decide)]; exact zx16
        exact g_vret F hr hlk hH hS hz ⟨rfl, rfl, rfl, rfl, rfl, hv, xf, by first | omega | rfl | (dsimp only; omega), fun r hr => hzl r hr (by omega), fRs, ⟨zx15, zx16, zx17⟩⟩ dX6_startAnew_57
      · refine lv_aload_n F.1 F.2.1 dX6_startAnew_8 rfl (lv_at hl 1 rfl) ?_
        refine g_getR (ci := 6) (k := 5) F hH rfl (by decide) iX6 hx.1 (by decide) rfl (b := bA) hx.2.2.2.1 k38 dX6_startAnew_9 ?_
        refine lv_iload_n F.1 F.2.1 dX6_startAnew_12 rfl (lv_at hl 0 rfl) ?_
        have hx13 : 0 ≤ i ∧ i < ((16 : Nat) : Int) ∧ i ≤ 2147483647 := ⟨by omega, by omega, by omega⟩
        obtain ⟨y_14, y_14a, y_14b, y_14c, y_14d, y_14e⟩ := hx.2.2.2.2.1.2 (i).toNat (by omega)
        refine g_aldR F hH hx.2.2.2.2.1.1 hx13.1 hx13.2.1 hx13.2.2 (b := y_14) y_14a dX6_startAnew_13 ?_
        refine z_iconst F dX6_startAnew_14 ?_
        refine g_putI (ci := 4) (k := 3) F hH hS rfl (by decide) iX4 y_14b (by decide) tyX4 tyX4_ok nmX4 rfl rfl rfl k99 dX6_startAnew_15 (fun H locs hH hS => ?_)
        obtain ⟨I_15, eI_15⟩ : ∃ qQ, qQ = gup2 I_1 y_14 3 (iI (0)) := ⟨_, rfl⟩
        rw [← eI_15] at hH
        have kI_15 : ∀ b, b ≠ y_14 → I_15 b = I_1 b := fun b hb => by rw [eI_15]; exact funext fun j => gup2_a _ _ hb
        have w_16 : (I_15 y_14 3).toInt = 0 := by rw [eI_15, gup2_s]; exact iI_val ⟨by omega, by omega⟩
        have hv : gInv g gh R AR I_15 AI := by rw [eI_15]; exact gInv_len hv y_14b (by omega) (by omega) (by first | exact hfz | omega)
        have xf : xF g x I I_15 := xF_t xf (xF_rF hx.1 (rF_o y_14b kI_15))
        have w_17x : (I_15 x 1).toInt = (I x 1).toInt := by rw [xf.2]
        have zy1 : (I_15 (rob AR bA i.toNat) 3).toInt = 0 := by rw [rob_e y_14a, eI_15, gup2_s]; exact iI_val ⟨by decide, by decide⟩
        have hzl : ∀ r : Nat, r < 16 → (r : Int) < i → (I_15 (rob AR bA r) 3).toInt = 0 ∧ (I_15 (rob AR (gh 35 0) r) 3).toInt = 0 := fun r h1 h2 => ⟨zk3 eI_15 (hzl r h1 h2).1, zk3 eI_15 (hzl r h1 h2).2⟩
        have fRs : ∀ b, gO g b 4 → (∀ r, r < 16 → rob AR bA r ≠ b) → (∀ r, r < 16 → rob AR (gh 35 0) r ≠ b) → b ≠ gh 37 0 → I_15 b = I b := fun b hb h1 h2 h3 => (kI_15 b (fun e => h1 i.toNat (by omega) (by rw [rob_e y_14a]; exact e.symm))).trans (fRs b hb h1 h2 h3)
        refine lv_aload_n F.1 F.2.1 dX6_startAnew_18 rfl (lv_at hl 1 rfl) ?_
        obtain ⟨r_18a, r_18b⟩ := gR_x7 hv hx.1
        refine g_getR (ci := 6) (k := 7) F hH rfl (by decide) iX6 hx.1 (by decide) rfl (b := gh 35 0) r_18a k45 dX6_startAnew_19 ?_
        refine lv_iload_n F.1 F.2.1 dX6_startAnew_22 rfl (lv_at hl 0 rfl) ?_
        have hx23 : 0 ≤ i ∧ i < ((16 : Nat) : Int) ∧ i ≤ 2147483647 := ⟨by omega, by omega, by omega⟩
        obtain ⟨y_19, y_19a, y_19b, y_19c, y_19d, y_19e⟩ := r_18b.2 (i).toNat (by omega)
        refine g_aldR F hH r_18b.1 hx23.1 hx23.2.1 hx23.2.2 (b := y_19) y_19a dX6_startAnew_23 ?_
        refine z_iconst F dX6_startAnew_24 ?_
        refine g_putI (ci := 4) (k := 3) F hH hS rfl (by decide) iX4 y_19b (by decide) tyX4 tyX4_ok nmX4 rfl rfl rfl k99 dX6_startAnew_25 (fun H locs hH hS => ?_)
        obtain ⟨I_20, eI_20⟩ : ∃ qQ, qQ = gup2 I_15 y_19 3 (iI (0)) := ⟨_, rfl⟩
        rw [← eI_20] at hH
        have kI_20 : ∀ b, b ≠ y_19 → I_20 b = I_15 b := fun b hb => by rw [eI_20]; exact funext fun j => gup2_a _ _ hb
        have w_21 : (I_20 y_19 3).toInt = 0 := by rw [eI_20, gup2_s]; exact iI_val ⟨by omega, by omega⟩
        have hv : gInv g gh R AR I_20 AI := by rw [eI_20]; exact gInv_len hv y_19b (by omega) (by omega) (by first | exact hfz | omega)
        have xf : xF g x I I_20 := xF_t xf (xF_rF hx.1 (rF_o y_19b kI_20))
        have w_22x : (I_20 x 1).toInt = (I x 1).toInt := by rw [xf.2]
        have zy2 : (I_20 (rob AR (gh 35 0) i.toNat) 3).toInt = 0 := by rw [rob_e y_19a, eI_20, gup2_s]; exact iI_val ⟨by decide, by decide⟩
        have zy1 := zk3 eI_20 zy1
        have hzl : ∀ r : Nat, r < 16 → (r : Int) < i → (I_20 (rob AR bA r) 3).toInt = 0 ∧ (I_20 (rob AR (gh 35 0) r) 3).toInt = 0 := fun r h1 h2 => ⟨zk3 eI_20 (hzl r h1 h2).1, zk3 eI_20 (hzl r h1 h2).2⟩
        have hzl : ∀ r : Nat, r < 16 → (r : Int) < i + 1 → (I_20 (rob AR bA r) 3).toInt = 0 ∧ (I_20 (rob AR (gh 35 0) r) 3).toInt = 0 := fun r h1 h2 => by
          by_cases q : (r : Int) < i
          · exact hzl r h1 q
          · have e9 : r = i.toNat := by omega
            rw [e9]; exact ⟨zy1, zy2⟩
        have fRs : ∀ b, gO g b 4 → (∀ r, r < 16 → rob AR bA r ≠ b) → (∀ r, r < 16 → rob AR (gh 35 0) r ≠ b) → b ≠ gh 37 0 → I_20 b = I b := fun b hb h1 h2 h3 => (kI_20 b (fun e => h2 i.toNat (by omega) (by rw [rob_e y_19a]; exact e.symm))).trans (fRs b hb h1 h2 h3)
        refine z_iinc (lv' := [(1, .int (iI (i + 1))), (0, .ref x)]) F dX6_startAnew_28 hl (k := 0) rfl (by decide) rfl (fun ls hl => ?_)
        refine z_goto (tgt := 2) F dX6_startAnew_31 (by decide) ?_
        exact ih2 (i + 1) I_20 H locs ls ⟨by omega, by omega⟩ hv xf (by omega) hzl fRs (by omega) hH hS (lv_sub hl [0, 1] rfl)
  exact cut_2_1 (((16 - 0) + 1 : Int).toNat) 0 I H locs ls ⟨by decide, by decide⟩ hv xf (by omega) (fun r h1 h2 => absurd h2 (by omega)) fRs (by omega) hH hS (lv_sub hl [0, 1] rfl)
end
section
def rmX2_keepLineg : Room := { frames := 2, cells := 0, slots := 0, locals := 62 }
set_option maxHeartbeats 4000000 in
set_option maxRecDepth 100000 in
/-- the line behind the others is kept -/
theorem c_X2_keepLineg (l : Launch) (g : gG) (gh : gGh) (ln : Nat) (I : gI) (R : gR) (J : gJ) (AI : gI) (AJ : gJ) (AR : gR) (a : Nat) (hv : gInv g gh R AR I AI) (ha : gO g a 2) (h0 : (I a 1).toInt ≤ 15) (h1 : (I a 2).toInt ≤ 15) (hc : ∀ b, gO g b 0 → gh 4 b = a → (gh 5 b : Int) = (I a 1).toInt → (I b 2).toInt ≤ 4) (hln : AR (gh 6 a) (I a 1).toInt.toNat = some ln) : gMet l g yX2_keepLine wsX2_keepLine rmX2_keepLineg [.ref a] (I, R, J, AI, AJ, AR) (gQv g (fun w : gS => R = w.2.1 ∧ J = w.2.2.1 ∧ AI = w.2.2.2.1 ∧ AJ = w.2.2.2.2.1 ∧ AR = w.2.2.2.2.2 ∧ (gInv g gh R AR (w.1) AI) ∧ (((w.1) a 1).toInt = (I a 1).toInt + 1) ∧ (((w.1) a 2).toInt ≤ (I a 2).toInt + 1) ∧ (∀ b c, gO g b c → c ≠ 0 → c ≠ 2 → (w.1) b = I b) ∧ (∀ b j, j ≠ 13 → j ≠ 14 → gO g b 0 → (w.1) b j = I b j) ∧ (pIm (I ln 0).toInt ((w.1) a 2).toInt ((I a 2).toInt + 1)) ∧ (pNm (I ln 0).toInt ((w.1) a 2).toInt (I a 2).toInt) ∧ (∀ b, b ≠ a → b ≠ ln → (w.1) b = I b))) := by
  refine gStart (cc := cX2_keepLine) (maxL := 2) (ret := none) (by decide) rfl (Nat.le_of_ble_eq_true rfl) ?_
  intro p e s m below meth c ls F hr hlk hH hz hS hl
  have hl : lv_has ls 2 [(0, .ref a)] := hl
  have hS : va_S (gA g) s.heap s.heap [] := hS
  obtain ⟨H, hHe⟩ : ∃ H : Heap, H = s.heap := ⟨_, rfl⟩
  obtain ⟨locs, hlo⟩ : ∃ k : List Loc, k = [] := ⟨_, rfl⟩
  have hH : gH g I R J AI AJ AR H := by rw [hHe]; exact hH
  have hS : va_S (gA g) s.heap H locs := by rw [hHe, hlo]; exact hS
  suffices hw : W p l e rmX2_keepLineg s m ([.ref a] : List Value).toArray below meth c H locs 0 0 (MQ below (gQv g (fun w : gS => R = w.2.1 ∧ J = w.2.2.1 ∧ AI = w.2.2.2.1 ∧ AJ = w.2.2.2.2.1 ∧ AR = w.2.2.2.2.2 ∧ (gInv g gh R AR (w.1) AI) ∧ (((w.1) a 1).toInt = (I a 1).toInt + 1) ∧ (((w.1) a 2).toInt ≤ (I a 2).toInt + 1) ∧ (∀ b c, gO g b c → c ≠ 0 → c ≠ 2 → (w.1) b = I b) ∧ (∀ b j, j ≠ 13 → j ≠ 14 → gO g b 0 → (w.1) b j = I b j) ∧ (pIm (I ln 0).toInt ((w.1) a 2).toInt ((I a 2).toInt + 1)) ∧ (pNm (I ln 0).toInt ((w.1) a 2).toInt (I a 2).toInt) ∧ (∀ b, b ≠ a → b ≠ ln → (w.1) b = I b))) ([.ref a] : List Value).toArray s 0 0 (gA g)) (F0 m 0 ls []) by
    rw [hHe, hlo] at hw; exact hw
  clear hHe hlo
  have iX2 : ∀ w ∈ u_ws RX2 TX2 3, w ∈ wsX2_keepLine := (by decide +kernel)
  have iX0 : ∀ w ∈ u_ws RX0 TX0 15, w ∈ wsX2_keepLine := (by decide +kernel)
  have k11 : Cond.fieldLink RX2 11 (TX2 0).1 (TX2 0).2.1 (TX2 0).2.2.1 ∈ wsX2_keepLine := List.mem_of_getElem? (i := 1) rfl
  have k18 : Cond.fieldLink RX2 18 (TX2 1).1 (TX2 1).2.1 (TX2 1).2.2.1 ∈ wsX2_keepLine := List.mem_of_getElem? (i := 2) rfl
  have k29 : Cond.fieldLink RX2 29 (TX0 0).1 (TX0 0).2.1 (TX0 0).2.2.1 ∈ wsX2_keepLine := List.mem_of_getElem? (i := 3) rfl
  have k32 : Cond.fieldLink RX2 32 (TX2 2).1 (TX2 2).2.1 (TX2 2).2.2.1 ∈ wsX2_keepLine := List.mem_of_getElem? (i := 4) rfl
  have k35 : Cond.fieldLink RX2 35 (TX0 3).1 (TX0 3).2.1 (TX0 3).2.2.1 ∈ wsX2_keepLine := List.mem_of_getElem? (i := 5) rfl
  have k42 : Cond.fieldLink RX2 42 (TX0 4).1 (TX0 4).2.1 (TX0 4).2.2.1 ∈ wsX2_keepLine := List.mem_of_getElem? (i := 6) rfl
  refine lv_aload_n F.1 F.2.1 dX2_keepLine_0 rfl (lv_at hl 0 rfl) ?_
  obtain ⟨r_1a, r_1b⟩ := gR_lines hv ha
  refine g_getR (ci := 2) (k := 0) F hH rfl (by decide) iX2 ha (by decide) rfl (b := gh 6 a) r_1a k11 dX2_keepLine_1 ?_
  refine lv_aload_n F.1 F.2.1 dX2_keepLine_4 rfl (lv_at hl 0 rfl) ?_
  refine g_getI (ci := 2) (k := 1) F hH rfl (by decide) iX2 ha (by decide) rfl k18 dX2_keepLine_5 ?_
  have b_2 := gI_plan hv ha
  have hx8 : 0 ≤ ((I a 1).toInt) ∧ ((I a 1).toInt) < ((16 : Nat) : Int) ∧ ((I a 1).toInt) ≤ 2147483647 := ⟨by omega, by omega, by omega⟩
  obtain ⟨y_3, y_3a, y_3b, y_3c, y_3d⟩ := gA_lines hv ha (z := (I a 1).toInt) (by omega) (by omega)
  refine g_aldL F hH r_1b hx8.1 hx8.2.1 hx8.2.2 (b := y_3) y_3a dX2_keepLine_8 ?_
  have eyl : y_3 = ln := Option.some.inj (y_3a.symm.trans hln)
  have ekl : (I ln 0).toInt = (I y_3 0).toInt := by rw [eyl]
  refine lv_astore_n (lv' := [(1, .ref y_3), (0, .ref a)]) F.1 F.2.1 dX2_keepLine_9 rfl hl (by decide) rfl (fun ls hl => ?_)
  refine lv_aload_n F.1 F.2.1 dX2_keepLine_10 rfl (lv_at hl 0 rfl) ?_
  refine g_getI (ci := 0) (k := 0) F hH rfl (by decide) iX0 y_3b (by decide) rfl k29 dX2_keepLine_11 ?_
  have b_4 := gI_line hv y_3b
  unfold vLineI at b_4
  refine z_if_ne (tgt := 27) F dX2_keepLine_14 (by decide) (zr_t _) (fun c_5 => ?_) (fun c_5 => ?_)
  · have t1 : ∀ b j, j ≠ 13 → j ≠ 14 → gO g b 0 → I b j = I b j := fun _ _ _ _ _ => rfl
    have t2 : I a 1 = I a 1 := rfl
    have t3 : (I a 2).toInt ≤ (I a 2).toInt + 1 := by omega
    have t4 : ∀ b c, gO g b c → c ≠ 0 → c ≠ 2 → I b = I b := fun _ _ _ _ _ => rfl
    have t6 : (I a 2).toInt = (I a 2).toInt + 0 := by omega
    have t7 : ∀ b, b ≠ a → b ≠ ln → I b = I b := fun b h _ => rfl
    refine lv_aload_n F.1 F.2.1 dX2_keepLine_27 rfl (lv_at hl 1 rfl) ?_
    refine lv_aload_n F.1 F.2.1 dX2_keepLine_28 rfl (lv_at hl 0 rfl) ?_
    refine lv_aload_n F.1 F.2.1 dX2_keepLine_29 rfl (lv_at hl 0 rfl) ?_
    refine g_getI (ci := 0) (k := 3) F hH rfl (by decide) iX0 y_3b (by decide) rfl k35 dX2_keepLine_30 ?_
    refine g_callv (g_runV (As := [.ref y_3, .int (iI ((I y_3 3).toInt))]) (rest := []) (ci := 2) F hl.1 hH hS hz (c_X2_hang l g gh I R J AI AJ AR a y_3 ((I y_3 3).toInt) (zr_t _) hv ha y_3b (by omega)) (cwV 2 F.2.2.2.2.1 gX2_keepLine_X2_hang rfl rfl rfl hdX2_hang ⟨Nat.le_of_ble_eq_true rfl, Nat.le_of_ble_eq_true rfl⟩) ha (by decide) rfl rfl rfl (Nat.le_of_ble_eq_true rfl) dX2_keepLine_33 ⟨Nat.zero_le _, Nat.zero_le _⟩) hS (fun I_6 R_7 J_8 AI_9 AJ_10 AR_11 H locs hp_12 hH hS => ?_)
    dsimp only at hp_12
    obtain ⟨rfl, rfl, rfl, rfl, rfl, hv, f33, g33⟩ := hp_12
    have t1 : ∀ b j, j ≠ 13 → j ≠ 14 → gO g b 0 → I_6 b j = I b j := fun b j h1 h2 hb => (f33 b j h1 h2).trans (t1 b j h1 h2 hb)
    have t2 : I_6 a 1 = I a 1 := (f33 a 1 (by decide) (by decide)).trans t2
    have t3 : (I_6 a 2).toInt ≤ (I a 2).toInt + 1 := by rw [f33 a 2 (by decide) (by decide)]; exact t3
    have t4 : ∀ b c, gO g b c → c ≠ 0 → c ≠ 2 → I_6 b = I b := fun b c hb h0 h2 => (g33 b (gO_ne hb y_3b h0)).trans (t4 b c hb h0 h2)
    have t6 : (I_6 a 2).toInt = (I a 2).toInt + 0 := by rw [f33 a 2 (by decide) (by decide)]; exact t6
    have t7 : ∀ b, b ≠ a → b ≠ ln → I_6 b = I b := fun b h h2 => (g33 b (by rw [eyl]; exact h2)).trans (t7 b h h2)
    refine lv_aload_n F.1 F.2.1 dX2_keepLine_36 rfl (lv_at hl 1 rfl) ?_
    refine lv_aload_n F.1 F.2.1 dX2_keepLine_37 rfl (lv_at hl 0 rfl) ?_
    refine lv_aload_n F.1 F.2.1 dX2_keepLine_38 rfl (lv_at hl 0 rfl) ?_
    refine g_getI (ci := 0) (k := 4) F hH rfl (by decide) iX0 y_3b (by decide) rfl k42 dX2_keepLine_39 ?_
    have b_13 := gI_line hv y_3b
    unfold vLineI at b_13
    have b_14 := gI_plan hv ha
    refine g_callv (g_runV (As := [.ref y_3, .int (iI ((I_6 y_3 4).toInt))]) (rest := []) (ci := 2) F hl.1 hH hS hz (c_X2_hang l g gh I_6 R J AI AJ AR a y_3 ((I_6 y_3 4).toInt) (zr_t _) hv ha y_3b (by omega)) (cwV 2 F.2.2.2.2.1 gX2_keepLine_X2_hang rfl rfl rfl hdX2_hang ⟨Nat.le_of_ble_eq_true rfl, Nat.le_of_ble_eq_true rfl⟩) ha (by decide) rfl rfl rfl (Nat.le_of_ble_eq_true rfl) dX2_keepLine_42 ⟨Nat.zero_le _, Nat.zero_le _⟩) hS (fun I_15 R_16 J_17 AI_18 AJ_19 AR_20 H locs hp_21 hH hS => ?_)
    dsimp only at hp_21
    obtain ⟨rfl, rfl, rfl, rfl, rfl, hv, f42, g42⟩ := hp_21
    have t1 : ∀ b j, j ≠ 13 → j ≠ 14 → gO g b 0 → I_15 b j = I b j := fun b j h1 h2 hb => (f42 b j h1 h2).trans (t1 b j h1 h2 hb)
    have t2 : I_15 a 1 = I a 1 := (f42 a 1 (by decide) (by decide)).trans t2
    have t3 : (I_15 a 2).toInt ≤ (I a 2).toInt + 1 := by rw [f42 a 2 (by decide) (by decide)]; exact t3
    have t4 : ∀ b c, gO g b c → c ≠ 0 → c ≠ 2 → I_15 b = I b := fun b c hb h0 h2 => (g42 b (gO_ne hb y_3b h0)).trans (t4 b c hb h0 h2)
    have t6 : (I_15 a 2).toInt = (I a 2).toInt + 0 := by rw [f42 a 2 (by decide) (by decide)]; exact t6
    have t7 : ∀ b, b ≠ a → b ≠ ln → I_15 b = I b := fun b h h2 => (g42 b (by rw [eyl]; exact h2)).trans (t7 b h h2)
    refine lv_aload_n F.1 F.2.1 dX2_keepLine_45 rfl (lv_at hl 1 rfl) ?_
    refine lv_dup F.1 F.2.1 dX2_keepLine_46 rfl ?_
    refine g_getI (ci := 2) (k := 1) F hH rfl (by decide) iX2 ha (by decide) rfl k18 dX2_keepLine_47 ?_
    have b_22 := gI_plan hv ha
    refine z_iconst F dX2_keepLine_50 ?_
    refine z_iadd F dX2_keepLine_51 ?_
    refine g_putI (ci := 2) (k := 1) F hH hS rfl (by decide) iX2 ha (by decide) tyX2 tyX2_ok nmX2 rfl rfl rfl k18 dX2_keepLine_52 (fun H locs hH hS => ?_)
    obtain ⟨I_23, eI_23⟩ : ∃ qQ, qQ = gup2 I_15 a 1 (iI (((I_15 a 1).toInt) + 1)) := ⟨_, rfl⟩
    rw [← eI_23] at hH
    have kI_23 : ∀ b, b ≠ a → I_23 b = I_15 b := fun b hb => by rw [eI_23]; exact funext fun j => gup2_a _ _ hb
    have s1 : (I_15 a 1).toInt = (I a 1).toInt := by rw [t2]
    have e1 : (I_23 a 1).toInt = (I a 1).toInt + 1 := by rw [eI_23, gup2_s, iI_val ⟨by omega, by omega⟩]; omega
    have e2 : (I_23 a 2).toInt ≤ (I a 2).toInt + 1 := by rw [eI_23, gup2_k _ _ (by decide)]; exact t3
    have t5 : ∀ b c, gO g b c → c ≠ 0 → c ≠ 2 → I_23 b = I b := fun b c hb h0 h2 => (kI_23 b (gO_ne hb ha h2)).trans (t4 b c hb h0 h2)
    have hv : gInv g gh R AR I_23 AI := by
      rw [eI_23]
      refine gInv_planLen hv ha (by omega) (by omega) (fun b hb h4 hlt => ?_)
      by_cases hq : (gh 5 b : Int) < (I_15 a 1).toInt
      · exact (hv.2.2.1 b hb).2.2.2 (by rw [h4]; exact hq)
      · rw [t1 b 2 (by decide) (by decide) hb]; exact hc b hb h4 (by omega)
    have t6 : (I_23 a 2).toInt = (I a 2).toInt + 0 := by rw [eI_23, gup2_k _ _ (by decide)]; exact t6
    have t1 : ∀ b j, j ≠ 13 → j ≠ 14 → gO g b 0 → I_23 b j = I b j := fun b j h1 h2 hb => (congrFun (kI_23 b (gO_ne hb ha (by decide))) j).trans (t1 b j h1 h2 hb)
    have t7 : ∀ b, b ≠ a → b ≠ ln → I_23 b = I b := fun b h h2 => (kI_23 b h).trans (t7 b h h2)
    exact g_vret F hr hlk hH hS hz ⟨rfl, rfl, rfl, rfl, rfl, hv, e1, e2, t5, t1, by (try dsimp only); first | exact pIm_n (by omega) | exact pIm_y (by omega), by (try dsimp only); first | exact (fun h => by omega) | exact (fun h => absurd (by omega) h), t7⟩ dX2_keepLine_55
  · refine lv_aload_n F.1 F.2.1 dX2_keepLine_17 rfl (lv_at hl 1 rfl) ?_
    refine lv_dup F.1 F.2.1 dX2_keepLine_18 rfl ?_
    refine g_getI (ci := 2) (k := 2) F hH rfl (by decide) iX2 ha (by decide) rfl k32 dX2_keepLine_19 ?_
    refine z_iconst F dX2_keepLine_22 ?_
    refine z_iadd F dX2_keepLine_23 ?_
    refine g_putI (ci := 2) (k := 2) F hH hS rfl (by decide) iX2 ha (by decide) tyX2 tyX2_ok nmX2 rfl rfl rfl k32 dX2_keepLine_24 (fun H locs hH hS => ?_)
    obtain ⟨I_24, eI_24⟩ : ∃ qQ, qQ = gup2 I a 2 (iI (((I a 2).toInt) + 1)) := ⟨_, rfl⟩
    rw [← eI_24] at hH
    have kI_24 : ∀ b, b ≠ a → I_24 b = I b := fun b hb => by rw [eI_24]; exact funext fun j => gup2_a _ _ hb
    have w_25 : (I_24 a 2).toInt = ((I a 2).toInt) + 1 := by rw [eI_24, gup2_s]; exact iI_val ⟨by omega, by omega⟩
    have hv : gInv g gh R AR I_24 AI := by rw [eI_24]; exact gInv_planTab hv ha (by omega) (by omega)
    have w_25_k : I_24 a 1 = I a 1 := by rw [eI_24]; exact gup2_k _ _ (by decide)
    have t1 : ∀ b j, j ≠ 13 → j ≠ 14 → gO g b 0 → I_24 b j = I b j := fun b j _ _ hb => congrFun (kI_24 b (gO_ne hb ha (by decide))) j
    have t2 : I_24 a 1 = I a 1 := by rw [eI_24]; exact gup2_k _ _ (by decide)
    have t3 : (I_24 a 2).toInt ≤ (I a 2).toInt + 1 := by omega
    have t4 : ∀ b c, gO g b c → c ≠ 0 → c ≠ 2 → I_24 b = I b := fun b c hb _ h2 => kI_24 b (gO_ne hb ha h2)
    have t6 : (I_24 a 2).toInt = (I a 2).toInt + 1 := by omega
    have t7 : ∀ b, b ≠ a → b ≠ ln → I_24 b = I b := fun b h _ => kI_24 b h
    refine lv_aload_n F.1 F.2.1 dX2_keepLine_27 rfl (lv_at hl 1 rfl) ?_
    refine lv_aload_n F.1 F.2.1 dX2_keepLine_28 rfl (lv_at hl 0 rfl) ?_
    refine lv_aload_n F.1 F.2.1 dX2_keepLine_29 rfl (lv_at hl 0 rfl) ?_
    refine g_getI (ci := 0) (k := 3) F hH rfl (by decide) iX0 y_3b (by decide) rfl k35 dX2_keepLine_30 ?_
    have b_26 := gI_line hv y_3b
    unfold vLineI at b_26
    have b_27 := gI_plan hv ha
    refine g_callv (g_runV (As := [.ref y_3, .int (iI ((I_24 y_3 3).toInt))]) (rest := []) (ci := 2) F hl.1 hH hS hz (c_X2_hang l g gh I_24 R J AI AJ AR a y_3 ((I_24 y_3 3).toInt) (zr_t _) hv ha y_3b (by omega)) (cwV 2 F.2.2.2.2.1 gX2_keepLine_X2_hang rfl rfl rfl hdX2_hang ⟨Nat.le_of_ble_eq_true rfl, Nat.le_of_ble_eq_true rfl⟩) ha (by decide) rfl rfl rfl (Nat.le_of_ble_eq_true rfl) dX2_keepLine_33 ⟨Nat.zero_le _, Nat.zero_le _⟩) hS (fun I_28 R_29 J_30 AI_31 AJ_32 AR_33 H locs hp_34 hH hS => ?_)
    dsimp only at hp_34
    obtain ⟨rfl, rfl, rfl, rfl, rfl, hv, f33, g33⟩ := hp_34
    have t1 : ∀ b j, j ≠ 13 → j ≠ 14 → gO g b 0 → I_28 b j = I b j := fun b j h1 h2 hb => (f33 b j h1 h2).trans (t1 b j h1 h2 hb)
    have t2 : I_28 a 1 = I a 1 := (f33 a 1 (by decide) (by decide)).trans t2
    have t3 : (I_28 a 2).toInt ≤ (I a 2).toInt + 1 := by rw [f33 a 2 (by decide) (by decide)]; exact t3
    have t4 : ∀ b c, gO g b c → c ≠ 0 → c ≠ 2 → I_28 b = I b := fun b c hb h0 h2 => (g33 b (gO_ne hb y_3b h0)).trans (t4 b c hb h0 h2)
    have t6 : (I_28 a 2).toInt = (I a 2).toInt + 1 := by rw [f33 a 2 (by decide) (by decide)]; exact t6
    have t7 : ∀ b, b ≠ a → b ≠ ln → I_28 b = I b := fun b h h2 => (g33 b (by rw [eyl]; exact h2)).trans (t7 b h h2)
    refine lv_aload_n F.1 F.2.1 dX2_keepLine_36 rfl (lv_at hl 1 rfl) ?_
    refine lv_aload_n F.1 F.2.1 dX2_keepLine_37 rfl (lv_at hl 0 rfl) ?_
    refine lv_aload_n F.1 F.2.1 dX2_keepLine_38 rfl (lv_at hl 0 rfl) ?_
    refine g_getI (ci := 0) (k := 4) F hH rfl (by decide) iX0 y_3b (by decide) rfl k42 dX2_keepLine_39 ?_
    have b_35 := gI_line hv y_3b
    unfold vLineI at b_35
    have b_36 := gI_plan hv ha
    refine g_callv (g_runV (As := [.ref y_3, .int (iI ((I_28 y_3 4).toInt))]) (rest := []) (ci := 2) F hl.1 hH hS hz (c_X2_hang l g gh I_28 R J AI AJ AR a y_3 ((I_28 y_3 4).toInt) (zr_t _) hv ha y_3b (by omega)) (cwV 2 F.2.2.2.2.1 gX2_keepLine_X2_hang rfl rfl rfl hdX2_hang ⟨Nat.le_of_ble_eq_true rfl, Nat.le_of_ble_eq_true rfl⟩) ha (by decide) rfl rfl rfl (Nat.le_of_ble_eq_true rfl) dX2_keepLine_42 ⟨Nat.zero_le _, Nat.zero_le _⟩) hS (fun I_37 R_38 J_39 AI_40 AJ_41 AR_42 H locs hp_43 hH hS => ?_)
    dsimp only at hp_43
    obtain ⟨rfl, rfl, rfl, rfl, rfl, hv, f42, g42⟩ := hp_43
    have t1 : ∀ b j, j ≠ 13 → j ≠ 14 → gO g b 0 → I_37 b j = I b j := fun b j h1 h2 hb => (f42 b j h1 h2).trans (t1 b j h1 h2 hb)
    have t2 : I_37 a 1 = I a 1 := (f42 a 1 (by decide) (by decide)).trans t2
    have t3 : (I_37 a 2).toInt ≤ (I a 2).toInt + 1 := by rw [f42 a 2 (by decide) (by decide)]; exact t3
    have t4 : ∀ b c, gO g b c → c ≠ 0 → c ≠ 2 → I_37 b = I b := fun b c hb h0 h2 => (g42 b (gO_ne hb y_3b h0)).trans (t4 b c hb h0 h2)
    have t6 : (I_37 a 2).toInt = (I a 2).toInt + 1 := by rw [f42 a 2 (by decide) (by decide)]; exact t6
    have t7 : ∀ b, b ≠ a → b ≠ ln → I_37 b = I b := fun b h h2 => (g42 b (by rw [eyl]; exact h2)).trans (t7 b h h2)
    refine lv_aload_n F.1 F.2.1 dX2_keepLine_45 rfl (lv_at hl 1 rfl) ?_
    refine lv_dup F.1 F.2.1 dX2_keepLine_46 rfl ?_
    refine g_getI (ci := 2) (k := 1) F hH rfl (by decide) iX2 ha (by decide) rfl k18 dX2_keepLine_47 ?_
    have b_44 := gI_plan hv ha
    refine z_iconst F dX2_keepLine_50 ?_
    refine z_iadd F dX2_keepLine_51 ?_
    refine g_putI (ci := 2) (k := 1) F hH hS rfl (by decide) iX2 ha (by decide) tyX2 tyX2_ok nmX2 rfl rfl rfl k18 dX2_keepLine_52 (fun H locs hH hS => ?_)
    obtain ⟨I_45, eI_45⟩ : ∃ qQ, qQ = gup2 I_37 a 1 (iI (((I_37 a 1).toInt) + 1)) := ⟨_, rfl⟩
    rw [← eI_45] at hH
    have kI_45 : ∀ b, b ≠ a → I_45 b = I_37 b := fun b hb => by rw [eI_45]; exact funext fun j => gup2_a _ _ hb
    have s1 : (I_37 a 1).toInt = (I a 1).toInt := by rw [t2]
    have e1 : (I_45 a 1).toInt = (I a 1).toInt + 1 := by rw [eI_45, gup2_s, iI_val ⟨by omega, by omega⟩]; omega
    have e2 : (I_45 a 2).toInt ≤ (I a 2).toInt + 1 := by rw [eI_45, gup2_k _ _ (by decide)]; exact t3
    have t5 : ∀ b c, gO g b c → c ≠ 0 → c ≠ 2 → I_45 b = I b := fun b c hb h0 h2 => (kI_45 b (gO_ne hb ha h2)).trans (t4 b c hb h0 h2)
    have hv : gInv g gh R AR I_45 AI := by
      rw [eI_45]
      refine gInv_planLen hv ha (by omega) (by omega) (fun b hb h4 hlt => ?_)
      by_cases hq : (gh 5 b : Int) < (I_37 a 1).toInt
      · exact (hv.2.2.1 b hb).2.2.2 (by rw [h4]; exact hq)
      · rw [t1 b 2 (by decide) (by decide) hb]; exact hc b hb h4 (by omega)
    have t6 : (I_45 a 2).toInt = (I a 2).toInt + 1 := by rw [eI_45, gup2_k _ _ (by decide)]; exact t6
    have t1 : ∀ b j, j ≠ 13 → j ≠ 14 → gO g b 0 → I_45 b j = I b j := fun b j h1 h2 hb => (congrFun (kI_45 b (gO_ne hb ha (by decide))) j).trans (t1 b j h1 h2 hb)
    have t7 : ∀ b, b ≠ a → b ≠ ln → I_45 b = I b := fun b h h2 => (kI_45 b h).trans (t7 b h h2)
    exact g_vret F hr hlk hH hS hz ⟨rfl, rfl, rfl, rfl, rfl, hv, e1, e2, t5, t1, by (try dsimp only); first | exact pIm_n (by omega) | exact pIm_y (by omega), by (try dsimp only); first | exact (fun h => by omega) | exact (fun h => absurd (by omega) h), t7⟩ dX2_keepLine_55
end
