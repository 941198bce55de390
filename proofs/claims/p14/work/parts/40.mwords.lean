section
/-! the words of the reference's methods: one list for all -/
def TB : List Cond := lw_tbl.filter goodWord
theorem TBm {w : Cond} (h : w ∈ lw_tbl) (g : goodWord w = true) : w ∈ TB := List.mem_filter.mpr ⟨h, g⟩
theorem tk1 {w : Cond} (h : w ∈ tables_1_1) : w ∈ lw_tbl := List.mem_append_right _ (List.mem_append_left _ h)
theorem tk2 {w : Cond} (h : w ∈ tables_1_2) : w ∈ lw_tbl := List.mem_append_right _ (List.mem_append_right _ (List.mem_append_left _ h))
theorem tk3 {w : Cond} (h : w ∈ tables_1_3) : w ∈ lw_tbl := List.mem_append_right _ (List.mem_append_right _ (List.mem_append_right _ (List.mem_append_left _ h)))
theorem tk4 {w : Cond} (h : w ∈ tables_1_4) : w ∈ lw_tbl := List.mem_append_right _ (List.mem_append_right _ (List.mem_append_right _ (List.mem_append_right _ (List.mem_append_left _ h))))
theorem tk5 {w : Cond} (h : w ∈ tables_1_5) : w ∈ lw_tbl := List.mem_append_right _ (List.mem_append_right _ (List.mem_append_right _ (List.mem_append_right _ (List.mem_append_right _ (List.mem_append_left _ h)))))
theorem tk6 {w : Cond} (h : w ∈ tables_1_6) : w ∈ lw_tbl := List.mem_append_right _ (List.mem_append_right _ (List.mem_append_right _ (List.mem_append_right _ (List.mem_append_right _ (List.mem_append_right _ (List.mem_append_left _ h))))))
theorem tk7 {w : Cond} (h : w ∈ tables_1_7) : w ∈ lw_tbl := List.mem_append_right _ (List.mem_append_right _ (List.mem_append_right _ (List.mem_append_right _ (List.mem_append_right _ (List.mem_append_right _ (List.mem_append_right _ (h)))))))
theorem sk1 {q : MethodName × Nat} (h : q ∈ lw_privs_1) : Cond.selects q.1.cls q.1 q.1 ∈ lw_tbl := List.mem_append_left _ (List.mem_map.mpr ⟨q, List.mem_append_left _ h, rfl⟩)
theorem sk2 {q : MethodName × Nat} (h : q ∈ lw_privs_2) : Cond.selects q.1.cls q.1 q.1 ∈ lw_tbl := List.mem_append_left _ (List.mem_map.mpr ⟨q, List.mem_append_right _ (List.mem_append_left _ h), rfl⟩)
theorem sk3 {q : MethodName × Nat} (h : q ∈ lw_privs_3) : Cond.selects q.1.cls q.1 q.1 ∈ lw_tbl := List.mem_append_left _ (List.mem_map.mpr ⟨q, List.mem_append_right _ (List.mem_append_right _ (List.mem_append_left _ h)), rfl⟩)
theorem sk4 {q : MethodName × Nat} (h : q ∈ lw_privs_4) : Cond.selects q.1.cls q.1 q.1 ∈ lw_tbl := List.mem_append_left _ (List.mem_map.mpr ⟨q, List.mem_append_right _ (List.mem_append_right _ (List.mem_append_right _ (List.mem_append_left _ h))), rfl⟩)
theorem sk5 {q : MethodName × Nat} (h : q ∈ lw_privs_5) : Cond.selects q.1.cls q.1 q.1 ∈ lw_tbl := List.mem_append_left _ (List.mem_map.mpr ⟨q, List.mem_append_right _ (List.mem_append_right _ (List.mem_append_right _ (List.mem_append_right _ (List.mem_append_left _ h)))), rfl⟩)
theorem sk6 {q : MethodName × Nat} (h : q ∈ lw_privs_6) : Cond.selects q.1.cls q.1 q.1 ∈ lw_tbl := List.mem_append_left _ (List.mem_map.mpr ⟨q, List.mem_append_right _ (List.mem_append_right _ (List.mem_append_right _ (List.mem_append_right _ (List.mem_append_right _ (List.mem_append_left _ h))))), rfl⟩)
theorem sk7 {q : MethodName × Nat} (h : q ∈ lw_privs_7) : Cond.selects q.1.cls q.1 q.1 ∈ lw_tbl := List.mem_append_left _ (List.mem_map.mpr ⟨q, List.mem_append_right _ (List.mem_append_right _ (List.mem_append_right _ (List.mem_append_right _ (List.mem_append_right _ (List.mem_append_right _ (List.mem_append_left _ h)))))), rfl⟩)
theorem sk8 {q : MethodName × Nat} (h : q ∈ lw_privs_8) : Cond.selects q.1.cls q.1 q.1 ∈ lw_tbl := List.mem_append_left _ (List.mem_map.mpr ⟨q, List.mem_append_right _ (List.mem_append_right _ (List.mem_append_right _ (List.mem_append_right _ (List.mem_append_right _ (List.mem_append_right _ (List.mem_append_right _ (h))))))), rfl⟩)
theorem good_tb {w : Cond} (h : w ∈ TB) : w ∈ TB ∧ ((w.onTables && w.keeps) = true ∨ ∃ ty, w = .arrayClass ty) := ⟨h, good_of_word (List.mem_filter.mp h).2⟩
theorem good_up {c : Cond} {ws : List Cond} (h : GoodIn TB ws) : GoodIn (c :: TB) ws := fun w hw => ⟨List.mem_cons_of_mem _ (h w hw).1, (h w hw).2⟩
theorem goodV {own C : String} {idx : Nat} {y : MethodName} {c : Cond} (h1 : Cond.methodLink own idx y ∈ TB) (h2 : Cond.instanceMethod y ∈ TB) (h3 : Cond.selects C y y ∈ TB) (h4 : Cond.initialized C ∈ TB) (h5 : c ∈ TB) : GoodIn TB (wsV own idx C y (c :: TB)) := by
  intro w hw
  refine good_tb ?_
  simp only [wsV, List.mem_append, List.mem_cons, List.not_mem_nil, or_false] at hw
  rcases hw with (rfl | rfl | rfl | rfl) | (rfl | h)
  · exact h1
  · exact h2
  · exact h3
  · exact h4
  · exact h5
  · exact h
theorem goodS {own : String} {idx : Nat} {y : MethodName} {c : Cond} (h1 : Cond.methodLink own idx y ∈ TB) (h2 : Cond.static y ∈ TB) (h4 : Cond.initialized y.cls ∈ TB) (h5 : c ∈ TB) : GoodIn TB (va_wsS own idx y (c :: TB)) := by
  intro w hw
  refine good_tb ?_
  simp only [va_wsS, List.mem_append, List.mem_cons, List.not_mem_nil, or_false] at hw
  rcases hw with (rfl | rfl | rfl) | (rfl | h)
  · exact h1
  · exact h2
  · exact h4
  · exact h5
  · exact h
theorem fl_7 : Cond.fieldLink RX7 7 (TX7 0).1 (TX7 0).2.1 (TX7 0).2.2.1 ∈ TB := TBm (tk5 (List.mem_of_getElem? (i := 34) rfl)) rfl
theorem fl_13 : Cond.fieldLink RX7 13 (TX7 1).1 (TX7 1).2.1 (TX7 1).2.2.1 ∈ TB := TBm (tk5 (List.mem_of_getElem? (i := 35) rfl)) rfl
theorem fl_64 : Cond.fieldLink RX7 64 (TX7 2).1 (TX7 2).2.1 (TX7 2).2.2.1 ∈ TB := TBm (tk5 (List.mem_of_getElem? (i := 36) rfl)) rfl
theorem fl_17 : Cond.fieldLink RX7 17 (TX7 3).1 (TX7 3).2.1 (TX7 3).2.2.1 ∈ TB := TBm (tk5 (List.mem_of_getElem? (i := 37) rfl)) rfl
theorem fl_20 : Cond.fieldLink RX7 20 (TX7 4).1 (TX7 4).2.1 (TX7 4).2.2.1 ∈ TB := TBm (tk5 (List.mem_of_getElem? (i := 38) rfl)) rfl
theorem fl_184 : Cond.fieldLink RX7 184 (TX7 5).1 (TX7 5).2.1 (TX7 5).2.2.1 ∈ TB := TBm (tk5 (List.mem_of_getElem? (i := 39) rfl)) rfl
theorem fl_24 : Cond.fieldLink RX7 24 (TX7 6).1 (TX7 6).2.1 (TX7 6).2.2.1 ∈ TB := TBm (tk5 (List.mem_of_getElem? (i := 40) rfl)) rfl
theorem fl_27 : Cond.fieldLink RX7 27 (TX7 7).1 (TX7 7).2.1 (TX7 7).2.2.1 ∈ TB := TBm (tk5 (List.mem_of_getElem? (i := 41) rfl)) rfl
theorem fl_257 : Cond.fieldLink RX7 257 (TX7 8).1 (TX7 8).2.1 (TX7 8).2.2.1 ∈ TB := TBm (tk5 (List.mem_of_getElem? (i := 42) rfl)) rfl
theorem fl_260 : Cond.fieldLink RX7 260 (TX7 9).1 (TX7 9).2.1 (TX7 9).2.2.1 ∈ TB := TBm (tk5 (List.mem_of_getElem? (i := 43) rfl)) rfl
theorem fl_263 : Cond.fieldLink RX7 263 (TX7 10).1 (TX7 10).2.1 (TX7 10).2.2.1 ∈ TB := TBm (tk5 (List.mem_of_getElem? (i := 44) rfl)) rfl
theorem fl_30 : Cond.fieldLink RX7 30 (TX7 11).1 (TX7 11).2.1 (TX7 11).2.2.1 ∈ TB := TBm (tk5 (List.mem_of_getElem? (i := 45) rfl)) rfl
theorem fl_33 : Cond.fieldLink RX7 33 (TX7 12).1 (TX7 12).2.1 (TX7 12).2.2.1 ∈ TB := TBm (tk5 (List.mem_of_getElem? (i := 46) rfl)) rfl
theorem fl_36 : Cond.fieldLink RX7 36 (TX7 13).1 (TX7 13).2.1 (TX7 13).2.2.1 ∈ TB := TBm (tk5 (List.mem_of_getElem? (i := 47) rfl)) rfl
theorem fl_266 : Cond.fieldLink RX7 266 (TX7 14).1 (TX7 14).2.1 (TX7 14).2.2.1 ∈ TB := TBm (tk5 (List.mem_of_getElem? (i := 48) rfl)) rfl
theorem fl_39 : Cond.fieldLink RX7 39 (TX7 15).1 (TX7 15).2.1 (TX7 15).2.2.1 ∈ TB := TBm (tk5 (List.mem_of_getElem? (i := 49) rfl)) rfl
theorem fl_71 : Cond.fieldLink RX7 71 (TX7 16).1 (TX7 16).2.1 (TX7 16).2.2.1 ∈ TB := TBm (tk5 (List.mem_of_getElem? (i := 50) rfl)) rfl
theorem fl_60 : Cond.fieldLink RX7 60 (TX7 17).1 (TX7 17).2.1 (TX7 17).2.2.1 ∈ TB := TBm (tk5 (List.mem_of_getElem? (i := 51) rfl)) rfl
theorem fl_78 : Cond.fieldLink RX7 78 (TX7 18).1 (TX7 18).2.1 (TX7 18).2.2.1 ∈ TB := TBm (tk5 (List.mem_of_getElem? (i := 52) rfl)) rfl
theorem fl_91 : Cond.fieldLink RX7 91 (TX7 19).1 (TX7 19).2.1 (TX7 19).2.2.1 ∈ TB := TBm (tk5 (List.mem_of_getElem? (i := 53) rfl)) rfl
theorem fl_84 : Cond.fieldLink RX7 84 (TX7 20).1 (TX7 20).2.1 (TX7 20).2.2.1 ∈ TB := TBm (tk5 (List.mem_of_getElem? (i := 54) rfl)) rfl
theorem fl_94 : Cond.fieldLink RX7 94 (TX7 21).1 (TX7 21).2.1 (TX7 21).2.2.1 ∈ TB := TBm (tk5 (List.mem_of_getElem? (i := 55) rfl)) rfl
theorem fl_111 : Cond.fieldLink RX7 111 (TX7 22).1 (TX7 22).2.1 (TX7 22).2.2.1 ∈ TB := TBm (tk5 (List.mem_of_getElem? (i := 56) rfl)) rfl
theorem fl_97 : Cond.fieldLink RX7 97 (TX7 23).1 (TX7 23).2.1 (TX7 23).2.2.1 ∈ TB := TBm (tk5 (List.mem_of_getElem? (i := 57) rfl)) rfl
theorem fl_81 : Cond.fieldLink RX7 81 (TX7 24).1 (TX7 24).2.1 (TX7 24).2.2.1 ∈ TB := TBm (tk5 (List.mem_of_getElem? (i := 58) rfl)) rfl
theorem fl_42 : Cond.fieldLink RX7 42 (TX7 25).1 (TX7 25).2.1 (TX7 25).2.2.1 ∈ TB := TBm (tk5 (List.mem_of_getElem? (i := 59) rfl)) rfl
theorem fl_269 : Cond.fieldLink RX7 269 (TX7 26).1 (TX7 26).2.1 (TX7 26).2.2.1 ∈ TB := TBm (tk5 (List.mem_of_getElem? (i := 60) rfl)) rfl
theorem fl_45 : Cond.fieldLink RX7 45 (TX7 27).1 (TX7 27).2.1 (TX7 27).2.2.1 ∈ TB := TBm (tk5 (List.mem_of_getElem? (i := 61) rfl)) rfl
theorem fl_48 : Cond.fieldLink RX7 48 (TX7 28).1 (TX7 28).2.1 (TX7 28).2.2.1 ∈ TB := TBm (tk5 (List.mem_of_getElem? (i := 62) rfl)) rfl
theorem fl_51 : Cond.fieldLink RX7 51 (TX7 29).1 (TX7 29).2.1 (TX7 29).2.2.1 ∈ TB := TBm (tk5 (List.mem_of_getElem? (i := 63) rfl)) rfl
theorem fl_54 : Cond.fieldLink RX7 54 (TX7 30).1 (TX7 30).2.1 (TX7 30).2.2.1 ∈ TB := TBm (tk5 (List.mem_of_getElem? (i := 64) rfl)) rfl
theorem fl_57 : Cond.fieldLink RX7 57 (TX7 31).1 (TX7 31).2.1 (TX7 31).2.2.1 ∈ TB := TBm (tk5 (List.mem_of_getElem? (i := 65) rfl)) rfl
theorem lay7 : ∀ k : Nat, k < 32 → u_lay RX7 TX7 k ∈ TB
  | 0, _ => TBm (tk5 (List.mem_of_getElem? (i := 66) rfl)) rfl
  | 1, _ => TBm (tk5 (List.mem_of_getElem? (i := 68) rfl)) rfl
  | 2, _ => TBm (tk5 (List.mem_of_getElem? (i := 70) rfl)) rfl
  | 3, _ => TBm (tk5 (List.mem_of_getElem? (i := 72) rfl)) rfl
  | 4, _ => TBm (tk5 (List.mem_of_getElem? (i := 74) rfl)) rfl
  | 5, _ => TBm (tk5 (List.mem_of_getElem? (i := 76) rfl)) rfl
  | 6, _ => TBm (tk5 (List.mem_of_getElem? (i := 78) rfl)) rfl
  | 7, _ => TBm (tk5 (List.mem_of_getElem? (i := 80) rfl)) rfl
  | 8, _ => TBm (tk5 (List.mem_of_getElem? (i := 82) rfl)) rfl
  | 9, _ => TBm (tk5 (List.mem_of_getElem? (i := 84) rfl)) rfl
  | 10, _ => TBm (tk5 (List.mem_of_getElem? (i := 86) rfl)) rfl
  | 11, _ => TBm (tk5 (List.mem_of_getElem? (i := 88) rfl)) rfl
  | 12, _ => TBm (tk5 (List.mem_of_getElem? (i := 90) rfl)) rfl
  | 13, _ => TBm (tk5 (List.mem_of_getElem? (i := 92) rfl)) rfl
  | 14, _ => TBm (tk5 (List.mem_of_getElem? (i := 94) rfl)) rfl
  | 15, _ => TBm (tk5 (List.mem_of_getElem? (i := 96) rfl)) rfl
  | 16, _ => TBm (tk5 (List.mem_of_getElem? (i := 98) rfl)) rfl
  | 17, _ => TBm (tk5 (List.mem_of_getElem? (i := 100) rfl)) rfl
  | 18, _ => TBm (tk5 (List.mem_of_getElem? (i := 102) rfl)) rfl
  | 19, _ => TBm (tk5 (List.mem_of_getElem? (i := 104) rfl)) rfl
  | 20, _ => TBm (tk5 (List.mem_of_getElem? (i := 106) rfl)) rfl
  | 21, _ => TBm (tk5 (List.mem_of_getElem? (i := 108) rfl)) rfl
  | 22, _ => TBm (tk5 (List.mem_of_getElem? (i := 110) rfl)) rfl
  | 23, _ => TBm (tk5 (List.mem_of_getElem? (i := 112) rfl)) rfl
  | 24, _ => TBm (tk5 (List.mem_of_getElem? (i := 114) rfl)) rfl
  | 25, _ => TBm (tk5 (List.mem_of_getElem? (i := 116) rfl)) rfl
  | 26, _ => TBm (tk5 (List.mem_of_getElem? (i := 118) rfl)) rfl
  | 27, _ => TBm (tk5 (List.mem_of_getElem? (i := 120) rfl)) rfl
  | 28, _ => TBm (tk5 (List.mem_of_getElem? (i := 122) rfl)) rfl
  | 29, _ => TBm (tk5 (List.mem_of_getElem? (i := 124) rfl)) rfl
  | 30, _ => TBm (tk5 (List.mem_of_getElem? (i := 126) rfl)) rfl
  | 31, _ => TBm (tk5 (List.mem_of_getElem? (i := 128) rfl)) rfl
  | n + 32, h => absurd h (by omega)
theorem inTB7 : ∀ w ∈ u_ws RX7 TX7 32, w ∈ TB := by
  intro w hw
  obtain ⟨k, hk, rfl⟩ := List.mem_map.mp hw
  exact lay7 k (List.mem_range.mp hk)
theorem ini7 : Cond.initialized RX7 ∈ TB := TBm (tk1 (List.mem_of_getElem? (i := 8) rfl)) rfl
def tsX7_init : List Cond := Cond.code yX7_init cX7_init 1 none :: TB
def tsX7_within : List Cond := Cond.code yX7_within cX7_within 3 (some .boolean) :: TB
theorem gT_X7_within : GoodIn TB (va_wsS RX7 67 yX7_within tsX7_within) := goodS (TBm (tk5 (List.mem_of_getElem? (i := 147) rfl)) rfl) (TBm (tk5 (List.mem_of_getElem? (i := 148) rfl)) rfl) ini7 (TBm (tk5 (List.mem_of_getElem? (i := 149) rfl)) rfl)
def tsX7_isRelation : List Cond := Cond.code yX7_isRelation cX7_isRelation 2 (some .boolean) :: TB
theorem gT_X7_isRelation : GoodIn TB (wsV RX7 352 RX7 yX7_isRelation tsX7_isRelation) := goodV (TBm (tk6 (List.mem_of_getElem? (i := 58) rfl)) rfl) (TBm (tk6 (List.mem_of_getElem? (i := 60) rfl)) rfl) (TBm (sk6 (q := (yX7_isRelation, 32)) (List.mem_of_getElem? (i := 11) rfl)) rfl) ini7 (TBm (tk6 (List.mem_of_getElem? (i := 61) rfl)) rfl)
def tsX7_kindOf : List Cond := Cond.code yX7_kindOf cX7_kindOf 2 (some .int) :: TB
theorem gT_X7_kindOf : GoodIn TB (wsV RX7 322 RX7 yX7_kindOf tsX7_kindOf) := goodV (TBm (tk6 (List.mem_of_getElem? (i := 62) rfl)) rfl) (TBm (tk6 (List.mem_of_getElem? (i := 64) rfl)) rfl) (TBm (sk6 (q := (yX7_kindOf, 32)) (List.mem_of_getElem? (i := 12) rfl)) rfl) ini7 (TBm (tk6 (List.mem_of_getElem? (i := 65) rfl)) rfl)
def tsX7_columnsOf : List Cond := Cond.code yX7_columnsOf cX7_columnsOf 2 (some .int) :: TB
theorem gT_X7_columnsOf : GoodIn TB (wsV RX7 301 RX7 yX7_columnsOf tsX7_columnsOf) := goodV (TBm (tk6 (List.mem_of_getElem? (i := 66) rfl)) rfl) (TBm (tk6 (List.mem_of_getElem? (i := 68) rfl)) rfl) (TBm (sk6 (q := (yX7_columnsOf, 32)) (List.mem_of_getElem? (i := 13) rfl)) rfl) ini7 (TBm (tk6 (List.mem_of_getElem? (i := 69) rfl)) rfl)
def tsX7_firstOf : List Cond := Cond.code yX7_firstOf cX7_firstOf 2 (some .int) :: TB
theorem gT_X7_firstOf : GoodIn TB (wsV RX7 289 RX7 yX7_firstOf tsX7_firstOf) := goodV (TBm (tk6 (List.mem_of_getElem? (i := 132) rfl)) rfl) (TBm (tk6 (List.mem_of_getElem? (i := 134) rfl)) rfl) (TBm (sk7 (q := (yX7_firstOf, 32)) (List.mem_of_getElem? (i := 9) rfl)) rfl) ini7 (TBm (tk6 (List.mem_of_getElem? (i := 135) rfl)) rfl)
def tsX7_secondOf : List Cond := Cond.code yX7_secondOf cX7_secondOf 2 (some .int) :: TB
theorem gT_X7_secondOf : GoodIn TB (wsV RX7 292 RX7 yX7_secondOf tsX7_secondOf) := goodV (TBm (tk6 (List.mem_of_getElem? (i := 140) rfl)) rfl) (TBm (tk6 (List.mem_of_getElem? (i := 142) rfl)) rfl) (TBm (sk7 (q := (yX7_secondOf, 32)) (List.mem_of_getElem? (i := 11) rfl)) rfl) ini7 (TBm (tk6 (List.mem_of_getElem? (i := 143) rfl)) rfl)
def tsX7_partsOf : List Cond := Cond.code yX7_partsOf cX7_partsOf 2 (some .int) :: TB
theorem gT_X7_partsOf : GoodIn TB (wsV RX7 283 RX7 yX7_partsOf tsX7_partsOf) := goodV (TBm (tk6 (List.mem_of_getElem? (i := 144) rfl)) rfl) (TBm (tk6 (List.mem_of_getElem? (i := 146) rfl)) rfl) (TBm (sk7 (q := (yX7_partsOf, 32)) (List.mem_of_getElem? (i := 12) rfl)) rfl) ini7 (TBm (tk6 (List.mem_of_getElem? (i := 147) rfl)) rfl)
def tsX7_part : List Cond := Cond.code yX7_part cX7_part 4 (some .int) :: TB
theorem gT_X7_part : GoodIn TB (wsV RX7 286 RX7 yX7_part tsX7_part) := goodV (TBm (tk6 (List.mem_of_getElem? (i := 148) rfl)) rfl) (TBm (tk6 (List.mem_of_getElem? (i := 150) rfl)) rfl) (TBm (sk7 (q := (yX7_part, 32)) (List.mem_of_getElem? (i := 13) rfl)) rfl) ini7 (TBm (tk6 (List.mem_of_getElem? (i := 151) rfl)) rfl)
def tsX7_spot : List Cond := Cond.code yX7_spot cX7_spot 3 (some .int) :: TB
theorem gT_X7_spot : GoodIn TB (va_wsS RX7 279 yX7_spot tsX7_spot) := goodS (TBm (tk6 (List.mem_of_getElem? (i := 109) rfl)) rfl) (TBm (tk6 (List.mem_of_getElem? (i := 110) rfl)) rfl) ini7 (TBm (tk6 (List.mem_of_getElem? (i := 111) rfl)) rfl)
def tsX7_sizeOf : List Cond := Cond.code yX7_sizeOf cX7_sizeOf 3 (some .int) :: TB
theorem gT_X7_sizeOf : GoodIn TB (wsV RX7 295 RX7 yX7_sizeOf tsX7_sizeOf) := goodV (TBm (tk6 (List.mem_of_getElem? (i := 105) rfl)) rfl) (TBm (tk6 (List.mem_of_getElem? (i := 107) rfl)) rfl) (TBm (sk7 (q := (yX7_sizeOf, 32)) (List.mem_of_getElem? (i := 3) rfl)) rfl) ini7 (TBm (tk6 (List.mem_of_getElem? (i := 108) rfl)) rfl)
def tsX7_eight : List Cond := Cond.code yX7_eight cX7_eight 4 none :: TB
theorem gT_X7_eight : GoodIn TB (wsV RX7 74 RX7 yX7_eight tsX7_eight) := goodV (TBm (tk5 (List.mem_of_getElem? (i := 139) rfl)) rfl) (TBm (tk5 (List.mem_of_getElem? (i := 141) rfl)) rfl) (TBm (sk4 (q := (yX7_eight, 32)) (List.mem_of_getElem? (i := 15) rfl)) rfl) ini7 (TBm (tk5 (List.mem_of_getElem? (i := 142) rfl)) rfl)
def tsX7_feed : List Cond := Cond.code yX7_feed cX7_feed 7 (some .int) :: TB
def tsX7_end : List Cond := Cond.code yX7_end cX7_end 2 (some .int) :: TB
def tsX7_byteAt : List Cond := Cond.code yX7_byteAt cX7_byteAt 2 (some .int) :: TB
theorem gT_X7_byteAt : GoodIn TB (wsV RX7 87 RX7 yX7_byteAt tsX7_byteAt) := goodV (TBm (tk5 (List.mem_of_getElem? (i := 158) rfl)) rfl) (TBm (tk5 (List.mem_of_getElem? (i := 160) rfl)) rfl) (TBm (sk5 (q := (yX7_byteAt, 32)) (List.mem_of_getElem? (i := 1) rfl)) rfl) ini7 (TBm (tk5 (List.mem_of_getElem? (i := 161) rfl)) rfl)
def tsX7_isSmall : List Cond := Cond.code yX7_isSmall cX7_isSmall 1 (some .boolean) :: TB
theorem gT_X7_isSmall : GoodIn TB (va_wsS RX7 100 yX7_isSmall tsX7_isSmall) := goodS (TBm (tk5 (List.mem_of_getElem? (i := 162) rfl)) rfl) (TBm (tk5 (List.mem_of_getElem? (i := 163) rfl)) rfl) ini7 (TBm (tk5 (List.mem_of_getElem? (i := 164) rfl)) rfl)
def tsX7_isDigit : List Cond := Cond.code yX7_isDigit cX7_isDigit 1 (some .boolean) :: TB
theorem gT_X7_isDigit : GoodIn TB (va_wsS RX7 104 yX7_isDigit tsX7_isDigit) := goodS (TBm (tk5 (List.mem_of_getElem? (i := 165) rfl)) rfl) (TBm (tk5 (List.mem_of_getElem? (i := 166) rfl)) rfl) ini7 (TBm (tk5 (List.mem_of_getElem? (i := 167) rfl)) rfl)
def tsX7_next : List Cond := Cond.code yX7_next cX7_next 3 none :: TB
theorem gT_X7_next : GoodIn TB (wsV RX7 137 RX7 yX7_next tsX7_next) := goodV (TBm (tk5 (List.mem_of_getElem? (i := 154) rfl)) rfl) (TBm (tk5 (List.mem_of_getElem? (i := 156) rfl)) rfl) (TBm (sk5 (q := (yX7_next, 32)) (List.mem_of_getElem? (i := 0) rfl)) rfl) ini7 (TBm (tk5 (List.mem_of_getElem? (i := 157) rfl)) rfl)
def tsX7_runs : List Cond := Cond.code yX7_runs cX7_runs 5 none :: TB
theorem gT_X7_runs : GoodIn TB (wsV RX7 107 RX7 yX7_runs tsX7_runs) := goodV (TBm (tk5 (List.mem_of_getElem? (i := 168) rfl)) rfl) (TBm (tk5 (List.mem_of_getElem? (i := 170) rfl)) rfl) (TBm (sk5 (q := (yX7_runs, 32)) (List.mem_of_getElem? (i := 2) rfl)) rfl) ini7 (TBm (tk5 (List.mem_of_getElem? (i := 171) rfl)) rfl)
def tsX7_wrong : List Cond := Cond.code yX7_wrong cX7_wrong 2 none :: TB
theorem gT_X7_wrong : GoodIn TB (wsV RX7 134 RX7 yX7_wrong tsX7_wrong) := goodV (TBm (tk5 (List.mem_of_getElem? (i := 187) rfl)) rfl) (TBm (tk5 (List.mem_of_getElem? (i := 189) rfl)) rfl) (TBm (sk5 (q := (yX7_wrong, 32)) (List.mem_of_getElem? (i := 5) rfl)) rfl) ini7 (TBm (tk5 (List.mem_of_getElem? (i := 190) rfl)) rfl)
def tsX7_packed : List Cond := Cond.code yX7_packed cX7_packed 4 (some .long) :: TB
theorem gT_X7_packed : GoodIn TB (va_wsS RX7 127 yX7_packed tsX7_packed) := goodS (TBm (tk5 (List.mem_of_getElem? (i := 178) rfl)) rfl) (TBm (tk5 (List.mem_of_getElem? (i := 179) rfl)) rfl) ini7 (TBm (tk5 (List.mem_of_getElem? (i := 180) rfl)) rfl)
def tsX7_isWord : List Cond := Cond.code yX7_isWord cX7_isWord 2 (some .boolean) :: TB
theorem gT_X7_isWord : GoodIn TB (wsV RX7 140 RX7 yX7_isWord tsX7_isWord) := goodV (TBm (tk5 (List.mem_of_getElem? (i := 174) rfl)) rfl) (TBm (tk5 (List.mem_of_getElem? (i := 176) rfl)) rfl) (TBm (sk5 (q := (yX7_isWord, 32)) (List.mem_of_getElem? (i := 3) rfl)) rfl) ini7 (TBm (tk5 (List.mem_of_getElem? (i := 177) rfl)) rfl)
def tsX7_isSign : List Cond := Cond.code yX7_isSign cX7_isSign 2 (some .boolean) :: TB
theorem gT_X7_isSign : GoodIn TB (wsV RX7 131 RX7 yX7_isSign tsX7_isSign) := goodV (TBm (tk6 (List.mem_of_getElem? (i := 2) rfl)) rfl) (TBm (tk6 (List.mem_of_getElem? (i := 4) rfl)) rfl) (TBm (sk5 (q := (yX7_isSign, 32)) (List.mem_of_getElem? (i := 14) rfl)) rfl) ini7 (TBm (tk6 (List.mem_of_getElem? (i := 5) rfl)) rfl)
def tsX7_mustSign : List Cond := Cond.code yX7_mustSign cX7_mustSign 2 none :: TB
theorem gT_X7_mustSign : GoodIn TB (wsV RX7 226 RX7 yX7_mustSign tsX7_mustSign) := goodV (TBm (tk5 (List.mem_of_getElem? (i := 238) rfl)) rfl) (TBm (tk6 (List.mem_of_getElem? (i := 0) rfl)) rfl) (TBm (sk5 (q := (yX7_mustSign, 32)) (List.mem_of_getElem? (i := 13) rfl)) rfl) ini7 (TBm (tk6 (List.mem_of_getElem? (i := 1) rfl)) rfl)
def tsX7_mustWord : List Cond := Cond.code yX7_mustWord cX7_mustWord 2 none :: TB
theorem gT_X7_mustWord : GoodIn TB (wsV RX7 202 RX7 yX7_mustWord tsX7_mustWord) := goodV (TBm (tk6 (List.mem_of_getElem? (i := 14) rfl)) rfl) (TBm (tk6 (List.mem_of_getElem? (i := 16) rfl)) rfl) (TBm (sk6 (q := (yX7_mustWord, 32)) (List.mem_of_getElem? (i := 1) rfl)) rfl) ini7 (TBm (tk6 (List.mem_of_getElem? (i := 17) rfl)) rfl)
def tsX7_isReserved : List Cond := Cond.code yX7_isReserved cX7_isReserved 1 (some .boolean) :: TB
theorem gT_X7_isReserved : GoodIn TB (wsV RX7 187 RX7 yX7_isReserved tsX7_isReserved) := goodV (TBm (tk5 (List.mem_of_getElem? (i := 195) rfl)) rfl) (TBm (tk5 (List.mem_of_getElem? (i := 197) rfl)) rfl) (TBm (sk5 (q := (yX7_isReserved, 32)) (List.mem_of_getElem? (i := 7) rfl)) rfl) ini7 (TBm (tk5 (List.mem_of_getElem? (i := 198) rfl)) rfl)
def tsX7_named : List Cond := Cond.code yX7_named cX7_named 4 (some .int) :: TB
theorem gT_X7_named : GoodIn TB (wsV RX7 191 RX7 yX7_named tsX7_named) := goodV (TBm (tk5 (List.mem_of_getElem? (i := 218) rfl)) rfl) (TBm (tk5 (List.mem_of_getElem? (i := 220) rfl)) rfl) (TBm (sk5 (q := (yX7_named, 32)) (List.mem_of_getElem? (i := 8) rfl)) rfl) ini7 (TBm (tk5 (List.mem_of_getElem? (i := 221) rfl)) rfl)
def tsX7_newName : List Cond := Cond.code yX7_newName cX7_newName 1 none :: TB
theorem gT_X7_newName : GoodIn TB (wsV RX7 229 RX7 yX7_newName tsX7_newName) := goodV (TBm (tk5 (List.mem_of_getElem? (i := 191) rfl)) rfl) (TBm (tk5 (List.mem_of_getElem? (i := 193) rfl)) rfl) (TBm (sk5 (q := (yX7_newName, 32)) (List.mem_of_getElem? (i := 6) rfl)) rfl) ini7 (TBm (tk5 (List.mem_of_getElem? (i := 194) rfl)) rfl)
def tsX7_relation : List Cond := Cond.code yX7_relation cX7_relation 2 (some .int) :: TB
theorem gT_X7_relation : GoodIn TB (wsV RX7 199 RX7 yX7_relation tsX7_relation) := goodV (TBm (tk6 (List.mem_of_getElem? (i := 10) rfl)) rfl) (TBm (tk6 (List.mem_of_getElem? (i := 12) rfl)) rfl) (TBm (sk6 (q := (yX7_relation, 32)) (List.mem_of_getElem? (i := 0) rfl)) rfl) ini7 (TBm (tk6 (List.mem_of_getElem? (i := 13) rfl)) rfl)
def tsX7_columns : List Cond := Cond.code yX7_columns cX7_columns 2 (some .int) :: TB
theorem gT_X7_columns : GoodIn TB (wsV RX7 206 RX7 yX7_columns tsX7_columns) := goodV (TBm (tk6 (List.mem_of_getElem? (i := 18) rfl)) rfl) (TBm (tk6 (List.mem_of_getElem? (i := 20) rfl)) rfl) (TBm (sk6 (q := (yX7_columns, 32)) (List.mem_of_getElem? (i := 2) rfl)) rfl) ini7 (TBm (tk6 (List.mem_of_getElem? (i := 21) rfl)) rfl)
def tsX7_column : List Cond := Cond.code yX7_column cX7_column 3 (some .int) :: TB
theorem gT_X7_column : GoodIn TB (wsV RX7 209 RX7 yX7_column tsX7_column) := goodV (TBm (tk6 (List.mem_of_getElem? (i := 22) rfl)) rfl) (TBm (tk6 (List.mem_of_getElem? (i := 24) rfl)) rfl) (TBm (sk6 (q := (yX7_column, 32)) (List.mem_of_getElem? (i := 3) rfl)) rfl) ini7 (TBm (tk6 (List.mem_of_getElem? (i := 25) rfl)) rfl)
def tsX7_numberTold : List Cond := Cond.code yX7_numberTold cX7_numberTold 2 (some .int) :: TB
theorem gT_X7_numberTold : GoodIn TB (wsV RX7 212 RX7 yX7_numberTold tsX7_numberTold) := goodV (TBm (tk5 (List.mem_of_getElem? (i := 222) rfl)) rfl) (TBm (tk5 (List.mem_of_getElem? (i := 224) rfl)) rfl) (TBm (sk5 (q := (yX7_numberTold, 32)) (List.mem_of_getElem? (i := 9) rfl)) rfl) ini7 (TBm (tk5 (List.mem_of_getElem? (i := 225) rfl)) rfl)
def tsX7_sets : List Cond := Cond.code yX7_sets cX7_sets 3 none :: TB
theorem gT_X7_sets : GoodIn TB (wsV RX7 195 RX7 yX7_sets tsX7_sets) := goodV (TBm (tk5 (List.mem_of_getElem? (i := 230) rfl)) rfl) (TBm (tk5 (List.mem_of_getElem? (i := 232) rfl)) rfl) (TBm (sk5 (q := (yX7_sets, 32)) (List.mem_of_getElem? (i := 11) rfl)) rfl) ini7 (TBm (tk5 (List.mem_of_getElem? (i := 233) rfl)) rfl)
def tsX7_setsPart : List Cond := Cond.code yX7_setsPart cX7_setsPart 7 none :: TB
theorem gT_X7_setsPart : GoodIn TB (wsV RX7 215 RX7 yX7_setsPart tsX7_setsPart) := goodV (TBm (tk6 (List.mem_of_getElem? (i := 26) rfl)) rfl) (TBm (tk6 (List.mem_of_getElem? (i := 28) rfl)) rfl) (TBm (sk6 (q := (yX7_setsPart, 32)) (List.mem_of_getElem? (i := 4) rfl)) rfl) ini7 (TBm (tk6 (List.mem_of_getElem? (i := 29) rfl)) rfl)
def tsX7_header : List Cond := Cond.code yX7_header cX7_header 6 none :: TB
theorem gT_X7_header : GoodIn TB (wsV RX7 219 RX7 yX7_header tsX7_header) := goodV (TBm (tk5 (List.mem_of_getElem? (i := 226) rfl)) rfl) (TBm (tk5 (List.mem_of_getElem? (i := 228) rfl)) rfl) (TBm (sk5 (q := (yX7_header, 32)) (List.mem_of_getElem? (i := 10) rfl)) rfl) ini7 (TBm (tk5 (List.mem_of_getElem? (i := 229) rfl)) rfl)
def tsX7_selectTold : List Cond := Cond.code yX7_selectTold cX7_selectTold 8 none :: TB
theorem gT_X7_selectTold : GoodIn TB (wsV RX7 232 RX7 yX7_selectTold tsX7_selectTold) := goodV (TBm (tk6 (List.mem_of_getElem? (i := 6) rfl)) rfl) (TBm (tk6 (List.mem_of_getElem? (i := 8) rfl)) rfl) (TBm (sk5 (q := (yX7_selectTold, 32)) (List.mem_of_getElem? (i := 15) rfl)) rfl) ini7 (TBm (tk6 (List.mem_of_getElem? (i := 9) rfl)) rfl)
def tsX7_termsTold : List Cond := Cond.code yX7_termsTold cX7_termsTold 8 (some .int) :: TB
theorem gT_X7_termsTold : GoodIn TB (wsV RX7 222 RX7 yX7_termsTold tsX7_termsTold) := goodV (TBm (tk6 (List.mem_of_getElem? (i := 34) rfl)) rfl) (TBm (tk6 (List.mem_of_getElem? (i := 36) rfl)) rfl) (TBm (sk6 (q := (yX7_termsTold, 32)) (List.mem_of_getElem? (i := 6) rfl)) rfl) ini7 (TBm (tk6 (List.mem_of_getElem? (i := 37) rfl)) rfl)
def tsX7_projectTold : List Cond := Cond.code yX7_projectTold cX7_projectTold 3 none :: TB
theorem gT_X7_projectTold : GoodIn TB (wsV RX7 235 RX7 yX7_projectTold tsX7_projectTold) := goodV (TBm (tk6 (List.mem_of_getElem? (i := 30) rfl)) rfl) (TBm (tk6 (List.mem_of_getElem? (i := 32) rfl)) rfl) (TBm (sk6 (q := (yX7_projectTold, 32)) (List.mem_of_getElem? (i := 5) rfl)) rfl) ini7 (TBm (tk6 (List.mem_of_getElem? (i := 33) rfl)) rfl)
def tsX7_joinTold : List Cond := Cond.code yX7_joinTold cX7_joinTold 8 none :: TB
theorem gT_X7_joinTold : GoodIn TB (wsV RX7 238 RX7 yX7_joinTold tsX7_joinTold) := goodV (TBm (tk6 (List.mem_of_getElem? (i := 38) rfl)) rfl) (TBm (tk6 (List.mem_of_getElem? (i := 40) rfl)) rfl) (TBm (sk6 (q := (yX7_joinTold, 32)) (List.mem_of_getElem? (i := 7) rfl)) rfl) ini7 (TBm (tk6 (List.mem_of_getElem? (i := 41) rfl)) rfl)
def tsX7_bothTold : List Cond := Cond.code yX7_bothTold cX7_bothTold 4 none :: TB
theorem gT_X7_bothTold : GoodIn TB (wsV RX7 241 RX7 yX7_bothTold tsX7_bothTold) := goodV (TBm (tk6 (List.mem_of_getElem? (i := 42) rfl)) rfl) (TBm (tk6 (List.mem_of_getElem? (i := 44) rfl)) rfl) (TBm (sk6 (q := (yX7_bothTold, 32)) (List.mem_of_getElem? (i := 8) rfl)) rfl) ini7 (TBm (tk6 (List.mem_of_getElem? (i := 45) rfl)) rfl)
def tsX7_groupTold : List Cond := Cond.code yX7_groupTold cX7_groupTold 7 none :: TB
theorem gT_X7_groupTold : GoodIn TB (wsV RX7 244 RX7 yX7_groupTold tsX7_groupTold) := goodV (TBm (tk6 (List.mem_of_getElem? (i := 46) rfl)) rfl) (TBm (tk6 (List.mem_of_getElem? (i := 48) rfl)) rfl) (TBm (sk6 (q := (yX7_groupTold, 32)) (List.mem_of_getElem? (i := 9) rfl)) rfl) ini7 (TBm (tk6 (List.mem_of_getElem? (i := 49) rfl)) rfl)
def tsX7_ringTold : List Cond := Cond.code yX7_ringTold cX7_ringTold 7 none :: TB
theorem gT_X7_ringTold : GoodIn TB (wsV RX7 247 RX7 yX7_ringTold tsX7_ringTold) := goodV (TBm (tk6 (List.mem_of_getElem? (i := 50) rfl)) rfl) (TBm (tk6 (List.mem_of_getElem? (i := 52) rfl)) rfl) (TBm (sk6 (q := (yX7_ringTold, 32)) (List.mem_of_getElem? (i := 10) rfl)) rfl) ini7 (TBm (tk6 (List.mem_of_getElem? (i := 53) rfl)) rfl)
def tsX7_tableTold : List Cond := Cond.code yX7_tableTold cX7_tableTold 3 none :: TB
theorem gT_X7_tableTold : GoodIn TB (wsV RX7 250 RX7 yX7_tableTold tsX7_tableTold) := goodV (TBm (tk5 (List.mem_of_getElem? (i := 183) rfl)) rfl) (TBm (tk5 (List.mem_of_getElem? (i := 185) rfl)) rfl) (TBm (sk5 (q := (yX7_tableTold, 32)) (List.mem_of_getElem? (i := 4) rfl)) rfl) ini7 (TBm (tk5 (List.mem_of_getElem? (i := 186) rfl)) rfl)
def tsX7_viewTold : List Cond := Cond.code yX7_viewTold cX7_viewTold 3 none :: TB
theorem gT_X7_viewTold : GoodIn TB (wsV RX7 254 RX7 yX7_viewTold tsX7_viewTold) := goodV (TBm (tk5 (List.mem_of_getElem? (i := 234) rfl)) rfl) (TBm (tk5 (List.mem_of_getElem? (i := 236) rfl)) rfl) (TBm (sk5 (q := (yX7_viewTold, 32)) (List.mem_of_getElem? (i := 12) rfl)) rfl) ini7 (TBm (tk5 (List.mem_of_getElem? (i := 237) rfl)) rfl)
def tsX7_plan : List Cond := Cond.code yX7_plan cX7_plan 3 (some .int) :: TB
def tsX7_compare : List Cond := Cond.code yX7_compare cX7_compare 5 (some .int) :: TB
theorem gT_X7_compare : GoodIn TB (va_wsS RX7 272 yX7_compare tsX7_compare) := goodS (TBm (tk6 (List.mem_of_getElem? (i := 70) rfl)) rfl) (TBm (tk6 (List.mem_of_getElem? (i := 71) rfl)) rfl) ini7 (TBm (tk6 (List.mem_of_getElem? (i := 72) rfl)) rfl)
def tsX7_placeOf : List Cond := Cond.code yX7_placeOf cX7_placeOf 4 (some .int) :: TB
theorem gT_X7_placeOf : GoodIn TB (wsV RX7 276 RX7 yX7_placeOf tsX7_placeOf) := goodV (TBm (tk6 (List.mem_of_getElem? (i := 120) rfl)) rfl) (TBm (tk6 (List.mem_of_getElem? (i := 122) rfl)) rfl) (TBm (sk7 (q := (yX7_placeOf, 32)) (List.mem_of_getElem? (i := 6) rfl)) rfl) ini7 (TBm (tk6 (List.mem_of_getElem? (i := 123) rfl)) rfl)
def tsX7_gathers : List Cond := Cond.code yX7_gathers cX7_gathers 5 (some .boolean) :: TB
theorem gT_X7_gathers : GoodIn TB (wsV RX7 304 RX7 yX7_gathers tsX7_gathers) := goodV (TBm (tk6 (List.mem_of_getElem? (i := 116) rfl)) rfl) (TBm (tk6 (List.mem_of_getElem? (i := 118) rfl)) rfl) (TBm (sk7 (q := (yX7_gathers, 32)) (List.mem_of_getElem? (i := 5) rfl)) rfl) ini7 (TBm (tk6 (List.mem_of_getElem? (i := 119) rfl)) rfl)
def tsX7_lays : List Cond := Cond.code yX7_lays cX7_lays 7 (some .int) :: TB
theorem gT_X7_lays : GoodIn TB (wsV RX7 328 RX7 yX7_lays tsX7_lays) := goodV (TBm (tk6 (List.mem_of_getElem? (i := 124) rfl)) rfl) (TBm (tk6 (List.mem_of_getElem? (i := 126) rfl)) rfl) (TBm (sk7 (q := (yX7_lays, 32)) (List.mem_of_getElem? (i := 7) rfl)) rfl) ini7 (TBm (tk6 (List.mem_of_getElem? (i := 127) rfl)) rfl)
def tsX7_takes : List Cond := Cond.code yX7_takes cX7_takes 3 none :: TB
theorem gT_X7_takes : GoodIn TB (wsV RX7 298 RX7 yX7_takes tsX7_takes) := goodV (TBm (tk6 (List.mem_of_getElem? (i := 112) rfl)) rfl) (TBm (tk6 (List.mem_of_getElem? (i := 114) rfl)) rfl) (TBm (sk7 (q := (yX7_takes, 32)) (List.mem_of_getElem? (i := 4) rfl)) rfl) ini7 (TBm (tk6 (List.mem_of_getElem? (i := 115) rfl)) rfl)
def tsX7_holds : List Cond := Cond.code yX7_holds cX7_holds 7 (some .boolean) :: TB
theorem gT_X7_holds : GoodIn TB (wsV RX7 337 RX7 yX7_holds tsX7_holds) := goodV (TBm (tk6 (List.mem_of_getElem? (i := 176) rfl)) rfl) (TBm (tk6 (List.mem_of_getElem? (i := 178) rfl)) rfl) (TBm (sk8 (q := (yX7_holds, 32)) (List.mem_of_getElem? (i := 4) rfl)) rfl) ini7 (TBm (tk6 (List.mem_of_getElem? (i := 179) rfl)) rfl)
def tsX7_terms : List Cond := Cond.code yX7_terms cX7_terms 5 none :: TB
theorem gT_X7_terms : GoodIn TB (wsV RX7 318 RX7 yX7_terms tsX7_terms) := goodV (TBm (tk6 (List.mem_of_getElem? (i := 160) rfl)) rfl) (TBm (tk6 (List.mem_of_getElem? (i := 162) rfl)) rfl) (TBm (sk8 (q := (yX7_terms, 32)) (List.mem_of_getElem? (i := 0) rfl)) rfl) ini7 (TBm (tk6 (List.mem_of_getElem? (i := 163) rfl)) rfl)
def tsX7_joins : List Cond := Cond.code yX7_joins cX7_joins 14 (some .int) :: TB
theorem gT_X7_joins : GoodIn TB (wsV RX7 325 RX7 yX7_joins tsX7_joins) := goodV (TBm (tk6 (List.mem_of_getElem? (i := 136) rfl)) rfl) (TBm (tk6 (List.mem_of_getElem? (i := 138) rfl)) rfl) (TBm (sk7 (q := (yX7_joins, 32)) (List.mem_of_getElem? (i := 10) rfl)) rfl) ini7 (TBm (tk6 (List.mem_of_getElem? (i := 139) rfl)) rfl)
def tsX7_groups : List Cond := Cond.code yX7_groups cX7_groups 15 none :: TB
theorem gT_X7_groups : GoodIn TB (wsV RX7 334 RX7 yX7_groups tsX7_groups) := goodV (TBm (tk6 (List.mem_of_getElem? (i := 164) rfl)) rfl) (TBm (tk6 (List.mem_of_getElem? (i := 166) rfl)) rfl) (TBm (sk8 (q := (yX7_groups, 32)) (List.mem_of_getElem? (i := 1) rfl)) rfl) ini7 (TBm (tk6 (List.mem_of_getElem? (i := 167) rfl)) rfl)
def tsX7_areOneGroup : List Cond := Cond.code yX7_areOneGroup cX7_areOneGroup 5 (some .boolean) :: TB
theorem gT_X7_areOneGroup : GoodIn TB (wsV RX7 311 RX7 yX7_areOneGroup tsX7_areOneGroup) := goodV (TBm (tk6 (List.mem_of_getElem? (i := 172) rfl)) rfl) (TBm (tk6 (List.mem_of_getElem? (i := 174) rfl)) rfl) (TBm (sk8 (q := (yX7_areOneGroup, 32)) (List.mem_of_getElem? (i := 3) rfl)) rfl) ini7 (TBm (tk6 (List.mem_of_getElem? (i := 175) rfl)) rfl)
def tsX7_isFirstOfGroup : List Cond := Cond.code yX7_isFirstOfGroup cX7_isFirstOfGroup 5 (some .boolean) :: TB
theorem gT_X7_isFirstOfGroup : GoodIn TB (wsV RX7 308 RX7 yX7_isFirstOfGroup tsX7_isFirstOfGroup) := goodV (TBm (tk6 (List.mem_of_getElem? (i := 168) rfl)) rfl) (TBm (tk6 (List.mem_of_getElem? (i := 170) rfl)) rfl) (TBm (sk8 (q := (yX7_isFirstOfGroup, 32)) (List.mem_of_getElem? (i := 2) rfl)) rfl) ini7 (TBm (tk6 (List.mem_of_getElem? (i := 171) rfl)) rfl)
def tsX7_rings : List Cond := Cond.code yX7_rings cX7_rings 9 (some .int) :: TB
theorem gT_X7_rings : GoodIn TB (wsV RX7 331 RX7 yX7_rings tsX7_rings) := goodV (TBm (tk6 (List.mem_of_getElem? (i := 152) rfl)) rfl) (TBm (tk6 (List.mem_of_getElem? (i := 154) rfl)) rfl) (TBm (sk7 (q := (yX7_rings, 32)) (List.mem_of_getElem? (i := 14) rfl)) rfl) ini7 (TBm (tk6 (List.mem_of_getElem? (i := 155) rfl)) rfl)
def tsX7_ringsOnce : List Cond := Cond.code yX7_ringsOnce cX7_ringsOnce 12 (some .int) :: TB
theorem gT_X7_ringsOnce : GoodIn TB (wsV RX7 314 RX7 yX7_ringsOnce tsX7_ringsOnce) := goodV (TBm (tk6 (List.mem_of_getElem? (i := 156) rfl)) rfl) (TBm (tk6 (List.mem_of_getElem? (i := 158) rfl)) rfl) (TBm (sk7 (q := (yX7_ringsOnce, 32)) (List.mem_of_getElem? (i := 15) rfl)) rfl) ini7 (TBm (tk6 (List.mem_of_getElem? (i := 159) rfl)) rfl)
def tsX7_reckons : List Cond := Cond.code yX7_reckons cX7_reckons 10 (some .int) :: TB
theorem gT_X7_reckons : GoodIn TB (wsV RX7 349 RX7 yX7_reckons tsX7_reckons) := goodV (TBm (tk6 (List.mem_of_getElem? (i := 128) rfl)) rfl) (TBm (tk6 (List.mem_of_getElem? (i := 130) rfl)) rfl) (TBm (sk7 (q := (yX7_reckons, 32)) (List.mem_of_getElem? (i := 8) rfl)) rfl) ini7 (TBm (tk6 (List.mem_of_getElem? (i := 131) rfl)) rfl)
def tsX7_copies : List Cond := Cond.code yX7_copies cX7_copies 4 none :: TB
theorem gT_X7_copies : GoodIn TB (wsV RX7 340 RX7 yX7_copies tsX7_copies) := goodV (TBm (tk6 (List.mem_of_getElem? (i := 93) rfl)) rfl) (TBm (tk6 (List.mem_of_getElem? (i := 95) rfl)) rfl) (TBm (sk7 (q := (yX7_copies, 32)) (List.mem_of_getElem? (i := 0) rfl)) rfl) ini7 (TBm (tk6 (List.mem_of_getElem? (i := 96) rfl)) rfl)
def tsX7_changesOf : List Cond := Cond.code yX7_changesOf cX7_changesOf 6 (some .boolean) :: TB
theorem gT_X7_changesOf : GoodIn TB (wsV RX7 346 RX7 yX7_changesOf tsX7_changesOf) := goodV (TBm (tk6 (List.mem_of_getElem? (i := 101) rfl)) rfl) (TBm (tk6 (List.mem_of_getElem? (i := 103) rfl)) rfl) (TBm (sk7 (q := (yX7_changesOf, 32)) (List.mem_of_getElem? (i := 2) rfl)) rfl) ini7 (TBm (tk6 (List.mem_of_getElem? (i := 104) rfl)) rfl)
def tsX7_tables : List Cond := Cond.code yX7_tables cX7_tables 2 (some .int) :: TB
theorem gT_X7_tables : GoodIn TB (wsV RX7 343 RX7 yX7_tables tsX7_tables) := goodV (TBm (tk6 (List.mem_of_getElem? (i := 97) rfl)) rfl) (TBm (tk6 (List.mem_of_getElem? (i := 99) rfl)) rfl) (TBm (sk7 (q := (yX7_tables, 32)) (List.mem_of_getElem? (i := 1) rfl)) rfl) ini7 (TBm (tk6 (List.mem_of_getElem? (i := 100) rfl)) rfl)
def tsX7_drafts : List Cond := Cond.code yX7_drafts cX7_drafts 4 (some .int) :: TB
theorem gT_X7_drafts : GoodIn TB (wsV RX7 358 RX7 yX7_drafts tsX7_drafts) := goodV (TBm (tk6 (List.mem_of_getElem? (i := 89) rfl)) rfl) (TBm (tk6 (List.mem_of_getElem? (i := 91) rfl)) rfl) (TBm (sk6 (q := (yX7_drafts, 32)) (List.mem_of_getElem? (i := 15) rfl)) rfl) ini7 (TBm (tk6 (List.mem_of_getElem? (i := 92) rfl)) rfl)
def tsX7_change : List Cond := Cond.code yX7_change cX7_change 11 (some .int) :: TB
def tsX7_moves : List Cond := Cond.code yX7_moves cX7_moves 4 none :: TB
theorem gT_X7_moves : GoodIn TB (wsV RX7 355 RX7 yX7_moves tsX7_moves) := goodV (TBm (tk6 (List.mem_of_getElem? (i := 73) rfl)) rfl) (TBm (tk6 (List.mem_of_getElem? (i := 75) rfl)) rfl) (TBm (sk6 (q := (yX7_moves, 32)) (List.mem_of_getElem? (i := 14) rfl)) rfl) ini7 (TBm (tk6 (List.mem_of_getElem? (i := 76) rfl)) rfl)
def tsX7_pending : List Cond := Cond.code yX7_pending cX7_pending 3 (some .int) :: TB
def tsX7_cancel : List Cond := Cond.code yX7_cancel cX7_cancel 2 (some .int) :: TB
def tsX7_commit : List Cond := Cond.code yX7_commit cX7_commit 3 (some .int) :: TB
def tsX7_would : List Cond := Cond.code yX7_would cX7_would 3 (some .int) :: TB
def tsX7_undo : List Cond := Cond.code yX7_undo cX7_undo 1 (some .int) :: TB
def tsX7_size : List Cond := Cond.code yX7_size cX7_size 2 (some .int) :: TB
def tsX7_isTold : List Cond := Cond.code yX7_isTold cX7_isTold 3 (some .boolean) :: TB
theorem gT_X7_isTold : GoodIn TB (wsV RX7 364 RX7 yX7_isTold tsX7_isTold) := goodV (TBm (tk6 (List.mem_of_getElem? (i := 204) rfl)) rfl) (TBm (tk6 (List.mem_of_getElem? (i := 206) rfl)) rfl) (TBm (sk8 (q := (yX7_isTold, 32)) (List.mem_of_getElem? (i := 7) rfl)) rfl) ini7 (TBm (tk6 (List.mem_of_getElem? (i := 207) rfl)) rfl)
def tsX7_at : List Cond := Cond.code yX7_at cX7_at 4 (some .int) :: TB
def tsX7_find : List Cond := Cond.code yX7_find cX7_find 9 (some .int) :: TB
theorem gT_X7_find : GoodIn TB (wsV RX7 367 RX7 yX7_find tsX7_find) := goodV (TBm (tk6 (List.mem_of_getElem? (i := 212) rfl)) rfl) (TBm (tk6 (List.mem_of_getElem? (i := 214) rfl)) rfl) (TBm (sk8 (q := (yX7_find, 32)) (List.mem_of_getElem? (i := 8) rfl)) rfl) ini7 (TBm (tk6 (List.mem_of_getElem? (i := 215) rfl)) rfl)
def tsX7_count : List Cond := Cond.code yX7_count cX7_count 7 (some .int) :: TB
def tsX7_total : List Cond := Cond.code yX7_total cX7_total 4 (some .int) :: TB
def tsX7_laysMoved : List Cond := Cond.code yX7_laysMoved cX7_laysMoved 11 (some .int) :: TB
theorem gT_X7_laysMoved : GoodIn TB (wsV RX7 371 RX7 yX7_laysMoved tsX7_laysMoved) := goodV (TBm (tk6 (List.mem_of_getElem? (i := 184) rfl)) rfl) (TBm (tk6 (List.mem_of_getElem? (i := 186) rfl)) rfl) (TBm (sk8 (q := (yX7_laysMoved, 32)) (List.mem_of_getElem? (i := 6) rfl)) rfl) ini7 (TBm (tk6 (List.mem_of_getElem? (i := 187) rfl)) rfl)
def tsX7_movedInViews : List Cond := Cond.code yX7_movedInViews cX7_movedInViews 3 (some .int) :: TB
theorem gT_X7_movedInViews : GoodIn TB (wsV RX7 361 RX7 yX7_movedInViews tsX7_movedInViews) := goodV (TBm (tk6 (List.mem_of_getElem? (i := 180) rfl)) rfl) (TBm (tk6 (List.mem_of_getElem? (i := 182) rfl)) rfl) (TBm (sk8 (q := (yX7_movedInViews, 32)) (List.mem_of_getElem? (i := 5) rfl)) rfl) ini7 (TBm (tk6 (List.mem_of_getElem? (i := 183) rfl)) rfl)
def tsX7_cameTo : List Cond := Cond.code yX7_cameTo cX7_cameTo 3 (some .int) :: TB
theorem gT_X7_cameTo : GoodIn TB (wsV RX7 374 RX7 yX7_cameTo tsX7_cameTo) := goodV (TBm (tk6 (List.mem_of_getElem? (i := 232) rfl)) rfl) (TBm (tk6 (List.mem_of_getElem? (i := 234) rfl)) rfl) (TBm (sk8 (q := (yX7_cameTo, 32)) (List.mem_of_getElem? (i := 9) rfl)) rfl) ini7 (TBm (tk6 (List.mem_of_getElem? (i := 235) rfl)) rfl)
def tsX7_moved : List Cond := Cond.code yX7_moved cX7_moved 2 (some .int) :: TB
def tsX7_movedAt : List Cond := Cond.code yX7_movedAt cX7_movedAt 4 (some .int) :: TB
def tsX7_came : List Cond := Cond.code yX7_came cX7_came 2 (some .int) :: TB
def tsX7_round : List Cond := Cond.code yX7_round cX7_round 7 (some .int) :: TB
def tsX7_rounds : List Cond := Cond.code yX7_rounds cX7_rounds 2 (some .int) :: TB
def tsX7_differs : List Cond := Cond.code yX7_differs cX7_differs 7 (some .int) :: TB
def tsX7_hangsOn : List Cond := Cond.code yX7_hangsOn cX7_hangsOn 3 (some .int) :: TB
theorem gT_X7_hangsOn : GoodIn TB (wsV RX7 377 RX7 yX7_hangsOn tsX7_hangsOn) := goodV (TBm (tk7 (List.mem_of_getElem? (i := 12) rfl)) rfl) (TBm (tk7 (List.mem_of_getElem? (i := 14) rfl)) rfl) (TBm (sk8 (q := (yX7_hangsOn, 32)) (List.mem_of_getElem? (i := 10) rfl)) rfl) ini7 (TBm (tk7 (List.mem_of_getElem? (i := 15) rfl)) rfl)
def tsX7_hangOn : List Cond := Cond.code yX7_hangOn cX7_hangOn 4 (some .int) :: TB
theorem gT_X7_hangOn : GoodIn TB (wsV RX7 383 RX7 yX7_hangOn tsX7_hangOn) := goodV (TBm (tk7 (List.mem_of_getElem? (i := 16) rfl)) rfl) (TBm (tk7 (List.mem_of_getElem? (i := 18) rfl)) rfl) (TBm (sk8 (q := (yX7_hangOn, 32)) (List.mem_of_getElem? (i := 11) rfl)) rfl) ini7 (TBm (tk7 (List.mem_of_getElem? (i := 19) rfl)) rfl)
def tsX7_farOf : List Cond := Cond.code yX7_farOf cX7_farOf 4 (some .int) :: TB
theorem gT_X7_farOf : GoodIn TB (wsV RX7 380 RX7 yX7_farOf tsX7_farOf) := goodV (TBm (tk7 (List.mem_of_getElem? (i := 20) rfl)) rfl) (TBm (tk7 (List.mem_of_getElem? (i := 22) rfl)) rfl) (TBm (sk8 (q := (yX7_farOf, 32)) (List.mem_of_getElem? (i := 12) rfl)) rfl) ini7 (TBm (tk7 (List.mem_of_getElem? (i := 23) rfl)) rfl)
def tsX7_of : List Cond := Cond.code yX7_of cX7_of 5 (some .int) :: TB
def tsX7_column_ : List Cond := Cond.code yX7_column_ cX7_column_ 11 (some .int) :: TB
def tsX7_told : List Cond := Cond.code yX7_told cX7_told 4 (some .int) :: TB
theorem gT_X7_packed_J0_length_8abf5 : GoodIn TB (wsV RX7 117 RJ0 yJ0_length_8abf5 wsJ0_length_8abf5) := fun w hw => good_tb ((show ∀ w ∈ ([Cond.methodLink RX7 117 yJ0_length_8abf5, Cond.instanceMethod yJ0_length_8abf5, Cond.selects RJ0 yJ0_length_8abf5 yJ0_length_8abf5, Cond.initialized RJ0, Cond.code yJ0_length_8abf5 cJ0_length_8abf5 1 (some .int), Cond.fieldLink RJ0 9 "java/lang/String" "value" "[B", Cond.methodLink RJ0 335 yJ0_coder_7d493, Cond.instanceMethod yJ0_coder_7d493, Cond.selects RJ0 yJ0_coder_7d493 yJ0_coder_7d493, Cond.initialized RJ0, Cond.code yJ0_coder_7d493 cJ0_coder_7d493 1 (some .byte), Cond.fieldLink RJ0 38 "java/lang/String" "COMPACT_STRINGS" "Z", Cond.fieldLink RJ0 15 "java/lang/String" "coder" "B"] : List Cond), w ∈ TB from List.forall_mem_cons.2 ⟨TBm (tk5 (List.mem_of_getElem? (i := 181) rfl)) rfl, List.forall_mem_cons.2 ⟨TBm (tk2 (List.mem_of_getElem? (i := 84) rfl)) rfl, List.forall_mem_cons.2 ⟨TBm (tk2 (List.mem_of_getElem? (i := 85) rfl)) rfl, List.forall_mem_cons.2 ⟨TBm (tk1 (List.mem_of_getElem? (i := 9) rfl)) rfl, List.forall_mem_cons.2 ⟨TBm (tk2 (List.mem_of_getElem? (i := 86) rfl)) rfl, List.forall_mem_cons.2 ⟨TBm (tk7 (List.mem_of_getElem? (i := 47) rfl)) rfl, List.forall_mem_cons.2 ⟨TBm (tk2 (List.mem_of_getElem? (i := 87) rfl)) rfl, List.forall_mem_cons.2 ⟨TBm (tk2 (List.mem_of_getElem? (i := 88) rfl)) rfl, List.forall_mem_cons.2 ⟨TBm (tk2 (List.mem_of_getElem? (i := 89) rfl)) rfl, List.forall_mem_cons.2 ⟨TBm (tk1 (List.mem_of_getElem? (i := 9) rfl)) rfl, List.forall_mem_cons.2 ⟨TBm (tk2 (List.mem_of_getElem? (i := 90) rfl)) rfl, List.forall_mem_cons.2 ⟨TBm (tk2 (List.mem_of_getElem? (i := 91) rfl)) rfl, List.forall_mem_cons.2 ⟨TBm (tk7 (List.mem_of_getElem? (i := 48) rfl)) rfl, fun _ h => absurd h List.not_mem_nil⟩⟩⟩⟩⟩⟩⟩⟩⟩⟩⟩⟩⟩) w hw)
theorem gT_X7_packed_J0_charAt_5068e : GoodIn TB (wsV RX7 123 RJ0 yJ0_charAt_5068e wsJ0_charAt_5068e) := fun w hw => good_tb ((show ∀ w ∈ ([Cond.methodLink RX7 123 yJ0_charAt_5068e, Cond.instanceMethod yJ0_charAt_5068e, Cond.selects RJ0 yJ0_charAt_5068e yJ0_charAt_5068e, Cond.initialized RJ0, Cond.code yJ0_charAt_5068e cJ0_charAt_5068e 2 (some .char), Cond.fieldLink RJ0 9 "java/lang/String" "value" "[B", Cond.methodLink RJ0 492 yJ0_isLatin1_aae02, Cond.instanceMethod yJ0_isLatin1_aae02, Cond.selects RJ0 yJ0_isLatin1_aae02 yJ0_isLatin1_aae02, Cond.initialized RJ0, Cond.code yJ0_isLatin1_aae02 cJ0_isLatin1_aae02 1 (some .boolean), Cond.fieldLink RJ0 38 "java/lang/String" "COMPACT_STRINGS" "Z", Cond.fieldLink RJ0 15 "java/lang/String" "coder" "B", Cond.methodLink RJ0 495 yJ1_charAt_3b067, Cond.static yJ1_charAt_3b067, Cond.initialized RJ1, Cond.code yJ1_charAt_3b067 cJ1_charAt_3b067 2 (some .char), Cond.methodLink RJ1 9 yJ0_checkIndex_df160, Cond.static yJ0_checkIndex_df160, Cond.code yJ0_checkIndex_df160 cJ0_checkIndex_df160 2 none, Cond.fieldLink RJ0 1053 "jdk/internal/util/Preconditions" "SIOOBE_FORMATTER" "Ljava/util/function/BiFunction;", Cond.methodLink RJ0 1059 yJ3_checkIndex_8e157, Cond.static yJ3_checkIndex_8e157, Cond.initialized RJ3, Cond.code yJ3_checkIndex_8e157 cJ3_checkIndex_8e157 3 (some .int), Cond.methodLink RJ0 498 yJ2_charAt_3b067, Cond.static yJ2_charAt_3b067, Cond.initialized RJ2, Cond.code yJ2_charAt_3b067 cJ2_charAt_3b067 2 (some .char), Cond.methodLink RJ2 67 yJ2_checkIndex_2214a, Cond.static yJ2_checkIndex_2214a, Cond.code yJ2_checkIndex_2214a cJ2_checkIndex_2214a 2 none, Cond.methodLink RJ2 48 yJ2_length_9d52b, Cond.static yJ2_length_9d52b, Cond.code yJ2_length_9d52b cJ2_length_9d52b 1 (some .int), Cond.methodLink RJ2 414 yJ0_checkIndex_df160, Cond.methodLink RJ2 71 yJ2_getChar_3b067, Cond.static yJ2_getChar_3b067, Cond.code yJ2_getChar_3b067 cJ2_getChar_3b067 2 (some .char), Cond.fieldLink RJ2 44 "java/lang/StringUTF16" "$assertionsDisabled" "Z", Cond.fieldLink RJ2 59 "java/lang/StringUTF16" "HI_BYTE_SHIFT" "I", Cond.fieldLink RJ2 63 "java/lang/StringUTF16" "LO_BYTE_SHIFT" "I"] : List Cond), w ∈ TB from List.forall_mem_cons.2 ⟨TBm (tk5 (List.mem_of_getElem? (i := 182) rfl)) rfl, List.forall_mem_cons.2 ⟨TBm (tk2 (List.mem_of_getElem? (i := 94) rfl)) rfl, List.forall_mem_cons.2 ⟨TBm (tk2 (List.mem_of_getElem? (i := 95) rfl)) rfl, List.forall_mem_cons.2 ⟨TBm (tk1 (List.mem_of_getElem? (i := 9) rfl)) rfl, List.forall_mem_cons.2 ⟨TBm (tk2 (List.mem_of_getElem? (i := 96) rfl)) rfl, List.forall_mem_cons.2 ⟨TBm (tk7 (List.mem_of_getElem? (i := 47) rfl)) rfl, List.forall_mem_cons.2 ⟨TBm (tk2 (List.mem_of_getElem? (i := 97) rfl)) rfl, List.forall_mem_cons.2 ⟨TBm (tk2 (List.mem_of_getElem? (i := 98) rfl)) rfl, List.forall_mem_cons.2 ⟨TBm (tk2 (List.mem_of_getElem? (i := 99) rfl)) rfl, List.forall_mem_cons.2 ⟨TBm (tk1 (List.mem_of_getElem? (i := 9) rfl)) rfl, List.forall_mem_cons.2 ⟨TBm (tk2 (List.mem_of_getElem? (i := 100) rfl)) rfl, List.forall_mem_cons.2 ⟨TBm (tk2 (List.mem_of_getElem? (i := 91) rfl)) rfl, List.forall_mem_cons.2 ⟨TBm (tk7 (List.mem_of_getElem? (i := 48) rfl)) rfl, List.forall_mem_cons.2 ⟨TBm (tk2 (List.mem_of_getElem? (i := 101) rfl)) rfl, List.forall_mem_cons.2 ⟨TBm (tk2 (List.mem_of_getElem? (i := 102) rfl)) rfl, List.forall_mem_cons.2 ⟨TBm (tk1 (List.mem_of_getElem? (i := 10) rfl)) rfl, List.forall_mem_cons.2 ⟨TBm (tk2 (List.mem_of_getElem? (i := 103) rfl)) rfl, List.forall_mem_cons.2 ⟨TBm (tk2 (List.mem_of_getElem? (i := 104) rfl)) rfl, List.forall_mem_cons.2 ⟨TBm (tk2 (List.mem_of_getElem? (i := 105) rfl)) rfl, List.forall_mem_cons.2 ⟨TBm (tk2 (List.mem_of_getElem? (i := 106) rfl)) rfl, List.forall_mem_cons.2 ⟨TBm (tk2 (List.mem_of_getElem? (i := 107) rfl)) rfl, List.forall_mem_cons.2 ⟨TBm (tk2 (List.mem_of_getElem? (i := 109) rfl)) rfl, List.forall_mem_cons.2 ⟨TBm (tk2 (List.mem_of_getElem? (i := 110) rfl)) rfl, List.forall_mem_cons.2 ⟨TBm (tk1 (List.mem_of_getElem? (i := 11) rfl)) rfl, List.forall_mem_cons.2 ⟨TBm (tk2 (List.mem_of_getElem? (i := 111) rfl)) rfl, List.forall_mem_cons.2 ⟨TBm (tk2 (List.mem_of_getElem? (i := 112) rfl)) rfl, List.forall_mem_cons.2 ⟨TBm (tk2 (List.mem_of_getElem? (i := 113) rfl)) rfl, List.forall_mem_cons.2 ⟨TBm (tk1 (List.mem_of_getElem? (i := 12) rfl)) rfl, List.forall_mem_cons.2 ⟨TBm (tk2 (List.mem_of_getElem? (i := 114) rfl)) rfl, List.forall_mem_cons.2 ⟨TBm (tk2 (List.mem_of_getElem? (i := 115) rfl)) rfl, List.forall_mem_cons.2 ⟨TBm (tk2 (List.mem_of_getElem? (i := 116) rfl)) rfl, List.forall_mem_cons.2 ⟨TBm (tk2 (List.mem_of_getElem? (i := 117) rfl)) rfl, List.forall_mem_cons.2 ⟨TBm (tk2 (List.mem_of_getElem? (i := 118) rfl)) rfl, List.forall_mem_cons.2 ⟨TBm (tk2 (List.mem_of_getElem? (i := 119) rfl)) rfl, List.forall_mem_cons.2 ⟨TBm (tk2 (List.mem_of_getElem? (i := 120) rfl)) rfl, List.forall_mem_cons.2 ⟨TBm (tk2 (List.mem_of_getElem? (i := 121) rfl)) rfl, List.forall_mem_cons.2 ⟨TBm (tk2 (List.mem_of_getElem? (i := 122) rfl)) rfl, List.forall_mem_cons.2 ⟨TBm (tk2 (List.mem_of_getElem? (i := 123) rfl)) rfl, List.forall_mem_cons.2 ⟨TBm (tk2 (List.mem_of_getElem? (i := 124) rfl)) rfl, List.forall_mem_cons.2 ⟨TBm (tk2 (List.mem_of_getElem? (i := 125) rfl)) rfl, List.forall_mem_cons.2 ⟨TBm (tk2 (List.mem_of_getElem? (i := 127) rfl)) rfl, List.forall_mem_cons.2 ⟨TBm (tk2 (List.mem_of_getElem? (i := 129) rfl)) rfl, fun _ h => absurd h List.not_mem_nil⟩⟩⟩⟩⟩⟩⟩⟩⟩⟩⟩⟩⟩⟩⟩⟩⟩⟩⟩⟩⟩⟩⟩⟩⟩⟩⟩⟩⟩⟩⟩⟩⟩⟩⟩⟩⟩⟩⟩⟩⟩⟩) w hw)
theorem cl_115 : Cond.constantLong RX7 115 256 ∈ TB := TBm (tk5 (List.mem_of_getElem? (i := 172) rfl)) rfl
theorem cc_23 : Cond.constant RX7 23 (iI 126720) ∈ TB := TBm (tk5 (List.mem_of_getElem? (i := 33) rfl)) rfl
theorem cc_388 : Cond.constant RX7 388 (iI 2147483647) ∈ TB := TBm (tk7 (List.mem_of_getElem? (i := 28) rfl)) rfl
theorem cc_389 : Cond.constant RX7 389 (iI (-2147483648)) ∈ TB := TBm (tk7 (List.mem_of_getElem? (i := 29) rfl)) rfl
def tsX7_thrown : List Cond := Cond.code yX7_thrown cX7_thrown 1 (some .int) :: TB
end
section
/-! what a state of the reference is. gh (50 + k) 0: the array of field k; gh 9 = 5 and gh 10 = k there; gh 48 0: the object -/
def mTab : List (Nat × Nat) := [(0, 640), (3, 640), (6, 126720), (7, 176), (11, 41), (12, 164), (13, 41), (15, 936), (25, 9600), (27, 4), (28, 8), (29, 176), (30, 600), (31, 1200)]
def mSh (g : gG) (gh : gGh) (R : gR) : Prop := ∀ m, gO g m 7 → m = gh 48 0 ∧ (∀ q ∈ mTab, R m q.1 = some (gh (50 + q.1) 0) ∧ gAr g (gh (50 + q.1) 0) 9 q.2 ∧ (q.1 ≠ 15 → q.1 ≠ 11 → q.1 ≠ 12 → q.1 ≠ 13 → gh 9 (gh (50 + q.1) 0) = 5) ∧ gh 10 (gh (50 + q.1) 0) = q.1) ∧
  (R m 1 = some (gh 51 0) ∧ gAr g (gh 51 0) 10 16) ∧ (R m 4 = some (gh 54 0) ∧ gAr g (gh 54 0) 10 16)
def mNum (f : Nat → Int32) : Prop := 0 ≤ (f 2).toInt ∧ (f 2).toInt ≤ 16 ∧ 0 ≤ (f 5).toInt ∧ (f 5).toInt ≤ 16 ∧ 0 ≤ (f 8).toInt ∧ (f 8).toInt ≤ 8 ∧ 0 ≤ (f 14).toInt ∧ (f 14).toInt ≤ 40 ∧ 0 ≤ (f 16).toInt ∧ (f 16).toInt ≤ 936 ∧
  0 ≤ (f 18).toInt ∧ (f 18).toInt ≤ 936 ∧ 0 ≤ (f 19).toInt ∧ (f 19).toInt ≤ 937 ∧ 0 ≤ (f 20).toInt ∧ (f 20).toInt ≤ 937 ∧ 0 ≤ (f 24).toInt ∧ (f 24).toInt ≤ 10000 ∧ 0 ≤ (f 26).toInt ∧ (f 26).toInt ≤ 1600 ∧ ((f 21).toInt = 1 → 0 ≤ (f 23).toInt ∧ (f 23).toInt ≤ 3)
/-- the same, without the token -/
def mNum1 (f : Nat → Int32) : Prop := 0 ≤ (f 2).toInt ∧ (f 2).toInt ≤ 16 ∧ 0 ≤ (f 5).toInt ∧ (f 5).toInt ≤ 16 ∧ 0 ≤ (f 8).toInt ∧ (f 8).toInt ≤ 8 ∧ 0 ≤ (f 14).toInt ∧ (f 14).toInt ≤ 40 ∧ 0 ≤ (f 16).toInt ∧ (f 16).toInt ≤ 936 ∧
  0 ≤ (f 18).toInt ∧ (f 18).toInt ≤ 936 ∧ 0 ≤ (f 19).toInt ∧ (f 19).toInt ≤ 937 ∧ 0 ≤ (f 20).toInt ∧ (f 20).toInt ≤ 937 ∧ 0 ≤ (f 24).toInt ∧ (f 24).toInt ≤ 10000 ∧ 0 ≤ (f 26).toInt ∧ (f 26).toInt ≤ 1600
/-- a bit of x, as the machine takes it -/
def mBit (x d : Int) : Int := (iI ((iI x >>> (iI d &&& 31)).toInt) &&& iI 1).toInt
def mCnt (x : Int) : Nat → Int
  | 0 => 0
  | n + 1 => mCnt x n + (if mBit x n = 1 then 0 else 1)
/-- a number of a list -/
def tI (f : Nat → Int32) (z : Int) : Int := (f z.toNat).toInt
/-- a part of a relation's row -/
def mP (f : Nat → Int32) (r k w : Int) : Int := tI f (40 * r + 6 + 4 * k + w)
/-- a relation's row: kind, columns, first, second, parts, gone, then parts of four -/
def rowOK (f : Nat → Int32) (r : Int) : Prop :=
  (0 ≤ tI f (40 * r) ∧ tI f (40 * r) ≤ 8 ∧ 1 ≤ tI f (40 * r + 1) ∧ tI f (40 * r + 1) ≤ 4) ∧
  (tI f (40 * r) ≠ 0 → 0 ≤ tI f (40 * r + 2) ∧ tI f (40 * r + 2) < r ∧ -1 ≤ tI f (40 * r + 3) ∧ tI f (40 * r + 3) < r) ∧
  (0 ≤ tI f (40 * r + 4) ∧ tI f (40 * r + 4) ≤ 8) ∧
  (tI f (40 * r) = 0 → 0 < r → tI f (40 * (r - 1)) = 0) ∧
  (tI f (40 * r) = 1 → ∀ k : Int, 0 ≤ k → k < tI f (40 * r + 4) → 0 ≤ mP f r k 0 ∧ mP f r k 0 ≤ 3 ∧ (mP f r k 2 = 1 → 0 ≤ mP f r k 3 ∧ mP f r k 3 ≤ 3)) ∧
  (tI f (40 * r) = 2 → tI f (40 * r + 4) ≤ 4 ∧ ∀ k : Int, 0 ≤ k → k < tI f (40 * r + 4) → mP f r k 0 ≤ 3) ∧
  (tI f (40 * r) = 3 → 0 ≤ tI f (40 * r + 3) ∧ tI f (40 * r + 4) ≤ 4 ∧ (∀ k : Int, 0 ≤ k → k < tI f (40 * r + 4) → 0 ≤ mP f r k 0 ∧ mP f r k 0 ≤ 3 ∧ 0 ≤ mP f r k 1 ∧ mP f r k 1 ≤ 3) ∧
    tI f (40 * tI f (40 * r + 2) + 1) + mCnt (tI f (40 * r + 5)) (tI f (40 * tI f (40 * r + 3) + 1)).toNat ≤ 4) ∧
  (tI f (40 * r) = 4 ∨ tI f (40 * r) = 5 → 0 ≤ tI f (40 * r + 3)) ∧
  (tI f (40 * r) = 7 → tI f (40 * r + 4) ≤ 3 ∧ (∀ k : Int, 0 ≤ k → k < tI f (40 * r + 4) → 0 ≤ mP f r k 0 ∧ mP f r k 0 ≤ 3) ∧ 0 ≤ mP f r (tI f (40 * r + 4)) 0 ∧ mP f r (tI f (40 * r + 4)) 0 ≤ 3) ∧
  (tI f (40 * r) = 8 → 0 ≤ tI f (40 * r + 3) ∧ tI f (40 * r + 4) ≤ 4 ∧ 0 ≤ mP f r 0 0 ∧ mP f r 0 0 ≤ 3 ∧ 0 ≤ mP f r 0 1 ∧ mP f r 0 1 ≤ 3 ∧ (∀ k : Int, 0 ≤ k → k < tI f (40 * r + 4) → mP f r (1 + k) 0 ≤ 3) ∧ tI f (40 * r + 4) = tI f (40 * tI f (40 * r + 2) + 1))
theorem rowOK_c {f f' : Nat → Int32} {r : Int} (hr : 0 ≤ r) (e : ∀ z : Int, 0 ≤ z → z < 40 * r + 40 → tI f' z = tI f z) (h : rowOK f r) : rowOK f' r := by
  obtain ⟨ha, hb, hc, hd, h1, h2, h3, h4, h7, h8⟩ := h
  have e0 : tI f' (40 * r) = tI f (40 * r) := e _ (by omega) (by omega)
  have e1 : tI f' (40 * r + 1) = tI f (40 * r + 1) := e _ (by omega) (by omega)
  have e2 : tI f' (40 * r + 2) = tI f (40 * r + 2) := e _ (by omega) (by omega)
  have e3 : tI f' (40 * r + 3) = tI f (40 * r + 3) := e _ (by omega) (by omega)
  have e4 : tI f' (40 * r + 4) = tI f (40 * r + 4) := e _ (by omega) (by omega)
  have e5 : tI f' (40 * r + 5) = tI f (40 * r + 5) := e _ (by omega) (by omega)
  have ep : ∀ k w : Int, 0 ≤ k → k ≤ 7 → 0 ≤ w → w ≤ 3 → mP f' r k w = mP f r k w := fun k w _ _ _ _ => e _ (by omega) (by omega)
  unfold rowOK
  rw [e0, e1, e2, e3, e4, e5]
  refine ⟨ha, hb, hc, fun a b => by rw [e _ (by omega) (by omega)]; exact hd a b, fun a k hk hl => ?_, fun a => ⟨(h2 a).1, fun k hk hl => ?_⟩, fun a => ⟨(h3 a).1, (h3 a).2.1, fun k hk hl => ?_, ?_⟩, h4, fun a => ⟨(h7 a).1, fun k hk hl => ?_, ?_⟩, fun a => ⟨(h8 a).1, (h8 a).2.1, ?_⟩⟩
  · rw [ep k 0 hk (by omega) (by decide) (by decide), ep k 2 hk (by omega) (by decide) (by decide), ep k 3 hk (by omega) (by decide) (by decide)]; exact h1 a k hk hl
  · rw [ep k 0 hk (by omega) (by decide) (by decide)]; exact (h2 a).2 k hk hl
  · rw [ep k 0 hk (by omega) (by decide) (by decide), ep k 1 hk (by omega) (by decide) (by decide)]; exact (h3 a).2.2.1 k hk hl
  · have q := hb (by omega)
    have q3 := (h3 a).1
    rw [e (40 * tI f (40 * r + 2) + 1) (by omega) (by omega), e (40 * tI f (40 * r + 3) + 1) (by omega) (by omega)]; exact (h3 a).2.2.2
  · have q := (h7 a).1
    rw [ep k 0 hk (by omega) (by decide) (by decide)]; exact (h7 a).2.1 k hk hl
  · have q := (h7 a).1
    rw [ep _ 0 (by omega) (by omega) (by decide) (by decide)]; exact (h7 a).2.2
  · have q := hb (by omega)
    obtain ⟨q3, q4, qa, qb, qc, qd, qe, qf⟩ := h8 a
    rw [ep 0 0 (by decide) (by decide) (by decide) (by decide), ep 0 1 (by decide) (by decide) (by decide) (by decide), e (40 * tI f (40 * r + 2) + 1) (by omega) (by omega)]
    exact ⟨qa, qb, qc, qd, fun k hk hl => by rw [ep (1 + k) 0 (by omega) (by omega) (by decide) (by decide)]; exact qe k hk hl, qf⟩
def mCon (gh : gGh) (f : Nat → Int32) (AI : gI) : Prop := (∀ j : Nat, j < 176 → 0 ≤ (AI (gh 57 0) j).toInt ∧ (AI (gh 57 0) j).toInt ≤ 120) ∧ (∀ j : Nat, j < 41 → 0 ≤ (AI (gh 61 0) j).toInt ∧ (AI (gh 61 0) j).toInt ≤ 15) ∧
  (∀ r : Int, 0 ≤ r → r < (f 2).toInt → rowOK (AI (gh 50 0)) r) ∧ (∀ r : Int, 0 ≤ r → r < (f 5).toInt → rowOK (AI (gh 53 0)) r)
/-- the class's side is as gM says -/
def mFr (g : gG) (gh : gGh) (I AI : gI) : Prop := (∀ b c, gO g b c → c ≠ 7 → I b = (gM g).1 b) ∧ ∀ b, gh 9 b ≠ 5 → AI b = (gM g).2 b
def mInv (g : gG) (gh : gGh) (R : gR) (I AI : gI) : Prop := mSh g gh R ∧ (∀ m, gO g m 7 → mNum (I m) ∧ mCon gh (I m) AI) ∧ mFr g gh I AI
section MInv
variable {g : gG} {gh : gGh} {R : gR} {I AI : gI} {m : Nat}
theorem mR (hv : mInv g gh R I AI) (hm : gO g m 7) {q : Nat × Nat} (h : q ∈ mTab) : R m q.1 = some (gh (50 + q.1) 0) ∧ gAr g (gh (50 + q.1) 0) 9 q.2 := ⟨((hv.1 m hm).2.1 q h).1, ((hv.1 m hm).2.1 q h).2.1⟩
theorem mI (hv : mInv g gh R I AI) (hm : gO g m 7) : mNum (I m) := (hv.2.1 m hm).1
theorem mJ (hv : mInv g gh R I AI) (hm : gO g m 7) : mNum1 (I m) := by have h := mI hv hm; unfold mNum at h; unfold mNum1; omega
theorem mTok (hv : mInv g gh R I AI) (hm : gO g m 7) : (I m 21).toInt = 1 → 0 ≤ (I m 23).toInt ∧ (I m 23).toInt ≤ 3 := by have h := mI hv hm; unfold mNum at h; omega
theorem mOne (hv : mInv g gh R I AI) (hm : gO g m 7) {b : Nat} (hb : gO g b 7) : b = m := (hv.1 b hb).1.trans (hv.1 m hm).1.symm
/-- an int field but many and readMany -/
theorem mInv_f {k : Nat} {v : Int32} (hv : mInv g gh R I AI) (hm : gO g m 7) (hk : k ≠ 2 ∧ k ≠ 5) (h : mNum (gup2 I m k v m)) : mInv g gh R (gup2 I m k v) AI := by
  refine ⟨hv.1, fun b hb => ?_, fun b c hb hc => (gup2_o hm hb hc).trans (hv.2.2.1 b c hb hc), hv.2.2.2⟩
  have e := mOne hv hm hb
  subst e
  refine ⟨h, ?_⟩
  unfold mCon
  rw [gup2_k (j := 2) _ _ (Ne.symm hk.1), gup2_k (j := 5) _ _ (Ne.symm hk.2)]
  exact (hv.2.1 b hb).2
/-- an array that no invariant looks into -/
theorem mInv_b {AI' : gI} {q : Nat × Nat} (hv : mInv g gh R I AI) (hm : gO g m 7) (hq : q ∈ mTab) (hn : q.1 ≠ 0 ∧ q.1 ≠ 3 ∧ q.1 ≠ 7 ∧ q.1 ≠ 11 ∧ q.1 ≠ 15) (h9 : gh 9 (gh (50 + q.1) 0) = 5) (e : ∀ b, b ≠ gh (50 + q.1) 0 → AI' b = AI b) : mInv g gh R I AI' := by
  have hr := (hv.1 m hm).2.1 q hq
  have s : ∀ p ∈ mTab, p.1 ≠ q.1 → AI' (gh (50 + p.1) 0) = AI (gh (50 + p.1) 0) := fun p hp hne => e _ (fun z => hne (by have := ((hv.1 m hm).2.1 p hp).2.2.2; rw [z, hr.2.2.2] at this; exact this.symm))
  refine ⟨hv.1, fun b hb => ⟨(hv.2.1 b hb).1, ?_⟩, hv.2.2.1, fun b hb => (e b (fun z => hb (by rw [z]; exact h9))).trans (hv.2.2.2 b hb)⟩
  unfold mCon
  have s7 : AI' (gh 57 0) = AI (gh 57 0) := s (7, 176) (by decide) (Ne.symm hn.2.2.1)
  have s11 : AI' (gh 61 0) = AI (gh 61 0) := s (11, 41) (by decide) (Ne.symm hn.2.2.2.1)
  have s0 : AI' (gh 50 0) = AI (gh 50 0) := s (0, 640) (by decide) (Ne.symm hn.1)
  have s3 : AI' (gh 53 0) = AI (gh 53 0) := s (3, 640) (by decide) (Ne.symm hn.2.1)
  rw [s7, s11, s0, s3]
  exact (hv.2.1 b hb).2
theorem mInv_a {AI' : gI} {q : Nat × Nat} (hv : mInv g gh R I AI) (hm : gO g m 7) (hq : q ∈ mTab) (hn : (q.1 ≠ 0 ∧ q.1 ≠ 3 ∧ q.1 ≠ 7 ∧ q.1 ≠ 11 ∧ q.1 ≠ 15) ∧ q.1 ≠ 12 ∧ q.1 ≠ 13) (e : ∀ b, b ≠ gh (50 + q.1) 0 → AI' b = AI b) : mInv g gh R I AI' :=
  mInv_b hv hm hq hn.1 (((hv.1 m hm).2.1 q hq).2.2.1 hn.1.2.2.2.2 hn.1.2.2.2.1 hn.2.1 hn.2.2) e
theorem mInv_sizes {AI' : gI} (hv : mInv g gh R I AI) (hm : gO g m 7) (e : ∀ b, b ≠ gh 57 0 → AI' b = AI b) (h : ∀ j : Nat, j < 176 → 0 ≤ (AI' (gh 57 0) j).toInt ∧ (AI' (gh 57 0) j).toInt ≤ 120) : mInv g gh R I AI' := by
  have hr := (hv.1 m hm).2.1 (7, 176) (by decide)
  have h10 : gh 10 (gh 57 0) = 7 := hr.2.2.2
  have s : ∀ p ∈ mTab, p.1 ≠ 7 → AI' (gh (50 + p.1) 0) = AI (gh (50 + p.1) 0) := fun p hp hne => e _ (fun z => hne (by have := ((hv.1 m hm).2.1 p hp).2.2.2; rw [z, h10] at this; exact this.symm))
  refine ⟨hv.1, fun b hb => ⟨(hv.2.1 b hb).1, ?_⟩, hv.2.2.1, fun b hb => (e b (fun z => hb (by rw [z]; exact hr.2.2.1 (by decide) (by decide) (by decide) (by decide)))).trans (hv.2.2.2 b hb)⟩
  have q := (hv.2.1 b hb).2
  unfold mCon
  have s11 : AI' (gh 61 0) = AI (gh 61 0) := s (11, 41) (by decide) (by decide)
  have s0 : AI' (gh 50 0) = AI (gh 50 0) := s (0, 640) (by decide) (by decide)
  have s3 : AI' (gh 53 0) = AI (gh 53 0) := s (3, 640) (by decide) (by decide)
  rw [s11, s0, s3]
  exact ⟨h, q.2⟩
theorem mInv_ct {AI' : gI} (hv : mInv g gh R I AI) (hm : gO g m 7) (h61 : gh 9 (gh 61 0) = 5) (e : ∀ b, b ≠ gh 61 0 → AI' b = AI b) (h : ∀ j : Nat, j < 41 → 0 ≤ (AI' (gh 61 0) j).toInt ∧ (AI' (gh 61 0) j).toInt ≤ 15) : mInv g gh R I AI' := by
  have hr := (hv.1 m hm).2.1 (11, 41) (by decide)
  have h10 : gh 10 (gh 61 0) = 11 := hr.2.2.2
  have s : ∀ p ∈ mTab, p.1 ≠ 11 → AI' (gh (50 + p.1) 0) = AI (gh (50 + p.1) 0) := fun p hp hne => e _ (fun z => hne (by have := ((hv.1 m hm).2.1 p hp).2.2.2; rw [z, h10] at this; exact this.symm))
  refine ⟨hv.1, fun b hb => ⟨(hv.2.1 b hb).1, ?_⟩, hv.2.2.1, fun b hb => (e b (fun z => hb (by rw [z]; exact h61))).trans (hv.2.2.2 b hb)⟩
  have q := (hv.2.1 b hb).2
  unfold mCon
  have s7 : AI' (gh 57 0) = AI (gh 57 0) := s (7, 176) (by decide) (by decide)
  have s0 : AI' (gh 50 0) = AI (gh 50 0) := s (0, 640) (by decide) (by decide)
  have s3 : AI' (gh 53 0) = AI (gh 53 0) := s (3, 640) (by decide) (by decide)
  rw [s7, s0, s3]
  exact ⟨q.1, h, q.2.2⟩
theorem mInv_read {AI' : gI} {z : Int} {v : Int32} (hv : mInv g gh R I AI) (hm : gO g m 7) (e : AI' = gup2 AI (gh 53 0) z.toNat v) (hz : 40 * (I m 5).toInt ≤ z) : mInv g gh R I AI' := by
  have hr := (hv.1 m hm).2.1 (3, 640) (by decide)
  have h10 : gh 10 (gh 53 0) = 3 := hr.2.2.2
  have e' : ∀ b, b ≠ gh 53 0 → AI' b = AI b := fun b hb => by rw [e]; exact funext fun j => gup2_a _ _ hb
  have s : ∀ p ∈ mTab, p.1 ≠ 3 → AI' (gh (50 + p.1) 0) = AI (gh (50 + p.1) 0) := fun p hp hne => e' _ (fun z => hne (by have := ((hv.1 m hm).2.1 p hp).2.2.2; rw [z, h10] at this; exact this.symm))
  refine ⟨hv.1, fun b hb => ⟨(hv.2.1 b hb).1, ?_⟩, hv.2.2.1, fun b hb => (e' b (fun z => hb (by rw [z]; exact hr.2.2.1 (by decide) (by decide) (by decide) (by decide)))).trans (hv.2.2.2 b hb)⟩
  have hbm := mOne hv hm hb
  subst hbm
  have q := (hv.2.1 b hb).2
  unfold mCon
  have s7 : AI' (gh 57 0) = AI (gh 57 0) := s (7, 176) (by decide) (by decide)
  have s11 : AI' (gh 61 0) = AI (gh 61 0) := s (11, 41) (by decide) (by decide)
  have s0 : AI' (gh 50 0) = AI (gh 50 0) := s (0, 640) (by decide) (by decide)
  rw [s7, s11, s0]
  refine ⟨q.1, q.2.1, q.2.2.1, fun r h0 h1 => rowOK_c h0 (fun y hy hl => ?_) (q.2.2.2 r h0 h1)⟩
  unfold tI
  rw [e, gup2_k _ _ (by omega)]
theorem mSz (hv : mInv g gh R I AI) (hm : gO g m 7) {z : Int} (h0 : 0 ≤ z) (h1 : z < 176) : 0 ≤ (AI (gh 57 0) z.toNat).toInt ∧ (AI (gh 57 0) z.toNat).toInt ≤ 120 := (hv.2.1 m hm).2.1 z.toNat (by omega)
theorem mCt (hv : mInv g gh R I AI) (hm : gO g m 7) {z : Int} (h0 : 0 ≤ z) (h1 : z < 41) : 0 ≤ (AI (gh 61 0) z.toNat).toInt ∧ (AI (gh 61 0) z.toNat).toInt ≤ 15 := (hv.2.1 m hm).2.2.1 z.toNat (by omega)
theorem mRow {T : Nat → Int32} (hv : mInv g gh R I AI) (hm : gO g m 7) (hT : AI (gh 50 0) = T) {z : Int} (h0 : 0 ≤ z) (h1 : z < (I m 2).toInt) : rowOK T z := by rw [← hT]; exact (hv.2.1 m hm).2.2.2.1 z h0 h1
theorem mRead (hv : mInv g gh R I AI) (hm : gO g m 7) {z : Int} (h0 : 0 ≤ z) (h1 : z < (I m 5).toInt) : rowOK (AI (gh 53 0)) z := (hv.2.1 m hm).2.2.2.2 z h0 h1
/-- another array's write leaves an array as it was -/
theorem mK {AI' : gI} {p q : Nat × Nat} (hv : mInv g gh R I AI) (hm : gO g m 7) (hp : p ∈ mTab) (hq : q ∈ mTab) (hne : p.1 ≠ q.1) (e : ∀ b, b ≠ gh (50 + q.1) 0 → AI' b = AI b) : AI' (gh (50 + p.1) 0) = AI (gh (50 + p.1) 0) :=
  e _ (fun z => hne (by have h := ((hv.1 m hm).2.1 p hp).2.2.2; have h' := ((hv.1 m hm).2.1 q hq).2.2.2; rw [z, h'] at h; exact h.symm))
/-- only worked may be another one; or also what calls of the face write -/
def wF (m : Nat) (I I' : gI) : Prop := ∀ j, j ≠ 26 → I' m j = I m j
def mF (m : Nat) (I I' : gI) : Prop := ∀ j, j ≠ 8 → j ≠ 9 → j ≠ 10 → j ≠ 14 → j ≠ 17 → j ≠ 26 → I' m j = I m j
/-- the same, but the changes stay -/
def nF (m : Nat) (I I' : gI) : Prop := ∀ j, j ≠ 8 → j ≠ 9 → j ≠ 10 → j ≠ 17 → j ≠ 26 → I' m j = I m j
/-- what the parser writes -/
def qF (m : Nat) (I I' : gI) : Prop := ∀ j, j ≠ 19 → j ≠ 20 → j ≠ 21 → j ≠ 23 → j ≠ 24 → I' m j = I m j
theorem qF_r : qF m I I := fun _ _ _ _ _ _ => rfl
theorem qF_t {I' I'' : gI} (h : qF m I I') (h' : qF m I' I'') : qF m I I'' := fun j a b c d e => (h' j a b c d e).trans (h j a b c d e)
theorem qF_p {k : Nat} {v : Int32} (hk : k = 19 ∨ k = 20 ∨ k = 21 ∨ k = 23 ∨ k = 24) : qF m I (gup2 I m k v) := fun j a b c d e => gup2_k _ _ (by omega)
theorem wF_r : wF m I I := fun _ _ => rfl
theorem wF_t {I' I'' : gI} (h : wF m I I') (h' : wF m I' I'') : wF m I I'' := fun j hj => (h' j hj).trans (h j hj)
theorem mF_r : mF m I I := fun _ _ _ _ _ _ _ => rfl
theorem mF_t {I' I'' : gI} (h : mF m I I') (h' : mF m I' I'') : mF m I I'' := fun j a b c d e f => (h' j a b c d e f).trans (h j a b c d e f)
theorem mF_w {I' : gI} (h : wF m I I') : mF m I I' := fun j _ _ _ _ _ f => h j f
theorem wF_p {v : Int32} : wF m I (gup2 I m 26 v) := fun _ hj => gup2_k _ _ hj
theorem mF_p {k : Nat} {v : Int32} (hk : k = 8 ∨ k = 9 ∨ k = 10 ∨ k = 14 ∨ k = 17 ∨ k = 26) : mF m I (gup2 I m k v) := fun j a b c d e f => gup2_k _ _ (by omega)
theorem nF_r : nF m I I := fun _ _ _ _ _ _ => rfl
theorem nF_t {I' I'' : gI} (h : nF m I I') (h' : nF m I' I'') : nF m I I'' := fun j a b c d e => (h' j a b c d e).trans (h j a b c d e)
theorem nF_w {I' : gI} (h : wF m I I') : nF m I I' := fun j _ _ _ _ f => h j f
theorem mF_n {I' : gI} (h : nF m I I') : mF m I I' := fun j a b c _ d e => h j a b c d e
theorem nF_p {k : Nat} {v : Int32} (hk : k = 8 ∨ k = 9 ∨ k = 10 ∨ k = 17 ∨ k = 26) : nF m I (gup2 I m k v) := fun j a b c d e => gup2_k _ _ (by omega)
end MInv
end
section
section MPut
variable {g : gG} {gh : gGh} {R : gR} {I AI : gI} {m : Nat}
theorem mP8 {z : Int} (hv : mInv g gh R I AI) (hm : gO g m 7) (h0 : 0 ≤ z) (h9 : z ≤ 8) : mInv g gh R (gup2 I m 8 (iI z)) AI := mInv_f hv hm (by decide) (by
  have h := mI hv hm
  unfold mNum at h ⊢
  rw [gup2_k (j := 2) (k := 8) _ _ (by decide), gup2_k (j := 5) (k := 8) _ _ (by decide), gup2_k (j := 14) (k := 8) _ _ (by decide), gup2_k (j := 16) (k := 8) _ _ (by decide), gup2_k (j := 18) (k := 8) _ _ (by decide), gup2_k (j := 19) (k := 8) _ _ (by decide), gup2_k (j := 20) (k := 8) _ _ (by decide), gup2_k (j := 21) (k := 8) _ _ (by decide), gup2_k (j := 23) (k := 8) _ _ (by decide), gup2_k (j := 24) (k := 8) _ _ (by decide), gup2_k (j := 26) (k := 8) _ _ (by decide), gup2_s, iI_val ⟨by omega, by omega⟩]
  omega)
theorem mP14 {z : Int} (hv : mInv g gh R I AI) (hm : gO g m 7) (h0 : 0 ≤ z) (h9 : z ≤ 40) : mInv g gh R (gup2 I m 14 (iI z)) AI := mInv_f hv hm (by decide) (by
  have h := mI hv hm
  unfold mNum at h ⊢
  rw [gup2_k (j := 2) (k := 14) _ _ (by decide), gup2_k (j := 5) (k := 14) _ _ (by decide), gup2_k (j := 8) (k := 14) _ _ (by decide), gup2_k (j := 16) (k := 14) _ _ (by decide), gup2_k (j := 18) (k := 14) _ _ (by decide), gup2_k (j := 19) (k := 14) _ _ (by decide), gup2_k (j := 20) (k := 14) _ _ (by decide), gup2_k (j := 21) (k := 14) _ _ (by decide), gup2_k (j := 23) (k := 14) _ _ (by decide), gup2_k (j := 24) (k := 14) _ _ (by decide), gup2_k (j := 26) (k := 14) _ _ (by decide), gup2_s, iI_val ⟨by omega, by omega⟩]
  omega)
theorem mP16 {z : Int} (hv : mInv g gh R I AI) (hm : gO g m 7) (h0 : 0 ≤ z) (h9 : z ≤ 936) : mInv g gh R (gup2 I m 16 (iI z)) AI := mInv_f hv hm (by decide) (by
  have h := mI hv hm
  unfold mNum at h ⊢
  rw [gup2_k (j := 2) (k := 16) _ _ (by decide), gup2_k (j := 5) (k := 16) _ _ (by decide), gup2_k (j := 8) (k := 16) _ _ (by decide), gup2_k (j := 14) (k := 16) _ _ (by decide), gup2_k (j := 18) (k := 16) _ _ (by decide), gup2_k (j := 19) (k := 16) _ _ (by decide), gup2_k (j := 20) (k := 16) _ _ (by decide), gup2_k (j := 21) (k := 16) _ _ (by decide), gup2_k (j := 23) (k := 16) _ _ (by decide), gup2_k (j := 24) (k := 16) _ _ (by decide), gup2_k (j := 26) (k := 16) _ _ (by decide), gup2_s, iI_val ⟨by omega, by omega⟩]
  omega)
theorem mP18 {z : Int} (hv : mInv g gh R I AI) (hm : gO g m 7) (h0 : 0 ≤ z) (h9 : z ≤ 936) : mInv g gh R (gup2 I m 18 (iI z)) AI := mInv_f hv hm (by decide) (by
  have h := mI hv hm
  unfold mNum at h ⊢
  rw [gup2_k (j := 2) (k := 18) _ _ (by decide), gup2_k (j := 5) (k := 18) _ _ (by decide), gup2_k (j := 8) (k := 18) _ _ (by decide), gup2_k (j := 14) (k := 18) _ _ (by decide), gup2_k (j := 16) (k := 18) _ _ (by decide), gup2_k (j := 19) (k := 18) _ _ (by decide), gup2_k (j := 20) (k := 18) _ _ (by decide), gup2_k (j := 21) (k := 18) _ _ (by decide), gup2_k (j := 23) (k := 18) _ _ (by decide), gup2_k (j := 24) (k := 18) _ _ (by decide), gup2_k (j := 26) (k := 18) _ _ (by decide), gup2_s, iI_val ⟨by omega, by omega⟩]
  omega)
theorem mP19 {z : Int} (hv : mInv g gh R I AI) (hm : gO g m 7) (h0 : 0 ≤ z) (h9 : z ≤ 937) : mInv g gh R (gup2 I m 19 (iI z)) AI := mInv_f hv hm (by decide) (by
  have h := mI hv hm
  unfold mNum at h ⊢
  rw [gup2_k (j := 2) (k := 19) _ _ (by decide), gup2_k (j := 5) (k := 19) _ _ (by decide), gup2_k (j := 8) (k := 19) _ _ (by decide), gup2_k (j := 14) (k := 19) _ _ (by decide), gup2_k (j := 16) (k := 19) _ _ (by decide), gup2_k (j := 18) (k := 19) _ _ (by decide), gup2_k (j := 20) (k := 19) _ _ (by decide), gup2_k (j := 21) (k := 19) _ _ (by decide), gup2_k (j := 23) (k := 19) _ _ (by decide), gup2_k (j := 24) (k := 19) _ _ (by decide), gup2_k (j := 26) (k := 19) _ _ (by decide), gup2_s, iI_val ⟨by omega, by omega⟩]
  omega)
theorem mP20 {z : Int} (hv : mInv g gh R I AI) (hm : gO g m 7) (h0 : 0 ≤ z) (h9 : z ≤ 937) : mInv g gh R (gup2 I m 20 (iI z)) AI := mInv_f hv hm (by decide) (by
  have h := mI hv hm
  unfold mNum at h ⊢
  rw [gup2_k (j := 2) (k := 20) _ _ (by decide), gup2_k (j := 5) (k := 20) _ _ (by decide), gup2_k (j := 8) (k := 20) _ _ (by decide), gup2_k (j := 14) (k := 20) _ _ (by decide), gup2_k (j := 16) (k := 20) _ _ (by decide), gup2_k (j := 18) (k := 20) _ _ (by decide), gup2_k (j := 19) (k := 20) _ _ (by decide), gup2_k (j := 21) (k := 20) _ _ (by decide), gup2_k (j := 23) (k := 20) _ _ (by decide), gup2_k (j := 24) (k := 20) _ _ (by decide), gup2_k (j := 26) (k := 20) _ _ (by decide), gup2_s, iI_val ⟨by omega, by omega⟩]
  omega)
theorem mP24 {z : Int} (hv : mInv g gh R I AI) (hm : gO g m 7) (h0 : 0 ≤ z) (h9 : z ≤ 10000) : mInv g gh R (gup2 I m 24 (iI z)) AI := mInv_f hv hm (by decide) (by
  have h := mI hv hm
  unfold mNum at h ⊢
  rw [gup2_k (j := 2) (k := 24) _ _ (by decide), gup2_k (j := 5) (k := 24) _ _ (by decide), gup2_k (j := 8) (k := 24) _ _ (by decide), gup2_k (j := 14) (k := 24) _ _ (by decide), gup2_k (j := 16) (k := 24) _ _ (by decide), gup2_k (j := 18) (k := 24) _ _ (by decide), gup2_k (j := 19) (k := 24) _ _ (by decide), gup2_k (j := 20) (k := 24) _ _ (by decide), gup2_k (j := 21) (k := 24) _ _ (by decide), gup2_k (j := 23) (k := 24) _ _ (by decide), gup2_k (j := 26) (k := 24) _ _ (by decide), gup2_s, iI_val ⟨by omega, by omega⟩]
  omega)
theorem mP26 {z : Int} (hv : mInv g gh R I AI) (hm : gO g m 7) (h0 : 0 ≤ z) (h9 : z ≤ 1600) : mInv g gh R (gup2 I m 26 (iI z)) AI := mInv_f hv hm (by decide) (by
  have h := mI hv hm
  unfold mNum at h ⊢
  rw [gup2_k (j := 2) (k := 26) _ _ (by decide), gup2_k (j := 5) (k := 26) _ _ (by decide), gup2_k (j := 8) (k := 26) _ _ (by decide), gup2_k (j := 14) (k := 26) _ _ (by decide), gup2_k (j := 16) (k := 26) _ _ (by decide), gup2_k (j := 18) (k := 26) _ _ (by decide), gup2_k (j := 19) (k := 26) _ _ (by decide), gup2_k (j := 20) (k := 26) _ _ (by decide), gup2_k (j := 21) (k := 26) _ _ (by decide), gup2_k (j := 23) (k := 26) _ _ (by decide), gup2_k (j := 24) (k := 26) _ _ (by decide), gup2_s, iI_val ⟨by omega, by omega⟩]
  omega)
theorem mP21 {z : Int} (hv : mInv g gh R I AI) (hm : gO g m 7) (hz : zr z) (hc : z = 1 → 0 ≤ (I m 23).toInt ∧ (I m 23).toInt ≤ 3) : mInv g gh R (gup2 I m 21 (iI z)) AI := mInv_f hv hm (by decide) (by
  have h := mI hv hm
  unfold mNum at h ⊢
  rw [gup2_k (j := 2) (k := 21) _ _ (by decide), gup2_k (j := 5) (k := 21) _ _ (by decide), gup2_k (j := 8) (k := 21) _ _ (by decide), gup2_k (j := 14) (k := 21) _ _ (by decide), gup2_k (j := 16) (k := 21) _ _ (by decide), gup2_k (j := 18) (k := 21) _ _ (by decide), gup2_k (j := 19) (k := 21) _ _ (by decide), gup2_k (j := 20) (k := 21) _ _ (by decide), gup2_k (j := 23) (k := 21) _ _ (by decide), gup2_k (j := 24) (k := 21) _ _ (by decide), gup2_k (j := 26) (k := 21) _ _ (by decide), gup2_s, iI_val ⟨by omega, by omega⟩]
  omega)
theorem mP23 {z : Int} (hv : mInv g gh R I AI) (hm : gO g m 7) (hz : zr z) (hc : (I m 21).toInt = 1 → 0 ≤ z ∧ z ≤ 3) : mInv g gh R (gup2 I m 23 (iI z)) AI := mInv_f hv hm (by decide) (by
  have h := mI hv hm
  unfold mNum at h ⊢
  rw [gup2_k (j := 2) (k := 23) _ _ (by decide), gup2_k (j := 5) (k := 23) _ _ (by decide), gup2_k (j := 8) (k := 23) _ _ (by decide), gup2_k (j := 14) (k := 23) _ _ (by decide), gup2_k (j := 16) (k := 23) _ _ (by decide), gup2_k (j := 18) (k := 23) _ _ (by decide), gup2_k (j := 19) (k := 23) _ _ (by decide), gup2_k (j := 20) (k := 23) _ _ (by decide), gup2_k (j := 21) (k := 23) _ _ (by decide), gup2_k (j := 24) (k := 23) _ _ (by decide), gup2_k (j := 26) (k := 23) _ _ (by decide), gup2_s, iI_val ⟨by omega, by omega⟩]
  omega)
theorem mP9 {v : Int32} (hv : mInv g gh R I AI) (hm : gO g m 7) : mInv g gh R (gup2 I m 9 v) AI := mInv_f hv hm (by decide) (by
  have h := mI hv hm
  unfold mNum at h ⊢
  rw [gup2_k (j := 2) (k := 9) _ _ (by decide), gup2_k (j := 5) (k := 9) _ _ (by decide), gup2_k (j := 8) (k := 9) _ _ (by decide), gup2_k (j := 14) (k := 9) _ _ (by decide), gup2_k (j := 16) (k := 9) _ _ (by decide), gup2_k (j := 18) (k := 9) _ _ (by decide), gup2_k (j := 19) (k := 9) _ _ (by decide), gup2_k (j := 20) (k := 9) _ _ (by decide), gup2_k (j := 21) (k := 9) _ _ (by decide), gup2_k (j := 23) (k := 9) _ _ (by decide), gup2_k (j := 24) (k := 9) _ _ (by decide), gup2_k (j := 26) (k := 9) _ _ (by decide)]
  exact h)
theorem mP10 {v : Int32} (hv : mInv g gh R I AI) (hm : gO g m 7) : mInv g gh R (gup2 I m 10 v) AI := mInv_f hv hm (by decide) (by
  have h := mI hv hm
  unfold mNum at h ⊢
  rw [gup2_k (j := 2) (k := 10) _ _ (by decide), gup2_k (j := 5) (k := 10) _ _ (by decide), gup2_k (j := 8) (k := 10) _ _ (by decide), gup2_k (j := 14) (k := 10) _ _ (by decide), gup2_k (j := 16) (k := 10) _ _ (by decide), gup2_k (j := 18) (k := 10) _ _ (by decide), gup2_k (j := 19) (k := 10) _ _ (by decide), gup2_k (j := 20) (k := 10) _ _ (by decide), gup2_k (j := 21) (k := 10) _ _ (by decide), gup2_k (j := 23) (k := 10) _ _ (by decide), gup2_k (j := 24) (k := 10) _ _ (by decide), gup2_k (j := 26) (k := 10) _ _ (by decide)]
  exact h)
theorem mP17 {v : Int32} (hv : mInv g gh R I AI) (hm : gO g m 7) : mInv g gh R (gup2 I m 17 v) AI := mInv_f hv hm (by decide) (by
  have h := mI hv hm
  unfold mNum at h ⊢
  rw [gup2_k (j := 2) (k := 17) _ _ (by decide), gup2_k (j := 5) (k := 17) _ _ (by decide), gup2_k (j := 8) (k := 17) _ _ (by decide), gup2_k (j := 14) (k := 17) _ _ (by decide), gup2_k (j := 16) (k := 17) _ _ (by decide), gup2_k (j := 18) (k := 17) _ _ (by decide), gup2_k (j := 19) (k := 17) _ _ (by decide), gup2_k (j := 20) (k := 17) _ _ (by decide), gup2_k (j := 21) (k := 17) _ _ (by decide), gup2_k (j := 23) (k := 17) _ _ (by decide), gup2_k (j := 24) (k := 17) _ _ (by decide), gup2_k (j := 26) (k := 17) _ _ (by decide)]
  exact h)
end MPut
end
section
/-! counting -/
def wCnt (f : Nat → Int32) : Nat → Int
  | 0 => 0
  | n + 1 => wCnt f n + (if tI f (6 * (n : Int) + 4) = 0 then 0 else 1)
theorem wCnt_z {f : Nat → Int32} {k : Int} (hk : 0 ≤ k) (h : tI f (6 * k + 4) = 0) : wCnt f (k + 1).toNat = wCnt f k.toNat := by
  have e : (k + 1).toNat = k.toNat + 1 := by omega
  have c : ((k.toNat : Nat) : Int) = k := by omega
  rw [e, wCnt, c, if_pos h]; omega
theorem wCnt_s {f : Nat → Int32} {k : Int} (hk : 0 ≤ k) (h : tI f (6 * k + 4) ≠ 0) : wCnt f (k + 1).toNat = wCnt f k.toNat + 1 := by
  have e : (k + 1).toNat = k.toNat + 1 := by omega
  have c : ((k.toNat : Nat) : Int) = k := by omega
  rw [e, wCnt, c, if_neg h]
theorem wCnt_le {f : Nat → Int32} {a b : Nat} (h : a ≤ b) : wCnt f a ≤ wCnt f b := by
  induction b with
  | zero => have : a = 0 := by omega
            subst this; exact Int.le_refl _
  | succ n ih =>
    by_cases q : a = n + 1
    · subst q; exact Int.le_refl _
    · have := ih (by omega)
      rw [wCnt]
      split <;> omega
theorem wCnt_0 {f : Nat → Int32} {a : Nat} : 0 ≤ wCnt f a := wCnt_le (Nat.zero_le a)
theorem mCnt_z {x k : Int} (hk : 0 ≤ k) (h : mBit x k = 1) : mCnt x (k + 1).toNat = mCnt x k.toNat := by
  have e : (k + 1).toNat = k.toNat + 1 := by omega
  have c : ((k.toNat : Nat) : Int) = k := by omega
  rw [e, mCnt, c, if_pos h]; omega
theorem mCnt_s {x k : Int} (hk : 0 ≤ k) (h : mBit x k ≠ 1) : mCnt x (k + 1).toNat = mCnt x k.toNat + 1 := by
  have e : (k + 1).toNat = k.toNat + 1 := by omega
  have c : ((k.toNat : Nat) : Int) = k := by omega
  rw [e, mCnt, c, if_neg h]
theorem mCnt_le {x : Int} {a b : Nat} (h : a ≤ b) : mCnt x a ≤ mCnt x b := by
  induction b with
  | zero => have : a = 0 := by omega
            subst this; exact Int.le_refl _
  | succ n ih =>
    by_cases q : a = n + 1
    · subst q; exact Int.le_refl _
    · have := ih (by omega)
      rw [mCnt]
      split <;> omega
theorem mCnt_0 {x : Int} {a : Nat} : 0 ≤ mCnt x a := mCnt_le (Nat.zero_le a)
theorem mViews {g : gG} {gh : gGh} {R : gR} {I AI : gI} {m : Nat} {T : Nat → Int32} (hv : mInv g gh R I AI) (hm : gO g m 7) (hT : AI (gh 50 0) = T) {n : Int} (h0 : 0 ≤ n) (h : n < (I m 2).toInt → tI T (40 * n) ≠ 0) : ∀ r : Int, n ≤ r → r < (I m 2).toInt → tI T (40 * r) ≠ 0 := by
  have q : ∀ d : Nat, n + d < (I m 2).toInt → tI T (40 * (n + d)) ≠ 0 := by
    intro d
    induction d with
    | zero => intro hd; have e : n + ((0 : Nat) : Int) = n := by omega
              rw [e] at hd ⊢; exact h hd
    | succ d ih =>
      intro hd hz
      obtain ⟨_, _, _, rd, _⟩ := mRow hv hm hT (z := n + ((d + 1 : Nat) : Int)) (by omega) hd
      have e := rd hz (by omega)
      have c : n + ((d + 1 : Nat) : Int) - 1 = n + (d : Int) := by omega
      rw [c] at e
      exact ih (by omega) e
  intro r h1 h2
  have e : r = n + (((r - n).toNat : Nat) : Int) := by omega
  rw [e]
  exact q _ (by omega)
theorem wCnt_u {f : Nat → Int32} {a : Nat} : wCnt f a ≤ a := by
  induction a with
  | zero => exact Int.le_refl _
  | succ n ih => rw [wCnt]; split <;> omega
theorem mInv_sizes1 {g : gG} {gh : gGh} {R : gR} {I AI AI' : gI} {m : Nat} {z v : Int} (hv : mInv g gh R I AI) (hm : gO g m 7) (e : AI' = gup2 AI (gh 57 0) z.toNat (iI v)) (h0 : 0 ≤ v) (h1 : v ≤ 120) : mInv g gh R I AI' := by
  refine mInv_sizes hv hm (fun b hb => by rw [e]; exact funext fun j => gup2_a _ _ hb) (fun j hj => ?_)
  rw [e]
  by_cases q : j = z.toNat
  · rw [gup2_e _ _ q, iI_val ⟨by omega, by omega⟩]; omega
  · rw [gup2_k _ _ q]; exact (hv.2.1 m hm).2.1 j hj
theorem mInv_ct1 {g : gG} {gh : gGh} {R : gR} {I AI AI' : gI} {m : Nat} {z v : Int} (hv : mInv g gh R I AI) (hm : gO g m 7) (h61 : gh 9 (gh 61 0) = 5) (e : AI' = gup2 AI (gh 61 0) z.toNat (iI v)) (h0 : 0 ≤ v) (h1 : v ≤ 15) : mInv g gh R I AI' := by
  refine mInv_ct hv hm h61 (fun b hb => by rw [e]; exact funext fun j => gup2_a _ _ hb) (fun j hj => ?_)
  rw [e]
  by_cases q : j = z.toNat
  · rw [gup2_e _ _ q, iI_val ⟨by omega, by omega⟩]; omega
  · rw [gup2_k _ _ q]; exact (hv.2.1 m hm).2.2.1 j hj
theorem z_lcmp_lt {x y : Int64} : (lg_cmp x y).toInt < 0 ↔ x.toInt < y.toInt := by
  unfold lg_cmp
  by_cases h1 : y < x
  · rw [if_pos h1]; rw [Int64.lt_iff_toInt_lt] at h1
    constructor
    · intro h; exact absurd h (by decide)
    · intro h; omega
  · rw [if_neg h1]; rw [Int64.lt_iff_toInt_lt] at h1
    by_cases h2 : x = y
    · rw [if_pos h2]
      subst h2
      constructor
      · intro h; exact absurd h (by decide)
      · intro h; omega
    · rw [if_neg h2]
      have e' : x.toInt ≠ y.toInt := fun q => h2 (Int64.toInt_inj.mp q)
      constructor
      · intro _; omega
      · intro _; decide
theorem z_ldiv256 {x : Int64} (h : 256 ≤ x.toInt) : (x / 256).toInt < x.toInt := by
  have e : (x / 256).toInt = x.toInt / 256 := by
    rw [Int64.toInt_div_of_ne_right x 256 (by decide)]
    show x.toInt.tdiv 256 = _
    exact Int.tdiv_eq_ediv_of_nonneg (by omega)
  omega
theorem mSz1 {g : gG} {gh : gGh} {R : gR} {I AI : gI} {m : Nat} (hv : mInv g gh R I AI) (hm : gO g m 7) {z : Int} (h0 : 0 ≤ z) (h1 : z < 176) : 0 ≤ tI (AI (gh 57 0)) z ∧ tI (AI (gh 57 0)) z ≤ 120 := mSz hv hm h0 h1
end
