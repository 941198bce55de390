/-! the words of the reference's methods: one list for all -/
def TB : List Cond := lw_tbl.filter goodWord
theorem TBm {w : Cond} (h : w ∈ lw_tbl) (g : goodWord w = true) : w ∈ TB := List.mem_filter.mpr ⟨h, g⟩
theorem tk1 {w : Cond} (h : w ∈ tables_1_1) : w ∈ lw_tbl := List.mem_append_right _ (List.mem_append_left _ h)
theorem tk2 {w : Cond} (h : w ∈ tables_1_2) : w ∈ lw_tbl := List.mem_append_right _ (List.mem_append_right _ (List.mem_append_left _ h))
theorem tk3 {w : Cond} (h : w ∈ tables_1_3) : w ∈ lw_tbl := List.mem_append_right _ (List.mem_append_right _ (List.mem_append_right _ (List.mem_append_left _ h)))
theorem tk4 {w : Cond} (h : w ∈ tables_1_4) : w ∈ lw_tbl := List.mem_append_right _ (List.mem_append_right _ (List.mem_append_right _ (List.mem_append_right _ (List.mem_append_left _ h))))
theorem tk5 {w : Cond} (h : w ∈ tables_1_5) : w ∈ lw_tbl := List.mem_append_right _ (List.mem_append_right _ (List.mem_append_right _ (List.mem_append_right _ (List.mem_append_right _ (List.mem_append_left _ h)))))
theorem tk6 {w : Cond} (h : w ∈ tables_1_6) : w ∈ lw_tbl := List.mem_append_right _ (List.mem_append_right _ (List.mem_append_right _ (List.mem_append_right _ (List.mem_append_right _ (List.mem_append_right _ (List.mem_append_left _ h))))))
theorem tk7 {w : Cond} (h : w ∈ tables_1_7) : w ∈ lw_tbl := List.mem_append_right _ (List.mem_append_right _ (List.mem_append_right _ (List.mem_append_right _ (List.mem_append_right _ (List.mem_append_right _ (List.mem_append_right _ (h)))))))
theorem sk1 {q : MethodName × Nat} (h : q ∈ lw_privs_1) : Cond.selects q.1.cls q.1 q.1 ∈ lw_tbl := List.mem_append_left _ (List.mem_map.mpr ⟨q, List.mem_append_left _ h, rfl⟩)
theorem sk2 {q : MethodName × Nat} (h : q ∈ lw_privs_2) : Cond.selects q.1.cls q.1 q.1 ∈ lw_tbl := List.mem_append_left _ (List.mem_map.mpr ⟨q, List.mem_append_right _ (List.mem_append_left _ h), rfl⟩)
theorem sk3 {q : MethodName × Nat} (h : q ∈ lw_privs_3) : Cond.selects q.1.cls q.1 q.1 ∈ lw_tbl := List.mem_append_left _ (List.mem_map.mpr ⟨q, List.mem_append_right _ (List.mem_append_right _ (List.mem_append_left _ h)), rfl⟩)
theorem sk4 {q : MethodName × Nat} (h : q ∈ lw_privs_4) : Cond.selects q.1.cls q.1 q.1 ∈ lw_tbl := List.mem_append_left _ (List.mem_map.mpr ⟨q, List.mem_append_right _ (List.mem_append_right _ (List.mem_append_right _ (List.mem_append_left _ h))), rfl⟩)
theorem sk5 {q : MethodName × Nat} (h : q ∈ lw_privs_5) : Cond.selects q.1.cls q.1 q.1 ∈ lw_tbl := List.mem_append_left _ (List.mem_map.mpr ⟨q, List.mem_append_right _ (List.mem_append_right _ (List.mem_append_right _ (List.mem_append_right _ (List.mem_append_left _ h)))), rfl⟩)
theorem sk6 {q : MethodName × Nat} (h : q ∈ lw_privs_6) : Cond.selects q.1.cls q.1 q.1 ∈ lw_tbl := List.mem_append_left _ (List.mem_map.mpr ⟨q, List.mem_append_right _ (List.mem_append_right _ (List.mem_append_right _ (List.mem_append_right _ (List.mem_append_right _ (List.mem_append_left _ h))))), rfl⟩)
theorem sk7 {q : MethodName × Nat} (h : q ∈ lw_privs_7) : Cond.selects q.1.cls q.1 q.1 ∈ lw_tbl := List.mem_append_left _ (List.mem_map.mpr ⟨q, List.mem_append_right _ (List.mem_append_right _ (List.mem_append_right _ (List.mem_append_right _ (List.mem_append_right _ (List.mem_append_right _ (List.mem_append_left _ h)))))), rfl⟩)
theorem sk8 {q : MethodName × Nat} (h : q ∈ lw_privs_8) : Cond.selects q.1.cls q.1 q.1 ∈ lw_tbl := List.mem_append_left _ (List.mem_map.mpr ⟨q, List.mem_append_right _ (List.mem_append_right _ (List.mem_append_right _ (List.mem_append_right _ (List.mem_append_right _ (List.mem_append_right _ (List.mem_append_right _ (h))))))), rfl⟩)
theorem good_tb {w : Cond} (h : w ∈ TB) : w ∈ TB ∧ ((w.onTables && w.keeps) = true ∨ ∃ ty, w = .arrayClass ty) := ⟨h, good_of_word (List.mem_filter.mp h).2⟩
theorem good_up {c : Cond} {ws : List Cond} (h : GoodIn TB ws) : GoodIn (c :: TB) ws := fun w hw => ⟨List.mem_cons_of_mem _ (h w hw).1, (h w hw).2⟩
theorem goodV {own C : String} {idx : Nat} {y : MethodName} {c : Cond} (h1 : Cond.methodLink own idx y ∈ TB) (h2 : Cond.instanceMethod y ∈ TB) (h3 : Cond.selects C y y ∈ TB) (h4 : Cond.initialized C ∈ TB) (h5 : c ∈ TB) : GoodIn TB (wsV own idx C y (c :: TB)) := by
  intro w hw
  refine good_tb ?_
  simp only [wsV, List.mem_append, List.mem_cons, List.not_mem_nil, or_false] at hw
  rcases hw with (rfl | rfl | rfl | rfl) | (rfl | h)
  · exact h1
  · exact h2
  · exact h3
  · exact h4
  · exact h5
  · exact h
theorem goodS {own : String} {idx : Nat} {y : MethodName} {c : Cond} (h1 : Cond.methodLink own idx y ∈ TB) (h2 : Cond.static y ∈ TB) (h4 : Cond.initialized y.cls ∈ TB) (h5 : c ∈ TB) : GoodIn TB (va_wsS own idx y (c :: TB)) := by
  intro w hw
  refine good_tb ?_
  simp only [va_wsS, List.mem_append, List.mem_cons, List.not_mem_nil, or_false] at hw
  rcases hw with (rfl | rfl | rfl) | (rfl | h)
  · exact h1
  · exact h2
  · exact h4
  · exact h5
  · exact h
theorem fl_7 : Cond.fieldLink RX7 7 (TX7 0).1 (TX7 0).2.1 (TX7 0).2.2.1 ∈ TB := TBm (tk5 (List.mem_of_getElem? (i := 34) rfl)) rfl
theorem fl_13 : Cond.fieldLink RX7 13 (TX7 1).1 (TX7 1).2.1 (TX7 1).2.2.1 ∈ TB := TBm (tk5 (List.mem_of_getElem? (i := 35) rfl)) rfl
theorem fl_64 : Cond.fieldLink RX7 64 (TX7 2).1 (TX7 2).2.1 (TX7 2).2.2.1 ∈ TB := TBm (tk5 (List.mem_of_getElem? (i := 36) rfl)) rfl
theorem fl_17 : Cond.fieldLink RX7 17 (TX7 3).1 (TX7 3).2.1 (TX7 3).2.2.1 ∈ TB := TBm (tk5 (List.mem_of_getElem? (i := 37) rfl)) rfl
theorem fl_20 : Cond.fieldLink RX7 20 (TX7 4).1 (TX7 4).2.1 (TX7 4).2.2.1 ∈ TB := TBm (tk5 (List.mem_of_getElem? (i := 38) rfl)) rfl
theorem fl_184 : Cond.fieldLink RX7 184 (TX7 5).1 (TX7 5).2.1 (TX7 5).2.2.1 ∈ TB := TBm (tk5 (List.mem_of_getElem? (i := 39) rfl)) rfl
theorem fl_24 : Cond.fieldLink RX7 24 (TX7 6).1 (TX7 6).2.1 (TX7 6).2.2.1 ∈ TB := TBm (tk5 (List.mem_of_getElem? (i := 40) rfl)) rfl
theorem fl_27 : Cond.fieldLink RX7 27 (TX7 7).1 (TX7 7).2.1 (TX7 7).2.2.1 ∈ TB := TBm (tk5 (List.mem_of_getElem? (i := 41) rfl)) rfl
theorem fl_257 : Cond.fieldLink RX7 257 (TX7 8).1 (TX7 8).2.1 (TX7 8).2.2.1 ∈ TB := TBm (tk5 (List.mem_of_getElem? (i := 42) rfl)) rfl
theorem fl_260 : Cond.fieldLink RX7 260 (TX7 9).1 (TX7 9).2.1 (TX7 9).2.2.1 ∈ TB := TBm (tk5 (List.mem_of_getElem? (i := 43) rfl)) rfl
theorem fl_263 : Cond.fieldLink RX7 263 (TX7 10).1 (TX7 10).2.1 (TX7 10).2.2.1 ∈ TB := TBm (tk5 (List.mem_of_getElem? (i := 44) rfl)) rfl
theorem fl_30 : Cond.fieldLink RX7 30 (TX7 11).1 (TX7 11).2.1 (TX7 11).2.2.1 ∈ TB := TBm (tk5 (List.mem_of_getElem? (i := 45) rfl)) rfl
theorem fl_33 : Cond.fieldLink RX7 33 (TX7 12).1 (TX7 12).2.1 (TX7 12).2.2.1 ∈ TB := TBm (tk5 (List.mem_of_getElem? (i := 46) rfl)) rfl
theorem fl_36 : Cond.fieldLink RX7 36 (TX7 13).1 (TX7 13).2.1 (TX7 13).2.2.1 ∈ TB := TBm (tk5 (List.mem_of_getElem? (i := 47) rfl)) rfl
theorem fl_266 : Cond.fieldLink RX7 266 (TX7 14).1 (TX7 14).2.1 (TX7 14).2.2.1 ∈ TB := TBm (tk5 (List.mem_of_getElem? (i := 48) rfl)) rfl
theorem fl_39 : Cond.fieldLink RX7 39 (TX7 15).1 (TX7 15).2.1 (TX7 15).2.2.1 ∈ TB := TBm (tk5 (List.mem_of_getElem? (i := 49) rfl)) rfl
theorem fl_71 : Cond.fieldLink RX7 71 (TX7 16).1 (TX7 16).2.1 (TX7 16).2.2.1 ∈ TB := TBm (tk5 (List.mem_of_getElem? (i := 50) rfl)) rfl
theorem fl_60 : Cond.fieldLink RX7 60 (TX7 17).1 (TX7 17).2.1 (TX7 17).2.2.1 ∈ TB := TBm (tk5 (List.mem_of_getElem? (i := 51) rfl)) rfl
theorem fl_78 : Cond.fieldLink RX7 78 (TX7 18).1 (TX7 18).2.1 (TX7 18).2.2.1 ∈ TB := TBm (tk5 (List.mem_of_getElem? (i := 52) rfl)) rfl
theorem fl_91 : Cond.fieldLink RX7 91 (TX7 19).1 (TX7 19).2.1 (TX7 19).2.2.1 ∈ TB := TBm (tk5 (List.mem_of_getElem? (i := 53) rfl)) rfl
theorem fl_84 : Cond.fieldLink RX7 84 (TX7 20).1 (TX7 20).2.1 (TX7 20).2.2.1 ∈ TB := TBm (tk5 (List.mem_of_getElem? (i := 54) rfl)) rfl
theorem fl_94 : Cond.fieldLink RX7 94 (TX7 21).1 (TX7 21).2.1 (TX7 21).2.2.1 ∈ TB := TBm (tk5 (List.mem_of_getElem? (i := 55) rfl)) rfl
theorem fl_111 : Cond.fieldLink RX7 111 (TX7 22).1 (TX7 22).2.1 (TX7 22).2.2.1 ∈ TB := TBm (tk5 (List.mem_of_getElem? (i := 56) rfl)) rfl
theorem fl_97 : Cond.fieldLink RX7 97 (TX7 23).1 (TX7 23).2.1 (TX7 23).2.2.1 ∈ TB := TBm (tk5 (List.mem_of_getElem? (i := 57) rfl)) rfl
theorem fl_81 : Cond.fieldLink RX7 81 (TX7 24).1 (TX7 24).2.1 (TX7 24).2.2.1 ∈ TB := TBm (tk5 (List.mem_of_getElem? (i := 58) rfl)) rfl
theorem fl_42 : Cond.fieldLink RX7 42 (TX7 25).1 (TX7 25).2.1 (TX7 25).2.2.1 ∈ TB := TBm (tk5 (List.mem_of_getElem? (i := 59) rfl)) rfl
theorem fl_269 : Cond.fieldLink RX7 269 (TX7 26).1 (TX7 26).2.1 (TX7 26).2.2.1 ∈ TB := TBm (tk5 (List.mem_of_getElem? (i := 60) rfl)) rfl
theorem fl_45 : Cond.fieldLink RX7 45 (TX7 27).1 (TX7 27).2.1 (TX7 27).2.2.1 ∈ TB := TBm (tk5 (List.mem_of_getElem? (i := 61) rfl)) rfl
theorem fl_48 : Cond.fieldLink RX7 48 (TX7 28).1 (TX7 28).2.1 (TX7 28).2.2.1 ∈ TB := TBm (tk5 (List.mem_of_getElem? (i := 62) rfl)) rfl
theorem fl_51 : Cond.fieldLink RX7 51 (TX7 29).1 (TX7 29).2.1 (TX7 29).2.2.1 ∈ TB := TBm (tk5 (List.mem_of_getElem? (i := 63) rfl)) rfl
theorem fl_54 : Cond.fieldLink RX7 54 (TX7 30).1 (TX7 30).2.1 (TX7 30).2.2.1 ∈ TB := TBm (tk5 (List.mem_of_getElem? (i := 64) rfl)) rfl
theorem fl_57 : Cond.fieldLink RX7 57 (TX7 31).1 (TX7 31).2.1 (TX7 31).2.2.1 ∈ TB := TBm (tk5 (List.mem_of_getElem? (i := 65) rfl)) rfl
theorem lay7 : ∀ k : Nat, k < 32 → u_lay RX7 TX7 k ∈ TB
  | 0, _ => TBm (tk5 (List.mem_of_getElem? (i := 66) rfl)) rfl
  | 1, _ => TBm (tk5 (List.mem_of_getElem? (i := 68) rfl)) rfl
  | 2, _ => TBm (tk5 (List.mem_of_getElem? (i := 70) rfl)) rfl
  | 3, _ => TBm (tk5 (List.mem_of_getElem? (i := 72) rfl)) rfl
  | 4, _ => TBm (tk5 (List.mem_of_getElem? (i := 74) rfl)) rfl
  | 5, _ => TBm (tk5 (List.mem_of_getElem? (i := 76) rfl)) rfl
  | 6, _ => TBm (tk5 (List.mem_of_getElem? (i := 78) rfl)) rfl
  | 7, _ => TBm (tk5 (List.mem_of_getElem? (i := 80) rfl)) rfl
  | 8, _ => TBm (tk5 (List.mem_of_getElem? (i := 82) rfl)) rfl
  | 9, _ => TBm (tk5 (List.mem_of_getElem? (i := 84) rfl)) rfl
  | 10, _ => TBm (tk5 (List.mem_of_getElem? (i := 86) rfl)) rfl
  | 11, _ => TBm (tk5 (List.mem_of_getElem? (i := 88) rfl)) rfl
  | 12, _ => TBm (tk5 (List.mem_of_getElem? (i := 90) rfl)) rfl
  | 13, _ => TBm (tk5 (List.mem_of_getElem? (i := 92) rfl)) rfl
  | 14, _ => TBm (tk5 (List.mem_of_getElem? (i := 94) rfl)) rfl
  | 15, _ => TBm (tk5 (List.mem_of_getElem? (i := 96) rfl)) rfl
  | 16, _ => TBm (tk5 (List.mem_of_getElem? (i := 98) rfl)) rfl
  | 17, _ => TBm (tk5 (List.mem_of_getElem? (i := 100) rfl)) rfl
  | 18, _ => TBm (tk5 (List.mem_of_getElem? (i := 102) rfl)) rfl
  | 19, _ => TBm (tk5 (List.mem_of_getElem? (i := 104) rfl)) rfl
  | 20, _ => TBm (tk5 (List.mem_of_getElem? (i := 106) rfl)) rfl
  | 21, _ => TBm (tk5 (List.mem_of_getElem? (i := 108) rfl)) rfl
  | 22, _ => TBm (tk5 (List.mem_of_getElem? (i := 110) rfl)) rfl
  | 23, _ => TBm (tk5 (List.mem_of_getElem? (i := 112) rfl)) rfl
  | 24, _ => TBm (tk5 (List.mem_of_getElem? (i := 114) rfl)) rfl
  | 25, _ => TBm (tk5 (List.mem_of_getElem? (i := 116) rfl)) rfl
  | 26, _ => TBm (tk5 (List.mem_of_getElem? (i := 118) rfl)) rfl
  | 27, _ => TBm (tk5 (List.mem_of_getElem? (i := 120) rfl)) rfl
  | 28, _ => TBm (tk5 (List.mem_of_getElem? (i := 122) rfl)) rfl
  | 29, _ => TBm (tk5 (List.mem_of_getElem? (i := 124) rfl)) rfl
  | 30, _ => TBm (tk5 (List.mem_of_getElem? (i := 126) rfl)) rfl
  | 31, _ => TBm (tk5 (List.mem_of_getElem? (i := 128) rfl)) rfl
  | n + 32, h => absurd h (by omega)
theorem inTB7 : ∀ w ∈ u_ws RX7 TX7 32, w ∈ TB := by
  intro w hw
  obtain ⟨k, hk, rfl⟩ := List.mem_map.mp hw
  exact lay7 k (List.mem_range.mp hk)
theorem ini7 : Cond.initialized RX7 ∈ TB := TBm (tk1 (List.mem_of_getElem? (i := 8) rfl)) rfl
def tsX7_init : List Cond := Cond.code yX7_init cX7_init 1 none :: TB
def tsX7_within : List Cond := Cond.code yX7_within cX7_within 3 (some .boolean) :: TB
theorem gT_X7_within : GoodIn TB (va_wsS RX7 67 yX7_within tsX7_within) := goodS (TBm (tk5 (List.mem_of_getElem? (i := 143) rfl)) rfl) (TBm (tk5 (List.mem_of_getElem? (i := 144) rfl)) rfl) ini7 (TBm (tk5 (List.mem_of_getElem? (i := 145) rfl)) rfl)
def tsX7_isRelation : List Cond := Cond.code yX7_isRelation cX7_isRelation 2 (some .boolean) :: TB
theorem gT_X7_isRelation : GoodIn TB (wsV RX7 352 RX7 yX7_isRelation tsX7_isRelation) := goodV (TBm (tk6 (List.mem_of_getElem? (i := 54) rfl)) rfl) (TBm (tk6 (List.mem_of_getElem? (i := 56) rfl)) rfl) (TBm (sk6 (q := (yX7_isRelation, 32)) (List.mem_of_getElem? (i := 11) rfl)) rfl) ini7 (TBm (tk6 (List.mem_of_getElem? (i := 57) rfl)) rfl)
def tsX7_kindOf : List Cond := Cond.code yX7_kindOf cX7_kindOf 2 (some .int) :: TB
theorem gT_X7_kindOf : GoodIn TB (wsV RX7 322 RX7 yX7_kindOf tsX7_kindOf) := goodV (TBm (tk6 (List.mem_of_getElem? (i := 58) rfl)) rfl) (TBm (tk6 (List.mem_of_getElem? (i := 60) rfl)) rfl) (TBm (sk6 (q := (yX7_kindOf, 32)) (List.mem_of_getElem? (i := 12) rfl)) rfl) ini7 (TBm (tk6 (List.mem_of_getElem? (i := 61) rfl)) rfl)
def tsX7_columnsOf : List Cond := Cond.code yX7_columnsOf cX7_columnsOf 2 (some .int) :: TB
theorem gT_X7_columnsOf : GoodIn TB (wsV RX7 301 RX7 yX7_columnsOf tsX7_columnsOf) := goodV (TBm (tk6 (List.mem_of_getElem? (i := 62) rfl)) rfl) (TBm (tk6 (List.mem_of_getElem? (i := 64) rfl)) rfl) (TBm (sk6 (q := (yX7_columnsOf, 32)) (List.mem_of_getElem? (i := 13) rfl)) rfl) ini7 (TBm (tk6 (List.mem_of_getElem? (i := 65) rfl)) rfl)
def tsX7_firstOf : List Cond := Cond.code yX7_firstOf cX7_firstOf 2 (some .int) :: TB
theorem gT_X7_firstOf : GoodIn TB (wsV RX7 289 RX7 yX7_firstOf tsX7_firstOf) := goodV (TBm (tk6 (List.mem_of_getElem? (i := 128) rfl)) rfl) (TBm (tk6 (List.mem_of_getElem? (i := 130) rfl)) rfl) (TBm (sk7 (q := (yX7_firstOf, 32)) (List.mem_of_getElem? (i := 9) rfl)) rfl) ini7 (TBm (tk6 (List.mem_of_getElem? (i := 131) rfl)) rfl)
def tsX7_secondOf : List Cond := Cond.code yX7_secondOf cX7_secondOf 2 (some .int) :: TB
theorem gT_X7_secondOf : GoodIn TB (wsV RX7 292 RX7 yX7_secondOf tsX7_secondOf) := goodV (TBm (tk6 (List.mem_of_getElem? (i := 136) rfl)) rfl) (TBm (tk6 (List.mem_of_getElem? (i := 138) rfl)) rfl) (TBm (sk7 (q := (yX7_secondOf, 32)) (List.mem_of_getElem? (i := 11) rfl)) rfl) ini7 (TBm (tk6 (List.mem_of_getElem? (i := 139) rfl)) rfl)
def tsX7_partsOf : List Cond := Cond.code yX7_partsOf cX7_partsOf 2 (some .int) :: TB
theorem gT_X7_partsOf : GoodIn TB (wsV RX7 283 RX7 yX7_partsOf tsX7_partsOf) := goodV (TBm (tk6 (List.mem_of_getElem? (i := 140) rfl)) rfl) (TBm (tk6 (List.mem_of_getElem? (i := 142) rfl)) rfl) (TBm (sk7 (q := (yX7_partsOf, 32)) (List.mem_of_getElem? (i := 12) rfl)) rfl) ini7 (TBm (tk6 (List.mem_of_getElem? (i := 143) rfl)) rfl)
def tsX7_part : List Cond := Cond.code yX7_part cX7_part 4 (some .int) :: TB
theorem gT_X7_part : GoodIn TB (wsV RX7 286 RX7 yX7_part tsX7_part) := goodV (TBm (tk6 (List.mem_of_getElem? (i := 144) rfl)) rfl) (TBm (tk6 (List.mem_of_getElem? (i := 146) rfl)) rfl) (TBm (sk7 (q := (yX7_part, 32)) (List.mem_of_getElem? (i := 13) rfl)) rfl) ini7 (TBm (tk6 (List.mem_of_getElem? (i := 147) rfl)) rfl)
def tsX7_spot : List Cond := Cond.code yX7_spot cX7_spot 3 (some .int) :: TB
theorem gT_X7_spot : GoodIn TB (va_wsS RX7 279 yX7_spot tsX7_spot) := goodS (TBm (tk6 (List.mem_of_getElem? (i := 105) rfl)) rfl) (TBm (tk6 (List.mem_of_getElem? (i := 106) rfl)) rfl) ini7 (TBm (tk6 (List.mem_of_getElem? (i := 107) rfl)) rfl)
def tsX7_sizeOf : List Cond := Cond.code yX7_sizeOf cX7_sizeOf 3 (some .int) :: TB
theorem gT_X7_sizeOf : GoodIn TB (wsV RX7 295 RX7 yX7_sizeOf tsX7_sizeOf) := goodV (TBm (tk6 (List.mem_of_getElem? (i := 101) rfl)) rfl) (TBm (tk6 (List.mem_of_getElem? (i := 103) rfl)) rfl) (TBm (sk7 (q := (yX7_sizeOf, 32)) (List.mem_of_getElem? (i := 3) rfl)) rfl) ini7 (TBm (tk6 (List.mem_of_getElem? (i := 104) rfl)) rfl)
def tsX7_eight : List Cond := Cond.code yX7_eight cX7_eight 4 none :: TB
theorem gT_X7_eight : GoodIn TB (wsV RX7 74 RX7 yX7_eight tsX7_eight) := goodV (TBm (tk5 (List.mem_of_getElem? (i := 135) rfl)) rfl) (TBm (tk5 (List.mem_of_getElem? (i := 137) rfl)) rfl) (TBm (sk4 (q := (yX7_eight, 32)) (List.mem_of_getElem? (i := 15) rfl)) rfl) ini7 (TBm (tk5 (List.mem_of_getElem? (i := 138) rfl)) rfl)
def tsX7_feed : List Cond := Cond.code yX7_feed cX7_feed 7 (some .int) :: TB
def tsX7_end : List Cond := Cond.code yX7_end cX7_end 2 (some .int) :: TB
def tsX7_byteAt : List Cond := Cond.code yX7_byteAt cX7_byteAt 2 (some .int) :: TB
theorem gT_X7_byteAt : GoodIn TB (wsV RX7 87 RX7 yX7_byteAt tsX7_byteAt) := goodV (TBm (tk5 (List.mem_of_getElem? (i := 154) rfl)) rfl) (TBm (tk5 (List.mem_of_getElem? (i := 156) rfl)) rfl) (TBm (sk5 (q := (yX7_byteAt, 32)) (List.mem_of_getElem? (i := 1) rfl)) rfl) ini7 (TBm (tk5 (List.mem_of_getElem? (i := 157) rfl)) rfl)
def tsX7_isSmall : List Cond := Cond.code yX7_isSmall cX7_isSmall 1 (some .boolean) :: TB
theorem gT_X7_isSmall : GoodIn TB (va_wsS RX7 100 yX7_isSmall tsX7_isSmall) := goodS (TBm (tk5 (List.mem_of_getElem? (i := 158) rfl)) rfl) (TBm (tk5 (List.mem_of_getElem? (i := 159) rfl)) rfl) ini7 (TBm (tk5 (List.mem_of_getElem? (i := 160) rfl)) rfl)
def tsX7_isDigit : List Cond := Cond.code yX7_isDigit cX7_isDigit 1 (some .boolean) :: TB
theorem gT_X7_isDigit : GoodIn TB (va_wsS RX7 104 yX7_isDigit tsX7_isDigit) := goodS (TBm (tk5 (List.mem_of_getElem? (i := 161) rfl)) rfl) (TBm (tk5 (List.mem_of_getElem? (i := 162) rfl)) rfl) ini7 (TBm (tk5 (List.mem_of_getElem? (i := 163) rfl)) rfl)
def tsX7_next : List Cond := Cond.code yX7_next cX7_next 3 none :: TB
theorem gT_X7_next : GoodIn TB (wsV RX7 137 RX7 yX7_next tsX7_next) := goodV (TBm (tk5 (List.mem_of_getElem? (i := 150) rfl)) rfl) (TBm (tk5 (List.mem_of_getElem? (i := 152) rfl)) rfl) (TBm (sk5 (q := (yX7_next, 32)) (List.mem_of_getElem? (i := 0) rfl)) rfl) ini7 (TBm (tk5 (List.mem_of_getElem? (i := 153) rfl)) rfl)
def tsX7_runs : List Cond := Cond.code yX7_runs cX7_runs 5 none :: TB
theorem gT_X7_runs : GoodIn TB (wsV RX7 107 RX7 yX7_runs tsX7_runs) := goodV (TBm (tk5 (List.mem_of_getElem? (i := 164) rfl)) rfl) (TBm (tk5 (List.mem_of_getElem? (i := 166) rfl)) rfl) (TBm (sk5 (q := (yX7_runs, 32)) (List.mem_of_getElem? (i := 2) rfl)) rfl) ini7 (TBm (tk5 (List.mem_of_getElem? (i := 167) rfl)) rfl)
def tsX7_wrong : List Cond := Cond.code yX7_wrong cX7_wrong 2 none :: TB
theorem gT_X7_wrong : GoodIn TB (wsV RX7 134 RX7 yX7_wrong tsX7_wrong) := goodV (TBm (tk5 (List.mem_of_getElem? (i := 183) rfl)) rfl) (TBm (tk5 (List.mem_of_getElem? (i := 185) rfl)) rfl) (TBm (sk5 (q := (yX7_wrong, 32)) (List.mem_of_getElem? (i := 5) rfl)) rfl) ini7 (TBm (tk5 (List.mem_of_getElem? (i := 186) rfl)) rfl)
def tsX7_packed : List Cond := Cond.code yX7_packed cX7_packed 4 (some .long) :: TB
theorem gT_X7_packed : GoodIn TB (va_wsS RX7 127 yX7_packed tsX7_packed) := goodS (TBm (tk5 (List.mem_of_getElem? (i := 174) rfl)) rfl) (TBm (tk5 (List.mem_of_getElem? (i := 175) rfl)) rfl) ini7 (TBm (tk5 (List.mem_of_getElem? (i := 176) rfl)) rfl)
def tsX7_isWord : List Cond := Cond.code yX7_isWord cX7_isWord 2 (some .boolean) :: TB
theorem gT_X7_isWord : GoodIn TB (wsV RX7 140 RX7 yX7_isWord tsX7_isWord) := goodV (TBm (tk5 (List.mem_of_getElem? (i := 170) rfl)) rfl) (TBm (tk5 (List.mem_of_getElem? (i := 172) rfl)) rfl) (TBm (sk5 (q := (yX7_isWord, 32)) (List.mem_of_getElem? (i := 3) rfl)) rfl) ini7 (TBm (tk5 (List.mem_of_getElem? (i := 173) rfl)) rfl)
def tsX7_isSign : List Cond := Cond.code yX7_isSign cX7_isSign 2 (some .boolean) :: TB
theorem gT_X7_isSign : GoodIn TB (wsV RX7 131 RX7 yX7_isSign tsX7_isSign) := goodV (TBm (tk5 (List.mem_of_getElem? (i := 238) rfl)) rfl) (TBm (tk6 (List.mem_of_getElem? (i := 0) rfl)) rfl) (TBm (sk5 (q := (yX7_isSign, 32)) (List.mem_of_getElem? (i := 14) rfl)) rfl) ini7 (TBm (tk6 (List.mem_of_getElem? (i := 1) rfl)) rfl)
def tsX7_mustSign : List Cond := Cond.code yX7_mustSign cX7_mustSign 2 none :: TB
theorem gT_X7_mustSign : GoodIn TB (wsV RX7 226 RX7 yX7_mustSign tsX7_mustSign) := goodV (TBm (tk5 (List.mem_of_getElem? (i := 234) rfl)) rfl) (TBm (tk5 (List.mem_of_getElem? (i := 236) rfl)) rfl) (TBm (sk5 (q := (yX7_mustSign, 32)) (List.mem_of_getElem? (i := 13) rfl)) rfl) ini7 (TBm (tk5 (List.mem_of_getElem? (i := 237) rfl)) rfl)
def tsX7_mustWord : List Cond := Cond.code yX7_mustWord cX7_mustWord 2 none :: TB
theorem gT_X7_mustWord : GoodIn TB (wsV RX7 202 RX7 yX7_mustWord tsX7_mustWord) := goodV (TBm (tk6 (List.mem_of_getElem? (i := 10) rfl)) rfl) (TBm (tk6 (List.mem_of_getElem? (i := 12) rfl)) rfl) (TBm (sk6 (q := (yX7_mustWord, 32)) (List.mem_of_getElem? (i := 1) rfl)) rfl) ini7 (TBm (tk6 (List.mem_of_getElem? (i := 13) rfl)) rfl)
def tsX7_isReserved : List Cond := Cond.code yX7_isReserved cX7_isReserved 1 (some .boolean) :: TB
theorem gT_X7_isReserved : GoodIn TB (wsV RX7 187 RX7 yX7_isReserved tsX7_isReserved) := goodV (TBm (tk5 (List.mem_of_getElem? (i := 191) rfl)) rfl) (TBm (tk5 (List.mem_of_getElem? (i := 193) rfl)) rfl) (TBm (sk5 (q := (yX7_isReserved, 32)) (List.mem_of_getElem? (i := 7) rfl)) rfl) ini7 (TBm (tk5 (List.mem_of_getElem? (i := 194) rfl)) rfl)
def tsX7_named : List Cond := Cond.code yX7_named cX7_named 4 (some .int) :: TB
theorem gT_X7_named : GoodIn TB (wsV RX7 191 RX7 yX7_named tsX7_named) := goodV (TBm (tk5 (List.mem_of_getElem? (i := 214) rfl)) rfl) (TBm (tk5 (List.mem_of_getElem? (i := 216) rfl)) rfl) (TBm (sk5 (q := (yX7_named, 32)) (List.mem_of_getElem? (i := 8) rfl)) rfl) ini7 (TBm (tk5 (List.mem_of_getElem? (i := 217) rfl)) rfl)
def tsX7_newName : List Cond := Cond.code yX7_newName cX7_newName 1 none :: TB
theorem gT_X7_newName : GoodIn TB (wsV RX7 229 RX7 yX7_newName tsX7_newName) := goodV (TBm (tk5 (List.mem_of_getElem? (i := 187) rfl)) rfl) (TBm (tk5 (List.mem_of_getElem? (i := 189) rfl)) rfl) (TBm (sk5 (q := (yX7_newName, 32)) (List.mem_of_getElem? (i := 6) rfl)) rfl) ini7 (TBm (tk5 (List.mem_of_getElem? (i := 190) rfl)) rfl)
def tsX7_relation : List Cond := Cond.code yX7_relation cX7_relation 2 (some .int) :: TB
theorem gT_X7_relation : GoodIn TB (wsV RX7 199 RX7 yX7_relation tsX7_relation) := goodV (TBm (tk6 (List.mem_of_getElem? (i := 6) rfl)) rfl) (TBm (tk6 (List.mem_of_getElem? (i := 8) rfl)) rfl) (TBm (sk6 (q := (yX7_relation, 32)) (List.mem_of_getElem? (i := 0) rfl)) rfl) ini7 (TBm (tk6 (List.mem_of_getElem? (i := 9) rfl)) rfl)
def tsX7_columns : List Cond := Cond.code yX7_columns cX7_columns 2 (some .int) :: TB
theorem gT_X7_columns : GoodIn TB (wsV RX7 206 RX7 yX7_columns tsX7_columns) := goodV (TBm (tk6 (List.mem_of_getElem? (i := 14) rfl)) rfl) (TBm (tk6 (List.mem_of_getElem? (i := 16) rfl)) rfl) (TBm (sk6 (q := (yX7_columns, 32)) (List.mem_of_getElem? (i := 2) rfl)) rfl) ini7 (TBm (tk6 (List.mem_of_getElem? (i := 17) rfl)) rfl)
def tsX7_column : List Cond := Cond.code yX7_column cX7_column 3 (some .int) :: TB
theorem gT_X7_column : GoodIn TB (wsV RX7 209 RX7 yX7_column tsX7_column) := goodV (TBm (tk6 (List.mem_of_getElem? (i := 18) rfl)) rfl) (TBm (tk6 (List.mem_of_getElem? (i := 20) rfl)) rfl) (TBm (sk6 (q := (yX7_column, 32)) (List.mem_of_getElem? (i := 3) rfl)) rfl) ini7 (TBm (tk6 (List.mem_of_getElem? (i := 21) rfl)) rfl)
def tsX7_numberTold : List Cond := Cond.code yX7_numberTold cX7_numberTold 2 (some .int) :: TB
theorem gT_X7_numberTold : GoodIn TB (wsV RX7 212 RX7 yX7_numberTold tsX7_numberTold) := goodV (TBm (tk5 (List.mem_of_getElem? (i := 218) rfl)) rfl) (TBm (tk5 (List.mem_of_getElem? (i := 220) rfl)) rfl) (TBm (sk5 (q := (yX7_numberTold, 32)) (List.mem_of_getElem? (i := 9) rfl)) rfl) ini7 (TBm (tk5 (List.mem_of_getElem? (i := 221) rfl)) rfl)
def tsX7_sets : List Cond := Cond.code yX7_sets cX7_sets 3 none :: TB
theorem gT_X7_sets : GoodIn TB (wsV RX7 195 RX7 yX7_sets tsX7_sets) := goodV (TBm (tk5 (List.mem_of_getElem? (i := 226) rfl)) rfl) (TBm (tk5 (List.mem_of_getElem? (i := 228) rfl)) rfl) (TBm (sk5 (q := (yX7_sets, 32)) (List.mem_of_getElem? (i := 11) rfl)) rfl) ini7 (TBm (tk5 (List.mem_of_getElem? (i := 229) rfl)) rfl)
def tsX7_setsPart : List Cond := Cond.code yX7_setsPart cX7_setsPart 7 none :: TB
theorem gT_X7_setsPart : GoodIn TB (wsV RX7 215 RX7 yX7_setsPart tsX7_setsPart) := goodV (TBm (tk6 (List.mem_of_getElem? (i := 22) rfl)) rfl) (TBm (tk6 (List.mem_of_getElem? (i := 24) rfl)) rfl) (TBm (sk6 (q := (yX7_setsPart, 32)) (List.mem_of_getElem? (i := 4) rfl)) rfl) ini7 (TBm (tk6 (List.mem_of_getElem? (i := 25) rfl)) rfl)
def tsX7_header : List Cond := Cond.code yX7_header cX7_header 6 none :: TB
theorem gT_X7_header : GoodIn TB (wsV RX7 219 RX7 yX7_header tsX7_header) := goodV (TBm (tk5 (List.mem_of_getElem? (i := 222) rfl)) rfl) (TBm (tk5 (List.mem_of_getElem? (i := 224) rfl)) rfl) (TBm (sk5 (q := (yX7_header, 32)) (List.mem_of_getElem? (i := 10) rfl)) rfl) ini7 (TBm (tk5 (List.mem_of_getElem? (i := 225) rfl)) rfl)
def tsX7_selectTold : List Cond := Cond.code yX7_selectTold cX7_selectTold 8 none :: TB
theorem gT_X7_selectTold : GoodIn TB (wsV RX7 232 RX7 yX7_selectTold tsX7_selectTold) := goodV (TBm (tk6 (List.mem_of_getElem? (i := 2) rfl)) rfl) (TBm (tk6 (List.mem_of_getElem? (i := 4) rfl)) rfl) (TBm (sk5 (q := (yX7_selectTold, 32)) (List.mem_of_getElem? (i := 15) rfl)) rfl) ini7 (TBm (tk6 (List.mem_of_getElem? (i := 5) rfl)) rfl)
def tsX7_termsTold : List Cond := Cond.code yX7_termsTold cX7_termsTold 8 (some .int) :: TB
theorem gT_X7_termsTold : GoodIn TB (wsV RX7 222 RX7 yX7_termsTold tsX7_termsTold) := goodV (TBm (tk6 (List.mem_of_getElem? (i := 30) rfl)) rfl) (TBm (tk6 (List.mem_of_getElem? (i := 32) rfl)) rfl) (TBm (sk6 (q := (yX7_termsTold, 32)) (List.mem_of_getElem? (i := 6) rfl)) rfl) ini7 (TBm (tk6 (List.mem_of_getElem? (i := 33) rfl)) rfl)
def tsX7_projectTold : List Cond := Cond.code yX7_projectTold cX7_projectTold 3 none :: TB
theorem gT_X7_projectTold : GoodIn TB (wsV RX7 235 RX7 yX7_projectTold tsX7_projectTold) := goodV (TBm (tk6 (List.mem_of_getElem? (i := 26) rfl)) rfl) (TBm (tk6 (List.mem_of_getElem? (i := 28) rfl)) rfl) (TBm (sk6 (q := (yX7_projectTold, 32)) (List.mem_of_getElem? (i := 5) rfl)) rfl) ini7 (TBm (tk6 (List.mem_of_getElem? (i := 29) rfl)) rfl)
def tsX7_joinTold : List Cond := Cond.code yX7_joinTold cX7_joinTold 8 none :: TB
theorem gT_X7_joinTold : GoodIn TB (wsV RX7 238 RX7 yX7_joinTold tsX7_joinTold) := goodV (TBm (tk6 (List.mem_of_getElem? (i := 34) rfl)) rfl) (TBm (tk6 (List.mem_of_getElem? (i := 36) rfl)) rfl) (TBm (sk6 (q := (yX7_joinTold, 32)) (List.mem_of_getElem? (i := 7) rfl)) rfl) ini7 (TBm (tk6 (List.mem_of_getElem? (i := 37) rfl)) rfl)
def tsX7_bothTold : List Cond := Cond.code yX7_bothTold cX7_bothTold 4 none :: TB
theorem gT_X7_bothTold : GoodIn TB (wsV RX7 241 RX7 yX7_bothTold tsX7_bothTold) := goodV (TBm (tk6 (List.mem_of_getElem? (i := 38) rfl)) rfl) (TBm (tk6 (List.mem_of_getElem? (i := 40) rfl)) rfl) (TBm (sk6 (q := (yX7_bothTold, 32)) (List.mem_of_getElem? (i := 8) rfl)) rfl) ini7 (TBm (tk6 (List.mem_of_getElem? (i := 41) rfl)) rfl)
def tsX7_groupTold : List Cond := Cond.code yX7_groupTold cX7_groupTold 7 none :: TB
theorem gT_X7_groupTold : GoodIn TB (wsV RX7 244 RX7 yX7_groupTold tsX7_groupTold) := goodV (TBm (tk6 (List.mem_of_getElem? (i := 42) rfl)) rfl) (TBm (tk6 (List.mem_of_getElem? (i := 44) rfl)) rfl) (TBm (sk6 (q := (yX7_groupTold, 32)) (List.mem_of_getElem? (i := 9) rfl)) rfl) ini7 (TBm (tk6 (List.mem_of_getElem? (i := 45) rfl)) rfl)
def tsX7_ringTold : List Cond := Cond.code yX7_ringTold cX7_ringTold 7 none :: TB
theorem gT_X7_ringTold : GoodIn TB (wsV RX7 247 RX7 yX7_ringTold tsX7_ringTold) := goodV (TBm (tk6 (List.mem_of_getElem? (i := 46) rfl)) rfl) (TBm (tk6 (List.mem_of_getElem? (i := 48) rfl)) rfl) (TBm (sk6 (q := (yX7_ringTold, 32)) (List.mem_of_getElem? (i := 10) rfl)) rfl) ini7 (TBm (tk6 (List.mem_of_getElem? (i := 49) rfl)) rfl)
def tsX7_tableTold : List Cond := Cond.code yX7_tableTold cX7_tableTold 3 none :: TB
theorem gT_X7_tableTold : GoodIn TB (wsV RX7 250 RX7 yX7_tableTold tsX7_tableTold) := goodV (TBm (tk5 (List.mem_of_getElem? (i := 179) rfl)) rfl) (TBm (tk5 (List.mem_of_getElem? (i := 181) rfl)) rfl) (TBm (sk5 (q := (yX7_tableTold, 32)) (List.mem_of_getElem? (i := 4) rfl)) rfl) ini7 (TBm (tk5 (List.mem_of_getElem? (i := 182) rfl)) rfl)
def tsX7_viewTold : List Cond := Cond.code yX7_viewTold cX7_viewTold 3 none :: TB
theorem gT_X7_viewTold : GoodIn TB (wsV RX7 254 RX7 yX7_viewTold tsX7_viewTold) := goodV (TBm (tk5 (List.mem_of_getElem? (i := 230) rfl)) rfl) (TBm (tk5 (List.mem_of_getElem? (i := 232) rfl)) rfl) (TBm (sk5 (q := (yX7_viewTold, 32)) (List.mem_of_getElem? (i := 12) rfl)) rfl) ini7 (TBm (tk5 (List.mem_of_getElem? (i := 233) rfl)) rfl)
def tsX7_plan : List Cond := Cond.code yX7_plan cX7_plan 3 (some .int) :: TB
def tsX7_compare : List Cond := Cond.code yX7_compare cX7_compare 5 (some .int) :: TB
theorem gT_X7_compare : GoodIn TB (va_wsS RX7 272 yX7_compare tsX7_compare) := goodS (TBm (tk6 (List.mem_of_getElem? (i := 66) rfl)) rfl) (TBm (tk6 (List.mem_of_getElem? (i := 67) rfl)) rfl) ini7 (TBm (tk6 (List.mem_of_getElem? (i := 68) rfl)) rfl)
def tsX7_placeOf : List Cond := Cond.code yX7_placeOf cX7_placeOf 4 (some .int) :: TB
theorem gT_X7_placeOf : GoodIn TB (wsV RX7 276 RX7 yX7_placeOf tsX7_placeOf) := goodV (TBm (tk6 (List.mem_of_getElem? (i := 116) rfl)) rfl) (TBm (tk6 (List.mem_of_getElem? (i := 118) rfl)) rfl) (TBm (sk7 (q := (yX7_placeOf, 32)) (List.mem_of_getElem? (i := 6) rfl)) rfl) ini7 (TBm (tk6 (List.mem_of_getElem? (i := 119) rfl)) rfl)
def tsX7_gathers : List Cond := Cond.code yX7_gathers cX7_gathers 5 (some .boolean) :: TB
theorem gT_X7_gathers : GoodIn TB (wsV RX7 304 RX7 yX7_gathers tsX7_gathers) := goodV (TBm (tk6 (List.mem_of_getElem? (i := 112) rfl)) rfl) (TBm (tk6 (List.mem_of_getElem? (i := 114) rfl)) rfl) (TBm (sk7 (q := (yX7_gathers, 32)) (List.mem_of_getElem? (i := 5) rfl)) rfl) ini7 (TBm (tk6 (List.mem_of_getElem? (i := 115) rfl)) rfl)
def tsX7_lays : List Cond := Cond.code yX7_lays cX7_lays 7 (some .int) :: TB
theorem gT_X7_lays : GoodIn TB (wsV RX7 328 RX7 yX7_lays tsX7_lays) := goodV (TBm (tk6 (List.mem_of_getElem? (i := 120) rfl)) rfl) (TBm (tk6 (List.mem_of_getElem? (i := 122) rfl)) rfl) (TBm (sk7 (q := (yX7_lays, 32)) (List.mem_of_getElem? (i := 7) rfl)) rfl) ini7 (TBm (tk6 (List.mem_of_getElem? (i := 123) rfl)) rfl)
def tsX7_takes : List Cond := Cond.code yX7_takes cX7_takes 3 none :: TB
theorem gT_X7_takes : GoodIn TB (wsV RX7 298 RX7 yX7_takes tsX7_takes) := goodV (TBm (tk6 (List.mem_of_getElem? (i := 108) rfl)) rfl) (TBm (tk6 (List.mem_of_getElem? (i := 110) rfl)) rfl) (TBm (sk7 (q := (yX7_takes, 32)) (List.mem_of_getElem? (i := 4) rfl)) rfl) ini7 (TBm (tk6 (List.mem_of_getElem? (i := 111) rfl)) rfl)
def tsX7_holds : List Cond := Cond.code yX7_holds cX7_holds 7 (some .boolean) :: TB
theorem gT_X7_holds : GoodIn TB (wsV RX7 337 RX7 yX7_holds tsX7_holds) := goodV (TBm (tk6 (List.mem_of_getElem? (i := 172) rfl)) rfl) (TBm (tk6 (List.mem_of_getElem? (i := 174) rfl)) rfl) (TBm (sk8 (q := (yX7_holds, 32)) (List.mem_of_getElem? (i := 4) rfl)) rfl) ini7 (TBm (tk6 (List.mem_of_getElem? (i := 175) rfl)) rfl)
def tsX7_terms : List Cond := Cond.code yX7_terms cX7_terms 5 none :: TB
theorem gT_X7_terms : GoodIn TB (wsV RX7 318 RX7 yX7_terms tsX7_terms) := goodV (TBm (tk6 (List.mem_of_getElem? (i := 156) rfl)) rfl) (TBm (tk6 (List.mem_of_getElem? (i := 158) rfl)) rfl) (TBm (sk8 (q := (yX7_terms, 32)) (List.mem_of_getElem? (i := 0) rfl)) rfl) ini7 (TBm (tk6 (List.mem_of_getElem? (i := 159) rfl)) rfl)
def tsX7_joins : List Cond := Cond.code yX7_joins cX7_joins 14 (some .int) :: TB
theorem gT_X7_joins : GoodIn TB (wsV RX7 325 RX7 yX7_joins tsX7_joins) := goodV (TBm (tk6 (List.mem_of_getElem? (i := 132) rfl)) rfl) (TBm (tk6 (List.mem_of_getElem? (i := 134) rfl)) rfl) (TBm (sk7 (q := (yX7_joins, 32)) (List.mem_of_getElem? (i := 10) rfl)) rfl) ini7 (TBm (tk6 (List.mem_of_getElem? (i := 135) rfl)) rfl)
def tsX7_groups : List Cond := Cond.code yX7_groups cX7_groups 15 none :: TB
theorem gT_X7_groups : GoodIn TB (wsV RX7 334 RX7 yX7_groups tsX7_groups) := goodV (TBm (tk6 (List.mem_of_getElem? (i := 160) rfl)) rfl) (TBm (tk6 (List.mem_of_getElem? (i := 162) rfl)) rfl) (TBm (sk8 (q := (yX7_groups, 32)) (List.mem_of_getElem? (i := 1) rfl)) rfl) ini7 (TBm (tk6 (List.mem_of_getElem? (i := 163) rfl)) rfl)
def tsX7_areOneGroup : List Cond := Cond.code yX7_areOneGroup cX7_areOneGroup 5 (some .boolean) :: TB
theorem gT_X7_areOneGroup : GoodIn TB (wsV RX7 311 RX7 yX7_areOneGroup tsX7_areOneGroup) := goodV (TBm (tk6 (List.mem_of_getElem? (i := 168) rfl)) rfl) (TBm (tk6 (List.mem_of_getElem? (i := 170) rfl)) rfl) (TBm (sk8 (q := (yX7_areOneGroup, 32)) (List.mem_of_getElem? (i := 3) rfl)) rfl) ini7 (TBm (tk6 (List.mem_of_getElem? (i := 171) rfl)) rfl)
def tsX7_isFirstOfGroup : List Cond := Cond.code yX7_isFirstOfGroup cX7_isFirstOfGroup 5 (some .boolean) :: TB
theorem gT_X7_isFirstOfGroup : GoodIn TB (wsV RX7 308 RX7 yX7_isFirstOfGroup tsX7_isFirstOfGroup) := goodV (TBm (tk6 (List.mem_of_getElem? (i := 164) rfl)) rfl) (TBm (tk6 (List.mem_of_getElem? (i := 166) rfl)) rfl) (TBm (sk8 (q := (yX7_isFirstOfGroup, 32)) (List.mem_of_getElem? (i := 2) rfl)) rfl) ini7 (TBm (tk6 (List.mem_of_getElem? (i := 167) rfl)) rfl)
def tsX7_rings : List Cond := Cond.code yX7_rings cX7_rings 9 (some .int) :: TB
theorem gT_X7_rings : GoodIn TB (wsV RX7 331 RX7 yX7_rings tsX7_rings) := goodV (TBm (tk6 (List.mem_of_getElem? (i := 148) rfl)) rfl) (TBm (tk6 (List.mem_of_getElem? (i := 150) rfl)) rfl) (TBm (sk7 (q := (yX7_rings, 32)) (List.mem_of_getElem? (i := 14) rfl)) rfl) ini7 (TBm (tk6 (List.mem_of_getElem? (i := 151) rfl)) rfl)
def tsX7_ringsOnce : List Cond := Cond.code yX7_ringsOnce cX7_ringsOnce 12 (some .int) :: TB
theorem gT_X7_ringsOnce : GoodIn TB (wsV RX7 314 RX7 yX7_ringsOnce tsX7_ringsOnce) := goodV (TBm (tk6 (List.mem_of_getElem? (i := 152) rfl)) rfl) (TBm (tk6 (List.mem_of_getElem? (i := 154) rfl)) rfl) (TBm (sk7 (q := (yX7_ringsOnce, 32)) (List.mem_of_getElem? (i := 15) rfl)) rfl) ini7 (TBm (tk6 (List.mem_of_getElem? (i := 155) rfl)) rfl)
def tsX7_reckons : List Cond := Cond.code yX7_reckons cX7_reckons 10 (some .int) :: TB
theorem gT_X7_reckons : GoodIn TB (wsV RX7 349 RX7 yX7_reckons tsX7_reckons) := goodV (TBm (tk6 (List.mem_of_getElem? (i := 124) rfl)) rfl) (TBm (tk6 (List.mem_of_getElem? (i := 126) rfl)) rfl) (TBm (sk7 (q := (yX7_reckons, 32)) (List.mem_of_getElem? (i := 8) rfl)) rfl) ini7 (TBm (tk6 (List.mem_of_getElem? (i := 127) rfl)) rfl)
def tsX7_copies : List Cond := Cond.code yX7_copies cX7_copies 4 none :: TB
theorem gT_X7_copies : GoodIn TB (wsV RX7 340 RX7 yX7_copies tsX7_copies) := goodV (TBm (tk6 (List.mem_of_getElem? (i := 89) rfl)) rfl) (TBm (tk6 (List.mem_of_getElem? (i := 91) rfl)) rfl) (TBm (sk7 (q := (yX7_copies, 32)) (List.mem_of_getElem? (i := 0) rfl)) rfl) ini7 (TBm (tk6 (List.mem_of_getElem? (i := 92) rfl)) rfl)
def tsX7_changesOf : List Cond := Cond.code yX7_changesOf cX7_changesOf 6 (some .boolean) :: TB
theorem gT_X7_changesOf : GoodIn TB (wsV RX7 346 RX7 yX7_changesOf tsX7_changesOf) := goodV (TBm (tk6 (List.mem_of_getElem? (i := 97) rfl)) rfl) (TBm (tk6 (List.mem_of_getElem? (i := 99) rfl)) rfl) (TBm (sk7 (q := (yX7_changesOf, 32)) (List.mem_of_getElem? (i := 2) rfl)) rfl) ini7 (TBm (tk6 (List.mem_of_getElem? (i := 100) rfl)) rfl)
def tsX7_tables : List Cond := Cond.code yX7_tables cX7_tables 2 (some .int) :: TB
theorem gT_X7_tables : GoodIn TB (wsV RX7 343 RX7 yX7_tables tsX7_tables) := goodV (TBm (tk6 (List.mem_of_getElem? (i := 93) rfl)) rfl) (TBm (tk6 (List.mem_of_getElem? (i := 95) rfl)) rfl) (TBm (sk7 (q := (yX7_tables, 32)) (List.mem_of_getElem? (i := 1) rfl)) rfl) ini7 (TBm (tk6 (List.mem_of_getElem? (i := 96) rfl)) rfl)
def tsX7_drafts : List Cond := Cond.code yX7_drafts cX7_drafts 4 (some .int) :: TB
theorem gT_X7_drafts : GoodIn TB (wsV RX7 358 RX7 yX7_drafts tsX7_drafts) := goodV (TBm (tk6 (List.mem_of_getElem? (i := 85) rfl)) rfl) (TBm (tk6 (List.mem_of_getElem? (i := 87) rfl)) rfl) (TBm (sk6 (q := (yX7_drafts, 32)) (List.mem_of_getElem? (i := 15) rfl)) rfl) ini7 (TBm (tk6 (List.mem_of_getElem? (i := 88) rfl)) rfl)
def tsX7_change : List Cond := Cond.code yX7_change cX7_change 11 (some .int) :: TB
def tsX7_moves : List Cond := Cond.code yX7_moves cX7_moves 4 none :: TB
theorem gT_X7_moves : GoodIn TB (wsV RX7 355 RX7 yX7_moves tsX7_moves) := goodV (TBm (tk6 (List.mem_of_getElem? (i := 69) rfl)) rfl) (TBm (tk6 (List.mem_of_getElem? (i := 71) rfl)) rfl) (TBm (sk6 (q := (yX7_moves, 32)) (List.mem_of_getElem? (i := 14) rfl)) rfl) ini7 (TBm (tk6 (List.mem_of_getElem? (i := 72) rfl)) rfl)
def tsX7_pending : List Cond := Cond.code yX7_pending cX7_pending 3 (some .int) :: TB
def tsX7_cancel : List Cond := Cond.code yX7_cancel cX7_cancel 2 (some .int) :: TB
def tsX7_commit : List Cond := Cond.code yX7_commit cX7_commit 3 (some .int) :: TB
def tsX7_would : List Cond := Cond.code yX7_would cX7_would 3 (some .int) :: TB
def tsX7_undo : List Cond := Cond.code yX7_undo cX7_undo 1 (some .int) :: TB
def tsX7_size : List Cond := Cond.code yX7_size cX7_size 2 (some .int) :: TB
def tsX7_isTold : List Cond := Cond.code yX7_isTold cX7_isTold 3 (some .boolean) :: TB
theorem gT_X7_isTold : GoodIn TB (wsV RX7 364 RX7 yX7_isTold tsX7_isTold) := goodV (TBm (tk6 (List.mem_of_getElem? (i := 200) rfl)) rfl) (TBm (tk6 (List.mem_of_getElem? (i := 202) rfl)) rfl) (TBm (sk8 (q := (yX7_isTold, 32)) (List.mem_of_getElem? (i := 7) rfl)) rfl) ini7 (TBm (tk6 (List.mem_of_getElem? (i := 203) rfl)) rfl)
def tsX7_at : List Cond := Cond.code yX7_at cX7_at 4 (some .int) :: TB
def tsX7_find : List Cond := Cond.code yX7_find cX7_find 9 (some .int) :: TB
theorem gT_X7_find : GoodIn TB (wsV RX7 367 RX7 yX7_find tsX7_find) := goodV (TBm (tk6 (List.mem_of_getElem? (i := 208) rfl)) rfl) (TBm (tk6 (List.mem_of_getElem? (i := 210) rfl)) rfl) (TBm (sk8 (q := (yX7_find, 32)) (List.mem_of_getElem? (i := 8) rfl)) rfl) ini7 (TBm (tk6 (List.mem_of_getElem? (i := 211) rfl)) rfl)
def tsX7_count : List Cond := Cond.code yX7_count cX7_count 7 (some .int) :: TB
def tsX7_total : List Cond := Cond.code yX7_total cX7_total 4 (some .int) :: TB
def tsX7_laysMoved : List Cond := Cond.code yX7_laysMoved cX7_laysMoved 11 (some .int) :: TB
theorem gT_X7_laysMoved : GoodIn TB (wsV RX7 371 RX7 yX7_laysMoved tsX7_laysMoved) := goodV (TBm (tk6 (List.mem_of_getElem? (i := 180) rfl)) rfl) (TBm (tk6 (List.mem_of_getElem? (i := 182) rfl)) rfl) (TBm (sk8 (q := (yX7_laysMoved, 32)) (List.mem_of_getElem? (i := 6) rfl)) rfl) ini7 (TBm (tk6 (List.mem_of_getElem? (i := 183) rfl)) rfl)
def tsX7_movedInViews : List Cond := Cond.code yX7_movedInViews cX7_movedInViews 3 (some .int) :: TB
theorem gT_X7_movedInViews : GoodIn TB (wsV RX7 361 RX7 yX7_movedInViews tsX7_movedInViews) := goodV (TBm (tk6 (List.mem_of_getElem? (i := 176) rfl)) rfl) (TBm (tk6 (List.mem_of_getElem? (i := 178) rfl)) rfl) (TBm (sk8 (q := (yX7_movedInViews, 32)) (List.mem_of_getElem? (i := 5) rfl)) rfl) ini7 (TBm (tk6 (List.mem_of_getElem? (i := 179) rfl)) rfl)
def tsX7_cameTo : List Cond := Cond.code yX7_cameTo cX7_cameTo 3 (some .int) :: TB
theorem gT_X7_cameTo : GoodIn TB (wsV RX7 374 RX7 yX7_cameTo tsX7_cameTo) := goodV (TBm (tk6 (List.mem_of_getElem? (i := 228) rfl)) rfl) (TBm (tk6 (List.mem_of_getElem? (i := 230) rfl)) rfl) (TBm (sk8 (q := (yX7_cameTo, 32)) (List.mem_of_getElem? (i := 9) rfl)) rfl) ini7 (TBm (tk6 (List.mem_of_getElem? (i := 231) rfl)) rfl)
def tsX7_moved : List Cond := Cond.code yX7_moved cX7_moved 2 (some .int) :: TB
def tsX7_movedAt : List Cond := Cond.code yX7_movedAt cX7_movedAt 4 (some .int) :: TB
def tsX7_came : List Cond := Cond.code yX7_came cX7_came 2 (some .int) :: TB
def tsX7_round : List Cond := Cond.code yX7_round cX7_round 7 (some .int) :: TB
def tsX7_rounds : List Cond := Cond.code yX7_rounds cX7_rounds 2 (some .int) :: TB
def tsX7_differs : List Cond := Cond.code yX7_differs cX7_differs 7 (some .int) :: TB
def tsX7_hangsOn : List Cond := Cond.code yX7_hangsOn cX7_hangsOn 3 (some .int) :: TB
theorem gT_X7_hangsOn : GoodIn TB (wsV RX7 377 RX7 yX7_hangsOn tsX7_hangsOn) := goodV (TBm (tk7 (List.mem_of_getElem? (i := 8) rfl)) rfl) (TBm (tk7 (List.mem_of_getElem? (i := 10) rfl)) rfl) (TBm (sk8 (q := (yX7_hangsOn, 32)) (List.mem_of_getElem? (i := 10) rfl)) rfl) ini7 (TBm (tk7 (List.mem_of_getElem? (i := 11) rfl)) rfl)
def tsX7_hangOn : List Cond := Cond.code yX7_hangOn cX7_hangOn 4 (some .int) :: TB
theorem gT_X7_hangOn : GoodIn TB (wsV RX7 383 RX7 yX7_hangOn tsX7_hangOn) := goodV (TBm (tk7 (List.mem_of_getElem? (i := 12) rfl)) rfl) (TBm (tk7 (List.mem_of_getElem? (i := 14) rfl)) rfl) (TBm (sk8 (q := (yX7_hangOn, 32)) (List.mem_of_getElem? (i := 11) rfl)) rfl) ini7 (TBm (tk7 (List.mem_of_getElem? (i := 15) rfl)) rfl)
def tsX7_farOf : List Cond := Cond.code yX7_farOf cX7_farOf 4 (some .int) :: TB
theorem gT_X7_farOf : GoodIn TB (wsV RX7 380 RX7 yX7_farOf tsX7_farOf) := goodV (TBm (tk7 (List.mem_of_getElem? (i := 16) rfl)) rfl) (TBm (tk7 (List.mem_of_getElem? (i := 18) rfl)) rfl) (TBm (sk8 (q := (yX7_farOf, 32)) (List.mem_of_getElem? (i := 12) rfl)) rfl) ini7 (TBm (tk7 (List.mem_of_getElem? (i := 19) rfl)) rfl)
def tsX7_of : List Cond := Cond.code yX7_of cX7_of 5 (some .int) :: TB
def tsX7_column_ : List Cond := Cond.code yX7_column_ cX7_column_ 11 (some .int) :: TB
def tsX7_told : List Cond := Cond.code yX7_told cX7_told 4 (some .int) :: TB
theorem gT_X7_packed_J0_length_8abf5 : GoodIn TB (wsV RX7 117 RJ0 yJ0_length_8abf5 wsJ0_length_8abf5) := fun w hw => good_tb ((show ∀ w ∈ ([Cond.methodLink RX7 117 yJ0_length_8abf5, Cond.instanceMethod yJ0_length_8abf5, Cond.selects RJ0 yJ0_length_8abf5 yJ0_length_8abf5, Cond.initialized RJ0, Cond.code yJ0_length_8abf5 cJ0_length_8abf5 1 (some .int), Cond.fieldLink RJ0 9 "java/lang/String" "value" "[B", Cond.methodLink RJ0 335 yJ0_coder_7d493, Cond.instanceMethod yJ0_coder_7d493, Cond.selects RJ0 yJ0_coder_7d493 yJ0_coder_7d493, Cond.initialized RJ0, Cond.code yJ0_coder_7d493 cJ0_coder_7d493 1 (some .byte), Cond.fieldLink RJ0 38 "java/lang/String" "COMPACT_STRINGS" "Z", Cond.fieldLink RJ0 15 "java/lang/String" "coder" "B"] : List Cond), w ∈ TB from List.forall_mem_cons.2 ⟨TBm (tk5 (List.mem_of_getElem? (i := 177) rfl)) rfl, List.forall_mem_cons.2 ⟨TBm (tk2 (List.mem_of_getElem? (i := 84) rfl)) rfl, List.forall_mem_cons.2 ⟨TBm (tk2 (List.mem_of_getElem? (i := 85) rfl)) rfl, List.forall_mem_cons.2 ⟨TBm (tk1 (List.mem_of_getElem? (i := 9) rfl)) rfl, List.forall_mem_cons.2 ⟨TBm (tk2 (List.mem_of_getElem? (i := 86) rfl)) rfl, List.forall_mem_cons.2 ⟨TBm (tk7 (List.mem_of_getElem? (i := 43) rfl)) rfl, List.forall_mem_cons.2 ⟨TBm (tk2 (List.mem_of_getElem? (i := 87) rfl)) rfl, List.forall_mem_cons.2 ⟨TBm (tk2 (List.mem_of_getElem? (i := 88) rfl)) rfl, List.forall_mem_cons.2 ⟨TBm (tk2 (List.mem_of_getElem? (i := 89) rfl)) rfl, List.forall_mem_cons.2 ⟨TBm (tk1 (List.mem_of_getElem? (i := 9) rfl)) rfl, List.forall_mem_cons.2 ⟨TBm (tk2 (List.mem_of_getElem? (i := 90) rfl)) rfl, List.forall_mem_cons.2 ⟨TBm (tk2 (List.mem_of_getElem? (i := 91) rfl)) rfl, List.forall_mem_cons.2 ⟨TBm (tk7 (List.mem_of_getElem? (i := 44) rfl)) rfl, fun _ h => absurd h List.not_mem_nil⟩⟩⟩⟩⟩⟩⟩⟩⟩⟩⟩⟩⟩) w hw)
theorem gT_X7_packed_J0_charAt_5068e : GoodIn TB (wsV RX7 123 RJ0 yJ0_charAt_5068e wsJ0_charAt_5068e) := fun w hw => good_tb ((show ∀ w ∈ ([Cond.methodLink RX7 123 yJ0_charAt_5068e, Cond.instanceMethod yJ0_charAt_5068e, Cond.selects RJ0 yJ0_charAt_5068e yJ0_charAt_5068e, Cond.initialized RJ0, Cond.code yJ0_charAt_5068e cJ0_charAt_5068e 2 (some .char), Cond.fieldLink RJ0 9 "java/lang/String" "value" "[B", Cond.methodLink RJ0 492 yJ0_isLatin1_aae02, Cond.instanceMethod yJ0_isLatin1_aae02, Cond.selects RJ0 yJ0_isLatin1_aae02 yJ0_isLatin1_aae02, Cond.initialized RJ0, Cond.code yJ0_isLatin1_aae02 cJ0_isLatin1_aae02 1 (some .boolean), Cond.fieldLink RJ0 38 "java/lang/String" "COMPACT_STRINGS" "Z", Cond.fieldLink RJ0 15 "java/lang/String" "coder" "B", Cond.methodLink RJ0 495 yJ1_charAt_3b067, Cond.static yJ1_charAt_3b067, Cond.initialized RJ1, Cond.code yJ1_charAt_3b067 cJ1_charAt_3b067 2 (some .char), Cond.methodLink RJ1 9 yJ0_checkIndex_df160, Cond.static yJ0_checkIndex_df160, Cond.code yJ0_checkIndex_df160 cJ0_checkIndex_df160 2 none, Cond.fieldLink RJ0 1053 "jdk/internal/util/Preconditions" "SIOOBE_FORMATTER" "Ljava/util/function/BiFunction;", Cond.methodLink RJ0 1059 yJ3_checkIndex_8e157, Cond.static yJ3_checkIndex_8e157, Cond.initialized RJ3, Cond.code yJ3_checkIndex_8e157 cJ3_checkIndex_8e157 3 (some .int), Cond.methodLink RJ0 498 yJ2_charAt_3b067, Cond.static yJ2_charAt_3b067, Cond.initialized RJ2, Cond.code yJ2_charAt_3b067 cJ2_charAt_3b067 2 (some .char), Cond.methodLink RJ2 67 yJ2_checkIndex_2214a, Cond.static yJ2_checkIndex_2214a, Cond.code yJ2_checkIndex_2214a cJ2_checkIndex_2214a 2 none, Cond.methodLink RJ2 48 yJ2_length_9d52b, Cond.static yJ2_length_9d52b, Cond.code yJ2_length_9d52b cJ2_length_9d52b 1 (some .int), Cond.methodLink RJ2 414 yJ0_checkIndex_df160, Cond.methodLink RJ2 71 yJ2_getChar_3b067, Cond.static yJ2_getChar_3b067, Cond.code yJ2_getChar_3b067 cJ2_getChar_3b067 2 (some .char), Cond.fieldLink RJ2 44 "java/lang/StringUTF16" "$assertionsDisabled" "Z", Cond.fieldLink RJ2 59 "java/lang/StringUTF16" "HI_BYTE_SHIFT" "I", Cond.fieldLink RJ2 63 "java/lang/StringUTF16" "LO_BYTE_SHIFT" "I"] : List Cond), w ∈ TB from List.forall_mem_cons.2 ⟨TBm (tk5 (List.mem_of_getElem? (i := 178) rfl)) rfl, List.forall_mem_cons.2 ⟨TBm (tk2 (List.mem_of_getElem? (i := 94) rfl)) rfl, List.forall_mem_cons.2 ⟨TBm (tk2 (List.mem_of_getElem? (i := 95) rfl)) rfl, List.forall_mem_cons.2 ⟨TBm (tk1 (List.mem_of_getElem? (i := 9) rfl)) rfl, List.forall_mem_cons.2 ⟨TBm (tk2 (List.mem_of_getElem? (i := 96) rfl)) rfl, List.forall_mem_cons.2 ⟨TBm (tk7 (List.mem_of_getElem? (i := 43) rfl)) rfl, List.forall_mem_cons.2 ⟨TBm (tk2 (List.mem_of_getElem? (i := 97) rfl)) rfl, List.forall_mem_cons.2 ⟨TBm (tk2 (List.mem_of_getElem? (i := 98) rfl)) rfl, List.forall_mem_cons.2 ⟨TBm (tk2 (List.mem_of_getElem? (i := 99) rfl)) rfl, List.forall_mem_cons.2 ⟨TBm (tk1 (List.mem_of_getElem? (i := 9) rfl)) rfl, List.forall_mem_cons.2 ⟨TBm (tk2 (List.mem_of_getElem? (i := 100) rfl)) rfl, List.forall_mem_cons.2 ⟨TBm (tk2 (List.mem_of_getElem? (i := 91) rfl)) rfl, List.forall_mem_cons.2 ⟨TBm (tk7 (List.mem_of_getElem? (i := 44) rfl)) rfl, List.forall_mem_cons.2 ⟨TBm (tk2 (List.mem_of_getElem? (i := 101) rfl)) rfl, List.forall_mem_cons.2 ⟨TBm (tk2 (List.mem_of_getElem? (i := 102) rfl)) rfl, List.forall_mem_cons.2 ⟨TBm (tk1 (List.mem_of_getElem? (i := 10) rfl)) rfl, List.forall_mem_cons.2 ⟨TBm (tk2 (List.mem_of_getElem? (i := 103) rfl)) rfl, List.forall_mem_cons.2 ⟨TBm (tk2 (List.mem_of_getElem? (i := 104) rfl)) rfl, List.forall_mem_cons.2 ⟨TBm (tk2 (List.mem_of_getElem? (i := 105) rfl)) rfl, List.forall_mem_cons.2 ⟨TBm (tk2 (List.mem_of_getElem? (i := 106) rfl)) rfl, List.forall_mem_cons.2 ⟨TBm (tk2 (List.mem_of_getElem? (i := 107) rfl)) rfl, List.forall_mem_cons.2 ⟨TBm (tk2 (List.mem_of_getElem? (i := 109) rfl)) rfl, List.forall_mem_cons.2 ⟨TBm (tk2 (List.mem_of_getElem? (i := 110) rfl)) rfl, List.forall_mem_cons.2 ⟨TBm (tk1 (List.mem_of_getElem? (i := 11) rfl)) rfl, List.forall_mem_cons.2 ⟨TBm (tk2 (List.mem_of_getElem? (i := 111) rfl)) rfl, List.forall_mem_cons.2 ⟨TBm (tk2 (List.mem_of_getElem? (i := 112) rfl)) rfl, List.forall_mem_cons.2 ⟨TBm (tk2 (List.mem_of_getElem? (i := 113) rfl)) rfl, List.forall_mem_cons.2 ⟨TBm (tk1 (List.mem_of_getElem? (i := 12) rfl)) rfl, List.forall_mem_cons.2 ⟨TBm (tk2 (List.mem_of_getElem? (i := 114) rfl)) rfl, List.forall_mem_cons.2 ⟨TBm (tk2 (List.mem_of_getElem? (i := 115) rfl)) rfl, List.forall_mem_cons.2 ⟨TBm (tk2 (List.mem_of_getElem? (i := 116) rfl)) rfl, List.forall_mem_cons.2 ⟨TBm (tk2 (List.mem_of_getElem? (i := 117) rfl)) rfl, List.forall_mem_cons.2 ⟨TBm (tk2 (List.mem_of_getElem? (i := 118) rfl)) rfl, List.forall_mem_cons.2 ⟨TBm (tk2 (List.mem_of_getElem? (i := 119) rfl)) rfl, List.forall_mem_cons.2 ⟨TBm (tk2 (List.mem_of_getElem? (i := 120) rfl)) rfl, List.forall_mem_cons.2 ⟨TBm (tk2 (List.mem_of_getElem? (i := 121) rfl)) rfl, List.forall_mem_cons.2 ⟨TBm (tk2 (List.mem_of_getElem? (i := 122) rfl)) rfl, List.forall_mem_cons.2 ⟨TBm (tk2 (List.mem_of_getElem? (i := 123) rfl)) rfl, List.forall_mem_cons.2 ⟨TBm (tk2 (List.mem_of_getElem? (i := 124) rfl)) rfl, List.forall_mem_cons.2 ⟨TBm (tk2 (List.mem_of_getElem? (i := 125) rfl)) rfl, List.forall_mem_cons.2 ⟨TBm (tk2 (List.mem_of_getElem? (i := 127) rfl)) rfl, List.forall_mem_cons.2 ⟨TBm (tk2 (List.mem_of_getElem? (i := 129) rfl)) rfl, fun _ h => absurd h List.not_mem_nil⟩⟩⟩⟩⟩⟩⟩⟩⟩⟩⟩⟩⟩⟩⟩⟩⟩⟩⟩⟩⟩⟩⟩⟩⟩⟩⟩⟩⟩⟩⟩⟩⟩⟩⟩⟩⟩⟩⟩⟩⟩⟩) w hw)
theorem cl_115 : Cond.constantLong RX7 115 256 ∈ TB := TBm (tk5 (List.mem_of_getElem? (i := 168) rfl)) rfl
theorem cc_23 : Cond.constant RX7 23 (iI 126720) ∈ TB := TBm (tk5 (List.mem_of_getElem? (i := 33) rfl)) rfl
theorem cc_388 : Cond.constant RX7 388 (iI 2147483647) ∈ TB := TBm (tk7 (List.mem_of_getElem? (i := 24) rfl)) rfl
theorem cc_389 : Cond.constant RX7 389 (iI (-2147483648)) ∈ TB := TBm (tk7 (List.mem_of_getElem? (i := 25) rfl)) rfl
