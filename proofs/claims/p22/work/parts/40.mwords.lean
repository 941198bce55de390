section
/-! the words of the reference's methods: one list for all -/
def TB : List Cond := lw_tbl.filter goodWord
theorem TBm {w : Cond} (h : w ∈ lw_tbl) (g : goodWord w = true) : w ∈ TB := sorry
theorem tk1 {w : Cond} (h : w ∈ tables_1_1) : w ∈ lw_tbl := sorry
theorem tk2 {w : Cond} (h : w ∈ tables_1_2) : w ∈ lw_tbl := sorry
theorem tk3 {w : Cond} (h : w ∈ tables_1_3) : w ∈ lw_tbl := sorry
theorem tk4 {w : Cond} (h : w ∈ tables_1_4) : w ∈ lw_tbl := sorry
theorem tk5 {w : Cond} (h : w ∈ tables_1_5) : w ∈ lw_tbl := sorry
theorem tk6 {w : Cond} (h : w ∈ tables_1_6) : w ∈ lw_tbl := sorry
theorem tk7 {w : Cond} (h : w ∈ tables_1_7) : w ∈ lw_tbl := sorry
theorem sk1 {q : MethodName × Nat} (h : q ∈ lw_privs_1) : Cond.selects q.1.cls q.1 q.1 ∈ lw_tbl := sorry
theorem sk2 {q : MethodName × Nat} (h : q ∈ lw_privs_2) : Cond.selects q.1.cls q.1 q.1 ∈ lw_tbl := sorry
theorem sk3 {q : MethodName × Nat} (h : q ∈ lw_privs_3) : Cond.selects q.1.cls q.1 q.1 ∈ lw_tbl := sorry
theorem sk4 {q : MethodName × Nat} (h : q ∈ lw_privs_4) : Cond.selects q.1.cls q.1 q.1 ∈ lw_tbl := sorry
theorem sk5 {q : MethodName × Nat} (h : q ∈ lw_privs_5) : Cond.selects q.1.cls q.1 q.1 ∈ lw_tbl := sorry
theorem sk6 {q : MethodName × Nat} (h : q ∈ lw_privs_6) : Cond.selects q.1.cls q.1 q.1 ∈ lw_tbl := sorry
theorem sk7 {q : MethodName × Nat} (h : q ∈ lw_privs_7) : Cond.selects q.1.cls q.1 q.1 ∈ lw_tbl := sorry
theorem sk8 {q : MethodName × Nat} (h : q ∈ lw_privs_8) : Cond.selects q.1.cls q.1 q.1 ∈ lw_tbl := sorry
theorem good_tb {w : Cond} (h : w ∈ TB) : w ∈ TB ∧ ((w.onTables && w.keeps) = true ∨ ∃ ty, w = .arrayClass ty) := sorry
theorem good_up {c : Cond} {ws : List Cond} (h : GoodIn TB ws) : GoodIn (c :: TB) ws := sorry
theorem goodV {own C : String} {idx : Nat} {y : MethodName} {c : Cond} (h1 : Cond.methodLink own idx y ∈ TB) (h2 : Cond.instanceMethod y ∈ TB) (h3 : Cond.selects C y y ∈ TB) (h4 : Cond.initialized C ∈ TB) (h5 : c ∈ TB) : GoodIn TB (wsV own idx C y (c :: TB)) := sorry
theorem goodS {own : String} {idx : Nat} {y : MethodName} {c : Cond} (h1 : Cond.methodLink own idx y ∈ TB) (h2 : Cond.static y ∈ TB) (h4 : Cond.initialized y.cls ∈ TB) (h5 : c ∈ TB) : GoodIn TB (va_wsS own idx y (c :: TB)) := sorry
theorem fl_7 : Cond.fieldLink RX7 7 (TX7 0).1 (TX7 0).2.1 (TX7 0).2.2.1 ∈ TB := sorry
theorem fl_13 : Cond.fieldLink RX7 13 (TX7 1).1 (TX7 1).2.1 (TX7 1).2.2.1 ∈ TB := sorry
theorem fl_64 : Cond.fieldLink RX7 64 (TX7 2).1 (TX7 2).2.1 (TX7 2).2.2.1 ∈ TB := sorry
theorem fl_17 : Cond.fieldLink RX7 17 (TX7 3).1 (TX7 3).2.1 (TX7 3).2.2.1 ∈ TB := sorry
theorem fl_20 : Cond.fieldLink RX7 20 (TX7 4).1 (TX7 4).2.1 (TX7 4).2.2.1 ∈ TB := sorry
theorem fl_184 : Cond.fieldLink RX7 184 (TX7 5).1 (TX7 5).2.1 (TX7 5).2.2.1 ∈ TB := sorry
theorem fl_24 : Cond.fieldLink RX7 24 (TX7 6).1 (TX7 6).2.1 (TX7 6).2.2.1 ∈ TB := sorry
theorem fl_27 : Cond.fieldLink RX7 27 (TX7 7).1 (TX7 7).2.1 (TX7 7).2.2.1 ∈ TB := sorry
theorem fl_257 : Cond.fieldLink RX7 257 (TX7 8).1 (TX7 8).2.1 (TX7 8).2.2.1 ∈ TB := sorry
theorem fl_260 : Cond.fieldLink RX7 260 (TX7 9).1 (TX7 9).2.1 (TX7 9).2.2.1 ∈ TB := sorry
theorem fl_263 : Cond.fieldLink RX7 263 (TX7 10).1 (TX7 10).2.1 (TX7 10).2.2.1 ∈ TB := sorry
theorem fl_30 : Cond.fieldLink RX7 30 (TX7 11).1 (TX7 11).2.1 (TX7 11).2.2.1 ∈ TB := sorry
theorem fl_33 : Cond.fieldLink RX7 33 (TX7 12).1 (TX7 12).2.1 (TX7 12).2.2.1 ∈ TB := sorry
theorem fl_36 : Cond.fieldLink RX7 36 (TX7 13).1 (TX7 13).2.1 (TX7 13).2.2.1 ∈ TB := sorry
theorem fl_266 : Cond.fieldLink RX7 266 (TX7 14).1 (TX7 14).2.1 (TX7 14).2.2.1 ∈ TB := sorry
theorem fl_39 : Cond.fieldLink RX7 39 (TX7 15).1 (TX7 15).2.1 (TX7 15).2.2.1 ∈ TB := sorry
theorem fl_71 : Cond.fieldLink RX7 71 (TX7 16).1 (TX7 16).2.1 (TX7 16).2.2.1 ∈ TB := sorry
theorem fl_60 : Cond.fieldLink RX7 60 (TX7 17).1 (TX7 17).2.1 (TX7 17).2.2.1 ∈ TB := sorry
theorem fl_78 : Cond.fieldLink RX7 78 (TX7 18).1 (TX7 18).2.1 (TX7 18).2.2.1 ∈ TB := sorry
theorem fl_91 : Cond.fieldLink RX7 91 (TX7 19).1 (TX7 19).2.1 (TX7 19).2.2.1 ∈ TB := sorry
theorem fl_84 : Cond.fieldLink RX7 84 (TX7 20).1 (TX7 20).2.1 (TX7 20).2.2.1 ∈ TB := sorry
theorem fl_94 : Cond.fieldLink RX7 94 (TX7 21).1 (TX7 21).2.1 (TX7 21).2.2.1 ∈ TB := sorry
theorem fl_111 : Cond.fieldLink RX7 111 (TX7 22).1 (TX7 22).2.1 (TX7 22).2.2.1 ∈ TB := sorry
theorem fl_97 : Cond.fieldLink RX7 97 (TX7 23).1 (TX7 23).2.1 (TX7 23).2.2.1 ∈ TB := sorry
theorem fl_81 : Cond.fieldLink RX7 81 (TX7 24).1 (TX7 24).2.1 (TX7 24).2.2.1 ∈ TB := sorry
theorem fl_42 : Cond.fieldLink RX7 42 (TX7 25).1 (TX7 25).2.1 (TX7 25).2.2.1 ∈ TB := sorry
theorem fl_269 : Cond.fieldLink RX7 269 (TX7 26).1 (TX7 26).2.1 (TX7 26).2.2.1 ∈ TB := sorry
theorem fl_45 : Cond.fieldLink RX7 45 (TX7 27).1 (TX7 27).2.1 (TX7 27).2.2.1 ∈ TB := sorry
theorem fl_48 : Cond.fieldLink RX7 48 (TX7 28).1 (TX7 28).2.1 (TX7 28).2.2.1 ∈ TB := sorry
theorem fl_51 : Cond.fieldLink RX7 51 (TX7 29).1 (TX7 29).2.1 (TX7 29).2.2.1 ∈ TB := sorry
theorem fl_54 : Cond.fieldLink RX7 54 (TX7 30).1 (TX7 30).2.1 (TX7 30).2.2.1 ∈ TB := sorry
theorem fl_57 : Cond.fieldLink RX7 57 (TX7 31).1 (TX7 31).2.1 (TX7 31).2.2.1 ∈ TB := sorry
theorem lay7 : ∀ k : Nat, k < 32 → u_lay RX7 TX7 k ∈ TB := sorry
theorem inTB7 : ∀ w ∈ u_ws RX7 TX7 32, w ∈ TB := sorry
theorem ini7 : Cond.initialized RX7 ∈ TB := sorry
def tsX7_init : List Cond := Cond.code yX7_init cX7_init 1 none :: TB
def tsX7_within : List Cond := Cond.code yX7_within cX7_within 3 (some .boolean) :: TB
theorem gT_X7_within : GoodIn TB (va_wsS RX7 67 yX7_within tsX7_within) := sorry
def tsX7_isRelation : List Cond := Cond.code yX7_isRelation cX7_isRelation 2 (some .boolean) :: TB
theorem gT_X7_isRelation : GoodIn TB (wsV RX7 352 RX7 yX7_isRelation tsX7_isRelation) := sorry
def tsX7_kindOf : List Cond := Cond.code yX7_kindOf cX7_kindOf 2 (some .int) :: TB
theorem gT_X7_kindOf : GoodIn TB (wsV RX7 322 RX7 yX7_kindOf tsX7_kindOf) := sorry
def tsX7_columnsOf : List Cond := Cond.code yX7_columnsOf cX7_columnsOf 2 (some .int) :: TB
theorem gT_X7_columnsOf : GoodIn TB (wsV RX7 301 RX7 yX7_columnsOf tsX7_columnsOf) := sorry
def tsX7_firstOf : List Cond := Cond.code yX7_firstOf cX7_firstOf 2 (some .int) :: TB
theorem gT_X7_firstOf : GoodIn TB (wsV RX7 289 RX7 yX7_firstOf tsX7_firstOf) := sorry
def tsX7_secondOf : List Cond := Cond.code yX7_secondOf cX7_secondOf 2 (some .int) :: TB
theorem gT_X7_secondOf : GoodIn TB (wsV RX7 292 RX7 yX7_secondOf tsX7_secondOf) := sorry
def tsX7_partsOf : List Cond := Cond.code yX7_partsOf cX7_partsOf 2 (some .int) :: TB
theorem gT_X7_partsOf : GoodIn TB (wsV RX7 283 RX7 yX7_partsOf tsX7_partsOf) := sorry
def tsX7_part : List Cond := Cond.code yX7_part cX7_part 4 (some .int) :: TB
theorem gT_X7_part : GoodIn TB (wsV RX7 286 RX7 yX7_part tsX7_part) := sorry
def tsX7_spot : List Cond := Cond.code yX7_spot cX7_spot 3 (some .int) :: TB
theorem gT_X7_spot : GoodIn TB (va_wsS RX7 279 yX7_spot tsX7_spot) := sorry
def tsX7_sizeOf : List Cond := Cond.code yX7_sizeOf cX7_sizeOf 3 (some .int) :: TB
theorem gT_X7_sizeOf : GoodIn TB (wsV RX7 295 RX7 yX7_sizeOf tsX7_sizeOf) := sorry
def tsX7_eight : List Cond := Cond.code yX7_eight cX7_eight 4 none :: TB
theorem gT_X7_eight : GoodIn TB (wsV RX7 74 RX7 yX7_eight tsX7_eight) := sorry
def tsX7_feed : List Cond := Cond.code yX7_feed cX7_feed 7 (some .int) :: TB
def tsX7_end : List Cond := Cond.code yX7_end cX7_end 2 (some .int) :: TB
def tsX7_byteAt : List Cond := Cond.code yX7_byteAt cX7_byteAt 2 (some .int) :: TB
theorem gT_X7_byteAt : GoodIn TB (wsV RX7 87 RX7 yX7_byteAt tsX7_byteAt) := sorry
def tsX7_isSmall : List Cond := Cond.code yX7_isSmall cX7_isSmall 1 (some .boolean) :: TB
theorem gT_X7_isSmall : GoodIn TB (va_wsS RX7 100 yX7_isSmall tsX7_isSmall) := sorry
def tsX7_isDigit : List Cond := Cond.code yX7_isDigit cX7_isDigit 1 (some .boolean) :: TB
theorem gT_X7_isDigit : GoodIn TB (va_wsS RX7 104 yX7_isDigit tsX7_isDigit) := sorry
def tsX7_next : List Cond := Cond.code yX7_next cX7_next 3 none :: TB
theorem gT_X7_next : GoodIn TB (wsV RX7 137 RX7 yX7_next tsX7_next) := sorry
def tsX7_runs : List Cond := Cond.code yX7_runs cX7_runs 5 none :: TB
theorem gT_X7_runs : GoodIn TB (wsV RX7 107 RX7 yX7_runs tsX7_runs) := sorry
def tsX7_wrong : List Cond := Cond.code yX7_wrong cX7_wrong 2 none :: TB
theorem gT_X7_wrong : GoodIn TB (wsV RX7 134 RX7 yX7_wrong tsX7_wrong) := sorry
def tsX7_packed : List Cond := Cond.code yX7_packed cX7_packed 4 (some .long) :: TB
theorem gT_X7_packed : GoodIn TB (va_wsS RX7 127 yX7_packed tsX7_packed) := sorry
def tsX7_isWord : List Cond := Cond.code yX7_isWord cX7_isWord 2 (some .boolean) :: TB
theorem gT_X7_isWord : GoodIn TB (wsV RX7 140 RX7 yX7_isWord tsX7_isWord) := sorry
def tsX7_isSign : List Cond := Cond.code yX7_isSign cX7_isSign 2 (some .boolean) :: TB
theorem gT_X7_isSign : GoodIn TB (wsV RX7 131 RX7 yX7_isSign tsX7_isSign) := sorry
def tsX7_mustSign : List Cond := Cond.code yX7_mustSign cX7_mustSign 2 none :: TB
theorem gT_X7_mustSign : GoodIn TB (wsV RX7 226 RX7 yX7_mustSign tsX7_mustSign) := sorry
def tsX7_mustWord : List Cond := Cond.code yX7_mustWord cX7_mustWord 2 none :: TB
theorem gT_X7_mustWord : GoodIn TB (wsV RX7 202 RX7 yX7_mustWord tsX7_mustWord) := sorry
def tsX7_isReserved : List Cond := Cond.code yX7_isReserved cX7_isReserved 1 (some .boolean) :: TB
theorem gT_X7_isReserved : GoodIn TB (wsV RX7 187 RX7 yX7_isReserved tsX7_isReserved) := sorry
def tsX7_named : List Cond := Cond.code yX7_named cX7_named 4 (some .int) :: TB
theorem gT_X7_named : GoodIn TB (wsV RX7 191 RX7 yX7_named tsX7_named) := sorry
def tsX7_newName : List Cond := Cond.code yX7_newName cX7_newName 1 none :: TB
theorem gT_X7_newName : GoodIn TB (wsV RX7 229 RX7 yX7_newName tsX7_newName) := sorry
def tsX7_relation : List Cond := Cond.code yX7_relation cX7_relation 2 (some .int) :: TB
theorem gT_X7_relation : GoodIn TB (wsV RX7 199 RX7 yX7_relation tsX7_relation) := sorry
def tsX7_columns : List Cond := Cond.code yX7_columns cX7_columns 2 (some .int) :: TB
theorem gT_X7_columns : GoodIn TB (wsV RX7 206 RX7 yX7_columns tsX7_columns) := sorry
def tsX7_column : List Cond := Cond.code yX7_column cX7_column 3 (some .int) :: TB
theorem gT_X7_column : GoodIn TB (wsV RX7 209 RX7 yX7_column tsX7_column) := sorry
def tsX7_numberTold : List Cond := Cond.code yX7_numberTold cX7_numberTold 2 (some .int) :: TB
theorem gT_X7_numberTold : GoodIn TB (wsV RX7 212 RX7 yX7_numberTold tsX7_numberTold) := sorry
def tsX7_sets : List Cond := Cond.code yX7_sets cX7_sets 3 none :: TB
theorem gT_X7_sets : GoodIn TB (wsV RX7 195 RX7 yX7_sets tsX7_sets) := sorry
def tsX7_setsPart : List Cond := Cond.code yX7_setsPart cX7_setsPart 7 none :: TB
theorem gT_X7_setsPart : GoodIn TB (wsV RX7 215 RX7 yX7_setsPart tsX7_setsPart) := sorry
def tsX7_header : List Cond := Cond.code yX7_header cX7_header 6 none :: TB
theorem gT_X7_header : GoodIn TB (wsV RX7 219 RX7 yX7_header tsX7_header) := sorry
def tsX7_selectTold : List Cond := Cond.code yX7_selectTold cX7_selectTold 8 none :: TB
theorem gT_X7_selectTold : GoodIn TB (wsV RX7 232 RX7 yX7_selectTold tsX7_selectTold) := sorry
def tsX7_termsTold : List Cond := Cond.code yX7_termsTold cX7_termsTold 8 (some .int) :: TB
theorem gT_X7_termsTold : GoodIn TB (wsV RX7 222 RX7 yX7_termsTold tsX7_termsTold) := sorry
def tsX7_projectTold : List Cond := Cond.code yX7_projectTold cX7_projectTold 3 none :: TB
theorem gT_X7_projectTold : GoodIn TB (wsV RX7 235 RX7 yX7_projectTold tsX7_projectTold) := sorry
def tsX7_joinTold : List Cond := Cond.code yX7_joinTold cX7_joinTold 8 none :: TB
theorem gT_X7_joinTold : GoodIn TB (wsV RX7 238 RX7 yX7_joinTold tsX7_joinTold) := sorry
def tsX7_bothTold : List Cond := Cond.code yX7_bothTold cX7_bothTold 4 none :: TB
theorem gT_X7_bothTold : GoodIn TB (wsV RX7 241 RX7 yX7_bothTold tsX7_bothTold) := sorry
def tsX7_groupTold : List Cond := Cond.code yX7_groupTold cX7_groupTold 7 none :: TB
theorem gT_X7_groupTold : GoodIn TB (wsV RX7 244 RX7 yX7_groupTold tsX7_groupTold) := sorry
def tsX7_ringTold : List Cond := Cond.code yX7_ringTold cX7_ringTold 7 none :: TB
theorem gT_X7_ringTold : GoodIn TB (wsV RX7 247 RX7 yX7_ringTold tsX7_ringTold) := sorry
def tsX7_tableTold : List Cond := Cond.code yX7_tableTold cX7_tableTold 3 none :: TB
theorem gT_X7_tableTold : GoodIn TB (wsV RX7 250 RX7 yX7_tableTold tsX7_tableTold) := sorry
def tsX7_viewTold : List Cond := Cond.code yX7_viewTold cX7_viewTold 3 none :: TB
theorem gT_X7_viewTold : GoodIn TB (wsV RX7 254 RX7 yX7_viewTold tsX7_viewTold) := sorry
def tsX7_plan : List Cond := Cond.code yX7_plan cX7_plan 3 (some .int) :: TB
def tsX7_compare : List Cond := Cond.code yX7_compare cX7_compare 5 (some .int) :: TB
theorem gT_X7_compare : GoodIn TB (va_wsS RX7 272 yX7_compare tsX7_compare) := sorry
def tsX7_placeOf : List Cond := Cond.code yX7_placeOf cX7_placeOf 4 (some .int) :: TB
theorem gT_X7_placeOf : GoodIn TB (wsV RX7 276 RX7 yX7_placeOf tsX7_placeOf) := sorry
def tsX7_gathers : List Cond := Cond.code yX7_gathers cX7_gathers 5 (some .boolean) :: TB
theorem gT_X7_gathers : GoodIn TB (wsV RX7 304 RX7 yX7_gathers tsX7_gathers) := sorry
def tsX7_lays : List Cond := Cond.code yX7_lays cX7_lays 7 (some .int) :: TB
theorem gT_X7_lays : GoodIn TB (wsV RX7 328 RX7 yX7_lays tsX7_lays) := sorry
def tsX7_takes : List Cond := Cond.code yX7_takes cX7_takes 3 none :: TB
theorem gT_X7_takes : GoodIn TB (wsV RX7 298 RX7 yX7_takes tsX7_takes) := sorry
def tsX7_holds : List Cond := Cond.code yX7_holds cX7_holds 7 (some .boolean) :: TB
theorem gT_X7_holds : GoodIn TB (wsV RX7 337 RX7 yX7_holds tsX7_holds) := sorry
def tsX7_terms : List Cond := Cond.code yX7_terms cX7_terms 5 none :: TB
theorem gT_X7_terms : GoodIn TB (wsV RX7 318 RX7 yX7_terms tsX7_terms) := sorry
def tsX7_joins : List Cond := Cond.code yX7_joins cX7_joins 14 (some .int) :: TB
theorem gT_X7_joins : GoodIn TB (wsV RX7 325 RX7 yX7_joins tsX7_joins) := sorry
def tsX7_groups : List Cond := Cond.code yX7_groups cX7_groups 15 none :: TB
theorem gT_X7_groups : GoodIn TB (wsV RX7 334 RX7 yX7_groups tsX7_groups) := sorry
def tsX7_areOneGroup : List Cond := Cond.code yX7_areOneGroup cX7_areOneGroup 5 (some .boolean) :: TB
theorem gT_X7_areOneGroup : GoodIn TB (wsV RX7 311 RX7 yX7_areOneGroup tsX7_areOneGroup) := sorry
def tsX7_isFirstOfGroup : List Cond := Cond.code yX7_isFirstOfGroup cX7_isFirstOfGroup 5 (some .boolean) :: TB
theorem gT_X7_isFirstOfGroup : GoodIn TB (wsV RX7 308 RX7 yX7_isFirstOfGroup tsX7_isFirstOfGroup) := sorry
def tsX7_rings : List Cond := Cond.code yX7_rings cX7_rings 9 (some .int) :: TB
theorem gT_X7_rings : GoodIn TB (wsV RX7 331 RX7 yX7_rings tsX7_rings) := sorry
def tsX7_ringsOnce : List Cond := Cond.code yX7_ringsOnce cX7_ringsOnce 12 (some .int) :: TB
theorem gT_X7_ringsOnce : GoodIn TB (wsV RX7 314 RX7 yX7_ringsOnce tsX7_ringsOnce) := sorry
def tsX7_reckons : List Cond := Cond.code yX7_reckons cX7_reckons 10 (some .int) :: TB
theorem gT_X7_reckons : GoodIn TB (wsV RX7 349 RX7 yX7_reckons tsX7_reckons) := sorry
def tsX7_copies : List Cond := Cond.code yX7_copies cX7_copies 4 none :: TB
theorem gT_X7_copies : GoodIn TB (wsV RX7 340 RX7 yX7_copies tsX7_copies) := sorry
def tsX7_changesOf : List Cond := Cond.code yX7_changesOf cX7_changesOf 6 (some .boolean) :: TB
theorem gT_X7_changesOf : GoodIn TB (wsV RX7 346 RX7 yX7_changesOf tsX7_changesOf) := sorry
def tsX7_tables : List Cond := Cond.code yX7_tables cX7_tables 2 (some .int) :: TB
theorem gT_X7_tables : GoodIn TB (wsV RX7 343 RX7 yX7_tables tsX7_tables) := sorry
def tsX7_drafts : List Cond := Cond.code yX7_drafts cX7_drafts 4 (some .int) :: TB
theorem gT_X7_drafts : GoodIn TB (wsV RX7 358 RX7 yX7_drafts tsX7_drafts) := sorry
def tsX7_change : List Cond := Cond.code yX7_change cX7_change 11 (some .int) :: TB
def tsX7_moves : List Cond := Cond.code yX7_moves cX7_moves 4 none :: TB
theorem gT_X7_moves : GoodIn TB (wsV RX7 355 RX7 yX7_moves tsX7_moves) := sorry
def tsX7_pending : List Cond := Cond.code yX7_pending cX7_pending 3 (some .int) :: TB
def tsX7_cancel : List Cond := Cond.code yX7_cancel cX7_cancel 2 (some .int) :: TB
def tsX7_commit : List Cond := Cond.code yX7_commit cX7_commit 3 (some .int) :: TB
def tsX7_would : List Cond := Cond.code yX7_would cX7_would 3 (some .int) :: TB
def tsX7_undo : List Cond := Cond.code yX7_undo cX7_undo 1 (some .int) :: TB
def tsX7_size : List Cond := Cond.code yX7_size cX7_size 2 (some .int) :: TB
def tsX7_isTold : List Cond := Cond.code yX7_isTold cX7_isTold 3 (some .boolean) :: TB
theorem gT_X7_isTold : GoodIn TB (wsV RX7 364 RX7 yX7_isTold tsX7_isTold) := sorry
def tsX7_at : List Cond := Cond.code yX7_at cX7_at 4 (some .int) :: TB
def tsX7_find : List Cond := Cond.code yX7_find cX7_find 9 (some .int) :: TB
theorem gT_X7_find : GoodIn TB (wsV RX7 367 RX7 yX7_find tsX7_find) := sorry
def tsX7_count : List Cond := Cond.code yX7_count cX7_count 7 (some .int) :: TB
def tsX7_total : List Cond := Cond.code yX7_total cX7_total 4 (some .int) :: TB
def tsX7_laysMoved : List Cond := Cond.code yX7_laysMoved cX7_laysMoved 11 (some .int) :: TB
theorem gT_X7_laysMoved : GoodIn TB (wsV RX7 371 RX7 yX7_laysMoved tsX7_laysMoved) := sorry
def tsX7_movedInViews : List Cond := Cond.code yX7_movedInViews cX7_movedInViews 3 (some .int) :: TB
theorem gT_X7_movedInViews : GoodIn TB (wsV RX7 361 RX7 yX7_movedInViews tsX7_movedInViews) := sorry
def tsX7_cameTo : List Cond := Cond.code yX7_cameTo cX7_cameTo 3 (some .int) :: TB
theorem gT_X7_cameTo : GoodIn TB (wsV RX7 374 RX7 yX7_cameTo tsX7_cameTo) := sorry
def tsX7_moved : List Cond := Cond.code yX7_moved cX7_moved 2 (some .int) :: TB
def tsX7_movedAt : List Cond := Cond.code yX7_movedAt cX7_movedAt 4 (some .int) :: TB
def tsX7_came : List Cond := Cond.code yX7_came cX7_came 2 (some .int) :: TB
def tsX7_round : List Cond := Cond.code yX7_round cX7_round 7 (some .int) :: TB
def tsX7_rounds : List Cond := Cond.code yX7_rounds cX7_rounds 2 (some .int) :: TB
def tsX7_differs : List Cond := Cond.code yX7_differs cX7_differs 7 (some .int) :: TB
def tsX7_hangsOn : List Cond := Cond.code yX7_hangsOn cX7_hangsOn 3 (some .int) :: TB
theorem gT_X7_hangsOn : GoodIn TB (wsV RX7 377 RX7 yX7_hangsOn tsX7_hangsOn) := sorry
def tsX7_hangOn : List Cond := Cond.code yX7_hangOn cX7_hangOn 4 (some .int) :: TB
theorem gT_X7_hangOn : GoodIn TB (wsV RX7 383 RX7 yX7_hangOn tsX7_hangOn) := sorry
def tsX7_farOf : List Cond := Cond.code yX7_farOf cX7_farOf 4 (some .int) :: TB
theorem gT_X7_farOf : GoodIn TB (wsV RX7 380 RX7 yX7_farOf tsX7_farOf) := sorry
def tsX7_of : List Cond := Cond.code yX7_of cX7_of 5 (some .int) :: TB
def tsX7_column_ : List Cond := Cond.code yX7_column_ cX7_column_ 11 (some .int) :: TB
def tsX7_told : List Cond := Cond.code yX7_told cX7_told 4 (some .int) :: TB
theorem gT_X7_packed_J0_length_8abf5 : GoodIn TB (wsV RX7 117 RJ0 yJ0_length_8abf5 wsJ0_length_8abf5) := sorry
theorem gT_X7_packed_J0_charAt_5068e : GoodIn TB (wsV RX7 123 RJ0 yJ0_charAt_5068e wsJ0_charAt_5068e) := sorry
theorem cl_115 : Cond.constantLong RX7 115 256 ∈ TB := sorry
theorem cc_23 : Cond.constant RX7 23 (iI 126720) ∈ TB := sorry
theorem cc_388 : Cond.constant RX7 388 (iI 2147483647) ∈ TB := sorry
theorem cc_389 : Cond.constant RX7 389 (iI (-2147483648)) ∈ TB := sorry
def tsX7_thrown : List Cond := Cond.code yX7_thrown cX7_thrown 1 (some .int) :: TB


end

section
/-! what a state of the reference is. gh (50 + k) 0: the array of field k; gh 9 = 5 and gh 10 = k there; gh 48 0: the object -/
def mTab : List (Nat × Nat) := [(0, 640), (3, 640), (6, 126720), (7, 176), (11, 41), (12, 164), (13, 41), (15, 936), (25, 9600), (27, 4), (28, 8), (29, 176), (30, 600), (31, 1200)]
def mSh (g : gG) (gh : gGh) (R : gR) : Prop := ∀ m, gO g m 7 → m = gh 48 0 ∧ (∀ q ∈ mTab, R m q.1 = some (gh (50 + q.1) 0) ∧ gAr g (gh (50 + q.1) 0) 9 q.2 ∧ (q.1 ≠ 15 → q.1 ≠ 11 → q.1 ≠ 12 → q.1 ≠ 13 → gh 9 (gh (50 + q.1) 0) = 5) ∧ gh 10 (gh (50 + q.1) 0) = q.1) ∧
  (R m 1 = some (gh 51 0) ∧ gAr g (gh 51 0) 10 16) ∧ (R m 4 = some (gh 54 0) ∧ gAr g (gh 54 0) 10 16)
def mNum (f : Nat → Int32) : Prop := 0 ≤ (f 2).toInt ∧ (f 2).toInt ≤ 16 ∧ 0 ≤ (f 5).toInt ∧ (f 5).toInt ≤ 16 ∧ 0 ≤ (f 8).toInt ∧ (f 8).toInt ≤ 8 ∧ 0 ≤ (f 14).toInt ∧ (f 14).toInt ≤ 40 ∧ 0 ≤ (f 16).toInt ∧ (f 16).toInt ≤ 936 ∧
  0 ≤ (f 18).toInt ∧ (f 18).toInt ≤ 936 ∧ 0 ≤ (f 19).toInt ∧ (f 19).toInt ≤ 937 ∧ 0 ≤ (f 20).toInt ∧ (f 20).toInt ≤ 937 ∧ 0 ≤ (f 24).toInt ∧ (f 24).toInt ≤ 10000 ∧ 0 ≤ (f 26).toInt ∧ (f 26).toInt ≤ 1600 ∧ ((f 21).toInt = 1 → 0 ≤ (f 23).toInt ∧ (f 23).toInt ≤ 3)
/-- the same, without the token -/
def mNum1 (f : Nat → Int32) : Prop := 0 ≤ (f 2).toInt ∧ (f 2).toInt ≤ 16 ∧ 0 ≤ (f 5).toInt ∧ (f 5).toInt ≤ 16 ∧ 0 ≤ (f 8).toInt ∧ (f 8).toInt ≤ 8 ∧ 0 ≤ (f 14).toInt ∧ (f 14).toInt ≤ 40 ∧ 0 ≤ (f 16).toInt ∧ (f 16).toInt ≤ 936 ∧
  0 ≤ (f 18).toInt ∧ (f 18).toInt ≤ 936 ∧ 0 ≤ (f 19).toInt ∧ (f 19).toInt ≤ 937 ∧ 0 ≤ (f 20).toInt ∧ (f 20).toInt ≤ 937 ∧ 0 ≤ (f 24).toInt ∧ (f 24).toInt ≤ 10000 ∧ 0 ≤ (f 26).toInt ∧ (f 26).toInt ≤ 1600
/-- a bit of x, as the machine takes it -/
def mBit (x d : Int) : Int := (iI ((iI x >>> (iI d &&& 31)).toInt) &&& iI 1).toInt
def mCnt (x : Int) : Nat → Int
  | 0 => 0
  | n + 1 => mCnt x n + (if mBit x n = 1 then 0 else 1)
/-- a number of a list -/
def tI (f : Nat → Int32) (z : Int) : Int := (f z.toNat).toInt
/-- a part of a relation's row -/
def mP (f : Nat → Int32) (r k w : Int) : Int := tI f (40 * r + 6 + 4 * k + w)
/-- a relation's row: kind, columns, first, second, parts, gone, then parts of four -/
def rowOK (f : Nat → Int32) (r : Int) : Prop :=
  (0 ≤ tI f (40 * r) ∧ tI f (40 * r) ≤ 8 ∧ 1 ≤ tI f (40 * r + 1) ∧ tI f (40 * r + 1) ≤ 4) ∧
  (tI f (40 * r) ≠ 0 → 0 ≤ tI f (40 * r + 2) ∧ tI f (40 * r + 2) < r ∧ -1 ≤ tI f (40 * r + 3) ∧ tI f (40 * r + 3) < r) ∧
  (0 ≤ tI f (40 * r + 4) ∧ tI f (40 * r + 4) ≤ 8) ∧
  (tI f (40 * r) = 0 → 0 < r → tI f (40 * (r - 1)) = 0) ∧
  (tI f (40 * r) = 1 → ∀ k : Int, 0 ≤ k → k < tI f (40 * r + 4) → 0 ≤ mP f r k 0 ∧ mP f r k 0 ≤ 3 ∧ (mP f r k 2 = 1 → 0 ≤ mP f r k 3 ∧ mP f r k 3 ≤ 3)) ∧
  (tI f (40 * r) = 2 → tI f (40 * r + 4) ≤ 4 ∧ ∀ k : Int, 0 ≤ k → k < tI f (40 * r + 4) → mP f r k 0 ≤ 3) ∧
  (tI f (40 * r) = 3 → 0 ≤ tI f (40 * r + 3) ∧ tI f (40 * r + 4) ≤ 4 ∧ (∀ k : Int, 0 ≤ k → k < tI f (40 * r + 4) → 0 ≤ mP f r k 0 ∧ mP f r k 0 ≤ 3 ∧ 0 ≤ mP f r k 1 ∧ mP f r k 1 ≤ 3) ∧
    tI f (40 * tI f (40 * r + 2) + 1) + mCnt (tI f (40 * r + 5)) (tI f (40 * tI f (40 * r + 3) + 1)).toNat ≤ 4) ∧
  (tI f (40 * r) = 4 ∨ tI f (40 * r) = 5 → 0 ≤ tI f (40 * r + 3)) ∧
  (tI f (40 * r) = 7 → tI f (40 * r + 4) ≤ 3 ∧ (∀ k : Int, 0 ≤ k → k < tI f (40 * r + 4) → 0 ≤ mP f r k 0 ∧ mP f r k 0 ≤ 3) ∧ 0 ≤ mP f r (tI f (40 * r + 4)) 0 ∧ mP f r (tI f (40 * r + 4)) 0 ≤ 3) ∧
  (tI f (40 * r) = 8 → 0 ≤ tI f (40 * r + 3) ∧ tI f (40 * r + 4) ≤ 4 ∧ 0 ≤ mP f r 0 0 ∧ mP f r 0 0 ≤ 3 ∧ 0 ≤ mP f r 0 1 ∧ mP f r 0 1 ≤ 3 ∧ (∀ k : Int, 0 ≤ k → k < tI f (40 * r + 4) → mP f r (1 + k) 0 ≤ 3) ∧ tI f (40 * r + 4) = tI f (40 * tI f (40 * r + 2) + 1))
theorem rowOK_c {f f' : Nat → Int32} {r : Int} (hr : 0 ≤ r) (e : ∀ z : Int, 0 ≤ z → z < 40 * r + 40 → tI f' z = tI f z) (h : rowOK f r) : rowOK f' r := sorry
def mCon (gh : gGh) (f : Nat → Int32) (AI : gI) : Prop := (∀ j : Nat, j < 176 → 0 ≤ (AI (gh 57 0) j).toInt ∧ (AI (gh 57 0) j).toInt ≤ 120) ∧ (∀ j : Nat, j < 41 → 0 ≤ (AI (gh 61 0) j).toInt ∧ (AI (gh 61 0) j).toInt ≤ 15) ∧
  (∀ r : Int, 0 ≤ r → r < (f 2).toInt → rowOK (AI (gh 50 0)) r) ∧ (∀ r : Int, 0 ≤ r → r < (f 5).toInt → rowOK (AI (gh 53 0)) r)
/-- the class's side is as gM says -/
def mFr (g : gG) (gh : gGh) (I AI : gI) : Prop := (∀ b c, gO g b c → c ≠ 7 → I b = (gM g).1 b) ∧ ∀ b, gh 9 b ≠ 5 → AI b = (gM g).2 b
def mInv (g : gG) (gh : gGh) (R : gR) (I AI : gI) : Prop := mSh g gh R ∧ (∀ m, gO g m 7 → mNum (I m) ∧ mCon gh (I m) AI) ∧ mFr g gh I AI
section MInv
variable {g : gG} {gh : gGh} {R : gR} {I AI : gI} {m : Nat}
theorem mR (hv : mInv g gh R I AI) (hm : gO g m 7) {q : Nat × Nat} (h : q ∈ mTab) : R m q.1 = some (gh (50 + q.1) 0) ∧ gAr g (gh (50 + q.1) 0) 9 q.2 := sorry
theorem mI (hv : mInv g gh R I AI) (hm : gO g m 7) : mNum (I m) := sorry
theorem mJ (hv : mInv g gh R I AI) (hm : gO g m 7) : mNum1 (I m) := sorry
theorem mTok (hv : mInv g gh R I AI) (hm : gO g m 7) : (I m 21).toInt = 1 → 0 ≤ (I m 23).toInt ∧ (I m 23).toInt ≤ 3 := sorry
theorem mOne (hv : mInv g gh R I AI) (hm : gO g m 7) {b : Nat} (hb : gO g b 7) : b = m := sorry
/-- an int field but many and readMany -/
theorem mInv_f {k : Nat} {v : Int32} (hv : mInv g gh R I AI) (hm : gO g m 7) (hk : k ≠ 2 ∧ k ≠ 5) (h : mNum (gup2 I m k v m)) : mInv g gh R (gup2 I m k v) AI := sorry
/-- an array that no invariant looks into -/
theorem mInv_b {AI' : gI} {q : Nat × Nat} (hv : mInv g gh R I AI) (hm : gO g m 7) (hq : q ∈ mTab) (hn : q.1 ≠ 0 ∧ q.1 ≠ 3 ∧ q.1 ≠ 7 ∧ q.1 ≠ 11 ∧ q.1 ≠ 15) (h9 : gh 9 (gh (50 + q.1) 0) = 5) (e : ∀ b, b ≠ gh (50 + q.1) 0 → AI' b = AI b) : mInv g gh R I AI' := sorry
theorem mInv_a {AI' : gI} {q : Nat × Nat} (hv : mInv g gh R I AI) (hm : gO g m 7) (hq : q ∈ mTab) (hn : (q.1 ≠ 0 ∧ q.1 ≠ 3 ∧ q.1 ≠ 7 ∧ q.1 ≠ 11 ∧ q.1 ≠ 15) ∧ q.1 ≠ 12 ∧ q.1 ≠ 13) (e : ∀ b, b ≠ gh (50 + q.1) 0 → AI' b = AI b) : mInv g gh R I AI' := sorry
theorem mInv_sizes {AI' : gI} (hv : mInv g gh R I AI) (hm : gO g m 7) (e : ∀ b, b ≠ gh 57 0 → AI' b = AI b) (h : ∀ j : Nat, j < 176 → 0 ≤ (AI' (gh 57 0) j).toInt ∧ (AI' (gh 57 0) j).toInt ≤ 120) : mInv g gh R I AI' := sorry
theorem mInv_ct {AI' : gI} (hv : mInv g gh R I AI) (hm : gO g m 7) (h61 : gh 9 (gh 61 0) = 5) (e : ∀ b, b ≠ gh 61 0 → AI' b = AI b) (h : ∀ j : Nat, j < 41 → 0 ≤ (AI' (gh 61 0) j).toInt ∧ (AI' (gh 61 0) j).toInt ≤ 15) : mInv g gh R I AI' := sorry
theorem mInv_read {AI' : gI} {z : Int} {v : Int32} (hv : mInv g gh R I AI) (hm : gO g m 7) (e : AI' = gup2 AI (gh 53 0) z.toNat v) (hz : 40 * (I m 5).toInt ≤ z) : mInv g gh R I AI' := sorry
theorem mSz (hv : mInv g gh R I AI) (hm : gO g m 7) {z : Int} (h0 : 0 ≤ z) (h1 : z < 176) : 0 ≤ (AI (gh 57 0) z.toNat).toInt ∧ (AI (gh 57 0) z.toNat).toInt ≤ 120 := sorry
theorem mCt (hv : mInv g gh R I AI) (hm : gO g m 7) {z : Int} (h0 : 0 ≤ z) (h1 : z < 41) : 0 ≤ (AI (gh 61 0) z.toNat).toInt ∧ (AI (gh 61 0) z.toNat).toInt ≤ 15 := sorry
theorem mRow {T : Nat → Int32} (hv : mInv g gh R I AI) (hm : gO g m 7) (hT : AI (gh 50 0) = T) {z : Int} (h0 : 0 ≤ z) (h1 : z < (I m 2).toInt) : rowOK T z := sorry
theorem mRead (hv : mInv g gh R I AI) (hm : gO g m 7) {z : Int} (h0 : 0 ≤ z) (h1 : z < (I m 5).toInt) : rowOK (AI (gh 53 0)) z := sorry
/-- another array's write leaves an array as it was -/
theorem mK {AI' : gI} {p q : Nat × Nat} (hv : mInv g gh R I AI) (hm : gO g m 7) (hp : p ∈ mTab) (hq : q ∈ mTab) (hne : p.1 ≠ q.1) (e : ∀ b, b ≠ gh (50 + q.1) 0 → AI' b = AI b) : AI' (gh (50 + p.1) 0) = AI (gh (50 + p.1) 0) := sorry
/-- only worked may be another one; or also what calls of the face write -/
def wF (m : Nat) (I I' : gI) : Prop := ∀ j, j ≠ 26 → I' m j = I m j
def mF (m : Nat) (I I' : gI) : Prop := ∀ j, j ≠ 8 → j ≠ 9 → j ≠ 10 → j ≠ 14 → j ≠ 17 → j ≠ 26 → I' m j = I m j
/-- the same, but the changes stay -/
def nF (m : Nat) (I I' : gI) : Prop := ∀ j, j ≠ 8 → j ≠ 9 → j ≠ 10 → j ≠ 17 → j ≠ 26 → I' m j = I m j
/-- what the parser writes -/
def qF (m : Nat) (I I' : gI) : Prop := ∀ j, j ≠ 19 → j ≠ 20 → j ≠ 21 → j ≠ 23 → j ≠ 24 → I' m j = I m j
theorem qF_r : qF m I I := sorry
theorem qF_t {I' I'' : gI} (h : qF m I I') (h' : qF m I' I'') : qF m I I'' := sorry
theorem qF_p {k : Nat} {v : Int32} (hk : k = 19 ∨ k = 20 ∨ k = 21 ∨ k = 23 ∨ k = 24) : qF m I (gup2 I m k v) := sorry
theorem wF_r : wF m I I := sorry
theorem wF_t {I' I'' : gI} (h : wF m I I') (h' : wF m I' I'') : wF m I I'' := sorry
theorem mF_r : mF m I I := sorry
theorem mF_t {I' I'' : gI} (h : mF m I I') (h' : mF m I' I'') : mF m I I'' := sorry
theorem mF_w {I' : gI} (h : wF m I I') : mF m I I' := sorry
theorem wF_p {v : Int32} : wF m I (gup2 I m 26 v) := sorry
theorem mF_p {k : Nat} {v : Int32} (hk : k = 8 ∨ k = 9 ∨ k = 10 ∨ k = 14 ∨ k = 17 ∨ k = 26) : mF m I (gup2 I m k v) := sorry
theorem nF_r : nF m I I := sorry
theorem nF_t {I' I'' : gI} (h : nF m I I') (h' : nF m I' I'') : nF m I I'' := sorry
theorem nF_w {I' : gI} (h : wF m I I') : nF m I I' := sorry
theorem mF_n {I' : gI} (h : nF m I I') : mF m I I' := sorry
theorem nF_p {k : Nat} {v : Int32} (hk : k = 8 ∨ k = 9 ∨ k = 10 ∨ k = 17 ∨ k = 26) : nF m I (gup2 I m k v) := sorry
end MInv


end

section
section MPut
variable {g : gG} {gh : gGh} {R : gR} {I AI : gI} {m : Nat}
theorem mP8 {z : Int} (hv : mInv g gh R I AI) (hm : gO g m 7) (h0 : 0 ≤ z) (h9 : z ≤ 8) : mInv g gh R (gup2 I m 8 (iI z)) AI := sorry
theorem mP14 {z : Int} (hv : mInv g gh R I AI) (hm : gO g m 7) (h0 : 0 ≤ z) (h9 : z ≤ 40) : mInv g gh R (gup2 I m 14 (iI z)) AI := sorry
theorem mP16 {z : Int} (hv : mInv g gh R I AI) (hm : gO g m 7) (h0 : 0 ≤ z) (h9 : z ≤ 936) : mInv g gh R (gup2 I m 16 (iI z)) AI := sorry
theorem mP18 {z : Int} (hv : mInv g gh R I AI) (hm : gO g m 7) (h0 : 0 ≤ z) (h9 : z ≤ 936) : mInv g gh R (gup2 I m 18 (iI z)) AI := sorry
theorem mP19 {z : Int} (hv : mInv g gh R I AI) (hm : gO g m 7) (h0 : 0 ≤ z) (h9 : z ≤ 937) : mInv g gh R (gup2 I m 19 (iI z)) AI := sorry
theorem mP20 {z : Int} (hv : mInv g gh R I AI) (hm : gO g m 7) (h0 : 0 ≤ z) (h9 : z ≤ 937) : mInv g gh R (gup2 I m 20 (iI z)) AI := sorry
theorem mP24 {z : Int} (hv : mInv g gh R I AI) (hm : gO g m 7) (h0 : 0 ≤ z) (h9 : z ≤ 10000) : mInv g gh R (gup2 I m 24 (iI z)) AI := sorry
theorem mP26 {z : Int} (hv : mInv g gh R I AI) (hm : gO g m 7) (h0 : 0 ≤ z) (h9 : z ≤ 1600) : mInv g gh R (gup2 I m 26 (iI z)) AI := sorry
theorem mP21 {z : Int} (hv : mInv g gh R I AI) (hm : gO g m 7) (hz : zr z) (hc : z = 1 → 0 ≤ (I m 23).toInt ∧ (I m 23).toInt ≤ 3) : mInv g gh R (gup2 I m 21 (iI z)) AI := sorry
theorem mP23 {z : Int} (hv : mInv g gh R I AI) (hm : gO g m 7) (hz : zr z) (hc : (I m 21).toInt = 1 → 0 ≤ z ∧ z ≤ 3) : mInv g gh R (gup2 I m 23 (iI z)) AI := sorry
theorem mP9 {v : Int32} (hv : mInv g gh R I AI) (hm : gO g m 7) : mInv g gh R (gup2 I m 9 v) AI := sorry
theorem mP10 {v : Int32} (hv : mInv g gh R I AI) (hm : gO g m 7) : mInv g gh R (gup2 I m 10 v) AI := sorry
theorem mP17 {v : Int32} (hv : mInv g gh R I AI) (hm : gO g m 7) : mInv g gh R (gup2 I m 17 v) AI := sorry
end MPut


end

section
/-! counting -/
def wCnt (f : Nat → Int32) : Nat → Int
  | 0 => 0
  | n + 1 => wCnt f n + (if tI f (6 * (n : Int) + 4) = 0 then 0 else 1)
theorem wCnt_z {f : Nat → Int32} {k : Int} (hk : 0 ≤ k) (h : tI f (6 * k + 4) = 0) : wCnt f (k + 1).toNat = wCnt f k.toNat := sorry
theorem wCnt_s {f : Nat → Int32} {k : Int} (hk : 0 ≤ k) (h : tI f (6 * k + 4) ≠ 0) : wCnt f (k + 1).toNat = wCnt f k.toNat + 1 := sorry
theorem wCnt_le {f : Nat → Int32} {a b : Nat} (h : a ≤ b) : wCnt f a ≤ wCnt f b := sorry
theorem wCnt_0 {f : Nat → Int32} {a : Nat} : 0 ≤ wCnt f a := sorry
theorem mCnt_z {x k : Int} (hk : 0 ≤ k) (h : mBit x k = 1) : mCnt x (k + 1).toNat = mCnt x k.toNat := sorry
theorem mCnt_s {x k : Int} (hk : 0 ≤ k) (h : mBit x k ≠ 1) : mCnt x (k + 1).toNat = mCnt x k.toNat + 1 := sorry
theorem mCnt_le {x : Int} {a b : Nat} (h : a ≤ b) : mCnt x a ≤ mCnt x b := sorry
theorem mCnt_0 {x : Int} {a : Nat} : 0 ≤ mCnt x a := sorry
theorem mViews {g : gG} {gh : gGh} {R : gR} {I AI : gI} {m : Nat} {T : Nat → Int32} (hv : mInv g gh R I AI) (hm : gO g m 7) (hT : AI (gh 50 0) = T) {n : Int} (h0 : 0 ≤ n) (h : n < (I m 2).toInt → tI T (40 * n) ≠ 0) : ∀ r : Int, n ≤ r → r < (I m 2).toInt → tI T (40 * r) ≠ 0 := sorry
theorem wCnt_u {f : Nat → Int32} {a : Nat} : wCnt f a ≤ a := sorry
theorem mInv_sizes1 {g : gG} {gh : gGh} {R : gR} {I AI AI' : gI} {m : Nat} {z v : Int} (hv : mInv g gh R I AI) (hm : gO g m 7) (e : AI' = gup2 AI (gh 57 0) z.toNat (iI v)) (h0 : 0 ≤ v) (h1 : v ≤ 120) : mInv g gh R I AI' := sorry
theorem mInv_ct1 {g : gG} {gh : gGh} {R : gR} {I AI AI' : gI} {m : Nat} {z v : Int} (hv : mInv g gh R I AI) (hm : gO g m 7) (h61 : gh 9 (gh 61 0) = 5) (e : AI' = gup2 AI (gh 61 0) z.toNat (iI v)) (h0 : 0 ≤ v) (h1 : v ≤ 15) : mInv g gh R I AI' := sorry
theorem z_lcmp_lt {x y : Int64} : (lg_cmp x y).toInt < 0 ↔ x.toInt < y.toInt := sorry
theorem z_ldiv256 {x : Int64} (h : 256 ≤ x.toInt) : (x / 256).toInt < x.toInt := sorry
theorem mSz1 {g : gG} {gh : gGh} {R : gR} {I AI : gI} {m : Nat} (hv : mInv g gh R I AI) (hm : gO g m 7) {z : Int} (h0 : 0 ≤ z) (h1 : z < 176) : 0 ≤ tI (AI (gh 57 0)) z ∧ tI (AI (gh 57 0)) z ≤ 120 := sorry

end

section
def rmX7_within : Room := { frames := 0, cells := 0, slots := 0, locals := 0 }
theorem hdX7_within : yX7_within.cls = RX7 ∧ yX7_within.cls ≠ "java/lang/invoke/MethodHandle" ∧ yX7_within.cls ≠ "java/lang/invoke/VarHandle" ∧ (parseMethodDescriptor yX7_within.desc).map (fun d => d.parameters.length) = some 3 := sorry
set_option maxHeartbeats 4000000 in
set_option maxRecDepth 100000 in
/-- within -/
theorem c_X7_within (l : Launch) (g : gG)  (I : gI) (R : gR) (J : gJ) (AI : gI) (AJ : gJ) (AR : gR) (va : Int) (lw : Int) (hg : Int) (zva : zr va) (zlw : zr lw) (zhg : zr hg) : gMet l g yX7_within tsX7_within rmX7_within [.int (iI va), .int (iI lw), .int (iI hg)] (I, R, J, AI, AJ, AR) (gQi g (fun (z : Int) (w : gS) => I = w.1 ∧ R = w.2.1 ∧ J = w.2.2.1 ∧ AI = w.2.2.2.1 ∧ AJ = w.2.2.2.2.1 ∧ AR = w.2.2.2.2.2 ∧ ((z = 0 ∨ z = 1) ∧ (z = 1 → lw ≤ va ∧ va ≤ hg) ∧ (z = 0 → va < lw ∨ hg < va)))) := sorry
theorem hdX7_isRelation : yX7_isRelation.cls = RX7 ∧ yX7_isRelation.cls ≠ "java/lang/invoke/MethodHandle" ∧ yX7_isRelation.cls ≠ "java/lang/invoke/VarHandle" ∧ (parseMethodDescriptor yX7_isRelation.desc).map (fun d => d.parameters.length) = some 1 := sorry
def rmX7_kindOf : Room := { frames := 0, cells := 0, slots := 0, locals := 0 }
theorem hdX7_kindOf : yX7_kindOf.cls = RX7 ∧ yX7_kindOf.cls ≠ "java/lang/invoke/MethodHandle" ∧ yX7_kindOf.cls ≠ "java/lang/invoke/VarHandle" ∧ (parseMethodDescriptor yX7_kindOf.desc).map (fun d => d.parameters.length) = some 1 := sorry
set_option maxHeartbeats 4000000 in
set_option maxRecDepth 100000 in
/-- kindOf -/
theorem c_X7_kindOf (l : Launch) (g : gG) (gh : gGh) (T : Nat → Int32) (I : gI) (R : gR) (J : gJ) (AI : gI) (AJ : gJ) (AR : gR) (mo : Nat) (rr : Int) (zrr : zr rr) (hv : mInv g gh R I AI) (hm : gO g mo 7) (hT : AI (gh 50 0) = T) (h0 : 0 ≤ rr ∧ rr ≤ 15) : gMet l g yX7_kindOf tsX7_kindOf rmX7_kindOf [.ref mo, .int (iI rr)] (I, R, J, AI, AJ, AR) (gQi g (fun (z : Int) (w : gS) => I = w.1 ∧ R = w.2.1 ∧ J = w.2.2.1 ∧ AI = w.2.2.2.1 ∧ AJ = w.2.2.2.2.1 ∧ AR = w.2.2.2.2.2 ∧ (z = tI T (40 * rr)))) := sorry
def rmX7_columnsOf : Room := { frames := 0, cells := 0, slots := 0, locals := 0 }
theorem hdX7_columnsOf : yX7_columnsOf.cls = RX7 ∧ yX7_columnsOf.cls ≠ "java/lang/invoke/MethodHandle" ∧ yX7_columnsOf.cls ≠ "java/lang/invoke/VarHandle" ∧ (parseMethodDescriptor yX7_columnsOf.desc).map (fun d => d.parameters.length) = some 1 := sorry
set_option maxHeartbeats 4000000 in
set_option maxRecDepth 100000 in
/-- columnsOf -/
theorem c_X7_columnsOf (l : Launch) (g : gG) (gh : gGh) (T : Nat → Int32) (I : gI) (R : gR) (J : gJ) (AI : gI) (AJ : gJ) (AR : gR) (mo : Nat) (rr : Int) (zrr : zr rr) (hv : mInv g gh R I AI) (hm : gO g mo 7) (hT : AI (gh 50 0) = T) (h0 : 0 ≤ rr ∧ rr ≤ 15) : gMet l g yX7_columnsOf tsX7_columnsOf rmX7_columnsOf [.ref mo, .int (iI rr)] (I, R, J, AI, AJ, AR) (gQi g (fun (z : Int) (w : gS) => I = w.1 ∧ R = w.2.1 ∧ J = w.2.2.1 ∧ AI = w.2.2.2.1 ∧ AJ = w.2.2.2.2.1 ∧ AR = w.2.2.2.2.2 ∧ (z = tI T (40 * rr + 1)))) := sorry
def rmX7_firstOf : Room := { frames := 0, cells := 0, slots := 0, locals := 0 }
theorem hdX7_firstOf : yX7_firstOf.cls = RX7 ∧ yX7_firstOf.cls ≠ "java/lang/invoke/MethodHandle" ∧ yX7_firstOf.cls ≠ "java/lang/invoke/VarHandle" ∧ (parseMethodDescriptor yX7_firstOf.desc).map (fun d => d.parameters.length) = some 1 := sorry
set_option maxHeartbeats 4000000 in
set_option maxRecDepth 100000 in
/-- firstOf -/
theorem c_X7_firstOf (l : Launch) (g : gG) (gh : gGh) (T : Nat → Int32) (I : gI) (R : gR) (J : gJ) (AI : gI) (AJ : gJ) (AR : gR) (mo : Nat) (rr : Int) (zrr : zr rr) (hv : mInv g gh R I AI) (hm : gO g mo 7) (hT : AI (gh 50 0) = T) (h0 : 0 ≤ rr ∧ rr ≤ 15) : gMet l g yX7_firstOf tsX7_firstOf rmX7_firstOf [.ref mo, .int (iI rr)] (I, R, J, AI, AJ, AR) (gQi g (fun (z : Int) (w : gS) => I = w.1 ∧ R = w.2.1 ∧ J = w.2.2.1 ∧ AI = w.2.2.2.1 ∧ AJ = w.2.2.2.2.1 ∧ AR = w.2.2.2.2.2 ∧ (z = tI T (40 * rr + 2)))) := sorry
def rmX7_secondOf : Room := { frames := 0, cells := 0, slots := 0, locals := 0 }
theorem hdX7_secondOf : yX7_secondOf.cls = RX7 ∧ yX7_secondOf.cls ≠ "java/lang/invoke/MethodHandle" ∧ yX7_secondOf.cls ≠ "java/lang/invoke/VarHandle" ∧ (parseMethodDescriptor yX7_secondOf.desc).map (fun d => d.parameters.length) = some 1 := sorry
set_option maxHeartbeats 4000000 in
set_option maxRecDepth 100000 in
/-- secondOf -/
theorem c_X7_secondOf (l : Launch) (g : gG) (gh : gGh) (T : Nat → Int32) (I : gI) (R : gR) (J : gJ) (AI : gI) (AJ : gJ) (AR : gR) (mo : Nat) (rr : Int) (zrr : zr rr) (hv : mInv g gh R I AI) (hm : gO g mo 7) (hT : AI (gh 50 0) = T) (h0 : 0 ≤ rr ∧ rr ≤ 15) : gMet l g yX7_secondOf tsX7_secondOf rmX7_secondOf [.ref mo, .int (iI rr)] (I, R, J, AI, AJ, AR) (gQi g (fun (z : Int) (w : gS) => I = w.1 ∧ R = w.2.1 ∧ J = w.2.2.1 ∧ AI = w.2.2.2.1 ∧ AJ = w.2.2.2.2.1 ∧ AR = w.2.2.2.2.2 ∧ (z = tI T (40 * rr + 3)))) := sorry
def rmX7_partsOf : Room := { frames := 0, cells := 0, slots := 0, locals := 0 }
theorem hdX7_partsOf : yX7_partsOf.cls = RX7 ∧ yX7_partsOf.cls ≠ "java/lang/invoke/MethodHandle" ∧ yX7_partsOf.cls ≠ "java/lang/invoke/VarHandle" ∧ (parseMethodDescriptor yX7_partsOf.desc).map (fun d => d.parameters.length) = some 1 := sorry
set_option maxHeartbeats 4000000 in
set_option maxRecDepth 100000 in
/-- partsOf -/
theorem c_X7_partsOf (l : Launch) (g : gG) (gh : gGh) (T : Nat → Int32) (I : gI) (R : gR) (J : gJ) (AI : gI) (AJ : gJ) (AR : gR) (mo : Nat) (rr : Int) (zrr : zr rr) (hv : mInv g gh R I AI) (hm : gO g mo 7) (hT : AI (gh 50 0) = T) (h0 : 0 ≤ rr ∧ rr ≤ 15) : gMet l g yX7_partsOf tsX7_partsOf rmX7_partsOf [.ref mo, .int (iI rr)] (I, R, J, AI, AJ, AR) (gQi g (fun (z : Int) (w : gS) => I = w.1 ∧ R = w.2.1 ∧ J = w.2.2.1 ∧ AI = w.2.2.2.1 ∧ AJ = w.2.2.2.2.1 ∧ AR = w.2.2.2.2.2 ∧ (z = tI T (40 * rr + 4)))) := sorry
def rmX7_part : Room := { frames := 0, cells := 0, slots := 0, locals := 0 }
theorem hdX7_part : yX7_part.cls = RX7 ∧ yX7_part.cls ≠ "java/lang/invoke/MethodHandle" ∧ yX7_part.cls ≠ "java/lang/invoke/VarHandle" ∧ (parseMethodDescriptor yX7_part.desc).map (fun d => d.parameters.length) = some 3 := sorry
set_option maxHeartbeats 4000000 in
set_option maxRecDepth 100000 in
/-- part -/
theorem c_X7_part (l : Launch) (g : gG) (gh : gGh) (T : Nat → Int32) (I : gI) (R : gR) (J : gJ) (AI : gI) (AJ : gJ) (AR : gR) (mo : Nat) (rr : Int) (kp : Int) (wh : Int) (zrr : zr rr) (zkp : zr kp) (zwh : zr wh) (hv : mInv g gh R I AI) (hm : gO g mo 7) (hT : AI (gh 50 0) = T) (h0 : 0 ≤ rr ∧ rr ≤ 15) (h1 : 0 ≤ kp ∧ kp ≤ 7) (h2 : 0 ≤ wh ∧ wh ≤ 3) : gMet l g yX7_part tsX7_part rmX7_part [.ref mo, .int (iI rr), .int (iI kp), .int (iI wh)] (I, R, J, AI, AJ, AR) (gQi g (fun (z : Int) (w : gS) => I = w.1 ∧ R = w.2.1 ∧ J = w.2.2.1 ∧ AI = w.2.2.2.1 ∧ AJ = w.2.2.2.2.1 ∧ AR = w.2.2.2.2.2 ∧ (z = mP T rr kp wh))) := sorry
def rmX7_spot : Room := { frames := 0, cells := 0, slots := 0, locals := 0 }
theorem hdX7_spot : yX7_spot.cls = RX7 ∧ yX7_spot.cls ≠ "java/lang/invoke/MethodHandle" ∧ yX7_spot.cls ≠ "java/lang/invoke/VarHandle" ∧ (parseMethodDescriptor yX7_spot.desc).map (fun d => d.parameters.length) = some 3 := sorry
set_option maxHeartbeats 4000000 in
set_option maxRecDepth 100000 in
/-- a spot -/
theorem c_X7_spot (l : Launch) (g : gG)  (I : gI) (R : gR) (J : gJ) (AI : gI) (AJ : gJ) (AR : gR) (sd : Int) (rr : Int) (ip : Int) (zsd : zr sd) (zrr : zr rr) (zip : zr ip) (h0 : 0 ≤ sd ∧ sd ≤ 10) (h1 : 0 ≤ rr ∧ rr ≤ 15) (h2 : 0 ≤ ip ∧ ip ≤ 120) : gMet l g yX7_spot tsX7_spot rmX7_spot [.int (iI sd), .int (iI rr), .int (iI ip)] (I, R, J, AI, AJ, AR) (gQi g (fun (z : Int) (w : gS) => I = w.1 ∧ R = w.2.1 ∧ J = w.2.2.1 ∧ AI = w.2.2.2.1 ∧ AJ = w.2.2.2.2.1 ∧ AR = w.2.2.2.2.2 ∧ (z = 11520 * sd + 720 * rr + 6 * ip))) := sorry
def rmX7_sizeOf : Room := { frames := 0, cells := 0, slots := 0, locals := 0 }
theorem hdX7_sizeOf : yX7_sizeOf.cls = RX7 ∧ yX7_sizeOf.cls ≠ "java/lang/invoke/MethodHandle" ∧ yX7_sizeOf.cls ≠ "java/lang/invoke/VarHandle" ∧ (parseMethodDescriptor yX7_sizeOf.desc).map (fun d => d.parameters.length) = some 2 := sorry
set_option maxHeartbeats 4000000 in
set_option maxRecDepth 100000 in
/-- the size -/
theorem c_X7_sizeOf (l : Launch) (g : gG) (gh : gGh) (T : Nat → Int32) (I : gI) (R : gR) (J : gJ) (AI : gI) (AJ : gJ) (AR : gR) (mo : Nat) (sd : Int) (rr : Int) (zsd : zr sd) (zrr : zr rr) (hv : mInv g gh R I AI) (hm : gO g mo 7) (hT : AI (gh 50 0) = T) (h0 : 0 ≤ sd ∧ sd ≤ 10) (h1 : 0 ≤ rr ∧ rr ≤ 15) : gMet l g yX7_sizeOf tsX7_sizeOf rmX7_sizeOf [.ref mo, .int (iI sd), .int (iI rr)] (I, R, J, AI, AJ, AR) (gQi g (fun (z : Int) (w : gS) => I = w.1 ∧ R = w.2.1 ∧ J = w.2.2.1 ∧ AI = w.2.2.2.1 ∧ AJ = w.2.2.2.2.1 ∧ AR = w.2.2.2.2.2 ∧ (0 ≤ z ∧ z ≤ 120) ∧ (z = tI (AI (gh 57 0)) (16 * sd + rr)))) := sorry
theorem hdX7_eight : yX7_eight.cls = RX7 ∧ yX7_eight.cls ≠ "java/lang/invoke/MethodHandle" ∧ yX7_eight.cls ≠ "java/lang/invoke/VarHandle" ∧ (parseMethodDescriptor yX7_eight.desc).map (fun d => d.parameters.length) = some 1 := sorry
theorem hdX7_feed : yX7_feed.cls = RX7 ∧ yX7_feed.cls ≠ "java/lang/invoke/MethodHandle" ∧ yX7_feed.cls ≠ "java/lang/invoke/VarHandle" ∧ (parseMethodDescriptor yX7_feed.desc).map (fun d => d.parameters.length) = some 3 := sorry
theorem hdX7_end : yX7_end.cls = RX7 ∧ yX7_end.cls ≠ "java/lang/invoke/MethodHandle" ∧ yX7_end.cls ≠ "java/lang/invoke/VarHandle" ∧ (parseMethodDescriptor yX7_end.desc).map (fun d => d.parameters.length) = some 1 := sorry
theorem hdX7_byteAt : yX7_byteAt.cls = RX7 ∧ yX7_byteAt.cls ≠ "java/lang/invoke/MethodHandle" ∧ yX7_byteAt.cls ≠ "java/lang/invoke/VarHandle" ∧ (parseMethodDescriptor yX7_byteAt.desc).map (fun d => d.parameters.length) = some 1 := sorry
theorem hdX7_isSmall : yX7_isSmall.cls = RX7 ∧ yX7_isSmall.cls ≠ "java/lang/invoke/MethodHandle" ∧ yX7_isSmall.cls ≠ "java/lang/invoke/VarHandle" ∧ (parseMethodDescriptor yX7_isSmall.desc).map (fun d => d.parameters.length) = some 1 := sorry
theorem hdX7_isDigit : yX7_isDigit.cls = RX7 ∧ yX7_isDigit.cls ≠ "java/lang/invoke/MethodHandle" ∧ yX7_isDigit.cls ≠ "java/lang/invoke/VarHandle" ∧ (parseMethodDescriptor yX7_isDigit.desc).map (fun d => d.parameters.length) = some 1 := sorry
theorem hdX7_compare : yX7_compare.cls = RX7 ∧ yX7_compare.cls ≠ "java/lang/invoke/MethodHandle" ∧ yX7_compare.cls ≠ "java/lang/invoke/VarHandle" ∧ (parseMethodDescriptor yX7_compare.desc).map (fun d => d.parameters.length) = some 4 := sorry

end

section
theorem hdX7_placeOf : yX7_placeOf.cls = RX7 ∧ yX7_placeOf.cls ≠ "java/lang/invoke/MethodHandle" ∧ yX7_placeOf.cls ≠ "java/lang/invoke/VarHandle" ∧ (parseMethodDescriptor yX7_placeOf.desc).map (fun d => d.parameters.length) = some 0 := sorry
theorem hdX7_gathers : yX7_gathers.cls = RX7 ∧ yX7_gathers.cls ≠ "java/lang/invoke/MethodHandle" ∧ yX7_gathers.cls ≠ "java/lang/invoke/VarHandle" ∧ (parseMethodDescriptor yX7_gathers.desc).map (fun d => d.parameters.length) = some 2 := sorry
theorem hdX7_lays : yX7_lays.cls = RX7 ∧ yX7_lays.cls ≠ "java/lang/invoke/MethodHandle" ∧ yX7_lays.cls ≠ "java/lang/invoke/VarHandle" ∧ (parseMethodDescriptor yX7_lays.desc).map (fun d => d.parameters.length) = some 2 := sorry
theorem hdX7_takes : yX7_takes.cls = RX7 ∧ yX7_takes.cls ≠ "java/lang/invoke/MethodHandle" ∧ yX7_takes.cls ≠ "java/lang/invoke/VarHandle" ∧ (parseMethodDescriptor yX7_takes.desc).map (fun d => d.parameters.length) = some 1 := sorry
theorem hdX7_holds : yX7_holds.cls = RX7 ∧ yX7_holds.cls ≠ "java/lang/invoke/MethodHandle" ∧ yX7_holds.cls ≠ "java/lang/invoke/VarHandle" ∧ (parseMethodDescriptor yX7_holds.desc).map (fun d => d.parameters.length) = some 2 := sorry
theorem hdX7_terms : yX7_terms.cls = RX7 ∧ yX7_terms.cls ≠ "java/lang/invoke/MethodHandle" ∧ yX7_terms.cls ≠ "java/lang/invoke/VarHandle" ∧ (parseMethodDescriptor yX7_terms.desc).map (fun d => d.parameters.length) = some 3 := sorry
theorem hdX7_areOneGroup : yX7_areOneGroup.cls = RX7 ∧ yX7_areOneGroup.cls ≠ "java/lang/invoke/MethodHandle" ∧ yX7_areOneGroup.cls ≠ "java/lang/invoke/VarHandle" ∧ (parseMethodDescriptor yX7_areOneGroup.desc).map (fun d => d.parameters.length) = some 3 := sorry
theorem hdX7_isFirstOfGroup : yX7_isFirstOfGroup.cls = RX7 ∧ yX7_isFirstOfGroup.cls ≠ "java/lang/invoke/MethodHandle" ∧ yX7_isFirstOfGroup.cls ≠ "java/lang/invoke/VarHandle" ∧ (parseMethodDescriptor yX7_isFirstOfGroup.desc).map (fun d => d.parameters.length) = some 3 := sorry
theorem hdX7_copies : yX7_copies.cls = RX7 ∧ yX7_copies.cls ≠ "java/lang/invoke/MethodHandle" ∧ yX7_copies.cls ≠ "java/lang/invoke/VarHandle" ∧ (parseMethodDescriptor yX7_copies.desc).map (fun d => d.parameters.length) = some 2 := sorry
theorem hdX7_tables : yX7_tables.cls = RX7 ∧ yX7_tables.cls ≠ "java/lang/invoke/MethodHandle" ∧ yX7_tables.cls ≠ "java/lang/invoke/VarHandle" ∧ (parseMethodDescriptor yX7_tables.desc).map (fun d => d.parameters.length) = some 0 := sorry
theorem hdX7_changesOf : yX7_changesOf.cls = RX7 ∧ yX7_changesOf.cls ≠ "java/lang/invoke/MethodHandle" ∧ yX7_changesOf.cls ≠ "java/lang/invoke/VarHandle" ∧ (parseMethodDescriptor yX7_changesOf.desc).map (fun d => d.parameters.length) = some 2 := sorry

end

section
theorem hdX7_joins : yX7_joins.cls = RX7 ∧ yX7_joins.cls ≠ "java/lang/invoke/MethodHandle" ∧ yX7_joins.cls ≠ "java/lang/invoke/VarHandle" ∧ (parseMethodDescriptor yX7_joins.desc).map (fun d => d.parameters.length) = some 2 := sorry

end

section
theorem hdX7_groups : yX7_groups.cls = RX7 ∧ yX7_groups.cls ≠ "java/lang/invoke/MethodHandle" ∧ yX7_groups.cls ≠ "java/lang/invoke/VarHandle" ∧ (parseMethodDescriptor yX7_groups.desc).map (fun d => d.parameters.length) = some 2 := sorry

end

section
theorem hdX7_ringsOnce : yX7_ringsOnce.cls = RX7 ∧ yX7_ringsOnce.cls ≠ "java/lang/invoke/MethodHandle" ∧ yX7_ringsOnce.cls ≠ "java/lang/invoke/VarHandle" ∧ (parseMethodDescriptor yX7_ringsOnce.desc).map (fun d => d.parameters.length) = some 5 := sorry
theorem hdX7_rings : yX7_rings.cls = RX7 ∧ yX7_rings.cls ≠ "java/lang/invoke/MethodHandle" ∧ yX7_rings.cls ≠ "java/lang/invoke/VarHandle" ∧ (parseMethodDescriptor yX7_rings.desc).map (fun d => d.parameters.length) = some 2 := sorry

end

section
theorem hdX7_reckons : yX7_reckons.cls = RX7 ∧ yX7_reckons.cls ≠ "java/lang/invoke/MethodHandle" ∧ yX7_reckons.cls ≠ "java/lang/invoke/VarHandle" ∧ (parseMethodDescriptor yX7_reckons.desc).map (fun d => d.parameters.length) = some 2 := sorry
theorem hdX7_drafts : yX7_drafts.cls = RX7 ∧ yX7_drafts.cls ≠ "java/lang/invoke/MethodHandle" ∧ yX7_drafts.cls ≠ "java/lang/invoke/VarHandle" ∧ (parseMethodDescriptor yX7_drafts.desc).map (fun d => d.parameters.length) = some 0 := sorry

end

section
theorem hdX7_moves : yX7_moves.cls = RX7 ∧ yX7_moves.cls ≠ "java/lang/invoke/MethodHandle" ∧ yX7_moves.cls ≠ "java/lang/invoke/VarHandle" ∧ (parseMethodDescriptor yX7_moves.desc).map (fun d => d.parameters.length) = some 2 := sorry
theorem hdX7_change : yX7_change.cls = RX7 ∧ yX7_change.cls ≠ "java/lang/invoke/MethodHandle" ∧ yX7_change.cls ≠ "java/lang/invoke/VarHandle" ∧ (parseMethodDescriptor yX7_change.desc).map (fun d => d.parameters.length) = some 6 := sorry
theorem hdX7_pending : yX7_pending.cls = RX7 ∧ yX7_pending.cls ≠ "java/lang/invoke/MethodHandle" ∧ yX7_pending.cls ≠ "java/lang/invoke/VarHandle" ∧ (parseMethodDescriptor yX7_pending.desc).map (fun d => d.parameters.length) = some 2 := sorry
theorem hdX7_cancel : yX7_cancel.cls = RX7 ∧ yX7_cancel.cls ≠ "java/lang/invoke/MethodHandle" ∧ yX7_cancel.cls ≠ "java/lang/invoke/VarHandle" ∧ (parseMethodDescriptor yX7_cancel.desc).map (fun d => d.parameters.length) = some 0 := sorry
theorem hdX7_laysMoved : yX7_laysMoved.cls = RX7 ∧ yX7_laysMoved.cls ≠ "java/lang/invoke/MethodHandle" ∧ yX7_laysMoved.cls ≠ "java/lang/invoke/VarHandle" ∧ (parseMethodDescriptor yX7_laysMoved.desc).map (fun d => d.parameters.length) = some 1 := sorry
theorem hdX7_movedInViews : yX7_movedInViews.cls = RX7 ∧ yX7_movedInViews.cls ≠ "java/lang/invoke/MethodHandle" ∧ yX7_movedInViews.cls ≠ "java/lang/invoke/VarHandle" ∧ (parseMethodDescriptor yX7_movedInViews.desc).map (fun d => d.parameters.length) = some 0 := sorry
theorem hdX7_cameTo : yX7_cameTo.cls = RX7 ∧ yX7_cameTo.cls ≠ "java/lang/invoke/MethodHandle" ∧ yX7_cameTo.cls ≠ "java/lang/invoke/VarHandle" ∧ (parseMethodDescriptor yX7_cameTo.desc).map (fun d => d.parameters.length) = some 1 := sorry
theorem hdX7_commit : yX7_commit.cls = RX7 ∧ yX7_commit.cls ≠ "java/lang/invoke/MethodHandle" ∧ yX7_commit.cls ≠ "java/lang/invoke/VarHandle" ∧ (parseMethodDescriptor yX7_commit.desc).map (fun d => d.parameters.length) = some 0 := sorry
theorem hdX7_would : yX7_would.cls = RX7 ∧ yX7_would.cls ≠ "java/lang/invoke/MethodHandle" ∧ yX7_would.cls ≠ "java/lang/invoke/VarHandle" ∧ (parseMethodDescriptor yX7_would.desc).map (fun d => d.parameters.length) = some 1 := sorry
theorem hdX7_undo : yX7_undo.cls = RX7 ∧ yX7_undo.cls ≠ "java/lang/invoke/MethodHandle" ∧ yX7_undo.cls ≠ "java/lang/invoke/VarHandle" ∧ (parseMethodDescriptor yX7_undo.desc).map (fun d => d.parameters.length) = some 0 := sorry
theorem hdX7_size : yX7_size.cls = RX7 ∧ yX7_size.cls ≠ "java/lang/invoke/MethodHandle" ∧ yX7_size.cls ≠ "java/lang/invoke/VarHandle" ∧ (parseMethodDescriptor yX7_size.desc).map (fun d => d.parameters.length) = some 1 := sorry
theorem hdX7_isTold : yX7_isTold.cls = RX7 ∧ yX7_isTold.cls ≠ "java/lang/invoke/MethodHandle" ∧ yX7_isTold.cls ≠ "java/lang/invoke/VarHandle" ∧ (parseMethodDescriptor yX7_isTold.desc).map (fun d => d.parameters.length) = some 2 := sorry
theorem hdX7_at : yX7_at.cls = RX7 ∧ yX7_at.cls ≠ "java/lang/invoke/MethodHandle" ∧ yX7_at.cls ≠ "java/lang/invoke/VarHandle" ∧ (parseMethodDescriptor yX7_at.desc).map (fun d => d.parameters.length) = some 3 := sorry
theorem hdX7_find : yX7_find.cls = RX7 ∧ yX7_find.cls ≠ "java/lang/invoke/MethodHandle" ∧ yX7_find.cls ≠ "java/lang/invoke/VarHandle" ∧ (parseMethodDescriptor yX7_find.desc).map (fun d => d.parameters.length) = some 6 := sorry
theorem hdX7_count : yX7_count.cls = RX7 ∧ yX7_count.cls ≠ "java/lang/invoke/MethodHandle" ∧ yX7_count.cls ≠ "java/lang/invoke/VarHandle" ∧ (parseMethodDescriptor yX7_count.desc).map (fun d => d.parameters.length) = some 5 := sorry
theorem hdX7_total : yX7_total.cls = RX7 ∧ yX7_total.cls ≠ "java/lang/invoke/MethodHandle" ∧ yX7_total.cls ≠ "java/lang/invoke/VarHandle" ∧ (parseMethodDescriptor yX7_total.desc).map (fun d => d.parameters.length) = some 1 := sorry
theorem hdX7_moved : yX7_moved.cls = RX7 ∧ yX7_moved.cls ≠ "java/lang/invoke/MethodHandle" ∧ yX7_moved.cls ≠ "java/lang/invoke/VarHandle" ∧ (parseMethodDescriptor yX7_moved.desc).map (fun d => d.parameters.length) = some 1 := sorry
theorem hdX7_movedAt : yX7_movedAt.cls = RX7 ∧ yX7_movedAt.cls ≠ "java/lang/invoke/MethodHandle" ∧ yX7_movedAt.cls ≠ "java/lang/invoke/VarHandle" ∧ (parseMethodDescriptor yX7_movedAt.desc).map (fun d => d.parameters.length) = some 3 := sorry
theorem hdX7_came : yX7_came.cls = RX7 ∧ yX7_came.cls ≠ "java/lang/invoke/MethodHandle" ∧ yX7_came.cls ≠ "java/lang/invoke/VarHandle" ∧ (parseMethodDescriptor yX7_came.desc).map (fun d => d.parameters.length) = some 1 := sorry
theorem hdX7_round : yX7_round.cls = RX7 ∧ yX7_round.cls ≠ "java/lang/invoke/MethodHandle" ∧ yX7_round.cls ≠ "java/lang/invoke/VarHandle" ∧ (parseMethodDescriptor yX7_round.desc).map (fun d => d.parameters.length) = some 5 := sorry
theorem hdX7_rounds : yX7_rounds.cls = RX7 ∧ yX7_rounds.cls ≠ "java/lang/invoke/MethodHandle" ∧ yX7_rounds.cls ≠ "java/lang/invoke/VarHandle" ∧ (parseMethodDescriptor yX7_rounds.desc).map (fun d => d.parameters.length) = some 1 := sorry

end

section
def rmX7_hangsOn : Room := { frames := 1, cells := 0, slots := 0, locals := 21 }
theorem hdX7_hangsOn : yX7_hangsOn.cls = RX7 ∧ yX7_hangsOn.cls ≠ "java/lang/invoke/MethodHandle" ∧ yX7_hangsOn.cls ≠ "java/lang/invoke/VarHandle" ∧ (parseMethodDescriptor yX7_hangsOn.desc).map (fun d => d.parameters.length) = some 1 := sorry
set_option maxHeartbeats 4000000 in
set_option maxRecDepth 100000 in
/-- hangsOn -/
theorem c_X7_hangsOn (l : Launch) (g : gG) (gh : gGh) (T : Nat → Int32) (I : gI) (R : gR) (J : gJ) (AI : gI) (AJ : gJ) (AR : gR) (mo : Nat) (rr : Int) (zrr : zr rr) (hv : mInv g gh R I AI) (hm : gO g mo 7) (hT : AI (gh 50 0) = T) (hr0 : 0 ≤ rr ∧ rr < (I mo 2).toInt ∧ rr < 1) : gMet l g yX7_hangsOn tsX7_hangsOn rmX7_hangsOn [.ref mo, .int (iI rr)] (I, R, J, AI, AJ, AR) (gQi g (fun (z : Int) (w : gS) => I = w.1 ∧ R = w.2.1 ∧ J = w.2.2.1 ∧ AI = w.2.2.2.1 ∧ AJ = w.2.2.2.2.1 ∧ AR = w.2.2.2.2.2)) := sorry
def rmX7_hangsOn2 : Room := { frames := 2, cells := 0, slots := 0, locals := 43 }
set_option maxHeartbeats 4000000 in
set_option maxRecDepth 100000 in
/-- hangsOn -/
theorem c_X7_hangsOn2 (l : Launch) (g : gG) (gh : gGh) (T : Nat → Int32) (I : gI) (R : gR) (J : gJ) (AI : gI) (AJ : gJ) (AR : gR) (mo : Nat) (rr : Int) (zrr : zr rr) (hv : mInv g gh R I AI) (hm : gO g mo 7) (hT : AI (gh 50 0) = T) (hr0 : 0 ≤ rr ∧ rr < (I mo 2).toInt ∧ rr < 2) : gMet l g yX7_hangsOn tsX7_hangsOn rmX7_hangsOn2 [.ref mo, .int (iI rr)] (I, R, J, AI, AJ, AR) (gQi g (fun (z : Int) (w : gS) => I = w.1 ∧ R = w.2.1 ∧ J = w.2.2.1 ∧ AI = w.2.2.2.1 ∧ AJ = w.2.2.2.2.1 ∧ AR = w.2.2.2.2.2)) := sorry
def rmX7_hangsOn3 : Room := { frames := 3, cells := 0, slots := 0, locals := 65 }
set_option maxHeartbeats 4000000 in
set_option maxRecDepth 100000 in
/-- hangsOn -/
theorem c_X7_hangsOn3 (l : Launch) (g : gG) (gh : gGh) (T : Nat → Int32) (I : gI) (R : gR) (J : gJ) (AI : gI) (AJ : gJ) (AR : gR) (mo : Nat) (rr : Int) (zrr : zr rr) (hv : mInv g gh R I AI) (hm : gO g mo 7) (hT : AI (gh 50 0) = T) (hr0 : 0 ≤ rr ∧ rr < (I mo 2).toInt ∧ rr < 3) : gMet l g yX7_hangsOn tsX7_hangsOn rmX7_hangsOn3 [.ref mo, .int (iI rr)] (I, R, J, AI, AJ, AR) (gQi g (fun (z : Int) (w : gS) => I = w.1 ∧ R = w.2.1 ∧ J = w.2.2.1 ∧ AI = w.2.2.2.1 ∧ AJ = w.2.2.2.2.1 ∧ AR = w.2.2.2.2.2)) := sorry
def rmX7_hangsOn4 : Room := { frames := 4, cells := 0, slots := 0, locals := 87 }
set_option maxHeartbeats 4000000 in
set_option maxRecDepth 100000 in
/-- hangsOn -/
theorem c_X7_hangsOn4 (l : Launch) (g : gG) (gh : gGh) (T : Nat → Int32) (I : gI) (R : gR) (J : gJ) (AI : gI) (AJ : gJ) (AR : gR) (mo : Nat) (rr : Int) (zrr : zr rr) (hv : mInv g gh R I AI) (hm : gO g mo 7) (hT : AI (gh 50 0) = T) (hr0 : 0 ≤ rr ∧ rr < (I mo 2).toInt ∧ rr < 4) : gMet l g yX7_hangsOn tsX7_hangsOn rmX7_hangsOn4 [.ref mo, .int (iI rr)] (I, R, J, AI, AJ, AR) (gQi g (fun (z : Int) (w : gS) => I = w.1 ∧ R = w.2.1 ∧ J = w.2.2.1 ∧ AI = w.2.2.2.1 ∧ AJ = w.2.2.2.2.1 ∧ AR = w.2.2.2.2.2)) := sorry
def rmX7_hangsOn5 : Room := { frames := 5, cells := 0, slots := 0, locals := 109 }
set_option maxHeartbeats 4000000 in
set_option maxRecDepth 100000 in
/-- hangsOn -/
theorem c_X7_hangsOn5 (l : Launch) (g : gG) (gh : gGh) (T : Nat → Int32) (I : gI) (R : gR) (J : gJ) (AI : gI) (AJ : gJ) (AR : gR) (mo : Nat) (rr : Int) (zrr : zr rr) (hv : mInv g gh R I AI) (hm : gO g mo 7) (hT : AI (gh 50 0) = T) (hr0 : 0 ≤ rr ∧ rr < (I mo 2).toInt ∧ rr < 5) : gMet l g yX7_hangsOn tsX7_hangsOn rmX7_hangsOn5 [.ref mo, .int (iI rr)] (I, R, J, AI, AJ, AR) (gQi g (fun (z : Int) (w : gS) => I = w.1 ∧ R = w.2.1 ∧ J = w.2.2.1 ∧ AI = w.2.2.2.1 ∧ AJ = w.2.2.2.2.1 ∧ AR = w.2.2.2.2.2)) := sorry
def rmX7_hangsOn6 : Room := { frames := 6, cells := 0, slots := 0, locals := 131 }
set_option maxHeartbeats 4000000 in
set_option maxRecDepth 100000 in
/-- hangsOn -/
theorem c_X7_hangsOn6 (l : Launch) (g : gG) (gh : gGh) (T : Nat → Int32) (I : gI) (R : gR) (J : gJ) (AI : gI) (AJ : gJ) (AR : gR) (mo : Nat) (rr : Int) (zrr : zr rr) (hv : mInv g gh R I AI) (hm : gO g mo 7) (hT : AI (gh 50 0) = T) (hr0 : 0 ≤ rr ∧ rr < (I mo 2).toInt ∧ rr < 6) : gMet l g yX7_hangsOn tsX7_hangsOn rmX7_hangsOn6 [.ref mo, .int (iI rr)] (I, R, J, AI, AJ, AR) (gQi g (fun (z : Int) (w : gS) => I = w.1 ∧ R = w.2.1 ∧ J = w.2.2.1 ∧ AI = w.2.2.2.1 ∧ AJ = w.2.2.2.2.1 ∧ AR = w.2.2.2.2.2)) := sorry
def rmX7_hangsOn7 : Room := { frames := 7, cells := 0, slots := 0, locals := 153 }
set_option maxHeartbeats 4000000 in
set_option maxRecDepth 100000 in
/-- hangsOn -/
theorem c_X7_hangsOn7 (l : Launch) (g : gG) (gh : gGh) (T : Nat → Int32) (I : gI) (R : gR) (J : gJ) (AI : gI) (AJ : gJ) (AR : gR) (mo : Nat) (rr : Int) (zrr : zr rr) (hv : mInv g gh R I AI) (hm : gO g mo 7) (hT : AI (gh 50 0) = T) (hr0 : 0 ≤ rr ∧ rr < (I mo 2).toInt ∧ rr < 7) : gMet l g yX7_hangsOn tsX7_hangsOn rmX7_hangsOn7 [.ref mo, .int (iI rr)] (I, R, J, AI, AJ, AR) (gQi g (fun (z : Int) (w : gS) => I = w.1 ∧ R = w.2.1 ∧ J = w.2.2.1 ∧ AI = w.2.2.2.1 ∧ AJ = w.2.2.2.2.1 ∧ AR = w.2.2.2.2.2)) := sorry
def rmX7_hangsOn8 : Room := { frames := 8, cells := 0, slots := 0, locals := 175 }
set_option maxHeartbeats 4000000 in
set_option maxRecDepth 100000 in
/-- hangsOn -/
theorem c_X7_hangsOn8 (l : Launch) (g : gG) (gh : gGh) (T : Nat → Int32) (I : gI) (R : gR) (J : gJ) (AI : gI) (AJ : gJ) (AR : gR) (mo : Nat) (rr : Int) (zrr : zr rr) (hv : mInv g gh R I AI) (hm : gO g mo 7) (hT : AI (gh 50 0) = T) (hr0 : 0 ≤ rr ∧ rr < (I mo 2).toInt ∧ rr < 8) : gMet l g yX7_hangsOn tsX7_hangsOn rmX7_hangsOn8 [.ref mo, .int (iI rr)] (I, R, J, AI, AJ, AR) (gQi g (fun (z : Int) (w : gS) => I = w.1 ∧ R = w.2.1 ∧ J = w.2.2.1 ∧ AI = w.2.2.2.1 ∧ AJ = w.2.2.2.2.1 ∧ AR = w.2.2.2.2.2)) := sorry
def rmX7_hangsOn9 : Room := { frames := 9, cells := 0, slots := 0, locals := 197 }
set_option maxHeartbeats 4000000 in
set_option maxRecDepth 100000 in
/-- hangsOn -/
theorem c_X7_hangsOn9 (l : Launch) (g : gG) (gh : gGh) (T : Nat → Int32) (I : gI) (R : gR) (J : gJ) (AI : gI) (AJ : gJ) (AR : gR) (mo : Nat) (rr : Int) (zrr : zr rr) (hv : mInv g gh R I AI) (hm : gO g mo 7) (hT : AI (gh 50 0) = T) (hr0 : 0 ≤ rr ∧ rr < (I mo 2).toInt ∧ rr < 9) : gMet l g yX7_hangsOn tsX7_hangsOn rmX7_hangsOn9 [.ref mo, .int (iI rr)] (I, R, J, AI, AJ, AR) (gQi g (fun (z : Int) (w : gS) => I = w.1 ∧ R = w.2.1 ∧ J = w.2.2.1 ∧ AI = w.2.2.2.1 ∧ AJ = w.2.2.2.2.1 ∧ AR = w.2.2.2.2.2)) := sorry
def rmX7_hangsOn10 : Room := { frames := 10, cells := 0, slots := 0, locals := 219 }
set_option maxHeartbeats 4000000 in
set_option maxRecDepth 100000 in
/-- hangsOn -/
theorem c_X7_hangsOn10 (l : Launch) (g : gG) (gh : gGh) (T : Nat → Int32) (I : gI) (R : gR) (J : gJ) (AI : gI) (AJ : gJ) (AR : gR) (mo : Nat) (rr : Int) (zrr : zr rr) (hv : mInv g gh R I AI) (hm : gO g mo 7) (hT : AI (gh 50 0) = T) (hr0 : 0 ≤ rr ∧ rr < (I mo 2).toInt ∧ rr < 10) : gMet l g yX7_hangsOn tsX7_hangsOn rmX7_hangsOn10 [.ref mo, .int (iI rr)] (I, R, J, AI, AJ, AR) (gQi g (fun (z : Int) (w : gS) => I = w.1 ∧ R = w.2.1 ∧ J = w.2.2.1 ∧ AI = w.2.2.2.1 ∧ AJ = w.2.2.2.2.1 ∧ AR = w.2.2.2.2.2)) := sorry
def rmX7_hangsOn11 : Room := { frames := 11, cells := 0, slots := 0, locals := 241 }
set_option maxHeartbeats 4000000 in
set_option maxRecDepth 100000 in
/-- hangsOn -/
theorem c_X7_hangsOn11 (l : Launch) (g : gG) (gh : gGh) (T : Nat → Int32) (I : gI) (R : gR) (J : gJ) (AI : gI) (AJ : gJ) (AR : gR) (mo : Nat) (rr : Int) (zrr : zr rr) (hv : mInv g gh R I AI) (hm : gO g mo 7) (hT : AI (gh 50 0) = T) (hr0 : 0 ≤ rr ∧ rr < (I mo 2).toInt ∧ rr < 11) : gMet l g yX7_hangsOn tsX7_hangsOn rmX7_hangsOn11 [.ref mo, .int (iI rr)] (I, R, J, AI, AJ, AR) (gQi g (fun (z : Int) (w : gS) => I = w.1 ∧ R = w.2.1 ∧ J = w.2.2.1 ∧ AI = w.2.2.2.1 ∧ AJ = w.2.2.2.2.1 ∧ AR = w.2.2.2.2.2)) := sorry
def rmX7_hangsOn12 : Room := { frames := 12, cells := 0, slots := 0, locals := 263 }
set_option maxHeartbeats 4000000 in
set_option maxRecDepth 100000 in
/-- hangsOn -/
theorem c_X7_hangsOn12 (l : Launch) (g : gG) (gh : gGh) (T : Nat → Int32) (I : gI) (R : gR) (J : gJ) (AI : gI) (AJ : gJ) (AR : gR) (mo : Nat) (rr : Int) (zrr : zr rr) (hv : mInv g gh R I AI) (hm : gO g mo 7) (hT : AI (gh 50 0) = T) (hr0 : 0 ≤ rr ∧ rr < (I mo 2).toInt ∧ rr < 12) : gMet l g yX7_hangsOn tsX7_hangsOn rmX7_hangsOn12 [.ref mo, .int (iI rr)] (I, R, J, AI, AJ, AR) (gQi g (fun (z : Int) (w : gS) => I = w.1 ∧ R = w.2.1 ∧ J = w.2.2.1 ∧ AI = w.2.2.2.1 ∧ AJ = w.2.2.2.2.1 ∧ AR = w.2.2.2.2.2)) := sorry
def rmX7_hangsOn13 : Room := { frames := 13, cells := 0, slots := 0, locals := 285 }
set_option maxHeartbeats 4000000 in
set_option maxRecDepth 100000 in
/-- hangsOn -/
theorem c_X7_hangsOn13 (l : Launch) (g : gG) (gh : gGh) (T : Nat → Int32) (I : gI) (R : gR) (J : gJ) (AI : gI) (AJ : gJ) (AR : gR) (mo : Nat) (rr : Int) (zrr : zr rr) (hv : mInv g gh R I AI) (hm : gO g mo 7) (hT : AI (gh 50 0) = T) (hr0 : 0 ≤ rr ∧ rr < (I mo 2).toInt ∧ rr < 13) : gMet l g yX7_hangsOn tsX7_hangsOn rmX7_hangsOn13 [.ref mo, .int (iI rr)] (I, R, J, AI, AJ, AR) (gQi g (fun (z : Int) (w : gS) => I = w.1 ∧ R = w.2.1 ∧ J = w.2.2.1 ∧ AI = w.2.2.2.1 ∧ AJ = w.2.2.2.2.1 ∧ AR = w.2.2.2.2.2)) := sorry
def rmX7_hangsOn14 : Room := { frames := 14, cells := 0, slots := 0, locals := 307 }
set_option maxHeartbeats 4000000 in
set_option maxRecDepth 100000 in
/-- hangsOn -/
theorem c_X7_hangsOn14 (l : Launch) (g : gG) (gh : gGh) (T : Nat → Int32) (I : gI) (R : gR) (J : gJ) (AI : gI) (AJ : gJ) (AR : gR) (mo : Nat) (rr : Int) (zrr : zr rr) (hv : mInv g gh R I AI) (hm : gO g mo 7) (hT : AI (gh 50 0) = T) (hr0 : 0 ≤ rr ∧ rr < (I mo 2).toInt ∧ rr < 14) : gMet l g yX7_hangsOn tsX7_hangsOn rmX7_hangsOn14 [.ref mo, .int (iI rr)] (I, R, J, AI, AJ, AR) (gQi g (fun (z : Int) (w : gS) => I = w.1 ∧ R = w.2.1 ∧ J = w.2.2.1 ∧ AI = w.2.2.2.1 ∧ AJ = w.2.2.2.2.1 ∧ AR = w.2.2.2.2.2)) := sorry
def rmX7_hangsOn15 : Room := { frames := 15, cells := 0, slots := 0, locals := 329 }
set_option maxHeartbeats 4000000 in
set_option maxRecDepth 100000 in
/-- hangsOn -/
theorem c_X7_hangsOn15 (l : Launch) (g : gG) (gh : gGh) (T : Nat → Int32) (I : gI) (R : gR) (J : gJ) (AI : gI) (AJ : gJ) (AR : gR) (mo : Nat) (rr : Int) (zrr : zr rr) (hv : mInv g gh R I AI) (hm : gO g mo 7) (hT : AI (gh 50 0) = T) (hr0 : 0 ≤ rr ∧ rr < (I mo 2).toInt ∧ rr < 15) : gMet l g yX7_hangsOn tsX7_hangsOn rmX7_hangsOn15 [.ref mo, .int (iI rr)] (I, R, J, AI, AJ, AR) (gQi g (fun (z : Int) (w : gS) => I = w.1 ∧ R = w.2.1 ∧ J = w.2.2.1 ∧ AI = w.2.2.2.1 ∧ AJ = w.2.2.2.2.1 ∧ AR = w.2.2.2.2.2)) := sorry
def rmX7_hangsOn16 : Room := { frames := 16, cells := 0, slots := 0, locals := 351 }
set_option maxHeartbeats 4000000 in
set_option maxRecDepth 100000 in
/-- hangsOn -/
theorem c_X7_hangsOn16 (l : Launch) (g : gG) (gh : gGh) (T : Nat → Int32) (I : gI) (R : gR) (J : gJ) (AI : gI) (AJ : gJ) (AR : gR) (mo : Nat) (rr : Int) (zrr : zr rr) (hv : mInv g gh R I AI) (hm : gO g mo 7) (hT : AI (gh 50 0) = T) (hr0 : 0 ≤ rr ∧ rr < (I mo 2).toInt ∧ rr < 16) : gMet l g yX7_hangsOn tsX7_hangsOn rmX7_hangsOn16 [.ref mo, .int (iI rr)] (I, R, J, AI, AJ, AR) (gQi g (fun (z : Int) (w : gS) => I = w.1 ∧ R = w.2.1 ∧ J = w.2.2.1 ∧ AI = w.2.2.2.1 ∧ AJ = w.2.2.2.2.1 ∧ AR = w.2.2.2.2.2)) := sorry
def rmX7_farOf : Room := { frames := 1, cells := 0, slots := 0, locals := 21 }
theorem hdX7_farOf : yX7_farOf.cls = RX7 ∧ yX7_farOf.cls ≠ "java/lang/invoke/MethodHandle" ∧ yX7_farOf.cls ≠ "java/lang/invoke/VarHandle" ∧ (parseMethodDescriptor yX7_farOf.desc).map (fun d => d.parameters.length) = some 1 := sorry
set_option maxHeartbeats 4000000 in
set_option maxRecDepth 100000 in
/-- farOf -/
theorem c_X7_farOf (l : Launch) (g : gG) (gh : gGh) (T : Nat → Int32) (I : gI) (R : gR) (J : gJ) (AI : gI) (AJ : gJ) (AR : gR) (mo : Nat) (rr : Int) (zrr : zr rr) (hv : mInv g gh R I AI) (hm : gO g mo 7) (hT : AI (gh 50 0) = T) (hr0 : 0 ≤ rr ∧ rr < (I mo 2).toInt ∧ rr < 1) : gMet l g yX7_farOf tsX7_farOf rmX7_farOf [.ref mo, .int (iI rr)] (I, R, J, AI, AJ, AR) (gQi g (fun (z : Int) (w : gS) => I = w.1 ∧ R = w.2.1 ∧ J = w.2.2.1 ∧ AI = w.2.2.2.1 ∧ AJ = w.2.2.2.2.1 ∧ AR = w.2.2.2.2.2 ∧ (0 ≤ z ∧ z ≤ 1))) := sorry
def rmX7_farOf2 : Room := { frames := 2, cells := 0, slots := 0, locals := 44 }
set_option maxHeartbeats 4000000 in
set_option maxRecDepth 100000 in
/-- farOf -/
theorem c_X7_farOf2 (l : Launch) (g : gG) (gh : gGh) (T : Nat → Int32) (I : gI) (R : gR) (J : gJ) (AI : gI) (AJ : gJ) (AR : gR) (mo : Nat) (rr : Int) (zrr : zr rr) (hv : mInv g gh R I AI) (hm : gO g mo 7) (hT : AI (gh 50 0) = T) (hr0 : 0 ≤ rr ∧ rr < (I mo 2).toInt ∧ rr < 2) : gMet l g yX7_farOf tsX7_farOf rmX7_farOf2 [.ref mo, .int (iI rr)] (I, R, J, AI, AJ, AR) (gQi g (fun (z : Int) (w : gS) => I = w.1 ∧ R = w.2.1 ∧ J = w.2.2.1 ∧ AI = w.2.2.2.1 ∧ AJ = w.2.2.2.2.1 ∧ AR = w.2.2.2.2.2 ∧ (0 ≤ z ∧ z ≤ 2))) := sorry
def rmX7_farOf3 : Room := { frames := 3, cells := 0, slots := 0, locals := 67 }
set_option maxHeartbeats 4000000 in
set_option maxRecDepth 100000 in
/-- farOf -/
theorem c_X7_farOf3 (l : Launch) (g : gG) (gh : gGh) (T : Nat → Int32) (I : gI) (R : gR) (J : gJ) (AI : gI) (AJ : gJ) (AR : gR) (mo : Nat) (rr : Int) (zrr : zr rr) (hv : mInv g gh R I AI) (hm : gO g mo 7) (hT : AI (gh 50 0) = T) (hr0 : 0 ≤ rr ∧ rr < (I mo 2).toInt ∧ rr < 3) : gMet l g yX7_farOf tsX7_farOf rmX7_farOf3 [.ref mo, .int (iI rr)] (I, R, J, AI, AJ, AR) (gQi g (fun (z : Int) (w : gS) => I = w.1 ∧ R = w.2.1 ∧ J = w.2.2.1 ∧ AI = w.2.2.2.1 ∧ AJ = w.2.2.2.2.1 ∧ AR = w.2.2.2.2.2 ∧ (0 ≤ z ∧ z ≤ 3))) := sorry
def rmX7_farOf4 : Room := { frames := 4, cells := 0, slots := 0, locals := 90 }
set_option maxHeartbeats 4000000 in
set_option maxRecDepth 100000 in
/-- farOf -/
theorem c_X7_farOf4 (l : Launch) (g : gG) (gh : gGh) (T : Nat → Int32) (I : gI) (R : gR) (J : gJ) (AI : gI) (AJ : gJ) (AR : gR) (mo : Nat) (rr : Int) (zrr : zr rr) (hv : mInv g gh R I AI) (hm : gO g mo 7) (hT : AI (gh 50 0) = T) (hr0 : 0 ≤ rr ∧ rr < (I mo 2).toInt ∧ rr < 4) : gMet l g yX7_farOf tsX7_farOf rmX7_farOf4 [.ref mo, .int (iI rr)] (I, R, J, AI, AJ, AR) (gQi g (fun (z : Int) (w : gS) => I = w.1 ∧ R = w.2.1 ∧ J = w.2.2.1 ∧ AI = w.2.2.2.1 ∧ AJ = w.2.2.2.2.1 ∧ AR = w.2.2.2.2.2 ∧ (0 ≤ z ∧ z ≤ 4))) := sorry
def rmX7_farOf5 : Room := { frames := 5, cells := 0, slots := 0, locals := 113 }
set_option maxHeartbeats 4000000 in
set_option maxRecDepth 100000 in
/-- farOf -/
theorem c_X7_farOf5 (l : Launch) (g : gG) (gh : gGh) (T : Nat → Int32) (I : gI) (R : gR) (J : gJ) (AI : gI) (AJ : gJ) (AR : gR) (mo : Nat) (rr : Int) (zrr : zr rr) (hv : mInv g gh R I AI) (hm : gO g mo 7) (hT : AI (gh 50 0) = T) (hr0 : 0 ≤ rr ∧ rr < (I mo 2).toInt ∧ rr < 5) : gMet l g yX7_farOf tsX7_farOf rmX7_farOf5 [.ref mo, .int (iI rr)] (I, R, J, AI, AJ, AR) (gQi g (fun (z : Int) (w : gS) => I = w.1 ∧ R = w.2.1 ∧ J = w.2.2.1 ∧ AI = w.2.2.2.1 ∧ AJ = w.2.2.2.2.1 ∧ AR = w.2.2.2.2.2 ∧ (0 ≤ z ∧ z ≤ 5))) := sorry
def rmX7_farOf6 : Room := { frames := 6, cells := 0, slots := 0, locals := 136 }
set_option maxHeartbeats 4000000 in
set_option maxRecDepth 100000 in
/-- farOf -/
theorem c_X7_farOf6 (l : Launch) (g : gG) (gh : gGh) (T : Nat → Int32) (I : gI) (R : gR) (J : gJ) (AI : gI) (AJ : gJ) (AR : gR) (mo : Nat) (rr : Int) (zrr : zr rr) (hv : mInv g gh R I AI) (hm : gO g mo 7) (hT : AI (gh 50 0) = T) (hr0 : 0 ≤ rr ∧ rr < (I mo 2).toInt ∧ rr < 6) : gMet l g yX7_farOf tsX7_farOf rmX7_farOf6 [.ref mo, .int (iI rr)] (I, R, J, AI, AJ, AR) (gQi g (fun (z : Int) (w : gS) => I = w.1 ∧ R = w.2.1 ∧ J = w.2.2.1 ∧ AI = w.2.2.2.1 ∧ AJ = w.2.2.2.2.1 ∧ AR = w.2.2.2.2.2 ∧ (0 ≤ z ∧ z ≤ 6))) := sorry
def rmX7_farOf7 : Room := { frames := 7, cells := 0, slots := 0, locals := 159 }
set_option maxHeartbeats 4000000 in
set_option maxRecDepth 100000 in
/-- farOf -/
theorem c_X7_farOf7 (l : Launch) (g : gG) (gh : gGh) (T : Nat → Int32) (I : gI) (R : gR) (J : gJ) (AI : gI) (AJ : gJ) (AR : gR) (mo : Nat) (rr : Int) (zrr : zr rr) (hv : mInv g gh R I AI) (hm : gO g mo 7) (hT : AI (gh 50 0) = T) (hr0 : 0 ≤ rr ∧ rr < (I mo 2).toInt ∧ rr < 7) : gMet l g yX7_farOf tsX7_farOf rmX7_farOf7 [.ref mo, .int (iI rr)] (I, R, J, AI, AJ, AR) (gQi g (fun (z : Int) (w : gS) => I = w.1 ∧ R = w.2.1 ∧ J = w.2.2.1 ∧ AI = w.2.2.2.1 ∧ AJ = w.2.2.2.2.1 ∧ AR = w.2.2.2.2.2 ∧ (0 ≤ z ∧ z ≤ 7))) := sorry
def rmX7_farOf8 : Room := { frames := 8, cells := 0, slots := 0, locals := 182 }
set_option maxHeartbeats 4000000 in
set_option maxRecDepth 100000 in
/-- farOf -/
theorem c_X7_farOf8 (l : Launch) (g : gG) (gh : gGh) (T : Nat → Int32) (I : gI) (R : gR) (J : gJ) (AI : gI) (AJ : gJ) (AR : gR) (mo : Nat) (rr : Int) (zrr : zr rr) (hv : mInv g gh R I AI) (hm : gO g mo 7) (hT : AI (gh 50 0) = T) (hr0 : 0 ≤ rr ∧ rr < (I mo 2).toInt ∧ rr < 8) : gMet l g yX7_farOf tsX7_farOf rmX7_farOf8 [.ref mo, .int (iI rr)] (I, R, J, AI, AJ, AR) (gQi g (fun (z : Int) (w : gS) => I = w.1 ∧ R = w.2.1 ∧ J = w.2.2.1 ∧ AI = w.2.2.2.1 ∧ AJ = w.2.2.2.2.1 ∧ AR = w.2.2.2.2.2 ∧ (0 ≤ z ∧ z ≤ 8))) := sorry
def rmX7_farOf9 : Room := { frames := 9, cells := 0, slots := 0, locals := 205 }
set_option maxHeartbeats 4000000 in
set_option maxRecDepth 100000 in
/-- farOf -/
theorem c_X7_farOf9 (l : Launch) (g : gG) (gh : gGh) (T : Nat → Int32) (I : gI) (R : gR) (J : gJ) (AI : gI) (AJ : gJ) (AR : gR) (mo : Nat) (rr : Int) (zrr : zr rr) (hv : mInv g gh R I AI) (hm : gO g mo 7) (hT : AI (gh 50 0) = T) (hr0 : 0 ≤ rr ∧ rr < (I mo 2).toInt ∧ rr < 9) : gMet l g yX7_farOf tsX7_farOf rmX7_farOf9 [.ref mo, .int (iI rr)] (I, R, J, AI, AJ, AR) (gQi g (fun (z : Int) (w : gS) => I = w.1 ∧ R = w.2.1 ∧ J = w.2.2.1 ∧ AI = w.2.2.2.1 ∧ AJ = w.2.2.2.2.1 ∧ AR = w.2.2.2.2.2 ∧ (0 ≤ z ∧ z ≤ 9))) := sorry
def rmX7_farOf10 : Room := { frames := 10, cells := 0, slots := 0, locals := 228 }
set_option maxHeartbeats 4000000 in
set_option maxRecDepth 100000 in
/-- farOf -/
theorem c_X7_farOf10 (l : Launch) (g : gG) (gh : gGh) (T : Nat → Int32) (I : gI) (R : gR) (J : gJ) (AI : gI) (AJ : gJ) (AR : gR) (mo : Nat) (rr : Int) (zrr : zr rr) (hv : mInv g gh R I AI) (hm : gO g mo 7) (hT : AI (gh 50 0) = T) (hr0 : 0 ≤ rr ∧ rr < (I mo 2).toInt ∧ rr < 10) : gMet l g yX7_farOf tsX7_farOf rmX7_farOf10 [.ref mo, .int (iI rr)] (I, R, J, AI, AJ, AR) (gQi g (fun (z : Int) (w : gS) => I = w.1 ∧ R = w.2.1 ∧ J = w.2.2.1 ∧ AI = w.2.2.2.1 ∧ AJ = w.2.2.2.2.1 ∧ AR = w.2.2.2.2.2 ∧ (0 ≤ z ∧ z ≤ 10))) := sorry
def rmX7_farOf11 : Room := { frames := 11, cells := 0, slots := 0, locals := 251 }
set_option maxHeartbeats 4000000 in
set_option maxRecDepth 100000 in
/-- farOf -/
theorem c_X7_farOf11 (l : Launch) (g : gG) (gh : gGh) (T : Nat → Int32) (I : gI) (R : gR) (J : gJ) (AI : gI) (AJ : gJ) (AR : gR) (mo : Nat) (rr : Int) (zrr : zr rr) (hv : mInv g gh R I AI) (hm : gO g mo 7) (hT : AI (gh 50 0) = T) (hr0 : 0 ≤ rr ∧ rr < (I mo 2).toInt ∧ rr < 11) : gMet l g yX7_farOf tsX7_farOf rmX7_farOf11 [.ref mo, .int (iI rr)] (I, R, J, AI, AJ, AR) (gQi g (fun (z : Int) (w : gS) => I = w.1 ∧ R = w.2.1 ∧ J = w.2.2.1 ∧ AI = w.2.2.2.1 ∧ AJ = w.2.2.2.2.1 ∧ AR = w.2.2.2.2.2 ∧ (0 ≤ z ∧ z ≤ 11))) := sorry
def rmX7_farOf12 : Room := { frames := 12, cells := 0, slots := 0, locals := 274 }
set_option maxHeartbeats 4000000 in
set_option maxRecDepth 100000 in
/-- farOf -/
theorem c_X7_farOf12 (l : Launch) (g : gG) (gh : gGh) (T : Nat → Int32) (I : gI) (R : gR) (J : gJ) (AI : gI) (AJ : gJ) (AR : gR) (mo : Nat) (rr : Int) (zrr : zr rr) (hv : mInv g gh R I AI) (hm : gO g mo 7) (hT : AI (gh 50 0) = T) (hr0 : 0 ≤ rr ∧ rr < (I mo 2).toInt ∧ rr < 12) : gMet l g yX7_farOf tsX7_farOf rmX7_farOf12 [.ref mo, .int (iI rr)] (I, R, J, AI, AJ, AR) (gQi g (fun (z : Int) (w : gS) => I = w.1 ∧ R = w.2.1 ∧ J = w.2.2.1 ∧ AI = w.2.2.2.1 ∧ AJ = w.2.2.2.2.1 ∧ AR = w.2.2.2.2.2 ∧ (0 ≤ z ∧ z ≤ 12))) := sorry
def rmX7_farOf13 : Room := { frames := 13, cells := 0, slots := 0, locals := 297 }
set_option maxHeartbeats 4000000 in
set_option maxRecDepth 100000 in
/-- farOf -/
theorem c_X7_farOf13 (l : Launch) (g : gG) (gh : gGh) (T : Nat → Int32) (I : gI) (R : gR) (J : gJ) (AI : gI) (AJ : gJ) (AR : gR) (mo : Nat) (rr : Int) (zrr : zr rr) (hv : mInv g gh R I AI) (hm : gO g mo 7) (hT : AI (gh 50 0) = T) (hr0 : 0 ≤ rr ∧ rr < (I mo 2).toInt ∧ rr < 13) : gMet l g yX7_farOf tsX7_farOf rmX7_farOf13 [.ref mo, .int (iI rr)] (I, R, J, AI, AJ, AR) (gQi g (fun (z : Int) (w : gS) => I = w.1 ∧ R = w.2.1 ∧ J = w.2.2.1 ∧ AI = w.2.2.2.1 ∧ AJ = w.2.2.2.2.1 ∧ AR = w.2.2.2.2.2 ∧ (0 ≤ z ∧ z ≤ 13))) := sorry
def rmX7_farOf14 : Room := { frames := 14, cells := 0, slots := 0, locals := 320 }
set_option maxHeartbeats 4000000 in
set_option maxRecDepth 100000 in
/-- farOf -/
theorem c_X7_farOf14 (l : Launch) (g : gG) (gh : gGh) (T : Nat → Int32) (I : gI) (R : gR) (J : gJ) (AI : gI) (AJ : gJ) (AR : gR) (mo : Nat) (rr : Int) (zrr : zr rr) (hv : mInv g gh R I AI) (hm : gO g mo 7) (hT : AI (gh 50 0) = T) (hr0 : 0 ≤ rr ∧ rr < (I mo 2).toInt ∧ rr < 14) : gMet l g yX7_farOf tsX7_farOf rmX7_farOf14 [.ref mo, .int (iI rr)] (I, R, J, AI, AJ, AR) (gQi g (fun (z : Int) (w : gS) => I = w.1 ∧ R = w.2.1 ∧ J = w.2.2.1 ∧ AI = w.2.2.2.1 ∧ AJ = w.2.2.2.2.1 ∧ AR = w.2.2.2.2.2 ∧ (0 ≤ z ∧ z ≤ 14))) := sorry
def rmX7_farOf15 : Room := { frames := 15, cells := 0, slots := 0, locals := 343 }
set_option maxHeartbeats 4000000 in
set_option maxRecDepth 100000 in
/-- farOf -/
theorem c_X7_farOf15 (l : Launch) (g : gG) (gh : gGh) (T : Nat → Int32) (I : gI) (R : gR) (J : gJ) (AI : gI) (AJ : gJ) (AR : gR) (mo : Nat) (rr : Int) (zrr : zr rr) (hv : mInv g gh R I AI) (hm : gO g mo 7) (hT : AI (gh 50 0) = T) (hr0 : 0 ≤ rr ∧ rr < (I mo 2).toInt ∧ rr < 15) : gMet l g yX7_farOf tsX7_farOf rmX7_farOf15 [.ref mo, .int (iI rr)] (I, R, J, AI, AJ, AR) (gQi g (fun (z : Int) (w : gS) => I = w.1 ∧ R = w.2.1 ∧ J = w.2.2.1 ∧ AI = w.2.2.2.1 ∧ AJ = w.2.2.2.2.1 ∧ AR = w.2.2.2.2.2 ∧ (0 ≤ z ∧ z ≤ 15))) := sorry
def rmX7_farOf16 : Room := { frames := 16, cells := 0, slots := 0, locals := 366 }
set_option maxHeartbeats 4000000 in
set_option maxRecDepth 100000 in
/-- farOf -/
theorem c_X7_farOf16 (l : Launch) (g : gG) (gh : gGh) (T : Nat → Int32) (I : gI) (R : gR) (J : gJ) (AI : gI) (AJ : gJ) (AR : gR) (mo : Nat) (rr : Int) (zrr : zr rr) (hv : mInv g gh R I AI) (hm : gO g mo 7) (hT : AI (gh 50 0) = T) (hr0 : 0 ≤ rr ∧ rr < (I mo 2).toInt ∧ rr < 16) : gMet l g yX7_farOf tsX7_farOf rmX7_farOf16 [.ref mo, .int (iI rr)] (I, R, J, AI, AJ, AR) (gQi g (fun (z : Int) (w : gS) => I = w.1 ∧ R = w.2.1 ∧ J = w.2.2.1 ∧ AI = w.2.2.2.1 ∧ AJ = w.2.2.2.2.1 ∧ AR = w.2.2.2.2.2 ∧ (0 ≤ z ∧ z ≤ 16))) := sorry
def rmX7_hangOn : Room := { frames := 17, cells := 0, slots := 0, locals := 373 }
theorem hdX7_hangOn : yX7_hangOn.cls = RX7 ∧ yX7_hangOn.cls ≠ "java/lang/invoke/MethodHandle" ∧ yX7_hangOn.cls ≠ "java/lang/invoke/VarHandle" ∧ (parseMethodDescriptor yX7_hangOn.desc).map (fun d => d.parameters.length) = some 1 := sorry
set_option maxHeartbeats 4000000 in
set_option maxRecDepth 100000 in
/-- what hangs on it -/
theorem c_X7_hangOn (l : Launch) (g : gG) (gh : gGh) (T : Nat → Int32) (I : gI) (R : gR) (J : gJ) (AI : gI) (AJ : gJ) (AR : gR) (mo : Nat) (rr : Int) (zrr : zr rr) (hv : mInv g gh R I AI) (hm : gO g mo 7) (hT : AI (gh 50 0) = T) : gMet l g yX7_hangOn tsX7_hangOn rmX7_hangOn [.ref mo, .int (iI rr)] (I, R, J, AI, AJ, AR) (gQi g (fun (z : Int) (w : gS) => I = w.1 ∧ R = w.2.1 ∧ J = w.2.2.1 ∧ AI = w.2.2.2.1 ∧ AJ = w.2.2.2.2.1 ∧ AR = w.2.2.2.2.2)) := sorry
theorem hdX7_of : yX7_of.cls = RX7 ∧ yX7_of.cls ≠ "java/lang/invoke/MethodHandle" ∧ yX7_of.cls ≠ "java/lang/invoke/VarHandle" ∧ (parseMethodDescriptor yX7_of.desc).map (fun d => d.parameters.length) = some 2 := sorry
theorem hdX7_differs : yX7_differs.cls = RX7 ∧ yX7_differs.cls ≠ "java/lang/invoke/MethodHandle" ∧ yX7_differs.cls ≠ "java/lang/invoke/VarHandle" ∧ (parseMethodDescriptor yX7_differs.desc).map (fun d => d.parameters.length) = some 1 := sorry
theorem hdX7_column_ : yX7_column_.cls = RX7 ∧ yX7_column_.cls ≠ "java/lang/invoke/MethodHandle" ∧ yX7_column_.cls ≠ "java/lang/invoke/VarHandle" ∧ (parseMethodDescriptor yX7_column_.desc).map (fun d => d.parameters.length) = some 3 := sorry
theorem hdX7_told : yX7_told.cls = RX7 ∧ yX7_told.cls ≠ "java/lang/invoke/MethodHandle" ∧ yX7_told.cls ≠ "java/lang/invoke/VarHandle" ∧ (parseMethodDescriptor yX7_told.desc).map (fun d => d.parameters.length) = some 1 := sorry

end

section
/-! the reference's reading of a tape: what its steps leave in the row that is read -/
theorem z_eq {v x : Int} (hv : zr v) (hx : zr x) (h : iI v = iI x) : v = x := sorry
theorem z_wrap (x : Int) : ∃ v, zr v ∧ iI x = iI v ∧ (zr x → v = x) := sorry
theorem mBit01 (x d : Int) : mBit x d = 0 ∨ mBit x d = 1 := sorry
theorem tI_s {A : gI} {b : Nat} {z v : Int} (hv : zr v) : tI (gup2 A b z.toNat (iI v) b) z = v := sorry
theorem tI_k {A : gI} {b : Nat} {z y : Int} {v : Int32} (hz : 0 ≤ z) (hy : 0 ≤ y) (h : y ≠ z) : tI (gup2 A b z.toNat v b) y = tI (A b) y := sorry
def s1 (f f' : Nat → Int32) (x v : Int) : Prop := (∀ z : Int, 0 ≤ z → z ≠ x → tI f' z = tI f z) ∧ tI f' x = v
theorem s1_mk {A A' : gI} {b : Nat} {x v : Int} (hx : 0 ≤ x) (hv : zr v) (e : A' = gup2 A b x.toNat (iI v)) : s1 (A b) (A' b) x v := sorry
def sP (f f' : Nat → Int32) (M k a b c d : Int) : Prop := (∀ z : Int, 0 ≤ z → (z < 40 * M + 6 + 4 * k ∨ 40 * M + 6 + 4 * k + 4 ≤ z) → tI f' z = tI f z) ∧ mP f' M k 0 = a ∧ mP f' M k 1 = b ∧ mP f' M k 2 = c ∧ mP f' M k 3 = d
theorem sP_mk {A A1 A2 A3 A4 : gI} {o : Nat} {z M k a b c d : Int} (hM : 0 ≤ M) (hk : 0 ≤ k) (ha : zr a) (hb : zr b) (hc : zr c) (hd : zr d) (hz : z = 40 * M + 6 + 4 * k)
    (e1 : A1 = gup2 A o z.toNat (iI a)) (e2 : A2 = gup2 A1 o (z + 1).toNat (iI b)) (e3 : A3 = gup2 A2 o (z + 2).toNat (iI c)) (e4 : A4 = gup2 A3 o (z + 3).toNat (iI d)) : sP (A o) (A4 o) M k a b c d := sorry
def hP (f f' : Nat → Int32) (M kd cl one oth ps : Int) : Prop := (∀ z : Int, 0 ≤ z → (z < 40 * M ∨ 40 * M + 6 ≤ z) → tI f' z = tI f z) ∧ tI f' (40 * M) = kd ∧ tI f' (40 * M + 1) = cl ∧ tI f' (40 * M + 2) = one ∧ tI f' (40 * M + 3) = oth ∧ tI f' (40 * M + 4) = ps
theorem hP_mk {f f1 f2 f3 f4 f5 : Nat → Int32} {M a b c d e : Int} (hM : 0 ≤ M) (h1 : s1 f f1 (40 * M + 0) a) (h2 : s1 f1 f2 (40 * M + 1) b) (h3 : s1 f2 f3 (40 * M + 2) c) (h4 : s1 f3 f4 (40 * M + 3) d) (h5 : s1 f4 f5 (40 * M + 4) e) : hP f f5 M a b c d e := sorry
theorem hP_s5 {f f1 f2 : Nat → Int32} {M a b c d e v : Int} (hM : 0 ≤ M) (h : hP f f1 M a b c d e) (h5 : s1 f1 f2 (40 * M + 5) v) : hP f f2 M a b c d e ∧ tI f2 (40 * M + 5) = v := sorry
/-- parts of a selection, of a list of terms, of a join, of a group -/
def selP (f : Nat → Int32) (M n : Int) : Prop := ∀ k : Int, 0 ≤ k → k < n → 0 ≤ mP f M k 0 ∧ mP f M k 0 ≤ 3 ∧ (mP f M k 2 = 1 → 0 ≤ mP f M k 3 ∧ mP f M k 3 ≤ 3)
def termP (f : Nat → Int32) (M fm n : Int) : Prop := ∀ k : Int, 0 ≤ k → k < n → mP f M (fm + k) 0 ≤ 3
def joinP (f : Nat → Int32) (M n : Int) : Prop := ∀ k : Int, 0 ≤ k → k < n → 0 ≤ mP f M k 0 ∧ mP f M k 0 ≤ 3 ∧ 0 ≤ mP f M k 1 ∧ mP f M k 1 ≤ 3
def grpP (f : Nat → Int32) (M n : Int) : Prop := ∀ k : Int, 0 ≤ k → k < n → 0 ≤ mP f M k 0 ∧ mP f M k 0 ≤ 3
def trF (f f' : Nat → Int32) (M fm : Int) : Prop := ∀ z : Int, 0 ≤ z → (z < 40 * M + 6 + 4 * fm ∨ 40 * M + 6 + 4 * fm + 16 ≤ z) → tI f' z = tI f z
theorem sP_old {f f' : Nat → Int32} {M n a b c d k w : Int} (h : sP f f' M n a b c d) (hM : 0 ≤ M) (hk : 0 ≤ k) (hl : k < n) (hw : 0 ≤ w ∧ w ≤ 3) : mP f' M k w = mP f M k w := sorry
theorem selP_step {f f' : Nat → Int32} {M n a b c d : Int} (hM : 0 ≤ M) (h : selP f M n) (hs : sP f f' M n a b c d) (ha : 0 ≤ a ∧ a ≤ 3) (hd : c = 1 → 0 ≤ d ∧ d ≤ 3) : selP f' M (n + 1) := sorry
theorem joinP_step {f f' : Nat → Int32} {M n a b c d : Int} (hM : 0 ≤ M) (h : joinP f M n) (hs : sP f f' M n a b c d) (ha : 0 ≤ a ∧ a ≤ 3) (hb : 0 ≤ b ∧ b ≤ 3) : joinP f' M (n + 1) := sorry
theorem grpP_step {f f' : Nat → Int32} {M n a b c d : Int} (hM : 0 ≤ M) (h : grpP f M n) (hs : sP f f' M n a b c d) (ha : 0 ≤ a ∧ a ≤ 3) : grpP f' M (n + 1) := sorry
theorem termP_step {f f' : Nat → Int32} {M fm n a b c d : Int} (hM : 0 ≤ M) (hfm : 0 ≤ fm) (h : termP f M fm n) (hs : sP f f' M (fm + n) a b c d) (ha : a ≤ 3) : termP f' M fm (n + 1) := sorry
theorem trF_step {f f' f'' : Nat → Int32} {M fm n a b c d : Int} (h : trF f f' M fm) (hn : 0 ≤ n ∧ n ≤ 3) (hs : sP f' f'' M (fm + n) a b c d) : trF f f'' M fm := sorry
theorem trF_r {f : Nat → Int32} {M fm : Int} : trF f f M fm := sorry
theorem row_mk {f f' : Nat → Int32} {M kd cl one oth ps : Int} (hM : 0 ≤ M) (h : hP f f' M kd cl one oth ps) (hk : 0 ≤ kd ∧ kd ≤ 8) (hc : 1 ≤ cl ∧ cl ≤ 4) (h1 : kd ≠ 0 → 0 ≤ one ∧ one < M ∧ -1 ≤ oth ∧ oth < M) (hp : 0 ≤ ps ∧ ps ≤ 8)
    (h0 : kd = 0 → 0 < M → tI f (40 * (M - 1)) = 0) (c1 : kd = 1 → selP f M ps) (c2 : kd = 2 → ps ≤ 4 ∧ termP f M 0 ps)
    (c3 : kd = 3 → 0 ≤ oth ∧ ps ≤ 4 ∧ joinP f M ps ∧ tI f (40 * one + 1) + mCnt (tI f' (40 * M + 5)) (tI f (40 * oth + 1)).toNat ≤ 4)
    (c4 : kd = 4 ∨ kd = 5 → 0 ≤ oth) (c7 : kd = 7 → ps ≤ 3 ∧ grpP f M (ps + 1))
    (c8 : kd = 8 → 0 ≤ oth ∧ ps ≤ 4 ∧ 0 ≤ mP f M 0 0 ∧ mP f M 0 0 ≤ 3 ∧ 0 ≤ mP f M 0 1 ∧ mP f M 0 1 ≤ 3 ∧ termP f M 1 ps ∧ ps = tI f (40 * one + 1)) : rowOK f' M := sorry
theorem mCol {g : gG} {gh : gGh} {R : gR} {I AI : gI} {m : Nat} (hv : mInv g gh R I AI) (hm : gO g m 7) {z : Int} (h0 : 0 ≤ z) (h1 : z < (I m 5).toInt) : 1 ≤ tI (AI (gh 53 0)) (40 * z + 1) ∧ tI (AI (gh 53 0)) (40 * z + 1) ≤ 4 := sorry
theorem named_step {f : Nat → Int64} {k : Int} {w : Int64} (h : ∀ j : Int, 0 ≤ j → j < k → f j.toNat ≠ w) (hk : f k.toNat ≠ w) : ∀ j : Int, 0 ≤ j → j < k + 1 → f j.toNat ≠ w := sorry
theorem mP5_0 {g : gG} {gh : gGh} {R : gR} {I AI : gI} {m : Nat} (hv : mInv g gh R I AI) (hm : gO g m 7) : mInv g gh R (gup2 I m 5 (iI 0)) AI := sorry
theorem mP5 {g : gG} {gh : gGh} {R : gR} {I AI : gI} {m : Nat} {z : Int} (hv : mInv g gh R I AI) (hm : gO g m 7) (hz : z = (I m 5).toInt + 1) (hl : z ≤ 16) (hr : rowOK (AI (gh 53 0)) (I m 5).toInt) : mInv g gh R (gup2 I m 5 (iI z)) AI := sorry
/-- no relation told: told may be written -/
theorem mP2_0 {g : gG} {gh : gGh} {R : gR} {I AI : gI} {m : Nat} (hv : mInv g gh R I AI) (hm : gO g m 7) : mInv g gh R (gup2 I m 2 (iI 0)) AI := sorry
theorem mInv_told0 {g : gG} {gh : gGh} {R : gR} {I AI AI' : gI} {m z : Nat} {v : Int32} (hv : mInv g gh R I AI) (hm : gO g m 7) (h0 : (I m 2).toInt = 0) (e : AI' = gup2 AI (gh 50 0) z v) : mInv g gh R I AI' := sorry
theorem mPlan {g : gG} {gh : gGh} {R : gR} {I I' Iv AI : gI} {m : Nat} {M : Int} (hv : mInv g gh R Iv AI) (hm : gO g m 7) (hN : mNum (I m)) (eIv : Iv = gup2 I m 2 (iI 0)) (hM : M = (I m 5).toInt)
    (ef : I' = gup2 (gup2 (gup2 (gup2 (gup2 I m 2 (iI M)) m 8 (iI 0)) m 9 (iI 0)) m 10 (iI 0)) m 14 (iI 0)) (hr : ∀ r : Int, 0 ≤ r → r < M → rowOK (AI (gh 50 0)) r) : mInv g gh R I' AI ∧ (I' m 16).toInt = (I m 16).toInt := sorry
theorem mCnt_u {x : Int} {a : Nat} : mCnt x a ≤ a := sorry

end

section
theorem hdX7_wrong : yX7_wrong.cls = RX7 ∧ yX7_wrong.cls ≠ "java/lang/invoke/MethodHandle" ∧ yX7_wrong.cls ≠ "java/lang/invoke/VarHandle" ∧ (parseMethodDescriptor yX7_wrong.desc).map (fun d => d.parameters.length) = some 1 := sorry
theorem hdX7_runs : yX7_runs.cls = RX7 ∧ yX7_runs.cls ≠ "java/lang/invoke/MethodHandle" ∧ yX7_runs.cls ≠ "java/lang/invoke/VarHandle" ∧ (parseMethodDescriptor yX7_runs.desc).map (fun d => d.parameters.length) = some 1 := sorry
theorem hdX7_next : yX7_next.cls = RX7 ∧ yX7_next.cls ≠ "java/lang/invoke/MethodHandle" ∧ yX7_next.cls ≠ "java/lang/invoke/VarHandle" ∧ (parseMethodDescriptor yX7_next.desc).map (fun d => d.parameters.length) = some 0 := sorry

end

section
theorem hdX7_packed : yX7_packed.cls = RX7 ∧ yX7_packed.cls ≠ "java/lang/invoke/MethodHandle" ∧ yX7_packed.cls ≠ "java/lang/invoke/VarHandle" ∧ (parseMethodDescriptor yX7_packed.desc).map (fun d => d.parameters.length) = some 1 := sorry
theorem hdX7_isWord : yX7_isWord.cls = RX7 ∧ yX7_isWord.cls ≠ "java/lang/invoke/MethodHandle" ∧ yX7_isWord.cls ≠ "java/lang/invoke/VarHandle" ∧ (parseMethodDescriptor yX7_isWord.desc).map (fun d => d.parameters.length) = some 1 := sorry
theorem hdX7_isSign : yX7_isSign.cls = RX7 ∧ yX7_isSign.cls ≠ "java/lang/invoke/MethodHandle" ∧ yX7_isSign.cls ≠ "java/lang/invoke/VarHandle" ∧ (parseMethodDescriptor yX7_isSign.desc).map (fun d => d.parameters.length) = some 1 := sorry
theorem hdX7_mustSign : yX7_mustSign.cls = RX7 ∧ yX7_mustSign.cls ≠ "java/lang/invoke/MethodHandle" ∧ yX7_mustSign.cls ≠ "java/lang/invoke/VarHandle" ∧ (parseMethodDescriptor yX7_mustSign.desc).map (fun d => d.parameters.length) = some 1 := sorry
theorem hdX7_mustWord : yX7_mustWord.cls = RX7 ∧ yX7_mustWord.cls ≠ "java/lang/invoke/MethodHandle" ∧ yX7_mustWord.cls ≠ "java/lang/invoke/VarHandle" ∧ (parseMethodDescriptor yX7_mustWord.desc).map (fun d => d.parameters.length) = some 1 := sorry
theorem hdX7_isReserved : yX7_isReserved.cls = RX7 ∧ yX7_isReserved.cls ≠ "java/lang/invoke/MethodHandle" ∧ yX7_isReserved.cls ≠ "java/lang/invoke/VarHandle" ∧ (parseMethodDescriptor yX7_isReserved.desc).map (fun d => d.parameters.length) = some 0 := sorry
def rmX7_named : Room := { frames := 0, cells := 0, slots := 0, locals := 0 }
theorem hdX7_named : yX7_named.cls = RX7 ∧ yX7_named.cls ≠ "java/lang/invoke/MethodHandle" ∧ yX7_named.cls ≠ "java/lang/invoke/VarHandle" ∧ (parseMethodDescriptor yX7_named.desc).map (fun d => d.parameters.length) = some 1 := sorry
set_option maxHeartbeats 4000000 in
set_option maxRecDepth 100000 in
/-- named -/
theorem c_X7_named (l : Launch) (g : gG) (gh : gGh) (T : Nat → Int32) (I : gI) (R : gR) (J : gJ) (AI : gI) (AJ : gJ) (AR : gR) (mo : Nat) (lw : Int64) (hv : mInv g gh R I AI) (hm : gO g mo 7) (hT : AI (gh 50 0) = T) : gMet l g yX7_named tsX7_named rmX7_named [.ref mo, .long lw] (I, R, J, AI, AJ, AR) (gQi g (fun (z : Int) (w : gS) => I = w.1 ∧ R = w.2.1 ∧ J = w.2.2.1 ∧ AI = w.2.2.2.1 ∧ AJ = w.2.2.2.2.1 ∧ AR = w.2.2.2.2.2 ∧ (-1 ≤ z ∧ z < (I mo 5).toInt) ∧ ((0 ≤ z → AJ (gh 54 0) z.toNat = lw) ∧ (z < 0 → ∀ j : Int, 0 ≤ j → j < (I mo 5).toInt → AJ (gh 54 0) j.toNat ≠ lw)))) := sorry
theorem hdX7_newName : yX7_newName.cls = RX7 ∧ yX7_newName.cls ≠ "java/lang/invoke/MethodHandle" ∧ yX7_newName.cls ≠ "java/lang/invoke/VarHandle" ∧ (parseMethodDescriptor yX7_newName.desc).map (fun d => d.parameters.length) = some 0 := sorry
theorem hdX7_relation : yX7_relation.cls = RX7 ∧ yX7_relation.cls ≠ "java/lang/invoke/MethodHandle" ∧ yX7_relation.cls ≠ "java/lang/invoke/VarHandle" ∧ (parseMethodDescriptor yX7_relation.desc).map (fun d => d.parameters.length) = some 0 := sorry
def rmX7_columns : Room := { frames := 0, cells := 0, slots := 0, locals := 0 }
theorem hdX7_columns : yX7_columns.cls = RX7 ∧ yX7_columns.cls ≠ "java/lang/invoke/MethodHandle" ∧ yX7_columns.cls ≠ "java/lang/invoke/VarHandle" ∧ (parseMethodDescriptor yX7_columns.desc).map (fun d => d.parameters.length) = some 1 := sorry
set_option maxHeartbeats 4000000 in
set_option maxRecDepth 100000 in
/-- columns -/
theorem c_X7_columns (l : Launch) (g : gG) (gh : gGh) (T : Nat → Int32) (I : gI) (R : gR) (J : gJ) (AI : gI) (AJ : gJ) (AR : gR) (mo : Nat) (rr : Int) (zrr : zr rr) (hv : mInv g gh R I AI) (hm : gO g mo 7) (hT : AI (gh 50 0) = T) (hr0 : 0 ≤ rr ∧ rr ≤ 15) : gMet l g yX7_columns tsX7_columns rmX7_columns [.ref mo, .int (iI rr)] (I, R, J, AI, AJ, AR) (gQi g (fun (z : Int) (w : gS) => I = w.1 ∧ R = w.2.1 ∧ J = w.2.2.1 ∧ AI = w.2.2.2.1 ∧ AJ = w.2.2.2.2.1 ∧ AR = w.2.2.2.2.2 ∧ (z = tI (AI (gh 53 0)) (40 * rr + 1)))) := sorry
theorem hdX7_column : yX7_column.cls = RX7 ∧ yX7_column.cls ≠ "java/lang/invoke/MethodHandle" ∧ yX7_column.cls ≠ "java/lang/invoke/VarHandle" ∧ (parseMethodDescriptor yX7_column.desc).map (fun d => d.parameters.length) = some 1 := sorry
theorem hdX7_numberTold : yX7_numberTold.cls = RX7 ∧ yX7_numberTold.cls ≠ "java/lang/invoke/MethodHandle" ∧ yX7_numberTold.cls ≠ "java/lang/invoke/VarHandle" ∧ (parseMethodDescriptor yX7_numberTold.desc).map (fun d => d.parameters.length) = some 0 := sorry
theorem hdX7_sets : yX7_sets.cls = RX7 ∧ yX7_sets.cls ≠ "java/lang/invoke/MethodHandle" ∧ yX7_sets.cls ≠ "java/lang/invoke/VarHandle" ∧ (parseMethodDescriptor yX7_sets.desc).map (fun d => d.parameters.length) = some 2 := sorry
theorem hdX7_setsPart : yX7_setsPart.cls = RX7 ∧ yX7_setsPart.cls ≠ "java/lang/invoke/MethodHandle" ∧ yX7_setsPart.cls ≠ "java/lang/invoke/VarHandle" ∧ (parseMethodDescriptor yX7_setsPart.desc).map (fun d => d.parameters.length) = some 5 := sorry
theorem hdX7_header : yX7_header.cls = RX7 ∧ yX7_header.cls ≠ "java/lang/invoke/MethodHandle" ∧ yX7_header.cls ≠ "java/lang/invoke/VarHandle" ∧ (parseMethodDescriptor yX7_header.desc).map (fun d => d.parameters.length) = some 5 := sorry

end

section
theorem hdX7_termsTold : yX7_termsTold.cls = RX7 ∧ yX7_termsTold.cls ≠ "java/lang/invoke/MethodHandle" ∧ yX7_termsTold.cls ≠ "java/lang/invoke/VarHandle" ∧ (parseMethodDescriptor yX7_termsTold.desc).map (fun d => d.parameters.length) = some 2 := sorry
theorem hdX7_selectTold : yX7_selectTold.cls = RX7 ∧ yX7_selectTold.cls ≠ "java/lang/invoke/MethodHandle" ∧ yX7_selectTold.cls ≠ "java/lang/invoke/VarHandle" ∧ (parseMethodDescriptor yX7_selectTold.desc).map (fun d => d.parameters.length) = some 0 := sorry
theorem hdX7_projectTold : yX7_projectTold.cls = RX7 ∧ yX7_projectTold.cls ≠ "java/lang/invoke/MethodHandle" ∧ yX7_projectTold.cls ≠ "java/lang/invoke/VarHandle" ∧ (parseMethodDescriptor yX7_projectTold.desc).map (fun d => d.parameters.length) = some 0 := sorry

end

section
theorem hdX7_joinTold : yX7_joinTold.cls = RX7 ∧ yX7_joinTold.cls ≠ "java/lang/invoke/MethodHandle" ∧ yX7_joinTold.cls ≠ "java/lang/invoke/VarHandle" ∧ (parseMethodDescriptor yX7_joinTold.desc).map (fun d => d.parameters.length) = some 0 := sorry
theorem hdX7_bothTold : yX7_bothTold.cls = RX7 ∧ yX7_bothTold.cls ≠ "java/lang/invoke/MethodHandle" ∧ yX7_bothTold.cls ≠ "java/lang/invoke/VarHandle" ∧ (parseMethodDescriptor yX7_bothTold.desc).map (fun d => d.parameters.length) = some 1 := sorry

end

section
theorem hdX7_groupTold : yX7_groupTold.cls = RX7 ∧ yX7_groupTold.cls ≠ "java/lang/invoke/MethodHandle" ∧ yX7_groupTold.cls ≠ "java/lang/invoke/VarHandle" ∧ (parseMethodDescriptor yX7_groupTold.desc).map (fun d => d.parameters.length) = some 0 := sorry
theorem hdX7_ringTold : yX7_ringTold.cls = RX7 ∧ yX7_ringTold.cls ≠ "java/lang/invoke/MethodHandle" ∧ yX7_ringTold.cls ≠ "java/lang/invoke/VarHandle" ∧ (parseMethodDescriptor yX7_ringTold.desc).map (fun d => d.parameters.length) = some 0 := sorry

end

section
theorem kind0_step {f f' : Nat → Int32} {M cl one oth ps : Int} (hM : 0 ≤ M) (h : ∀ r : Int, 0 ≤ r → r < M → tI f (40 * r) = 0) (hp : hP f f' M 0 cl one oth ps) : ∀ r : Int, 0 ≤ r → r < M + 1 → tI f' (40 * r) = 0 := sorry
theorem mCp {g : gG} {gh : gGh} {R : gR} {I AI AI' : gI} {m : Nat} {i v : Int} (hv : mInv g gh R I AI) (hm : gO g m 7) (h0 : 0 ≤ i) (e : AI' = gup2 AI (gh 50 0) i.toNat (iI v)) (ev : v = (AI (gh 53 0) i.toNat).toInt)
    (h : ∀ y : Int, 0 ≤ y → y < i → tI (AI (gh 50 0)) y = tI (AI (gh 53 0)) y) : ∀ y : Int, 0 ≤ y → y < i + 1 → tI (AI' (gh 50 0)) y = tI (AI' (gh 53 0)) y := sorry
theorem hdX7_tableTold : yX7_tableTold.cls = RX7 ∧ yX7_tableTold.cls ≠ "java/lang/invoke/MethodHandle" ∧ yX7_tableTold.cls ≠ "java/lang/invoke/VarHandle" ∧ (parseMethodDescriptor yX7_tableTold.desc).map (fun d => d.parameters.length) = some 1 := sorry
theorem hdX7_viewTold : yX7_viewTold.cls = RX7 ∧ yX7_viewTold.cls ≠ "java/lang/invoke/MethodHandle" ∧ yX7_viewTold.cls ≠ "java/lang/invoke/VarHandle" ∧ (parseMethodDescriptor yX7_viewTold.desc).map (fun d => d.parameters.length) = some 0 := sorry

end

section
theorem hdX7_plan : yX7_plan.cls = RX7 ∧ yX7_plan.cls ≠ "java/lang/invoke/MethodHandle" ∧ yX7_plan.cls ≠ "java/lang/invoke/VarHandle" ∧ (parseMethodDescriptor yX7_plan.desc).map (fun d => d.parameters.length) = some 0 := sorry

end
