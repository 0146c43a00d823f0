theorem inA0 : ∀ w ∈ u_ws RX0 TX0 2, w ∈ ax_all := by decide +kernel
theorem ax_t1 {w : Cond} {i : Nat} (h : tables_1_1[i]? = some w) (hg : goodWord w = true) : w ∈ ax_all := List.mem_filter.mpr ⟨List.mem_append_right _ (List.mem_append_left _ (List.mem_of_getElem? h)), hg⟩
theorem ax_t2 {w : Cond} {i : Nat} (h : tables_1_2[i]? = some w) (hg : goodWord w = true) : w ∈ ax_all := List.mem_filter.mpr ⟨List.mem_append_right _ (List.mem_append_right _ (List.mem_append_left _ (List.mem_of_getElem? h))), hg⟩
theorem ax_t3 {w : Cond} {i : Nat} (h : tables_1_3[i]? = some w) (hg : goodWord w = true) : w ∈ ax_all := List.mem_filter.mpr ⟨List.mem_append_right _ (List.mem_append_right _ (List.mem_append_right _ (List.mem_append_left _ (List.mem_of_getElem? h)))), hg⟩
theorem ax_t4 {w : Cond} {i : Nat} (h : tables_1_4[i]? = some w) (hg : goodWord w = true) : w ∈ ax_all := List.mem_filter.mpr ⟨List.mem_append_right _ (List.mem_append_right _ (List.mem_append_right _ (List.mem_append_right _ (List.mem_append_left _ (List.mem_of_getElem? h))))), hg⟩
theorem ax_t5 {w : Cond} {i : Nat} (h : tables_1_5[i]? = some w) (hg : goodWord w = true) : w ∈ ax_all := List.mem_filter.mpr ⟨List.mem_append_right _ (List.mem_append_right _ (List.mem_append_right _ (List.mem_append_right _ (List.mem_append_right _ (List.mem_of_getElem? h))))), hg⟩
theorem ax_tp1 {q : MethodName × Nat} {i : Nat} (h : lw_privs_1[i]? = some q) (hg : goodWord (Cond.selects q.1.cls q.1 q.1) = true) : Cond.selects q.1.cls q.1 q.1 ∈ ax_all := List.mem_filter.mpr ⟨List.mem_append_left _ (List.mem_map.mpr ⟨q, List.mem_append_left _ (List.mem_of_getElem? h), rfl⟩), hg⟩
theorem ax_tp2 {q : MethodName × Nat} {i : Nat} (h : lw_privs_2[i]? = some q) (hg : goodWord (Cond.selects q.1.cls q.1 q.1) = true) : Cond.selects q.1.cls q.1 q.1 ∈ ax_all := List.mem_filter.mpr ⟨List.mem_append_left _ (List.mem_map.mpr ⟨q, List.mem_append_right _ (List.mem_append_left _ (List.mem_of_getElem? h)), rfl⟩), hg⟩
theorem ax_tp3 {q : MethodName × Nat} {i : Nat} (h : lw_privs_3[i]? = some q) (hg : goodWord (Cond.selects q.1.cls q.1 q.1) = true) : Cond.selects q.1.cls q.1 q.1 ∈ ax_all := List.mem_filter.mpr ⟨List.mem_append_left _ (List.mem_map.mpr ⟨q, List.mem_append_right _ (List.mem_append_right _ (List.mem_of_getElem? h)), rfl⟩), hg⟩
abbrev mL_addConstructor : ax_M := (yL_addConstructor, cL_addConstructor, 8, (some .int), [(0, 16, 19, 25), (0, 16, 23, 13), (0, 16, 27, 19)], 7)
abbrev mL_addType : ax_M := (yL_addType, cL_addType, 3, (some .int), [(0, 8, 11, 19)], 2)
abbrev mL_code : ax_M := (yL_code, cL_code, 4, (some .int), [(0, 9, 12, 19), (0, 9, 15, 25)], 3)
abbrev mL_count : ax_M := (yL_count, cL_count, 5, (some .int), [(0, 10, 13, 25), (0, 10, 17, 13), (0, 10, 21, 19)], 4)
abbrev mL_draw : ax_M := (yL_draw, cL_draw, 7, (some .int), [(0, 12, 15, 25), (0, 12, 19, 13), (0, 12, 23, 19), (0, 12, 27, 45)], 5)
abbrev mL_firstAgainst : ax_M := (yL_firstAgainst, cL_firstAgainst, 6, (some .int), [(0, 12, 15, 25), (0, 12, 19, 13), (0, 12, 23, 19)], 5)
abbrev mL_height : ax_M := (yL_height, cL_height, 3, (some .int), [(0, 8, 11, 19)], 2)
abbrev mL_holds : ax_M := (yL_holds, cL_holds, 4, (some .int), [(0, 16, 19, 19), (0, 16, 22, 13)], 3)
abbrev mL_length : ax_M := (yL_length, cL_length, 3, (some .int), [(0, 8, 11, 19)], 2)
abbrev mL_mean : ax_M := (yL_mean, cL_mean, 3, (some .int), [(0, 7, 10, 19)], 2)
abbrev mL_number : ax_M := (yL_number, cL_number, 3, (some .int), [(0, 8, 11, 19)], 2)
abbrev mL_read : ax_M := (yL_read, cL_read, 4, (some .int), [(0, 9, 12, 25), (0, 9, 15, 19)], 3)
abbrev mL_reduce : ax_M := (yL_reduce, cL_reduce, 4, (some .int), [(0, 9, 12, 19), (0, 9, 15, 13)], 3)
abbrev mL_reduction : ax_M := (yL_reduction, cL_reduction, 4, (some .int), [(0, 9, 12, 19), (0, 9, 15, 25)], 3)
abbrev mL_reductionCount : ax_M := (yL_reductionCount, cL_reductionCount, 3, (some .int), [(0, 8, 11, 19)], 2)
abbrev mL_select : ax_M := (yL_select, cL_select, 5, (some .int), [(0, 10, 13, 25), (0, 10, 17, 19)], 4)
abbrev mL_setRange : ax_M := (yL_setRange, cL_setRange, 5, (some .int), [(0, 17, 20, 13)], 4)
abbrev mL_tell : ax_M := (yL_tell, cL_tell, 4, (some .int), [(0, 9, 12, 13), (0, 9, 15, 19)], 3)
abbrev mL_total : ax_M := (yL_total, cL_total, 5, (some .int), [(0, 10, 13, 25), (0, 10, 17, 13), (0, 10, 21, 19)], 4)
abbrev mX0_append : ax_M := (yX0_append, cX0_append, 2, none, [], 1)
abbrev mX0_appendValue : ax_M := (yX0_appendValue, cX0_appendValue, 5, none, [], 2)
abbrev mX0_at : ax_M := (yX0_at, cX0_at, 2, (some .int), [], 1)
abbrev mX0_init : ax_M := (yX0_init, cX0_init, 1, none, [], 0)
abbrev mX0_write : ax_M := (yX0_write, cX0_write, 2, none, [], 1)
abbrev mX1_allowsParameters : ax_M := (yX1_allowsParameters, cX1_allowsParameters, 5, (some .boolean), [], 3)
abbrev mX1_append : ax_M := (yX1_append, cX1_append, 7, none, [], 5)
abbrev mX1_conditionOf : ax_M := (yX1_conditionOf, cX1_conditionOf, 2, (some .int), [], 1)
abbrev mX1_hasConstructor : ax_M := (yX1_hasConstructor, cX1_hasConstructor, 2, (some .boolean), [], 1)
abbrev mX1_hasType : ax_M := (yX1_hasType, cX1_hasType, 2, (some .boolean), [], 1)
abbrev mX1_init : ax_M := (yX1_init, cX1_init, 1, none, [], 0)
abbrev mX1_isParameter : ax_M := (yX1_isParameter, cX1_isParameter, 2, (some .boolean), [], 1)
abbrev mX1_parameter : ax_M := (yX1_parameter, cX1_parameter, 3, (some .int), [], 2)
abbrev mX1_typeOf : ax_M := (yX1_typeOf, cX1_typeOf, 2, (some .int), [], 1)
abbrev mX1_typesFrom : ax_M := (yX1_typesFrom, cX1_typesFrom, 3, (some .int), [], 2)
abbrev mX2_addPartsOf : ax_M := (yX2_addPartsOf, cX2_addPartsOf, 6, none, [], 3)
abbrev mX2_append : ax_M := (yX2_append, cX2_append, 2, none, [], 1)
abbrev mX2_at : ax_M := (yX2_at, cX2_at, 2, (some (.object "DataMaker$Value")), [], 1)
abbrev mX2_collect : ax_M := (yX2_collect, cX2_collect, 5, none, [], 2)
abbrev mX2_firstUnfit : ax_M := (yX2_firstUnfit, cX2_firstUnfit, 4, (some (.object "DataMaker$Value")), [], 1)
abbrev mX2_has : ax_M := (yX2_has, cX2_has, 4, (some .boolean), [], 1)
abbrev mX2_init : ax_M := (yX2_init, cX2_init, 1, none, [], 0)
abbrev mX3_closeSize : ax_M := (yX3_closeSize, cX3_closeSize, 3, none, [], 1)
abbrev mX3_copyToExtend : ax_M := (yX3_copyToExtend, cX3_copyToExtend, 3, (some (.object "DataMaker$Value")), [], 1)
abbrev mX3_extend : ax_M := (yX3_extend, cX3_extend, 6, none, [], 2)
abbrev mX3_extendByNumbers : ax_M := (yX3_extendByNumbers, cX3_extendByNumbers, 5, none, [], 2)
abbrev mX3_extendByParts : ax_M := (yX3_extendByParts, cX3_extendByParts, 11, none, [], 4)
abbrev mX3_find : ax_M := (yX3_find, cX3_find, 5, (some (.object "DataMaker$Value")), [], 1)
abbrev mX3_init : ax_M := (yX3_init, cX3_init, 3, none, [], 1)
abbrev mX3_isHopeless : ax_M := (yX3_isHopeless, cX3_isHopeless, 4, (some .boolean), [], 2)
abbrev mX3_keep : ax_M := (yX3_keep, cX3_keep, 4, none, [], 1)
abbrev mX3_makeSize : ax_M := (yX3_makeSize, cX3_makeSize, 4, none, [], 1)
abbrev mX3_refresh : ax_M := (yX3_refresh, cX3_refresh, 2, none, [], 0)
abbrev mX3_upTo : ax_M := (yX3_upTo, cX3_upTo, 3, (some .int), [], 2)
abbrev mX3_valueAt : ax_M := (yX3_valueAt, cX3_valueAt, 3, (some (.object "DataMaker$Value")), [], 2)
abbrev mX4_append : ax_M := (yX4_append, cX4_append, 2, none, [], 1)
abbrev mX4_init : ax_M := (yX4_init, cX4_init, 3, none, [], 1)
abbrev mX4_next : ax_M := (yX4_next, cX4_next, 1, (some .int), [], 0)
abbrev mX4_parse : ax_M := (yX4_parse, cX4_parse, 3, (some (.object "DataMaker$Value")), [], 1)
abbrev mX4_parseArgument : ax_M := (yX4_parseArgument, cX4_parseArgument, 4, (some .boolean), [], 2)
abbrev mX4_parseValue : ax_M := (yX4_parseValue, cX4_parseValue, 6, (some (.object "DataMaker$Value")), [], 1)
abbrev mX5_addNumber : ax_M := (yX5_addNumber, cX5_addNumber, 2, none, [], 1)
abbrev mX5_addPart : ax_M := (yX5_addPart, cX5_addPart, 2, none, [], 1)
abbrev mX5_begin : ax_M := (yX5_begin, cX5_begin, 3, none, [], 2)
abbrev mX5_clashesWith : ax_M := (yX5_clashesWith, cX5_clashesWith, 3, (some .boolean), [], 2)
abbrev mX5_codeLength : ax_M := (yX5_codeLength, cX5_codeLength, 1, (some .int), [], 0)
abbrev mX5_copyFrom : ax_M := (yX5_copyFrom, cX5_copyFrom, 3, none, [], 1)
abbrev mX5_differsFrom : ax_M := (yX5_differsFrom, cX5_differsFrom, 2, (some .int), [], 1)
abbrev mX5_distance : ax_M := (yX5_distance, cX5_distance, 5, (some .int), [], 3)
abbrev mX5_fits : ax_M := (yX5_fits, cX5_fits, 2, (some .boolean), [], 1)
abbrev mX5_init : ax_M := (yX5_init, cX5_init, 1, none, [], 0)
abbrev mX5_joinInts : ax_M := (yX5_joinInts, cX5_joinInts, 4, none, [], 3)
abbrev mX5_partAt : ax_M := (yX5_partAt, cX5_partAt, 2, (some (.object "DataMaker$Value")), [], 1)
abbrev mX5_partsDiffer : ax_M := (yX5_partsDiffer, cX5_partsDiffer, 1, (some .int), [], 0)
abbrev mX6_addConstructor : ax_M := (yX6_addConstructor, cX6_addConstructor, 6, (some .int), [], 5)
abbrev mX6_addType : ax_M := (yX6_addType, cX6_addType, 1, (some .int), [], 0)
abbrev mX6_chosen : ax_M := (yX6_chosen, cX6_chosen, 1, (some (.object "DataMaker$Value")), [], 0)
abbrev mX6_code : ax_M := (yX6_code, cX6_code, 3, (some .int), [], 1)
abbrev mX6_count : ax_M := (yX6_count, cX6_count, 3, (some .int), [], 2)
abbrev mX6_digest : ax_M := (yX6_digest, cX6_digest, 5, (some .long), [], 0)
abbrev mX6_draw : ax_M := (yX6_draw, cX6_draw, 10, (some .int), [], 3)
abbrev mX6_firstAgainst : ax_M := (yX6_firstAgainst, cX6_firstAgainst, 7, (some .int), [], 3)
abbrev mX6_forgetValues : ax_M := (yX6_forgetValues, cX6_forgetValues, 1, none, [], 0)
abbrev mX6_height : ax_M := (yX6_height, cX6_height, 1, (some .int), [], 0)
abbrev mX6_holds : ax_M := (yX6_holds, cX6_holds, 3, (some .boolean), [], 1)
abbrev mX6_horizon : ax_M := (yX6_horizon, cX6_horizon, 1, (some .int), [], 0)
abbrev mX6_init : ax_M := (yX6_init, cX6_init, 1, none, [], 0)
abbrev mX6_length : ax_M := (yX6_length, cX6_length, 1, (some .int), [], 0)
abbrev mX6_mean : ax_M := (yX6_mean, cX6_mean, 2, (some .double), [], 0)
abbrev mX6_number : ax_M := (yX6_number, cX6_number, 1, (some .int), [], 0)
abbrev mX6_read : ax_M := (yX6_read, cX6_read, 4, (some .int), [], 1)
abbrev mX6_reduce : ax_M := (yX6_reduce, cX6_reduce, 5, (some .int), [], 1)
abbrev mX6_reduction : ax_M := (yX6_reduction, cX6_reduction, 3, (some .int), [], 1)
abbrev mX6_reductionCount : ax_M := (yX6_reductionCount, cX6_reductionCount, 1, (some .int), [], 0)
abbrev mX6_requireKnown : ax_M := (yX6_requireKnown, cX6_requireKnown, 2, none, [], 1)
abbrev mX6_requireProperty : ax_M := (yX6_requireProperty, cX6_requireProperty, 2, none, [], 1)
abbrev mX6_requireSize : ax_M := (yX6_requireSize, cX6_requireSize, 2, none, [], 1)
abbrev mX6_requireType : ax_M := (yX6_requireType, cX6_requireType, 2, none, [], 1)
abbrev mX6_select : ax_M := (yX6_select, cX6_select, 4, (some .int), [], 2)
abbrev mX6_setRange : ax_M := (yX6_setRange, cX6_setRange, 4, (some .boolean), [], 2)
abbrev mX6_tell : ax_M := (yX6_tell, cX6_tell, 4, (some .int), [], 1)
abbrev mX6_total : ax_M := (yX6_total, cX6_total, 3, (some .int), [], 2)
abbrev mX6_typeCount : ax_M := (yX6_typeCount, cX6_typeCount, 1, (some .int), [], 0)
abbrev mX7_add : ax_M := (yX7_add, cX7_add, 4, none, [], 1)
abbrev mX7_addConstructor : ax_M := (yX7_addConstructor, cX7_addConstructor, 10, (some .int), [], 5)
abbrev mX7_addType : ax_M := (yX7_addType, cX7_addType, 1, (some .int), [], 0)
abbrev mX7_asks : ax_M := (yX7_asks, cX7_asks, 3, (some .boolean), [], 2)
abbrev mX7_change : ax_M := (yX7_change, cX7_change, 1, none, [], 0)
abbrev mX7_choices : ax_M := (yX7_choices, cX7_choices, 6, (some (.array (.array .int))), [], 2)
abbrev mX7_choose : ax_M := (yX7_choose, cX7_choose, 3, none, [], 2)
abbrev mX7_code : ax_M := (yX7_code, cX7_code, 3, (some .int), [], 1)
abbrev mX7_constructorsIn : ax_M := (yX7_constructorsIn, cX7_constructorsIn, 3, (some .int), [], 1)
abbrev mX7_count : ax_M := (yX7_count, cX7_count, 3, (some .int), [], 2)
abbrev mX7_current : ax_M := (yX7_current, cX7_current, 1, (some .int), [], 0)
abbrev mX7_digest : ax_M := (yX7_digest, cX7_digest, 7, (some .long), [], 0)
abbrev mX7_draw : ax_M := (yX7_draw, cX7_draw, 9, (some .int), [], 3)
abbrev mX7_end : ax_M := (yX7_end, cX7_end, 6, (some .int), [], 2)
abbrev mX7_fail : ax_M := (yX7_fail, cX7_fail, 2, (some .int), [], 1)
abbrev mX7_find : ax_M := (yX7_find, cX7_find, 8, (some .int), [], 3)
abbrev mX7_findReductions : ax_M := (yX7_findReductions, cX7_findReductions, 6, none, [], 0)
abbrev mX7_firstAgainst : ax_M := (yX7_firstAgainst, cX7_firstAgainst, 6, (some .int), [], 3)
abbrev mX7_has : ax_M := (yX7_has, cX7_has, 1, (some .boolean), [], 0)
abbrev mX7_height : ax_M := (yX7_height, cX7_height, 1, (some .int), [], 0)
abbrev mX7_holds : ax_M := (yX7_holds, cX7_holds, 2, (some .boolean), [], 1)
abbrev mX7_horizon : ax_M := (yX7_horizon, cX7_horizon, 1, (some .int), [], 0)
abbrev mX7_init : ax_M := (yX7_init, cX7_init, 1, none, [], 0)
abbrev mX7_isIn : ax_M := (yX7_isIn, cX7_isIn, 3, (some .boolean), [], 3)
abbrev mX7_isTrue : ax_M := (yX7_isTrue, cX7_isTrue, 15, (some .boolean), [], 6)
abbrev mX7_isTrueOf : ax_M := (yX7_isTrueOf, cX7_isTrueOf, 10, (some .boolean), [], 2)
abbrev mX7_isType : ax_M := (yX7_isType, cX7_isType, 2, (some .boolean), [], 1)
abbrev mX7_length : ax_M := (yX7_length, cX7_length, 1, (some .int), [], 0)
abbrev mX7_look : ax_M := (yX7_look, cX7_look, 12, (some .int), [], 4)
abbrev mX7_make : ax_M := (yX7_make, cX7_make, 5, none, [], 0)
abbrev mX7_mean : ax_M := (yX7_mean, cX7_mean, 7, (some .double), [], 0)
abbrev mX7_number : ax_M := (yX7_number, cX7_number, 1, (some .int), [], 0)
abbrev mX7_read : ax_M := (yX7_read, cX7_read, 5, (some .int), [], 1)
abbrev mX7_reduce : ax_M := (yX7_reduce, cX7_reduce, 6, (some .int), [], 1)
abbrev mX7_reduction : ax_M := (yX7_reduction, cX7_reduction, 2, (some .int), [], 1)
abbrev mX7_reductionCount : ax_M := (yX7_reductionCount, cX7_reductionCount, 1, (some .int), [], 0)
abbrev mX7_select : ax_M := (yX7_select, cX7_select, 3, (some .int), [], 2)
abbrev mX7_setRange : ax_M := (yX7_setRange, cX7_setRange, 4, (some .boolean), [], 2)
abbrev mX7_tell : ax_M := (yX7_tell, cX7_tell, 2, (some .int), [], 1)
abbrev mX7_thrown : ax_M := (yX7_thrown, cX7_thrown, 1, (some .int), [], 0)
abbrev mX7_total : ax_M := (yX7_total, cX7_total, 3, (some .int), [], 2)
abbrev mX7_typeCount : ax_M := (yX7_typeCount, cX7_typeCount, 1, (some .int), [], 0)
abbrev mX7_upTo : ax_M := (yX7_upTo, cX7_upTo, 5, (some .int), [], 2)
abbrev mX7_value : ax_M := (yX7_value, cX7_value, 3, (some .int), [], 2)
abbrev mX7_write : ax_M := (yX7_write, cX7_write, 21, (some .boolean), [], 2)
theorem inA1 : ∀ w ∈ u_ws RX1 TX1 8, w ∈ ax_all := by decide +kernel
theorem inA2 : ∀ w ∈ u_ws RX2 TX2 2, w ∈ ax_all := by decide +kernel
theorem inA3 : ∀ w ∈ u_ws RX3 TX3 10, w ∈ ax_all := by decide +kernel
theorem inA4 : ∀ w ∈ u_ws RX4 TX4 6, w ∈ ax_all := by decide +kernel
theorem inA5 : ∀ w ∈ u_ws RX5 TX5 16, w ∈ ax_all := by decide +kernel
theorem inA6 : ∀ w ∈ u_ws RX6 TX6 6, w ∈ ax_all := by decide +kernel
theorem inA7 : ∀ w ∈ u_ws RX7 TX7 25, w ∈ ax_all := by decide +kernel
theorem okL_addConstructor : ax_ok mL_addConstructor := ⟨by decide +kernel, by decide +kernel, by decide +kernel, by decide +kernel, by decide, (ax_t1 (i := 0) rfl rfl)⟩
theorem cdL_addConstructor : Cond.codeWith yL_addConstructor cL_addConstructor 8 (some .int) [(0, 16, 19, 25), (0, 16, 23, 13), (0, 16, 27, 19)] ∈ ax_all := (ax_t3 (i := 18) rfl rfl)
theorem okL_addType : ax_ok mL_addType := ⟨by decide +kernel, by decide +kernel, by decide +kernel, by decide +kernel, by decide, (ax_t1 (i := 0) rfl rfl)⟩
theorem cdL_addType : Cond.codeWith yL_addType cL_addType 3 (some .int) [(0, 8, 11, 19)] ∈ ax_all := (ax_t2 (i := 234) rfl rfl)
theorem okL_code : ax_ok mL_code := ⟨by decide +kernel, by decide +kernel, by decide +kernel, by decide +kernel, by decide, (ax_t1 (i := 0) rfl rfl)⟩
theorem cdL_code : Cond.codeWith yL_code cL_code 4 (some .int) [(0, 9, 12, 19), (0, 9, 15, 25)] ∈ ax_all := (ax_t3 (i := 212) rfl rfl)
theorem okL_count : ax_ok mL_count := ⟨by decide +kernel, by decide +kernel, by decide +kernel, by decide +kernel, by decide, (ax_t1 (i := 0) rfl rfl)⟩
theorem cdL_count : Cond.codeWith yL_count cL_count 5 (some .int) [(0, 10, 13, 25), (0, 10, 17, 13), (0, 10, 21, 19)] ∈ ax_all := (ax_t3 (i := 66) rfl rfl)
theorem okL_draw : ax_ok mL_draw := ⟨by decide +kernel, by decide +kernel, by decide +kernel, by decide +kernel, by decide, (ax_t1 (i := 0) rfl rfl)⟩
theorem cdL_draw : Cond.codeWith yL_draw cL_draw 7 (some .int) [(0, 12, 15, 25), (0, 12, 19, 13), (0, 12, 23, 19), (0, 12, 27, 45)] ∈ ax_all := (ax_t3 (i := 114) rfl rfl)
theorem okL_firstAgainst : ax_ok mL_firstAgainst := ⟨by decide +kernel, by decide +kernel, by decide +kernel, by decide +kernel, by decide, (ax_t1 (i := 0) rfl rfl)⟩
theorem cdL_firstAgainst : Cond.codeWith yL_firstAgainst cL_firstAgainst 6 (some .int) [(0, 12, 15, 25), (0, 12, 19, 13), (0, 12, 23, 19)] ∈ ax_all := (ax_t3 (i := 91) rfl rfl)
theorem okL_height : ax_ok mL_height := ⟨by decide +kernel, by decide +kernel, by decide +kernel, by decide +kernel, by decide, (ax_t1 (i := 0) rfl rfl)⟩
theorem cdL_height : Cond.codeWith yL_height cL_height 3 (some .int) [(0, 8, 11, 19)] ∈ ax_all := (ax_t3 (i := 227) rfl rfl)
theorem okL_holds : ax_ok mL_holds := ⟨by decide +kernel, by decide +kernel, by decide +kernel, by decide +kernel, by decide, (ax_t1 (i := 0) rfl rfl)⟩
theorem cdL_holds : Cond.codeWith yL_holds cL_holds 4 (some .int) [(0, 16, 19, 19), (0, 16, 22, 13)] ∈ ax_all := (ax_t4 (i := 1) rfl rfl)
theorem okL_length : ax_ok mL_length := ⟨by decide +kernel, by decide +kernel, by decide +kernel, by decide +kernel, by decide, (ax_t1 (i := 0) rfl rfl)⟩
theorem cdL_length : Cond.codeWith yL_length cL_length 3 (some .int) [(0, 8, 11, 19)] ∈ ax_all := (ax_t3 (i := 196) rfl rfl)
theorem okL_mean : ax_ok mL_mean := ⟨by decide +kernel, by decide +kernel, by decide +kernel, by decide +kernel, by decide, (ax_t1 (i := 0) rfl rfl)⟩
theorem cdL_mean : Cond.codeWith yL_mean cL_mean 3 (some .int) [(0, 7, 10, 19)] ∈ ax_all := (ax_t3 (i := 234) rfl rfl)
theorem okL_number : ax_ok mL_number := ⟨by decide +kernel, by decide +kernel, by decide +kernel, by decide +kernel, by decide, (ax_t1 (i := 0) rfl rfl)⟩
theorem cdL_number : Cond.codeWith yL_number cL_number 3 (some .int) [(0, 8, 11, 19)] ∈ ax_all := (ax_t3 (i := 220) rfl rfl)
theorem okL_read : ax_ok mL_read := ⟨by decide +kernel, by decide +kernel, by decide +kernel, by decide +kernel, by decide, (ax_t1 (i := 0) rfl rfl)⟩
theorem cdL_read : Cond.codeWith yL_read cL_read 4 (some .int) [(0, 9, 12, 25), (0, 9, 15, 19)] ∈ ax_all := (ax_t3 (i := 153) rfl rfl)
theorem okL_reduce : ax_ok mL_reduce := ⟨by decide +kernel, by decide +kernel, by decide +kernel, by decide +kernel, by decide, (ax_t1 (i := 0) rfl rfl)⟩
theorem cdL_reduce : Cond.codeWith yL_reduce cL_reduce 4 (some .int) [(0, 9, 12, 19), (0, 9, 15, 13)] ∈ ax_all := (ax_t4 (i := 48) rfl rfl)
theorem okL_reduction : ax_ok mL_reduction := ⟨by decide +kernel, by decide +kernel, by decide +kernel, by decide +kernel, by decide, (ax_t1 (i := 0) rfl rfl)⟩
theorem cdL_reduction : Cond.codeWith yL_reduction cL_reduction 4 (some .int) [(0, 9, 12, 19), (0, 9, 15, 25)] ∈ ax_all := (ax_t4 (i := 39) rfl rfl)
theorem okL_reductionCount : ax_ok mL_reductionCount := ⟨by decide +kernel, by decide +kernel, by decide +kernel, by decide +kernel, by decide, (ax_t1 (i := 0) rfl rfl)⟩
theorem cdL_reductionCount : Cond.codeWith yL_reductionCount cL_reductionCount 3 (some .int) [(0, 8, 11, 19)] ∈ ax_all := (ax_t4 (i := 8) rfl rfl)
theorem okL_select : ax_ok mL_select := ⟨by decide +kernel, by decide +kernel, by decide +kernel, by decide +kernel, by decide, (ax_t1 (i := 0) rfl rfl)⟩
theorem cdL_select : Cond.codeWith yL_select cL_select 5 (some .int) [(0, 10, 13, 25), (0, 10, 17, 19)] ∈ ax_all := (ax_t3 (i := 105) rfl rfl)
theorem okL_setRange : ax_ok mL_setRange := ⟨by decide +kernel, by decide +kernel, by decide +kernel, by decide +kernel, by decide, (ax_t1 (i := 0) rfl rfl)⟩
theorem cdL_setRange : Cond.codeWith yL_setRange cL_setRange 5 (some .int) [(0, 17, 20, 13)] ∈ ax_all := (ax_t2 (i := 153) rfl rfl)
theorem okL_tell : ax_ok mL_tell := ⟨by decide +kernel, by decide +kernel, by decide +kernel, by decide +kernel, by decide, (ax_t1 (i := 0) rfl rfl)⟩
theorem cdL_tell : Cond.codeWith yL_tell cL_tell 4 (some .int) [(0, 9, 12, 13), (0, 9, 15, 19)] ∈ ax_all := (ax_t3 (i := 140) rfl rfl)
theorem okL_total : ax_ok mL_total := ⟨by decide +kernel, by decide +kernel, by decide +kernel, by decide +kernel, by decide, (ax_t1 (i := 0) rfl rfl)⟩
theorem cdL_total : Cond.codeWith yL_total cL_total 5 (some .int) [(0, 10, 13, 25), (0, 10, 17, 13), (0, 10, 21, 19)] ∈ ax_all := (ax_t3 (i := 84) rfl rfl)
theorem okX0_append : ax_ok mX0_append := ⟨by decide +kernel, by decide +kernel, by decide +kernel, by decide +kernel, by decide, (ax_t1 (i := 6) rfl rfl)⟩
theorem cdX0_append : Cond.code yX0_append cX0_append 2 none ∈ ax_all := (ax_t2 (i := 142) rfl rfl)
theorem okX0_appendValue : ax_ok mX0_appendValue := ⟨by decide +kernel, by decide +kernel, by decide +kernel, by decide +kernel, by decide, (ax_t1 (i := 6) rfl rfl)⟩
theorem cdX0_appendValue : Cond.code yX0_appendValue cX0_appendValue 5 none ∈ ax_all := (ax_t2 (i := 138) rfl rfl)
theorem okX0_at : ax_ok mX0_at := ⟨by decide +kernel, by decide +kernel, by decide +kernel, by decide +kernel, by decide, (ax_t1 (i := 6) rfl rfl)⟩
theorem cdX0_at : Cond.code yX0_at cX0_at 2 (some .int) ∈ ax_all := (ax_t2 (i := 150) rfl rfl)
theorem okX0_init : ax_ok mX0_init := ⟨by decide +kernel, by decide +kernel, by decide +kernel, by decide +kernel, by decide, (ax_t1 (i := 6) rfl rfl)⟩
theorem cdX0_init : Cond.code yX0_init cX0_init 1 none ∈ ax_all := (ax_t1 (i := 211) rfl rfl)
theorem okX0_write : ax_ok mX0_write := ⟨by decide +kernel, by decide +kernel, by decide +kernel, by decide +kernel, by decide, (ax_t1 (i := 6) rfl rfl)⟩
theorem cdX0_write : Cond.code yX0_write cX0_write 2 none ∈ ax_all := (ax_t2 (i := 134) rfl rfl)
theorem okX1_allowsParameters : ax_ok mX1_allowsParameters := ⟨by decide +kernel, by decide +kernel, by decide +kernel, by decide +kernel, by decide, (ax_t1 (i := 2) rfl rfl)⟩
theorem cdX1_allowsParameters : Cond.code yX1_allowsParameters cX1_allowsParameters 5 (some .boolean) ∈ ax_all := (ax_t3 (i := 51) rfl rfl)
theorem okX1_append : ax_ok mX1_append := ⟨by decide +kernel, by decide +kernel, by decide +kernel, by decide +kernel, by decide, (ax_t1 (i := 2) rfl rfl)⟩
theorem cdX1_append : Cond.code yX1_append cX1_append 7 none ∈ ax_all := (ax_t3 (i := 63) rfl rfl)
theorem okX1_conditionOf : ax_ok mX1_conditionOf := ⟨by decide +kernel, by decide +kernel, by decide +kernel, by decide +kernel, by decide, (ax_t1 (i := 2) rfl rfl)⟩
theorem cdX1_conditionOf : Cond.code yX1_conditionOf cX1_conditionOf 2 (some .int) ∈ ax_all := (ax_t2 (i := 62) rfl rfl)
theorem okX1_hasConstructor : ax_ok mX1_hasConstructor := ⟨by decide +kernel, by decide +kernel, by decide +kernel, by decide +kernel, by decide, (ax_t1 (i := 2) rfl rfl)⟩
theorem cdX1_hasConstructor : Cond.code yX1_hasConstructor cX1_hasConstructor 2 (some .boolean) ∈ ax_all := (ax_t2 (i := 38) rfl rfl)
theorem okX1_hasType : ax_ok mX1_hasType := ⟨by decide +kernel, by decide +kernel, by decide +kernel, by decide +kernel, by decide, (ax_t1 (i := 2) rfl rfl)⟩
theorem cdX1_hasType : Cond.code yX1_hasType cX1_hasType 2 (some .boolean) ∈ ax_all := (ax_t3 (i := 31) rfl rfl)
theorem okX1_init : ax_ok mX1_init := ⟨by decide +kernel, by decide +kernel, by decide +kernel, by decide +kernel, by decide, (ax_t1 (i := 2) rfl rfl)⟩
theorem cdX1_init : Cond.code yX1_init cX1_init 1 none ∈ ax_all := (ax_t1 (i := 30) rfl rfl)
theorem okX1_isParameter : ax_ok mX1_isParameter := ⟨by decide +kernel, by decide +kernel, by decide +kernel, by decide +kernel, by decide, (ax_t1 (i := 2) rfl rfl)⟩
theorem cdX1_isParameter : Cond.code yX1_isParameter cX1_isParameter 2 (some .boolean) ∈ ax_all := (ax_t3 (i := 55) rfl rfl)
theorem okX1_parameter : ax_ok mX1_parameter := ⟨by decide +kernel, by decide +kernel, by decide +kernel, by decide +kernel, by decide, (ax_t1 (i := 2) rfl rfl)⟩
theorem cdX1_parameter : Cond.code yX1_parameter cX1_parameter 3 (some .int) ∈ ax_all := (ax_t2 (i := 50) rfl rfl)
theorem okX1_typeOf : ax_ok mX1_typeOf := ⟨by decide +kernel, by decide +kernel, by decide +kernel, by decide +kernel, by decide, (ax_t1 (i := 2) rfl rfl)⟩
theorem cdX1_typeOf : Cond.code yX1_typeOf cX1_typeOf 2 (some .int) ∈ ax_all := (ax_t2 (i := 34) rfl rfl)
theorem okX1_typesFrom : ax_ok mX1_typesFrom := ⟨by decide +kernel, by decide +kernel, by decide +kernel, by decide +kernel, by decide, (ax_t1 (i := 2) rfl rfl)⟩
theorem cdX1_typesFrom : Cond.code yX1_typesFrom cX1_typesFrom 3 (some .int) ∈ ax_all := (ax_t2 (i := 54) rfl rfl)
theorem okX2_addPartsOf : ax_ok mX2_addPartsOf := ⟨by decide +kernel, by decide +kernel, by decide +kernel, by decide +kernel, by decide, (ax_t1 (i := 7) rfl rfl)⟩
theorem cdX2_addPartsOf : Cond.code yX2_addPartsOf cX2_addPartsOf 6 none ∈ ax_all := (ax_t4 (i := 20) rfl rfl)
theorem okX2_append : ax_ok mX2_append := ⟨by decide +kernel, by decide +kernel, by decide +kernel, by decide +kernel, by decide, (ax_t1 (i := 7) rfl rfl)⟩
theorem cdX2_append : Cond.code yX2_append cX2_append 2 none ∈ ax_all := (ax_t4 (i := 33) rfl rfl)
theorem okX2_at : ax_ok mX2_at := ⟨by decide +kernel, by decide +kernel, by decide +kernel, by decide +kernel, by decide, (ax_t1 (i := 7) rfl rfl)⟩
theorem cdX2_at : Cond.code yX2_at cX2_at 2 (some (.object "DataMaker$Value")) ∈ ax_all := (ax_t4 (i := 29) rfl rfl)
theorem okX2_collect : ax_ok mX2_collect := ⟨by decide +kernel, by decide +kernel, by decide +kernel, by decide +kernel, by decide, (ax_t1 (i := 7) rfl rfl)⟩
theorem cdX2_collect : Cond.code yX2_collect cX2_collect 5 none ∈ ax_all := (ax_t4 (i := 16) rfl rfl)
theorem okX2_firstUnfit : ax_ok mX2_firstUnfit := ⟨by decide +kernel, by decide +kernel, by decide +kernel, by decide +kernel, by decide, (ax_t1 (i := 7) rfl rfl)⟩
theorem cdX2_firstUnfit : Cond.code yX2_firstUnfit cX2_firstUnfit 4 (some (.object "DataMaker$Value")) ∈ ax_all := (ax_t4 (i := 56) rfl rfl)
theorem okX2_has : ax_ok mX2_has := ⟨by decide +kernel, by decide +kernel, by decide +kernel, by decide +kernel, by decide, (ax_t1 (i := 7) rfl rfl)⟩
theorem cdX2_has : Cond.code yX2_has cX2_has 4 (some .boolean) ∈ ax_all := (ax_t4 (i := 25) rfl rfl)
theorem okX2_init : ax_ok mX2_init := ⟨by decide +kernel, by decide +kernel, by decide +kernel, by decide +kernel, by decide, (ax_t1 (i := 7) rfl rfl)⟩
theorem cdX2_init : Cond.code yX2_init cX2_init 1 none ∈ ax_all := (ax_t1 (i := 225) rfl rfl)
theorem okX3_closeSize : ax_ok mX3_closeSize := ⟨by decide +kernel, by decide +kernel, by decide +kernel, by decide +kernel, by decide, (ax_t1 (i := 3) rfl rfl)⟩
theorem cdX3_closeSize : Cond.code yX3_closeSize cX3_closeSize 3 none ∈ ax_all := (ax_t2 (i := 121) rfl rfl)
theorem okX3_copyToExtend : ax_ok mX3_copyToExtend := ⟨by decide +kernel, by decide +kernel, by decide +kernel, by decide +kernel, by decide, (ax_t1 (i := 3) rfl rfl)⟩
theorem cdX3_copyToExtend : Cond.code yX3_copyToExtend cX3_copyToExtend 3 (some (.object "DataMaker$Value")) ∈ ax_all := (ax_t2 (i := 86) rfl rfl)
theorem okX3_extend : ax_ok mX3_extend := ⟨by decide +kernel, by decide +kernel, by decide +kernel, by decide +kernel, by decide, (ax_t1 (i := 3) rfl rfl)⟩
theorem cdX3_extend : Cond.code yX3_extend cX3_extend 6 none ∈ ax_all := (ax_t2 (i := 46) rfl rfl)
theorem okX3_extendByNumbers : ax_ok mX3_extendByNumbers := ⟨by decide +kernel, by decide +kernel, by decide +kernel, by decide +kernel, by decide, (ax_t1 (i := 3) rfl rfl)⟩
theorem cdX3_extendByNumbers : Cond.code yX3_extendByNumbers cX3_extendByNumbers 5 none ∈ ax_all := (ax_t2 (i := 82) rfl rfl)
theorem okX3_extendByParts : ax_ok mX3_extendByParts := ⟨by decide +kernel, by decide +kernel, by decide +kernel, by decide +kernel, by decide, (ax_t1 (i := 3) rfl rfl)⟩
theorem cdX3_extendByParts : Cond.code yX3_extendByParts cX3_extendByParts 11 none ∈ ax_all := (ax_t2 (i := 98) rfl rfl)
theorem okX3_find : ax_ok mX3_find := ⟨by decide +kernel, by decide +kernel, by decide +kernel, by decide +kernel, by decide, (ax_t1 (i := 3) rfl rfl)⟩
theorem cdX3_find : Cond.code yX3_find cX3_find 5 (some (.object "DataMaker$Value")) ∈ ax_all := (ax_t3 (i := 186) rfl rfl)
theorem okX3_init : ax_ok mX3_init := ⟨by decide +kernel, by decide +kernel, by decide +kernel, by decide +kernel, by decide, (ax_t1 (i := 3) rfl rfl)⟩
theorem cdX3_init : Cond.code yX3_init cX3_init 3 none ∈ ax_all := (ax_t1 (i := 71) rfl rfl)
theorem okX3_isHopeless : ax_ok mX3_isHopeless := ⟨by decide +kernel, by decide +kernel, by decide +kernel, by decide +kernel, by decide, (ax_t1 (i := 3) rfl rfl)⟩
theorem cdX3_isHopeless : Cond.code yX3_isHopeless cX3_isHopeless 4 (some .boolean) ∈ ax_all := (ax_t2 (i := 58) rfl rfl)
theorem okX3_keep : ax_ok mX3_keep := ⟨by decide +kernel, by decide +kernel, by decide +kernel, by decide +kernel, by decide, (ax_t1 (i := 3) rfl rfl)⟩
theorem cdX3_keep : Cond.code yX3_keep cX3_keep 4 none ∈ ax_all := (ax_t2 (i := 74) rfl rfl)
theorem okX3_makeSize : ax_ok mX3_makeSize := ⟨by decide +kernel, by decide +kernel, by decide +kernel, by decide +kernel, by decide, (ax_t1 (i := 3) rfl rfl)⟩
theorem cdX3_makeSize : Cond.code yX3_makeSize cX3_makeSize 4 none ∈ ax_all := (ax_t2 (i := 30) rfl rfl)
theorem okX3_refresh : ax_ok mX3_refresh := ⟨by decide +kernel, by decide +kernel, by decide +kernel, by decide +kernel, by decide, (ax_t1 (i := 3) rfl rfl)⟩
theorem cdX3_refresh : Cond.code yX3_refresh cX3_refresh 2 none ∈ ax_all := (ax_t2 (i := 26) rfl rfl)
theorem okX3_upTo : ax_ok mX3_upTo := ⟨by decide +kernel, by decide +kernel, by decide +kernel, by decide +kernel, by decide, (ax_t1 (i := 3) rfl rfl)⟩
theorem cdX3_upTo : Cond.code yX3_upTo cX3_upTo 3 (some .int) ∈ ax_all := (ax_t2 (i := 102) rfl rfl)
theorem okX3_valueAt : ax_ok mX3_valueAt := ⟨by decide +kernel, by decide +kernel, by decide +kernel, by decide +kernel, by decide, (ax_t1 (i := 3) rfl rfl)⟩
theorem cdX3_valueAt : Cond.code yX3_valueAt cX3_valueAt 3 (some (.object "DataMaker$Value")) ∈ ax_all := (ax_t2 (i := 106) rfl rfl)
theorem okX4_append : ax_ok mX4_append := ⟨by decide +kernel, by decide +kernel, by decide +kernel, by decide +kernel, by decide, (ax_t1 (i := 5) rfl rfl)⟩
theorem cdX4_append : Cond.code yX4_append cX4_append 2 none ∈ ax_all := (ax_t3 (i := 150) rfl rfl)
theorem okX4_init : ax_ok mX4_init := ⟨by decide +kernel, by decide +kernel, by decide +kernel, by decide +kernel, by decide, (ax_t1 (i := 5) rfl rfl)⟩
theorem cdX4_init : Cond.code yX4_init cX4_init 3 none ∈ ax_all := (ax_t1 (i := 183) rfl rfl)
theorem okX4_next : ax_ok mX4_next := ⟨by decide +kernel, by decide +kernel, by decide +kernel, by decide +kernel, by decide, (ax_t1 (i := 5) rfl rfl)⟩
theorem cdX4_next : Cond.code yX4_next cX4_next 1 (some .int) ∈ ax_all := (ax_t3 (i := 169) rfl rfl)
theorem okX4_parse : ax_ok mX4_parse := ⟨by decide +kernel, by decide +kernel, by decide +kernel, by decide +kernel, by decide, (ax_t1 (i := 5) rfl rfl)⟩
theorem cdX4_parse : Cond.code yX4_parse cX4_parse 3 (some (.object "DataMaker$Value")) ∈ ax_all := (ax_t3 (i := 161) rfl rfl)
theorem okX4_parseArgument : ax_ok mX4_parseArgument := ⟨by decide +kernel, by decide +kernel, by decide +kernel, by decide +kernel, by decide, (ax_t1 (i := 5) rfl rfl)⟩
theorem cdX4_parseArgument : Cond.code yX4_parseArgument cX4_parseArgument 4 (some .boolean) ∈ ax_all := (ax_t3 (i := 177) rfl rfl)
theorem okX4_parseValue : ax_ok mX4_parseValue := ⟨by decide +kernel, by decide +kernel, by decide +kernel, by decide +kernel, by decide, (ax_t1 (i := 5) rfl rfl)⟩
theorem cdX4_parseValue : Cond.code yX4_parseValue cX4_parseValue 6 (some (.object "DataMaker$Value")) ∈ ax_all := (ax_t3 (i := 165) rfl rfl)
theorem okX5_addNumber : ax_ok mX5_addNumber := ⟨by decide +kernel, by decide +kernel, by decide +kernel, by decide +kernel, by decide, (ax_t1 (i := 4) rfl rfl)⟩
theorem cdX5_addNumber : Cond.code yX5_addNumber cX5_addNumber 2 none ∈ ax_all := (ax_t2 (i := 90) rfl rfl)
theorem okX5_addPart : ax_ok mX5_addPart := ⟨by decide +kernel, by decide +kernel, by decide +kernel, by decide +kernel, by decide, (ax_t1 (i := 4) rfl rfl)⟩
theorem cdX5_addPart : Cond.code yX5_addPart cX5_addPart 2 none ∈ ax_all := (ax_t2 (i := 117) rfl rfl)
theorem okX5_begin : ax_ok mX5_begin := ⟨by decide +kernel, by decide +kernel, by decide +kernel, by decide +kernel, by decide, (ax_t1 (i := 4) rfl rfl)⟩
theorem cdX5_begin : Cond.code yX5_begin cX5_begin 3 none ∈ ax_all := (ax_t2 (i := 42) rfl rfl)
theorem okX5_clashesWith : ax_ok mX5_clashesWith := ⟨by decide +kernel, by decide +kernel, by decide +kernel, by decide +kernel, by decide, (ax_t1 (i := 4) rfl rfl)⟩
theorem cdX5_clashesWith : Cond.code yX5_clashesWith cX5_clashesWith 3 (some .boolean) ∈ ax_all := (ax_t2 (i := 110) rfl rfl)
theorem okX5_codeLength : ax_ok mX5_codeLength := ⟨by decide +kernel, by decide +kernel, by decide +kernel, by decide +kernel, by decide, (ax_t1 (i := 4) rfl rfl)⟩
theorem cdX5_codeLength : Cond.code yX5_codeLength cX5_codeLength 1 (some .int) ∈ ax_all := (ax_t3 (i := 209) rfl rfl)
theorem okX5_copyFrom : ax_ok mX5_copyFrom := ⟨by decide +kernel, by decide +kernel, by decide +kernel, by decide +kernel, by decide, (ax_t1 (i := 4) rfl rfl)⟩
theorem cdX5_copyFrom : Cond.code yX5_copyFrom cX5_copyFrom 3 none ∈ ax_all := (ax_t2 (i := 78) rfl rfl)
theorem okX5_differsFrom : ax_ok mX5_differsFrom := ⟨by decide +kernel, by decide +kernel, by decide +kernel, by decide +kernel, by decide, (ax_t1 (i := 4) rfl rfl)⟩
theorem cdX5_differsFrom : Cond.code yX5_differsFrom cX5_differsFrom 2 (some .int) ∈ ax_all := (ax_t3 (i := 190) rfl rfl)
theorem okX5_distance : ax_ok mX5_distance := ⟨by decide +kernel, by decide +kernel, by decide +kernel, by decide +kernel, by decide, (ax_t1 (i := 4) rfl rfl)⟩
theorem cdX5_distance : Cond.code yX5_distance cX5_distance 5 (some .int) ∈ ax_all := (ax_t3 (i := 193) rfl rfl)
theorem okX5_fits : ax_ok mX5_fits := ⟨by decide +kernel, by decide +kernel, by decide +kernel, by decide +kernel, by decide, (ax_t1 (i := 4) rfl rfl)⟩
theorem cdX5_fits : Cond.code yX5_fits cX5_fits 2 (some .boolean) ∈ ax_all := (ax_t2 (i := 66) rfl rfl)
theorem okX5_init : ax_ok mX5_init := ⟨by decide +kernel, by decide +kernel, by decide +kernel, by decide +kernel, by decide, (ax_t1 (i := 4) rfl rfl)⟩
theorem cdX5_init : Cond.code yX5_init cX5_init 1 none ∈ ax_all := (ax_t1 (i := 78) rfl rfl)
theorem okX5_joinInts : ax_ok mX5_joinInts := ⟨by decide +kernel, by decide +kernel, by decide +kernel, by decide +kernel, by decide, (ax_t1 (i := 4) rfl rfl)⟩
theorem cdX5_joinInts : Cond.code yX5_joinInts cX5_joinInts 4 none ∈ ax_all := (ax_t2 (i := 94) rfl rfl)
theorem okX5_partAt : ax_ok mX5_partAt := ⟨by decide +kernel, by decide +kernel, by decide +kernel, by decide +kernel, by decide, (ax_t1 (i := 4) rfl rfl)⟩
theorem cdX5_partAt : Cond.code yX5_partAt cX5_partAt 2 (some (.object "DataMaker$Value")) ∈ ax_all := (ax_t2 (i := 146) rfl rfl)
theorem okX5_partsDiffer : ax_ok mX5_partsDiffer := ⟨by decide +kernel, by decide +kernel, by decide +kernel, by decide +kernel, by decide, (ax_t1 (i := 4) rfl rfl)⟩
theorem cdX5_partsDiffer : Cond.code yX5_partsDiffer cX5_partsDiffer 1 (some .int) ∈ ax_all := (ax_t2 (i := 70) rfl rfl)
theorem okX6_addConstructor : ax_ok mX6_addConstructor := ⟨by decide +kernel, by decide +kernel, by decide +kernel, by decide +kernel, by decide, (ax_t1 (i := 1) rfl rfl)⟩
theorem cdX6_addConstructor : Cond.code yX6_addConstructor cX6_addConstructor 6 (some .int) ∈ ax_all := (ax_t3 (i := 23) rfl rfl)
theorem okX6_addType : ax_ok mX6_addType := ⟨by decide +kernel, by decide +kernel, by decide +kernel, by decide +kernel, by decide, (ax_t1 (i := 1) rfl rfl)⟩
theorem cdX6_addType : Cond.code yX6_addType cX6_addType 1 (some .int) ∈ ax_all := (ax_t2 (i := 239) rfl rfl)
theorem okX6_chosen : ax_ok mX6_chosen := ⟨by decide +kernel, by decide +kernel, by decide +kernel, by decide +kernel, by decide, (ax_t1 (i := 1) rfl rfl)⟩
theorem cdX6_chosen : Cond.code yX6_chosen cX6_chosen 1 (some (.object "DataMaker$Value")) ∈ ax_all := (ax_t3 (i := 204) rfl rfl)
theorem okX6_code : ax_ok mX6_code := ⟨by decide +kernel, by decide +kernel, by decide +kernel, by decide +kernel, by decide, (ax_t1 (i := 1) rfl rfl)⟩
theorem cdX6_code : Cond.code yX6_code cX6_code 3 (some .int) ∈ ax_all := (ax_t3 (i := 216) rfl rfl)
theorem okX6_count : ax_ok mX6_count := ⟨by decide +kernel, by decide +kernel, by decide +kernel, by decide +kernel, by decide, (ax_t1 (i := 1) rfl rfl)⟩
theorem cdX6_count : Cond.code yX6_count cX6_count 3 (some .int) ∈ ax_all := (ax_t3 (i := 70) rfl rfl)
theorem okX6_digest : ax_ok mX6_digest := ⟨by decide +kernel, by decide +kernel, by decide +kernel, by decide +kernel, by decide, (ax_t1 (i := 1) rfl rfl)⟩
theorem cdX6_digest : Cond.code yX6_digest cX6_digest 5 (some .long) ∈ ax_all := (ax_t2 (i := 125) rfl rfl)
theorem okX6_draw : ax_ok mX6_draw := ⟨by decide +kernel, by decide +kernel, by decide +kernel, by decide +kernel, by decide, (ax_t1 (i := 1) rfl rfl)⟩
theorem cdX6_draw : Cond.code yX6_draw cX6_draw 10 (some .int) ∈ ax_all := (ax_t3 (i := 119) rfl rfl)
theorem okX6_firstAgainst : ax_ok mX6_firstAgainst := ⟨by decide +kernel, by decide +kernel, by decide +kernel, by decide +kernel, by decide, (ax_t1 (i := 1) rfl rfl)⟩
theorem cdX6_firstAgainst : Cond.code yX6_firstAgainst cX6_firstAgainst 7 (some .int) ∈ ax_all := (ax_t3 (i := 95) rfl rfl)
theorem okX6_forgetValues : ax_ok mX6_forgetValues := ⟨by decide +kernel, by decide +kernel, by decide +kernel, by decide +kernel, by decide, (ax_t1 (i := 1) rfl rfl)⟩
theorem cdX6_forgetValues : Cond.code yX6_forgetValues cX6_forgetValues 1 none ∈ ax_all := (ax_t2 (i := 231) rfl rfl)
theorem okX6_height : ax_ok mX6_height := ⟨by decide +kernel, by decide +kernel, by decide +kernel, by decide +kernel, by decide, (ax_t1 (i := 1) rfl rfl)⟩
theorem cdX6_height : Cond.code yX6_height cX6_height 1 (some .int) ∈ ax_all := (ax_t3 (i := 231) rfl rfl)
theorem okX6_holds : ax_ok mX6_holds := ⟨by decide +kernel, by decide +kernel, by decide +kernel, by decide +kernel, by decide, (ax_t1 (i := 1) rfl rfl)⟩
theorem cdX6_holds : Cond.code yX6_holds cX6_holds 3 (some .boolean) ∈ ax_all := (ax_t4 (i := 5) rfl rfl)
theorem okX6_horizon : ax_ok mX6_horizon := ⟨by decide +kernel, by decide +kernel, by decide +kernel, by decide +kernel, by decide, (ax_t1 (i := 1) rfl rfl)⟩
theorem cdX6_horizon : Cond.code yX6_horizon cX6_horizon 1 (some .int) ∈ ax_all := (ax_t2 (i := 22) rfl rfl)
theorem okX6_init : ax_ok mX6_init := ⟨by decide +kernel, by decide +kernel, by decide +kernel, by decide +kernel, by decide, (ax_t1 (i := 1) rfl rfl)⟩
theorem cdX6_init : Cond.code yX6_init cX6_init 1 none ∈ ax_all := (ax_t1 (i := 22) rfl rfl)
theorem okX6_length : ax_ok mX6_length := ⟨by decide +kernel, by decide +kernel, by decide +kernel, by decide +kernel, by decide, (ax_t1 (i := 1) rfl rfl)⟩
theorem cdX6_length : Cond.code yX6_length cX6_length 1 (some .int) ∈ ax_all := (ax_t3 (i := 200) rfl rfl)
theorem okX6_mean : ax_ok mX6_mean := ⟨by decide +kernel, by decide +kernel, by decide +kernel, by decide +kernel, by decide, (ax_t1 (i := 1) rfl rfl)⟩
theorem cdX6_mean : Cond.code yX6_mean cX6_mean 2 (some .double) ∈ ax_all := (ax_t3 (i := 238) rfl rfl)
theorem okX6_number : ax_ok mX6_number := ⟨by decide +kernel, by decide +kernel, by decide +kernel, by decide +kernel, by decide, (ax_t1 (i := 1) rfl rfl)⟩
theorem cdX6_number : Cond.code yX6_number cX6_number 1 (some .int) ∈ ax_all := (ax_t3 (i := 224) rfl rfl)
theorem okX6_read : ax_ok mX6_read := ⟨by decide +kernel, by decide +kernel, by decide +kernel, by decide +kernel, by decide, (ax_t1 (i := 1) rfl rfl)⟩
theorem cdX6_read : Cond.code yX6_read cX6_read 4 (some .int) ∈ ax_all := (ax_t3 (i := 157) rfl rfl)
theorem okX6_reduce : ax_ok mX6_reduce := ⟨by decide +kernel, by decide +kernel, by decide +kernel, by decide +kernel, by decide, (ax_t1 (i := 1) rfl rfl)⟩
theorem cdX6_reduce : Cond.code yX6_reduce cX6_reduce 5 (some .int) ∈ ax_all := (ax_t4 (i := 52) rfl rfl)
theorem okX6_reduction : ax_ok mX6_reduction := ⟨by decide +kernel, by decide +kernel, by decide +kernel, by decide +kernel, by decide, (ax_t1 (i := 1) rfl rfl)⟩
theorem cdX6_reduction : Cond.code yX6_reduction cX6_reduction 3 (some .int) ∈ ax_all := (ax_t4 (i := 43) rfl rfl)
theorem okX6_reductionCount : ax_ok mX6_reductionCount := ⟨by decide +kernel, by decide +kernel, by decide +kernel, by decide +kernel, by decide, (ax_t1 (i := 1) rfl rfl)⟩
theorem cdX6_reductionCount : Cond.code yX6_reductionCount cX6_reductionCount 1 (some .int) ∈ ax_all := (ax_t4 (i := 12) rfl rfl)
theorem okX6_requireKnown : ax_ok mX6_requireKnown := ⟨by decide +kernel, by decide +kernel, by decide +kernel, by decide +kernel, by decide, (ax_t1 (i := 1) rfl rfl)⟩
theorem cdX6_requireKnown : Cond.code yX6_requireKnown cX6_requireKnown 2 none ∈ ax_all := (ax_t3 (i := 79) rfl rfl)
theorem okX6_requireProperty : ax_ok mX6_requireProperty := ⟨by decide +kernel, by decide +kernel, by decide +kernel, by decide +kernel, by decide, (ax_t1 (i := 1) rfl rfl)⟩
theorem cdX6_requireProperty : Cond.code yX6_requireProperty cX6_requireProperty 2 none ∈ ax_all := (ax_t3 (i := 99) rfl rfl)
theorem okX6_requireSize : ax_ok mX6_requireSize := ⟨by decide +kernel, by decide +kernel, by decide +kernel, by decide +kernel, by decide, (ax_t1 (i := 1) rfl rfl)⟩
theorem cdX6_requireSize : Cond.code yX6_requireSize cX6_requireSize 2 none ∈ ax_all := (ax_t3 (i := 74) rfl rfl)
theorem okX6_requireType : ax_ok mX6_requireType := ⟨by decide +kernel, by decide +kernel, by decide +kernel, by decide +kernel, by decide, (ax_t1 (i := 1) rfl rfl)⟩
theorem cdX6_requireType : Cond.code yX6_requireType cX6_requireType 2 none ∈ ax_all := (ax_t3 (i := 27) rfl rfl)
theorem okX6_select : ax_ok mX6_select := ⟨by decide +kernel, by decide +kernel, by decide +kernel, by decide +kernel, by decide, (ax_t1 (i := 1) rfl rfl)⟩
theorem cdX6_select : Cond.code yX6_select cX6_select 4 (some .int) ∈ ax_all := (ax_t3 (i := 109) rfl rfl)
theorem okX6_setRange : ax_ok mX6_setRange := ⟨by decide +kernel, by decide +kernel, by decide +kernel, by decide +kernel, by decide, (ax_t1 (i := 1) rfl rfl)⟩
theorem cdX6_setRange : Cond.code yX6_setRange cX6_setRange 4 (some .boolean) ∈ ax_all := (ax_t2 (i := 158) rfl rfl)
theorem okX6_tell : ax_ok mX6_tell := ⟨by decide +kernel, by decide +kernel, by decide +kernel, by decide +kernel, by decide, (ax_t1 (i := 1) rfl rfl)⟩
theorem cdX6_tell : Cond.code yX6_tell cX6_tell 4 (some .int) ∈ ax_all := (ax_t3 (i := 144) rfl rfl)
theorem okX6_total : ax_ok mX6_total := ⟨by decide +kernel, by decide +kernel, by decide +kernel, by decide +kernel, by decide, (ax_t1 (i := 1) rfl rfl)⟩
theorem cdX6_total : Cond.code yX6_total cX6_total 3 (some .int) ∈ ax_all := (ax_t3 (i := 88) rfl rfl)
theorem okX6_typeCount : ax_ok mX6_typeCount := ⟨by decide +kernel, by decide +kernel, by decide +kernel, by decide +kernel, by decide, (ax_t1 (i := 1) rfl rfl)⟩
theorem cdX6_typeCount : Cond.code yX6_typeCount cX6_typeCount 1 (some .int) ∈ ax_all := (ax_t2 (i := 18) rfl rfl)
theorem okX7_add : ax_ok mX7_add := ⟨by decide +kernel, by decide +kernel, by decide +kernel, by decide +kernel, by decide, (ax_t1 (i := 8) rfl rfl)⟩
theorem cdX7_add : Cond.code yX7_add cX7_add 4 none ∈ ax_all := (ax_t5 (i := 74) rfl rfl)
theorem okX7_addConstructor : ax_ok mX7_addConstructor := ⟨by decide +kernel, by decide +kernel, by decide +kernel, by decide +kernel, by decide, (ax_t1 (i := 8) rfl rfl)⟩
theorem cdX7_addConstructor : Cond.code yX7_addConstructor cX7_addConstructor 10 (some .int) ∈ ax_all := (ax_t4 (i := 165) rfl rfl)
theorem okX7_addType : ax_ok mX7_addType := ⟨by decide +kernel, by decide +kernel, by decide +kernel, by decide +kernel, by decide, (ax_t1 (i := 8) rfl rfl)⟩
theorem cdX7_addType : Cond.code yX7_addType cX7_addType 1 (some .int) ∈ ax_all := (ax_t4 (i := 157) rfl rfl)
theorem okX7_asks : ax_ok mX7_asks := ⟨by decide +kernel, by decide +kernel, by decide +kernel, by decide +kernel, by decide, (ax_t1 (i := 8) rfl rfl)⟩
theorem cdX7_asks : Cond.code yX7_asks cX7_asks 3 (some .boolean) ∈ ax_all := (ax_t4 (i := 228) rfl rfl)
theorem okX7_change : ax_ok mX7_change := ⟨by decide +kernel, by decide +kernel, by decide +kernel, by decide +kernel, by decide, (ax_t1 (i := 8) rfl rfl)⟩
theorem cdX7_change : Cond.code yX7_change cX7_change 1 none ∈ ax_all := (ax_t4 (i := 153) rfl rfl)
theorem okX7_choices : ax_ok mX7_choices := ⟨by decide +kernel, by decide +kernel, by decide +kernel, by decide +kernel, by decide, (ax_t1 (i := 8) rfl rfl)⟩
theorem cdX7_choices : Cond.code yX7_choices cX7_choices 6 (some (.array (.array .int))) ∈ ax_all := (ax_t4 (i := 192) rfl rfl)
theorem okX7_choose : ax_ok mX7_choose := ⟨by decide +kernel, by decide +kernel, by decide +kernel, by decide +kernel, by decide, (ax_t1 (i := 8) rfl rfl)⟩
theorem cdX7_choose : Cond.code yX7_choose cX7_choose 3 none ∈ ax_all := (ax_t5 (i := 12) rfl rfl)
theorem okX7_code : ax_ok mX7_code := ⟨by decide +kernel, by decide +kernel, by decide +kernel, by decide +kernel, by decide, (ax_t1 (i := 8) rfl rfl)⟩
theorem cdX7_code : Cond.code yX7_code cX7_code 3 (some .int) ∈ ax_all := (ax_t5 (i := 46) rfl rfl)
theorem okX7_constructorsIn : ax_ok mX7_constructorsIn := ⟨by decide +kernel, by decide +kernel, by decide +kernel, by decide +kernel, by decide, (ax_t1 (i := 8) rfl rfl)⟩
theorem cdX7_constructorsIn : Cond.code yX7_constructorsIn cX7_constructorsIn 3 (some .int) ∈ ax_all := (ax_t4 (i := 199) rfl rfl)
theorem okX7_count : ax_ok mX7_count := ⟨by decide +kernel, by decide +kernel, by decide +kernel, by decide +kernel, by decide, (ax_t1 (i := 8) rfl rfl)⟩
theorem cdX7_count : Cond.code yX7_count cX7_count 3 (some .int) ∈ ax_all := (ax_t4 (i := 224) rfl rfl)
theorem okX7_current : ax_ok mX7_current := ⟨by decide +kernel, by decide +kernel, by decide +kernel, by decide +kernel, by decide, (ax_t1 (i := 8) rfl rfl)⟩
theorem cdX7_current : Cond.code yX7_current cX7_current 1 (some .int) ∈ ax_all := (ax_t5 (i := 42) rfl rfl)
theorem okX7_digest : ax_ok mX7_digest := ⟨by decide +kernel, by decide +kernel, by decide +kernel, by decide +kernel, by decide, (ax_t1 (i := 8) rfl rfl)⟩
theorem cdX7_digest : Cond.code yX7_digest cX7_digest 7 (some .long) ∈ ax_all := (ax_t5 (i := 86) rfl rfl)
theorem okX7_draw : ax_ok mX7_draw := ⟨by decide +kernel, by decide +kernel, by decide +kernel, by decide +kernel, by decide, (ax_t1 (i := 8) rfl rfl)⟩
theorem cdX7_draw : Cond.code yX7_draw cX7_draw 9 (some .int) ∈ ax_all := (ax_t5 (i := 16) rfl rfl)
theorem okX7_end : ax_ok mX7_end := ⟨by decide +kernel, by decide +kernel, by decide +kernel, by decide +kernel, by decide, (ax_t1 (i := 8) rfl rfl)⟩
theorem cdX7_end : Cond.code yX7_end cX7_end 6 (some .int) ∈ ax_all := (ax_t4 (i := 220) rfl rfl)
theorem okX7_fail : ax_ok mX7_fail := ⟨by decide +kernel, by decide +kernel, by decide +kernel, by decide +kernel, by decide, (ax_t1 (i := 8) rfl rfl)⟩
theorem cdX7_fail : Cond.code yX7_fail cX7_fail 2 (some .int) ∈ ax_all := (ax_t4 (i := 161) rfl rfl)
theorem okX7_find : ax_ok mX7_find := ⟨by decide +kernel, by decide +kernel, by decide +kernel, by decide +kernel, by decide, (ax_t1 (i := 8) rfl rfl)⟩
theorem cdX7_find : Cond.code yX7_find cX7_find 8 (some .int) ∈ ax_all := (ax_t5 (i := 30) rfl rfl)
theorem okX7_findReductions : ax_ok mX7_findReductions := ⟨by decide +kernel, by decide +kernel, by decide +kernel, by decide +kernel, by decide, (ax_t1 (i := 8) rfl rfl)⟩
theorem cdX7_findReductions : Cond.code yX7_findReductions cX7_findReductions 6 none ∈ ax_all := (ax_t5 (i := 70) rfl rfl)
theorem okX7_firstAgainst : ax_ok mX7_firstAgainst := ⟨by decide +kernel, by decide +kernel, by decide +kernel, by decide +kernel, by decide, (ax_t1 (i := 8) rfl rfl)⟩
theorem cdX7_firstAgainst : Cond.code yX7_firstAgainst cX7_firstAgainst 6 (some .int) ∈ ax_all := (ax_t5 (i := 0) rfl rfl)
theorem okX7_has : ax_ok mX7_has := ⟨by decide +kernel, by decide +kernel, by decide +kernel, by decide +kernel, by decide, (ax_t1 (i := 8) rfl rfl)⟩
theorem cdX7_has : Cond.code yX7_has cX7_has 1 (some .boolean) ∈ ax_all := (ax_t5 (i := 38) rfl rfl)
theorem okX7_height : ax_ok mX7_height := ⟨by decide +kernel, by decide +kernel, by decide +kernel, by decide +kernel, by decide, (ax_t1 (i := 8) rfl rfl)⟩
theorem cdX7_height : Cond.code yX7_height cX7_height 1 (some .int) ∈ ax_all := (ax_t5 (i := 54) rfl rfl)
theorem okX7_holds : ax_ok mX7_holds := ⟨by decide +kernel, by decide +kernel, by decide +kernel, by decide +kernel, by decide, (ax_t1 (i := 8) rfl rfl)⟩
theorem cdX7_holds : Cond.code yX7_holds cX7_holds 2 (some .boolean) ∈ ax_all := (ax_t5 (i := 62) rfl rfl)
theorem okX7_horizon : ax_ok mX7_horizon := ⟨by decide +kernel, by decide +kernel, by decide +kernel, by decide +kernel, by decide, (ax_t1 (i := 8) rfl rfl)⟩
theorem cdX7_horizon : Cond.code yX7_horizon cX7_horizon 1 (some .int) ∈ ax_all := (ax_t4 (i := 180) rfl rfl)
theorem okX7_init : ax_ok mX7_init := ⟨by decide +kernel, by decide +kernel, by decide +kernel, by decide +kernel, by decide, (ax_t1 (i := 8) rfl rfl)⟩
theorem cdX7_init : Cond.code yX7_init cX7_init 1 none ∈ ax_all := (ax_t4 (i := 62) rfl rfl)
theorem okX7_isIn : ax_ok mX7_isIn := ⟨by decide +kernel, by decide +kernel, by decide +kernel, by decide +kernel, by decide, (ax_t1 (i := 8) rfl rfl)⟩
theorem cdX7_isIn : Cond.code yX7_isIn cX7_isIn 3 (some .boolean) ∈ ax_all := (ax_t4 (i := 172) rfl rfl)
theorem okX7_isTrue : ax_ok mX7_isTrue := ⟨by decide +kernel, by decide +kernel, by decide +kernel, by decide +kernel, by decide, (ax_t1 (i := 8) rfl rfl)⟩
theorem cdX7_isTrue : Cond.code yX7_isTrue cX7_isTrue 15 (some .boolean) ∈ ax_all := (ax_t4 (i := 216) rfl rfl)
theorem okX7_isTrueOf : ax_ok mX7_isTrueOf := ⟨by decide +kernel, by decide +kernel, by decide +kernel, by decide +kernel, by decide, (ax_t1 (i := 8) rfl rfl)⟩
theorem cdX7_isTrueOf : Cond.code yX7_isTrueOf cX7_isTrueOf 10 (some .boolean) ∈ ax_all := (ax_t5 (i := 4) rfl rfl)
theorem okX7_isType : ax_ok mX7_isType := ⟨by decide +kernel, by decide +kernel, by decide +kernel, by decide +kernel, by decide, (ax_t1 (i := 8) rfl rfl)⟩
theorem cdX7_isType : Cond.code yX7_isType cX7_isType 2 (some .boolean) ∈ ax_all := (ax_t4 (i := 169) rfl rfl)
theorem okX7_length : ax_ok mX7_length := ⟨by decide +kernel, by decide +kernel, by decide +kernel, by decide +kernel, by decide, (ax_t1 (i := 8) rfl rfl)⟩
theorem cdX7_length : Cond.code yX7_length cX7_length 1 (some .int) ∈ ax_all := (ax_t5 (i := 34) rfl rfl)
theorem okX7_look : ax_ok mX7_look := ⟨by decide +kernel, by decide +kernel, by decide +kernel, by decide +kernel, by decide, (ax_t1 (i := 8) rfl rfl)⟩
theorem cdX7_look : Cond.code yX7_look cX7_look 12 (some .int) ∈ ax_all := (ax_t4 (i := 206) rfl rfl)
theorem okX7_make : ax_ok mX7_make := ⟨by decide +kernel, by decide +kernel, by decide +kernel, by decide +kernel, by decide, (ax_t1 (i := 8) rfl rfl)⟩
theorem cdX7_make : Cond.code yX7_make cX7_make 5 none ∈ ax_all := (ax_t4 (i := 184) rfl rfl)
theorem okX7_mean : ax_ok mX7_mean := ⟨by decide +kernel, by decide +kernel, by decide +kernel, by decide +kernel, by decide, (ax_t1 (i := 8) rfl rfl)⟩
theorem cdX7_mean : Cond.code yX7_mean cX7_mean 7 (some .double) ∈ ax_all := (ax_t5 (i := 58) rfl rfl)
theorem okX7_number : ax_ok mX7_number := ⟨by decide +kernel, by decide +kernel, by decide +kernel, by decide +kernel, by decide, (ax_t1 (i := 8) rfl rfl)⟩
theorem cdX7_number : Cond.code yX7_number cX7_number 1 (some .int) ∈ ax_all := (ax_t5 (i := 50) rfl rfl)
theorem okX7_read : ax_ok mX7_read := ⟨by decide +kernel, by decide +kernel, by decide +kernel, by decide +kernel, by decide, (ax_t1 (i := 8) rfl rfl)⟩
theorem cdX7_read : Cond.code yX7_read cX7_read 5 (some .int) ∈ ax_all := (ax_t5 (i := 26) rfl rfl)
theorem okX7_reduce : ax_ok mX7_reduce := ⟨by decide +kernel, by decide +kernel, by decide +kernel, by decide +kernel, by decide, (ax_t1 (i := 8) rfl rfl)⟩
theorem cdX7_reduce : Cond.code yX7_reduce cX7_reduce 6 (some .int) ∈ ax_all := (ax_t5 (i := 82) rfl rfl)
theorem okX7_reduction : ax_ok mX7_reduction := ⟨by decide +kernel, by decide +kernel, by decide +kernel, by decide +kernel, by decide, (ax_t1 (i := 8) rfl rfl)⟩
theorem cdX7_reduction : Cond.code yX7_reduction cX7_reduction 2 (some .int) ∈ ax_all := (ax_t5 (i := 78) rfl rfl)
theorem okX7_reductionCount : ax_ok mX7_reductionCount := ⟨by decide +kernel, by decide +kernel, by decide +kernel, by decide +kernel, by decide, (ax_t1 (i := 8) rfl rfl)⟩
theorem cdX7_reductionCount : Cond.code yX7_reductionCount cX7_reductionCount 1 (some .int) ∈ ax_all := (ax_t5 (i := 66) rfl rfl)
theorem okX7_select : ax_ok mX7_select := ⟨by decide +kernel, by decide +kernel, by decide +kernel, by decide +kernel, by decide, (ax_t1 (i := 8) rfl rfl)⟩
theorem cdX7_select : Cond.code yX7_select cX7_select 3 (some .int) ∈ ax_all := (ax_t5 (i := 8) rfl rfl)
theorem okX7_setRange : ax_ok mX7_setRange := ⟨by decide +kernel, by decide +kernel, by decide +kernel, by decide +kernel, by decide, (ax_t1 (i := 8) rfl rfl)⟩
theorem cdX7_setRange : Cond.code yX7_setRange cX7_setRange 4 (some .boolean) ∈ ax_all := (ax_t4 (i := 149) rfl rfl)
theorem okX7_tell : ax_ok mX7_tell := ⟨by decide +kernel, by decide +kernel, by decide +kernel, by decide +kernel, by decide, (ax_t1 (i := 8) rfl rfl)⟩
theorem cdX7_tell : Cond.code yX7_tell cX7_tell 2 (some .int) ∈ ax_all := (ax_t5 (i := 22) rfl rfl)
theorem okX7_thrown : ax_ok mX7_thrown := ⟨by decide +kernel, by decide +kernel, by decide +kernel, by decide +kernel, by decide, (ax_t1 (i := 8) rfl rfl)⟩
theorem cdX7_thrown : Cond.code yX7_thrown cX7_thrown 1 (some .int) ∈ ax_all := (ax_t4 (i := 145) rfl rfl)
theorem okX7_total : ax_ok mX7_total := ⟨by decide +kernel, by decide +kernel, by decide +kernel, by decide +kernel, by decide, (ax_t1 (i := 8) rfl rfl)⟩
theorem cdX7_total : Cond.code yX7_total cX7_total 3 (some .int) ∈ ax_all := (ax_t4 (i := 236) rfl rfl)
theorem okX7_typeCount : ax_ok mX7_typeCount := ⟨by decide +kernel, by decide +kernel, by decide +kernel, by decide +kernel, by decide, (ax_t1 (i := 8) rfl rfl)⟩
theorem cdX7_typeCount : Cond.code yX7_typeCount cX7_typeCount 1 (some .int) ∈ ax_all := (ax_t4 (i := 176) rfl rfl)
theorem okX7_upTo : ax_ok mX7_upTo := ⟨by decide +kernel, by decide +kernel, by decide +kernel, by decide +kernel, by decide, (ax_t1 (i := 8) rfl rfl)⟩
theorem cdX7_upTo : Cond.code yX7_upTo cX7_upTo 5 (some .int) ∈ ax_all := (ax_t4 (i := 232) rfl rfl)
theorem okX7_value : ax_ok mX7_value := ⟨by decide +kernel, by decide +kernel, by decide +kernel, by decide +kernel, by decide, (ax_t1 (i := 8) rfl rfl)⟩
theorem cdX7_value : Cond.code yX7_value cX7_value 3 (some .int) ∈ ax_all := (ax_t4 (i := 196) rfl rfl)
theorem okX7_write : ax_ok mX7_write := ⟨by decide +kernel, by decide +kernel, by decide +kernel, by decide +kernel, by decide, (ax_t1 (i := 8) rfl rfl)⟩
theorem cdX7_write : Cond.code yX7_write cX7_write 21 (some .boolean) ∈ ax_all := (ax_t4 (i := 188) rfl rfl)
theorem flX0_9 : Cond.fieldLink RX0 9 (TX0 0).1 (TX0 0).2.1 (TX0 0).2.2.1 ∈ ax_all := (ax_t1 (i := 213) rfl rfl)
theorem fkX0_9 : ax_fk RX0 9 0 0 := ⟨RX0, TX0, 2, rfl, by decide, flX0_9, inA0⟩
theorem flX0_15 : Cond.fieldLink RX0 15 (TX0 1).1 (TX0 1).2.1 (TX0 1).2.2.1 ∈ ax_all := (ax_t1 (i := 214) rfl rfl)
theorem fkX0_15 : ax_fk RX0 15 0 1 := ⟨RX0, TX0, 2, rfl, by decide, flX0_15, inA0⟩
theorem flX0_23 : Cond.fieldLink RX0 23 (TX5 2).1 (TX5 2).2.1 (TX5 2).2.2.1 ∈ ax_all := (ax_t1 (i := 89) rfl rfl)
theorem fkX0_23 : ax_fk RX0 23 5 2 := ⟨RX5, TX5, 16, rfl, by decide, flX0_23, inA5⟩
theorem flX0_32 : Cond.fieldLink RX0 32 (TX5 3).1 (TX5 3).2.1 (TX5 3).2.2.1 ∈ ax_all := (ax_t1 (i := 92) rfl rfl)
theorem fkX0_32 : ax_fk RX0 32 5 3 := ⟨RX5, TX5, 16, rfl, by decide, flX0_32, inA5⟩
theorem flX0_39 : Cond.fieldLink RX0 39 (TX5 4).1 (TX5 4).2.1 (TX5 4).2.2.1 ∈ ax_all := (ax_t1 (i := 95) rfl rfl)
theorem fkX0_39 : ax_fk RX0 39 5 4 := ⟨RX5, TX5, 16, rfl, by decide, flX0_39, inA5⟩
theorem flX1_9 : Cond.fieldLink RX1 9 (TX1 0).1 (TX1 0).2.1 (TX1 0).2.2.1 ∈ ax_all := (ax_t1 (i := 32) rfl rfl)
theorem fkX1_9 : ax_fk RX1 9 1 0 := ⟨RX1, TX1, 8, rfl, by decide, flX1_9, inA1⟩
theorem flX1_15 : Cond.fieldLink RX1 15 (TX1 1).1 (TX1 1).2.1 (TX1 1).2.2.1 ∈ ax_all := (ax_t1 (i := 36) rfl rfl)
theorem fkX1_15 : ax_fk RX1 15 1 1 := ⟨RX1, TX1, 8, rfl, by decide, flX1_15, inA1⟩
theorem flX1_18 : Cond.fieldLink RX1 18 (TX1 2).1 (TX1 2).2.1 (TX1 2).2.2.1 ∈ ax_all := (ax_t1 (i := 40) rfl rfl)
theorem fkX1_18 : ax_fk RX1 18 1 2 := ⟨RX1, TX1, 8, rfl, by decide, flX1_18, inA1⟩
theorem flX1_21 : Cond.fieldLink RX1 21 (TX1 3).1 (TX1 3).2.1 (TX1 3).2.2.1 ∈ ax_all := (ax_t1 (i := 42) rfl rfl)
theorem fkX1_21 : ax_fk RX1 21 1 3 := ⟨RX1, TX1, 8, rfl, by decide, flX1_21, inA1⟩
theorem flX1_24 : Cond.fieldLink RX1 24 (TX1 4).1 (TX1 4).2.1 (TX1 4).2.2.1 ∈ ax_all := (ax_t1 (i := 45) rfl rfl)
theorem fkX1_24 : ax_fk RX1 24 1 4 := ⟨RX1, TX1, 8, rfl, by decide, flX1_24, inA1⟩
theorem flX1_28 : Cond.fieldLink RX1 28 (TX1 5).1 (TX1 5).2.1 (TX1 5).2.2.1 ∈ ax_all := (ax_t1 (i := 46) rfl rfl)
theorem fkX1_28 : ax_fk RX1 28 1 5 := ⟨RX1, TX1, 8, rfl, by decide, flX1_28, inA1⟩
theorem flX1_31 : Cond.fieldLink RX1 31 (TX1 6).1 (TX1 6).2.1 (TX1 6).2.2.1 ∈ ax_all := (ax_t1 (i := 47) rfl rfl)
theorem fkX1_31 : ax_fk RX1 31 1 6 := ⟨RX1, TX1, 8, rfl, by decide, flX1_31, inA1⟩
theorem flX1_34 : Cond.fieldLink RX1 34 (TX1 7).1 (TX1 7).2.1 (TX1 7).2.2.1 ∈ ax_all := (ax_t1 (i := 48) rfl rfl)
theorem fkX1_34 : ax_fk RX1 34 1 7 := ⟨RX1, TX1, 8, rfl, by decide, flX1_34, inA1⟩
theorem flX2_11 : Cond.fieldLink RX2 11 (TX2 0).1 (TX2 0).2.1 (TX2 0).2.2.1 ∈ ax_all := (ax_t1 (i := 228) rfl rfl)
theorem fkX2_11 : ax_fk RX2 11 2 0 := ⟨RX2, TX2, 2, rfl, by decide, flX2_11, inA2⟩
theorem flX2_17 : Cond.fieldLink RX2 17 (TX2 1).1 (TX2 1).2.1 (TX2 1).2.2.1 ∈ ax_all := (ax_t1 (i := 229) rfl rfl)
theorem fkX2_17 : ax_fk RX2 17 2 1 := ⟨RX2, TX2, 2, rfl, by decide, flX2_17, inA2⟩
theorem flX2_29 : Cond.fieldLink RX2 29 (TX5 0).1 (TX5 0).2.1 (TX5 0).2.2.1 ∈ ax_all := (ax_t1 (i := 83) rfl rfl)
theorem fkX2_29 : ax_fk RX2 29 5 0 := ⟨RX5, TX5, 16, rfl, by decide, flX2_29, inA5⟩
theorem flX2_36 : Cond.fieldLink RX2 36 (TX5 6).1 (TX5 6).2.1 (TX5 6).2.2.1 ∈ ax_all := (ax_t1 (i := 99) rfl rfl)
theorem fkX2_36 : ax_fk RX2 36 5 6 := ⟨RX5, TX5, 16, rfl, by decide, flX2_36, inA5⟩
theorem flX2_45 : Cond.fieldLink RX2 45 (TX5 1).1 (TX5 1).2.1 (TX5 1).2.2.1 ∈ ax_all := (ax_t1 (i := 85) rfl rfl)
theorem fkX2_45 : ax_fk RX2 45 5 1 := ⟨RX5, TX5, 16, rfl, by decide, flX2_45, inA5⟩
theorem flX3_9 : Cond.fieldLink RX3 9 (TX3 0).1 (TX3 0).2.1 (TX3 0).2.2.1 ∈ ax_all := (ax_t1 (i := 146) rfl rfl)
theorem fkX3_9 : ax_fk RX3 9 3 0 := ⟨RX3, TX3, 10, rfl, by decide, flX3_9, inA3⟩
theorem flX3_17 : Cond.fieldLink RX3 17 (TX3 1).1 (TX3 1).2.1 (TX3 1).2.2.1 ∈ ax_all := (ax_t1 (i := 147) rfl rfl)
theorem fkX3_17 : ax_fk RX3 17 3 1 := ⟨RX3, TX3, 10, rfl, by decide, flX3_17, inA3⟩
theorem flX3_22 : Cond.fieldLink RX3 22 (TX3 2).1 (TX3 2).2.1 (TX3 2).2.2.1 ∈ ax_all := (ax_t1 (i := 148) rfl rfl)
theorem fkX3_22 : ax_fk RX3 22 3 2 := ⟨RX3, TX3, 10, rfl, by decide, flX3_22, inA3⟩
theorem flX3_25 : Cond.fieldLink RX3 25 (TX3 3).1 (TX3 3).2.1 (TX3 3).2.2.1 ∈ ax_all := (ax_t1 (i := 149) rfl rfl)
theorem fkX3_25 : ax_fk RX3 25 3 3 := ⟨RX3, TX3, 10, rfl, by decide, flX3_25, inA3⟩
theorem flX3_29 : Cond.fieldLink RX3 29 (TX3 4).1 (TX3 4).2.1 (TX3 4).2.2.1 ∈ ax_all := (ax_t1 (i := 150) rfl rfl)
theorem fkX3_29 : ax_fk RX3 29 3 4 := ⟨RX3, TX3, 10, rfl, by decide, flX3_29, inA3⟩
theorem flX3_32 : Cond.fieldLink RX3 32 (TX3 5).1 (TX3 5).2.1 (TX3 5).2.2.1 ∈ ax_all := (ax_t1 (i := 151) rfl rfl)
theorem fkX3_32 : ax_fk RX3 32 3 5 := ⟨RX3, TX3, 10, rfl, by decide, flX3_32, inA3⟩
theorem flX3_35 : Cond.fieldLink RX3 35 (TX3 6).1 (TX3 6).2.1 (TX3 6).2.2.1 ∈ ax_all := (ax_t1 (i := 152) rfl rfl)
theorem fkX3_35 : ax_fk RX3 35 3 6 := ⟨RX3, TX3, 10, rfl, by decide, flX3_35, inA3⟩
theorem flX3_39 : Cond.fieldLink RX3 39 (TX3 7).1 (TX3 7).2.1 (TX3 7).2.2.1 ∈ ax_all := (ax_t1 (i := 153) rfl rfl)
theorem fkX3_39 : ax_fk RX3 39 3 7 := ⟨RX3, TX3, 10, rfl, by decide, flX3_39, inA3⟩
theorem flX3_43 : Cond.fieldLink RX3 43 (TX3 8).1 (TX3 8).2.1 (TX3 8).2.2.1 ∈ ax_all := (ax_t1 (i := 154) rfl rfl)
theorem fkX3_43 : ax_fk RX3 43 3 8 := ⟨RX3, TX3, 10, rfl, by decide, flX3_43, inA3⟩
theorem flX3_46 : Cond.fieldLink RX3 46 (TX3 9).1 (TX3 9).2.1 (TX3 9).2.2.1 ∈ ax_all := (ax_t1 (i := 156) rfl rfl)
theorem fkX3_46 : ax_fk RX3 46 3 9 := ⟨RX3, TX3, 10, rfl, by decide, flX3_46, inA3⟩
theorem flX3_49 : Cond.fieldLink RX3 49 (TX5 0).1 (TX5 0).2.1 (TX5 0).2.2.1 ∈ ax_all := (ax_t1 (i := 82) rfl rfl)
theorem fkX3_49 : ax_fk RX3 49 5 0 := ⟨RX5, TX5, 16, rfl, by decide, flX3_49, inA5⟩
theorem flX3_52 : Cond.fieldLink RX3 52 (TX5 6).1 (TX5 6).2.1 (TX5 6).2.2.1 ∈ ax_all := (ax_t1 (i := 98) rfl rfl)
theorem fkX3_52 : ax_fk RX3 52 5 6 := ⟨RX5, TX5, 16, rfl, by decide, flX3_52, inA5⟩
theorem flX3_74 : Cond.fieldLink RX3 74 (TX1 3).1 (TX1 3).2.1 (TX1 3).2.2.1 ∈ ax_all := (ax_t1 (i := 44) rfl rfl)
theorem fkX3_74 : ax_fk RX3 74 1 3 := ⟨RX1, TX1, 8, rfl, by decide, flX3_74, inA1⟩
theorem flX3_91 : Cond.fieldLink RX3 91 (TX5 2).1 (TX5 2).2.1 (TX5 2).2.2.1 ∈ ax_all := (ax_t1 (i := 90) rfl rfl)
theorem fkX3_91 : ax_fk RX3 91 5 2 := ⟨RX5, TX5, 16, rfl, by decide, flX3_91, inA5⟩
theorem flX3_94 : Cond.fieldLink RX3 94 (TX5 3).1 (TX5 3).2.1 (TX5 3).2.2.1 ∈ ax_all := (ax_t1 (i := 93) rfl rfl)
theorem fkX3_94 : ax_fk RX3 94 5 3 := ⟨RX5, TX5, 16, rfl, by decide, flX3_94, inA5⟩
theorem flX3_125 : Cond.fieldLink RX3 125 (TX1 0).1 (TX1 0).2.1 (TX1 0).2.2.1 ∈ ax_all := (ax_t1 (i := 35) rfl rfl)
theorem fkX3_125 : ax_fk RX3 125 1 0 := ⟨RX1, TX1, 8, rfl, by decide, flX3_125, inA1⟩
theorem flX3_128 : Cond.fieldLink RX3 128 (TX1 1).1 (TX1 1).2.1 (TX1 1).2.2.1 ∈ ax_all := (ax_t1 (i := 39) rfl rfl)
theorem fkX3_128 : ax_fk RX3 128 1 1 := ⟨RX1, TX1, 8, rfl, by decide, flX3_128, inA1⟩
theorem flX3_148 : Cond.fieldLink RX3 148 (TX5 1).1 (TX5 1).2.1 (TX5 1).2.2.1 ∈ ax_all := (ax_t1 (i := 87) rfl rfl)
theorem fkX3_148 : ax_fk RX3 148 5 1 := ⟨RX5, TX5, 16, rfl, by decide, flX3_148, inA5⟩
theorem flX4_9 : Cond.fieldLink RX4 9 (TX4 0).1 (TX4 0).2.1 (TX4 0).2.2.1 ∈ ax_all := (ax_t1 (i := 187) rfl rfl)
theorem fkX4_9 : ax_fk RX4 9 4 0 := ⟨RX4, TX4, 6, rfl, by decide, flX4_9, inA4⟩
theorem flX4_15 : Cond.fieldLink RX4 15 (TX4 1).1 (TX4 1).2.1 (TX4 1).2.2.1 ∈ ax_all := (ax_t1 (i := 188) rfl rfl)
theorem fkX4_15 : ax_fk RX4 15 4 1 := ⟨RX4, TX4, 6, rfl, by decide, flX4_15, inA4⟩
theorem flX4_21 : Cond.fieldLink RX4 21 (TX4 2).1 (TX4 2).2.1 (TX4 2).2.2.1 ∈ ax_all := (ax_t1 (i := 189) rfl rfl)
theorem fkX4_21 : ax_fk RX4 21 4 2 := ⟨RX4, TX4, 6, rfl, by decide, flX4_21, inA4⟩
theorem flX4_26 : Cond.fieldLink RX4 26 (TX4 3).1 (TX4 3).2.1 (TX4 3).2.2.1 ∈ ax_all := (ax_t1 (i := 190) rfl rfl)
theorem fkX4_26 : ax_fk RX4 26 4 3 := ⟨RX4, TX4, 6, rfl, by decide, flX4_26, inA4⟩
theorem flX4_30 : Cond.fieldLink RX4 30 (TX4 4).1 (TX4 4).2.1 (TX4 4).2.2.1 ∈ ax_all := (ax_t1 (i := 191) rfl rfl)
theorem fkX4_30 : ax_fk RX4 30 4 4 := ⟨RX4, TX4, 6, rfl, by decide, flX4_30, inA4⟩
theorem flX4_33 : Cond.fieldLink RX4 33 (TX4 5).1 (TX4 5).2.1 (TX4 5).2.2.1 ∈ ax_all := (ax_t1 (i := 192) rfl rfl)
theorem fkX4_33 : ax_fk RX4 33 4 5 := ⟨RX4, TX4, 6, rfl, by decide, flX4_33, inA4⟩
theorem flX4_72 : Cond.fieldLink RX4 72 (TX1 0).1 (TX1 0).2.1 (TX1 0).2.2.1 ∈ ax_all := (ax_t1 (i := 34) rfl rfl)
theorem fkX4_72 : ax_fk RX4 72 1 0 := ⟨RX1, TX1, 8, rfl, by decide, flX4_72, inA1⟩
theorem flX4_75 : Cond.fieldLink RX4 75 (TX1 1).1 (TX1 1).2.1 (TX1 1).2.2.1 ∈ ax_all := (ax_t1 (i := 38) rfl rfl)
theorem fkX4_75 : ax_fk RX4 75 1 1 := ⟨RX1, TX1, 8, rfl, by decide, flX4_75, inA1⟩
theorem flX5_9 : Cond.fieldLink RX5 9 (TX5 4).1 (TX5 4).2.1 (TX5 4).2.2.1 ∈ ax_all := (ax_t1 (i := 94) rfl rfl)
theorem fkX5_9 : ax_fk RX5 9 5 4 := ⟨RX5, TX5, 16, rfl, by decide, flX5_9, inA5⟩
theorem flX5_15 : Cond.fieldLink RX5 15 (TX5 5).1 (TX5 5).2.1 (TX5 5).2.2.1 ∈ ax_all := (ax_t1 (i := 96) rfl rfl)
theorem fkX5_15 : ax_fk RX5 15 5 5 := ⟨RX5, TX5, 16, rfl, by decide, flX5_15, inA5⟩
theorem flX5_19 : Cond.fieldLink RX5 19 (TX5 0).1 (TX5 0).2.1 (TX5 0).2.2.1 ∈ ax_all := (ax_t1 (i := 81) rfl rfl)
theorem fkX5_19 : ax_fk RX5 19 5 0 := ⟨RX5, TX5, 16, rfl, by decide, flX5_19, inA5⟩
theorem flX5_23 : Cond.fieldLink RX5 23 (TX5 1).1 (TX5 1).2.1 (TX5 1).2.2.1 ∈ ax_all := (ax_t1 (i := 84) rfl rfl)
theorem fkX5_23 : ax_fk RX5 23 5 1 := ⟨RX5, TX5, 16, rfl, by decide, flX5_23, inA5⟩
theorem flX5_26 : Cond.fieldLink RX5 26 (TX5 2).1 (TX5 2).2.1 (TX5 2).2.2.1 ∈ ax_all := (ax_t1 (i := 88) rfl rfl)
theorem fkX5_26 : ax_fk RX5 26 5 2 := ⟨RX5, TX5, 16, rfl, by decide, flX5_26, inA5⟩
theorem flX5_29 : Cond.fieldLink RX5 29 (TX5 3).1 (TX5 3).2.1 (TX5 3).2.2.1 ∈ ax_all := (ax_t1 (i := 91) rfl rfl)
theorem fkX5_29 : ax_fk RX5 29 5 3 := ⟨RX5, TX5, 16, rfl, by decide, flX5_29, inA5⟩
theorem flX5_32 : Cond.fieldLink RX5 32 (TX5 6).1 (TX5 6).2.1 (TX5 6).2.2.1 ∈ ax_all := (ax_t1 (i := 97) rfl rfl)
theorem fkX5_32 : ax_fk RX5 32 5 6 := ⟨RX5, TX5, 16, rfl, by decide, flX5_32, inA5⟩
theorem flX5_35 : Cond.fieldLink RX5 35 (TX5 7).1 (TX5 7).2.1 (TX5 7).2.2.1 ∈ ax_all := (ax_t1 (i := 101) rfl rfl)
theorem fkX5_35 : ax_fk RX5 35 5 7 := ⟨RX5, TX5, 16, rfl, by decide, flX5_35, inA5⟩
theorem flX5_38 : Cond.fieldLink RX5 38 (TX5 8).1 (TX5 8).2.1 (TX5 8).2.2.1 ∈ ax_all := (ax_t1 (i := 103) rfl rfl)
theorem fkX5_38 : ax_fk RX5 38 5 8 := ⟨RX5, TX5, 16, rfl, by decide, flX5_38, inA5⟩
theorem flX5_41 : Cond.fieldLink RX5 41 (TX5 9).1 (TX5 9).2.1 (TX5 9).2.2.1 ∈ ax_all := (ax_t1 (i := 104) rfl rfl)
theorem fkX5_41 : ax_fk RX5 41 5 9 := ⟨RX5, TX5, 16, rfl, by decide, flX5_41, inA5⟩
theorem flX5_44 : Cond.fieldLink RX5 44 (TX5 10).1 (TX5 10).2.1 (TX5 10).2.2.1 ∈ ax_all := (ax_t1 (i := 105) rfl rfl)
theorem fkX5_44 : ax_fk RX5 44 5 10 := ⟨RX5, TX5, 16, rfl, by decide, flX5_44, inA5⟩
theorem flX5_47 : Cond.fieldLink RX5 47 (TX5 11).1 (TX5 11).2.1 (TX5 11).2.2.1 ∈ ax_all := (ax_t1 (i := 107) rfl rfl)
theorem fkX5_47 : ax_fk RX5 47 5 11 := ⟨RX5, TX5, 16, rfl, by decide, flX5_47, inA5⟩
theorem flX5_50 : Cond.fieldLink RX5 50 (TX5 12).1 (TX5 12).2.1 (TX5 12).2.2.1 ∈ ax_all := (ax_t1 (i := 109) rfl rfl)
theorem fkX5_50 : ax_fk RX5 50 5 12 := ⟨RX5, TX5, 16, rfl, by decide, flX5_50, inA5⟩
theorem flX5_53 : Cond.fieldLink RX5 53 (TX5 14).1 (TX5 14).2.1 (TX5 14).2.2.1 ∈ ax_all := (ax_t1 (i := 111) rfl rfl)
theorem fkX5_53 : ax_fk RX5 53 5 14 := ⟨RX5, TX5, 16, rfl, by decide, flX5_53, inA5⟩
theorem flX5_56 : Cond.fieldLink RX5 56 (TX5 13).1 (TX5 13).2.1 (TX5 13).2.2.1 ∈ ax_all := (ax_t1 (i := 110) rfl rfl)
theorem fkX5_56 : ax_fk RX5 56 5 13 := ⟨RX5, TX5, 16, rfl, by decide, flX5_56, inA5⟩
theorem flX5_59 : Cond.fieldLink RX5 59 (TX5 15).1 (TX5 15).2.1 (TX5 15).2.2.1 ∈ ax_all := (ax_t1 (i := 112) rfl rfl)
theorem fkX5_59 : ax_fk RX5 59 5 15 := ⟨RX5, TX5, 16, rfl, by decide, flX5_59, inA5⟩
theorem flX6_10 : Cond.fieldLink RX6 10 (TX6 0).1 (TX6 0).2.1 (TX6 0).2.2.1 ∈ ax_all := (ax_t1 (i := 236) rfl rfl)
theorem fkX6_10 : ax_fk RX6 10 6 0 := ⟨RX6, TX6, 6, rfl, by decide, flX6_10, inA6⟩
theorem flX6_21 : Cond.fieldLink RX6 21 (TX6 1).1 (TX6 1).2.1 (TX6 1).2.2.1 ∈ ax_all := (ax_t1 (i := 237) rfl rfl)
theorem fkX6_21 : ax_fk RX6 21 6 1 := ⟨RX6, TX6, 6, rfl, by decide, flX6_21, inA6⟩
theorem flX6_28 : Cond.fieldLink RX6 28 (TX6 2).1 (TX6 2).2.1 (TX6 2).2.2.1 ∈ ax_all := (ax_t1 (i := 238) rfl rfl)
theorem fkX6_28 : ax_fk RX6 28 6 2 := ⟨RX6, TX6, 6, rfl, by decide, flX6_28, inA6⟩
theorem flX6_35 : Cond.fieldLink RX6 35 (TX6 3).1 (TX6 3).2.1 (TX6 3).2.2.1 ∈ ax_all := (ax_t1 (i := 239) rfl rfl)
theorem fkX6_35 : ax_fk RX6 35 6 3 := ⟨RX6, TX6, 6, rfl, by decide, flX6_35, inA6⟩
theorem flX6_42 : Cond.fieldLink RX6 42 (TX6 4).1 (TX6 4).2.1 (TX6 4).2.2.1 ∈ ax_all := (ax_t2 (i := 0) rfl rfl)
theorem fkX6_42 : ax_fk RX6 42 6 4 := ⟨RX6, TX6, 6, rfl, by decide, flX6_42, inA6⟩
theorem flX6_46 : Cond.fieldLink RX6 46 (TX6 5).1 (TX6 5).2.1 (TX6 5).2.2.1 ∈ ax_all := (ax_t2 (i := 1) rfl rfl)
theorem fkX6_46 : ax_fk RX6 46 6 5 := ⟨RX6, TX6, 6, rfl, by decide, flX6_46, inA6⟩
theorem flX6_57 : Cond.fieldLink RX6 57 (TX1 0).1 (TX1 0).2.1 (TX1 0).2.2.1 ∈ ax_all := (ax_t1 (i := 33) rfl rfl)
theorem fkX6_57 : ax_fk RX6 57 1 0 := ⟨RX1, TX1, 8, rfl, by decide, flX6_57, inA1⟩
theorem flX6_61 : Cond.fieldLink RX6 61 (TX1 1).1 (TX1 1).2.1 (TX1 1).2.2.1 ∈ ax_all := (ax_t1 (i := 37) rfl rfl)
theorem fkX6_61 : ax_fk RX6 61 1 1 := ⟨RX1, TX1, 8, rfl, by decide, flX6_61, inA1⟩
theorem flX6_67 : Cond.fieldLink RX6 67 (TX1 2).1 (TX1 2).2.1 (TX1 2).2.2.1 ∈ ax_all := (ax_t1 (i := 41) rfl rfl)
theorem fkX6_67 : ax_fk RX6 67 1 2 := ⟨RX1, TX1, 8, rfl, by decide, flX6_67, inA1⟩
theorem flX6_87 : Cond.fieldLink RX6 87 (TX1 3).1 (TX1 3).2.1 (TX1 3).2.2.1 ∈ ax_all := (ax_t1 (i := 43) rfl rfl)
theorem fkX6_87 : ax_fk RX6 87 1 3 := ⟨RX1, TX1, 8, rfl, by decide, flX6_87, inA1⟩
theorem flX6_99 : Cond.fieldLink RX6 99 (TX3 8).1 (TX3 8).2.1 (TX3 8).2.2.1 ∈ ax_all := (ax_t1 (i := 155) rfl rfl)
theorem fkX6_99 : ax_fk RX6 99 3 8 := ⟨RX3, TX3, 10, rfl, by decide, flX6_99, inA3⟩
theorem flX6_132 : Cond.fieldLink RX6 132 (TX5 6).1 (TX5 6).2.1 (TX5 6).2.2.1 ∈ ax_all := (ax_t1 (i := 100) rfl rfl)
theorem fkX6_132 : ax_fk RX6 132 5 6 := ⟨RX5, TX5, 16, rfl, by decide, flX6_132, inA5⟩
theorem flX6_146 : Cond.fieldLink RX6 146 (TX4 5).1 (TX4 5).2.1 (TX4 5).2.2.1 ∈ ax_all := (ax_t1 (i := 193) rfl rfl)
theorem fkX6_146 : ax_fk RX6 146 4 5 := ⟨RX4, TX4, 6, rfl, by decide, flX6_146, inA4⟩
theorem flX6_163 : Cond.fieldLink RX6 163 (TX5 1).1 (TX5 1).2.1 (TX5 1).2.2.1 ∈ ax_all := (ax_t1 (i := 86) rfl rfl)
theorem fkX6_163 : ax_fk RX6 163 5 1 := ⟨RX5, TX5, 16, rfl, by decide, flX6_163, inA5⟩
theorem flX6_184 : Cond.fieldLink RX6 184 (TX5 7).1 (TX5 7).2.1 (TX5 7).2.2.1 ∈ ax_all := (ax_t1 (i := 102) rfl rfl)
theorem fkX6_184 : ax_fk RX6 184 5 7 := ⟨RX5, TX5, 16, rfl, by decide, flX6_184, inA5⟩
theorem flX6_187 : Cond.fieldLink RX6 187 (TX5 10).1 (TX5 10).2.1 (TX5 10).2.2.1 ∈ ax_all := (ax_t1 (i := 106) rfl rfl)
theorem fkX6_187 : ax_fk RX6 187 5 10 := ⟨RX5, TX5, 16, rfl, by decide, flX6_187, inA5⟩
theorem flX6_190 : Cond.fieldLink RX6 190 (TX5 11).1 (TX5 11).2.1 (TX5 11).2.2.1 ∈ ax_all := (ax_t1 (i := 108) rfl rfl)
theorem fkX6_190 : ax_fk RX6 190 5 11 := ⟨RX5, TX5, 16, rfl, by decide, flX6_190, inA5⟩
theorem flX6_197 : Cond.fieldLink RX6 197 (TX2 1).1 (TX2 1).2.1 (TX2 1).2.2.1 ∈ ax_all := (ax_t1 (i := 230) rfl rfl)
theorem fkX6_197 : ax_fk RX6 197 2 1 := ⟨RX2, TX2, 2, rfl, by decide, flX6_197, inA2⟩
theorem flX6_218 : Cond.fieldLink RX6 218 (TX0 1).1 (TX0 1).2.1 (TX0 1).2.2.1 ∈ ax_all := (ax_t1 (i := 215) rfl rfl)
theorem fkX6_218 : ax_fk RX6 218 0 1 := ⟨RX0, TX0, 2, rfl, by decide, flX6_218, inA0⟩
theorem flX6_219 : Cond.fieldLink RX6 219 (TX3 9).1 (TX3 9).2.1 (TX3 9).2.2.1 ∈ ax_all := (ax_t1 (i := 157) rfl rfl)
theorem fkX6_219 : ax_fk RX6 219 3 9 := ⟨RX3, TX3, 10, rfl, by decide, flX6_219, inA3⟩
theorem flX7_7 : Cond.fieldLink RX7 7 (TX7 2).1 (TX7 2).2.1 (TX7 2).2.2.1 ∈ ax_all := (ax_t4 (i := 68) rfl rfl)
theorem fkX7_7 : ax_fk RX7 7 7 2 := ⟨RX7, TX7, 25, rfl, by decide, flX7_7, inA7⟩
theorem flX7_13 : Cond.fieldLink RX7 13 (TX7 5).1 (TX7 5).2.1 (TX7 5).2.2.1 ∈ ax_all := (ax_t4 (i := 71) rfl rfl)
theorem fkX7_13 : ax_fk RX7 13 7 5 := ⟨RX7, TX7, 25, rfl, by decide, flX7_13, inA7⟩
theorem flX7_17 : Cond.fieldLink RX7 17 (TX7 6).1 (TX7 6).2.1 (TX7 6).2.2.1 ∈ ax_all := (ax_t4 (i := 72) rfl rfl)
theorem fkX7_17 : ax_fk RX7 17 7 6 := ⟨RX7, TX7, 25, rfl, by decide, flX7_17, inA7⟩
theorem flX7_20 : Cond.fieldLink RX7 20 (TX7 7).1 (TX7 7).2.1 (TX7 7).2.2.1 ∈ ax_all := (ax_t4 (i := 73) rfl rfl)
theorem fkX7_20 : ax_fk RX7 20 7 7 := ⟨RX7, TX7, 25, rfl, by decide, flX7_20, inA7⟩
theorem flX7_23 : Cond.fieldLink RX7 23 (TX7 9).1 (TX7 9).2.1 (TX7 9).2.2.1 ∈ ax_all := (ax_t4 (i := 75) rfl rfl)
theorem fkX7_23 : ax_fk RX7 23 7 9 := ⟨RX7, TX7, 25, rfl, by decide, flX7_23, inA7⟩
theorem flX7_26 : Cond.fieldLink RX7 26 (TX7 10).1 (TX7 10).2.1 (TX7 10).2.2.1 ∈ ax_all := (ax_t4 (i := 76) rfl rfl)
theorem fkX7_26 : ax_fk RX7 26 7 10 := ⟨RX7, TX7, 25, rfl, by decide, flX7_26, inA7⟩
theorem flX7_30 : Cond.fieldLink RX7 30 (TX7 15).1 (TX7 15).2.1 (TX7 15).2.2.1 ∈ ax_all := (ax_t4 (i := 81) rfl rfl)
theorem fkX7_30 : ax_fk RX7 30 7 15 := ⟨RX7, TX7, 25, rfl, by decide, flX7_30, inA7⟩
theorem flX7_34 : Cond.fieldLink RX7 34 (TX7 16).1 (TX7 16).2.1 (TX7 16).2.2.1 ∈ ax_all := (ax_t4 (i := 82) rfl rfl)
theorem fkX7_34 : ax_fk RX7 34 7 16 := ⟨RX7, TX7, 25, rfl, by decide, flX7_34, inA7⟩
theorem flX7_37 : Cond.fieldLink RX7 37 (TX7 17).1 (TX7 17).2.1 (TX7 17).2.2.1 ∈ ax_all := (ax_t4 (i := 83) rfl rfl)
theorem fkX7_37 : ax_fk RX7 37 7 17 := ⟨RX7, TX7, 25, rfl, by decide, flX7_37, inA7⟩
theorem flX7_40 : Cond.fieldLink RX7 40 (TX7 18).1 (TX7 18).2.1 (TX7 18).2.2.1 ∈ ax_all := (ax_t4 (i := 84) rfl rfl)
theorem fkX7_40 : ax_fk RX7 40 7 18 := ⟨RX7, TX7, 25, rfl, by decide, flX7_40, inA7⟩
theorem flX7_43 : Cond.fieldLink RX7 43 (TX7 19).1 (TX7 19).2.1 (TX7 19).2.2.1 ∈ ax_all := (ax_t4 (i := 85) rfl rfl)
theorem fkX7_43 : ax_fk RX7 43 7 19 := ⟨RX7, TX7, 25, rfl, by decide, flX7_43, inA7⟩
theorem flX7_46 : Cond.fieldLink RX7 46 (TX7 22).1 (TX7 22).2.1 (TX7 22).2.2.1 ∈ ax_all := (ax_t4 (i := 88) rfl rfl)
theorem fkX7_46 : ax_fk RX7 46 7 22 := ⟨RX7, TX7, 25, rfl, by decide, flX7_46, inA7⟩
theorem flX7_49 : Cond.fieldLink RX7 49 (TX7 24).1 (TX7 24).2.1 (TX7 24).2.2.1 ∈ ax_all := (ax_t4 (i := 90) rfl rfl)
theorem fkX7_49 : ax_fk RX7 49 7 24 := ⟨RX7, TX7, 25, rfl, by decide, flX7_49, inA7⟩
theorem flX7_52 : Cond.fieldLink RX7 52 (TX7 0).1 (TX7 0).2.1 (TX7 0).2.2.1 ∈ ax_all := (ax_t4 (i := 66) rfl rfl)
theorem fkX7_52 : ax_fk RX7 52 7 0 := ⟨RX7, TX7, 25, rfl, by decide, flX7_52, inA7⟩
theorem flX7_55 : Cond.fieldLink RX7 55 (TX7 3).1 (TX7 3).2.1 (TX7 3).2.2.1 ∈ ax_all := (ax_t4 (i := 69) rfl rfl)
theorem fkX7_55 : ax_fk RX7 55 7 3 := ⟨RX7, TX7, 25, rfl, by decide, flX7_55, inA7⟩
theorem flX7_62 : Cond.fieldLink RX7 62 (TX7 12).1 (TX7 12).2.1 (TX7 12).2.2.1 ∈ ax_all := (ax_t4 (i := 78) rfl rfl)
theorem fkX7_62 : ax_fk RX7 62 7 12 := ⟨RX7, TX7, 25, rfl, by decide, flX7_62, inA7⟩
theorem flX7_66 : Cond.fieldLink RX7 66 (TX7 1).1 (TX7 1).2.1 (TX7 1).2.2.1 ∈ ax_all := (ax_t4 (i := 67) rfl rfl)
theorem fkX7_66 : ax_fk RX7 66 7 1 := ⟨RX7, TX7, 25, rfl, by decide, flX7_66, inA7⟩
theorem flX7_80 : Cond.fieldLink RX7 80 (TX7 4).1 (TX7 4).2.1 (TX7 4).2.2.1 ∈ ax_all := (ax_t4 (i := 70) rfl rfl)
theorem fkX7_80 : ax_fk RX7 80 7 4 := ⟨RX7, TX7, 25, rfl, by decide, flX7_80, inA7⟩
theorem flX7_87 : Cond.fieldLink RX7 87 (TX7 20).1 (TX7 20).2.1 (TX7 20).2.2.1 ∈ ax_all := (ax_t4 (i := 86) rfl rfl)
theorem fkX7_87 : ax_fk RX7 87 7 20 := ⟨RX7, TX7, 25, rfl, by decide, flX7_87, inA7⟩
theorem flX7_90 : Cond.fieldLink RX7 90 (TX7 21).1 (TX7 21).2.1 (TX7 21).2.2.1 ∈ ax_all := (ax_t4 (i := 87) rfl rfl)
theorem fkX7_90 : ax_fk RX7 90 7 21 := ⟨RX7, TX7, 25, rfl, by decide, flX7_90, inA7⟩
theorem flX7_127 : Cond.fieldLink RX7 127 (TX7 14).1 (TX7 14).2.1 (TX7 14).2.2.1 ∈ ax_all := (ax_t4 (i := 80) rfl rfl)
theorem fkX7_127 : ax_fk RX7 127 7 14 := ⟨RX7, TX7, 25, rfl, by decide, flX7_127, inA7⟩
theorem flX7_130 : Cond.fieldLink RX7 130 (TX7 13).1 (TX7 13).2.1 (TX7 13).2.2.1 ∈ ax_all := (ax_t4 (i := 79) rfl rfl)
theorem fkX7_130 : ax_fk RX7 130 7 13 := ⟨RX7, TX7, 25, rfl, by decide, flX7_130, inA7⟩
theorem flX7_149 : Cond.fieldLink RX7 149 (TX7 11).1 (TX7 11).2.1 (TX7 11).2.2.1 ∈ ax_all := (ax_t4 (i := 77) rfl rfl)
theorem fkX7_149 : ax_fk RX7 149 7 11 := ⟨RX7, TX7, 25, rfl, by decide, flX7_149, inA7⟩
theorem flX7_160 : Cond.fieldLink RX7 160 (TX7 8).1 (TX7 8).2.1 (TX7 8).2.2.1 ∈ ax_all := (ax_t4 (i := 74) rfl rfl)
theorem fkX7_160 : ax_fk RX7 160 7 8 := ⟨RX7, TX7, 25, rfl, by decide, flX7_160, inA7⟩
theorem flX7_175 : Cond.fieldLink RX7 175 (TX7 23).1 (TX7 23).2.1 (TX7 23).2.2.1 ∈ ax_all := (ax_t4 (i := 89) rfl rfl)
theorem fkX7_175 : ax_fk RX7 175 7 23 := ⟨RX7, TX7, 25, rfl, by decide, flX7_175, inA7⟩
theorem fFX0_9 : ax_fF RX0 9 0 0 (.array .int) := ⟨RX0, TX0, 2, tyX0, rfl, by decide, flX0_9, inA0, tyX0_ok, nmX0, by decide +kernel, rfl, rfl⟩
theorem fpX0_15 : ax_fp RX0 15 0 1 .int := ⟨RX0, TX0, 2, tyX0, rfl, by decide, flX0_15, inA0, tyX0_ok, nmX0, by decide +kernel, rfl⟩
theorem fpX1_9 : ax_fp RX1 9 1 0 .int := ⟨RX1, TX1, 8, tyX1, rfl, by decide, flX1_9, inA1, tyX1_ok, nmX1, by decide +kernel, rfl⟩
theorem fpX1_15 : ax_fp RX1 15 1 1 .int := ⟨RX1, TX1, 8, tyX1, rfl, by decide, flX1_15, inA1, tyX1_ok, nmX1, by decide +kernel, rfl⟩
theorem fpX1_18 : ax_fp RX1 18 1 2 .int := ⟨RX1, TX1, 8, tyX1, rfl, by decide, flX1_18, inA1, tyX1_ok, nmX1, by decide +kernel, rfl⟩
theorem fpX1_21 : ax_fp RX1 21 1 3 .int := ⟨RX1, TX1, 8, tyX1, rfl, by decide, flX1_21, inA1, tyX1_ok, nmX1, by decide +kernel, rfl⟩
theorem fFX1_24 : ax_fF RX1 24 1 4 (.array .int) := ⟨RX1, TX1, 8, tyX1, rfl, by decide, flX1_24, inA1, tyX1_ok, nmX1, by decide +kernel, rfl, rfl⟩
theorem fFX1_28 : ax_fF RX1 28 1 5 (.array .int) := ⟨RX1, TX1, 8, tyX1, rfl, by decide, flX1_28, inA1, tyX1_ok, nmX1, by decide +kernel, rfl, rfl⟩
theorem fFX1_31 : ax_fF RX1 31 1 6 (.array .int) := ⟨RX1, TX1, 8, tyX1, rfl, by decide, flX1_31, inA1, tyX1_ok, nmX1, by decide +kernel, rfl, rfl⟩
theorem fFX1_34 : ax_fF RX1 34 1 7 (.array .int) := ⟨RX1, TX1, 8, tyX1, rfl, by decide, flX1_34, inA1, tyX1_ok, nmX1, by decide +kernel, rfl, rfl⟩
theorem fFX2_11 : ax_fF RX2 11 2 0 (.array (.object "DataMaker$Value")) := ⟨RX2, TX2, 2, tyX2, rfl, by decide, flX2_11, inA2, tyX2_ok, nmX2, by decide +kernel, rfl, rfl⟩
theorem fpX2_17 : ax_fp RX2 17 2 1 .int := ⟨RX2, TX2, 2, tyX2, rfl, by decide, flX2_17, inA2, tyX2_ok, nmX2, by decide +kernel, rfl⟩
theorem fFX3_9 : ax_fF RX3 9 3 0 (.object "DataMaker$Grammar") := ⟨RX3, TX3, 10, tyX3, rfl, by decide, flX3_9, inA3, tyX3_ok, nmX3, by decide +kernel, rfl, rfl⟩
theorem fFX3_17 : ax_fF RX3 17 3 1 (.array (.object "DataMaker$Value")) := ⟨RX3, TX3, 10, tyX3, rfl, by decide, flX3_17, inA3, tyX3_ok, nmX3, by decide +kernel, rfl, rfl⟩
theorem fFX3_22 : ax_fF RX3 22 3 2 (.array (.object "DataMaker$Value")) := ⟨RX3, TX3, 10, tyX3, rfl, by decide, flX3_22, inA3, tyX3_ok, nmX3, by decide +kernel, rfl, rfl⟩
theorem fFX3_25 : ax_fF RX3 25 3 3 (.array .int) := ⟨RX3, TX3, 10, tyX3, rfl, by decide, flX3_25, inA3, tyX3_ok, nmX3, by decide +kernel, rfl, rfl⟩
theorem fFX3_29 : ax_fF RX3 29 3 4 (.array .int) := ⟨RX3, TX3, 10, tyX3, rfl, by decide, flX3_29, inA3, tyX3_ok, nmX3, by decide +kernel, rfl, rfl⟩
theorem fFX3_32 : ax_fF RX3 32 3 5 (.array (.object "DataMaker$Value")) := ⟨RX3, TX3, 10, tyX3, rfl, by decide, flX3_32, inA3, tyX3_ok, nmX3, by decide +kernel, rfl, rfl⟩
theorem fpX3_35 : ax_fp RX3 35 3 6 .int := ⟨RX3, TX3, 10, tyX3, rfl, by decide, flX3_35, inA3, tyX3_ok, nmX3, by decide +kernel, rfl⟩
theorem fpX3_39 : ax_fp RX3 39 3 7 .boolean := ⟨RX3, TX3, 10, tyX3, rfl, by decide, flX3_39, inA3, tyX3_ok, nmX3, by decide +kernel, rfl⟩
theorem fpX3_43 : ax_fp RX3 43 3 8 .int := ⟨RX3, TX3, 10, tyX3, rfl, by decide, flX3_43, inA3, tyX3_ok, nmX3, by decide +kernel, rfl⟩
theorem fpX3_46 : ax_fp RX3 46 3 9 .boolean := ⟨RX3, TX3, 10, tyX3, rfl, by decide, flX3_46, inA3, tyX3_ok, nmX3, by decide +kernel, rfl⟩
theorem fpX3_148 : ax_fp RX3 148 5 1 .int := ⟨RX5, TX5, 16, tyX5, rfl, by decide, flX3_148, inA5, tyX5_ok, nmX5, by decide +kernel, rfl⟩
theorem fFX4_9 : ax_fF RX4 9 4 0 (.object "DataMaker$Grammar") := ⟨RX4, TX4, 6, tyX4, rfl, by decide, flX4_9, inA4, tyX4_ok, nmX4, by decide +kernel, rfl, rfl⟩
theorem fFX4_15 : ax_fF RX4 15 4 1 (.array .int) := ⟨RX4, TX4, 6, tyX4, rfl, by decide, flX4_15, inA4, tyX4_ok, nmX4, by decide +kernel, rfl, rfl⟩
theorem fFX4_21 : ax_fF RX4 21 4 2 (.array (.object "DataMaker$Value")) := ⟨RX4, TX4, 6, tyX4, rfl, by decide, flX4_21, inA4, tyX4_ok, nmX4, by decide +kernel, rfl, rfl⟩
theorem fpX4_26 : ax_fp RX4 26 4 3 .int := ⟨RX4, TX4, 6, tyX4, rfl, by decide, flX4_26, inA4, tyX4_ok, nmX4, by decide +kernel, rfl⟩
theorem fpX4_30 : ax_fp RX4 30 4 4 .int := ⟨RX4, TX4, 6, tyX4, rfl, by decide, flX4_30, inA4, tyX4_ok, nmX4, by decide +kernel, rfl⟩
theorem fpX4_33 : ax_fp RX4 33 4 5 .int := ⟨RX4, TX4, 6, tyX4, rfl, by decide, flX4_33, inA4, tyX4_ok, nmX4, by decide +kernel, rfl⟩
theorem fFX5_9 : ax_fF RX5 9 5 4 (.array .int) := ⟨RX5, TX5, 16, tyX5, rfl, by decide, flX5_9, inA5, tyX5_ok, nmX5, by decide +kernel, rfl, rfl⟩
theorem fFX5_15 : ax_fF RX5 15 5 5 (.array (.object "DataMaker$Value")) := ⟨RX5, TX5, 16, tyX5, rfl, by decide, flX5_15, inA5, tyX5_ok, nmX5, by decide +kernel, rfl, rfl⟩
theorem fpX5_19 : ax_fp RX5 19 5 0 .int := ⟨RX5, TX5, 16, tyX5, rfl, by decide, flX5_19, inA5, tyX5_ok, nmX5, by decide +kernel, rfl⟩
theorem fpX5_23 : ax_fp RX5 23 5 1 .int := ⟨RX5, TX5, 16, tyX5, rfl, by decide, flX5_23, inA5, tyX5_ok, nmX5, by decide +kernel, rfl⟩
theorem fpX5_26 : ax_fp RX5 26 5 2 .int := ⟨RX5, TX5, 16, tyX5, rfl, by decide, flX5_26, inA5, tyX5_ok, nmX5, by decide +kernel, rfl⟩
theorem fpX5_29 : ax_fp RX5 29 5 3 .int := ⟨RX5, TX5, 16, tyX5, rfl, by decide, flX5_29, inA5, tyX5_ok, nmX5, by decide +kernel, rfl⟩
theorem fpX5_32 : ax_fp RX5 32 5 6 .int := ⟨RX5, TX5, 16, tyX5, rfl, by decide, flX5_32, inA5, tyX5_ok, nmX5, by decide +kernel, rfl⟩
theorem fpX5_35 : ax_fp RX5 35 5 7 .int := ⟨RX5, TX5, 16, tyX5, rfl, by decide, flX5_35, inA5, tyX5_ok, nmX5, by decide +kernel, rfl⟩
theorem fpX5_38 : ax_fp RX5 38 5 8 .int := ⟨RX5, TX5, 16, tyX5, rfl, by decide, flX5_38, inA5, tyX5_ok, nmX5, by decide +kernel, rfl⟩
theorem fpX5_41 : ax_fp RX5 41 5 9 .int := ⟨RX5, TX5, 16, tyX5, rfl, by decide, flX5_41, inA5, tyX5_ok, nmX5, by decide +kernel, rfl⟩
theorem fpX5_44 : ax_fp RX5 44 5 10 .int := ⟨RX5, TX5, 16, tyX5, rfl, by decide, flX5_44, inA5, tyX5_ok, nmX5, by decide +kernel, rfl⟩
theorem fpX5_47 : ax_fp RX5 47 5 11 .int := ⟨RX5, TX5, 16, tyX5, rfl, by decide, flX5_47, inA5, tyX5_ok, nmX5, by decide +kernel, rfl⟩
theorem fpX5_50 : ax_fp RX5 50 5 12 .int := ⟨RX5, TX5, 16, tyX5, rfl, by decide, flX5_50, inA5, tyX5_ok, nmX5, by decide +kernel, rfl⟩
theorem fpX5_53 : ax_fp RX5 53 5 14 .int := ⟨RX5, TX5, 16, tyX5, rfl, by decide, flX5_53, inA5, tyX5_ok, nmX5, by decide +kernel, rfl⟩
theorem fpX5_56 : ax_fp RX5 56 5 13 .int := ⟨RX5, TX5, 16, tyX5, rfl, by decide, flX5_56, inA5, tyX5_ok, nmX5, by decide +kernel, rfl⟩
theorem fpX5_59 : ax_fp RX5 59 5 15 .boolean := ⟨RX5, TX5, 16, tyX5, rfl, by decide, flX5_59, inA5, tyX5_ok, nmX5, by decide +kernel, rfl⟩
theorem fFX6_10 : ax_fF RX6 10 6 0 (.object "DataMaker$Grammar") := ⟨RX6, TX6, 6, tyX6, rfl, by decide, flX6_10, inA6, tyX6_ok, nmX6, by decide +kernel, rfl, rfl⟩
theorem fFX6_21 : ax_fF RX6 21 6 1 (.object "DataMaker$Stock") := ⟨RX6, TX6, 6, tyX6, rfl, by decide, flX6_21, inA6, tyX6_ok, nmX6, by decide +kernel, rfl, rfl⟩
theorem fFX6_28 : ax_fF RX6 28 6 2 (.object "DataMaker$Told") := ⟨RX6, TX6, 6, tyX6, rfl, by decide, flX6_28, inA6, tyX6_ok, nmX6, by decide +kernel, rfl, rfl⟩
theorem fFX6_35 : ax_fF RX6 35 6 3 (.object "DataMaker$Code") := ⟨RX6, TX6, 6, tyX6, rfl, by decide, flX6_35, inA6, tyX6_ok, nmX6, by decide +kernel, rfl, rfl⟩
theorem fFX6_42 : ax_fF RX6 42 6 4 (.object "DataMaker$Reductions") := ⟨RX6, TX6, 6, tyX6, rfl, by decide, flX6_42, inA6, tyX6_ok, nmX6, by decide +kernel, rfl, rfl⟩
theorem fpX6_46 : ax_fp RX6 46 6 5 (.object "DataMaker$Value") := ⟨RX6, TX6, 6, tyX6, rfl, by decide, flX6_46, inA6, tyX6_ok, nmX6, by decide +kernel, rfl⟩
theorem fpX6_57 : ax_fp RX6 57 1 0 .int := ⟨RX1, TX1, 8, tyX1, rfl, by decide, flX6_57, inA1, tyX1_ok, nmX1, by decide +kernel, rfl⟩
theorem fpX6_61 : ax_fp RX6 61 1 1 .int := ⟨RX1, TX1, 8, tyX1, rfl, by decide, flX6_61, inA1, tyX1_ok, nmX1, by decide +kernel, rfl⟩
theorem fpX6_67 : ax_fp RX6 67 1 2 .int := ⟨RX1, TX1, 8, tyX1, rfl, by decide, flX6_67, inA1, tyX1_ok, nmX1, by decide +kernel, rfl⟩
theorem fpX6_146 : ax_fp RX6 146 4 5 .int := ⟨RX4, TX4, 6, tyX4, rfl, by decide, flX6_146, inA4, tyX4_ok, nmX4, by decide +kernel, rfl⟩
theorem fpX6_219 : ax_fp RX6 219 3 9 .boolean := ⟨RX3, TX3, 10, tyX3, rfl, by decide, flX6_219, inA3, tyX3_ok, nmX3, by decide +kernel, rfl⟩
theorem fpX7_7 : ax_fp RX7 7 7 2 .int := ⟨RX7, TX7, 25, tyX7, rfl, by decide, flX7_7, inA7, tyX7_ok, nmX7, by decide +kernel, rfl⟩
theorem fFX7_13 : ax_fF RX7 13 7 5 (.array .int) := ⟨RX7, TX7, 25, tyX7, rfl, by decide, flX7_13, inA7, tyX7_ok, nmX7, by decide +kernel, rfl, rfl⟩
theorem fFX7_17 : ax_fF RX7 17 7 6 (.array .int) := ⟨RX7, TX7, 25, tyX7, rfl, by decide, flX7_17, inA7, tyX7_ok, nmX7, by decide +kernel, rfl, rfl⟩
theorem fFX7_20 : ax_fF RX7 20 7 7 (.array .int) := ⟨RX7, TX7, 25, tyX7, rfl, by decide, flX7_20, inA7, tyX7_ok, nmX7, by decide +kernel, rfl, rfl⟩
theorem fFX7_23 : ax_fF RX7 23 7 9 (.array .int) := ⟨RX7, TX7, 25, tyX7, rfl, by decide, flX7_23, inA7, tyX7_ok, nmX7, by decide +kernel, rfl, rfl⟩
theorem fpX7_26 : ax_fp RX7 26 7 10 .int := ⟨RX7, TX7, 25, tyX7, rfl, by decide, flX7_26, inA7, tyX7_ok, nmX7, by decide +kernel, rfl⟩
theorem fFX7_30 : ax_fF RX7 30 7 15 (.array (.array .int)) := ⟨RX7, TX7, 25, tyX7, rfl, by decide, flX7_30, inA7, tyX7_ok, nmX7, by decide +kernel, rfl, rfl⟩
theorem fFX7_34 : ax_fF RX7 34 7 16 (.array .int) := ⟨RX7, TX7, 25, tyX7, rfl, by decide, flX7_34, inA7, tyX7_ok, nmX7, by decide +kernel, rfl, rfl⟩
theorem fFX7_37 : ax_fF RX7 37 7 17 (.array .int) := ⟨RX7, TX7, 25, tyX7, rfl, by decide, flX7_37, inA7, tyX7_ok, nmX7, by decide +kernel, rfl, rfl⟩
theorem fFX7_40 : ax_fF RX7 40 7 18 (.array .int) := ⟨RX7, TX7, 25, tyX7, rfl, by decide, flX7_40, inA7, tyX7_ok, nmX7, by decide +kernel, rfl, rfl⟩
theorem fFX7_43 : ax_fF RX7 43 7 19 (.array .int) := ⟨RX7, TX7, 25, tyX7, rfl, by decide, flX7_43, inA7, tyX7_ok, nmX7, by decide +kernel, rfl, rfl⟩
theorem fFX7_46 : ax_fF RX7 46 7 22 (.array .int) := ⟨RX7, TX7, 25, tyX7, rfl, by decide, flX7_46, inA7, tyX7_ok, nmX7, by decide +kernel, rfl, rfl⟩
theorem fFX7_49 : ax_fF RX7 49 7 24 (.array .int) := ⟨RX7, TX7, 25, tyX7, rfl, by decide, flX7_49, inA7, tyX7_ok, nmX7, by decide +kernel, rfl, rfl⟩
theorem fpX7_52 : ax_fp RX7 52 7 0 .int := ⟨RX7, TX7, 25, tyX7, rfl, by decide, flX7_52, inA7, tyX7_ok, nmX7, by decide +kernel, rfl⟩
theorem fpX7_55 : ax_fp RX7 55 7 3 .int := ⟨RX7, TX7, 25, tyX7, rfl, by decide, flX7_55, inA7, tyX7_ok, nmX7, by decide +kernel, rfl⟩
theorem fpX7_62 : ax_fp RX7 62 7 12 .boolean := ⟨RX7, TX7, 25, tyX7, rfl, by decide, flX7_62, inA7, tyX7_ok, nmX7, by decide +kernel, rfl⟩
theorem fpX7_66 : ax_fp RX7 66 7 1 .int := ⟨RX7, TX7, 25, tyX7, rfl, by decide, flX7_66, inA7, tyX7_ok, nmX7, by decide +kernel, rfl⟩
theorem fpX7_80 : ax_fp RX7 80 7 4 .int := ⟨RX7, TX7, 25, tyX7, rfl, by decide, flX7_80, inA7, tyX7_ok, nmX7, by decide +kernel, rfl⟩
theorem fpX7_87 : ax_fp RX7 87 7 20 .int := ⟨RX7, TX7, 25, tyX7, rfl, by decide, flX7_87, inA7, tyX7_ok, nmX7, by decide +kernel, rfl⟩
theorem fpX7_90 : ax_fp RX7 90 7 21 .int := ⟨RX7, TX7, 25, tyX7, rfl, by decide, flX7_90, inA7, tyX7_ok, nmX7, by decide +kernel, rfl⟩
theorem fpX7_127 : ax_fp RX7 127 7 14 .int := ⟨RX7, TX7, 25, tyX7, rfl, by decide, flX7_127, inA7, tyX7_ok, nmX7, by decide +kernel, rfl⟩
theorem fpX7_130 : ax_fp RX7 130 7 13 .int := ⟨RX7, TX7, 25, tyX7, rfl, by decide, flX7_130, inA7, tyX7_ok, nmX7, by decide +kernel, rfl⟩
theorem fpX7_149 : ax_fp RX7 149 7 11 .int := ⟨RX7, TX7, 25, tyX7, rfl, by decide, flX7_149, inA7, tyX7_ok, nmX7, by decide +kernel, rfl⟩
theorem fpX7_160 : ax_fp RX7 160 7 8 .int := ⟨RX7, TX7, 25, tyX7, rfl, by decide, flX7_160, inA7, tyX7_ok, nmX7, by decide +kernel, rfl⟩
theorem fpX7_175 : ax_fp RX7 175 7 23 .int := ⟨RX7, TX7, 25, tyX7, rfl, by decide, flX7_175, inA7, tyX7_ok, nmX7, by decide +kernel, rfl⟩
theorem mkL_8 : ax_mk RL 8 6 [.null, .null, .null, .null, .null, .null] := ⟨RX6, TX6, 6, tyX6, rfl, inA6, tyX6_ok, (ax_t1 (i := 18) rfl rfl), (ax_t1 (i := 19) rfl rfl), (ax_t1 (i := 1) rfl rfl), by decide +kernel, rfl⟩
theorem mkL_84 : ax_mk RL 84 7 [.int 0, .int 0, .int 0, .int 0, .int 0, .null, .null, .null, .int 0, .null, .int 0, .int 0, .int 0, .int 0, .int 0, .null, .null, .null, .null, .null, .int 0, .int 0, .null, .int 0, .null] := ⟨RX7, TX7, 25, tyX7, rfl, inA7, tyX7_ok, (ax_t4 (i := 58) rfl rfl), (ax_t4 (i := 59) rfl rfl), (ax_t1 (i := 8) rfl rfl), by decide +kernel, rfl⟩
theorem mkX3_15 : ax_mk RX3 15 5 [.int 0, .int 0, .int 0, .int 0, .null, .null, .int 0, .int 0, .int 0, .int 0, .int 0, .int 0, .int 0, .int 0, .int 0, .int 0] := ⟨RX5, TX5, 16, tyX5, rfl, inA5, tyX5_ok, (ax_t1 (i := 73) rfl rfl), (ax_t1 (i := 75) rfl rfl), (ax_t1 (i := 4) rfl rfl), by decide +kernel, rfl⟩
theorem mkX4_19 : ax_mk RX4 19 5 [.int 0, .int 0, .int 0, .int 0, .null, .null, .int 0, .int 0, .int 0, .int 0, .int 0, .int 0, .int 0, .int 0, .int 0, .int 0] := ⟨RX5, TX5, 16, tyX5, rfl, inA5, tyX5_ok, (ax_t1 (i := 185) rfl rfl), (ax_t1 (i := 75) rfl rfl), (ax_t1 (i := 4) rfl rfl), by decide +kernel, rfl⟩
theorem mkX6_7 : ax_mk RX6 7 1 [.int 0, .int 0, .int 0, .int 0, .null, .null, .null, .null] := ⟨RX1, TX1, 8, tyX1, rfl, inA1, tyX1_ok, (ax_t1 (i := 26) rfl rfl), (ax_t1 (i := 27) rfl rfl), (ax_t1 (i := 2) rfl rfl), by decide +kernel, rfl⟩
theorem mkX6_16 : ax_mk RX6 16 3 [.null, .null, .null, .null, .null, .null, .int 0, .int 0, .int 0, .int 0] := ⟨RX3, TX3, 10, tyX3, rfl, inA3, tyX3_ok, (ax_t1 (i := 67) rfl rfl), (ax_t1 (i := 68) rfl rfl), (ax_t1 (i := 3) rfl rfl), by decide +kernel, rfl⟩
theorem mkX6_25 : ax_mk RX6 25 4 [.null, .null, .null, .int 0, .int 0, .int 0] := ⟨RX4, TX4, 6, tyX4, rfl, inA4, tyX4_ok, (ax_t1 (i := 179) rfl rfl), (ax_t1 (i := 180) rfl rfl), (ax_t1 (i := 5) rfl rfl), by decide +kernel, rfl⟩
theorem mkX6_32 : ax_mk RX6 32 0 [.null, .int 0] := ⟨RX0, TX0, 2, tyX0, rfl, inA0, tyX0_ok, (ax_t1 (i := 207) rfl rfl), (ax_t1 (i := 208) rfl rfl), (ax_t1 (i := 6) rfl rfl), by decide +kernel, rfl⟩
theorem mkX6_39 : ax_mk RX6 39 2 [.null, .int 0] := ⟨RX2, TX2, 2, tyX2, rfl, inA2, tyX2_ok, (ax_t1 (i := 221) rfl rfl), (ax_t1 (i := 222) rfl rfl), (ax_t1 (i := 7) rfl rfl), by decide +kernel, rfl⟩
theorem lkL_7 : ax_lkV RL 7 mX6_setRange 6 := ⟨okX6_setRange, rfl, cdX6_setRange, (ax_t2 (i := 155) rfl rfl), (ax_t2 (i := 156) rfl rfl), (ax_t2 (i := 157) rfl rfl), TX6, 6, rfl⟩
theorem lkL_15 : ax_lkV RL 15 mX6_addType 6 := ⟨okX6_addType, rfl, cdX6_addType, (ax_t2 (i := 236) rfl rfl), (ax_t2 (i := 237) rfl rfl), (ax_t2 (i := 238) rfl rfl), TX6, 6, rfl⟩
theorem lkL_21 : ax_lkV RL 21 mX6_addConstructor 6 := ⟨okX6_addConstructor, rfl, cdX6_addConstructor, (ax_t3 (i := 20) rfl rfl), (ax_t3 (i := 21) rfl rfl), (ax_t3 (i := 22) rfl rfl), TX6, 6, rfl⟩
theorem lkL_27 : ax_lkV RL 27 mX6_count 6 := ⟨okX6_count, rfl, cdX6_count, (ax_t3 (i := 67) rfl rfl), (ax_t3 (i := 68) rfl rfl), (ax_t3 (i := 69) rfl rfl), TX6, 6, rfl⟩
theorem lkL_31 : ax_lkV RL 31 mX6_total 6 := ⟨okX6_total, rfl, cdX6_total, (ax_t3 (i := 85) rfl rfl), (ax_t3 (i := 86) rfl rfl), (ax_t3 (i := 87) rfl rfl), TX6, 6, rfl⟩
theorem lkL_34 : ax_lkV RL 34 mX6_firstAgainst 6 := ⟨okX6_firstAgainst, rfl, cdX6_firstAgainst, (ax_t3 (i := 92) rfl rfl), (ax_t3 (i := 93) rfl rfl), (ax_t3 (i := 94) rfl rfl), TX6, 6, rfl⟩
theorem lkL_38 : ax_lkV RL 38 mX6_select 6 := ⟨okX6_select, rfl, cdX6_select, (ax_t3 (i := 106) rfl rfl), (ax_t3 (i := 107) rfl rfl), (ax_t3 (i := 108) rfl rfl), TX6, 6, rfl⟩
theorem lkL_41 : ax_lkV RL 41 mX6_draw 6 := ⟨okX6_draw, rfl, cdX6_draw, (ax_t3 (i := 116) rfl rfl), (ax_t3 (i := 117) rfl rfl), (ax_t3 (i := 118) rfl rfl), TX6, 6, rfl⟩
theorem lkL_47 : ax_lkV RL 47 mX6_tell 6 := ⟨okX6_tell, rfl, cdX6_tell, (ax_t3 (i := 141) rfl rfl), (ax_t3 (i := 142) rfl rfl), (ax_t3 (i := 143) rfl rfl), TX6, 6, rfl⟩
theorem lkL_51 : ax_lkV RL 51 mX6_read 6 := ⟨okX6_read, rfl, cdX6_read, (ax_t3 (i := 154) rfl rfl), (ax_t3 (i := 155) rfl rfl), (ax_t3 (i := 156) rfl rfl), TX6, 6, rfl⟩
theorem lkL_54 : ax_lkV RL 54 mX6_length 6 := ⟨okX6_length, rfl, cdX6_length, (ax_t3 (i := 197) rfl rfl), (ax_t3 (i := 198) rfl rfl), (ax_t3 (i := 199) rfl rfl), TX6, 6, rfl⟩
theorem lkL_57 : ax_lkV RL 57 mX6_code 6 := ⟨okX6_code, rfl, cdX6_code, (ax_t3 (i := 213) rfl rfl), (ax_t3 (i := 214) rfl rfl), (ax_t3 (i := 215) rfl rfl), TX6, 6, rfl⟩
theorem lkL_60 : ax_lkV RL 60 mX6_number 6 := ⟨okX6_number, rfl, cdX6_number, (ax_t3 (i := 221) rfl rfl), (ax_t3 (i := 222) rfl rfl), (ax_t3 (i := 223) rfl rfl), TX6, 6, rfl⟩
theorem lkL_63 : ax_lkV RL 63 mX6_height 6 := ⟨okX6_height, rfl, cdX6_height, (ax_t3 (i := 228) rfl rfl), (ax_t3 (i := 229) rfl rfl), (ax_t3 (i := 230) rfl rfl), TX6, 6, rfl⟩
theorem lkL_66 : ax_lkV RL 66 mX6_mean 6 := ⟨okX6_mean, rfl, cdX6_mean, (ax_t3 (i := 235) rfl rfl), (ax_t3 (i := 236) rfl rfl), (ax_t3 (i := 237) rfl rfl), TX6, 6, rfl⟩
theorem lkL_70 : ax_lkV RL 70 mX6_holds 6 := ⟨okX6_holds, rfl, cdX6_holds, (ax_t4 (i := 2) rfl rfl), (ax_t4 (i := 3) rfl rfl), (ax_t4 (i := 4) rfl rfl), TX6, 6, rfl⟩
theorem lkL_74 : ax_lkV RL 74 mX6_reductionCount 6 := ⟨okX6_reductionCount, rfl, cdX6_reductionCount, (ax_t4 (i := 9) rfl rfl), (ax_t4 (i := 10) rfl rfl), (ax_t4 (i := 11) rfl rfl), TX6, 6, rfl⟩
theorem lkL_77 : ax_lkV RL 77 mX6_reduction 6 := ⟨okX6_reduction, rfl, cdX6_reduction, (ax_t4 (i := 40) rfl rfl), (ax_t4 (i := 41) rfl rfl), (ax_t4 (i := 42) rfl rfl), TX6, 6, rfl⟩
theorem lkL_80 : ax_lkV RL 80 mX6_reduce 6 := ⟨okX6_reduce, rfl, cdX6_reduce, (ax_t4 (i := 49) rfl rfl), (ax_t4 (i := 50) rfl rfl), (ax_t4 (i := 51) rfl rfl), TX6, 6, rfl⟩
theorem lkL_83 : ax_lkI RL 83 mX6_init := ⟨okX6_init, rfl, rfl, rfl, cdX6_init, (ax_t1 (i := 20) rfl rfl), (ax_t1 (i := 21) rfl rfl)⟩
theorem lkL_86 : ax_lkI RL 86 mX7_init := ⟨okX7_init, rfl, rfl, rfl, cdX7_init, (ax_t4 (i := 60) rfl rfl), (ax_t4 (i := 61) rfl rfl)⟩
theorem lkL_87 : ax_lkH RL 87 mL_setRange := ⟨okL_setRange, cdL_setRange, (ax_t2 (i := 151) rfl rfl), (ax_t2 (i := 152) rfl rfl)⟩
theorem lkL_92 : ax_lkV RL 92 mX7_setRange 7 := ⟨okX7_setRange, rfl, cdX7_setRange, (ax_t4 (i := 146) rfl rfl), (ax_t4 (i := 147) rfl rfl), (ax_t4 (i := 148) rfl rfl), TX7, 25, rfl⟩
theorem lkL_93 : ax_lkV RL 93 mX7_thrown 7 := ⟨okX7_thrown, rfl, cdX7_thrown, (ax_t4 (i := 142) rfl rfl), (ax_t4 (i := 143) rfl rfl), (ax_t4 (i := 144) rfl rfl), TX7, 25, rfl⟩
theorem lkL_96 : ax_lkH RL 96 mL_addType := ⟨okL_addType, cdL_addType, (ax_t2 (i := 232) rfl rfl), (ax_t2 (i := 233) rfl rfl)⟩
theorem lkL_99 : ax_lkV RL 99 mX7_addType 7 := ⟨okX7_addType, rfl, cdX7_addType, (ax_t4 (i := 154) rfl rfl), (ax_t4 (i := 155) rfl rfl), (ax_t4 (i := 156) rfl rfl), TX7, 25, rfl⟩
theorem lkL_100 : ax_lkH RL 100 mL_addConstructor := ⟨okL_addConstructor, cdL_addConstructor, (ax_t3 (i := 16) rfl rfl), (ax_t3 (i := 17) rfl rfl)⟩
theorem lkL_103 : ax_lkV RL 103 mX7_addConstructor 7 := ⟨okX7_addConstructor, rfl, cdX7_addConstructor, (ax_t4 (i := 162) rfl rfl), (ax_t4 (i := 163) rfl rfl), (ax_t4 (i := 164) rfl rfl), TX7, 25, rfl⟩
theorem lkL_104 : ax_lkV RL 104 mX6_typeCount 6 := ⟨okX6_typeCount, rfl, cdX6_typeCount, (ax_t2 (i := 15) rfl rfl), (ax_t2 (i := 16) rfl rfl), (ax_t2 (i := 17) rfl rfl), TX6, 6, rfl⟩
theorem lkL_107 : ax_lkV RL 107 mX7_typeCount 7 := ⟨okX7_typeCount, rfl, cdX7_typeCount, (ax_t4 (i := 173) rfl rfl), (ax_t4 (i := 174) rfl rfl), (ax_t4 (i := 175) rfl rfl), TX7, 25, rfl⟩
theorem lkL_108 : ax_lkV RL 108 mX6_horizon 6 := ⟨okX6_horizon, rfl, cdX6_horizon, (ax_t2 (i := 19) rfl rfl), (ax_t2 (i := 20) rfl rfl), (ax_t2 (i := 21) rfl rfl), TX6, 6, rfl⟩
theorem lkL_111 : ax_lkV RL 111 mX7_horizon 7 := ⟨okX7_horizon, rfl, cdX7_horizon, (ax_t4 (i := 177) rfl rfl), (ax_t4 (i := 178) rfl rfl), (ax_t4 (i := 179) rfl rfl), TX7, 25, rfl⟩
theorem lkL_112 : ax_lkH RL 112 mL_count := ⟨okL_count, cdL_count, (ax_t3 (i := 64) rfl rfl), (ax_t3 (i := 65) rfl rfl)⟩
theorem lkL_114 : ax_lkV RL 114 mX7_count 7 := ⟨okX7_count, rfl, cdX7_count, (ax_t4 (i := 221) rfl rfl), (ax_t4 (i := 222) rfl rfl), (ax_t4 (i := 223) rfl rfl), TX7, 25, rfl⟩
theorem lkL_115 : ax_lkH RL 115 mL_total := ⟨okL_total, cdL_total, (ax_t3 (i := 82) rfl rfl), (ax_t3 (i := 83) rfl rfl)⟩
theorem lkL_117 : ax_lkV RL 117 mX7_total 7 := ⟨okX7_total, rfl, cdX7_total, (ax_t4 (i := 233) rfl rfl), (ax_t4 (i := 234) rfl rfl), (ax_t4 (i := 235) rfl rfl), TX7, 25, rfl⟩
theorem lkL_118 : ax_lkH RL 118 mL_firstAgainst := ⟨okL_firstAgainst, cdL_firstAgainst, (ax_t3 (i := 89) rfl rfl), (ax_t3 (i := 90) rfl rfl)⟩
theorem lkL_121 : ax_lkV RL 121 mX7_firstAgainst 7 := ⟨okX7_firstAgainst, rfl, cdX7_firstAgainst, (ax_t4 (i := 237) rfl rfl), (ax_t4 (i := 238) rfl rfl), (ax_t4 (i := 239) rfl rfl), TX7, 25, rfl⟩
theorem lkL_122 : ax_lkH RL 122 mL_select := ⟨okL_select, cdL_select, (ax_t3 (i := 103) rfl rfl), (ax_t3 (i := 104) rfl rfl)⟩
theorem lkL_124 : ax_lkV RL 124 mX7_select 7 := ⟨okX7_select, rfl, cdX7_select, (ax_t5 (i := 5) rfl rfl), (ax_t5 (i := 6) rfl rfl), (ax_t5 (i := 7) rfl rfl), TX7, 25, rfl⟩
theorem lkL_127 : ax_lkH RL 127 mL_draw := ⟨okL_draw, cdL_draw, (ax_t3 (i := 112) rfl rfl), (ax_t3 (i := 113) rfl rfl)⟩
theorem lkL_130 : ax_lkV RL 130 mX7_draw 7 := ⟨okX7_draw, rfl, cdX7_draw, (ax_t5 (i := 13) rfl rfl), (ax_t5 (i := 14) rfl rfl), (ax_t5 (i := 15) rfl rfl), TX7, 25, rfl⟩
theorem lkL_131 : ax_lkH RL 131 mL_tell := ⟨okL_tell, cdL_tell, (ax_t3 (i := 138) rfl rfl), (ax_t3 (i := 139) rfl rfl)⟩
theorem lkL_134 : ax_lkV RL 134 mX7_tell 7 := ⟨okX7_tell, rfl, cdX7_tell, (ax_t5 (i := 19) rfl rfl), (ax_t5 (i := 20) rfl rfl), (ax_t5 (i := 21) rfl rfl), TX7, 25, rfl⟩
theorem lkL_135 : ax_lkH RL 135 mL_read := ⟨okL_read, cdL_read, (ax_t3 (i := 151) rfl rfl), (ax_t3 (i := 152) rfl rfl)⟩
theorem lkL_137 : ax_lkV RL 137 mX7_read 7 := ⟨okX7_read, rfl, cdX7_read, (ax_t5 (i := 23) rfl rfl), (ax_t5 (i := 24) rfl rfl), (ax_t5 (i := 25) rfl rfl), TX7, 25, rfl⟩
theorem lkL_138 : ax_lkH RL 138 mL_length := ⟨okL_length, cdL_length, (ax_t3 (i := 194) rfl rfl), (ax_t3 (i := 195) rfl rfl)⟩
theorem lkL_140 : ax_lkV RL 140 mX7_length 7 := ⟨okX7_length, rfl, cdX7_length, (ax_t5 (i := 31) rfl rfl), (ax_t5 (i := 32) rfl rfl), (ax_t5 (i := 33) rfl rfl), TX7, 25, rfl⟩
theorem lkL_141 : ax_lkH RL 141 mL_code := ⟨okL_code, cdL_code, (ax_t3 (i := 210) rfl rfl), (ax_t3 (i := 211) rfl rfl)⟩
theorem lkL_143 : ax_lkV RL 143 mX7_code 7 := ⟨okX7_code, rfl, cdX7_code, (ax_t5 (i := 43) rfl rfl), (ax_t5 (i := 44) rfl rfl), (ax_t5 (i := 45) rfl rfl), TX7, 25, rfl⟩
theorem lkL_144 : ax_lkH RL 144 mL_number := ⟨okL_number, cdL_number, (ax_t3 (i := 218) rfl rfl), (ax_t3 (i := 219) rfl rfl)⟩
theorem lkL_146 : ax_lkV RL 146 mX7_number 7 := ⟨okX7_number, rfl, cdX7_number, (ax_t5 (i := 47) rfl rfl), (ax_t5 (i := 48) rfl rfl), (ax_t5 (i := 49) rfl rfl), TX7, 25, rfl⟩
theorem lkL_147 : ax_lkH RL 147 mL_height := ⟨okL_height, cdL_height, (ax_t3 (i := 225) rfl rfl), (ax_t3 (i := 226) rfl rfl)⟩
theorem lkL_149 : ax_lkV RL 149 mX7_height 7 := ⟨okX7_height, rfl, cdX7_height, (ax_t5 (i := 51) rfl rfl), (ax_t5 (i := 52) rfl rfl), (ax_t5 (i := 53) rfl rfl), TX7, 25, rfl⟩
theorem lkL_150 : ax_lkH RL 150 mL_mean := ⟨okL_mean, cdL_mean, (ax_t3 (i := 232) rfl rfl), (ax_t3 (i := 233) rfl rfl)⟩
theorem lkL_153 : ax_lkV RL 153 mX7_mean 7 := ⟨okX7_mean, rfl, cdX7_mean, (ax_t5 (i := 55) rfl rfl), (ax_t5 (i := 56) rfl rfl), (ax_t5 (i := 57) rfl rfl), TX7, 25, rfl⟩
theorem lkL_154 : ax_lkH RL 154 mL_holds := ⟨okL_holds, cdL_holds, (ax_t3 (i := 239) rfl rfl), (ax_t4 (i := 0) rfl rfl)⟩
theorem lkL_156 : ax_lkV RL 156 mX7_holds 7 := ⟨okX7_holds, rfl, cdX7_holds, (ax_t5 (i := 59) rfl rfl), (ax_t5 (i := 60) rfl rfl), (ax_t5 (i := 61) rfl rfl), TX7, 25, rfl⟩
theorem lkL_157 : ax_lkH RL 157 mL_reductionCount := ⟨okL_reductionCount, cdL_reductionCount, (ax_t4 (i := 6) rfl rfl), (ax_t4 (i := 7) rfl rfl)⟩
theorem lkL_159 : ax_lkV RL 159 mX7_reductionCount 7 := ⟨okX7_reductionCount, rfl, cdX7_reductionCount, (ax_t5 (i := 63) rfl rfl), (ax_t5 (i := 64) rfl rfl), (ax_t5 (i := 65) rfl rfl), TX7, 25, rfl⟩
theorem lkL_160 : ax_lkH RL 160 mL_reduction := ⟨okL_reduction, cdL_reduction, (ax_t4 (i := 37) rfl rfl), (ax_t4 (i := 38) rfl rfl)⟩
theorem lkL_162 : ax_lkV RL 162 mX7_reduction 7 := ⟨okX7_reduction, rfl, cdX7_reduction, (ax_t5 (i := 75) rfl rfl), (ax_t5 (i := 76) rfl rfl), (ax_t5 (i := 77) rfl rfl), TX7, 25, rfl⟩
theorem lkL_163 : ax_lkH RL 163 mL_reduce := ⟨okL_reduce, cdL_reduce, (ax_t4 (i := 46) rfl rfl), (ax_t4 (i := 47) rfl rfl)⟩
theorem lkL_165 : ax_lkV RL 165 mX7_reduce 7 := ⟨okX7_reduce, rfl, cdX7_reduce, (ax_t5 (i := 79) rfl rfl), (ax_t5 (i := 80) rfl rfl), (ax_t5 (i := 81) rfl rfl), TX7, 25, rfl⟩
theorem lkL_166 : ax_lkV RL 166 mX6_digest 6 := ⟨okX6_digest, rfl, cdX6_digest, (ax_t2 (i := 122) rfl rfl), (ax_t2 (i := 123) rfl rfl), (ax_t2 (i := 124) rfl rfl), TX6, 6, rfl⟩
theorem lkL_170 : ax_lkV RL 170 mX7_digest 7 := ⟨okX7_digest, rfl, cdX7_digest, (ax_t5 (i := 83) rfl rfl), (ax_t5 (i := 84) rfl rfl), (ax_t5 (i := 85) rfl rfl), TX7, 25, rfl⟩
theorem lkX0_19 : ax_lkV RX0 19 mX0_appendValue 0 := ⟨okX0_appendValue, rfl, cdX0_appendValue, (ax_t2 (i := 135) rfl rfl), (ax_t2 (i := 137) rfl rfl), (ax_tp1 (i := 10) rfl rfl), TX0, 2, rfl⟩
theorem lkX0_28 : ax_lkV RX0 28 mX0_append 0 := ⟨okX0_append, rfl, cdX0_append, (ax_t2 (i := 139) rfl rfl), (ax_t2 (i := 141) rfl rfl), (ax_tp1 (i := 11) rfl rfl), TX0, 2, rfl⟩
theorem lkX0_35 : ax_lkV RX0 35 mX5_partAt 5 := ⟨okX5_partAt, rfl, cdX5_partAt, (ax_t2 (i := 143) rfl rfl), (ax_t2 (i := 144) rfl rfl), (ax_t2 (i := 145) rfl rfl), TX5, 16, rfl⟩
theorem lkX1_37 : ax_lkV RX1 37 mX1_isParameter 1 := ⟨okX1_isParameter, rfl, cdX1_isParameter, (ax_t3 (i := 52) rfl rfl), (ax_t3 (i := 54) rfl rfl), (ax_tp1 (i := 15) rfl rfl), TX1, 8, rfl⟩
theorem lkX1_41 : ax_lkV RX1 41 mX1_hasType 1 := ⟨okX1_hasType, rfl, cdX1_hasType, (ax_t3 (i := 56) rfl rfl), (ax_t3 (i := 29) rfl rfl), (ax_t3 (i := 30) rfl rfl), TX1, 8, rfl⟩
theorem lkX1_44 : ax_lkV RX1 44 mX1_hasConstructor 1 := ⟨okX1_hasConstructor, rfl, cdX1_hasConstructor, (ax_t2 (i := 35) rfl rfl), (ax_t2 (i := 36) rfl rfl), (ax_t2 (i := 37) rfl rfl), TX1, 8, rfl⟩
theorem lkX2_21 : ax_lkV RX2 21 mX2_at 2 := ⟨okX2_at, rfl, cdX2_at, (ax_t4 (i := 26) rfl rfl), (ax_t4 (i := 27) rfl rfl), (ax_t4 (i := 28) rfl rfl), TX2, 2, rfl⟩
theorem lkX2_25 : ax_lkV RX2 25 mX5_fits 5 := ⟨okX5_fits, rfl, cdX5_fits, (ax_t4 (i := 57) rfl rfl), (ax_t2 (i := 64) rfl rfl), (ax_t2 (i := 65) rfl rfl), TX5, 16, rfl⟩
theorem lkX2_32 : ax_lkV RX2 32 mX2_addPartsOf 2 := ⟨okX2_addPartsOf, rfl, cdX2_addPartsOf, (ax_t4 (i := 17) rfl rfl), (ax_t4 (i := 19) rfl rfl), (ax_tp2 (i := 7) rfl rfl), TX2, 2, rfl⟩
theorem lkX2_39 : ax_lkV RX2 39 mX3_upTo 3 := ⟨okX3_upTo, rfl, cdX3_upTo, (ax_t4 (i := 34) rfl rfl), (ax_t2 (i := 100) rfl rfl), (ax_t2 (i := 101) rfl rfl), TX3, 10, rfl⟩
theorem lkX2_48 : ax_lkV RX2 48 mX3_valueAt 3 := ⟨okX3_valueAt, rfl, cdX3_valueAt, (ax_t4 (i := 35) rfl rfl), (ax_t2 (i := 104) rfl rfl), (ax_t2 (i := 105) rfl rfl), TX3, 10, rfl⟩
theorem lkX2_52 : ax_lkV RX2 52 mX5_differsFrom 5 := ⟨okX5_differsFrom, rfl, cdX5_differsFrom, (ax_t4 (i := 36) rfl rfl), (ax_t3 (i := 188) rfl rfl), (ax_t3 (i := 189) rfl rfl), TX5, 16, rfl⟩
theorem lkX2_56 : ax_lkV RX2 56 mX2_append 2 := ⟨okX2_append, rfl, cdX2_append, (ax_t4 (i := 30) rfl rfl), (ax_t4 (i := 32) rfl rfl), (ax_tp2 (i := 9) rfl rfl), TX2, 2, rfl⟩
theorem lkX2_60 : ax_lkV RX2 60 mX5_partAt 5 := ⟨okX5_partAt, rfl, cdX5_partAt, (ax_t4 (i := 21) rfl rfl), (ax_t2 (i := 144) rfl rfl), (ax_t2 (i := 145) rfl rfl), TX5, 16, rfl⟩
theorem lkX2_63 : ax_lkV RX2 63 mX2_has 2 := ⟨okX2_has, rfl, cdX2_has, (ax_t4 (i := 22) rfl rfl), (ax_t4 (i := 24) rfl rfl), (ax_tp2 (i := 8) rfl rfl), TX2, 2, rfl⟩
theorem lkX3_21 : ax_lkI RX3 21 mX5_init := ⟨okX5_init, rfl, rfl, rfl, cdX5_init, (ax_t1 (i := 76) rfl rfl), (ax_t1 (i := 77) rfl rfl)⟩
theorem lkX3_55 : ax_lkV RX3 55 mX3_upTo 3 := ⟨okX3_upTo, rfl, cdX3_upTo, (ax_t2 (i := 99) rfl rfl), (ax_t2 (i := 100) rfl rfl), (ax_t2 (i := 101) rfl rfl), TX3, 10, rfl⟩
theorem lkX3_59 : ax_lkV RX3 59 mX3_valueAt 3 := ⟨okX3_valueAt, rfl, cdX3_valueAt, (ax_t2 (i := 103) rfl rfl), (ax_t2 (i := 104) rfl rfl), (ax_t2 (i := 105) rfl rfl), TX3, 10, rfl⟩
theorem lkX3_63 : ax_lkV RX3 63 mX5_differsFrom 5 := ⟨okX5_differsFrom, rfl, cdX5_differsFrom, (ax_t3 (i := 187) rfl rfl), (ax_t3 (i := 188) rfl rfl), (ax_t3 (i := 189) rfl rfl), TX5, 16, rfl⟩
theorem lkX3_67 : ax_lkV RX3 67 mX3_makeSize 3 := ⟨okX3_makeSize, rfl, cdX3_makeSize, (ax_t2 (i := 27) rfl rfl), (ax_t2 (i := 29) rfl rfl), (ax_tp1 (i := 0) rfl rfl), TX3, 10, rfl⟩
theorem lkX3_71 : ax_lkV RX3 71 mX3_closeSize 3 := ⟨okX3_closeSize, rfl, cdX3_closeSize, (ax_t2 (i := 118) rfl rfl), (ax_t2 (i := 120) rfl rfl), (ax_tp1 (i := 9) rfl rfl), TX3, 10, rfl⟩
theorem lkX3_79 : ax_lkV RX3 79 mX1_typeOf 1 := ⟨okX1_typeOf, rfl, cdX1_typeOf, (ax_t2 (i := 31) rfl rfl), (ax_t2 (i := 32) rfl rfl), (ax_t2 (i := 33) rfl rfl), TX1, 8, rfl⟩
theorem lkX3_83 : ax_lkV RX3 83 mX5_begin 5 := ⟨okX5_begin, rfl, cdX5_begin, (ax_t2 (i := 39) rfl rfl), (ax_t2 (i := 40) rfl rfl), (ax_t2 (i := 41) rfl rfl), TX5, 16, rfl⟩
theorem lkX3_87 : ax_lkV RX3 87 mX3_extend 3 := ⟨okX3_extend, rfl, cdX3_extend, (ax_t2 (i := 43) rfl rfl), (ax_t2 (i := 45) rfl rfl), (ax_tp1 (i := 1) rfl rfl), TX3, 10, rfl⟩
theorem lkX3_97 : ax_lkV RX3 97 mX1_parameter 1 := ⟨okX1_parameter, rfl, cdX1_parameter, (ax_t2 (i := 47) rfl rfl), (ax_t2 (i := 48) rfl rfl), (ax_t2 (i := 49) rfl rfl), TX1, 8, rfl⟩
theorem lkX3_100 : ax_lkV RX3 100 mX1_typesFrom 1 := ⟨okX1_typesFrom, rfl, cdX1_typesFrom, (ax_t2 (i := 51) rfl rfl), (ax_t2 (i := 52) rfl rfl), (ax_t2 (i := 53) rfl rfl), TX1, 8, rfl⟩
theorem lkX3_103 : ax_lkV RX3 103 mX3_isHopeless 3 := ⟨okX3_isHopeless, rfl, cdX3_isHopeless, (ax_t2 (i := 55) rfl rfl), (ax_t2 (i := 57) rfl rfl), (ax_tp1 (i := 2) rfl rfl), TX3, 10, rfl⟩
theorem lkX3_107 : ax_lkV RX3 107 mX3_keep 3 := ⟨okX3_keep, rfl, cdX3_keep, (ax_t2 (i := 71) rfl rfl), (ax_t2 (i := 73) rfl rfl), (ax_tp1 (i := 4) rfl rfl), TX3, 10, rfl⟩
theorem lkX3_111 : ax_lkV RX3 111 mX3_extendByNumbers 3 := ⟨okX3_extendByNumbers, rfl, cdX3_extendByNumbers, (ax_t2 (i := 79) rfl rfl), (ax_t2 (i := 81) rfl rfl), (ax_tp1 (i := 5) rfl rfl), TX3, 10, rfl⟩
theorem lkX3_114 : ax_lkV RX3 114 mX3_extendByParts 3 := ⟨okX3_extendByParts, rfl, cdX3_extendByParts, (ax_t2 (i := 95) rfl rfl), (ax_t2 (i := 97) rfl rfl), (ax_tp1 (i := 8) rfl rfl), TX3, 10, rfl⟩
theorem lkX3_118 : ax_lkV RX3 118 mX1_conditionOf 1 := ⟨okX1_conditionOf, rfl, cdX1_conditionOf, (ax_t2 (i := 59) rfl rfl), (ax_t2 (i := 60) rfl rfl), (ax_t2 (i := 61) rfl rfl), TX1, 8, rfl⟩
theorem lkX3_121 : ax_lkV RX3 121 mX5_fits 5 := ⟨okX5_fits, rfl, cdX5_fits, (ax_t2 (i := 63) rfl rfl), (ax_t2 (i := 64) rfl rfl), (ax_t2 (i := 65) rfl rfl), TX5, 16, rfl⟩
theorem lkX3_131 : ax_lkV RX3 131 mX3_copyToExtend 3 := ⟨okX3_copyToExtend, rfl, cdX3_copyToExtend, (ax_t2 (i := 83) rfl rfl), (ax_t2 (i := 85) rfl rfl), (ax_tp1 (i := 6) rfl rfl), TX3, 10, rfl⟩
theorem lkX3_135 : ax_lkV RX3 135 mX5_addNumber 5 := ⟨okX5_addNumber, rfl, cdX5_addNumber, (ax_t2 (i := 87) rfl rfl), (ax_t2 (i := 88) rfl rfl), (ax_t2 (i := 89) rfl rfl), TX5, 16, rfl⟩
theorem lkX3_138 : ax_lkV RX3 138 mX5_clashesWith 5 := ⟨okX5_clashesWith, rfl, cdX5_clashesWith, (ax_t2 (i := 107) rfl rfl), (ax_t2 (i := 108) rfl rfl), (ax_t2 (i := 109) rfl rfl), TX5, 16, rfl⟩
theorem lkX3_142 : ax_lkV RX3 142 mX5_addPart 5 := ⟨okX5_addPart, rfl, cdX5_addPart, (ax_t2 (i := 114) rfl rfl), (ax_t2 (i := 115) rfl rfl), (ax_t2 (i := 116) rfl rfl), TX5, 16, rfl⟩
theorem lkX3_145 : ax_lkV RX3 145 mX5_copyFrom 5 := ⟨okX5_copyFrom, rfl, cdX5_copyFrom, (ax_t2 (i := 75) rfl rfl), (ax_t2 (i := 76) rfl rfl), (ax_t2 (i := 77) rfl rfl), TX5, 16, rfl⟩
theorem lkX4_25 : ax_lkI RX4 25 mX5_init := ⟨okX5_init, rfl, rfl, rfl, cdX5_init, (ax_t1 (i := 186) rfl rfl), (ax_t1 (i := 77) rfl rfl)⟩
theorem lkX4_36 : ax_lkV RX4 36 mX4_parseValue 4 := ⟨okX4_parseValue, rfl, cdX4_parseValue, (ax_t3 (i := 162) rfl rfl), (ax_t3 (i := 164) rfl rfl), (ax_tp2 (i := 3) rfl rfl), TX4, 6, rfl⟩
theorem lkX4_40 : ax_lkV RX4 40 mX4_next 4 := ⟨okX4_next, rfl, cdX4_next, (ax_t3 (i := 166) rfl rfl), (ax_t3 (i := 168) rfl rfl), (ax_tp2 (i := 4) rfl rfl), TX4, 6, rfl⟩
theorem lkX4_44 : ax_lkV RX4 44 mX1_hasConstructor 1 := ⟨okX1_hasConstructor, rfl, cdX1_hasConstructor, (ax_t3 (i := 170) rfl rfl), (ax_t2 (i := 36) rfl rfl), (ax_t2 (i := 37) rfl rfl), TX1, 8, rfl⟩
theorem lkX4_50 : ax_lkV RX4 50 mX1_typeOf 1 := ⟨okX1_typeOf, rfl, cdX1_typeOf, (ax_t3 (i := 171) rfl rfl), (ax_t2 (i := 32) rfl rfl), (ax_t2 (i := 33) rfl rfl), TX1, 8, rfl⟩
theorem lkX4_54 : ax_lkV RX4 54 mX5_begin 5 := ⟨okX5_begin, rfl, cdX5_begin, (ax_t3 (i := 172) rfl rfl), (ax_t2 (i := 40) rfl rfl), (ax_t2 (i := 41) rfl rfl), TX5, 16, rfl⟩
theorem lkX4_58 : ax_lkV RX4 58 mX1_parameter 1 := ⟨okX1_parameter, rfl, cdX1_parameter, (ax_t3 (i := 173) rfl rfl), (ax_t2 (i := 48) rfl rfl), (ax_t2 (i := 49) rfl rfl), TX1, 8, rfl⟩
theorem lkX4_62 : ax_lkV RX4 62 mX4_parseArgument 4 := ⟨okX4_parseArgument, rfl, cdX4_parseArgument, (ax_t3 (i := 174) rfl rfl), (ax_t3 (i := 176) rfl rfl), (ax_tp2 (i := 5) rfl rfl), TX4, 6, rfl⟩
theorem lkX4_66 : ax_lkV RX4 66 mX1_conditionOf 1 := ⟨okX1_conditionOf, rfl, cdX1_conditionOf, (ax_t3 (i := 180) rfl rfl), (ax_t2 (i := 60) rfl rfl), (ax_t2 (i := 61) rfl rfl), TX1, 8, rfl⟩
theorem lkX4_69 : ax_lkV RX4 69 mX5_fits 5 := ⟨okX5_fits, rfl, cdX5_fits, (ax_t3 (i := 181) rfl rfl), (ax_t2 (i := 64) rfl rfl), (ax_t2 (i := 65) rfl rfl), TX5, 16, rfl⟩
theorem lkX4_78 : ax_lkV RX4 78 mX5_addNumber 5 := ⟨okX5_addNumber, rfl, cdX5_addNumber, (ax_t3 (i := 178) rfl rfl), (ax_t2 (i := 88) rfl rfl), (ax_t2 (i := 89) rfl rfl), TX5, 16, rfl⟩
theorem lkX4_82 : ax_lkV RX4 82 mX5_addPart 5 := ⟨okX5_addPart, rfl, cdX5_addPart, (ax_t3 (i := 179) rfl rfl), (ax_t2 (i := 115) rfl rfl), (ax_t2 (i := 116) rfl rfl), TX5, 16, rfl⟩
theorem lkX5_63 : ax_lkV RX5 63 mX5_joinInts 5 := ⟨okX5_joinInts, rfl, cdX5_joinInts, (ax_t2 (i := 91) rfl rfl), (ax_t2 (i := 93) rfl rfl), (ax_tp1 (i := 7) rfl rfl), TX5, 16, rfl⟩
theorem lkX5_67 : ax_lkV RX5 67 mX5_partsDiffer 5 := ⟨okX5_partsDiffer, rfl, cdX5_partsDiffer, (ax_t2 (i := 67) rfl rfl), (ax_t2 (i := 69) rfl rfl), (ax_tp1 (i := 3) rfl rfl), TX5, 16, rfl⟩
theorem lkX5_77 : ax_lkS RX5 77 mX5_distance := ⟨okX5_distance, rfl, cdX5_distance, (ax_t3 (i := 191) rfl rfl), (ax_t3 (i := 192) rfl rfl), rfl⟩
theorem lkX6_9 : ax_lkI RX6 9 mX1_init := ⟨okX1_init, rfl, rfl, rfl, cdX1_init, (ax_t1 (i := 28) rfl rfl), (ax_t1 (i := 29) rfl rfl)⟩
theorem lkX6_18 : ax_lkI RX6 18 mX3_init := ⟨okX3_init, rfl, rfl, rfl, cdX3_init, (ax_t1 (i := 69) rfl rfl), (ax_t1 (i := 70) rfl rfl)⟩
theorem lkX6_27 : ax_lkI RX6 27 mX4_init := ⟨okX4_init, rfl, rfl, rfl, cdX4_init, (ax_t1 (i := 181) rfl rfl), (ax_t1 (i := 182) rfl rfl)⟩
theorem lkX6_34 : ax_lkI RX6 34 mX0_init := ⟨okX0_init, rfl, rfl, rfl, cdX0_init, (ax_t1 (i := 209) rfl rfl), (ax_t1 (i := 210) rfl rfl)⟩
theorem lkX6_41 : ax_lkI RX6 41 mX2_init := ⟨okX2_init, rfl, rfl, rfl, cdX2_init, (ax_t1 (i := 223) rfl rfl), (ax_t1 (i := 224) rfl rfl)⟩
theorem lkX6_64 : ax_lkV RX6 64 mX6_forgetValues 6 := ⟨okX6_forgetValues, rfl, cdX6_forgetValues, (ax_t2 (i := 228) rfl rfl), (ax_t2 (i := 230) rfl rfl), (ax_tp1 (i := 13) rfl rfl), TX6, 6, rfl⟩
theorem lkX6_75 : ax_lkV RX6 75 mX6_requireType 6 := ⟨okX6_requireType, rfl, cdX6_requireType, (ax_t3 (i := 24) rfl rfl), (ax_t3 (i := 26) rfl rfl), (ax_tp1 (i := 14) rfl rfl), TX6, 6, rfl⟩
theorem lkX6_79 : ax_lkV RX6 79 mX1_allowsParameters 1 := ⟨okX1_allowsParameters, rfl, cdX1_allowsParameters, (ax_t3 (i := 48) rfl rfl), (ax_t3 (i := 49) rfl rfl), (ax_t3 (i := 50) rfl rfl), TX1, 8, rfl⟩
theorem lkX6_92 : ax_lkV RX6 92 mX1_append 1 := ⟨okX1_append, rfl, cdX1_append, (ax_t3 (i := 60) rfl rfl), (ax_t3 (i := 61) rfl rfl), (ax_t3 (i := 62) rfl rfl), TX1, 8, rfl⟩
theorem lkX6_96 : ax_lkV RX6 96 mX3_refresh 3 := ⟨okX3_refresh, rfl, cdX3_refresh, (ax_t2 (i := 23) rfl rfl), (ax_t2 (i := 24) rfl rfl), (ax_t2 (i := 25) rfl rfl), TX3, 10, rfl⟩
theorem lkX6_102 : ax_lkV RX6 102 mX6_requireSize 6 := ⟨okX6_requireSize, rfl, cdX6_requireSize, (ax_t3 (i := 71) rfl rfl), (ax_t3 (i := 73) rfl rfl), (ax_tp2 (i := 0) rfl rfl), TX6, 6, rfl⟩
theorem lkX6_105 : ax_lkV RX6 105 mX6_requireKnown 6 := ⟨okX6_requireKnown, rfl, cdX6_requireKnown, (ax_t3 (i := 76) rfl rfl), (ax_t3 (i := 78) rfl rfl), (ax_tp2 (i := 1) rfl rfl), TX6, 6, rfl⟩
theorem lkX6_108 : ax_lkV RX6 108 mX3_upTo 3 := ⟨okX3_upTo, rfl, cdX3_upTo, (ax_t3 (i := 81) rfl rfl), (ax_t2 (i := 100) rfl rfl), (ax_t2 (i := 101) rfl rfl), TX3, 10, rfl⟩
theorem lkX6_112 : ax_lkV RX6 112 mX6_requireProperty 6 := ⟨okX6_requireProperty, rfl, cdX6_requireProperty, (ax_t3 (i := 96) rfl rfl), (ax_t3 (i := 98) rfl rfl), (ax_tp2 (i := 2) rfl rfl), TX6, 6, rfl⟩
theorem lkX6_115 : ax_lkV RX6 115 mX3_valueAt 3 := ⟨okX3_valueAt, rfl, cdX3_valueAt, (ax_t3 (i := 101) rfl rfl), (ax_t2 (i := 104) rfl rfl), (ax_t2 (i := 105) rfl rfl), TX3, 10, rfl⟩
theorem lkX6_119 : ax_lkV RX6 119 mX5_fits 5 := ⟨okX5_fits, rfl, cdX5_fits, (ax_t3 (i := 102) rfl rfl), (ax_t2 (i := 64) rfl rfl), (ax_t2 (i := 65) rfl rfl), TX5, 16, rfl⟩
theorem lkX6_151 : ax_lkV RX6 151 mX4_append 4 := ⟨okX4_append, rfl, cdX4_append, (ax_t3 (i := 147) rfl rfl), (ax_t3 (i := 148) rfl rfl), (ax_t3 (i := 149) rfl rfl), TX4, 6, rfl⟩
theorem lkX6_153 : ax_lkV RX6 153 mX4_parse 4 := ⟨okX4_parse, rfl, cdX4_parse, (ax_t3 (i := 158) rfl rfl), (ax_t3 (i := 159) rfl rfl), (ax_t3 (i := 160) rfl rfl), TX4, 6, rfl⟩
theorem lkX6_159 : ax_lkV RX6 159 mX3_find 3 := ⟨okX3_find, rfl, cdX3_find, (ax_t3 (i := 183) rfl rfl), (ax_t3 (i := 184) rfl rfl), (ax_t3 (i := 185) rfl rfl), TX3, 10, rfl⟩
theorem lkX6_166 : ax_lkV RX6 166 mX6_chosen 6 := ⟨okX6_chosen, rfl, cdX6_chosen, (ax_t3 (i := 201) rfl rfl), (ax_t3 (i := 203) rfl rfl), (ax_tp2 (i := 6) rfl rfl), TX6, 6, rfl⟩
theorem lkX6_170 : ax_lkV RX6 170 mX5_codeLength 5 := ⟨okX5_codeLength, rfl, cdX5_codeLength, (ax_t3 (i := 206) rfl rfl), (ax_t3 (i := 207) rfl rfl), (ax_t3 (i := 208) rfl rfl), TX5, 16, rfl⟩
theorem lkX6_176 : ax_lkV RX6 176 mX0_write 0 := ⟨okX0_write, rfl, cdX0_write, (ax_t2 (i := 131) rfl rfl), (ax_t2 (i := 132) rfl rfl), (ax_t2 (i := 133) rfl rfl), TX0, 2, rfl⟩
theorem lkX6_180 : ax_lkV RX6 180 mX0_at 0 := ⟨okX0_at, rfl, cdX0_at, (ax_t2 (i := 147) rfl rfl), (ax_t2 (i := 148) rfl rfl), (ax_t2 (i := 149) rfl rfl), TX0, 2, rfl⟩
theorem lkX6_193 : ax_lkV RX6 193 mX2_collect 2 := ⟨okX2_collect, rfl, cdX2_collect, (ax_t4 (i := 13) rfl rfl), (ax_t4 (i := 14) rfl rfl), (ax_t4 (i := 15) rfl rfl), TX2, 2, rfl⟩
theorem lkX6_198 : ax_lkV RX6 198 mX2_at 2 := ⟨okX2_at, rfl, cdX2_at, (ax_t4 (i := 44) rfl rfl), (ax_t4 (i := 27) rfl rfl), (ax_t4 (i := 28) rfl rfl), TX2, 2, rfl⟩
theorem lkX6_202 : ax_lkV RX6 202 mX2_firstUnfit 2 := ⟨okX2_firstUnfit, rfl, cdX2_firstUnfit, (ax_t4 (i := 53) rfl rfl), (ax_t4 (i := 54) rfl rfl), (ax_t4 (i := 55) rfl rfl), TX2, 2, rfl⟩
theorem lkX6_209 : ax_lkV RX6 209 mX1_typeOf 1 := ⟨okX1_typeOf, rfl, cdX1_typeOf, (ax_t2 (i := 128) rfl rfl), (ax_t2 (i := 32) rfl rfl), (ax_t2 (i := 33) rfl rfl), TX1, 8, rfl⟩
theorem lkX6_212 : ax_lkV RX6 212 mX1_parameter 1 := ⟨okX1_parameter, rfl, cdX1_parameter, (ax_t2 (i := 129) rfl rfl), (ax_t2 (i := 48) rfl rfl), (ax_t2 (i := 49) rfl rfl), TX1, 8, rfl⟩
theorem lkX6_215 : ax_lkV RX6 215 mX1_conditionOf 1 := ⟨okX1_conditionOf, rfl, cdX1_conditionOf, (ax_t2 (i := 130) rfl rfl), (ax_t2 (i := 60) rfl rfl), (ax_t2 (i := 61) rfl rfl), TX1, 8, rfl⟩
theorem lkX6_225 : ax_lkV RX6 225 mX1_hasType 1 := ⟨okX1_hasType, rfl, cdX1_hasType, (ax_t3 (i := 28) rfl rfl), (ax_t3 (i := 29) rfl rfl), (ax_t3 (i := 30) rfl rfl), TX1, 8, rfl⟩
theorem lkX7_58 : ax_lkS RX7 58 mX7_isIn := ⟨okX7_isIn, rfl, cdX7_isIn, (ax_t4 (i := 170) rfl rfl), (ax_t4 (i := 171) rfl rfl), rfl⟩
theorem lkX7_69 : ax_lkV RX7 69 mX7_change 7 := ⟨okX7_change, rfl, cdX7_change, (ax_t4 (i := 150) rfl rfl), (ax_t4 (i := 152) rfl rfl), (ax_tp2 (i := 10) rfl rfl), TX7, 25, rfl⟩
theorem lkX7_72 : ax_lkV RX7 72 mX7_fail 7 := ⟨okX7_fail, rfl, cdX7_fail, (ax_t4 (i := 158) rfl rfl), (ax_t4 (i := 160) rfl rfl), (ax_tp2 (i := 11) rfl rfl), TX7, 25, rfl⟩
theorem lkX7_76 : ax_lkV RX7 76 mX7_isType 7 := ⟨okX7_isType, rfl, cdX7_isType, (ax_t4 (i := 166) rfl rfl), (ax_t4 (i := 168) rfl rfl), (ax_tp2 (i := 12) rfl rfl), TX7, 25, rfl⟩
theorem lkX7_83 : ax_lkV RX7 83 mX7_look 7 := ⟨okX7_look, rfl, cdX7_look, (ax_t4 (i := 203) rfl rfl), (ax_t4 (i := 205) rfl rfl), (ax_tp3 (i := 1) rfl rfl), TX7, 25, rfl⟩
theorem lkX7_102 : ax_lkV RX7 102 mX7_isTrue 7 := ⟨okX7_isTrue, rfl, cdX7_isTrue, (ax_t4 (i := 213) rfl rfl), (ax_t4 (i := 215) rfl rfl), (ax_tp3 (i := 2) rfl rfl), TX7, 25, rfl⟩
theorem lkX7_106 : ax_lkV RX7 106 mX7_end 7 := ⟨okX7_end, rfl, cdX7_end, (ax_t4 (i := 217) rfl rfl), (ax_t4 (i := 219) rfl rfl), (ax_tp3 (i := 3) rfl rfl), TX7, 25, rfl⟩
theorem lkX7_110 : ax_lkV RX7 110 mX7_value 7 := ⟨okX7_value, rfl, cdX7_value, (ax_t4 (i := 193) rfl rfl), (ax_t4 (i := 195) rfl rfl), (ax_tp3 (i := 0) rfl rfl), TX7, 25, rfl⟩
theorem lkX7_113 : ax_lkV RX7 113 mX7_choices 7 := ⟨okX7_choices, rfl, cdX7_choices, (ax_t4 (i := 189) rfl rfl), (ax_t4 (i := 191) rfl rfl), (ax_tp2 (i := 15) rfl rfl), TX7, 25, rfl⟩
theorem lkX7_117 : ax_lkS RX7 117 mX7_constructorsIn := ⟨okX7_constructorsIn, rfl, cdX7_constructorsIn, (ax_t4 (i := 197) rfl rfl), (ax_t4 (i := 198) rfl rfl), rfl⟩
theorem lkX7_133 : ax_lkV RX7 133 mX7_write 7 := ⟨okX7_write, rfl, cdX7_write, (ax_t4 (i := 185) rfl rfl), (ax_t4 (i := 187) rfl rfl), (ax_tp2 (i := 14) rfl rfl), TX7, 25, rfl⟩
theorem lkX7_137 : ax_lkV RX7 137 mX7_make 7 := ⟨okX7_make, rfl, cdX7_make, (ax_t4 (i := 181) rfl rfl), (ax_t4 (i := 183) rfl rfl), (ax_tp2 (i := 13) rfl rfl), TX7, 25, rfl⟩
theorem lkX7_140 : ax_lkV RX7 140 mX7_asks 7 := ⟨okX7_asks, rfl, cdX7_asks, (ax_t4 (i := 225) rfl rfl), (ax_t4 (i := 227) rfl rfl), (ax_tp3 (i := 4) rfl rfl), TX7, 25, rfl⟩
theorem lkX7_143 : ax_lkV RX7 143 mX7_upTo 7 := ⟨okX7_upTo, rfl, cdX7_upTo, (ax_t4 (i := 229) rfl rfl), (ax_t4 (i := 231) rfl rfl), (ax_tp3 (i := 5) rfl rfl), TX7, 25, rfl⟩
theorem lkX7_146 : ax_lkV RX7 146 mX7_isTrueOf 7 := ⟨okX7_isTrueOf, rfl, cdX7_isTrueOf, (ax_t5 (i := 1) rfl rfl), (ax_t5 (i := 3) rfl rfl), (ax_tp3 (i := 6) rfl rfl), TX7, 25, rfl⟩
theorem lkX7_152 : ax_lkV RX7 152 mX7_choose 7 := ⟨okX7_choose, rfl, cdX7_choose, (ax_t5 (i := 9) rfl rfl), (ax_t5 (i := 11) rfl rfl), (ax_tp3 (i := 7) rfl rfl), TX7, 25, rfl⟩
theorem lkX7_163 : ax_lkV RX7 163 mX7_find 7 := ⟨okX7_find, rfl, cdX7_find, (ax_t5 (i := 27) rfl rfl), (ax_t5 (i := 29) rfl rfl), (ax_tp3 (i := 8) rfl rfl), TX7, 25, rfl⟩
theorem lkX7_167 : ax_lkV RX7 167 mX7_has 7 := ⟨okX7_has, rfl, cdX7_has, (ax_t5 (i := 35) rfl rfl), (ax_t5 (i := 37) rfl rfl), (ax_tp3 (i := 9) rfl rfl), TX7, 25, rfl⟩
theorem lkX7_171 : ax_lkV RX7 171 mX7_current 7 := ⟨okX7_current, rfl, cdX7_current, (ax_t5 (i := 39) rfl rfl), (ax_t5 (i := 41) rfl rfl), (ax_tp3 (i := 10) rfl rfl), TX7, 25, rfl⟩
theorem lkX7_178 : ax_lkV RX7 178 mX7_add 7 := ⟨okX7_add, rfl, cdX7_add, (ax_t5 (i := 71) rfl rfl), (ax_t5 (i := 73) rfl rfl), (ax_tp3 (i := 12) rfl rfl), TX7, 25, rfl⟩
theorem lkX7_182 : ax_lkV RX7 182 mX7_findReductions 7 := ⟨okX7_findReductions, rfl, cdX7_findReductions, (ax_t5 (i := 67) rfl rfl), (ax_t5 (i := 69) rfl rfl), (ax_tp3 (i := 11) rfl rfl), TX7, 25, rfl⟩
theorem oiX0_3 : Cond.methodLink RX0 3 Lib.objectInit ∈ ax_all := (ax_t1 (i := 212) rfl rfl)
theorem oiX1_3 : Cond.methodLink RX1 3 Lib.objectInit ∈ ax_all := (ax_t1 (i := 31) rfl rfl)
theorem oiX2_3 : Cond.methodLink RX2 3 Lib.objectInit ∈ ax_all := (ax_t1 (i := 226) rfl rfl)
theorem oiX3_3 : Cond.methodLink RX3 3 Lib.objectInit ∈ ax_all := (ax_t1 (i := 72) rfl rfl)
theorem oiX4_3 : Cond.methodLink RX4 3 Lib.objectInit ∈ ax_all := (ax_t1 (i := 184) rfl rfl)
theorem oiX5_3 : Cond.methodLink RX5 3 Lib.objectInit ∈ ax_all := (ax_t1 (i := 79) rfl rfl)
theorem oiX6_1 : Cond.methodLink RX6 1 Lib.objectInit ∈ ax_all := (ax_t1 (i := 23) rfl rfl)
theorem oiX7_1 : Cond.methodLink RX7 1 Lib.objectInit ∈ ax_all := (ax_t4 (i := 63) rfl rfl)
theorem ax_oiI : Cond.instanceMethod Lib.objectInit ∈ ax_all := (ax_t1 (i := 24) rfl rfl)
theorem ax_oiC : Cond.code Lib.objectInit ⟨#[0xb1]⟩ 1 none ∈ ax_all := (ax_t1 (i := 25) rfl rfl)
theorem mlX5_71 : Cond.methodLink RX5 71 Lib.Math.abs.name ∈ ax_all := (ax_t2 (i := 111) rfl rfl)
theorem mlX7_93 : Cond.methodLink RX7 93 Lib.Math.min.name ∈ ax_all := (ax_t4 (i := 207) rfl rfl)
theorem mlX7_99 : Cond.methodLink RX7 99 Lib.Math.max.name ∈ ax_all := (ax_t4 (i := 210) rfl rfl)
theorem mlX7_121 : Cond.methodLink RX7 121 arraycopyName ∈ ax_all := (ax_t4 (i := 200) rfl rfl)
theorem ax_mS_min : Cond.static Lib.Math.min.name ∈ ax_all := (ax_t4 (i := 208) rfl rfl)
theorem ax_mC_min : Cond.code Lib.Math.min.name Lib.Math.min.code 2 (some .int) ∈ ax_all := (ax_t4 (i := 209) rfl rfl)
theorem ax_mS_max : Cond.static Lib.Math.max.name ∈ ax_all := (ax_t4 (i := 211) rfl rfl)
theorem ax_mC_max : Cond.code Lib.Math.max.name Lib.Math.max.code 2 (some .int) ∈ ax_all := (ax_t4 (i := 212) rfl rfl)
theorem ax_mS_abs : Cond.static Lib.Math.abs.name ∈ ax_all := (ax_t2 (i := 112) rfl rfl)
theorem ax_mC_abs : Cond.code Lib.Math.abs.name Lib.Math.abs.code 1 (some .int) ∈ ax_all := (ax_t2 (i := 113) rfl rfl)
theorem ax_iMath : Cond.initialized "java/lang/Math" ∈ ax_all := (ax_t1 (i := 15) rfl rfl)
theorem ax_iSys : Cond.initialized "java/lang/System" ∈ ax_all := (ax_t1 (i := 16) rfl rfl)
theorem ax_cN : Cond.native arraycopyName ∈ ax_all := (ax_t4 (i := 202) rfl rfl)
theorem ax_cS : Cond.static arraycopyName ∈ ax_all := (ax_t4 (i := 201) rfl rfl)
theorem ax_aI : Cond.arrayClass .int ∈ ax_all := (ax_t1 (i := 66) rfl rfl)
theorem ax_aJ : Cond.arrayClass .long ∈ ax_all := (ax_t5 (i := 90) rfl rfl)
theorem ax_aD : Cond.arrayClass .double ∈ ax_all := (ax_t5 (i := 91) rfl rfl)
theorem anX2_9 : Cond.classLink RX2 9 "DataMaker$Value" ∈ ax_all := (ax_t1 (i := 227) rfl rfl)
theorem anX3_15 : Cond.classLink RX3 15 "DataMaker$Value" ∈ ax_all := (ax_t1 (i := 73) rfl rfl)
theorem anX4_19 : Cond.classLink RX4 19 "DataMaker$Value" ∈ ax_all := (ax_t1 (i := 185) rfl rfl)
theorem anX5_10 : Cond.classLink RX5 10 "DataMaker$Value" ∈ ax_all := (ax_t1 (i := 80) rfl rfl)
theorem anX7_29 : Cond.classLink RX7 29 (FieldType.array .int).toString ∈ ax_all := (ax_t4 (i := 64) rfl rfl)
theorem lcL_125 : Cond.constantLong RL 125 4294967295 ∈ ax_all := (ax_t5 (i := 89) rfl rfl)
theorem lcX6_140 : Cond.constantLong RX6 140 6364136223846793005 ∈ ax_all := (ax_t3 (i := 136) rfl rfl)
theorem lcX6_142 : Cond.constantLong RX6 142 1442695040888963407 ∈ ax_all := (ax_t3 (i := 137) rfl rfl)
theorem lcX6_205 : Cond.constantLong RX6 205 137 ∈ ax_all := (ax_t2 (i := 126) rfl rfl)
theorem lcX6_207 : Cond.constantLong RX6 207 31 ∈ ax_all := (ax_t2 (i := 127) rfl rfl)
theorem lcX7_156 : Cond.constantLong RX7 156 6364136223846793005 ∈ ax_all := (ax_t5 (i := 17) rfl rfl)
theorem lcX7_158 : Cond.constantLong RX7 158 1442695040888963407 ∈ ax_all := (ax_t5 (i := 18) rfl rfl)
theorem lcX7_185 : Cond.constantLong RX7 185 4247 ∈ ax_all := (ax_t5 (i := 87) rfl rfl)
theorem lcX7_187 : Cond.constantLong RX7 187 31 ∈ ax_all := (ax_t5 (i := 88) rfl rfl)
theorem tkIAE : Cond.classLink RX6 50 "java/lang/IllegalArgumentException" ∈ ax_all := (ax_t2 (i := 159) rfl rfl)
theorem tiIAE : Cond.initialized "java/lang/IllegalArgumentException" ∈ ax_all := (ax_t1 (i := 12) rfl rfl)
theorem tkISE : Cond.classLink RX6 70 "java/lang/IllegalStateException" ∈ ax_all := (ax_t3 (i := 0) rfl rfl)
theorem tiISE : Cond.initialized "java/lang/IllegalStateException" ∈ ax_all := (ax_t1 (i := 13) rfl rfl)
theorem tkIOB : Cond.classLink RX6 125 "java/lang/IndexOutOfBoundsException" ∈ ax_all := (ax_t3 (i := 32) rfl rfl)
theorem tiIOB : Cond.initialized "java/lang/IndexOutOfBoundsException" ∈ ax_all := (ax_t1 (i := 14) rfl rfl)
theorem tkNSE : Cond.classLink RX6 135 "java/util/NoSuchElementException" ∈ ax_all := (ax_t3 (i := 120) rfl rfl)
theorem tiNSE : Cond.initialized "java/util/NoSuchElementException" ∈ ax_all := (ax_t1 (i := 17) rfl rfl)
theorem hkIAE : Cond.classLink RL 13 "java/lang/IllegalArgumentException" ∈ ax_all := (ax_t2 (i := 154) rfl rfl)
theorem hkISE : Cond.classLink RL 19 "java/lang/IllegalStateException" ∈ ax_all := (ax_t2 (i := 235) rfl rfl)
theorem hkIOB : Cond.classLink RL 25 "java/lang/IndexOutOfBoundsException" ∈ ax_all := (ax_t3 (i := 19) rfl rfl)
theorem hkNSE : Cond.classLink RL 45 "java/util/NoSuchElementException" ∈ ax_all := (ax_t3 (i := 115) rfl rfl)
