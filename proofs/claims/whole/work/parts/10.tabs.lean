theorem lw_ix {c : Cond} (i : Nat) (h : tables_1[i]? = some c) (hg : goodWord c = true) : c ∈ lw_g := List.mem_filter.mpr ⟨List.mem_append_right _ (List.mem_of_getElem? h), hg⟩
theorem lw_ip {c : Cond} (i : Nat) (h : (k2_sels lw_privs)[i]? = some c) (hg : goodWord c = true) : c ∈ lw_g := List.mem_filter.mpr ⟨List.mem_append_left _ (List.mem_of_getElem? h), hg⟩
theorem lw_mem {c : Cond} (h : c ∈ lw_tbl) (hg : goodWord c = true) : c ∈ lw_g := List.mem_filter.mpr ⟨h, hg⟩
set_option maxRecDepth 20000 in
theorem goodX : (wsX00 ++ wsX10 ++ wsX20 ++ wsX30 ++ wsX40 ++ wsX50 ++ wsX60 ++ wsX70 ++ wsX80 ++ wsX90).all goodWord = true := by decide +kernel
set_option maxRecDepth 20000 in
theorem gwX0 : ∀ w ∈ wsX00, w ∈ lw_g := fun w h => lw_mem (inX0 w h) (List.all_eq_true.mp goodX w (by simp only [List.mem_append]; simp only [h, true_or, or_true]))
set_option maxRecDepth 20000 in
theorem gwX1 : ∀ w ∈ wsX10, w ∈ lw_g := fun w h => lw_mem (inX1 w h) (List.all_eq_true.mp goodX w (by simp only [List.mem_append]; simp only [h, true_or, or_true]))
set_option maxRecDepth 20000 in
theorem gwX2 : ∀ w ∈ wsX20, w ∈ lw_g := fun w h => lw_mem (inX2 w h) (List.all_eq_true.mp goodX w (by simp only [List.mem_append]; simp only [h, true_or, or_true]))
set_option maxRecDepth 20000 in
theorem gwX3 : ∀ w ∈ wsX30, w ∈ lw_g := fun w h => lw_mem (inX3 w h) (List.all_eq_true.mp goodX w (by simp only [List.mem_append]; simp only [h, true_or, or_true]))
set_option maxRecDepth 20000 in
theorem gwX4 : ∀ w ∈ wsX40, w ∈ lw_g := fun w h => lw_mem (inX4 w h) (List.all_eq_true.mp goodX w (by simp only [List.mem_append]; simp only [h, true_or, or_true]))
set_option maxRecDepth 20000 in
theorem gwX5 : ∀ w ∈ wsX50, w ∈ lw_g := fun w h => lw_mem (inX5 w h) (List.all_eq_true.mp goodX w (by simp only [List.mem_append]; simp only [h, true_or, or_true]))
set_option maxRecDepth 20000 in
theorem gwX6 : ∀ w ∈ wsX60, w ∈ lw_g := fun w h => lw_mem (inX6 w h) (List.all_eq_true.mp goodX w (by simp only [List.mem_append]; simp only [h, true_or, or_true]))
set_option maxRecDepth 20000 in
theorem gwX7 : ∀ w ∈ wsX70, w ∈ lw_g := fun w h => lw_mem (inX7 w h) (List.all_eq_true.mp goodX w (by simp only [List.mem_append]; simp only [h, true_or, or_true]))
set_option maxRecDepth 20000 in
theorem gwX8 : ∀ w ∈ wsX80, w ∈ lw_g := fun w h => lw_mem (inX8 w h) (List.all_eq_true.mp goodX w (by simp only [List.mem_append]; simp only [h, true_or, or_true]))
set_option maxRecDepth 20000 in
theorem gwX9 : ∀ w ∈ wsX90, w ∈ lw_g := fun w h => lw_mem (inX9 w h) (List.all_eq_true.mp goodX w (by simp only [List.mem_append]; simp only [h, true_or, or_true]))
abbrev mX0_rowOf : MI := (yX0_rowOf, cX0_rowOf, 5, (some .int), RX0, 2, 53)
abbrev mX0_at : MI := (yX0_at, cX0_at, 3, (some .int), RX0, 0, 0)
abbrev mX1_travel : MI := (yX1_travel, cX1_travel, 6, none, RX1, 6, 151)
abbrev mX1_where : MI := (yX1_where, cX1_where, 1, (some .int), RX1, 1, 23)
abbrev mX1_firstSeen : MI := (yX1_firstSeen, cX1_firstSeen, 4, (some .int), RX1, 0, 0)
abbrev mX1_findGoer : MI := (yX1_findGoer, cX1_findGoer, 3, (some .boolean), RX1, 5, 129)
abbrev mX1_step : MI := (yX1_step, cX1_step, 1, none, RX1, 3, 66)
abbrev mX1_behind : MI := (yX1_behind, cX1_behind, 2, (some .int), RX1, 0, 0)
abbrev mX2_gainByLeaving : MI := (yX2_gainByLeaving, cX2_gainByLeaving, 3, (some .int), RX2, 3, 77)
abbrev mX2_gainByJoining : MI := (yX2_gainByJoining, cX2_gainByJoining, 7, (some .int), RX2, 3, 77)
abbrev mX2_wouldAllGain : MI := (yX2_wouldAllGain, cX2_wouldAllGain, 6, (some .boolean), RX2, 3, 77)
abbrev mX2_goodGathered : MI := (yX2_goodGathered, cX2_goodGathered, 4, (some .int), RX2, 3, 77)
abbrev mX2_stayBreaker : MI := (yX2_stayBreaker, cX2_stayBreaker, 3, (some .int), RX2, 4, 99)
abbrev mX2_joinBreaker : MI := (yX2_joinBreaker, cX2_joinBreaker, 4, (some .int), RX2, 4, 103)
abbrev mX2_coreBreaker : MI := (yX2_coreBreaker, cX2_coreBreaker, 3, (some .int), RX2, 4, 102)
abbrev mX2_bestGoal : MI := (yX2_bestGoal, cX2_bestGoal, 7, (some .int), RX2, 4, 103)
abbrev mX3_fits : MI := (yX3_fits, cX3_fits, 2, (some .boolean), RX3, 0, 0)
abbrev mX3_rowOf : MI := (yX3_rowOf, cX3_rowOf, 2, (some (.array .int)), RX3, 0, 0)
abbrev mX3_add : MI := (yX3_add, cX3_add, 6, (some .int), RX3, 0, 0)
abbrev mX3_put : MI := (yX3_put, cX3_put, 4, none, RX3, 1, 21)
abbrev mX3_putWalls : MI := (yX3_putWalls, cX3_putWalls, 2, none, RX3, 0, 0)
abbrev mX3_putShares : MI := (yX3_putShares, cX3_putShares, 2, none, RX3, 0, 0)
abbrev mX3_copy : MI := (yX3_copy, cX3_copy, 3, none, RX3, 0, 0)
abbrev mX4_reckon : MI := (yX4_reckon, cX4_reckon, 5, none, RX4, 1, 29)
abbrev mX4_wallAround : MI := (yX4_wallAround, cX4_wallAround, 10, (some .int), RX4, 0, 0)
abbrev mX4_buy : MI := (yX4_buy, cX4_buy, 8, none, RX4, 0, 0)
abbrev mX4_shareOut : MI := (yX4_shareOut, cX4_shareOut, 9, none, RX4, 0, 0)
abbrev mX5_add : MI := (yX5_add, cX5_add, 2, none, RX5, 0, 0)
abbrev mX5_firstFault : MI := (yX5_firstFault, cX5_firstFault, 7, (some .int), RX5, 0, 0)
abbrev mX5_putInto : MI := (yX5_putInto, cX5_putInto, 5, none, RX5, 2, 44)
abbrev mX6_addApart : MI := (yX6_addApart, cX6_addApart, 1, none, RX6, 0, 0)
abbrev mX6_putAllApart : MI := (yX6_putAllApart, cX6_putAllApart, 3, none, RX6, 0, 0)
abbrev mX6_putAllTogether : MI := (yX6_putAllTogether, cX6_putAllTogether, 3, none, RX6, 1, 21)
abbrev mX6_copy : MI := (yX6_copy, cX6_copy, 3, none, RX6, 0, 0)
abbrev mX6_leave : MI := (yX6_leave, cX6_leave, 2, none, RX6, 2, 44)
abbrev mX6_move : MI := (yX6_move, cX6_move, 3, none, RX6, 2, 44)
abbrev mX6_gather : MI := (yX6_gather, cX6_gather, 3, none, RX6, 2, 44)
abbrev mX6_scatter : MI := (yX6_scatter, cX6_scatter, 3, none, RX6, 2, 44)
abbrev mX6_number : MI := (yX6_number, cX6_number, 3, none, RX6, 1, 22)
abbrev mX6_firstLike : MI := (yX6_firstLike, cX6_firstLike, 3, (some .int), RX6, 0, 0)
abbrev mX6_advance : MI := (yX6_advance, cX6_advance, 4, none, RX6, 2, 44)
abbrev mX6_unionsAhead : MI := (yX6_unionsAhead, cX6_unionsAhead, 4, (some .int), RX6, 1, 21)
abbrev mX6_place : MI := (yX6_place, cX6_place, 4, (some .int), RX6, 0, 0)
abbrev mX7_firstBreaker : MI := (yX7_firstBreaker, cX7_firstBreaker, 6, (some .int), RX7, 5, 126)
abbrev mX8_land : MI := (yX8_land, cX8_land, 7, (some .int), RX8, 1, 25)
abbrev mX8_change : MI := (yX8_change, cX8_change, 5, (some .int), RX8, 2, 44)
abbrev mX8_set : MI := (yX8_set, cX8_set, 4, (some .int), RX8, 1, 21)
abbrev mX8_say : MI := (yX8_say, cX8_say, 2, (some .int), RX8, 1, 21)
abbrev mX8_wipe : MI := (yX8_wipe, cX8_wipe, 2, (some .int), RX8, 0, 0)
abbrev mX8_fault : MI := (yX8_fault, cX8_fault, 1, (some .int), RX8, 1, 26)
abbrev mX8_part : MI := (yX8_part, cX8_part, 1, (some .int), RX8, 3, 68)
abbrev mX8_union : MI := (yX8_union, cX8_union, 2, (some .int), RX8, 1, 21)
abbrev mX8_of : MI := (yX8_of, cX8_of, 3, (some .int), RX8, 2, 53)
abbrev mX8_all : MI := (yX8_all, cX8_all, 2, (some .int), RX8, 5, 123)
abbrev mX8_goodsTogether : MI := (yX8_goodsTogether, cX8_goodsTogether, 5, (some .int), RX8, 3, 77)
abbrev mX8_bestPlaced : MI := (yX8_bestPlaced, cX8_bestPlaced, 3, (some .int), RX8, 4, 101)
abbrev mX8_breaks : MI := (yX8_breaks, cX8_breaks, 2, (some .int), RX8, 6, 151)
abbrev mX8_rests : MI := (yX8_rests, cX8_rests, 6, (some .int), RX8, 6, 151)
abbrev mX8_go : MI := (yX8_go, cX8_go, 4, (some .int), RX8, 7, 176)
abbrev mX8_whole : MI := (yX8_whole, cX8_whole, 8, (some .int), RX8, 3, 77)
abbrev mX8_rules : MI := (yX8_rules, cX8_rules, 3, (some .int), RX8, 5, 121)
abbrev mX8_propose : MI := (yX8_propose, cX8_propose, 7, (some .int), RX8, 4, 102)
abbrev mX8_enter : MI := (yX8_enter, cX8_enter, 8, (some .int), RX8, 3, 77)
abbrev mX8_holds : MI := (yX8_holds, cX8_holds, 3, (some .int), RX8, 4, 99)
abbrev mX8_hurt : MI := (yX8_hurt, cX8_hurt, 6, (some .int), RX8, 3, 77)
abbrev mX8_edge : MI := (yX8_edge, cX8_edge, 5, (some .int), RX8, 6, 144)
abbrev mX8_turnsStay : MI := (yX8_turnsStay, cX8_turnsStay, 4, (some .boolean), RX8, 5, 121)
abbrev mX8_told : MI := (yX8_told, cX8_told, 2, (some .int), RX8, 1, 21)
abbrev mX8_isLand : MI := (yX8_isLand, cX8_isLand, 2, (some .boolean), RX8, 0, 0)
abbrev mX8_isUnion : MI := (yX8_isUnion, cX8_isUnion, 2, (some .boolean), RX8, 0, 0)
abbrev mX8_isRest : MI := (yX8_isRest, cX8_isRest, 1, (some .boolean), RX8, 0, 0)
abbrev mX9_in : MI := (yX9_in, cX9_in, 6, (some .boolean), RX9, 0, 0)
abbrev mX9_isLand : MI := (yX9_isLand, cX9_isLand, 2, (some .boolean), RX9, 1, 25)
abbrev mX9_isNumber : MI := (yX9_isNumber, cX9_isNumber, 2, (some .boolean), RX9, 1, 25)
abbrev mX9_land : MI := (yX9_land, cX9_land, 5, (some .int), RX9, 2, 46)
abbrev mX9_change : MI := (yX9_change, cX9_change, 5, (some .int), RX9, 2, 46)
abbrev mX9_set : MI := (yX9_set, cX9_set, 4, (some .int), RX9, 1, 25)
abbrev mX9_manyOf : MI := (yX9_manyOf, cX9_manyOf, 4, (some .int), RX9, 0, 0)
abbrev mX9_say : MI := (yX9_say, cX9_say, 2, (some .int), RX9, 1, 25)
abbrev mX9_wipe : MI := (yX9_wipe, cX9_wipe, 2, (some .int), RX9, 0, 0)
abbrev mX9_fault : MI := (yX9_fault, cX9_fault, 7, (some .int), RX9, 1, 25)
abbrev mX9_part : MI := (yX9_part, cX9_part, 3, (some .int), RX9, 2, 51)
abbrev mX9_number : MI := (yX9_number, cX9_number, 4, none, RX9, 0, 0)
abbrev mX9_union : MI := (yX9_union, cX9_union, 2, (some .int), RX9, 2, 46)
abbrev mX9_wallOf : MI := (yX9_wallOf, cX9_wallOf, 9, (some .int), RX9, 0, 0)
abbrev mX9_findGoods : MI := (yX9_findGoods, cX9_findGoods, 6, none, RX9, 1, 28)
abbrev mX9_shareOf : MI := (yX9_shareOf, cX9_shareOf, 9, (some .int), RX9, 0, 0)
abbrev mX9_copy : MI := (yX9_copy, cX9_copy, 4, none, RX9, 0, 0)
abbrev mX9_together : MI := (yX9_together, cX9_together, 3, (some .int), RX9, 0, 0)
abbrev mX9_of : MI := (yX9_of, cX9_of, 3, (some .int), RX9, 2, 53)
abbrev mX9_firstParting : MI := (yX9_firstParting, cX9_firstParting, 2, none, RX9, 0, 0)
abbrev mX9_nextParting : MI := (yX9_nextParting, cX9_nextParting, 4, (some .boolean), RX9, 0, 0)
abbrev mX9_all : MI := (yX9_all, cX9_all, 5, (some .int), RX9, 2, 53)
abbrev mX9_keepGoods : MI := (yX9_keepGoods, cX9_keepGoods, 2, none, RX9, 2, 53)
abbrev mX9_gainApart : MI := (yX9_gainApart, cX9_gainApart, 3, (some .int), RX9, 2, 53)
abbrev mX9_gainIn : MI := (yX9_gainIn, cX9_gainIn, 6, (some .int), RX9, 2, 53)
abbrev mX9_leaver : MI := (yX9_leaver, cX9_leaver, 3, (some .int), RX9, 3, 75)
abbrev mX9_joiner : MI := (yX9_joiner, cX9_joiner, 5, (some .int), RX9, 3, 78)
abbrev mX9_isUnion : MI := (yX9_isUnion, cX9_isUnion, 6, (some .boolean), RX9, 0, 0)
abbrev mX9_isBetter : MI := (yX9_isBetter, cX9_isBetter, 5, (some .boolean), RX9, 2, 53)
abbrev mX9_breakerOf : MI := (yX9_breakerOf, cX9_breakerOf, 4, (some .int), RX9, 4, 102)
abbrev mX9_breaks : MI := (yX9_breaks, cX9_breaks, 2, (some .int), RX9, 5, 125)
abbrev mX9_rests : MI := (yX9_rests, cX9_rests, 6, (some .int), RX9, 5, 125)
abbrev mX9_stateOf : MI := (yX9_stateOf, cX9_stateOf, 5, (some .int), RX9, 0, 0)
abbrev mX9_goOne : MI := (yX9_goOne, cX9_goOne, 9, (some .int), RX9, 3, 78)
abbrev mX9_goAll : MI := (yX9_goAll, cX9_goAll, 5, none, RX9, 4, 106)
abbrev mX9_go : MI := (yX9_go, cX9_go, 3, (some .int), RX9, 5, 130)
abbrev mX9_whole : MI := (yX9_whole, cX9_whole, 6, (some .int), RX9, 3, 74)
abbrev mX9_rules : MI := (yX9_rules, cX9_rules, 4, (some .int), RX9, 5, 125)
abbrev mX9_propose : MI := (yX9_propose, cX9_propose, 6, (some .int), RX9, 3, 77)
abbrev mX9_isThere : MI := (yX9_isThere, cX9_isThere, 2, (some .boolean), RX9, 1, 25)
abbrev mX9_enter : MI := (yX9_enter, cX9_enter, 6, (some .int), RX9, 3, 74)
abbrev mX9_holds : MI := (yX9_holds, cX9_holds, 4, (some .int), RX9, 3, 75)
abbrev mX9_hurt : MI := (yX9_hurt, cX9_hurt, 4, (some .int), RX9, 3, 74)
abbrev mX9_edge : MI := (yX9_edge, cX9_edge, 8, (some .int), RX9, 5, 125)
abbrev mX9_told : MI := (yX9_told, cX9_told, 2, (some .int), RX9, 2, 46)
abbrev mL_law : MI := (yL_law, cL_law, 4, some .boolean, RL, 8, 199)
set_option maxRecDepth 20000 in
theorem moX0_rowOf : MO mX0_rowOf 1 := ⟨by decide +kernel, rfl, lw_ix 377 (by decide +kernel) rfl, lw_ix 3 (by decide +kernel) rfl, by decide +kernel⟩
set_option maxRecDepth 20000 in
theorem moX0_at : MO mX0_at 2 := ⟨by decide +kernel, rfl, lw_ix 388 (by decide +kernel) rfl, lw_ix 3 (by decide +kernel) rfl, by decide +kernel⟩
set_option maxRecDepth 20000 in
theorem moX1_travel : MO mX1_travel 3 := ⟨by decide +kernel, rfl, lw_ix 480 (by decide +kernel) rfl, lw_ix 8 (by decide +kernel) rfl, by decide +kernel⟩
set_option maxRecDepth 20000 in
theorem moX1_where : MO mX1_where 0 := ⟨by decide +kernel, rfl, lw_ix 485 (by decide +kernel) rfl, lw_ix 8 (by decide +kernel) rfl, by decide +kernel⟩
set_option maxRecDepth 20000 in
theorem moX1_firstSeen : MO mX1_firstSeen 2 := ⟨by decide +kernel, rfl, lw_ix 490 (by decide +kernel) rfl, lw_ix 8 (by decide +kernel) rfl, by decide +kernel⟩
set_option maxRecDepth 20000 in
theorem moX1_findGoer : MO mX1_findGoer 1 := ⟨by decide +kernel, rfl, lw_ix 494 (by decide +kernel) rfl, lw_ix 8 (by decide +kernel) rfl, by decide +kernel⟩
set_option maxRecDepth 20000 in
theorem moX1_step : MO mX1_step 0 := ⟨by decide +kernel, rfl, lw_ix 506 (by decide +kernel) rfl, lw_ix 8 (by decide +kernel) rfl, by decide +kernel⟩
set_option maxRecDepth 20000 in
theorem moX1_behind : MO mX1_behind 1 := ⟨by decide +kernel, rfl, lw_ix 502 (by decide +kernel) rfl, lw_ix 8 (by decide +kernel) rfl, by decide +kernel⟩
set_option maxRecDepth 20000 in
theorem moX2_gainByLeaving : MO mX2_gainByLeaving 2 := ⟨by decide +kernel, rfl, lw_ix 452 (by decide +kernel) rfl, lw_ix 2 (by decide +kernel) rfl, by decide +kernel⟩
set_option maxRecDepth 20000 in
theorem moX2_gainByJoining : MO mX2_gainByJoining 3 := ⟨by decide +kernel, rfl, lw_ix 464 (by decide +kernel) rfl, lw_ix 2 (by decide +kernel) rfl, by decide +kernel⟩
set_option maxRecDepth 20000 in
theorem moX2_wouldAllGain : MO mX2_wouldAllGain 2 := ⟨by decide +kernel, rfl, lw_ix 433 (by decide +kernel) rfl, lw_ix 2 (by decide +kernel) rfl, by decide +kernel⟩
set_option maxRecDepth 20000 in
theorem moX2_goodGathered : MO mX2_goodGathered 3 := ⟨by decide +kernel, rfl, lw_ix 534 (by decide +kernel) rfl, lw_ix 2 (by decide +kernel) rfl, by decide +kernel⟩
set_option maxRecDepth 20000 in
theorem moX2_stayBreaker : MO mX2_stayBreaker 1 := ⟨by decide +kernel, rfl, lw_ix 448 (by decide +kernel) rfl, lw_ix 2 (by decide +kernel) rfl, by decide +kernel⟩
set_option maxRecDepth 20000 in
theorem moX2_joinBreaker : MO mX2_joinBreaker 1 := ⟨by decide +kernel, rfl, lw_ix 460 (by decide +kernel) rfl, lw_ix 2 (by decide +kernel) rfl, by decide +kernel⟩
set_option maxRecDepth 20000 in
theorem moX2_coreBreaker : MO mX2_coreBreaker 1 := ⟨by decide +kernel, rfl, lw_ix 429 (by decide +kernel) rfl, lw_ix 2 (by decide +kernel) rfl, by decide +kernel⟩
set_option maxRecDepth 20000 in
theorem moX2_bestGoal : MO mX2_bestGoal 2 := ⟨by decide +kernel, rfl, lw_ix 498 (by decide +kernel) rfl, lw_ix 2 (by decide +kernel) rfl, by decide +kernel⟩
set_option maxRecDepth 20000 in
theorem moX3_fits : MO mX3_fits 2 := ⟨by decide +kernel, rfl, lw_ix 268 (by decide +kernel) rfl, lw_ix 4 (by decide +kernel) rfl, by decide +kernel⟩
set_option maxRecDepth 20000 in
theorem moX3_rowOf : MO mX3_rowOf 1 := ⟨by decide +kernel, rfl, lw_ix 288 (by decide +kernel) rfl, lw_ix 4 (by decide +kernel) rfl, by decide +kernel⟩
set_option maxRecDepth 20000 in
theorem moX3_add : MO mX3_add 4 := ⟨by decide +kernel, rfl, lw_ix 272 (by decide +kernel) rfl, lw_ix 4 (by decide +kernel) rfl, by decide +kernel⟩
set_option maxRecDepth 20000 in
theorem moX3_put : MO mX3_put 3 := ⟨by decide +kernel, rfl, lw_ix 292 (by decide +kernel) rfl, lw_ix 4 (by decide +kernel) rfl, by decide +kernel⟩
set_option maxRecDepth 20000 in
theorem moX3_putWalls : MO mX3_putWalls 1 := ⟨by decide +kernel, rfl, lw_ix 301 (by decide +kernel) rfl, lw_ix 4 (by decide +kernel) rfl, by decide +kernel⟩
set_option maxRecDepth 20000 in
theorem moX3_putShares : MO mX3_putShares 1 := ⟨by decide +kernel, rfl, lw_ix 305 (by decide +kernel) rfl, lw_ix 4 (by decide +kernel) rfl, by decide +kernel⟩
set_option maxRecDepth 20000 in
theorem moX3_copy : MO mX3_copy 1 := ⟨by decide +kernel, rfl, lw_ix 524 (by decide +kernel) rfl, lw_ix 4 (by decide +kernel) rfl, by decide +kernel⟩
set_option maxRecDepth 20000 in
theorem moX4_reckon : MO mX4_reckon 2 := ⟨by decide +kernel, rfl, lw_ix 353 (by decide +kernel) rfl, lw_ix 5 (by decide +kernel) rfl, by decide +kernel⟩
set_option maxRecDepth 20000 in
theorem moX4_wallAround : MO mX4_wallAround 3 := ⟨by decide +kernel, rfl, lw_ix 357 (by decide +kernel) rfl, lw_ix 5 (by decide +kernel) rfl, by decide +kernel⟩
set_option maxRecDepth 20000 in
theorem moX4_buy : MO mX4_buy 3 := ⟨by decide +kernel, rfl, lw_ix 361 (by decide +kernel) rfl, lw_ix 5 (by decide +kernel) rfl, by decide +kernel⟩
set_option maxRecDepth 20000 in
theorem moX4_shareOut : MO mX4_shareOut 3 := ⟨by decide +kernel, rfl, lw_ix 365 (by decide +kernel) rfl, lw_ix 5 (by decide +kernel) rfl, by decide +kernel⟩
set_option maxRecDepth 20000 in
theorem moX5_add : MO mX5_add 1 := ⟨by decide +kernel, rfl, lw_ix 313 (by decide +kernel) rfl, lw_ix 9 (by decide +kernel) rfl, by decide +kernel⟩
set_option maxRecDepth 20000 in
theorem moX5_firstFault : MO mX5_firstFault 1 := ⟨by decide +kernel, rfl, lw_ix 325 (by decide +kernel) rfl, lw_ix 9 (by decide +kernel) rfl, by decide +kernel⟩
set_option maxRecDepth 20000 in
theorem moX5_putInto : MO mX5_putInto 1 := ⟨by decide +kernel, rfl, lw_ix 333 (by decide +kernel) rfl, lw_ix 9 (by decide +kernel) rfl, by decide +kernel⟩
set_option maxRecDepth 20000 in
theorem moX6_addApart : MO mX6_addApart 0 := ⟨by decide +kernel, rfl, lw_ix 276 (by decide +kernel) rfl, lw_ix 6 (by decide +kernel) rfl, by decide +kernel⟩
set_option maxRecDepth 20000 in
theorem moX6_putAllApart : MO mX6_putAllApart 1 := ⟨by decide +kernel, rfl, lw_ix 516 (by decide +kernel) rfl, lw_ix 6 (by decide +kernel) rfl, by decide +kernel⟩
set_option maxRecDepth 20000 in
theorem moX6_putAllTogether : MO mX6_putAllTogether 1 := ⟨by decide +kernel, rfl, lw_ix 396 (by decide +kernel) rfl, lw_ix 6 (by decide +kernel) rfl, by decide +kernel⟩
set_option maxRecDepth 20000 in
theorem moX6_copy : MO mX6_copy 1 := ⟨by decide +kernel, rfl, lw_ix 437 (by decide +kernel) rfl, lw_ix 6 (by decide +kernel) rfl, by decide +kernel⟩
set_option maxRecDepth 20000 in
theorem moX6_leave : MO mX6_leave 1 := ⟨by decide +kernel, rfl, lw_ix 456 (by decide +kernel) rfl, lw_ix 6 (by decide +kernel) rfl, by decide +kernel⟩
set_option maxRecDepth 20000 in
theorem moX6_move : MO mX6_move 2 := ⟨by decide +kernel, rfl, lw_ix 468 (by decide +kernel) rfl, lw_ix 6 (by decide +kernel) rfl, by decide +kernel⟩
set_option maxRecDepth 20000 in
theorem moX6_gather : MO mX6_gather 1 := ⟨by decide +kernel, rfl, lw_ix 441 (by decide +kernel) rfl, lw_ix 6 (by decide +kernel) rfl, by decide +kernel⟩
set_option maxRecDepth 20000 in
theorem moX6_scatter : MO mX6_scatter 1 := ⟨by decide +kernel, rfl, lw_ix 559 (by decide +kernel) rfl, lw_ix 6 (by decide +kernel) rfl, by decide +kernel⟩
set_option maxRecDepth 20000 in
theorem moX6_number : MO mX6_number 0 := ⟨by decide +kernel, rfl, lw_ix 337 (by decide +kernel) rfl, lw_ix 6 (by decide +kernel) rfl, by decide +kernel⟩
set_option maxRecDepth 20000 in
theorem moX6_firstLike : MO mX6_firstLike 1 := ⟨by decide +kernel, rfl, lw_ix 341 (by decide +kernel) rfl, lw_ix 6 (by decide +kernel) rfl, by decide +kernel⟩
set_option maxRecDepth 20000 in
theorem moX6_advance : MO mX6_advance 0 := ⟨by decide +kernel, rfl, lw_ix 408 (by decide +kernel) rfl, lw_ix 6 (by decide +kernel) rfl, by decide +kernel⟩
set_option maxRecDepth 20000 in
theorem moX6_unionsAhead : MO mX6_unionsAhead 1 := ⟨by decide +kernel, rfl, lw_ix 412 (by decide +kernel) rfl, lw_ix 6 (by decide +kernel) rfl, by decide +kernel⟩
set_option maxRecDepth 20000 in
theorem moX6_place : MO mX6_place 0 := ⟨by decide +kernel, rfl, lw_ix 381 (by decide +kernel) rfl, lw_ix 6 (by decide +kernel) rfl, by decide +kernel⟩
set_option maxRecDepth 20000 in
theorem moX7_firstBreaker : MO mX7_firstBreaker 3 := ⟨by decide +kernel, rfl, lw_ix 424 (by decide +kernel) rfl, lw_ix 7 (by decide +kernel) rfl, by decide +kernel⟩
set_option maxRecDepth 20000 in
theorem moX8_land : MO mX8_land 4 := ⟨by decide +kernel, rfl, lw_ix 265 (by decide +kernel) rfl, lw_ix 1 (by decide +kernel) rfl, by decide +kernel⟩
set_option maxRecDepth 20000 in
theorem moX8_change : MO mX8_change 3 := ⟨by decide +kernel, rfl, lw_ix 280 (by decide +kernel) rfl, lw_ix 1 (by decide +kernel) rfl, by decide +kernel⟩
set_option maxRecDepth 20000 in
theorem moX8_set : MO mX8_set 2 := ⟨by decide +kernel, rfl, lw_ix 297 (by decide +kernel) rfl, lw_ix 1 (by decide +kernel) rfl, by decide +kernel⟩
set_option maxRecDepth 20000 in
theorem moX8_say : MO mX8_say 1 := ⟨by decide +kernel, rfl, lw_ix 309 (by decide +kernel) rfl, lw_ix 1 (by decide +kernel) rfl, by decide +kernel⟩
set_option maxRecDepth 20000 in
theorem moX8_wipe : MO mX8_wipe 0 := ⟨by decide +kernel, rfl, lw_ix 317 (by decide +kernel) rfl, lw_ix 1 (by decide +kernel) rfl, by decide +kernel⟩
set_option maxRecDepth 20000 in
theorem moX8_fault : MO mX8_fault 0 := ⟨by decide +kernel, rfl, lw_ix 321 (by decide +kernel) rfl, lw_ix 1 (by decide +kernel) rfl, by decide +kernel⟩
set_option maxRecDepth 20000 in
theorem moX8_part : MO mX8_part 0 := ⟨by decide +kernel, rfl, lw_ix 329 (by decide +kernel) rfl, lw_ix 1 (by decide +kernel) rfl, by decide +kernel⟩
set_option maxRecDepth 20000 in
theorem moX8_union : MO mX8_union 1 := ⟨by decide +kernel, rfl, lw_ix 345 (by decide +kernel) rfl, lw_ix 1 (by decide +kernel) rfl, by decide +kernel⟩
set_option maxRecDepth 20000 in
theorem moX8_of : MO mX8_of 2 := ⟨by decide +kernel, rfl, lw_ix 349 (by decide +kernel) rfl, lw_ix 1 (by decide +kernel) rfl, by decide +kernel⟩
set_option maxRecDepth 20000 in
theorem moX8_all : MO mX8_all 1 := ⟨by decide +kernel, rfl, lw_ix 369 (by decide +kernel) rfl, lw_ix 1 (by decide +kernel) rfl, by decide +kernel⟩
set_option maxRecDepth 20000 in
theorem moX8_goodsTogether : MO mX8_goodsTogether 1 := ⟨by decide +kernel, rfl, lw_ix 373 (by decide +kernel) rfl, lw_ix 1 (by decide +kernel) rfl, by decide +kernel⟩
set_option maxRecDepth 20000 in
theorem moX8_bestPlaced : MO mX8_bestPlaced 0 := ⟨by decide +kernel, rfl, lw_ix 392 (by decide +kernel) rfl, lw_ix 1 (by decide +kernel) rfl, by decide +kernel⟩
set_option maxRecDepth 20000 in
theorem moX8_breaks : MO mX8_breaks 1 := ⟨by decide +kernel, rfl, lw_ix 417 (by decide +kernel) rfl, lw_ix 1 (by decide +kernel) rfl, by decide +kernel⟩
set_option maxRecDepth 20000 in
theorem moX8_rests : MO mX8_rests 3 := ⟨by decide +kernel, rfl, lw_ix 472 (by decide +kernel) rfl, lw_ix 1 (by decide +kernel) rfl, by decide +kernel⟩
set_option maxRecDepth 20000 in
theorem moX8_go : MO mX8_go 2 := ⟨by decide +kernel, rfl, lw_ix 476 (by decide +kernel) rfl, lw_ix 1 (by decide +kernel) rfl, by decide +kernel⟩
set_option maxRecDepth 20000 in
theorem moX8_whole : MO mX8_whole 1 := ⟨by decide +kernel, rfl, lw_ix 512 (by decide +kernel) rfl, lw_ix 1 (by decide +kernel) rfl, by decide +kernel⟩
set_option maxRecDepth 20000 in
theorem moX8_rules : MO mX8_rules 0 := ⟨by decide +kernel, rfl, lw_ix 520 (by decide +kernel) rfl, lw_ix 1 (by decide +kernel) rfl, by decide +kernel⟩
set_option maxRecDepth 20000 in
theorem moX8_propose : MO mX8_propose 2 := ⟨by decide +kernel, rfl, lw_ix 529 (by decide +kernel) rfl, lw_ix 1 (by decide +kernel) rfl, by decide +kernel⟩
set_option maxRecDepth 20000 in
theorem moX8_enter : MO mX8_enter 3 := ⟨by decide +kernel, rfl, lw_ix 538 (by decide +kernel) rfl, lw_ix 1 (by decide +kernel) rfl, by decide +kernel⟩
set_option maxRecDepth 20000 in
theorem moX8_holds : MO mX8_holds 0 := ⟨by decide +kernel, rfl, lw_ix 550 (by decide +kernel) rfl, lw_ix 1 (by decide +kernel) rfl, by decide +kernel⟩
set_option maxRecDepth 20000 in
theorem moX8_hurt : MO mX8_hurt 1 := ⟨by decide +kernel, rfl, lw_ix 555 (by decide +kernel) rfl, lw_ix 1 (by decide +kernel) rfl, by decide +kernel⟩
set_option maxRecDepth 20000 in
theorem moX8_edge : MO mX8_edge 1 := ⟨by decide +kernel, rfl, lw_ix 563 (by decide +kernel) rfl, lw_ix 1 (by decide +kernel) rfl, by decide +kernel⟩
set_option maxRecDepth 20000 in
theorem moX8_turnsStay : MO mX8_turnsStay 3 := ⟨by decide +kernel, rfl, lw_ix 567 (by decide +kernel) rfl, lw_ix 1 (by decide +kernel) rfl, by decide +kernel⟩
set_option maxRecDepth 20000 in
theorem moX8_told : MO mX8_told 1 := ⟨by decide +kernel, rfl, lw_ix 571 (by decide +kernel) rfl, lw_ix 1 (by decide +kernel) rfl, by decide +kernel⟩
set_option maxRecDepth 20000 in
theorem moX8_isLand : MO mX8_isLand 1 := ⟨by decide +kernel, rfl, lw_ix 284 (by decide +kernel) rfl, lw_ix 1 (by decide +kernel) rfl, by decide +kernel⟩
set_option maxRecDepth 20000 in
theorem moX8_isUnion : MO mX8_isUnion 1 := ⟨by decide +kernel, rfl, lw_ix 543 (by decide +kernel) rfl, lw_ix 1 (by decide +kernel) rfl, by decide +kernel⟩
set_option maxRecDepth 20000 in
theorem moX8_isRest : MO mX8_isRest 1 := ⟨by decide +kernel, rfl, lw_ix 420 (by decide +kernel) rfl, lw_ix 1 (by decide +kernel) rfl, by decide +kernel⟩
set_option maxRecDepth 20000 in
theorem moX9_in : MO mX9_in 3 := ⟨by decide +kernel, rfl, lw_ix 654 (by decide +kernel) rfl, lw_ix 10 (by decide +kernel) rfl, by decide +kernel⟩
set_option maxRecDepth 20000 in
theorem moX9_isLand : MO mX9_isLand 1 := ⟨by decide +kernel, rfl, lw_ix 666 (by decide +kernel) rfl, lw_ix 10 (by decide +kernel) rfl, by decide +kernel⟩
set_option maxRecDepth 20000 in
theorem moX9_isNumber : MO mX9_isNumber 2 := ⟨by decide +kernel, rfl, lw_ix 648 (by decide +kernel) rfl, lw_ix 10 (by decide +kernel) rfl, by decide +kernel⟩
set_option maxRecDepth 20000 in
theorem moX9_land : MO mX9_land 4 := ⟨by decide +kernel, rfl, lw_ix 645 (by decide +kernel) rfl, lw_ix 10 (by decide +kernel) rfl, by decide +kernel⟩
set_option maxRecDepth 20000 in
theorem moX9_change : MO mX9_change 3 := ⟨by decide +kernel, rfl, lw_ix 662 (by decide +kernel) rfl, lw_ix 10 (by decide +kernel) rfl, by decide +kernel⟩
set_option maxRecDepth 20000 in
theorem moX9_set : MO mX9_set 2 := ⟨by decide +kernel, rfl, lw_ix 671 (by decide +kernel) rfl, lw_ix 10 (by decide +kernel) rfl, by decide +kernel⟩
set_option maxRecDepth 20000 in
theorem moX9_manyOf : MO mX9_manyOf 1 := ⟨by decide +kernel, rfl, lw_ix 658 (by decide +kernel) rfl, lw_ix 10 (by decide +kernel) rfl, by decide +kernel⟩
set_option maxRecDepth 20000 in
theorem moX9_say : MO mX9_say 1 := ⟨by decide +kernel, rfl, lw_ix 676 (by decide +kernel) rfl, lw_ix 10 (by decide +kernel) rfl, by decide +kernel⟩
set_option maxRecDepth 20000 in
theorem moX9_wipe : MO mX9_wipe 0 := ⟨by decide +kernel, rfl, lw_ix 682 (by decide +kernel) rfl, lw_ix 10 (by decide +kernel) rfl, by decide +kernel⟩
set_option maxRecDepth 20000 in
theorem moX9_fault : MO mX9_fault 0 := ⟨by decide +kernel, rfl, lw_ix 686 (by decide +kernel) rfl, lw_ix 10 (by decide +kernel) rfl, by decide +kernel⟩
set_option maxRecDepth 20000 in
theorem moX9_part : MO mX9_part 0 := ⟨by decide +kernel, rfl, lw_ix 691 (by decide +kernel) rfl, lw_ix 10 (by decide +kernel) rfl, by decide +kernel⟩
set_option maxRecDepth 20000 in
theorem moX9_number : MO mX9_number 1 := ⟨by decide +kernel, rfl, lw_ix 696 (by decide +kernel) rfl, lw_ix 10 (by decide +kernel) rfl, by decide +kernel⟩
set_option maxRecDepth 20000 in
theorem moX9_union : MO mX9_union 1 := ⟨by decide +kernel, rfl, lw_ix 700 (by decide +kernel) rfl, lw_ix 10 (by decide +kernel) rfl, by decide +kernel⟩
set_option maxRecDepth 20000 in
theorem moX9_wallOf : MO mX9_wallOf 2 := ⟨by decide +kernel, rfl, lw_ix 712 (by decide +kernel) rfl, lw_ix 10 (by decide +kernel) rfl, by decide +kernel⟩
set_option maxRecDepth 20000 in
theorem moX9_findGoods : MO mX9_findGoods 1 := ⟨by decide +kernel, rfl, lw_ix 708 (by decide +kernel) rfl, lw_ix 10 (by decide +kernel) rfl, by decide +kernel⟩
set_option maxRecDepth 20000 in
theorem moX9_shareOf : MO mX9_shareOf 2 := ⟨by decide +kernel, rfl, lw_ix 716 (by decide +kernel) rfl, lw_ix 10 (by decide +kernel) rfl, by decide +kernel⟩
set_option maxRecDepth 20000 in
theorem moX9_copy : MO mX9_copy 2 := ⟨by decide +kernel, rfl, lw_ix 748 (by decide +kernel) rfl, lw_ix 10 (by decide +kernel) rfl, by decide +kernel⟩
set_option maxRecDepth 20000 in
theorem moX9_together : MO mX9_together 0 := ⟨by decide +kernel, rfl, lw_ix 724 (by decide +kernel) rfl, lw_ix 10 (by decide +kernel) rfl, by decide +kernel⟩
set_option maxRecDepth 20000 in
theorem moX9_of : MO mX9_of 2 := ⟨by decide +kernel, rfl, lw_ix 704 (by decide +kernel) rfl, lw_ix 10 (by decide +kernel) rfl, by decide +kernel⟩
set_option maxRecDepth 20000 in
theorem moX9_firstParting : MO mX9_firstParting 0 := ⟨by decide +kernel, rfl, lw_ix 728 (by decide +kernel) rfl, lw_ix 10 (by decide +kernel) rfl, by decide +kernel⟩
set_option maxRecDepth 20000 in
theorem moX9_nextParting : MO mX9_nextParting 0 := ⟨by decide +kernel, rfl, lw_ix 732 (by decide +kernel) rfl, lw_ix 10 (by decide +kernel) rfl, by decide +kernel⟩
set_option maxRecDepth 20000 in
theorem moX9_all : MO mX9_all 1 := ⟨by decide +kernel, rfl, lw_ix 720 (by decide +kernel) rfl, lw_ix 10 (by decide +kernel) rfl, by decide +kernel⟩
set_option maxRecDepth 20000 in
theorem moX9_keepGoods : MO mX9_keepGoods 1 := ⟨by decide +kernel, rfl, lw_ix 744 (by decide +kernel) rfl, lw_ix 10 (by decide +kernel) rfl, by decide +kernel⟩
set_option maxRecDepth 20000 in
theorem moX9_gainApart : MO mX9_gainApart 2 := ⟨by decide +kernel, rfl, lw_ix 764 (by decide +kernel) rfl, lw_ix 10 (by decide +kernel) rfl, by decide +kernel⟩
set_option maxRecDepth 20000 in
theorem moX9_gainIn : MO mX9_gainIn 3 := ⟨by decide +kernel, rfl, lw_ix 772 (by decide +kernel) rfl, lw_ix 10 (by decide +kernel) rfl, by decide +kernel⟩
set_option maxRecDepth 20000 in
theorem moX9_leaver : MO mX9_leaver 1 := ⟨by decide +kernel, rfl, lw_ix 760 (by decide +kernel) rfl, lw_ix 10 (by decide +kernel) rfl, by decide +kernel⟩
set_option maxRecDepth 20000 in
theorem moX9_joiner : MO mX9_joiner 1 := ⟨by decide +kernel, rfl, lw_ix 768 (by decide +kernel) rfl, lw_ix 10 (by decide +kernel) rfl, by decide +kernel⟩
set_option maxRecDepth 20000 in
theorem moX9_isUnion : MO mX9_isUnion 2 := ⟨by decide +kernel, rfl, lw_ix 756 (by decide +kernel) rfl, lw_ix 10 (by decide +kernel) rfl, by decide +kernel⟩
set_option maxRecDepth 20000 in
theorem moX9_isBetter : MO mX9_isBetter 2 := ⟨by decide +kernel, rfl, lw_ix 752 (by decide +kernel) rfl, lw_ix 10 (by decide +kernel) rfl, by decide +kernel⟩
set_option maxRecDepth 20000 in
theorem moX9_breakerOf : MO mX9_breakerOf 2 := ⟨by decide +kernel, rfl, lw_ix 740 (by decide +kernel) rfl, lw_ix 10 (by decide +kernel) rfl, by decide +kernel⟩
set_option maxRecDepth 20000 in
theorem moX9_breaks : MO mX9_breaks 1 := ⟨by decide +kernel, rfl, lw_ix 736 (by decide +kernel) rfl, lw_ix 10 (by decide +kernel) rfl, by decide +kernel⟩
set_option maxRecDepth 20000 in
theorem moX9_rests : MO mX9_rests 3 := ⟨by decide +kernel, rfl, lw_ix 776 (by decide +kernel) rfl, lw_ix 10 (by decide +kernel) rfl, by decide +kernel⟩
set_option maxRecDepth 20000 in
theorem moX9_stateOf : MO mX9_stateOf 2 := ⟨by decide +kernel, rfl, lw_ix 790 (by decide +kernel) rfl, lw_ix 10 (by decide +kernel) rfl, by decide +kernel⟩
set_option maxRecDepth 20000 in
theorem moX9_goOne : MO mX9_goOne 1 := ⟨by decide +kernel, rfl, lw_ix 794 (by decide +kernel) rfl, lw_ix 10 (by decide +kernel) rfl, by decide +kernel⟩
set_option maxRecDepth 20000 in
theorem moX9_goAll : MO mX9_goAll 1 := ⟨by decide +kernel, rfl, lw_ix 786 (by decide +kernel) rfl, lw_ix 10 (by decide +kernel) rfl, by decide +kernel⟩
set_option maxRecDepth 20000 in
theorem moX9_go : MO mX9_go 2 := ⟨by decide +kernel, rfl, lw_ix 780 (by decide +kernel) rfl, lw_ix 10 (by decide +kernel) rfl, by decide +kernel⟩
set_option maxRecDepth 20000 in
theorem moX9_whole : MO mX9_whole 1 := ⟨by decide +kernel, rfl, lw_ix 798 (by decide +kernel) rfl, lw_ix 10 (by decide +kernel) rfl, by decide +kernel⟩
set_option maxRecDepth 20000 in
theorem moX9_rules : MO mX9_rules 0 := ⟨by decide +kernel, rfl, lw_ix 802 (by decide +kernel) rfl, lw_ix 10 (by decide +kernel) rfl, by decide +kernel⟩
set_option maxRecDepth 20000 in
theorem moX9_propose : MO mX9_propose 2 := ⟨by decide +kernel, rfl, lw_ix 806 (by decide +kernel) rfl, lw_ix 10 (by decide +kernel) rfl, by decide +kernel⟩
set_option maxRecDepth 20000 in
theorem moX9_isThere : MO mX9_isThere 1 := ⟨by decide +kernel, rfl, lw_ix 815 (by decide +kernel) rfl, lw_ix 10 (by decide +kernel) rfl, by decide +kernel⟩
set_option maxRecDepth 20000 in
theorem moX9_enter : MO mX9_enter 3 := ⟨by decide +kernel, rfl, lw_ix 810 (by decide +kernel) rfl, lw_ix 10 (by decide +kernel) rfl, by decide +kernel⟩
set_option maxRecDepth 20000 in
theorem moX9_holds : MO mX9_holds 0 := ⟨by decide +kernel, rfl, lw_ix 820 (by decide +kernel) rfl, lw_ix 10 (by decide +kernel) rfl, by decide +kernel⟩
set_option maxRecDepth 20000 in
theorem moX9_hurt : MO mX9_hurt 1 := ⟨by decide +kernel, rfl, lw_ix 824 (by decide +kernel) rfl, lw_ix 10 (by decide +kernel) rfl, by decide +kernel⟩
set_option maxRecDepth 20000 in
theorem moX9_edge : MO mX9_edge 1 := ⟨by decide +kernel, rfl, lw_ix 828 (by decide +kernel) rfl, lw_ix 10 (by decide +kernel) rfl, by decide +kernel⟩
set_option maxRecDepth 20000 in
theorem moX9_told : MO mX9_told 1 := ⟨by decide +kernel, rfl, lw_ix 832 (by decide +kernel) rfl, lw_ix 10 (by decide +kernel) rfl, by decide +kernel⟩
set_option maxRecDepth 20000 in
theorem lkX0_32 : Cond.methodLink RX0 32 yX6_place ∈ lw_g ∧ Cond.instanceMethod yX6_place ∈ lw_g ∧ Cond.selects yX6_place.cls yX6_place yX6_place ∈ lw_g := ⟨lw_ix 378 (by decide +kernel) rfl, lw_ix 379 (by decide +kernel) rfl, lw_ix 380 (by decide +kernel) rfl⟩
set_option maxRecDepth 20000 in
theorem lkX0_42 : Cond.methodLink RX0 42 yX4_reckon ∈ lw_g ∧ Cond.instanceMethod yX4_reckon ∈ lw_g ∧ Cond.selects yX4_reckon.cls yX4_reckon yX4_reckon ∈ lw_g := ⟨lw_ix 384 (by decide +kernel) rfl, lw_ix 351 (by decide +kernel) rfl, lw_ix 352 (by decide +kernel) rfl⟩
set_option maxRecDepth 20000 in
theorem lkX1_22 : Cond.methodLink RX1 22 yX6_copy ∈ lw_g ∧ Cond.instanceMethod yX6_copy ∈ lw_g ∧ Cond.selects yX6_copy.cls yX6_copy yX6_copy ∈ lw_g := ⟨lw_ix 481 (by decide +kernel) rfl, lw_ix 435 (by decide +kernel) rfl, lw_ix 436 (by decide +kernel) rfl⟩
set_option maxRecDepth 20000 in
theorem lkX1_36 : Cond.methodLink RX1 36 yX1_where ∈ lw_g ∧ Cond.instanceMethod yX1_where ∈ lw_g ∧ Cond.selects yX1_where.cls yX1_where yX1_where ∈ lw_g := ⟨lw_ix 482 (by decide +kernel) rfl, lw_ix 484 (by decide +kernel) rfl, lw_ip 8 (by decide +kernel) rfl⟩
set_option maxRecDepth 20000 in
theorem lkX1_40 : Cond.methodLink RX1 40 yX1_firstSeen ∈ lw_g ∧ Cond.instanceMethod yX1_firstSeen ∈ lw_g ∧ Cond.selects yX1_firstSeen.cls yX1_firstSeen yX1_firstSeen ∈ lw_g := ⟨lw_ix 487 (by decide +kernel) rfl, lw_ix 489 (by decide +kernel) rfl, lw_ip 9 (by decide +kernel) rfl⟩
set_option maxRecDepth 20000 in
theorem lkX1_44 : Cond.methodLink RX1 44 yX1_findGoer ∈ lw_g ∧ Cond.instanceMethod yX1_findGoer ∈ lw_g ∧ Cond.selects yX1_findGoer.cls yX1_findGoer yX1_findGoer ∈ lw_g := ⟨lw_ix 491 (by decide +kernel) rfl, lw_ix 493 (by decide +kernel) rfl, lw_ip 10 (by decide +kernel) rfl⟩
set_option maxRecDepth 20000 in
theorem lkX1_48 : Cond.methodLink RX1 48 yX1_step ∈ lw_g ∧ Cond.instanceMethod yX1_step ∈ lw_g ∧ Cond.selects yX1_step.cls yX1_step yX1_step ∈ lw_g := ⟨lw_ix 503 (by decide +kernel) rfl, lw_ix 505 (by decide +kernel) rfl, lw_ip 12 (by decide +kernel) rfl⟩
set_option maxRecDepth 20000 in
theorem lkX1_51 : Cond.methodLink RX1 51 yX6_place ∈ lw_g ∧ Cond.instanceMethod yX6_place ∈ lw_g ∧ Cond.selects yX6_place.cls yX6_place yX6_place ∈ lw_g := ⟨lw_ix 486 (by decide +kernel) rfl, lw_ix 379 (by decide +kernel) rfl, lw_ix 380 (by decide +kernel) rfl⟩
set_option maxRecDepth 20000 in
theorem lkX1_60 : Cond.methodLink RX1 60 yX2_bestGoal ∈ lw_g ∧ Cond.instanceMethod yX2_bestGoal ∈ lw_g ∧ Cond.selects yX2_bestGoal.cls yX2_bestGoal yX2_bestGoal ∈ lw_g := ⟨lw_ix 495 (by decide +kernel) rfl, lw_ix 496 (by decide +kernel) rfl, lw_ix 497 (by decide +kernel) rfl⟩
set_option maxRecDepth 20000 in
theorem lkX1_69 : Cond.methodLink RX1 69 yX1_behind ∈ lw_g ∧ Cond.instanceMethod yX1_behind ∈ lw_g ∧ Cond.selects yX1_behind.cls yX1_behind yX1_behind ∈ lw_g := ⟨lw_ix 499 (by decide +kernel) rfl, lw_ix 501 (by decide +kernel) rfl, lw_ip 11 (by decide +kernel) rfl⟩
set_option maxRecDepth 20000 in
theorem lkX1_73 : Cond.methodLink RX1 73 yX6_leave ∈ lw_g ∧ Cond.instanceMethod yX6_leave ∈ lw_g ∧ Cond.selects yX6_leave.cls yX6_leave yX6_leave ∈ lw_g := ⟨lw_ix 507 (by decide +kernel) rfl, lw_ix 454 (by decide +kernel) rfl, lw_ix 455 (by decide +kernel) rfl⟩
set_option maxRecDepth 20000 in
theorem lkX1_77 : Cond.methodLink RX1 77 yX6_move ∈ lw_g ∧ Cond.instanceMethod yX6_move ∈ lw_g ∧ Cond.selects yX6_move.cls yX6_move yX6_move ∈ lw_g := ⟨lw_ix 508 (by decide +kernel) rfl, lw_ix 466 (by decide +kernel) rfl, lw_ix 467 (by decide +kernel) rfl⟩
set_option maxRecDepth 20000 in
theorem lkX2_30 : Cond.methodLink RX2 30 yX6_copy ∈ lw_g ∧ Cond.instanceMethod yX6_copy ∈ lw_g ∧ Cond.selects yX6_copy.cls yX6_copy yX6_copy ∈ lw_g := ⟨lw_ix 434 (by decide +kernel) rfl, lw_ix 435 (by decide +kernel) rfl, lw_ix 436 (by decide +kernel) rfl⟩
set_option maxRecDepth 20000 in
theorem lkX2_34 : Cond.methodLink RX2 34 yX6_leave ∈ lw_g ∧ Cond.instanceMethod yX6_leave ∈ lw_g ∧ Cond.selects yX6_leave.cls yX6_leave yX6_leave ∈ lw_g := ⟨lw_ix 453 (by decide +kernel) rfl, lw_ix 454 (by decide +kernel) rfl, lw_ix 455 (by decide +kernel) rfl⟩
set_option maxRecDepth 20000 in
theorem lkX2_38 : Cond.methodLink RX2 38 yX0_rowOf ∈ lw_g ∧ Cond.instanceMethod yX0_rowOf ∈ lw_g ∧ Cond.selects yX0_rowOf.cls yX0_rowOf yX0_rowOf ∈ lw_g := ⟨lw_ix 443 (by decide +kernel) rfl, lw_ix 375 (by decide +kernel) rfl, lw_ix 376 (by decide +kernel) rfl⟩
set_option maxRecDepth 20000 in
theorem lkX2_42 : Cond.methodLink RX2 42 yX0_at ∈ lw_g ∧ Cond.instanceMethod yX0_at ∈ lw_g ∧ Cond.selects yX0_at.cls yX0_at yX0_at ∈ lw_g := ⟨lw_ix 444 (by decide +kernel) rfl, lw_ix 386 (by decide +kernel) rfl, lw_ix 387 (by decide +kernel) rfl⟩
set_option maxRecDepth 20000 in
theorem lkX2_46 : Cond.methodLink RX2 46 yX6_move ∈ lw_g ∧ Cond.instanceMethod yX6_move ∈ lw_g ∧ Cond.selects yX6_move.cls yX6_move yX6_move ∈ lw_g := ⟨lw_ix 465 (by decide +kernel) rfl, lw_ix 466 (by decide +kernel) rfl, lw_ix 467 (by decide +kernel) rfl⟩
set_option maxRecDepth 20000 in
theorem lkX2_60 : Cond.methodLink RX2 60 yX6_gather ∈ lw_g ∧ Cond.instanceMethod yX6_gather ∈ lw_g ∧ Cond.selects yX6_gather.cls yX6_gather yX6_gather ∈ lw_g := ⟨lw_ix 438 (by decide +kernel) rfl, lw_ix 439 (by decide +kernel) rfl, lw_ix 440 (by decide +kernel) rfl⟩
set_option maxRecDepth 20000 in
theorem lkX2_63 : Cond.methodLink RX2 63 yX2_gainByLeaving ∈ lw_g ∧ Cond.instanceMethod yX2_gainByLeaving ∈ lw_g ∧ Cond.selects yX2_gainByLeaving.cls yX2_gainByLeaving yX2_gainByLeaving ∈ lw_g := ⟨lw_ix 449 (by decide +kernel) rfl, lw_ix 450 (by decide +kernel) rfl, lw_ix 451 (by decide +kernel) rfl⟩
set_option maxRecDepth 20000 in
theorem lkX2_70 : Cond.methodLink RX2 70 yX2_gainByJoining ∈ lw_g ∧ Cond.instanceMethod yX2_gainByJoining ∈ lw_g ∧ Cond.selects yX2_gainByJoining.cls yX2_gainByJoining yX2_gainByJoining ∈ lw_g := ⟨lw_ix 461 (by decide +kernel) rfl, lw_ix 462 (by decide +kernel) rfl, lw_ix 463 (by decide +kernel) rfl⟩
set_option maxRecDepth 20000 in
theorem lkX2_75 : Cond.methodLink RX2 75 yX2_wouldAllGain ∈ lw_g ∧ Cond.instanceMethod yX2_wouldAllGain ∈ lw_g ∧ Cond.selects yX2_wouldAllGain.cls yX2_wouldAllGain yX2_wouldAllGain ∈ lw_g := ⟨lw_ix 430 (by decide +kernel) rfl, lw_ix 431 (by decide +kernel) rfl, lw_ix 432 (by decide +kernel) rfl⟩
set_option maxRecDepth 20000 in
theorem lkX3_31 : Cond.methodLink RX3 31 yX3_rowOf ∈ lw_g ∧ Cond.instanceMethod yX3_rowOf ∈ lw_g ∧ Cond.selects yX3_rowOf.cls yX3_rowOf yX3_rowOf ∈ lw_g := ⟨lw_ix 293 (by decide +kernel) rfl, lw_ix 286 (by decide +kernel) rfl, lw_ix 287 (by decide +kernel) rfl⟩
set_option maxRecDepth 20000 in
theorem lkX4_36 : Cond.methodLink RX4 36 yX4_wallAround ∈ lw_g ∧ Cond.instanceMethod yX4_wallAround ∈ lw_g ∧ Cond.selects yX4_wallAround.cls yX4_wallAround yX4_wallAround ∈ lw_g := ⟨lw_ix 354 (by decide +kernel) rfl, lw_ix 356 (by decide +kernel) rfl, lw_ip 2 (by decide +kernel) rfl⟩
set_option maxRecDepth 20000 in
theorem lkX4_40 : Cond.methodLink RX4 40 yX4_buy ∈ lw_g ∧ Cond.instanceMethod yX4_buy ∈ lw_g ∧ Cond.selects yX4_buy.cls yX4_buy yX4_buy ∈ lw_g := ⟨lw_ix 358 (by decide +kernel) rfl, lw_ix 360 (by decide +kernel) rfl, lw_ip 3 (by decide +kernel) rfl⟩
set_option maxRecDepth 20000 in
theorem lkX4_55 : Cond.methodLink RX4 55 yX4_shareOut ∈ lw_g ∧ Cond.instanceMethod yX4_shareOut ∈ lw_g ∧ Cond.selects yX4_shareOut.cls yX4_shareOut yX4_shareOut ∈ lw_g := ⟨lw_ix 362 (by decide +kernel) rfl, lw_ix 364 (by decide +kernel) rfl, lw_ip 4 (by decide +kernel) rfl⟩
set_option maxRecDepth 20000 in
theorem lkX5_25 : Cond.methodLink RX5 25 yX6_number ∈ lw_g ∧ Cond.instanceMethod yX6_number ∈ lw_g ∧ Cond.selects yX6_number.cls yX6_number yX6_number ∈ lw_g := ⟨lw_ix 334 (by decide +kernel) rfl, lw_ix 335 (by decide +kernel) rfl, lw_ix 336 (by decide +kernel) rfl⟩
set_option maxRecDepth 20000 in
theorem lkX6_25 : Cond.methodLink RX6 25 Lib.Math.min.name ∈ lw_g ∧ Cond.static Lib.Math.min.name ∈ lw_g ∧ Cond.initialized "java/lang/Math" ∈ lw_g ∧ Cond.code Lib.Math.min.name Lib.Math.min.code 2 (some .int) ∈ lw_g := ⟨lw_ix 397 (by decide +kernel) rfl, lw_ix 398 (by decide +kernel) rfl, lw_ix 11 (by decide +kernel) rfl, lw_ix 399 (by decide +kernel) rfl⟩
set_option maxRecDepth 20000 in
theorem lkX6_31 : Cond.methodLink RX6 31 yX6_number ∈ lw_g ∧ Cond.instanceMethod yX6_number ∈ lw_g ∧ Cond.selects yX6_number.cls yX6_number yX6_number ∈ lw_g := ⟨lw_ix 442 (by decide +kernel) rfl, lw_ix 335 (by decide +kernel) rfl, lw_ix 336 (by decide +kernel) rfl⟩
set_option maxRecDepth 20000 in
theorem lkX6_34 : Cond.methodLink RX6 34 yX6_firstLike ∈ lw_g ∧ Cond.instanceMethod yX6_firstLike ∈ lw_g ∧ Cond.selects yX6_firstLike.cls yX6_firstLike yX6_firstLike ∈ lw_g := ⟨lw_ix 338 (by decide +kernel) rfl, lw_ix 340 (by decide +kernel) rfl, lw_ip 1 (by decide +kernel) rfl⟩
set_option maxRecDepth 20000 in
theorem lkX6_38 : Cond.methodLink RX6 38 yX6_unionsAhead ∈ lw_g ∧ Cond.instanceMethod yX6_unionsAhead ∈ lw_g ∧ Cond.selects yX6_unionsAhead.cls yX6_unionsAhead yX6_unionsAhead ∈ lw_g := ⟨lw_ix 409 (by decide +kernel) rfl, lw_ix 411 (by decide +kernel) rfl, lw_ip 7 (by decide +kernel) rfl⟩
set_option maxRecDepth 20000 in
theorem lkX6_41 : Cond.methodLink RX6 41 Lib.Math.max.name ∈ lw_g ∧ Cond.static Lib.Math.max.name ∈ lw_g ∧ Cond.initialized "java/lang/Math" ∈ lw_g ∧ Cond.code Lib.Math.max.name Lib.Math.max.code 2 (some .int) ∈ lw_g := ⟨lw_ix 413 (by decide +kernel) rfl, lw_ix 403 (by decide +kernel) rfl, lw_ix 11 (by decide +kernel) rfl, lw_ix 404 (by decide +kernel) rfl⟩
set_option maxRecDepth 20000 in
theorem lkX7_18 : Cond.methodLink RX7 18 yX6_place ∈ lw_g ∧ Cond.instanceMethod yX6_place ∈ lw_g ∧ Cond.selects yX6_place.cls yX6_place yX6_place ∈ lw_g := ⟨lw_ix 425 (by decide +kernel) rfl, lw_ix 379 (by decide +kernel) rfl, lw_ix 380 (by decide +kernel) rfl⟩
set_option maxRecDepth 20000 in
theorem lkX7_36 : Cond.methodLink RX7 36 yX2_coreBreaker ∈ lw_g ∧ Cond.instanceMethod yX2_coreBreaker ∈ lw_g ∧ Cond.selects yX2_coreBreaker.cls yX2_coreBreaker yX2_coreBreaker ∈ lw_g := ⟨lw_ix 426 (by decide +kernel) rfl, lw_ix 427 (by decide +kernel) rfl, lw_ix 428 (by decide +kernel) rfl⟩
set_option maxRecDepth 20000 in
theorem lkX7_40 : Cond.methodLink RX7 40 yX2_stayBreaker ∈ lw_g ∧ Cond.instanceMethod yX2_stayBreaker ∈ lw_g ∧ Cond.selects yX2_stayBreaker.cls yX2_stayBreaker yX2_stayBreaker ∈ lw_g := ⟨lw_ix 445 (by decide +kernel) rfl, lw_ix 446 (by decide +kernel) rfl, lw_ix 447 (by decide +kernel) rfl⟩
set_option maxRecDepth 20000 in
theorem lkX7_43 : Cond.methodLink RX7 43 yX2_joinBreaker ∈ lw_g ∧ Cond.instanceMethod yX2_joinBreaker ∈ lw_g ∧ Cond.selects yX2_joinBreaker.cls yX2_joinBreaker yX2_joinBreaker ∈ lw_g := ⟨lw_ix 457 (by decide +kernel) rfl, lw_ix 458 (by decide +kernel) rfl, lw_ix 459 (by decide +kernel) rfl⟩
set_option maxRecDepth 20000 in
theorem lkX8_67 : Cond.methodLink RX8 67 yX3_fits ∈ lw_g ∧ Cond.static yX3_fits ∈ lw_g := ⟨lw_ix 266 (by decide +kernel) rfl, lw_ix 267 (by decide +kernel) rfl⟩
set_option maxRecDepth 20000 in
theorem lkX8_77 : Cond.methodLink RX8 77 yX3_add ∈ lw_g ∧ Cond.instanceMethod yX3_add ∈ lw_g ∧ Cond.selects yX3_add.cls yX3_add yX3_add ∈ lw_g := ⟨lw_ix 269 (by decide +kernel) rfl, lw_ix 270 (by decide +kernel) rfl, lw_ix 271 (by decide +kernel) rfl⟩
set_option maxRecDepth 20000 in
theorem lkX8_81 : Cond.methodLink RX8 81 yX6_addApart ∈ lw_g ∧ Cond.instanceMethod yX6_addApart ∈ lw_g ∧ Cond.selects yX6_addApart.cls yX6_addApart yX6_addApart ∈ lw_g := ⟨lw_ix 273 (by decide +kernel) rfl, lw_ix 274 (by decide +kernel) rfl, lw_ix 275 (by decide +kernel) rfl⟩
set_option maxRecDepth 20000 in
theorem lkX8_84 : Cond.methodLink RX8 84 yX8_isLand ∈ lw_g ∧ Cond.instanceMethod yX8_isLand ∈ lw_g ∧ Cond.selects yX8_isLand.cls yX8_isLand yX8_isLand ∈ lw_g := ⟨lw_ix 281 (by decide +kernel) rfl, lw_ix 283 (by decide +kernel) rfl, lw_ip 0 (by decide +kernel) rfl⟩
set_option maxRecDepth 20000 in
theorem lkX8_88 : Cond.methodLink RX8 88 yX3_rowOf ∈ lw_g ∧ Cond.instanceMethod yX3_rowOf ∈ lw_g ∧ Cond.selects yX3_rowOf.cls yX3_rowOf yX3_rowOf ∈ lw_g := ⟨lw_ix 285 (by decide +kernel) rfl, lw_ix 286 (by decide +kernel) rfl, lw_ix 287 (by decide +kernel) rfl⟩
set_option maxRecDepth 20000 in
theorem lkX8_92 : Cond.methodLink RX8 92 yX3_put ∈ lw_g ∧ Cond.instanceMethod yX3_put ∈ lw_g ∧ Cond.selects yX3_put.cls yX3_put yX3_put ∈ lw_g := ⟨lw_ix 289 (by decide +kernel) rfl, lw_ix 290 (by decide +kernel) rfl, lw_ix 291 (by decide +kernel) rfl⟩
set_option maxRecDepth 20000 in
theorem lkX8_102 : Cond.methodLink RX8 102 yX3_putWalls ∈ lw_g ∧ Cond.instanceMethod yX3_putWalls ∈ lw_g ∧ Cond.selects yX3_putWalls.cls yX3_putWalls yX3_putWalls ∈ lw_g := ⟨lw_ix 298 (by decide +kernel) rfl, lw_ix 299 (by decide +kernel) rfl, lw_ix 300 (by decide +kernel) rfl⟩
set_option maxRecDepth 20000 in
theorem lkX8_106 : Cond.methodLink RX8 106 yX3_putShares ∈ lw_g ∧ Cond.instanceMethod yX3_putShares ∈ lw_g ∧ Cond.selects yX3_putShares.cls yX3_putShares yX3_putShares ∈ lw_g := ⟨lw_ix 302 (by decide +kernel) rfl, lw_ix 303 (by decide +kernel) rfl, lw_ix 304 (by decide +kernel) rfl⟩
set_option maxRecDepth 20000 in
theorem lkX8_110 : Cond.methodLink RX8 110 yX5_add ∈ lw_g ∧ Cond.instanceMethod yX5_add ∈ lw_g ∧ Cond.selects yX5_add.cls yX5_add yX5_add ∈ lw_g := ⟨lw_ix 310 (by decide +kernel) rfl, lw_ix 311 (by decide +kernel) rfl, lw_ix 312 (by decide +kernel) rfl⟩
set_option maxRecDepth 20000 in
theorem lkX8_112 : Cond.methodLink RX8 112 yX5_firstFault ∈ lw_g ∧ Cond.instanceMethod yX5_firstFault ∈ lw_g ∧ Cond.selects yX5_firstFault.cls yX5_firstFault yX5_firstFault ∈ lw_g := ⟨lw_ix 322 (by decide +kernel) rfl, lw_ix 323 (by decide +kernel) rfl, lw_ix 324 (by decide +kernel) rfl⟩
set_option maxRecDepth 20000 in
theorem lkX8_116 : Cond.methodLink RX8 116 yX5_putInto ∈ lw_g ∧ Cond.instanceMethod yX5_putInto ∈ lw_g ∧ Cond.selects yX5_putInto.cls yX5_putInto yX5_putInto ∈ lw_g := ⟨lw_ix 330 (by decide +kernel) rfl, lw_ix 331 (by decide +kernel) rfl, lw_ix 332 (by decide +kernel) rfl⟩
set_option maxRecDepth 20000 in
theorem lkX8_127 : Cond.methodLink RX8 127 yX4_reckon ∈ lw_g ∧ Cond.instanceMethod yX4_reckon ∈ lw_g ∧ Cond.selects yX4_reckon.cls yX4_reckon yX4_reckon ∈ lw_g := ⟨lw_ix 350 (by decide +kernel) rfl, lw_ix 351 (by decide +kernel) rfl, lw_ix 352 (by decide +kernel) rfl⟩
set_option maxRecDepth 20000 in
theorem lkX8_149 : Cond.methodLink RX8 149 yX8_goodsTogether ∈ lw_g ∧ Cond.instanceMethod yX8_goodsTogether ∈ lw_g ∧ Cond.selects yX8_goodsTogether.cls yX8_goodsTogether yX8_goodsTogether ∈ lw_g := ⟨lw_ix 370 (by decide +kernel) rfl, lw_ix 372 (by decide +kernel) rfl, lw_ip 5 (by decide +kernel) rfl⟩
set_option maxRecDepth 20000 in
theorem lkX8_153 : Cond.methodLink RX8 153 yX8_bestPlaced ∈ lw_g ∧ Cond.instanceMethod yX8_bestPlaced ∈ lw_g ∧ Cond.selects yX8_bestPlaced.cls yX8_bestPlaced yX8_bestPlaced ∈ lw_g := ⟨lw_ix 389 (by decide +kernel) rfl, lw_ix 391 (by decide +kernel) rfl, lw_ip 6 (by decide +kernel) rfl⟩
set_option maxRecDepth 20000 in
theorem lkX8_160 : Cond.methodLink RX8 160 yX0_rowOf ∈ lw_g ∧ Cond.instanceMethod yX0_rowOf ∈ lw_g ∧ Cond.selects yX0_rowOf.cls yX0_rowOf yX0_rowOf ∈ lw_g := ⟨lw_ix 374 (by decide +kernel) rfl, lw_ix 375 (by decide +kernel) rfl, lw_ix 376 (by decide +kernel) rfl⟩
set_option maxRecDepth 20000 in
theorem lkX8_164 : Cond.methodLink RX8 164 yX0_at ∈ lw_g ∧ Cond.instanceMethod yX0_at ∈ lw_g ∧ Cond.selects yX0_at.cls yX0_at yX0_at ∈ lw_g := ⟨lw_ix 385 (by decide +kernel) rfl, lw_ix 386 (by decide +kernel) rfl, lw_ix 387 (by decide +kernel) rfl⟩
set_option maxRecDepth 20000 in
theorem lkX8_168 : Cond.methodLink RX8 168 yX6_putAllTogether ∈ lw_g ∧ Cond.instanceMethod yX6_putAllTogether ∈ lw_g ∧ Cond.selects yX6_putAllTogether.cls yX6_putAllTogether yX6_putAllTogether ∈ lw_g := ⟨lw_ix 393 (by decide +kernel) rfl, lw_ix 394 (by decide +kernel) rfl, lw_ix 395 (by decide +kernel) rfl⟩
set_option maxRecDepth 20000 in
theorem lkX8_171 : Cond.methodLink RX8 171 Lib.Math.max.name ∈ lw_g ∧ Cond.static Lib.Math.max.name ∈ lw_g ∧ Cond.initialized "java/lang/Math" ∈ lw_g ∧ Cond.code Lib.Math.max.name Lib.Math.max.code 2 (some .int) ∈ lw_g := ⟨lw_ix 402 (by decide +kernel) rfl, lw_ix 403 (by decide +kernel) rfl, lw_ix 11 (by decide +kernel) rfl, lw_ix 404 (by decide +kernel) rfl⟩
set_option maxRecDepth 20000 in
theorem lkX8_176 : Cond.methodLink RX8 176 yX6_advance ∈ lw_g ∧ Cond.instanceMethod yX6_advance ∈ lw_g ∧ Cond.selects yX6_advance.cls yX6_advance yX6_advance ∈ lw_g := ⟨lw_ix 405 (by decide +kernel) rfl, lw_ix 406 (by decide +kernel) rfl, lw_ix 407 (by decide +kernel) rfl⟩
set_option maxRecDepth 20000 in
theorem lkX8_179 : Cond.methodLink RX8 179 yX8_isRest ∈ lw_g ∧ Cond.static yX8_isRest ∈ lw_g := ⟨lw_ix 418 (by decide +kernel) rfl, lw_ix 419 (by decide +kernel) rfl⟩
set_option maxRecDepth 20000 in
theorem lkX8_182 : Cond.methodLink RX8 182 yX7_firstBreaker ∈ lw_g ∧ Cond.instanceMethod yX7_firstBreaker ∈ lw_g ∧ Cond.selects yX7_firstBreaker.cls yX7_firstBreaker yX7_firstBreaker ∈ lw_g := ⟨lw_ix 421 (by decide +kernel) rfl, lw_ix 422 (by decide +kernel) rfl, lw_ix 423 (by decide +kernel) rfl⟩
set_option maxRecDepth 20000 in
theorem lkX8_186 : Cond.methodLink RX8 186 yX1_travel ∈ lw_g ∧ Cond.instanceMethod yX1_travel ∈ lw_g ∧ Cond.selects yX1_travel.cls yX1_travel yX1_travel ∈ lw_g := ⟨lw_ix 477 (by decide +kernel) rfl, lw_ix 478 (by decide +kernel) rfl, lw_ix 479 (by decide +kernel) rfl⟩
set_option maxRecDepth 20000 in
theorem lkX8_198 : Cond.methodLink RX8 198 yX6_putAllApart ∈ lw_g ∧ Cond.instanceMethod yX6_putAllApart ∈ lw_g ∧ Cond.selects yX6_putAllApart.cls yX6_putAllApart yX6_putAllApart ∈ lw_g := ⟨lw_ix 513 (by decide +kernel) rfl, lw_ix 514 (by decide +kernel) rfl, lw_ix 515 (by decide +kernel) rfl⟩
set_option maxRecDepth 20000 in
theorem lkX8_201 : Cond.methodLink RX8 201 yX3_copy ∈ lw_g ∧ Cond.instanceMethod yX3_copy ∈ lw_g ∧ Cond.selects yX3_copy.cls yX3_copy yX3_copy ∈ lw_g := ⟨lw_ix 521 (by decide +kernel) rfl, lw_ix 522 (by decide +kernel) rfl, lw_ix 523 (by decide +kernel) rfl⟩
set_option maxRecDepth 20000 in
theorem lkX8_205 : Cond.methodLink RX8 205 yX2_stayBreaker ∈ lw_g ∧ Cond.instanceMethod yX2_stayBreaker ∈ lw_g ∧ Cond.selects yX2_stayBreaker.cls yX2_stayBreaker yX2_stayBreaker ∈ lw_g := ⟨lw_ix 525 (by decide +kernel) rfl, lw_ix 446 (by decide +kernel) rfl, lw_ix 447 (by decide +kernel) rfl⟩
set_option maxRecDepth 20000 in
theorem lkX8_208 : Cond.methodLink RX8 208 yX2_wouldAllGain ∈ lw_g ∧ Cond.instanceMethod yX2_wouldAllGain ∈ lw_g ∧ Cond.selects yX2_wouldAllGain.cls yX2_wouldAllGain yX2_wouldAllGain ∈ lw_g := ⟨lw_ix 530 (by decide +kernel) rfl, lw_ix 431 (by decide +kernel) rfl, lw_ix 432 (by decide +kernel) rfl⟩
set_option maxRecDepth 20000 in
theorem lkX8_212 : Cond.methodLink RX8 212 yX2_goodGathered ∈ lw_g ∧ Cond.instanceMethod yX2_goodGathered ∈ lw_g ∧ Cond.selects yX2_goodGathered.cls yX2_goodGathered yX2_goodGathered ∈ lw_g := ⟨lw_ix 531 (by decide +kernel) rfl, lw_ix 532 (by decide +kernel) rfl, lw_ix 533 (by decide +kernel) rfl⟩
set_option maxRecDepth 20000 in
theorem lkX8_217 : Cond.methodLink RX8 217 yX8_isUnion ∈ lw_g ∧ Cond.instanceMethod yX8_isUnion ∈ lw_g ∧ Cond.selects yX8_isUnion.cls yX8_isUnion yX8_isUnion ∈ lw_g := ⟨lw_ix 540 (by decide +kernel) rfl, lw_ix 542 (by decide +kernel) rfl, lw_ip 13 (by decide +kernel) rfl⟩
set_option maxRecDepth 20000 in
theorem lkX8_221 : Cond.methodLink RX8 221 yX6_copy ∈ lw_g ∧ Cond.instanceMethod yX6_copy ∈ lw_g ∧ Cond.selects yX6_copy.cls yX6_copy yX6_copy ∈ lw_g := ⟨lw_ix 545 (by decide +kernel) rfl, lw_ix 435 (by decide +kernel) rfl, lw_ix 436 (by decide +kernel) rfl⟩
set_option maxRecDepth 20000 in
theorem lkX8_223 : Cond.methodLink RX8 223 yX6_move ∈ lw_g ∧ Cond.instanceMethod yX6_move ∈ lw_g ∧ Cond.selects yX6_move.cls yX6_move yX6_move ∈ lw_g := ⟨lw_ix 546 (by decide +kernel) rfl, lw_ix 466 (by decide +kernel) rfl, lw_ix 467 (by decide +kernel) rfl⟩
set_option maxRecDepth 20000 in
theorem lkX8_227 : Cond.methodLink RX8 227 yX2_gainByLeaving ∈ lw_g ∧ Cond.instanceMethod yX2_gainByLeaving ∈ lw_g ∧ Cond.selects yX2_gainByLeaving.cls yX2_gainByLeaving yX2_gainByLeaving ∈ lw_g := ⟨lw_ix 551 (by decide +kernel) rfl, lw_ix 450 (by decide +kernel) rfl, lw_ix 451 (by decide +kernel) rfl⟩
set_option maxRecDepth 20000 in
theorem lkX8_231 : Cond.methodLink RX8 231 yX6_scatter ∈ lw_g ∧ Cond.instanceMethod yX6_scatter ∈ lw_g ∧ Cond.selects yX6_scatter.cls yX6_scatter yX6_scatter ∈ lw_g := ⟨lw_ix 556 (by decide +kernel) rfl, lw_ix 557 (by decide +kernel) rfl, lw_ix 558 (by decide +kernel) rfl⟩
set_option maxRecDepth 20000 in
theorem lkX8_237 : Cond.methodLink RX8 237 yX8_turnsStay ∈ lw_g ∧ Cond.instanceMethod yX8_turnsStay ∈ lw_g ∧ Cond.selects yX8_turnsStay.cls yX8_turnsStay yX8_turnsStay ∈ lw_g := ⟨lw_ix 564 (by decide +kernel) rfl, lw_ix 566 (by decide +kernel) rfl, lw_ip 14 (by decide +kernel) rfl⟩
set_option maxRecDepth 20000 in
theorem lkX9_59 : Cond.methodLink RX9 59 yX9_in ∈ lw_g ∧ Cond.static yX9_in ∈ lw_g := ⟨lw_ix 652 (by decide +kernel) rfl, lw_ix 653 (by decide +kernel) rfl⟩
set_option maxRecDepth 20000 in
theorem lkX9_69 : Cond.methodLink RX9 69 yX9_isNumber ∈ lw_g ∧ Cond.static yX9_isNumber ∈ lw_g := ⟨lw_ix 646 (by decide +kernel) rfl, lw_ix 647 (by decide +kernel) rfl⟩
set_option maxRecDepth 20000 in
theorem lkX9_73 : Cond.methodLink RX9 73 yX9_manyOf ∈ lw_g ∧ Cond.instanceMethod yX9_manyOf ∈ lw_g ∧ Cond.selects yX9_manyOf.cls yX9_manyOf yX9_manyOf ∈ lw_g := ⟨lw_ix 655 (by decide +kernel) rfl, lw_ix 657 (by decide +kernel) rfl, lw_ip 15 (by decide +kernel) rfl⟩
set_option maxRecDepth 20000 in
theorem lkX9_77 : Cond.methodLink RX9 77 yX9_isLand ∈ lw_g ∧ Cond.instanceMethod yX9_isLand ∈ lw_g ∧ Cond.selects yX9_isLand.cls yX9_isLand yX9_isLand ∈ lw_g := ⟨lw_ix 663 (by decide +kernel) rfl, lw_ix 665 (by decide +kernel) rfl, lw_ip 16 (by decide +kernel) rfl⟩
set_option maxRecDepth 20000 in
theorem lkX9_100 : Cond.methodLink RX9 100 yX9_fault ∈ lw_g ∧ Cond.instanceMethod yX9_fault ∈ lw_g ∧ Cond.selects yX9_fault.cls yX9_fault yX9_fault ∈ lw_g := ⟨lw_ix 692 (by decide +kernel) rfl, lw_ix 684 (by decide +kernel) rfl, lw_ix 685 (by decide +kernel) rfl⟩
set_option maxRecDepth 20000 in
theorem lkX9_104 : Cond.methodLink RX9 104 yX9_number ∈ lw_g ∧ Cond.instanceMethod yX9_number ∈ lw_g ∧ Cond.selects yX9_number.cls yX9_number yX9_number ∈ lw_g := ⟨lw_ix 693 (by decide +kernel) rfl, lw_ix 695 (by decide +kernel) rfl, lw_ip 17 (by decide +kernel) rfl⟩
set_option maxRecDepth 20000 in
theorem lkX9_108 : Cond.methodLink RX9 108 yX9_wallOf ∈ lw_g ∧ Cond.instanceMethod yX9_wallOf ∈ lw_g ∧ Cond.selects yX9_wallOf.cls yX9_wallOf yX9_wallOf ∈ lw_g := ⟨lw_ix 709 (by decide +kernel) rfl, lw_ix 711 (by decide +kernel) rfl, lw_ip 19 (by decide +kernel) rfl⟩
set_option maxRecDepth 20000 in
theorem lkX9_112 : Cond.methodLink RX9 112 yX9_shareOf ∈ lw_g ∧ Cond.instanceMethod yX9_shareOf ∈ lw_g ∧ Cond.selects yX9_shareOf.cls yX9_shareOf yX9_shareOf ∈ lw_g := ⟨lw_ix 713 (by decide +kernel) rfl, lw_ix 715 (by decide +kernel) rfl, lw_ip 20 (by decide +kernel) rfl⟩
set_option maxRecDepth 20000 in
theorem lkX9_115 : Cond.methodLink RX9 115 yX9_findGoods ∈ lw_g ∧ Cond.instanceMethod yX9_findGoods ∈ lw_g ∧ Cond.selects yX9_findGoods.cls yX9_findGoods yX9_findGoods ∈ lw_g := ⟨lw_ix 705 (by decide +kernel) rfl, lw_ix 707 (by decide +kernel) rfl, lw_ip 18 (by decide +kernel) rfl⟩
set_option maxRecDepth 20000 in
theorem lkX9_118 : Cond.methodLink RX9 118 yX9_together ∈ lw_g ∧ Cond.instanceMethod yX9_together ∈ lw_g ∧ Cond.selects yX9_together.cls yX9_together yX9_together ∈ lw_g := ⟨lw_ix 721 (by decide +kernel) rfl, lw_ix 723 (by decide +kernel) rfl, lw_ip 21 (by decide +kernel) rfl⟩
set_option maxRecDepth 20000 in
theorem lkX9_121 : Cond.methodLink RX9 121 yX9_firstParting ∈ lw_g ∧ Cond.instanceMethod yX9_firstParting ∈ lw_g ∧ Cond.selects yX9_firstParting.cls yX9_firstParting yX9_firstParting ∈ lw_g := ⟨lw_ix 725 (by decide +kernel) rfl, lw_ix 727 (by decide +kernel) rfl, lw_ip 22 (by decide +kernel) rfl⟩
set_option maxRecDepth 20000 in
theorem lkX9_124 : Cond.methodLink RX9 124 yX9_nextParting ∈ lw_g ∧ Cond.instanceMethod yX9_nextParting ∈ lw_g ∧ Cond.selects yX9_nextParting.cls yX9_nextParting yX9_nextParting ∈ lw_g := ⟨lw_ix 729 (by decide +kernel) rfl, lw_ix 731 (by decide +kernel) rfl, lw_ip 23 (by decide +kernel) rfl⟩
set_option maxRecDepth 20000 in
theorem lkX9_128 : Cond.methodLink RX9 128 yX9_copy ∈ lw_g ∧ Cond.instanceMethod yX9_copy ∈ lw_g ∧ Cond.selects yX9_copy.cls yX9_copy yX9_copy ∈ lw_g := ⟨lw_ix 745 (by decide +kernel) rfl, lw_ix 747 (by decide +kernel) rfl, lw_ip 26 (by decide +kernel) rfl⟩
set_option maxRecDepth 20000 in
theorem lkX9_132 : Cond.methodLink RX9 132 yX9_gainApart ∈ lw_g ∧ Cond.instanceMethod yX9_gainApart ∈ lw_g ∧ Cond.selects yX9_gainApart.cls yX9_gainApart yX9_gainApart ∈ lw_g := ⟨lw_ix 761 (by decide +kernel) rfl, lw_ix 763 (by decide +kernel) rfl, lw_ip 30 (by decide +kernel) rfl⟩
set_option maxRecDepth 20000 in
theorem lkX9_135 : Cond.methodLink RX9 135 yX9_gainIn ∈ lw_g ∧ Cond.instanceMethod yX9_gainIn ∈ lw_g ∧ Cond.selects yX9_gainIn.cls yX9_gainIn yX9_gainIn ∈ lw_g := ⟨lw_ix 769 (by decide +kernel) rfl, lw_ix 771 (by decide +kernel) rfl, lw_ip 32 (by decide +kernel) rfl⟩
set_option maxRecDepth 20000 in
theorem lkX9_139 : Cond.methodLink RX9 139 yX9_isUnion ∈ lw_g ∧ Cond.instanceMethod yX9_isUnion ∈ lw_g ∧ Cond.selects yX9_isUnion.cls yX9_isUnion yX9_isUnion ∈ lw_g := ⟨lw_ix 753 (by decide +kernel) rfl, lw_ix 755 (by decide +kernel) rfl, lw_ip 28 (by decide +kernel) rfl⟩
set_option maxRecDepth 20000 in
theorem lkX9_143 : Cond.methodLink RX9 143 yX9_keepGoods ∈ lw_g ∧ Cond.instanceMethod yX9_keepGoods ∈ lw_g ∧ Cond.selects yX9_keepGoods.cls yX9_keepGoods yX9_keepGoods ∈ lw_g := ⟨lw_ix 741 (by decide +kernel) rfl, lw_ix 743 (by decide +kernel) rfl, lw_ip 25 (by decide +kernel) rfl⟩
set_option maxRecDepth 20000 in
theorem lkX9_146 : Cond.methodLink RX9 146 yX9_isBetter ∈ lw_g ∧ Cond.instanceMethod yX9_isBetter ∈ lw_g ∧ Cond.selects yX9_isBetter.cls yX9_isBetter yX9_isBetter ∈ lw_g := ⟨lw_ix 749 (by decide +kernel) rfl, lw_ix 751 (by decide +kernel) rfl, lw_ip 27 (by decide +kernel) rfl⟩
set_option maxRecDepth 20000 in
theorem lkX9_149 : Cond.methodLink RX9 149 yX9_leaver ∈ lw_g ∧ Cond.instanceMethod yX9_leaver ∈ lw_g ∧ Cond.selects yX9_leaver.cls yX9_leaver yX9_leaver ∈ lw_g := ⟨lw_ix 757 (by decide +kernel) rfl, lw_ix 759 (by decide +kernel) rfl, lw_ip 29 (by decide +kernel) rfl⟩
set_option maxRecDepth 20000 in
theorem lkX9_152 : Cond.methodLink RX9 152 yX9_joiner ∈ lw_g ∧ Cond.instanceMethod yX9_joiner ∈ lw_g ∧ Cond.selects yX9_joiner.cls yX9_joiner yX9_joiner ∈ lw_g := ⟨lw_ix 765 (by decide +kernel) rfl, lw_ix 767 (by decide +kernel) rfl, lw_ip 31 (by decide +kernel) rfl⟩
set_option maxRecDepth 20000 in
theorem lkX9_155 : Cond.methodLink RX9 155 yX9_breakerOf ∈ lw_g ∧ Cond.instanceMethod yX9_breakerOf ∈ lw_g ∧ Cond.selects yX9_breakerOf.cls yX9_breakerOf yX9_breakerOf ∈ lw_g := ⟨lw_ix 737 (by decide +kernel) rfl, lw_ix 739 (by decide +kernel) rfl, lw_ip 24 (by decide +kernel) rfl⟩
set_option maxRecDepth 20000 in
theorem lkX9_164 : Cond.methodLink RX9 164 yX9_stateOf ∈ lw_g ∧ Cond.instanceMethod yX9_stateOf ∈ lw_g ∧ Cond.selects yX9_stateOf.cls yX9_stateOf yX9_stateOf ∈ lw_g := ⟨lw_ix 787 (by decide +kernel) rfl, lw_ix 789 (by decide +kernel) rfl, lw_ip 34 (by decide +kernel) rfl⟩
set_option maxRecDepth 20000 in
theorem lkX9_167 : Cond.methodLink RX9 167 yX9_goOne ∈ lw_g ∧ Cond.instanceMethod yX9_goOne ∈ lw_g ∧ Cond.selects yX9_goOne.cls yX9_goOne yX9_goOne ∈ lw_g := ⟨lw_ix 791 (by decide +kernel) rfl, lw_ix 793 (by decide +kernel) rfl, lw_ip 35 (by decide +kernel) rfl⟩
set_option maxRecDepth 20000 in
theorem lkX9_175 : Cond.methodLink RX9 175 yX9_goAll ∈ lw_g ∧ Cond.instanceMethod yX9_goAll ∈ lw_g ∧ Cond.selects yX9_goAll.cls yX9_goAll yX9_goAll ∈ lw_g := ⟨lw_ix 783 (by decide +kernel) rfl, lw_ix 785 (by decide +kernel) rfl, lw_ip 33 (by decide +kernel) rfl⟩
set_option maxRecDepth 20000 in
theorem lkX9_180 : Cond.methodLink RX9 180 yX9_isThere ∈ lw_g ∧ Cond.instanceMethod yX9_isThere ∈ lw_g ∧ Cond.selects yX9_isThere.cls yX9_isThere yX9_isThere ∈ lw_g := ⟨lw_ix 812 (by decide +kernel) rfl, lw_ix 814 (by decide +kernel) rfl, lw_ip 36 (by decide +kernel) rfl⟩
set_option maxRecDepth 20000 in
theorem lkL_13 : Cond.methodLink RL 13 yX8_land ∈ lw_g ∧ Cond.instanceMethod yX8_land ∈ lw_g ∧ Cond.selects yX8_land.cls yX8_land yX8_land ∈ lw_g := ⟨lw_ix 262 (by decide +kernel) rfl, lw_ix 263 (by decide +kernel) rfl, lw_ix 264 (by decide +kernel) rfl⟩
set_option maxRecDepth 20000 in
theorem lkL_17 : Cond.methodLink RL 17 yX9_land ∈ lw_g ∧ Cond.instanceMethod yX9_land ∈ lw_g ∧ Cond.selects yX9_land.cls yX9_land yX9_land ∈ lw_g := ⟨lw_ix 642 (by decide +kernel) rfl, lw_ix 643 (by decide +kernel) rfl, lw_ix 644 (by decide +kernel) rfl⟩
set_option maxRecDepth 20000 in
theorem lkL_18 : Cond.methodLink RL 18 yX8_change ∈ lw_g ∧ Cond.instanceMethod yX8_change ∈ lw_g ∧ Cond.selects yX8_change.cls yX8_change yX8_change ∈ lw_g := ⟨lw_ix 277 (by decide +kernel) rfl, lw_ix 278 (by decide +kernel) rfl, lw_ix 279 (by decide +kernel) rfl⟩
set_option maxRecDepth 20000 in
theorem lkL_22 : Cond.methodLink RL 22 yX9_change ∈ lw_g ∧ Cond.instanceMethod yX9_change ∈ lw_g ∧ Cond.selects yX9_change.cls yX9_change yX9_change ∈ lw_g := ⟨lw_ix 659 (by decide +kernel) rfl, lw_ix 660 (by decide +kernel) rfl, lw_ix 661 (by decide +kernel) rfl⟩
set_option maxRecDepth 20000 in
theorem lkL_23 : Cond.methodLink RL 23 yX8_set ∈ lw_g ∧ Cond.instanceMethod yX8_set ∈ lw_g ∧ Cond.selects yX8_set.cls yX8_set yX8_set ∈ lw_g := ⟨lw_ix 294 (by decide +kernel) rfl, lw_ix 295 (by decide +kernel) rfl, lw_ix 296 (by decide +kernel) rfl⟩
set_option maxRecDepth 20000 in
theorem lkL_27 : Cond.methodLink RL 27 yX9_set ∈ lw_g ∧ Cond.instanceMethod yX9_set ∈ lw_g ∧ Cond.selects yX9_set.cls yX9_set yX9_set ∈ lw_g := ⟨lw_ix 668 (by decide +kernel) rfl, lw_ix 669 (by decide +kernel) rfl, lw_ix 670 (by decide +kernel) rfl⟩
set_option maxRecDepth 20000 in
theorem lkL_28 : Cond.methodLink RL 28 yX8_say ∈ lw_g ∧ Cond.instanceMethod yX8_say ∈ lw_g ∧ Cond.selects yX8_say.cls yX8_say yX8_say ∈ lw_g := ⟨lw_ix 306 (by decide +kernel) rfl, lw_ix 307 (by decide +kernel) rfl, lw_ix 308 (by decide +kernel) rfl⟩
set_option maxRecDepth 20000 in
theorem lkL_32 : Cond.methodLink RL 32 yX9_say ∈ lw_g ∧ Cond.instanceMethod yX9_say ∈ lw_g ∧ Cond.selects yX9_say.cls yX9_say yX9_say ∈ lw_g := ⟨lw_ix 673 (by decide +kernel) rfl, lw_ix 674 (by decide +kernel) rfl, lw_ix 675 (by decide +kernel) rfl⟩
set_option maxRecDepth 20000 in
theorem lkL_33 : Cond.methodLink RL 33 yX8_wipe ∈ lw_g ∧ Cond.instanceMethod yX8_wipe ∈ lw_g ∧ Cond.selects yX8_wipe.cls yX8_wipe yX8_wipe ∈ lw_g := ⟨lw_ix 314 (by decide +kernel) rfl, lw_ix 315 (by decide +kernel) rfl, lw_ix 316 (by decide +kernel) rfl⟩
set_option maxRecDepth 20000 in
theorem lkL_37 : Cond.methodLink RL 37 yX9_wipe ∈ lw_g ∧ Cond.instanceMethod yX9_wipe ∈ lw_g ∧ Cond.selects yX9_wipe.cls yX9_wipe yX9_wipe ∈ lw_g := ⟨lw_ix 679 (by decide +kernel) rfl, lw_ix 680 (by decide +kernel) rfl, lw_ix 681 (by decide +kernel) rfl⟩
set_option maxRecDepth 20000 in
theorem lkL_38 : Cond.methodLink RL 38 yX8_fault ∈ lw_g ∧ Cond.instanceMethod yX8_fault ∈ lw_g ∧ Cond.selects yX8_fault.cls yX8_fault yX8_fault ∈ lw_g := ⟨lw_ix 318 (by decide +kernel) rfl, lw_ix 319 (by decide +kernel) rfl, lw_ix 320 (by decide +kernel) rfl⟩
set_option maxRecDepth 20000 in
theorem lkL_41 : Cond.methodLink RL 41 yX9_fault ∈ lw_g ∧ Cond.instanceMethod yX9_fault ∈ lw_g ∧ Cond.selects yX9_fault.cls yX9_fault yX9_fault ∈ lw_g := ⟨lw_ix 683 (by decide +kernel) rfl, lw_ix 684 (by decide +kernel) rfl, lw_ix 685 (by decide +kernel) rfl⟩
set_option maxRecDepth 20000 in
theorem lkL_42 : Cond.methodLink RL 42 yX8_part ∈ lw_g ∧ Cond.instanceMethod yX8_part ∈ lw_g ∧ Cond.selects yX8_part.cls yX8_part yX8_part ∈ lw_g := ⟨lw_ix 326 (by decide +kernel) rfl, lw_ix 327 (by decide +kernel) rfl, lw_ix 328 (by decide +kernel) rfl⟩
set_option maxRecDepth 20000 in
theorem lkL_45 : Cond.methodLink RL 45 yX9_part ∈ lw_g ∧ Cond.instanceMethod yX9_part ∈ lw_g ∧ Cond.selects yX9_part.cls yX9_part yX9_part ∈ lw_g := ⟨lw_ix 688 (by decide +kernel) rfl, lw_ix 689 (by decide +kernel) rfl, lw_ix 690 (by decide +kernel) rfl⟩
set_option maxRecDepth 20000 in
theorem lkL_46 : Cond.methodLink RL 46 yX8_union ∈ lw_g ∧ Cond.instanceMethod yX8_union ∈ lw_g ∧ Cond.selects yX8_union.cls yX8_union yX8_union ∈ lw_g := ⟨lw_ix 342 (by decide +kernel) rfl, lw_ix 343 (by decide +kernel) rfl, lw_ix 344 (by decide +kernel) rfl⟩
set_option maxRecDepth 20000 in
theorem lkL_49 : Cond.methodLink RL 49 yX9_union ∈ lw_g ∧ Cond.instanceMethod yX9_union ∈ lw_g ∧ Cond.selects yX9_union.cls yX9_union yX9_union ∈ lw_g := ⟨lw_ix 697 (by decide +kernel) rfl, lw_ix 698 (by decide +kernel) rfl, lw_ix 699 (by decide +kernel) rfl⟩
set_option maxRecDepth 20000 in
theorem lkL_50 : Cond.methodLink RL 50 yX8_of ∈ lw_g ∧ Cond.instanceMethod yX8_of ∈ lw_g ∧ Cond.selects yX8_of.cls yX8_of yX8_of ∈ lw_g := ⟨lw_ix 346 (by decide +kernel) rfl, lw_ix 347 (by decide +kernel) rfl, lw_ix 348 (by decide +kernel) rfl⟩
set_option maxRecDepth 20000 in
theorem lkL_53 : Cond.methodLink RL 53 yX9_of ∈ lw_g ∧ Cond.instanceMethod yX9_of ∈ lw_g ∧ Cond.selects yX9_of.cls yX9_of yX9_of ∈ lw_g := ⟨lw_ix 701 (by decide +kernel) rfl, lw_ix 702 (by decide +kernel) rfl, lw_ix 703 (by decide +kernel) rfl⟩
set_option maxRecDepth 20000 in
theorem lkL_54 : Cond.methodLink RL 54 yX8_all ∈ lw_g ∧ Cond.instanceMethod yX8_all ∈ lw_g ∧ Cond.selects yX8_all.cls yX8_all yX8_all ∈ lw_g := ⟨lw_ix 366 (by decide +kernel) rfl, lw_ix 367 (by decide +kernel) rfl, lw_ix 368 (by decide +kernel) rfl⟩
set_option maxRecDepth 20000 in
theorem lkL_57 : Cond.methodLink RL 57 yX9_all ∈ lw_g ∧ Cond.instanceMethod yX9_all ∈ lw_g ∧ Cond.selects yX9_all.cls yX9_all yX9_all ∈ lw_g := ⟨lw_ix 717 (by decide +kernel) rfl, lw_ix 718 (by decide +kernel) rfl, lw_ix 719 (by decide +kernel) rfl⟩
set_option maxRecDepth 20000 in
theorem lkL_58 : Cond.methodLink RL 58 yX8_breaks ∈ lw_g ∧ Cond.instanceMethod yX8_breaks ∈ lw_g ∧ Cond.selects yX8_breaks.cls yX8_breaks yX8_breaks ∈ lw_g := ⟨lw_ix 414 (by decide +kernel) rfl, lw_ix 415 (by decide +kernel) rfl, lw_ix 416 (by decide +kernel) rfl⟩
set_option maxRecDepth 20000 in
theorem lkL_61 : Cond.methodLink RL 61 yX9_breaks ∈ lw_g ∧ Cond.instanceMethod yX9_breaks ∈ lw_g ∧ Cond.selects yX9_breaks.cls yX9_breaks yX9_breaks ∈ lw_g := ⟨lw_ix 733 (by decide +kernel) rfl, lw_ix 734 (by decide +kernel) rfl, lw_ix 735 (by decide +kernel) rfl⟩
set_option maxRecDepth 20000 in
theorem lkL_62 : Cond.methodLink RL 62 yX8_rests ∈ lw_g ∧ Cond.instanceMethod yX8_rests ∈ lw_g ∧ Cond.selects yX8_rests.cls yX8_rests yX8_rests ∈ lw_g := ⟨lw_ix 469 (by decide +kernel) rfl, lw_ix 470 (by decide +kernel) rfl, lw_ix 471 (by decide +kernel) rfl⟩
set_option maxRecDepth 20000 in
theorem lkL_65 : Cond.methodLink RL 65 yX9_rests ∈ lw_g ∧ Cond.instanceMethod yX9_rests ∈ lw_g ∧ Cond.selects yX9_rests.cls yX9_rests yX9_rests ∈ lw_g := ⟨lw_ix 773 (by decide +kernel) rfl, lw_ix 774 (by decide +kernel) rfl, lw_ix 775 (by decide +kernel) rfl⟩
set_option maxRecDepth 20000 in
theorem lkL_66 : Cond.methodLink RL 66 yX8_go ∈ lw_g ∧ Cond.instanceMethod yX8_go ∈ lw_g ∧ Cond.selects yX8_go.cls yX8_go yX8_go ∈ lw_g := ⟨lw_ix 473 (by decide +kernel) rfl, lw_ix 474 (by decide +kernel) rfl, lw_ix 475 (by decide +kernel) rfl⟩
set_option maxRecDepth 20000 in
theorem lkL_69 : Cond.methodLink RL 69 yX9_go ∈ lw_g ∧ Cond.instanceMethod yX9_go ∈ lw_g ∧ Cond.selects yX9_go.cls yX9_go yX9_go ∈ lw_g := ⟨lw_ix 777 (by decide +kernel) rfl, lw_ix 778 (by decide +kernel) rfl, lw_ix 779 (by decide +kernel) rfl⟩
set_option maxRecDepth 20000 in
theorem lkL_70 : Cond.methodLink RL 70 yX8_whole ∈ lw_g ∧ Cond.instanceMethod yX8_whole ∈ lw_g ∧ Cond.selects yX8_whole.cls yX8_whole yX8_whole ∈ lw_g := ⟨lw_ix 509 (by decide +kernel) rfl, lw_ix 510 (by decide +kernel) rfl, lw_ix 511 (by decide +kernel) rfl⟩
set_option maxRecDepth 20000 in
theorem lkL_73 : Cond.methodLink RL 73 yX9_whole ∈ lw_g ∧ Cond.instanceMethod yX9_whole ∈ lw_g ∧ Cond.selects yX9_whole.cls yX9_whole yX9_whole ∈ lw_g := ⟨lw_ix 795 (by decide +kernel) rfl, lw_ix 796 (by decide +kernel) rfl, lw_ix 797 (by decide +kernel) rfl⟩
set_option maxRecDepth 20000 in
theorem lkL_74 : Cond.methodLink RL 74 yX8_rules ∈ lw_g ∧ Cond.instanceMethod yX8_rules ∈ lw_g ∧ Cond.selects yX8_rules.cls yX8_rules yX8_rules ∈ lw_g := ⟨lw_ix 517 (by decide +kernel) rfl, lw_ix 518 (by decide +kernel) rfl, lw_ix 519 (by decide +kernel) rfl⟩
set_option maxRecDepth 20000 in
theorem lkL_77 : Cond.methodLink RL 77 yX9_rules ∈ lw_g ∧ Cond.instanceMethod yX9_rules ∈ lw_g ∧ Cond.selects yX9_rules.cls yX9_rules yX9_rules ∈ lw_g := ⟨lw_ix 799 (by decide +kernel) rfl, lw_ix 800 (by decide +kernel) rfl, lw_ix 801 (by decide +kernel) rfl⟩
set_option maxRecDepth 20000 in
theorem lkL_78 : Cond.methodLink RL 78 yX8_propose ∈ lw_g ∧ Cond.instanceMethod yX8_propose ∈ lw_g ∧ Cond.selects yX8_propose.cls yX8_propose yX8_propose ∈ lw_g := ⟨lw_ix 526 (by decide +kernel) rfl, lw_ix 527 (by decide +kernel) rfl, lw_ix 528 (by decide +kernel) rfl⟩
set_option maxRecDepth 20000 in
theorem lkL_81 : Cond.methodLink RL 81 yX9_propose ∈ lw_g ∧ Cond.instanceMethod yX9_propose ∈ lw_g ∧ Cond.selects yX9_propose.cls yX9_propose yX9_propose ∈ lw_g := ⟨lw_ix 803 (by decide +kernel) rfl, lw_ix 804 (by decide +kernel) rfl, lw_ix 805 (by decide +kernel) rfl⟩
set_option maxRecDepth 20000 in
theorem lkL_82 : Cond.methodLink RL 82 yX8_enter ∈ lw_g ∧ Cond.instanceMethod yX8_enter ∈ lw_g ∧ Cond.selects yX8_enter.cls yX8_enter yX8_enter ∈ lw_g := ⟨lw_ix 535 (by decide +kernel) rfl, lw_ix 536 (by decide +kernel) rfl, lw_ix 537 (by decide +kernel) rfl⟩
set_option maxRecDepth 20000 in
theorem lkL_85 : Cond.methodLink RL 85 yX9_enter ∈ lw_g ∧ Cond.instanceMethod yX9_enter ∈ lw_g ∧ Cond.selects yX9_enter.cls yX9_enter yX9_enter ∈ lw_g := ⟨lw_ix 807 (by decide +kernel) rfl, lw_ix 808 (by decide +kernel) rfl, lw_ix 809 (by decide +kernel) rfl⟩
set_option maxRecDepth 20000 in
theorem lkL_86 : Cond.methodLink RL 86 yX8_holds ∈ lw_g ∧ Cond.instanceMethod yX8_holds ∈ lw_g ∧ Cond.selects yX8_holds.cls yX8_holds yX8_holds ∈ lw_g := ⟨lw_ix 547 (by decide +kernel) rfl, lw_ix 548 (by decide +kernel) rfl, lw_ix 549 (by decide +kernel) rfl⟩
set_option maxRecDepth 20000 in
theorem lkL_89 : Cond.methodLink RL 89 yX9_holds ∈ lw_g ∧ Cond.instanceMethod yX9_holds ∈ lw_g ∧ Cond.selects yX9_holds.cls yX9_holds yX9_holds ∈ lw_g := ⟨lw_ix 817 (by decide +kernel) rfl, lw_ix 818 (by decide +kernel) rfl, lw_ix 819 (by decide +kernel) rfl⟩
set_option maxRecDepth 20000 in
theorem lkL_90 : Cond.methodLink RL 90 yX8_hurt ∈ lw_g ∧ Cond.instanceMethod yX8_hurt ∈ lw_g ∧ Cond.selects yX8_hurt.cls yX8_hurt yX8_hurt ∈ lw_g := ⟨lw_ix 552 (by decide +kernel) rfl, lw_ix 553 (by decide +kernel) rfl, lw_ix 554 (by decide +kernel) rfl⟩
set_option maxRecDepth 20000 in
theorem lkL_93 : Cond.methodLink RL 93 yX9_hurt ∈ lw_g ∧ Cond.instanceMethod yX9_hurt ∈ lw_g ∧ Cond.selects yX9_hurt.cls yX9_hurt yX9_hurt ∈ lw_g := ⟨lw_ix 821 (by decide +kernel) rfl, lw_ix 822 (by decide +kernel) rfl, lw_ix 823 (by decide +kernel) rfl⟩
set_option maxRecDepth 20000 in
theorem lkL_94 : Cond.methodLink RL 94 yX8_edge ∈ lw_g ∧ Cond.instanceMethod yX8_edge ∈ lw_g ∧ Cond.selects yX8_edge.cls yX8_edge yX8_edge ∈ lw_g := ⟨lw_ix 560 (by decide +kernel) rfl, lw_ix 561 (by decide +kernel) rfl, lw_ix 562 (by decide +kernel) rfl⟩
set_option maxRecDepth 20000 in
theorem lkL_97 : Cond.methodLink RL 97 yX9_edge ∈ lw_g ∧ Cond.instanceMethod yX9_edge ∈ lw_g ∧ Cond.selects yX9_edge.cls yX9_edge yX9_edge ∈ lw_g := ⟨lw_ix 825 (by decide +kernel) rfl, lw_ix 826 (by decide +kernel) rfl, lw_ix 827 (by decide +kernel) rfl⟩
set_option maxRecDepth 20000 in
theorem lkL_98 : Cond.methodLink RL 98 yX8_told ∈ lw_g ∧ Cond.instanceMethod yX8_told ∈ lw_g ∧ Cond.selects yX8_told.cls yX8_told yX8_told ∈ lw_g := ⟨lw_ix 568 (by decide +kernel) rfl, lw_ix 569 (by decide +kernel) rfl, lw_ix 570 (by decide +kernel) rfl⟩
set_option maxRecDepth 20000 in
theorem lkL_101 : Cond.methodLink RL 101 yX9_told ∈ lw_g ∧ Cond.instanceMethod yX9_told ∈ lw_g ∧ Cond.selects yX9_told.cls yX9_told yX9_told ∈ lw_g := ⟨lw_ix 829 (by decide +kernel) rfl, lw_ix 830 (by decide +kernel) rfl, lw_ix 831 (by decide +kernel) rfl⟩
set_option maxRecDepth 20000 in
theorem fsX8_157 : Cond.fieldLink RX8 157 "LandUnions" "PARTINGS" "[I" ∈ lw_g := lw_ix 400 (by decide +kernel) rfl
set_option maxRecDepth 20000 in
theorem kcX8_216 : Cond.constant RX8 216 (-1000000001) ∈ lw_g := lw_ix 539 (by decide +kernel) rfl
set_option maxRecDepth 20000 in
theorem kcX8_220 : Cond.constant RX8 220 (-1000000002) ∈ lw_g := lw_ix 544 (by decide +kernel) rfl
set_option maxRecDepth 20000 in
theorem kcX9_63 : Cond.constantLong RX9 63 (99) ∈ lw_g := lw_ix 649 (by decide +kernel) rfl
set_option maxRecDepth 20000 in
theorem kcX9_65 : Cond.constantLong RX9 65 (20) ∈ lw_g := lw_ix 650 (by decide +kernel) rfl
set_option maxRecDepth 20000 in
theorem kcX9_67 : Cond.constantLong RX9 67 (60) ∈ lw_g := lw_ix 651 (by decide +kernel) rfl
set_option maxRecDepth 20000 in
theorem kcX9_81 : Cond.constantLong RX9 81 (3) ∈ lw_g := lw_ix 667 (by decide +kernel) rfl
set_option maxRecDepth 20000 in
theorem kcX9_83 : Cond.constantLong RX9 83 (2) ∈ lw_g := lw_ix 672 (by decide +kernel) rfl
set_option maxRecDepth 20000 in
theorem kcX9_91 : Cond.constantLong RX9 91 (33) ∈ lw_g := lw_ix 677 (by decide +kernel) rfl
set_option maxRecDepth 20000 in
theorem kcX9_93 : Cond.constantLong RX9 93 (126) ∈ lw_g := lw_ix 678 (by decide +kernel) rfl
set_option maxRecDepth 20000 in
theorem kcX9_98 : Cond.constantLong RX9 98 (97) ∈ lw_g := lw_ix 687 (by decide +kernel) rfl
set_option maxRecDepth 20000 in
theorem kcX9_171 : Cond.constantLong RX9 171 (10) ∈ lw_g := lw_ix 781 (by decide +kernel) rfl
set_option maxRecDepth 20000 in
theorem kcX9_173 : Cond.constantLong RX9 173 (15) ∈ lw_g := lw_ix 782 (by decide +kernel) rfl
set_option maxRecDepth 20000 in
theorem kcX9_179 : Cond.constant RX9 179 (-1000000001) ∈ lw_g := lw_ix 811 (by decide +kernel) rfl
set_option maxRecDepth 20000 in
theorem kcX9_183 : Cond.constant RX9 183 (-1000000002) ∈ lw_g := lw_ix 816 (by decide +kernel) rfl
set_option maxRecDepth 20000 in
theorem foX0_12 : FO RX0 12 0 0 := ⟨RX0, TX0, 4, rfl, gwX0, by decide, lw_ix 111 (by decide +kernel) rfl⟩
set_option maxRecDepth 20000 in
theorem foX0_21 : FO RX0 21 0 1 := ⟨RX0, TX0, 4, rfl, gwX0, by decide, lw_ix 113 (by decide +kernel) rfl⟩
set_option maxRecDepth 20000 in
theorem foX0_25 : FO RX0 25 0 2 := ⟨RX0, TX0, 4, rfl, gwX0, by decide, lw_ix 114 (by decide +kernel) rfl⟩
set_option maxRecDepth 20000 in
theorem foX0_29 : FO RX0 29 0 3 := ⟨RX0, TX0, 4, rfl, gwX0, by decide, lw_ix 115 (by decide +kernel) rfl⟩
set_option maxRecDepth 20000 in
theorem foX0_38 : FO RX0 38 3 3 := ⟨RX3, TX3, 8, rfl, gwX3, by decide, lw_ix 50 (by decide +kernel) rfl⟩
set_option maxRecDepth 20000 in
theorem foX0_46 : FO RX0 46 3 0 := ⟨RX3, TX3, 8, rfl, gwX3, by decide, lw_ix 39 (by decide +kernel) rfl⟩
set_option maxRecDepth 20000 in
theorem foX0_49 : FO RX0 49 4 5 := ⟨RX4, TX4, 6, rfl, gwX4, by decide, lw_ix 96 (by decide +kernel) rfl⟩
set_option maxRecDepth 20000 in
theorem foX1_12 : FO RX1 12 1 0 := ⟨RX1, TX1, 7, rfl, gwX1, by decide, lw_ix 188 (by decide +kernel) rfl⟩
set_option maxRecDepth 20000 in
theorem foX1_18 : FO RX1 18 1 6 := ⟨RX1, TX1, 7, rfl, gwX1, by decide, lw_ix 197 (by decide +kernel) rfl⟩
set_option maxRecDepth 20000 in
theorem foX1_26 : FO RX1 26 1 3 := ⟨RX1, TX1, 7, rfl, gwX1, by decide, lw_ix 194 (by decide +kernel) rfl⟩
set_option maxRecDepth 20000 in
theorem foX1_54 : FO RX1 54 1 4 := ⟨RX1, TX1, 7, rfl, gwX1, by decide, lw_ix 195 (by decide +kernel) rfl⟩
set_option maxRecDepth 20000 in
theorem foX1_57 : FO RX1 57 6 0 := ⟨RX6, TX6, 4, rfl, gwX6, by decide, lw_ix 133 (by decide +kernel) rfl⟩
set_option maxRecDepth 20000 in
theorem foX1_66 : FO RX1 66 1 5 := ⟨RX1, TX1, 7, rfl, gwX1, by decide, lw_ix 196 (by decide +kernel) rfl⟩
set_option maxRecDepth 20000 in
theorem foX2_12 : FO RX2 12 2 0 := ⟨RX2, TX2, 3, rfl, gwX2, by decide, lw_ix 154 (by decide +kernel) rfl⟩
set_option maxRecDepth 20000 in
theorem foX2_22 : FO RX2 22 2 1 := ⟨RX2, TX2, 3, rfl, gwX2, by decide, lw_ix 156 (by decide +kernel) rfl⟩
set_option maxRecDepth 20000 in
theorem foX2_26 : FO RX2 26 2 2 := ⟨RX2, TX2, 3, rfl, gwX2, by decide, lw_ix 159 (by decide +kernel) rfl⟩
set_option maxRecDepth 20000 in
theorem foX2_50 : FO RX2 50 3 0 := ⟨RX3, TX3, 8, rfl, gwX3, by decide, lw_ix 41 (by decide +kernel) rfl⟩
set_option maxRecDepth 20000 in
theorem foX2_56 : FO RX2 56 6 2 := ⟨RX6, TX6, 4, rfl, gwX6, by decide, lw_ix 141 (by decide +kernel) rfl⟩
set_option maxRecDepth 20000 in
theorem foX2_67 : FO RX2 67 6 1 := ⟨RX6, TX6, 4, rfl, gwX6, by decide, lw_ix 137 (by decide +kernel) rfl⟩
set_option maxRecDepth 20000 in
theorem foX2_74 : FO RX2 74 6 0 := ⟨RX6, TX6, 4, rfl, gwX6, by decide, lw_ix 134 (by decide +kernel) rfl⟩
set_option maxRecDepth 20000 in
theorem foX3_9 : FO RX3 9 3 3 := ⟨RX3, TX3, 8, rfl, gwX3, by decide, lw_ix 49 (by decide +kernel) rfl⟩
set_option maxRecDepth 20000 in
theorem foX3_15 : FO RX3 15 3 4 := ⟨RX3, TX3, 8, rfl, gwX3, by decide, lw_ix 52 (by decide +kernel) rfl⟩
set_option maxRecDepth 20000 in
theorem foX3_19 : FO RX3 19 3 5 := ⟨RX3, TX3, 8, rfl, gwX3, by decide, lw_ix 54 (by decide +kernel) rfl⟩
set_option maxRecDepth 20000 in
theorem foX3_22 : FO RX3 22 3 6 := ⟨RX3, TX3, 8, rfl, gwX3, by decide, lw_ix 57 (by decide +kernel) rfl⟩
set_option maxRecDepth 20000 in
theorem foX3_25 : FO RX3 25 3 7 := ⟨RX3, TX3, 8, rfl, gwX3, by decide, lw_ix 59 (by decide +kernel) rfl⟩
set_option maxRecDepth 20000 in
theorem foX3_28 : FO RX3 28 3 0 := ⟨RX3, TX3, 8, rfl, gwX3, by decide, lw_ix 42 (by decide +kernel) rfl⟩
set_option maxRecDepth 20000 in
theorem foX3_35 : FO RX3 35 3 1 := ⟨RX3, TX3, 8, rfl, gwX3, by decide, lw_ix 45 (by decide +kernel) rfl⟩
set_option maxRecDepth 20000 in
theorem foX3_38 : FO RX3 38 3 2 := ⟨RX3, TX3, 8, rfl, gwX3, by decide, lw_ix 48 (by decide +kernel) rfl⟩
set_option maxRecDepth 20000 in
theorem foX4_9 : FO RX4 9 4 0 := ⟨RX4, TX4, 6, rfl, gwX4, by decide, lw_ix 85 (by decide +kernel) rfl⟩
set_option maxRecDepth 20000 in
theorem foX4_15 : FO RX4 15 4 1 := ⟨RX4, TX4, 6, rfl, gwX4, by decide, lw_ix 87 (by decide +kernel) rfl⟩
set_option maxRecDepth 20000 in
theorem foX4_18 : FO RX4 18 4 2 := ⟨RX4, TX4, 6, rfl, gwX4, by decide, lw_ix 89 (by decide +kernel) rfl⟩
set_option maxRecDepth 20000 in
theorem foX4_21 : FO RX4 21 4 3 := ⟨RX4, TX4, 6, rfl, gwX4, by decide, lw_ix 91 (by decide +kernel) rfl⟩
set_option maxRecDepth 20000 in
theorem foX4_24 : FO RX4 24 4 4 := ⟨RX4, TX4, 6, rfl, gwX4, by decide, lw_ix 93 (by decide +kernel) rfl⟩
set_option maxRecDepth 20000 in
theorem foX4_27 : FO RX4 27 4 5 := ⟨RX4, TX4, 6, rfl, gwX4, by decide, lw_ix 95 (by decide +kernel) rfl⟩
set_option maxRecDepth 20000 in
theorem foX4_30 : FO RX4 30 3 0 := ⟨RX3, TX3, 8, rfl, gwX3, by decide, lw_ix 38 (by decide +kernel) rfl⟩
set_option maxRecDepth 20000 in
theorem foX4_44 : FO RX4 44 6 2 := ⟨RX6, TX6, 4, rfl, gwX6, by decide, lw_ix 140 (by decide +kernel) rfl⟩
set_option maxRecDepth 20000 in
theorem foX4_49 : FO RX4 49 3 2 := ⟨RX3, TX3, 8, rfl, gwX3, by decide, lw_ix 46 (by decide +kernel) rfl⟩
set_option maxRecDepth 20000 in
theorem foX4_52 : FO RX4 52 6 1 := ⟨RX6, TX6, 4, rfl, gwX6, by decide, lw_ix 136 (by decide +kernel) rfl⟩
set_option maxRecDepth 20000 in
theorem foX4_58 : FO RX4 58 3 6 := ⟨RX3, TX3, 8, rfl, gwX3, by decide, lw_ix 58 (by decide +kernel) rfl⟩
set_option maxRecDepth 20000 in
theorem foX4_61 : FO RX4 61 3 7 := ⟨RX3, TX3, 8, rfl, gwX3, by decide, lw_ix 60 (by decide +kernel) rfl⟩
set_option maxRecDepth 20000 in
theorem foX4_64 : FO RX4 64 3 1 := ⟨RX3, TX3, 8, rfl, gwX3, by decide, lw_ix 43 (by decide +kernel) rfl⟩
set_option maxRecDepth 20000 in
theorem foX4_67 : FO RX4 67 3 5 := ⟨RX3, TX3, 8, rfl, gwX3, by decide, lw_ix 55 (by decide +kernel) rfl⟩
set_option maxRecDepth 20000 in
theorem foX4_70 : FO RX4 70 3 4 := ⟨RX3, TX3, 8, rfl, gwX3, by decide, lw_ix 53 (by decide +kernel) rfl⟩
set_option maxRecDepth 20000 in
theorem foX5_9 : FO RX5 9 5 1 := ⟨RX5, TX5, 2, rfl, gwX5, by decide, lw_ix 223 (by decide +kernel) rfl⟩
set_option maxRecDepth 20000 in
theorem foX5_15 : FO RX5 15 5 0 := ⟨RX5, TX5, 2, rfl, gwX5, by decide, lw_ix 221 (by decide +kernel) rfl⟩
set_option maxRecDepth 20000 in
theorem foX5_19 : FO RX5 19 6 0 := ⟨RX6, TX6, 4, rfl, gwX6, by decide, lw_ix 132 (by decide +kernel) rfl⟩
set_option maxRecDepth 20000 in
theorem foX5_22 : FO RX5 22 6 2 := ⟨RX6, TX6, 4, rfl, gwX6, by decide, lw_ix 142 (by decide +kernel) rfl⟩
set_option maxRecDepth 20000 in
theorem foX6_9 : FO RX6 9 6 2 := ⟨RX6, TX6, 4, rfl, gwX6, by decide, lw_ix 139 (by decide +kernel) rfl⟩
set_option maxRecDepth 20000 in
theorem foX6_15 : FO RX6 15 6 3 := ⟨RX6, TX6, 4, rfl, gwX6, by decide, lw_ix 144 (by decide +kernel) rfl⟩
set_option maxRecDepth 20000 in
theorem foX6_18 : FO RX6 18 6 0 := ⟨RX6, TX6, 4, rfl, gwX6, by decide, lw_ix 131 (by decide +kernel) rfl⟩
set_option maxRecDepth 20000 in
theorem foX6_22 : FO RX6 22 6 1 := ⟨RX6, TX6, 4, rfl, gwX6, by decide, lw_ix 135 (by decide +kernel) rfl⟩
set_option maxRecDepth 20000 in
theorem foX7_9 : FO RX7 9 7 0 := ⟨RX7, TX7, 2, rfl, gwX7, by decide, lw_ix 173 (by decide +kernel) rfl⟩
set_option maxRecDepth 20000 in
theorem foX7_15 : FO RX7 15 7 1 := ⟨RX7, TX7, 2, rfl, gwX7, by decide, lw_ix 174 (by decide +kernel) rfl⟩
set_option maxRecDepth 20000 in
theorem foX7_24 : FO RX7 24 2 1 := ⟨RX2, TX2, 3, rfl, gwX2, by decide, lw_ix 158 (by decide +kernel) rfl⟩
set_option maxRecDepth 20000 in
theorem foX7_30 : FO RX7 30 3 3 := ⟨RX3, TX3, 8, rfl, gwX3, by decide, lw_ix 51 (by decide +kernel) rfl⟩
set_option maxRecDepth 20000 in
theorem foX8_10 : FO RX8 10 8 0 := ⟨RX8, TX8, 10, rfl, gwX8, by decide, lw_ix 231 (by decide +kernel) rfl⟩
set_option maxRecDepth 20000 in
theorem foX8_16 : FO RX8 16 8 1 := ⟨RX8, TX8, 10, rfl, gwX8, by decide, lw_ix 232 (by decide +kernel) rfl⟩
set_option maxRecDepth 20000 in
theorem foX8_19 : FO RX8 19 2 1 := ⟨RX2, TX2, 3, rfl, gwX2, by decide, lw_ix 157 (by decide +kernel) rfl⟩
set_option maxRecDepth 20000 in
theorem foX8_23 : FO RX8 23 8 2 := ⟨RX8, TX8, 10, rfl, gwX8, by decide, lw_ix 233 (by decide +kernel) rfl⟩
set_option maxRecDepth 20000 in
theorem foX8_28 : FO RX8 28 8 3 := ⟨RX8, TX8, 10, rfl, gwX8, by decide, lw_ix 234 (by decide +kernel) rfl⟩
set_option maxRecDepth 20000 in
theorem foX8_32 : FO RX8 32 8 4 := ⟨RX8, TX8, 10, rfl, gwX8, by decide, lw_ix 235 (by decide +kernel) rfl⟩
set_option maxRecDepth 20000 in
theorem foX8_39 : FO RX8 39 8 5 := ⟨RX8, TX8, 10, rfl, gwX8, by decide, lw_ix 236 (by decide +kernel) rfl⟩
set_option maxRecDepth 20000 in
theorem foX8_46 : FO RX8 46 8 6 := ⟨RX8, TX8, 10, rfl, gwX8, by decide, lw_ix 237 (by decide +kernel) rfl⟩
set_option maxRecDepth 20000 in
theorem foX8_53 : FO RX8 53 8 7 := ⟨RX8, TX8, 10, rfl, gwX8, by decide, lw_ix 238 (by decide +kernel) rfl⟩
set_option maxRecDepth 20000 in
theorem foX8_60 : FO RX8 60 8 8 := ⟨RX8, TX8, 10, rfl, gwX8, by decide, lw_ix 239 (by decide +kernel) rfl⟩
set_option maxRecDepth 20000 in
theorem foX8_64 : FO RX8 64 8 9 := ⟨RX8, TX8, 10, rfl, gwX8, by decide, lw_ix 240 (by decide +kernel) rfl⟩
set_option maxRecDepth 20000 in
theorem foX8_73 : FO RX8 73 3 0 := ⟨RX3, TX3, 8, rfl, gwX3, by decide, lw_ix 40 (by decide +kernel) rfl⟩
set_option maxRecDepth 20000 in
theorem foX8_96 : FO RX8 96 3 1 := ⟨RX3, TX3, 8, rfl, gwX3, by decide, lw_ix 44 (by decide +kernel) rfl⟩
set_option maxRecDepth 20000 in
theorem foX8_99 : FO RX8 99 3 2 := ⟨RX3, TX3, 8, rfl, gwX3, by decide, lw_ix 47 (by decide +kernel) rfl⟩
set_option maxRecDepth 20000 in
theorem foX8_109 : FO RX8 109 5 0 := ⟨RX5, TX5, 2, rfl, gwX5, by decide, lw_ix 222 (by decide +kernel) rfl⟩
set_option maxRecDepth 20000 in
theorem foX8_120 : FO RX8 120 6 1 := ⟨RX6, TX6, 4, rfl, gwX6, by decide, lw_ix 138 (by decide +kernel) rfl⟩
set_option maxRecDepth 20000 in
theorem foX8_123 : FO RX8 123 6 2 := ⟨RX6, TX6, 4, rfl, gwX6, by decide, lw_ix 143 (by decide +kernel) rfl⟩
set_option maxRecDepth 20000 in
theorem foX8_131 : FO RX8 131 4 5 := ⟨RX4, TX4, 6, rfl, gwX4, by decide, lw_ix 97 (by decide +kernel) rfl⟩
set_option maxRecDepth 20000 in
theorem foX8_134 : FO RX8 134 4 1 := ⟨RX4, TX4, 6, rfl, gwX4, by decide, lw_ix 88 (by decide +kernel) rfl⟩
set_option maxRecDepth 20000 in
theorem foX8_137 : FO RX8 137 4 3 := ⟨RX4, TX4, 6, rfl, gwX4, by decide, lw_ix 92 (by decide +kernel) rfl⟩
set_option maxRecDepth 20000 in
theorem foX8_140 : FO RX8 140 4 2 := ⟨RX4, TX4, 6, rfl, gwX4, by decide, lw_ix 90 (by decide +kernel) rfl⟩
set_option maxRecDepth 20000 in
theorem foX8_143 : FO RX8 143 4 0 := ⟨RX4, TX4, 6, rfl, gwX4, by decide, lw_ix 86 (by decide +kernel) rfl⟩
set_option maxRecDepth 20000 in
theorem foX8_146 : FO RX8 146 4 4 := ⟨RX4, TX4, 6, rfl, gwX4, by decide, lw_ix 94 (by decide +kernel) rfl⟩
set_option maxRecDepth 20000 in
theorem foX8_190 : FO RX8 190 1 0 := ⟨RX1, TX1, 7, rfl, gwX1, by decide, lw_ix 189 (by decide +kernel) rfl⟩
set_option maxRecDepth 20000 in
theorem foX8_192 : FO RX8 192 1 1 := ⟨RX1, TX1, 7, rfl, gwX1, by decide, lw_ix 191 (by decide +kernel) rfl⟩
set_option maxRecDepth 20000 in
theorem foX8_195 : FO RX8 195 1 2 := ⟨RX1, TX1, 7, rfl, gwX1, by decide, lw_ix 193 (by decide +kernel) rfl⟩
set_option maxRecDepth 20000 in
theorem foX8_234 : FO RX8 234 3 5 := ⟨RX3, TX3, 8, rfl, gwX3, by decide, lw_ix 56 (by decide +kernel) rfl⟩
set_option maxRecDepth 20000 in
theorem foX9_7 : FO RX9 7 9 0 := ⟨RX9, TX9, 21, rfl, gwX9, by decide, lw_ix 578 (by decide +kernel) rfl⟩
set_option maxRecDepth 20000 in
theorem foX9_13 : FO RX9 13 9 4 := ⟨RX9, TX9, 21, rfl, gwX9, by decide, lw_ix 582 (by decide +kernel) rfl⟩
set_option maxRecDepth 20000 in
theorem foX9_16 : FO RX9 16 9 5 := ⟨RX9, TX9, 21, rfl, gwX9, by decide, lw_ix 583 (by decide +kernel) rfl⟩
set_option maxRecDepth 20000 in
theorem foX9_19 : FO RX9 19 9 6 := ⟨RX9, TX9, 21, rfl, gwX9, by decide, lw_ix 584 (by decide +kernel) rfl⟩
set_option maxRecDepth 20000 in
theorem foX9_22 : FO RX9 22 9 8 := ⟨RX9, TX9, 21, rfl, gwX9, by decide, lw_ix 586 (by decide +kernel) rfl⟩
set_option maxRecDepth 20000 in
theorem foX9_25 : FO RX9 25 9 9 := ⟨RX9, TX9, 21, rfl, gwX9, by decide, lw_ix 587 (by decide +kernel) rfl⟩
set_option maxRecDepth 20000 in
theorem foX9_28 : FO RX9 28 9 10 := ⟨RX9, TX9, 21, rfl, gwX9, by decide, lw_ix 588 (by decide +kernel) rfl⟩
set_option maxRecDepth 20000 in
theorem foX9_31 : FO RX9 31 9 11 := ⟨RX9, TX9, 21, rfl, gwX9, by decide, lw_ix 589 (by decide +kernel) rfl⟩
set_option maxRecDepth 20000 in
theorem foX9_34 : FO RX9 34 9 12 := ⟨RX9, TX9, 21, rfl, gwX9, by decide, lw_ix 590 (by decide +kernel) rfl⟩
set_option maxRecDepth 20000 in
theorem foX9_37 : FO RX9 37 9 13 := ⟨RX9, TX9, 21, rfl, gwX9, by decide, lw_ix 591 (by decide +kernel) rfl⟩
set_option maxRecDepth 20000 in
theorem foX9_40 : FO RX9 40 9 14 := ⟨RX9, TX9, 21, rfl, gwX9, by decide, lw_ix 592 (by decide +kernel) rfl⟩
set_option maxRecDepth 20000 in
theorem foX9_43 : FO RX9 43 9 15 := ⟨RX9, TX9, 21, rfl, gwX9, by decide, lw_ix 593 (by decide +kernel) rfl⟩
set_option maxRecDepth 20000 in
theorem foX9_46 : FO RX9 46 9 16 := ⟨RX9, TX9, 21, rfl, gwX9, by decide, lw_ix 594 (by decide +kernel) rfl⟩
set_option maxRecDepth 20000 in
theorem foX9_49 : FO RX9 49 9 17 := ⟨RX9, TX9, 21, rfl, gwX9, by decide, lw_ix 595 (by decide +kernel) rfl⟩
set_option maxRecDepth 20000 in
theorem foX9_52 : FO RX9 52 9 18 := ⟨RX9, TX9, 21, rfl, gwX9, by decide, lw_ix 596 (by decide +kernel) rfl⟩
set_option maxRecDepth 20000 in
theorem foX9_55 : FO RX9 55 9 1 := ⟨RX9, TX9, 21, rfl, gwX9, by decide, lw_ix 579 (by decide +kernel) rfl⟩
set_option maxRecDepth 20000 in
theorem foX9_85 : FO RX9 85 9 2 := ⟨RX9, TX9, 21, rfl, gwX9, by decide, lw_ix 580 (by decide +kernel) rfl⟩
set_option maxRecDepth 20000 in
theorem foX9_88 : FO RX9 88 9 3 := ⟨RX9, TX9, 21, rfl, gwX9, by decide, lw_ix 581 (by decide +kernel) rfl⟩
set_option maxRecDepth 20000 in
theorem foX9_95 : FO RX9 95 9 7 := ⟨RX9, TX9, 21, rfl, gwX9, by decide, lw_ix 585 (by decide +kernel) rfl⟩
set_option maxRecDepth 20000 in
theorem foX9_158 : FO RX9 158 9 19 := ⟨RX9, TX9, 21, rfl, gwX9, by decide, lw_ix 597 (by decide +kernel) rfl⟩
set_option maxRecDepth 20000 in
theorem foX9_161 : FO RX9 161 9 20 := ⟨RX9, TX9, 21, rfl, gwX9, by decide, lw_ix 598 (by decide +kernel) rfl⟩
set_option maxRecDepth 20000 in
theorem fpX1_26 : FP RX1 26 1 3 := ⟨RX1, TX1, 7, tyX1, rfl, gwX1, by decide, lw_ix 194 (by decide +kernel) rfl, tyX1_ok, nmX1, rfl, by decide +kernel⟩
set_option maxRecDepth 20000 in
theorem fpX1_30 : FP RX1 30 1 2 := ⟨RX1, TX1, 7, tyX1, rfl, gwX1, by decide, lw_ix 192 (by decide +kernel) rfl, tyX1_ok, nmX1, rfl, by decide +kernel⟩
set_option maxRecDepth 20000 in
theorem fpX1_33 : FP RX1 33 1 1 := ⟨RX1, TX1, 7, tyX1, rfl, gwX1, by decide, lw_ix 190 (by decide +kernel) rfl, tyX1_ok, nmX1, rfl, by decide +kernel⟩
set_option maxRecDepth 20000 in
theorem fpX1_54 : FP RX1 54 1 4 := ⟨RX1, TX1, 7, tyX1, rfl, gwX1, by decide, lw_ix 195 (by decide +kernel) rfl, tyX1_ok, nmX1, rfl, by decide +kernel⟩
set_option maxRecDepth 20000 in
theorem fpX1_66 : FP RX1 66 1 5 := ⟨RX1, TX1, 7, tyX1, rfl, gwX1, by decide, lw_ix 196 (by decide +kernel) rfl, tyX1_ok, nmX1, rfl, by decide +kernel⟩
set_option maxRecDepth 20000 in
theorem fpX3_9 : FP RX3 9 3 3 := ⟨RX3, TX3, 8, tyX3, rfl, gwX3, by decide, lw_ix 49 (by decide +kernel) rfl, tyX3_ok, nmX3, rfl, by decide +kernel⟩
set_option maxRecDepth 20000 in
theorem fpX3_28 : FP RX3 28 3 0 := ⟨RX3, TX3, 8, tyX3, rfl, gwX3, by decide, lw_ix 42 (by decide +kernel) rfl, tyX3_ok, nmX3, rfl, by decide +kernel⟩
set_option maxRecDepth 20000 in
theorem fpX3_35 : FP RX3 35 3 1 := ⟨RX3, TX3, 8, tyX3, rfl, gwX3, by decide, lw_ix 45 (by decide +kernel) rfl, tyX3_ok, nmX3, rfl, by decide +kernel⟩
set_option maxRecDepth 20000 in
theorem fpX3_38 : FP RX3 38 3 2 := ⟨RX3, TX3, 8, tyX3, rfl, gwX3, by decide, lw_ix 48 (by decide +kernel) rfl, tyX3_ok, nmX3, rfl, by decide +kernel⟩
set_option maxRecDepth 20000 in
theorem fpX5_15 : FP RX5 15 5 0 := ⟨RX5, TX5, 2, tyX5, rfl, gwX5, by decide, lw_ix 221 (by decide +kernel) rfl, tyX5_ok, nmX5, rfl, by decide +kernel⟩
set_option maxRecDepth 20000 in
theorem fpX6_18 : FP RX6 18 6 0 := ⟨RX6, TX6, 4, tyX6, rfl, gwX6, by decide, lw_ix 131 (by decide +kernel) rfl, tyX6_ok, nmX6, rfl, by decide +kernel⟩
set_option maxRecDepth 20000 in
theorem fpX6_22 : FP RX6 22 6 1 := ⟨RX6, TX6, 4, tyX6, rfl, gwX6, by decide, lw_ix 135 (by decide +kernel) rfl, tyX6_ok, nmX6, rfl, by decide +kernel⟩
set_option maxRecDepth 20000 in
theorem fpX8_109 : FP RX8 109 5 0 := ⟨RX5, TX5, 2, tyX5, rfl, gwX5, by decide, lw_ix 222 (by decide +kernel) rfl, tyX5_ok, nmX5, rfl, by decide +kernel⟩
set_option maxRecDepth 20000 in
theorem fpX9_55 : FP RX9 55 9 1 := ⟨RX9, TX9, 21, tyX9, rfl, gwX9, by decide, lw_ix 579 (by decide +kernel) rfl, tyX9_ok, nmX9, rfl, by decide +kernel⟩
set_option maxRecDepth 20000 in
theorem fpX9_85 : FP RX9 85 9 2 := ⟨RX9, TX9, 21, tyX9, rfl, gwX9, by decide, lw_ix 580 (by decide +kernel) rfl, tyX9_ok, nmX9, rfl, by decide +kernel⟩
set_option maxRecDepth 20000 in
theorem fpX9_88 : FP RX9 88 9 3 := ⟨RX9, TX9, 21, tyX9, rfl, gwX9, by decide, lw_ix 581 (by decide +kernel) rfl, tyX9_ok, nmX9, rfl, by decide +kernel⟩
set_option maxRecDepth 20000 in
theorem fpX9_95 : FP RX9 95 9 7 := ⟨RX9, TX9, 21, tyX9, rfl, gwX9, by decide, lw_ix 585 (by decide +kernel) rfl, tyX9_ok, nmX9, rfl, by decide +kernel⟩
set_option maxRecDepth 20000 in
theorem fpX9_158 : FP RX9 158 9 19 := ⟨RX9, TX9, 21, tyX9, rfl, gwX9, by decide, lw_ix 597 (by decide +kernel) rfl, tyX9_ok, nmX9, rfl, by decide +kernel⟩
set_option maxRecDepth 20000 in
theorem fpX9_161 : FP RX9 161 9 20 := ⟨RX9, TX9, 21, tyX9, rfl, gwX9, by decide, lw_ix 598 (by decide +kernel) rfl, tyX9_ok, nmX9, rfl, by decide +kernel⟩
