theorem xT (i : Nat) {w : Cond} (h : tables_1[i]? = some w) (hg : goodWord w = true) : w ∈ xTs := List.mem_filter.mpr ⟨List.mem_append_right _ (List.mem_of_getElem? h), hg⟩
theorem xTn (i : Nat) {w : Cond} (h : tables_1[i]? = some w) (hg : xNb w = true) : w ∈ xNs := List.mem_filter.mpr ⟨List.mem_append_right _ (List.mem_of_getElem? h), hg⟩
theorem xTp (i : Nat) {y : MethodName} {n : Nat} (h : lw_privs[i]? = some (y, n)) : Cond.selects y.cls y y ∈ xTs := List.mem_filter.mpr ⟨List.mem_append_left _ (List.mem_map.mpr ⟨(y, n), List.mem_of_getElem? h, rfl⟩), rfl⟩
theorem xTl (ws : List Cond) (ps : List Nat) (h : ws = ps.filterMap (fun i => tables_1[i]?)) (hg : ws.all goodWord = true) : ∀ w ∈ ws, w ∈ xTs := by
  intro w hw
  have h1 := List.all_eq_true.mp hg w hw
  rw [h] at hw
  obtain ⟨i, -, hi⟩ := List.mem_filterMap.mp hw
  exact xT i hi h1
/-! methods: name, code, locals, answer, depth -/
abbrev mX0_gather : xM := (yX0_gather, cX0_gather, 4, none, 2)
abbrev mX0_take : xM := (yX0_take, cX0_take, 4, none, 0)
abbrev mX0_sort : xM := (yX0_sort, cX0_sort, 5, none, 2)
abbrev mX0_wrap : xM := (yX0_wrap, cX0_wrap, 4, none, 4)
abbrev mX0_append : xM := (yX0_append, cX0_append, 4, none, 3)
abbrev mX1_copy : xM := (yX1_copy, cX1_copy, 2, none, 1)
abbrev mX2_has : xM := (yX2_has, cX2_has, 2, some .boolean, 0)
abbrev mX2_make : xM := (yX2_make, cX2_make, 5, some .int, 3)
abbrev mX2_put : xM := (yX2_put, cX2_put, 6, none, 2)
abbrev mX2_putOne : xM := (yX2_putOne, cX2_putOne, 13, none, 1)
abbrev mX2_limbOf : xM := (yX2_limbOf, cX2_limbOf, 3, some .long, 0)
abbrev mX2_sameAsLoose : xM := (yX2_sameAsLoose, cX2_sameAsLoose, 2, some .int, 0)
abbrev mX2_x : xM := (yX2_x, cX2_x, 2, some .double, 0)
abbrev mX2_y : xM := (yX2_y, cX2_y, 2, some .double, 0)
abbrev mX2_isAhead : xM := (yX2_isAhead, cX2_isAhead, 3, some .boolean, 1)
abbrev mX2_isSure : xM := (yX2_isSure, cX2_isSure, 8, some .boolean, 1)
abbrev mX2_isSureOf : xM := (yX2_isSureOf, cX2_isSureOf, 8, some .boolean, 0)
abbrev mX2_turn : xM := (yX2_turn, cX2_turn, 8, some .int, 2)
abbrev mX2_exactTurn : xM := (yX2_exactTurn, cX2_exactTurn, 17, some .int, 1)
abbrev mX2_meeting : xM := (yX2_meeting, cX2_meeting, 9, some .int, 3)
abbrev mX2_spansMeet : xM := (yX2_spansMeet, cX2_spansMeet, 16, some .boolean, 0)
abbrev mX2_meetingInLine : xM := (yX2_meetingInLine, cX2_meetingInLine, 11, some .int, 2)
abbrev mX2_isOn : xM := (yX2_isOn, cX2_isOn, 4, some .boolean, 3)
abbrev mX2_nearestToLoose : xM := (yX2_nearestToLoose, cX2_nearestToLoose, 12, some .int, 2)
abbrev mX2_isNearer : xM := (yX2_isNearer, cX2_isNearer, 13, some .boolean, 1)
abbrev mX2_measure : xM := (yX2_measure, cX2_measure, 8, none, 1)
abbrev mX3_has : xM := (yX3_has, cX3_has, 2, some .boolean, 0)
abbrev mX3_isOf : xM := (yX3_isOf, cX3_isOf, 3, some .boolean, 1)
abbrev mX3_hasRoom : xM := (yX3_hasRoom, cX3_hasRoom, 1, some .boolean, 0)
abbrev mX3_thereNow : xM := (yX3_thereNow, cX3_thereNow, 3, some .int, 0)
abbrev mX3_thereIn : xM := (yX3_thereIn, cX3_thereIn, 4, some .int, 2)
abbrev mX3_make : xM := (yX3_make, cX3_make, 5, none, 1)
abbrev mX3_keep : xM := (yX3_keep, cX3_keep, 3, none, 2)
abbrev mX3_restore : xM := (yX3_restore, cX3_restore, 1, none, 2)
abbrev mX3_isEntry : xM := (yX3_isEntry, cX3_isEntry, 1, some .boolean, 0)
abbrev mX4_empty : xM := (yX4_empty, cX4_empty, 1, none, 0)
abbrev mX4_push : xM := (yX4_push, cX4_push, 2, none, 0)
abbrev mX4_copy : xM := (yX4_copy, cX4_copy, 3, none, 0)
abbrev mX4_pushRun : xM := (yX4_pushRun, cX4_pushRun, 5, none, 1)
abbrev mX4_around : xM := (yX4_around, cX4_around, 3, some .int, 0)
abbrev mX4_isShared : xM := (yX4_isShared, cX4_isShared, 4, some .boolean, 1)
abbrev mX4_sharedWith : xM := (yX4_sharedWith, cX4_sharedWith, 4, some .int, 2)
abbrev mX4_startOfShared : xM := (yX4_startOfShared, cX4_startOfShared, 4, some .int, 2)
abbrev mX5_faultOf : xM := (yX5_faultOf, cX5_faultOf, 2, some .int, 5)
abbrev mX5_findsTwins : xM := (yX5_findsTwins, cX5_findsTwins, 4, some .boolean, 0)
abbrev mX5_findsCrossing : xM := (yX5_findsCrossing, cX5_findsCrossing, 6, some .boolean, 4)
abbrev mX5_common : xM := (yX5_common, cX5_common, 5, some .int, 4)
abbrev mX5_settle : xM := (yX5_settle, cX5_settle, 7, none, 3)
abbrev mX5_placeOf : xM := (yX5_placeOf, cX5_placeOf, 9, some .int, 4)
abbrev mX5_opensTo : xM := (yX5_opensTo, cX5_opensTo, 9, some .boolean, 3)
abbrev mX5_startsInto : xM := (yX5_startsInto, cX5_startsInto, 7, some .boolean, 4)
abbrev mX5_cutsInto : xM := (yX5_cutsInto, cX5_cutsInto, 6, some .boolean, 4)
abbrev mX5_goesThrough : xM := (yX5_goesThrough, cX5_goesThrough, 4, some .boolean, 5)
abbrev mX5_reachesInto : xM := (yX5_reachesInto, cX5_reachesInto, 6, some .boolean, 5)
abbrev mX5_haveLikeLand : xM := (yX5_haveLikeLand, cX5_haveLikeLand, 3, some .boolean, 5)
abbrev mX5_stretches : xM := (yX5_stretches, cX5_stretches, 6, some .int, 5)
abbrev mX5_framesMeet : xM := (yX5_framesMeet, cX5_framesMeet, 4, some .boolean, 1)
abbrev mX5_farthest : xM := (yX5_farthest, cX5_farthest, 9, some .double, 0)
abbrev mX5_isCut : xM := (yX5_isCut, cX5_isCut, 9, some .boolean, 4)
abbrev mX6_weigh : xM := (yX6_weigh, cX6_weigh, 5, none, 2)
abbrev mX6_shareOf : xM := (yX6_shareOf, cX6_shareOf, 10, some .int, 2)
abbrev mX6_cutShare : xM := (yX6_cutShare, cX6_cutShare, 5, some .int, 1)
abbrev mX7_clear : xM := (yX7_clear, cX7_clear, 2, none, 0)
abbrev mX7_copy : xM := (yX7_copy, cX7_copy, 3, none, 0)
abbrev mX7_plus : xM := (yX7_plus, cX7_plus, 5, none, 0)
abbrev mX7_carry : xM := (yX7_carry, cX7_carry, 4, none, 0)
abbrev mX7_sign : xM := (yX7_sign, cX7_sign, 7, some .int, 0)
abbrev mX7_against : xM := (yX7_against, cX7_against, 3, some .int, 0)
abbrev mX7_wholePart : xM := (yX7_wholePart, cX7_wholePart, 1, some .long, 0)
abbrev mX8_corner : xM := (yX8_corner, cX8_corner, 6, some .int, 4)
abbrev mX8_at : xM := (yX8_at, cX8_at, 3, some .long, 1)
abbrev mX8_side : xM := (yX8_side, cX8_side, 4, some .int, 3)
abbrev mX8_sure : xM := (yX8_sure, cX8_sure, 1, some .int, 0)
abbrev mX8_cross : xM := (yX8_cross, cX8_cross, 5, some .int, 4)
abbrev mX8_nearest : xM := (yX8_nearest, cX8_nearest, 5, some .int, 3)
abbrev mX8_draw : xM := (yX8_draw, cX8_draw, 2, some .int, 1)
abbrev mX8_add : xM := (yX8_add, cX8_add, 2, some .int, 1)
abbrev mX8_close : xM := (yX8_close, cX8_close, 5, some .int, 7)
abbrev mX8_where : xM := (yX8_where, cX8_where, 1, some .int, 0)
abbrev mX8_told : xM := (yX8_told, cX8_told, 4, some .int, 1)
abbrev mX8_give : xM := (yX8_give, cX8_give, 4, some .int, 3)
abbrev mX8_drop : xM := (yX8_drop, cX8_drop, 2, some .int, 3)
abbrev mX8_split : xM := (yX8_split, cX8_split, 7, some .int, 5)
abbrev mX8_join : xM := (yX8_join, cX8_join, 9, some .int, 6)
abbrev mX8_move : xM := (yX8_move, cX8_move, 7, some .int, 7)
abbrev mX8_border : xM := (yX8_border, cX8_border, 3, some .int, 6)
abbrev mX8_neighbour : xM := (yX8_neighbour, cX8_neighbour, 6, some .int, 6)
abbrev mX8_locate : xM := (yX8_locate, cX8_locate, 8, some .int, 5)
abbrev mX8_edge : xM := (yX8_edge, cX8_edge, 1, some .int, 0)
abbrev mX8_walk : xM := (yX8_walk, cX8_walk, 7, some .int, 6)
abbrev mX8_hull : xM := (yX8_hull, cX8_hull, 2, some .int, 5)
abbrev mX8_hullAt : xM := (yX8_hullAt, cX8_hullAt, 2, some .int, 0)
abbrev mX8_twice : xM := (yX8_twice, cX8_twice, 2, some .long, 2)
abbrev mX8_compare : xM := (yX8_compare, cX8_compare, 3, some .int, 2)
abbrev mX8_quota : xM := (yX8_quota, cX8_quota, 4, some .int, 3)
abbrev mX8_undo : xM := (yX8_undo, cX8_undo, 1, some .int, 3)
abbrev mX8_count : xM := (yX8_count, cX8_count, 2, some .int, 3)
abbrev mX8_digest : xM := (yX8_digest, cX8_digest, 6, some .long, 1)
abbrev mX8_isNumber : xM := (yX8_isNumber, cX8_isNumber, 4, some .boolean, 0)
abbrev mX8_isLayer : xM := (yX8_isLayer, cX8_isLayer, 1, some .boolean, 0)
abbrev mX8_faultIn : xM := (yX8_faultIn, cX8_faultIn, 7, some .int, 6)
abbrev mX9_in : xM := (yX9_in, cX9_in, 3, some .boolean, 0)
abbrev mX9_carry : xM := (yX9_carry, cX9_carry, 6, none, 0)
abbrev mX9_signOf : xM := (yX9_signOf, cX9_signOf, 4, some .int, 0)
abbrev mX9_isNumber : xM := (yX9_isNumber, cX9_isNumber, 4, some .boolean, 0)
abbrev mX9_plain : xM := (yX9_plain, cX9_plain, 2, some .long, 0)
abbrev mX9_whole : xM := (yX9_whole, cX9_whole, 12, none, 1)
abbrev mX9_lay : xM := (yX9_lay, cX9_lay, 6, none, 2)
abbrev mX9_middle : xM := (yX9_middle, cX9_middle, 4, none, 1)
abbrev mX9_halve : xM := (yX9_halve, cX9_halve, 5, none, 0)
abbrev mX9_times : xM := (yX9_times, cX9_times, 13, none, 1)
abbrev mX9_clear : xM := (yX9_clear, cX9_clear, 4, none, 0)
abbrev mX9_turn : xM := (yX9_turn, cX9_turn, 4, some .int, 2)
abbrev mX9_order : xM := (yX9_order, cX9_order, 8, some .int, 0)
abbrev mX9_ahead : xM := (yX9_ahead, cX9_ahead, 4, some .int, 1)
abbrev mX9_isBetween : xM := (yX9_isBetween, cX9_isBetween, 6, some .boolean, 2)
abbrev mX9_isOn : xM := (yX9_isOn, cX9_isOn, 4, some .boolean, 3)
abbrev mX9_isCorner : xM := (yX9_isCorner, cX9_isCorner, 2, some .boolean, 1)
abbrev mX9_corner : xM := (yX9_corner, cX9_corner, 6, some .int, 3)
abbrev mX9_at : xM := (yX9_at, cX9_at, 3, some .long, 2)
abbrev mX9_size : xM := (yX9_size, cX9_size, 2, some .double, 0)
abbrev mX9_side : xM := (yX9_side, cX9_side, 12, some .int, 3)
abbrev mX9_sure : xM := (yX9_sure, cX9_sure, 1, some .int, 0)
abbrev mX9_common : xM := (yX9_common, cX9_common, 14, some .int, 3)
abbrev mX9_cross : xM := (yX9_cross, cX9_cross, 5, some .int, 4)
abbrev mX9_nearest : xM := (yX9_nearest, cX9_nearest, 8, some .int, 3)
abbrev mX9_less : xM := (yX9_less, cX9_less, 5, some .boolean, 0)
abbrev mX9_draw : xM := (yX9_draw, cX9_draw, 2, some .int, 0)
abbrev mX9_add : xM := (yX9_add, cX9_add, 2, some .int, 2)
abbrev mX9_fault : xM := (yX9_fault, cX9_fault, 3, some .int, 0)
abbrev mX9_faultOf : xM := (yX9_faultOf, cX9_faultOf, 4, some .int, 4)
abbrev mX9_turnLeft : xM := (yX9_turnLeft, cX9_turnLeft, 4, none, 2)
abbrev mX9_isParcel : xM := (yX9_isParcel, cX9_isParcel, 2, some .boolean, 1)
abbrev mX9_keep : xM := (yX9_keep, cX9_keep, 2, none, 0)
abbrev mX9_store : xM := (yX9_store, cX9_store, 3, none, 0)
abbrev mX9_load : xM := (yX9_load, cX9_load, 3, none, 0)
abbrev mX9_of : xM := (yX9_of, cX9_of, 3, some .int, 0)
abbrev mX9_made : xM := (yX9_made, cX9_made, 4, some .int, 1)
abbrev mX9_lies : xM := (yX9_lies, cX9_lies, 11, some .int, 3)
abbrev mX9_passes : xM := (yX9_passes, cX9_passes, 10, none, 4)
abbrev mX9_lieOver : xM := (yX9_lieOver, cX9_lieOver, 5, some .boolean, 5)
abbrev mX9_overOf : xM := (yX9_overOf, cX9_overOf, 5, some .int, 6)
abbrev mX9_close : xM := (yX9_close, cX9_close, 5, some .int, 7)
abbrev mX9_where : xM := (yX9_where, cX9_where, 1, some .int, 0)
abbrev mX9_told : xM := (yX9_told, cX9_told, 3, some .int, 2)
abbrev mX9_give : xM := (yX9_give, cX9_give, 4, some .int, 2)
abbrev mX9_there : xM := (yX9_there, cX9_there, 4, some .int, 0)
abbrev mX9_drop : xM := (yX9_drop, cX9_drop, 2, some .int, 2)
abbrev mX9_isInside : xM := (yX9_isInside, cX9_isInside, 10, some .boolean, 4)
abbrev mX9_split : xM := (yX9_split, cX9_split, 8, some .int, 5)
abbrev mX9_reverse : xM := (yX9_reverse, cX9_reverse, 6, some .int, 1)
abbrev mX9_join : xM := (yX9_join, cX9_join, 9, some .int, 5)
abbrev mX9_move : xM := (yX9_move, cX9_move, 8, some .int, 7)
abbrev mX9_borders : xM := (yX9_borders, cX9_borders, 6, some .int, 4)
abbrev mX9_border : xM := (yX9_border, cX9_border, 3, some .int, 5)
abbrev mX9_neighbour : xM := (yX9_neighbour, cX9_neighbour, 5, some .int, 5)
abbrev mX9_locate : xM := (yX9_locate, cX9_locate, 7, some .int, 4)
abbrev mX9_edge : xM := (yX9_edge, cX9_edge, 1, some .int, 0)
abbrev mX9_walk : xM := (yX9_walk, cX9_walk, 7, some .int, 5)
abbrev mX9_hull : xM := (yX9_hull, cX9_hull, 5, some .int, 4)
abbrev mX9_comes : xM := (yX9_comes, cX9_comes, 3, none, 3)
abbrev mX9_hullAt : xM := (yX9_hullAt, cX9_hullAt, 2, some .int, 1)
abbrev mX9_weigh : xM := (yX9_weigh, cX9_weigh, 3, none, 2)
abbrev mX9_twice : xM := (yX9_twice, cX9_twice, 5, some .long, 3)
abbrev mX9_compare : xM := (yX9_compare, cX9_compare, 3, some .int, 3)
abbrev mX9_quota : xM := (yX9_quota, cX9_quota, 9, some .int, 3)
abbrev mX9_shareOf : xM := (yX9_shareOf, cX9_shareOf, 6, some .int, 1)
abbrev mX9_undo : xM := (yX9_undo, cX9_undo, 2, some .int, 0)
abbrev mX9_count : xM := (yX9_count, cX9_count, 2, some .int, 1)
abbrev mX9_digest : xM := (yX9_digest, cX9_digest, 5, some .long, 0)
theorem iX0 : ∀ w ∈ u_ws RX0 TX0 5, w ∈ xTs := xTl _ [195, 197, 199, 201, 203] (by decide +kernel) (by decide +kernel)
theorem iX1 : ∀ w ∈ u_ws RX1 TX1 4, w ∈ xTs := xTl _ [120, 122, 124, 126] (by decide +kernel) (by decide +kernel)
theorem iX2 : ∀ w ∈ u_ws RX2 TX2 5, w ∈ xTs := xTl _ [47, 49, 51, 53, 55] (by decide +kernel) (by decide +kernel)
theorem iX3 : ∀ w ∈ u_ws RX3 TX3 7, w ∈ xTs := xTl _ [143, 145, 147, 149, 151, 153, 155] (by decide +kernel) (by decide +kernel)
theorem iX4 : ∀ w ∈ u_ws RX4 TX4 2, w ∈ xTs := xTl _ [100, 102] (by decide +kernel) (by decide +kernel)
theorem iX5 : ∀ w ∈ u_ws RX5 TX5 2, w ∈ xTs := xTl _ [67, 69] (by decide +kernel) (by decide +kernel)
theorem iX6 : ∀ w ∈ u_ws RX6 TX6 4, w ∈ xTs := xTl _ [173, 175, 177, 179] (by decide +kernel) (by decide +kernel)
theorem iX7 : ∀ w ∈ u_ws RX7 TX7 1, w ∈ xTs := xTl _ [34] (by decide +kernel) (by decide +kernel)
theorem iX8 : ∀ w ∈ u_ws RX8 TX8 11, w ∈ xTs := xTl _ [220, 222, 224, 226, 228, 230, 232, 234, 236, 238, 240] (by decide +kernel) (by decide +kernel)
theorem iX9 : ∀ w ∈ u_ws RX9 TX9 43, w ∈ xTs := xTl _ [732, 734, 736, 738, 740, 742, 744, 746, 748, 750, 752, 754, 756, 758, 760, 762, 764, 766, 768, 770, 772, 774, 776, 778, 780, 782, 784, 786, 788, 790, 792, 794, 796, 798, 800, 802, 804, 806, 808, 810, 812, 814, 816] (by decide +kernel) (by decide +kernel)
theorem wX0_3 : xFldW 0 3 .int := ⟨RX0, TX0, 5, tyX0, rfl, tyX0_ok, nmX0, rfl, by decide +kernel⟩
theorem wX0_4 : xFldW 0 4 .int := ⟨RX0, TX0, 5, tyX0, rfl, tyX0_ok, nmX0, rfl, by decide +kernel⟩
theorem wX1_1 : xFldW 1 1 .boolean := ⟨RX1, TX1, 4, tyX1, rfl, tyX1_ok, nmX1, rfl, by decide +kernel⟩
theorem wX1_2 : xFldW 1 2 .int := ⟨RX1, TX1, 4, tyX1, rfl, tyX1_ok, nmX1, rfl, by decide +kernel⟩
theorem wX1_3 : xFldW 1 3 .int := ⟨RX1, TX1, 4, tyX1, rfl, tyX1_ok, nmX1, rfl, by decide +kernel⟩
theorem wX2_4 : xFldW 2 4 .int := ⟨RX2, TX2, 5, tyX2, rfl, tyX2_ok, nmX2, rfl, by decide +kernel⟩
theorem wX3_3 : xFldW 3 3 .int := ⟨RX3, TX3, 7, tyX3, rfl, tyX3_ok, nmX3, rfl, by decide +kernel⟩
theorem wX3_4 : xFldW 3 4 .int := ⟨RX3, TX3, 7, tyX3, rfl, tyX3_ok, nmX3, rfl, by decide +kernel⟩
theorem wX3_5 : xFldW 3 5 .boolean := ⟨RX3, TX3, 7, tyX3, rfl, tyX3_ok, nmX3, rfl, by decide +kernel⟩
theorem wX3_6 : xFldW 3 6 .int := ⟨RX3, TX3, 7, tyX3, rfl, tyX3_ok, nmX3, rfl, by decide +kernel⟩
theorem wX4_1 : xFldW 4 1 .int := ⟨RX4, TX4, 2, tyX4, rfl, tyX4_ok, nmX4, rfl, by decide +kernel⟩
theorem wX5_1 : xFldW 5 1 .int := ⟨RX5, TX5, 2, tyX5, rfl, tyX5_ok, nmX5, rfl, by decide +kernel⟩
theorem wX8_8 : xFldW 8 8 .int := ⟨RX8, TX8, 11, tyX8, rfl, tyX8_ok, nmX8, rfl, by decide +kernel⟩
theorem wX8_9 : xFldW 8 9 .int := ⟨RX8, TX8, 11, tyX8, rfl, tyX8_ok, nmX8, rfl, by decide +kernel⟩
theorem wX8_10 : xFldW 8 10 .int := ⟨RX8, TX8, 11, tyX8, rfl, tyX8_ok, nmX8, rfl, by decide +kernel⟩
theorem wX9_4 : xFldW 9 4 .int := ⟨RX9, TX9, 43, tyX9, rfl, tyX9_ok, nmX9, rfl, by decide +kernel⟩
theorem wX9_8 : xFldW 9 8 .int := ⟨RX9, TX9, 43, tyX9, rfl, tyX9_ok, nmX9, rfl, by decide +kernel⟩
theorem wX9_11 : xFldW 9 11 .int := ⟨RX9, TX9, 43, tyX9, rfl, tyX9_ok, nmX9, rfl, by decide +kernel⟩
theorem wX9_12 : xFldW 9 12 .int := ⟨RX9, TX9, 43, tyX9, rfl, tyX9_ok, nmX9, rfl, by decide +kernel⟩
theorem wX9_14 : xFldW 9 14 .int := ⟨RX9, TX9, 43, tyX9, rfl, tyX9_ok, nmX9, rfl, by decide +kernel⟩
theorem wX9_16 : xFldW 9 16 .int := ⟨RX9, TX9, 43, tyX9, rfl, tyX9_ok, nmX9, rfl, by decide +kernel⟩
theorem wX9_22 : xFldW 9 22 .boolean := ⟨RX9, TX9, 43, tyX9, rfl, tyX9_ok, nmX9, rfl, by decide +kernel⟩
theorem wX9_23 : xFldW 9 23 .int := ⟨RX9, TX9, 43, tyX9, rfl, tyX9_ok, nmX9, rfl, by decide +kernel⟩
theorem wX9_29 : xFldW 9 29 .boolean := ⟨RX9, TX9, 43, tyX9, rfl, tyX9_ok, nmX9, rfl, by decide +kernel⟩
theorem wX9_30 : xFldW 9 30 .boolean := ⟨RX9, TX9, 43, tyX9, rfl, tyX9_ok, nmX9, rfl, by decide +kernel⟩
theorem wX9_32 : xFldW 9 32 .int := ⟨RX9, TX9, 43, tyX9, rfl, tyX9_ok, nmX9, rfl, by decide +kernel⟩
theorem wX9_34 : xFldW 9 34 .int := ⟨RX9, TX9, 43, tyX9, rfl, tyX9_ok, nmX9, rfl, by decide +kernel⟩
theorem wX9_35 : xFldW 9 35 .int := ⟨RX9, TX9, 43, tyX9, rfl, tyX9_ok, nmX9, rfl, by decide +kernel⟩
theorem fX7_9 : xFld RX7 9 7 0 := ⟨RX7, TX7, 1, rfl, by decide, iX7, rfl, Or.inl (xT 32 (by decide +kernel) rfl)⟩
theorem fX2_9 : xFld RX2 9 2 0 := ⟨RX2, TX2, 5, rfl, by decide, iX2, rfl, Or.inl (xT 39 (by decide +kernel) rfl)⟩
theorem fX2_15 : xFld RX2 15 2 1 := ⟨RX2, TX2, 5, rfl, by decide, iX2, rfl, Or.inl (xT 41 (by decide +kernel) rfl)⟩
theorem fX2_19 : xFld RX2 19 2 2 := ⟨RX2, TX2, 5, rfl, by decide, iX2, rfl, Or.inl (xT 43 (by decide +kernel) rfl)⟩
theorem fX2_25 : xFld RX2 25 2 3 := ⟨RX2, TX2, 5, rfl, by decide, iX2, rfl, Or.inl (xT 44 (by decide +kernel) rfl)⟩
theorem fX2_29 : xFld RX2 29 2 4 := ⟨RX2, TX2, 5, rfl, by decide, iX2, rfl, Or.inl (xT 45 (by decide +kernel) rfl)⟩
theorem fX5_15 : xFld RX5 15 5 0 := ⟨RX5, TX5, 2, rfl, by decide, iX5, rfl, Or.inl (xT 64 (by decide +kernel) rfl)⟩
theorem fX5_9 : xFld RX5 9 5 1 := ⟨RX5, TX5, 2, rfl, by decide, iX5, rfl, Or.inl (xT 65 (by decide +kernel) rfl)⟩
theorem fX4_9 : xFld RX4 9 4 0 := ⟨RX4, TX4, 2, rfl, by decide, iX4, rfl, Or.inl (xT 91 (by decide +kernel) rfl)⟩
theorem fX4_15 : xFld RX4 15 4 1 := ⟨RX4, TX4, 2, rfl, by decide, iX4, rfl, Or.inl (xT 95 (by decide +kernel) rfl)⟩
theorem fX1_10 : xFld RX1 10 1 0 := ⟨RX1, TX1, 4, rfl, by decide, iX1, rfl, Or.inl (xT 106 (by decide +kernel) rfl)⟩
theorem fX1_16 : xFld RX1 16 1 1 := ⟨RX1, TX1, 4, rfl, by decide, iX1, rfl, Or.inl (xT 111 (by decide +kernel) rfl)⟩
theorem fX1_20 : xFld RX1 20 1 2 := ⟨RX1, TX1, 4, rfl, by decide, iX1, rfl, Or.inl (xT 114 (by decide +kernel) rfl)⟩
theorem fX1_24 : xFld RX1 24 1 3 := ⟨RX1, TX1, 4, rfl, by decide, iX1, rfl, Or.inl (xT 117 (by decide +kernel) rfl)⟩
theorem fX3_11 : xFld RX3 11 3 0 := ⟨RX3, TX3, 7, rfl, by decide, iX3, rfl, Or.inl (xT 129 (by decide +kernel) rfl)⟩
theorem fX3_18 : xFld RX3 18 3 1 := ⟨RX3, TX3, 7, rfl, by decide, iX3, rfl, Or.inl (xT 133 (by decide +kernel) rfl)⟩
theorem fX3_22 : xFld RX3 22 3 2 := ⟨RX3, TX3, 7, rfl, by decide, iX3, rfl, Or.inl (xT 134 (by decide +kernel) rfl)⟩
theorem fX3_25 : xFld RX3 25 3 3 := ⟨RX3, TX3, 7, rfl, by decide, iX3, rfl, Or.inl (xT 135 (by decide +kernel) rfl)⟩
theorem fX3_29 : xFld RX3 29 3 4 := ⟨RX3, TX3, 7, rfl, by decide, iX3, rfl, Or.inl (xT 136 (by decide +kernel) rfl)⟩
theorem fX3_32 : xFld RX3 32 3 5 := ⟨RX3, TX3, 7, rfl, by decide, iX3, rfl, Or.inl (xT 137 (by decide +kernel) rfl)⟩
theorem fX3_36 : xFld RX3 36 3 6 := ⟨RX3, TX3, 7, rfl, by decide, iX3, rfl, Or.inl (xT 139 (by decide +kernel) rfl)⟩
theorem fX6_11 : xFld RX6 11 6 0 := ⟨RX6, TX6, 4, rfl, by decide, iX6, rfl, Or.inl (xT 167 (by decide +kernel) rfl)⟩
theorem fX6_18 : xFld RX6 18 6 1 := ⟨RX6, TX6, 4, rfl, by decide, iX6, rfl, Or.inl (xT 168 (by decide +kernel) rfl)⟩
theorem fX6_22 : xFld RX6 22 6 2 := ⟨RX6, TX6, 4, rfl, by decide, iX6, rfl, Or.inl (xT 169 (by decide +kernel) rfl)⟩
theorem fX6_25 : xFld RX6 25 6 3 := ⟨RX6, TX6, 4, rfl, by decide, iX6, rfl, Or.inl (xT 171 (by decide +kernel) rfl)⟩
theorem fX0_9 : xFld RX0 9 0 0 := ⟨RX0, TX0, 5, rfl, by decide, iX0, rfl, Or.inl (xT 188 (by decide +kernel) rfl)⟩
theorem fX0_15 : xFld RX0 15 0 1 := ⟨RX0, TX0, 5, rfl, by decide, iX0, rfl, Or.inl (xT 189 (by decide +kernel) rfl)⟩
theorem fX0_19 : xFld RX0 19 0 2 := ⟨RX0, TX0, 5, rfl, by decide, iX0, rfl, Or.inl (xT 190 (by decide +kernel) rfl)⟩
theorem fX0_22 : xFld RX0 22 0 3 := ⟨RX0, TX0, 5, rfl, by decide, iX0, rfl, Or.inl (xT 192 (by decide +kernel) rfl)⟩
theorem fX0_26 : xFld RX0 26 0 4 := ⟨RX0, TX0, 5, rfl, by decide, iX0, rfl, Or.inl (xT 193 (by decide +kernel) rfl)⟩
theorem fX8_12 : xFld RX8 12 8 0 := ⟨RX8, TX8, 11, rfl, by decide, iX8, rfl, Or.inl (xT 209 (by decide +kernel) rfl)⟩
theorem fX8_21 : xFld RX8 21 8 1 := ⟨RX8, TX8, 11, rfl, by decide, iX8, rfl, Or.inl (xT 210 (by decide +kernel) rfl)⟩
theorem fX8_28 : xFld RX8 28 8 2 := ⟨RX8, TX8, 11, rfl, by decide, iX8, rfl, Or.inl (xT 211 (by decide +kernel) rfl)⟩
theorem fX8_35 : xFld RX8 35 8 3 := ⟨RX8, TX8, 11, rfl, by decide, iX8, rfl, Or.inl (xT 212 (by decide +kernel) rfl)⟩
theorem fX8_42 : xFld RX8 42 8 4 := ⟨RX8, TX8, 11, rfl, by decide, iX8, rfl, Or.inl (xT 213 (by decide +kernel) rfl)⟩
theorem fX8_49 : xFld RX8 49 8 5 := ⟨RX8, TX8, 11, rfl, by decide, iX8, rfl, Or.inl (xT 214 (by decide +kernel) rfl)⟩
theorem fX8_53 : xFld RX8 53 8 6 := ⟨RX8, TX8, 11, rfl, by decide, iX8, rfl, Or.inl (xT 215 (by decide +kernel) rfl)⟩
theorem fX8_56 : xFld RX8 56 8 7 := ⟨RX8, TX8, 11, rfl, by decide, iX8, rfl, Or.inl (xT 216 (by decide +kernel) rfl)⟩
theorem fX8_59 : xFld RX8 59 8 8 := ⟨RX8, TX8, 11, rfl, by decide, iX8, rfl, Or.inl (xT 217 (by decide +kernel) rfl)⟩
theorem fX8_63 : xFld RX8 63 8 9 := ⟨RX8, TX8, 11, rfl, by decide, iX8, rfl, Or.inl (xT 218 (by decide +kernel) rfl)⟩
theorem fX8_66 : xFld RX8 66 8 10 := ⟨RX8, TX8, 11, rfl, by decide, iX8, rfl, Or.inl (xT 219 (by decide +kernel) rfl)⟩
theorem fX9_7 : xFld RX9 7 9 0 := ⟨RX9, TX9, 43, rfl, by decide, iX9, rfl, Or.inl (xT 689 (by decide +kernel) rfl)⟩
theorem fX9_13 : xFld RX9 13 9 1 := ⟨RX9, TX9, 43, rfl, by decide, iX9, rfl, Or.inl (xT 690 (by decide +kernel) rfl)⟩
theorem fX9_16 : xFld RX9 16 9 2 := ⟨RX9, TX9, 43, rfl, by decide, iX9, rfl, Or.inl (xT 691 (by decide +kernel) rfl)⟩
theorem fX9_19 : xFld RX9 19 9 3 := ⟨RX9, TX9, 43, rfl, by decide, iX9, rfl, Or.inl (xT 692 (by decide +kernel) rfl)⟩
theorem fX9_170 : xFld RX9 170 9 4 := ⟨RX9, TX9, 43, rfl, by decide, iX9, rfl, Or.inl (xT 693 (by decide +kernel) rfl)⟩
theorem fX9_22 : xFld RX9 22 9 5 := ⟨RX9, TX9, 43, rfl, by decide, iX9, rfl, Or.inl (xT 694 (by decide +kernel) rfl)⟩
theorem fX9_25 : xFld RX9 25 9 6 := ⟨RX9, TX9, 43, rfl, by decide, iX9, rfl, Or.inl (xT 695 (by decide +kernel) rfl)⟩
theorem fX9_28 : xFld RX9 28 9 7 := ⟨RX9, TX9, 43, rfl, by decide, iX9, rfl, Or.inl (xT 696 (by decide +kernel) rfl)⟩
theorem fX9_31 : xFld RX9 31 9 8 := ⟨RX9, TX9, 43, rfl, by decide, iX9, rfl, Or.inl (xT 697 (by decide +kernel) rfl)⟩
theorem fX9_35 : xFld RX9 35 9 9 := ⟨RX9, TX9, 43, rfl, by decide, iX9, rfl, Or.inl (xT 698 (by decide +kernel) rfl)⟩
theorem fX9_38 : xFld RX9 38 9 10 := ⟨RX9, TX9, 43, rfl, by decide, iX9, rfl, Or.inl (xT 699 (by decide +kernel) rfl)⟩
theorem fX9_212 : xFld RX9 212 9 11 := ⟨RX9, TX9, 43, rfl, by decide, iX9, rfl, Or.inl (xT 700 (by decide +kernel) rfl)⟩
theorem fX9_215 : xFld RX9 215 9 12 := ⟨RX9, TX9, 43, rfl, by decide, iX9, rfl, Or.inl (xT 701 (by decide +kernel) rfl)⟩
theorem fX9_42 : xFld RX9 42 9 13 := ⟨RX9, TX9, 43, rfl, by decide, iX9, rfl, Or.inl (xT 702 (by decide +kernel) rfl)⟩
theorem fX9_218 : xFld RX9 218 9 14 := ⟨RX9, TX9, 43, rfl, by decide, iX9, rfl, Or.inl (xT 703 (by decide +kernel) rfl)⟩
theorem fX9_45 : xFld RX9 45 9 15 := ⟨RX9, TX9, 43, rfl, by decide, iX9, rfl, Or.inl (xT 704 (by decide +kernel) rfl)⟩
theorem fX9_224 : xFld RX9 224 9 16 := ⟨RX9, TX9, 43, rfl, by decide, iX9, rfl, Or.inl (xT 705 (by decide +kernel) rfl)⟩
theorem fX9_48 : xFld RX9 48 9 17 := ⟨RX9, TX9, 43, rfl, by decide, iX9, rfl, Or.inl (xT 706 (by decide +kernel) rfl)⟩
theorem fX9_52 : xFld RX9 52 9 18 := ⟨RX9, TX9, 43, rfl, by decide, iX9, rfl, Or.inl (xT 707 (by decide +kernel) rfl)⟩
theorem fX9_55 : xFld RX9 55 9 19 := ⟨RX9, TX9, 43, rfl, by decide, iX9, rfl, Or.inl (xT 708 (by decide +kernel) rfl)⟩
theorem fX9_58 : xFld RX9 58 9 20 := ⟨RX9, TX9, 43, rfl, by decide, iX9, rfl, Or.inl (xT 709 (by decide +kernel) rfl)⟩
theorem fX9_61 : xFld RX9 61 9 21 := ⟨RX9, TX9, 43, rfl, by decide, iX9, rfl, Or.inl (xT 710 (by decide +kernel) rfl)⟩
theorem fX9_227 : xFld RX9 227 9 22 := ⟨RX9, TX9, 43, rfl, by decide, iX9, rfl, Or.inl (xT 711 (by decide +kernel) rfl)⟩
theorem fX9_231 : xFld RX9 231 9 23 := ⟨RX9, TX9, 43, rfl, by decide, iX9, rfl, Or.inl (xT 712 (by decide +kernel) rfl)⟩
theorem fX9_64 : xFld RX9 64 9 24 := ⟨RX9, TX9, 43, rfl, by decide, iX9, rfl, Or.inl (xT 713 (by decide +kernel) rfl)⟩
theorem fX9_67 : xFld RX9 67 9 25 := ⟨RX9, TX9, 43, rfl, by decide, iX9, rfl, Or.inl (xT 714 (by decide +kernel) rfl)⟩
theorem fX9_70 : xFld RX9 70 9 26 := ⟨RX9, TX9, 43, rfl, by decide, iX9, rfl, Or.inl (xT 715 (by decide +kernel) rfl)⟩
theorem fX9_73 : xFld RX9 73 9 27 := ⟨RX9, TX9, 43, rfl, by decide, iX9, rfl, Or.inl (xT 716 (by decide +kernel) rfl)⟩
theorem fX9_76 : xFld RX9 76 9 28 := ⟨RX9, TX9, 43, rfl, by decide, iX9, rfl, Or.inl (xT 717 (by decide +kernel) rfl)⟩
theorem fX9_244 : xFld RX9 244 9 29 := ⟨RX9, TX9, 43, rfl, by decide, iX9, rfl, Or.inl (xT 718 (by decide +kernel) rfl)⟩
theorem fX9_247 : xFld RX9 247 9 30 := ⟨RX9, TX9, 43, rfl, by decide, iX9, rfl, Or.inl (xT 719 (by decide +kernel) rfl)⟩
theorem fX9_79 : xFld RX9 79 9 31 := ⟨RX9, TX9, 43, rfl, by decide, iX9, rfl, Or.inl (xT 720 (by decide +kernel) rfl)⟩
theorem fX9_238 : xFld RX9 238 9 32 := ⟨RX9, TX9, 43, rfl, by decide, iX9, rfl, Or.inl (xT 721 (by decide +kernel) rfl)⟩
theorem fX9_82 : xFld RX9 82 9 33 := ⟨RX9, TX9, 43, rfl, by decide, iX9, rfl, Or.inl (xT 722 (by decide +kernel) rfl)⟩
theorem fX9_85 : xFld RX9 85 9 34 := ⟨RX9, TX9, 43, rfl, by decide, iX9, rfl, Or.inl (xT 723 (by decide +kernel) rfl)⟩
theorem fX9_109 : xFld RX9 109 9 35 := ⟨RX9, TX9, 43, rfl, by decide, iX9, rfl, Or.inl (xT 724 (by decide +kernel) rfl)⟩
theorem fX9_88 : xFld RX9 88 9 36 := ⟨RX9, TX9, 43, rfl, by decide, iX9, rfl, Or.inl (xT 725 (by decide +kernel) rfl)⟩
theorem fX9_91 : xFld RX9 91 9 37 := ⟨RX9, TX9, 43, rfl, by decide, iX9, rfl, Or.inl (xT 726 (by decide +kernel) rfl)⟩
theorem fX9_94 : xFld RX9 94 9 38 := ⟨RX9, TX9, 43, rfl, by decide, iX9, rfl, Or.inl (xT 727 (by decide +kernel) rfl)⟩
theorem fX9_97 : xFld RX9 97 9 39 := ⟨RX9, TX9, 43, rfl, by decide, iX9, rfl, Or.inl (xT 728 (by decide +kernel) rfl)⟩
theorem fX9_100 : xFld RX9 100 9 40 := ⟨RX9, TX9, 43, rfl, by decide, iX9, rfl, Or.inl (xT 729 (by decide +kernel) rfl)⟩
theorem fX9_103 : xFld RX9 103 9 41 := ⟨RX9, TX9, 43, rfl, by decide, iX9, rfl, Or.inl (xT 730 (by decide +kernel) rfl)⟩
theorem fX9_106 : xFld RX9 106 9 42 := ⟨RX9, TX9, 43, rfl, by decide, iX9, rfl, Or.inl (xT 731 (by decide +kernel) rfl)⟩
theorem fX2_75 : xFld RX2 75 7 0 := ⟨RX7, TX7, 1, rfl, by decide, iX7, rfl, Or.inr ⟨"ParcelMap", xTn 33 (by decide +kernel) rfl⟩⟩
theorem fX8_96 : xFld RX8 96 2 0 := ⟨RX2, TX2, 5, rfl, by decide, iX2, rfl, Or.inr ⟨"ParcelMap", xTn 40 (by decide +kernel) rfl⟩⟩
theorem fX5_92 : xFld RX5 92 2 1 := ⟨RX2, TX2, 5, rfl, by decide, iX2, rfl, Or.inr ⟨"ParcelMap", xTn 42 (by decide +kernel) rfl⟩⟩
theorem fX8_81 : xFld RX8 81 2 4 := ⟨RX2, TX2, 5, rfl, by decide, iX2, rfl, Or.inr ⟨"ParcelMap", xTn 46 (by decide +kernel) rfl⟩⟩
theorem fX8_193 : xFld RX8 193 5 1 := ⟨RX5, TX5, 2, rfl, by decide, iX5, rfl, Or.inr ⟨"ParcelMap", xTn 66 (by decide +kernel) rfl⟩⟩
theorem fX0_55 : xFld RX0 55 4 0 := ⟨RX4, TX4, 2, rfl, by decide, iX4, rfl, Or.inr ⟨"ParcelMap", xTn 92 (by decide +kernel) rfl⟩⟩
theorem fX5_31 : xFld RX5 31 4 0 := ⟨RX4, TX4, 2, rfl, by decide, iX4, rfl, Or.inr ⟨"ParcelMap", xTn 93 (by decide +kernel) rfl⟩⟩
theorem fX8_200 : xFld RX8 200 4 0 := ⟨RX4, TX4, 2, rfl, by decide, iX4, rfl, Or.inr ⟨"ParcelMap", xTn 94 (by decide +kernel) rfl⟩⟩
theorem fX5_19 : xFld RX5 19 4 1 := ⟨RX4, TX4, 2, rfl, by decide, iX4, rfl, Or.inr ⟨"ParcelMap", xTn 96 (by decide +kernel) rfl⟩⟩
theorem fX0_52 : xFld RX0 52 4 1 := ⟨RX4, TX4, 2, rfl, by decide, iX4, rfl, Or.inr ⟨"ParcelMap", xTn 97 (by decide +kernel) rfl⟩⟩
theorem fX8_115 : xFld RX8 115 4 1 := ⟨RX4, TX4, 2, rfl, by decide, iX4, rfl, Or.inr ⟨"ParcelMap", xTn 98 (by decide +kernel) rfl⟩⟩
theorem fX2_102 : xFld RX2 102 4 1 := ⟨RX4, TX4, 2, rfl, by decide, iX4, rfl, Or.inr ⟨"ParcelMap", xTn 99 (by decide +kernel) rfl⟩⟩
theorem fX6_45 : xFld RX6 45 1 0 := ⟨RX1, TX1, 4, rfl, by decide, iX1, rfl, Or.inr ⟨"ParcelMap", xTn 107 (by decide +kernel) rfl⟩⟩
theorem fX0_42 : xFld RX0 42 1 0 := ⟨RX1, TX1, 4, rfl, by decide, iX1, rfl, Or.inr ⟨"ParcelMap", xTn 108 (by decide +kernel) rfl⟩⟩
theorem fX3_60 : xFld RX3 60 1 0 := ⟨RX1, TX1, 4, rfl, by decide, iX1, rfl, Or.inr ⟨"ParcelMap", xTn 109 (by decide +kernel) rfl⟩⟩
theorem fX8_157 : xFld RX8 157 1 0 := ⟨RX1, TX1, 4, rfl, by decide, iX1, rfl, Or.inr ⟨"ParcelMap", xTn 110 (by decide +kernel) rfl⟩⟩
theorem fX3_39 : xFld RX3 39 1 1 := ⟨RX1, TX1, 4, rfl, by decide, iX1, rfl, Or.inr ⟨"ParcelMap", xTn 112 (by decide +kernel) rfl⟩⟩
theorem fX8_164 : xFld RX8 164 1 1 := ⟨RX1, TX1, 4, rfl, by decide, iX1, rfl, Or.inr ⟨"ParcelMap", xTn 113 (by decide +kernel) rfl⟩⟩
theorem fX3_46 : xFld RX3 46 1 2 := ⟨RX1, TX1, 4, rfl, by decide, iX1, rfl, Or.inr ⟨"ParcelMap", xTn 115 (by decide +kernel) rfl⟩⟩
theorem fX8_149 : xFld RX8 149 1 2 := ⟨RX1, TX1, 4, rfl, by decide, iX1, rfl, Or.inr ⟨"ParcelMap", xTn 116 (by decide +kernel) rfl⟩⟩
theorem fX3_57 : xFld RX3 57 1 3 := ⟨RX1, TX1, 4, rfl, by decide, iX1, rfl, Or.inr ⟨"ParcelMap", xTn 118 (by decide +kernel) rfl⟩⟩
theorem fX8_154 : xFld RX8 154 1 3 := ⟨RX1, TX1, 4, rfl, by decide, iX1, rfl, Or.inr ⟨"ParcelMap", xTn 119 (by decide +kernel) rfl⟩⟩
theorem fX6_41 : xFld RX6 41 3 0 := ⟨RX3, TX3, 7, rfl, by decide, iX3, rfl, Or.inr ⟨"ParcelMap", xTn 130 (by decide +kernel) rfl⟩⟩
theorem fX0_38 : xFld RX0 38 3 0 := ⟨RX3, TX3, 7, rfl, by decide, iX3, rfl, Or.inr ⟨"ParcelMap", xTn 131 (by decide +kernel) rfl⟩⟩
theorem fX8_145 : xFld RX8 145 3 0 := ⟨RX3, TX3, 7, rfl, by decide, iX3, rfl, Or.inr ⟨"ParcelMap", xTn 132 (by decide +kernel) rfl⟩⟩
theorem fX8_266 : xFld RX8 266 3 5 := ⟨RX3, TX3, 7, rfl, by decide, iX3, rfl, Or.inr ⟨"ParcelMap", xTn 138 (by decide +kernel) rfl⟩⟩
theorem fX6_31 : xFld RX6 31 3 6 := ⟨RX3, TX3, 7, rfl, by decide, iX3, rfl, Or.inr ⟨"ParcelMap", xTn 140 (by decide +kernel) rfl⟩⟩
theorem fX0_29 : xFld RX0 29 3 6 := ⟨RX3, TX3, 7, rfl, by decide, iX3, rfl, Or.inr ⟨"ParcelMap", xTn 141 (by decide +kernel) rfl⟩⟩
theorem fX8_136 : xFld RX8 136 3 6 := ⟨RX3, TX3, 7, rfl, by decide, iX3, rfl, Or.inr ⟨"ParcelMap", xTn 142 (by decide +kernel) rfl⟩⟩
theorem fX8_237 : xFld RX8 237 6 2 := ⟨RX6, TX6, 4, rfl, by decide, iX6, rfl, Or.inr ⟨"ParcelMap", xTn 170 (by decide +kernel) rfl⟩⟩
theorem fX8_251 : xFld RX8 251 6 3 := ⟨RX6, TX6, 4, rfl, by decide, iX6, rfl, Or.inr ⟨"ParcelMap", xTn 172 (by decide +kernel) rfl⟩⟩
theorem fX8_234 : xFld RX8 234 0 2 := ⟨RX0, TX0, 5, rfl, by decide, iX0, rfl, Or.inr ⟨"ParcelMap", xTn 191 (by decide +kernel) rfl⟩⟩
theorem fX8_233 : xFld RX8 233 0 4 := ⟨RX0, TX0, 5, rfl, by decide, iX0, rfl, Or.inr ⟨"ParcelMap", xTn 194 (by decide +kernel) rfl⟩⟩
theorem kX8_69 : xLnkS RX8 69 mX8_isNumber 1 := ⟨⟨xT 247 (by decide +kernel) rfl, xT 1 (by decide +kernel) rfl, xT 249 (by decide +kernel) rfl, by decide +kernel, by decide +kernel, by decide +kernel, by decide +kernel⟩, xT 248 (by decide +kernel) rfl⟩
theorem kX8_73 : xLnkV RX8 73 mX2_put 2 3 := ⟨⟨xT 253 (by decide +kernel) rfl, xT 2 (by decide +kernel) rfl, xT 256 (by decide +kernel) rfl, by decide +kernel, by decide +kernel, by decide +kernel, by decide +kernel⟩, xT 254 (by decide +kernel) rfl, xT 255 (by decide +kernel) rfl, rfl⟩
theorem kX2_37 : xLnkV RX2 37 mX2_putOne 2 2 := ⟨⟨xT 257 (by decide +kernel) rfl, xT 2 (by decide +kernel) rfl, xT 260 (by decide +kernel) rfl, by decide +kernel, by decide +kernel, by decide +kernel, by decide +kernel⟩, xT 259 (by decide +kernel) rfl, xTp 0 (n := 5) (by decide +kernel), rfl⟩
theorem kX2_49 : xLnkS RX2 49 mX2_limbOf 2 := ⟨⟨xT 265 (by decide +kernel) rfl, xT 2 (by decide +kernel) rfl, xT 267 (by decide +kernel) rfl, by decide +kernel, by decide +kernel, by decide +kernel, by decide +kernel⟩, xT 266 (by decide +kernel) rfl⟩
theorem kX8_77 : xLnkV RX8 77 mX2_sameAsLoose 2 0 := ⟨⟨xT 269 (by decide +kernel) rfl, xT 2 (by decide +kernel) rfl, xT 272 (by decide +kernel) rfl, by decide +kernel, by decide +kernel, by decide +kernel, by decide +kernel⟩, xT 270 (by decide +kernel) rfl, xT 271 (by decide +kernel) rfl, rfl⟩
theorem kX8_84 : xLnkV RX8 84 mX2_make 2 2 := ⟨⟨xT 273 (by decide +kernel) rfl, xT 2 (by decide +kernel) rfl, xT 276 (by decide +kernel) rfl, by decide +kernel, by decide +kernel, by decide +kernel, by decide +kernel⟩, xT 274 (by decide +kernel) rfl, xT 275 (by decide +kernel) rfl, rfl⟩
theorem kX2_33 : xLnkV RX2 33 mX2_put 2 3 := ⟨⟨xT 277 (by decide +kernel) rfl, xT 2 (by decide +kernel) rfl, xT 256 (by decide +kernel) rfl, by decide +kernel, by decide +kernel, by decide +kernel, by decide +kernel⟩, xT 254 (by decide +kernel) rfl, xT 255 (by decide +kernel) rfl, rfl⟩
theorem kX8_88 : xLnkV RX8 88 mX2_has 2 1 := ⟨⟨xT 282 (by decide +kernel) rfl, xT 2 (by decide +kernel) rfl, xT 285 (by decide +kernel) rfl, by decide +kernel, by decide +kernel, by decide +kernel, by decide +kernel⟩, xT 283 (by decide +kernel) rfl, xT 284 (by decide +kernel) rfl, rfl⟩
theorem kX8_100 : xLnkV RX8 100 mX2_isSure 2 3 := ⟨⟨xT 292 (by decide +kernel) rfl, xT 2 (by decide +kernel) rfl, xT 295 (by decide +kernel) rfl, by decide +kernel, by decide +kernel, by decide +kernel, by decide +kernel⟩, xT 293 (by decide +kernel) rfl, xT 294 (by decide +kernel) rfl, rfl⟩
theorem kX2_55 : xLnkV RX2 55 mX2_x 2 1 := ⟨⟨xT 296 (by decide +kernel) rfl, xT 2 (by decide +kernel) rfl, xT 299 (by decide +kernel) rfl, by decide +kernel, by decide +kernel, by decide +kernel, by decide +kernel⟩, xT 297 (by decide +kernel) rfl, xT 298 (by decide +kernel) rfl, rfl⟩
theorem kX2_59 : xLnkV RX2 59 mX2_y 2 1 := ⟨⟨xT 300 (by decide +kernel) rfl, xT 2 (by decide +kernel) rfl, xT 303 (by decide +kernel) rfl, by decide +kernel, by decide +kernel, by decide +kernel, by decide +kernel⟩, xT 301 (by decide +kernel) rfl, xT 302 (by decide +kernel) rfl, rfl⟩
theorem kX2_62 : xLnkS RX2 62 mX2_isSureOf 2 := ⟨⟨xT 304 (by decide +kernel) rfl, xT 2 (by decide +kernel) rfl, xT 306 (by decide +kernel) rfl, by decide +kernel, by decide +kernel, by decide +kernel, by decide +kernel⟩, xT 305 (by decide +kernel) rfl⟩
theorem kX8_104 : xLnkV RX8 104 mX2_turn 2 3 := ⟨⟨xT 308 (by decide +kernel) rfl, xT 2 (by decide +kernel) rfl, xT 311 (by decide +kernel) rfl, by decide +kernel, by decide +kernel, by decide +kernel, by decide +kernel⟩, xT 309 (by decide +kernel) rfl, xT 310 (by decide +kernel) rfl, rfl⟩
theorem kX2_68 : xLnkV RX2 68 mX2_exactTurn 2 3 := ⟨⟨xT 312 (by decide +kernel) rfl, xT 2 (by decide +kernel) rfl, xT 315 (by decide +kernel) rfl, by decide +kernel, by decide +kernel, by decide +kernel, by decide +kernel⟩, xT 314 (by decide +kernel) rfl, xTp 1 (n := 5) (by decide +kernel), rfl⟩
theorem kX2_72 : xLnkV RX2 72 mX7_clear 7 0 := ⟨⟨xT 316 (by decide +kernel) rfl, xT 3 (by decide +kernel) rfl, xT 319 (by decide +kernel) rfl, by decide +kernel, by decide +kernel, by decide +kernel, by decide +kernel⟩, xT 317 (by decide +kernel) rfl, xT 318 (by decide +kernel) rfl, rfl⟩
theorem kX2_78 : xLnkV RX2 78 mX7_sign 7 0 := ⟨⟨xT 320 (by decide +kernel) rfl, xT 3 (by decide +kernel) rfl, xT 323 (by decide +kernel) rfl, by decide +kernel, by decide +kernel, by decide +kernel, by decide +kernel⟩, xT 321 (by decide +kernel) rfl, xT 322 (by decide +kernel) rfl, rfl⟩
theorem kX8_108 : xLnkV RX8 108 mX2_meeting 2 4 := ⟨⟨xT 333 (by decide +kernel) rfl, xT 2 (by decide +kernel) rfl, xT 336 (by decide +kernel) rfl, by decide +kernel, by decide +kernel, by decide +kernel, by decide +kernel⟩, xT 334 (by decide +kernel) rfl, xT 335 (by decide +kernel) rfl, rfl⟩
theorem kX2_82 : xLnkS RX2 82 mX2_spansMeet 4 := ⟨⟨xT 337 (by decide +kernel) rfl, xT 2 (by decide +kernel) rfl, xT 339 (by decide +kernel) rfl, by decide +kernel, by decide +kernel, by decide +kernel, by decide +kernel⟩, xT 338 (by decide +kernel) rfl⟩
theorem kX2_86 : xLnkV RX2 86 mX2_turn 2 3 := ⟨⟨xT 340 (by decide +kernel) rfl, xT 2 (by decide +kernel) rfl, xT 311 (by decide +kernel) rfl, by decide +kernel, by decide +kernel, by decide +kernel, by decide +kernel⟩, xT 309 (by decide +kernel) rfl, xT 310 (by decide +kernel) rfl, rfl⟩
theorem kX2_89 : xLnkV RX2 89 mX2_meetingInLine 2 4 := ⟨⟨xT 341 (by decide +kernel) rfl, xT 2 (by decide +kernel) rfl, xT 344 (by decide +kernel) rfl, by decide +kernel, by decide +kernel, by decide +kernel, by decide +kernel⟩, xT 343 (by decide +kernel) rfl, xTp 2 (n := 5) (by decide +kernel), rfl⟩
theorem kX2_93 : xLnkV RX2 93 mX2_isAhead 2 2 := ⟨⟨xT 345 (by decide +kernel) rfl, xT 2 (by decide +kernel) rfl, xT 348 (by decide +kernel) rfl, by decide +kernel, by decide +kernel, by decide +kernel, by decide +kernel⟩, xT 346 (by decide +kernel) rfl, xT 347 (by decide +kernel) rfl, rfl⟩
theorem kX8_112 : xLnkV RX8 112 mX2_nearestToLoose 2 0 := ⟨⟨xT 353 (by decide +kernel) rfl, xT 2 (by decide +kernel) rfl, xT 356 (by decide +kernel) rfl, by decide +kernel, by decide +kernel, by decide +kernel, by decide +kernel⟩, xT 354 (by decide +kernel) rfl, xT 355 (by decide +kernel) rfl, rfl⟩
theorem kX2_99 : xLnkV RX2 99 mX2_isNearer 2 2 := ⟨⟨xT 358 (by decide +kernel) rfl, xT 2 (by decide +kernel) rfl, xT 361 (by decide +kernel) rfl, by decide +kernel, by decide +kernel, by decide +kernel, by decide +kernel⟩, xT 360 (by decide +kernel) rfl, xTp 3 (n := 5) (by decide +kernel), rfl⟩
theorem kX8_118 : xLnkV RX8 118 mX4_empty 4 0 := ⟨⟨xT 366 (by decide +kernel) rfl, xT 7 (by decide +kernel) rfl, xT 369 (by decide +kernel) rfl, by decide +kernel, by decide +kernel, by decide +kernel, by decide +kernel⟩, xT 367 (by decide +kernel) rfl, xT 368 (by decide +kernel) rfl, rfl⟩
theorem kX8_121 : xLnkV RX8 121 mX4_push 4 1 := ⟨⟨xT 374 (by decide +kernel) rfl, xT 7 (by decide +kernel) rfl, xT 377 (by decide +kernel) rfl, by decide +kernel, by decide +kernel, by decide +kernel, by decide +kernel⟩, xT 375 (by decide +kernel) rfl, xT 376 (by decide +kernel) rfl, rfl⟩
theorem kX8_125 : xLnkS RX8 125 mX8_isLayer 1 := ⟨⟨xT 382 (by decide +kernel) rfl, xT 1 (by decide +kernel) rfl, xT 384 (by decide +kernel) rfl, by decide +kernel, by decide +kernel, by decide +kernel, by decide +kernel⟩, xT 383 (by decide +kernel) rfl⟩
theorem kX8_128 : xLnkV RX8 128 mX3_hasRoom 3 0 := ⟨⟨xT 385 (by decide +kernel) rfl, xT 5 (by decide +kernel) rfl, xT 388 (by decide +kernel) rfl, by decide +kernel, by decide +kernel, by decide +kernel, by decide +kernel⟩, xT 386 (by decide +kernel) rfl, xT 387 (by decide +kernel) rfl, rfl⟩
theorem kX8_132 : xLnkV RX8 132 mX8_faultIn 8 3 := ⟨⟨xT 389 (by decide +kernel) rfl, xT 1 (by decide +kernel) rfl, xT 392 (by decide +kernel) rfl, by decide +kernel, by decide +kernel, by decide +kernel, by decide +kernel⟩, xT 391 (by decide +kernel) rfl, xTp 4 (n := 11) (by decide +kernel), rfl⟩
theorem kX8_190 : xLnkV RX8 190 mX5_faultOf 5 1 := ⟨⟨xT 393 (by decide +kernel) rfl, xT 4 (by decide +kernel) rfl, xT 396 (by decide +kernel) rfl, by decide +kernel, by decide +kernel, by decide +kernel, by decide +kernel⟩, xT 394 (by decide +kernel) rfl, xT 395 (by decide +kernel) rfl, rfl⟩
theorem kX5_24 : xLnkV RX5 24 mX5_findsTwins 5 1 := ⟨⟨xT 397 (by decide +kernel) rfl, xT 4 (by decide +kernel) rfl, xT 400 (by decide +kernel) rfl, by decide +kernel, by decide +kernel, by decide +kernel, by decide +kernel⟩, xT 399 (by decide +kernel) rfl, xTp 5 (n := 2) (by decide +kernel), rfl⟩
theorem kX5_28 : xLnkV RX5 28 mX5_findsCrossing 5 1 := ⟨⟨xT 401 (by decide +kernel) rfl, xT 4 (by decide +kernel) rfl, xT 404 (by decide +kernel) rfl, by decide +kernel, by decide +kernel, by decide +kernel, by decide +kernel⟩, xT 403 (by decide +kernel) rfl, xTp 6 (n := 2) (by decide +kernel), rfl⟩
theorem kX5_35 : xLnkV RX5 35 mX4_around 4 1 := ⟨⟨xT 405 (by decide +kernel) rfl, xT 7 (by decide +kernel) rfl, xT 408 (by decide +kernel) rfl, by decide +kernel, by decide +kernel, by decide +kernel, by decide +kernel⟩, xT 406 (by decide +kernel) rfl, xT 407 (by decide +kernel) rfl, rfl⟩
theorem kX5_39 : xLnkV RX5 39 mX2_meeting 2 4 := ⟨⟨xT 409 (by decide +kernel) rfl, xT 2 (by decide +kernel) rfl, xT 336 (by decide +kernel) rfl, by decide +kernel, by decide +kernel, by decide +kernel, by decide +kernel⟩, xT 334 (by decide +kernel) rfl, xT 335 (by decide +kernel) rfl, rfl⟩
theorem kX8_179 : xLnkV RX8 179 mX5_settle 5 2 := ⟨⟨xT 410 (by decide +kernel) rfl, xT 4 (by decide +kernel) rfl, xT 413 (by decide +kernel) rfl, by decide +kernel, by decide +kernel, by decide +kernel, by decide +kernel⟩, xT 411 (by decide +kernel) rfl, xT 412 (by decide +kernel) rfl, rfl⟩
theorem kX5_45 : xLnkV RX5 45 mX2_isAhead 2 2 := ⟨⟨xT 414 (by decide +kernel) rfl, xT 2 (by decide +kernel) rfl, xT 348 (by decide +kernel) rfl, by decide +kernel, by decide +kernel, by decide +kernel, by decide +kernel⟩, xT 346 (by decide +kernel) rfl, xT 347 (by decide +kernel) rfl, rfl⟩
theorem kX5_49 : xLnkV RX5 49 mX2_turn 2 3 := ⟨⟨xT 415 (by decide +kernel) rfl, xT 2 (by decide +kernel) rfl, xT 311 (by decide +kernel) rfl, by decide +kernel, by decide +kernel, by decide +kernel, by decide +kernel⟩, xT 309 (by decide +kernel) rfl, xT 310 (by decide +kernel) rfl, rfl⟩
theorem kX5_53 : xLnkV RX5 53 mX4_empty 4 0 := ⟨⟨xT 416 (by decide +kernel) rfl, xT 7 (by decide +kernel) rfl, xT 369 (by decide +kernel) rfl, by decide +kernel, by decide +kernel, by decide +kernel, by decide +kernel⟩, xT 367 (by decide +kernel) rfl, xT 368 (by decide +kernel) rfl, rfl⟩
theorem kX5_56 : xLnkV RX5 56 mX4_push 4 1 := ⟨⟨xT 417 (by decide +kernel) rfl, xT 7 (by decide +kernel) rfl, xT 377 (by decide +kernel) rfl, by decide +kernel, by decide +kernel, by decide +kernel, by decide +kernel⟩, xT 375 (by decide +kernel) rfl, xT 376 (by decide +kernel) rfl, rfl⟩
theorem kX8_208 : xLnkV RX8 208 mX3_isOf 3 2 := ⟨⟨xT 418 (by decide +kernel) rfl, xT 5 (by decide +kernel) rfl, xT 421 (by decide +kernel) rfl, by decide +kernel, by decide +kernel, by decide +kernel, by decide +kernel⟩, xT 419 (by decide +kernel) rfl, xT 420 (by decide +kernel) rfl, rfl⟩
theorem kX3_42 : xLnkV RX3 42 mX3_has 3 1 := ⟨⟨xT 422 (by decide +kernel) rfl, xT 5 (by decide +kernel) rfl, xT 425 (by decide +kernel) rfl, by decide +kernel, by decide +kernel, by decide +kernel, by decide +kernel⟩, xT 423 (by decide +kernel) rfl, xT 424 (by decide +kernel) rfl, rfl⟩
theorem kX8_282 : xLnkV RX8 282 mX5_framesMeet 5 2 := ⟨⟨xT 426 (by decide +kernel) rfl, xT 4 (by decide +kernel) rfl, xT 429 (by decide +kernel) rfl, by decide +kernel, by decide +kernel, by decide +kernel, by decide +kernel⟩, xT 427 (by decide +kernel) rfl, xT 428 (by decide +kernel) rfl, rfl⟩
theorem kX5_88 : xLnkV RX5 88 mX5_farthest 5 3 := ⟨⟨xT 430 (by decide +kernel) rfl, xT 4 (by decide +kernel) rfl, xT 433 (by decide +kernel) rfl, by decide +kernel, by decide +kernel, by decide +kernel, by decide +kernel⟩, xT 432 (by decide +kernel) rfl, xTp 7 (n := 2) (by decide +kernel), rfl⟩
theorem kX8_286 : xLnkV RX8 286 mX5_reachesInto 5 2 := ⟨⟨xT 434 (by decide +kernel) rfl, xT 4 (by decide +kernel) rfl, xT 437 (by decide +kernel) rfl, by decide +kernel, by decide +kernel, by decide +kernel, by decide +kernel⟩, xT 435 (by decide +kernel) rfl, xT 436 (by decide +kernel) rfl, rfl⟩
theorem kX5_72 : xLnkV RX5 72 mX5_cutsInto 5 3 := ⟨⟨xT 438 (by decide +kernel) rfl, xT 4 (by decide +kernel) rfl, xT 441 (by decide +kernel) rfl, by decide +kernel, by decide +kernel, by decide +kernel, by decide +kernel⟩, xT 440 (by decide +kernel) rfl, xTp 8 (n := 2) (by decide +kernel), rfl⟩
theorem kX5_60 : xLnkV RX5 60 mX2_isOn 2 3 := ⟨⟨xT 442 (by decide +kernel) rfl, xT 2 (by decide +kernel) rfl, xT 445 (by decide +kernel) rfl, by decide +kernel, by decide +kernel, by decide +kernel, by decide +kernel⟩, xT 443 (by decide +kernel) rfl, xT 444 (by decide +kernel) rfl, rfl⟩
theorem kX5_68 : xLnkV RX5 68 mX5_opensTo 5 3 := ⟨⟨xT 446 (by decide +kernel) rfl, xT 4 (by decide +kernel) rfl, xT 449 (by decide +kernel) rfl, by decide +kernel, by decide +kernel, by decide +kernel, by decide +kernel⟩, xT 448 (by decide +kernel) rfl, xTp 9 (n := 2) (by decide +kernel), rfl⟩
theorem kX5_76 : xLnkV RX5 76 mX5_placeOf 5 2 := ⟨⟨xT 450 (by decide +kernel) rfl, xT 4 (by decide +kernel) rfl, xT 453 (by decide +kernel) rfl, by decide +kernel, by decide +kernel, by decide +kernel, by decide +kernel⟩, xT 451 (by decide +kernel) rfl, xT 452 (by decide +kernel) rfl, rfl⟩
theorem kX5_64 : xLnkV RX5 64 mX2_y 2 1 := ⟨⟨xT 454 (by decide +kernel) rfl, xT 2 (by decide +kernel) rfl, xT 303 (by decide +kernel) rfl, by decide +kernel, by decide +kernel, by decide +kernel, by decide +kernel⟩, xT 301 (by decide +kernel) rfl, xT 302 (by decide +kernel) rfl, rfl⟩
theorem kX5_80 : xLnkV RX5 80 mX5_startsInto 5 4 := ⟨⟨xT 455 (by decide +kernel) rfl, xT 4 (by decide +kernel) rfl, xT 458 (by decide +kernel) rfl, by decide +kernel, by decide +kernel, by decide +kernel, by decide +kernel⟩, xT 457 (by decide +kernel) rfl, xTp 10 (n := 2) (by decide +kernel), rfl⟩
theorem kX8_289 : xLnkV RX8 289 mX5_haveLikeLand 5 2 := ⟨⟨xT 459 (by decide +kernel) rfl, xT 4 (by decide +kernel) rfl, xT 462 (by decide +kernel) rfl, by decide +kernel, by decide +kernel, by decide +kernel, by decide +kernel⟩, xT 460 (by decide +kernel) rfl, xT 461 (by decide +kernel) rfl, rfl⟩
theorem kX5_84 : xLnkV RX5 84 mX5_common 5 4 := ⟨⟨xT 463 (by decide +kernel) rfl, xT 4 (by decide +kernel) rfl, xT 466 (by decide +kernel) rfl, by decide +kernel, by decide +kernel, by decide +kernel, by decide +kernel⟩, xT 465 (by decide +kernel) rfl, xTp 11 (n := 2) (by decide +kernel), rfl⟩
theorem kX8_137 : xLnkV RX8 137 mX3_keep 3 2 := ⟨⟨xT 467 (by decide +kernel) rfl, xT 5 (by decide +kernel) rfl, xT 470 (by decide +kernel) rfl, by decide +kernel, by decide +kernel, by decide +kernel, by decide +kernel⟩, xT 468 (by decide +kernel) rfl, xT 469 (by decide +kernel) rfl, rfl⟩
theorem kX3_70 : xLnkS RX3 70 mX3_isEntry 1 := ⟨⟨xT 471 (by decide +kernel) rfl, xT 5 (by decide +kernel) rfl, xT 473 (by decide +kernel) rfl, by decide +kernel, by decide +kernel, by decide +kernel, by decide +kernel⟩, xT 472 (by decide +kernel) rfl⟩
theorem kX3_73 : xLnkV RX3 73 mX1_copy 1 1 := ⟨⟨xT 474 (by decide +kernel) rfl, xT 6 (by decide +kernel) rfl, xT 477 (by decide +kernel) rfl, by decide +kernel, by decide +kernel, by decide +kernel, by decide +kernel⟩, xT 475 (by decide +kernel) rfl, xT 476 (by decide +kernel) rfl, rfl⟩
theorem kX1_27 : xLnkV RX1 27 mX4_copy 4 1 := ⟨⟨xT 478 (by decide +kernel) rfl, xT 7 (by decide +kernel) rfl, xT 481 (by decide +kernel) rfl, by decide +kernel, by decide +kernel, by decide +kernel, by decide +kernel⟩, xT 479 (by decide +kernel) rfl, xT 480 (by decide +kernel) rfl, rfl⟩
theorem kX8_141 : xLnkV RX8 141 mX3_make 3 3 := ⟨⟨xT 482 (by decide +kernel) rfl, xT 5 (by decide +kernel) rfl, xT 485 (by decide +kernel) rfl, by decide +kernel, by decide +kernel, by decide +kernel, by decide +kernel⟩, xT 483 (by decide +kernel) rfl, xT 484 (by decide +kernel) rfl, rfl⟩
theorem kX3_53 : xLnkV RX3 53 mX3_hasRoom 3 0 := ⟨⟨xT 486 (by decide +kernel) rfl, xT 5 (by decide +kernel) rfl, xT 388 (by decide +kernel) rfl, by decide +kernel, by decide +kernel, by decide +kernel, by decide +kernel⟩, xT 386 (by decide +kernel) rfl, xT 387 (by decide +kernel) rfl, rfl⟩
theorem kX3_64 : xLnkV RX3 64 mX4_copy 4 1 := ⟨⟨xT 487 (by decide +kernel) rfl, xT 7 (by decide +kernel) rfl, xT 481 (by decide +kernel) rfl, by decide +kernel, by decide +kernel, by decide +kernel, by decide +kernel⟩, xT 479 (by decide +kernel) rfl, xT 480 (by decide +kernel) rfl, rfl⟩
theorem kX8_144 : xLnkV RX8 144 mX3_has 3 1 := ⟨⟨xT 496 (by decide +kernel) rfl, xT 5 (by decide +kernel) rfl, xT 425 (by decide +kernel) rfl, by decide +kernel, by decide +kernel, by decide +kernel, by decide +kernel⟩, xT 423 (by decide +kernel) rfl, xT 424 (by decide +kernel) rfl, rfl⟩
theorem kX8_160 : xLnkV RX8 160 mX4_around 4 1 := ⟨⟨xT 497 (by decide +kernel) rfl, xT 7 (by decide +kernel) rfl, xT 408 (by decide +kernel) rfl, by decide +kernel, by decide +kernel, by decide +kernel, by decide +kernel⟩, xT 406 (by decide +kernel) rfl, xT 407 (by decide +kernel) rfl, rfl⟩
theorem kX8_168 : xLnkV RX8 168 mX3_thereNow 3 0 := ⟨⟨xT 506 (by decide +kernel) rfl, xT 5 (by decide +kernel) rfl, xT 509 (by decide +kernel) rfl, by decide +kernel, by decide +kernel, by decide +kernel, by decide +kernel⟩, xT 507 (by decide +kernel) rfl, xT 508 (by decide +kernel) rfl, rfl⟩
theorem kX8_171 : xLnkV RX8 171 mX5_isCut 5 3 := ⟨⟨xT 514 (by decide +kernel) rfl, xT 4 (by decide +kernel) rfl, xT 517 (by decide +kernel) rfl, by decide +kernel, by decide +kernel, by decide +kernel, by decide +kernel⟩, xT 515 (by decide +kernel) rfl, xT 516 (by decide +kernel) rfl, rfl⟩
theorem kX8_175 : xLnkV RX8 175 mX4_pushRun 4 3 := ⟨⟨xT 518 (by decide +kernel) rfl, xT 7 (by decide +kernel) rfl, xT 521 (by decide +kernel) rfl, by decide +kernel, by decide +kernel, by decide +kernel, by decide +kernel⟩, xT 519 (by decide +kernel) rfl, xT 520 (by decide +kernel) rfl, rfl⟩
theorem kX4_19 : xLnkV RX4 19 mX4_around 4 1 := ⟨⟨xT 522 (by decide +kernel) rfl, xT 7 (by decide +kernel) rfl, xT 408 (by decide +kernel) rfl, by decide +kernel, by decide +kernel, by decide +kernel, by decide +kernel⟩, xT 406 (by decide +kernel) rfl, xT 407 (by decide +kernel) rfl, rfl⟩
theorem kX4_23 : xLnkV RX4 23 mX4_push 4 1 := ⟨⟨xT 523 (by decide +kernel) rfl, xT 7 (by decide +kernel) rfl, xT 377 (by decide +kernel) rfl, by decide +kernel, by decide +kernel, by decide +kernel, by decide +kernel⟩, xT 375 (by decide +kernel) rfl, xT 376 (by decide +kernel) rfl, rfl⟩
theorem kX8_183 : xLnkV RX8 183 mX4_startOfShared 4 1 := ⟨⟨xT 528 (by decide +kernel) rfl, xT 7 (by decide +kernel) rfl, xT 531 (by decide +kernel) rfl, by decide +kernel, by decide +kernel, by decide +kernel, by decide +kernel⟩, xT 529 (by decide +kernel) rfl, xT 530 (by decide +kernel) rfl, rfl⟩
theorem kX4_27 : xLnkV RX4 27 mX4_isShared 4 2 := ⟨⟨xT 532 (by decide +kernel) rfl, xT 7 (by decide +kernel) rfl, xT 535 (by decide +kernel) rfl, by decide +kernel, by decide +kernel, by decide +kernel, by decide +kernel⟩, xT 534 (by decide +kernel) rfl, xTp 12 (n := 2) (by decide +kernel), rfl⟩
theorem kX8_187 : xLnkV RX8 187 mX4_sharedWith 4 1 := ⟨⟨xT 536 (by decide +kernel) rfl, xT 7 (by decide +kernel) rfl, xT 539 (by decide +kernel) rfl, by decide +kernel, by decide +kernel, by decide +kernel, by decide +kernel⟩, xT 537 (by decide +kernel) rfl, xT 538 (by decide +kernel) rfl, rfl⟩
theorem kX8_196 : xLnkV RX8 196 mX4_copy 4 1 := ⟨⟨xT 544 (by decide +kernel) rfl, xT 7 (by decide +kernel) rfl, xT 481 (by decide +kernel) rfl, by decide +kernel, by decide +kernel, by decide +kernel, by decide +kernel⟩, xT 479 (by decide +kernel) rfl, xT 480 (by decide +kernel) rfl, rfl⟩
theorem kX8_204 : xLnkV RX8 204 mX5_stretches 5 2 := ⟨⟨xT 549 (by decide +kernel) rfl, xT 4 (by decide +kernel) rfl, xT 552 (by decide +kernel) rfl, by decide +kernel, by decide +kernel, by decide +kernel, by decide +kernel⟩, xT 550 (by decide +kernel) rfl, xT 551 (by decide +kernel) rfl, rfl⟩
theorem kX8_212 : xLnkV RX8 212 mX5_placeOf 5 2 := ⟨⟨xT 561 (by decide +kernel) rfl, xT 4 (by decide +kernel) rfl, xT 453 (by decide +kernel) rfl, by decide +kernel, by decide +kernel, by decide +kernel, by decide +kernel⟩, xT 451 (by decide +kernel) rfl, xT 452 (by decide +kernel) rfl, rfl⟩
theorem kX8_216 : xLnkV RX8 216 mX5_goesThrough 5 3 := ⟨⟨xT 570 (by decide +kernel) rfl, xT 4 (by decide +kernel) rfl, xT 573 (by decide +kernel) rfl, by decide +kernel, by decide +kernel, by decide +kernel, by decide +kernel⟩, xT 571 (by decide +kernel) rfl, xT 572 (by decide +kernel) rfl, rfl⟩
theorem kX8_220 : xLnkV RX8 220 mX3_thereIn 3 1 := ⟨⟨xT 578 (by decide +kernel) rfl, xT 5 (by decide +kernel) rfl, xT 581 (by decide +kernel) rfl, by decide +kernel, by decide +kernel, by decide +kernel, by decide +kernel⟩, xT 579 (by decide +kernel) rfl, xT 580 (by decide +kernel) rfl, rfl⟩
theorem kX3_49 : xLnkV RX3 49 mX3_isOf 3 2 := ⟨⟨xT 582 (by decide +kernel) rfl, xT 5 (by decide +kernel) rfl, xT 421 (by decide +kernel) rfl, by decide +kernel, by decide +kernel, by decide +kernel, by decide +kernel⟩, xT 419 (by decide +kernel) rfl, xT 420 (by decide +kernel) rfl, rfl⟩
theorem kX8_223 : xLnkV RX8 223 mX0_gather 0 2 := ⟨⟨xT 583 (by decide +kernel) rfl, xT 9 (by decide +kernel) rfl, xT 586 (by decide +kernel) rfl, by decide +kernel, by decide +kernel, by decide +kernel, by decide +kernel⟩, xT 584 (by decide +kernel) rfl, xT 585 (by decide +kernel) rfl, rfl⟩
theorem kX0_34 : xLnkV RX0 34 mX3_isOf 3 2 := ⟨⟨xT 587 (by decide +kernel) rfl, xT 5 (by decide +kernel) rfl, xT 421 (by decide +kernel) rfl, by decide +kernel, by decide +kernel, by decide +kernel, by decide +kernel⟩, xT 419 (by decide +kernel) rfl, xT 420 (by decide +kernel) rfl, rfl⟩
theorem kX0_48 : xLnkV RX0 48 mX0_take 0 1 := ⟨⟨xT 588 (by decide +kernel) rfl, xT 9 (by decide +kernel) rfl, xT 591 (by decide +kernel) rfl, by decide +kernel, by decide +kernel, by decide +kernel, by decide +kernel⟩, xT 590 (by decide +kernel) rfl, xTp 13 (n := 5) (by decide +kernel), rfl⟩
theorem kX8_227 : xLnkV RX8 227 mX0_sort 0 1 := ⟨⟨xT 592 (by decide +kernel) rfl, xT 9 (by decide +kernel) rfl, xT 595 (by decide +kernel) rfl, by decide +kernel, by decide +kernel, by decide +kernel, by decide +kernel⟩, xT 593 (by decide +kernel) rfl, xT 594 (by decide +kernel) rfl, rfl⟩
theorem kX0_58 : xLnkV RX0 58 mX2_isAhead 2 2 := ⟨⟨xT 596 (by decide +kernel) rfl, xT 2 (by decide +kernel) rfl, xT 348 (by decide +kernel) rfl, by decide +kernel, by decide +kernel, by decide +kernel, by decide +kernel⟩, xT 346 (by decide +kernel) rfl, xT 347 (by decide +kernel) rfl, rfl⟩
theorem kX8_230 : xLnkV RX8 230 mX0_wrap 0 1 := ⟨⟨xT 597 (by decide +kernel) rfl, xT 9 (by decide +kernel) rfl, xT 600 (by decide +kernel) rfl, by decide +kernel, by decide +kernel, by decide +kernel, by decide +kernel⟩, xT 598 (by decide +kernel) rfl, xT 599 (by decide +kernel) rfl, rfl⟩
theorem kX0_63 : xLnkV RX0 63 mX0_append 0 3 := ⟨⟨xT 601 (by decide +kernel) rfl, xT 9 (by decide +kernel) rfl, xT 604 (by decide +kernel) rfl, by decide +kernel, by decide +kernel, by decide +kernel, by decide +kernel⟩, xT 603 (by decide +kernel) rfl, xTp 14 (n := 5) (by decide +kernel), rfl⟩
theorem kX0_67 : xLnkV RX0 67 mX2_turn 2 3 := ⟨⟨xT 605 (by decide +kernel) rfl, xT 2 (by decide +kernel) rfl, xT 311 (by decide +kernel) rfl, by decide +kernel, by decide +kernel, by decide +kernel, by decide +kernel⟩, xT 309 (by decide +kernel) rfl, xT 310 (by decide +kernel) rfl, rfl⟩
theorem kX8_241 : xLnkV RX8 241 mX2_measure 2 2 := ⟨⟨xT 614 (by decide +kernel) rfl, xT 2 (by decide +kernel) rfl, xT 617 (by decide +kernel) rfl, by decide +kernel, by decide +kernel, by decide +kernel, by decide +kernel⟩, xT 615 (by decide +kernel) rfl, xT 616 (by decide +kernel) rfl, rfl⟩
theorem kX2_107 : xLnkV RX2 107 mX4_around 4 1 := ⟨⟨xT 618 (by decide +kernel) rfl, xT 7 (by decide +kernel) rfl, xT 408 (by decide +kernel) rfl, by decide +kernel, by decide +kernel, by decide +kernel, by decide +kernel⟩, xT 406 (by decide +kernel) rfl, xT 407 (by decide +kernel) rfl, rfl⟩
theorem kX2_111 : xLnkV RX2 111 mX7_carry 7 0 := ⟨⟨xT 619 (by decide +kernel) rfl, xT 3 (by decide +kernel) rfl, xT 622 (by decide +kernel) rfl, by decide +kernel, by decide +kernel, by decide +kernel, by decide +kernel⟩, xT 620 (by decide +kernel) rfl, xT 621 (by decide +kernel) rfl, rfl⟩
theorem kX8_245 : xLnkV RX8 245 mX7_wholePart 7 0 := ⟨⟨xT 623 (by decide +kernel) rfl, xT 3 (by decide +kernel) rfl, xT 626 (by decide +kernel) rfl, by decide +kernel, by decide +kernel, by decide +kernel, by decide +kernel⟩, xT 624 (by decide +kernel) rfl, xT 625 (by decide +kernel) rfl, rfl⟩
theorem kX8_254 : xLnkV RX8 254 mX7_against 7 1 := ⟨⟨xT 631 (by decide +kernel) rfl, xT 3 (by decide +kernel) rfl, xT 634 (by decide +kernel) rfl, by decide +kernel, by decide +kernel, by decide +kernel, by decide +kernel⟩, xT 632 (by decide +kernel) rfl, xT 633 (by decide +kernel) rfl, rfl⟩
theorem kX8_258 : xLnkV RX8 258 mX6_weigh 6 3 := ⟨⟨xT 639 (by decide +kernel) rfl, xT 8 (by decide +kernel) rfl, xT 642 (by decide +kernel) rfl, by decide +kernel, by decide +kernel, by decide +kernel, by decide +kernel⟩, xT 640 (by decide +kernel) rfl, xT 641 (by decide +kernel) rfl, rfl⟩
theorem kX6_28 : xLnkV RX6 28 mX7_clear 7 0 := ⟨⟨xT 643 (by decide +kernel) rfl, xT 3 (by decide +kernel) rfl, xT 319 (by decide +kernel) rfl, by decide +kernel, by decide +kernel, by decide +kernel, by decide +kernel⟩, xT 317 (by decide +kernel) rfl, xT 318 (by decide +kernel) rfl, rfl⟩
theorem kX6_37 : xLnkV RX6 37 mX3_isOf 3 2 := ⟨⟨xT 644 (by decide +kernel) rfl, xT 5 (by decide +kernel) rfl, xT 421 (by decide +kernel) rfl, by decide +kernel, by decide +kernel, by decide +kernel, by decide +kernel⟩, xT 419 (by decide +kernel) rfl, xT 420 (by decide +kernel) rfl, rfl⟩
theorem kX6_51 : xLnkV RX6 51 mX2_measure 2 2 := ⟨⟨xT 645 (by decide +kernel) rfl, xT 2 (by decide +kernel) rfl, xT 617 (by decide +kernel) rfl, by decide +kernel, by decide +kernel, by decide +kernel, by decide +kernel⟩, xT 615 (by decide +kernel) rfl, xT 616 (by decide +kernel) rfl, rfl⟩
theorem kX6_57 : xLnkV RX6 57 mX7_plus 7 2 := ⟨⟨xT 646 (by decide +kernel) rfl, xT 3 (by decide +kernel) rfl, xT 649 (by decide +kernel) rfl, by decide +kernel, by decide +kernel, by decide +kernel, by decide +kernel⟩, xT 647 (by decide +kernel) rfl, xT 648 (by decide +kernel) rfl, rfl⟩
theorem kX6_61 : xLnkV RX6 61 mX7_carry 7 0 := ⟨⟨xT 650 (by decide +kernel) rfl, xT 3 (by decide +kernel) rfl, xT 622 (by decide +kernel) rfl, by decide +kernel, by decide +kernel, by decide +kernel, by decide +kernel⟩, xT 620 (by decide +kernel) rfl, xT 621 (by decide +kernel) rfl, rfl⟩
theorem kX8_262 : xLnkV RX8 262 mX6_shareOf 6 4 := ⟨⟨xT 651 (by decide +kernel) rfl, xT 8 (by decide +kernel) rfl, xT 654 (by decide +kernel) rfl, by decide +kernel, by decide +kernel, by decide +kernel, by decide +kernel⟩, xT 652 (by decide +kernel) rfl, xT 653 (by decide +kernel) rfl, rfl⟩
theorem kX6_64 : xLnkV RX6 64 mX6_cutShare 6 2 := ⟨⟨xT 655 (by decide +kernel) rfl, xT 8 (by decide +kernel) rfl, xT 658 (by decide +kernel) rfl, by decide +kernel, by decide +kernel, by decide +kernel, by decide +kernel⟩, xT 657 (by decide +kernel) rfl, xTp 15 (n := 4) (by decide +kernel), rfl⟩
theorem kX6_72 : xLnkV RX6 72 mX7_copy 7 1 := ⟨⟨xT 659 (by decide +kernel) rfl, xT 3 (by decide +kernel) rfl, xT 662 (by decide +kernel) rfl, by decide +kernel, by decide +kernel, by decide +kernel, by decide +kernel⟩, xT 660 (by decide +kernel) rfl, xT 661 (by decide +kernel) rfl, rfl⟩
theorem kX6_76 : xLnkV RX6 76 mX7_sign 7 0 := ⟨⟨xT 663 (by decide +kernel) rfl, xT 3 (by decide +kernel) rfl, xT 323 (by decide +kernel) rfl, by decide +kernel, by decide +kernel, by decide +kernel, by decide +kernel⟩, xT 321 (by decide +kernel) rfl, xT 322 (by decide +kernel) rfl, rfl⟩
theorem kX6_68 : xLnkV RX6 68 mX7_against 7 1 := ⟨⟨xT 664 (by decide +kernel) rfl, xT 3 (by decide +kernel) rfl, xT 634 (by decide +kernel) rfl, by decide +kernel, by decide +kernel, by decide +kernel, by decide +kernel⟩, xT 632 (by decide +kernel) rfl, xT 633 (by decide +kernel) rfl, rfl⟩
theorem kX8_269 : xLnkV RX8 269 mX3_restore 3 0 := ⟨⟨xT 669 (by decide +kernel) rfl, xT 5 (by decide +kernel) rfl, xT 672 (by decide +kernel) rfl, by decide +kernel, by decide +kernel, by decide +kernel, by decide +kernel⟩, xT 670 (by decide +kernel) rfl, xT 671 (by decide +kernel) rfl, rfl⟩
theorem kX9_176 : xLnkS RX9 176 mX9_isNumber 1 := ⟨⟨xT 823 (by decide +kernel) rfl, xT 10 (by decide +kernel) rfl, xT 825 (by decide +kernel) rfl, by decide +kernel, by decide +kernel, by decide +kernel, by decide +kernel⟩, xT 824 (by decide +kernel) rfl⟩
theorem kX9_132 : xLnkS RX9 132 mX9_plain 1 := ⟨⟨xT 829 (by decide +kernel) rfl, xT 10 (by decide +kernel) rfl, xT 831 (by decide +kernel) rfl, by decide +kernel, by decide +kernel, by decide +kernel, by decide +kernel⟩, xT 830 (by decide +kernel) rfl⟩
theorem kX9_180 : xLnkV RX9 180 mX9_lay 9 3 := ⟨⟨xT 832 (by decide +kernel) rfl, xT 10 (by decide +kernel) rfl, xT 835 (by decide +kernel) rfl, by decide +kernel, by decide +kernel, by decide +kernel, by decide +kernel⟩, xT 834 (by decide +kernel) rfl, xTp 16 (n := 43) (by decide +kernel), rfl⟩
theorem kX9_136 : xLnkS RX9 136 mX9_whole 3 := ⟨⟨xT 836 (by decide +kernel) rfl, xT 10 (by decide +kernel) rfl, xT 838 (by decide +kernel) rfl, by decide +kernel, by decide +kernel, by decide +kernel, by decide +kernel⟩, xT 837 (by decide +kernel) rfl⟩
theorem kX9_128 : xLnkS RX9 128 mX9_carry 3 := ⟨⟨xT 844 (by decide +kernel) rfl, xT 10 (by decide +kernel) rfl, xT 846 (by decide +kernel) rfl, by decide +kernel, by decide +kernel, by decide +kernel, by decide +kernel⟩, xT 845 (by decide +kernel) rfl⟩
theorem kX9_184 : xLnkV RX9 184 mX9_isCorner 9 1 := ⟨⟨xT 851 (by decide +kernel) rfl, xT 10 (by decide +kernel) rfl, xT 854 (by decide +kernel) rfl, by decide +kernel, by decide +kernel, by decide +kernel, by decide +kernel⟩, xT 853 (by decide +kernel) rfl, xTp 17 (n := 43) (by decide +kernel), rfl⟩
theorem kX9_173 : xLnkS RX9 173 mX9_in 3 := ⟨⟨xT 855 (by decide +kernel) rfl, xT 10 (by decide +kernel) rfl, xT 857 (by decide +kernel) rfl, by decide +kernel, by decide +kernel, by decide +kernel, by decide +kernel⟩, xT 856 (by decide +kernel) rfl⟩
theorem kX9_198 : xLnkS RX9 198 mX9_size 1 := ⟨⟨xT 867 (by decide +kernel) rfl, xT 10 (by decide +kernel) rfl, xT 869 (by decide +kernel) rfl, by decide +kernel, by decide +kernel, by decide +kernel, by decide +kernel⟩, xT 868 (by decide +kernel) rfl⟩
theorem kX9_162 : xLnkV RX9 162 mX9_turn 9 3 := ⟨⟨xT 871 (by decide +kernel) rfl, xT 10 (by decide +kernel) rfl, xT 874 (by decide +kernel) rfl, by decide +kernel, by decide +kernel, by decide +kernel, by decide +kernel⟩, xT 873 (by decide +kernel) rfl, xTp 18 (n := 43) (by decide +kernel), rfl⟩
theorem kX9_144 : xLnkS RX9 144 mX9_clear 3 := ⟨⟨xT 875 (by decide +kernel) rfl, xT 10 (by decide +kernel) rfl, xT 877 (by decide +kernel) rfl, by decide +kernel, by decide +kernel, by decide +kernel, by decide +kernel⟩, xT 876 (by decide +kernel) rfl⟩
theorem kX9_147 : xLnkV RX9 147 mX9_times 9 9 := ⟨⟨xT 878 (by decide +kernel) rfl, xT 10 (by decide +kernel) rfl, xT 881 (by decide +kernel) rfl, by decide +kernel, by decide +kernel, by decide +kernel, by decide +kernel⟩, xT 880 (by decide +kernel) rfl, xTp 19 (n := 43) (by decide +kernel), rfl⟩
theorem kX9_151 : xLnkS RX9 151 mX9_signOf 3 := ⟨⟨xT 882 (by decide +kernel) rfl, xT 10 (by decide +kernel) rfl, xT 884 (by decide +kernel) rfl, by decide +kernel, by decide +kernel, by decide +kernel, by decide +kernel⟩, xT 883 (by decide +kernel) rfl⟩
theorem kX9_204 : xLnkV RX9 204 mX9_common 9 4 := ⟨⟨xT 893 (by decide +kernel) rfl, xT 10 (by decide +kernel) rfl, xT 896 (by decide +kernel) rfl, by decide +kernel, by decide +kernel, by decide +kernel, by decide +kernel⟩, xT 895 (by decide +kernel) rfl, xTp 20 (n := 43) (by decide +kernel), rfl⟩
theorem kX9_158 : xLnkV RX9 158 mX9_ahead 9 2 := ⟨⟨xT 897 (by decide +kernel) rfl, xT 10 (by decide +kernel) rfl, xT 900 (by decide +kernel) rfl, by decide +kernel, by decide +kernel, by decide +kernel, by decide +kernel⟩, xT 899 (by decide +kernel) rfl, xTp 21 (n := 43) (by decide +kernel), rfl⟩
theorem kX9_155 : xLnkS RX9 155 mX9_order 3 := ⟨⟨xT 901 (by decide +kernel) rfl, xT 10 (by decide +kernel) rfl, xT 903 (by decide +kernel) rfl, by decide +kernel, by decide +kernel, by decide +kernel, by decide +kernel⟩, xT 902 (by decide +kernel) rfl⟩
theorem kX9_166 : xLnkV RX9 166 mX9_isBetween 9 3 := ⟨⟨xT 904 (by decide +kernel) rfl, xT 10 (by decide +kernel) rfl, xT 907 (by decide +kernel) rfl, by decide +kernel, by decide +kernel, by decide +kernel, by decide +kernel⟩, xT 906 (by decide +kernel) rfl, xTp 22 (n := 43) (by decide +kernel), rfl⟩
theorem kX9_208 : xLnkS RX9 208 mX9_less 4 := ⟨⟨xT 912 (by decide +kernel) rfl, xT 10 (by decide +kernel) rfl, xT 914 (by decide +kernel) rfl, by decide +kernel, by decide +kernel, by decide +kernel, by decide +kernel⟩, xT 913 (by decide +kernel) rfl⟩
theorem kX9_268 : xLnkV RX9 268 mX9_faultOf 9 0 := ⟨⟨xT 927 (by decide +kernel) rfl, xT 10 (by decide +kernel) rfl, xT 930 (by decide +kernel) rfl, by decide +kernel, by decide +kernel, by decide +kernel, by decide +kernel⟩, xT 929 (by decide +kernel) rfl, xTp 23 (n := 43) (by decide +kernel), rfl⟩
theorem kX9_221 : xLnkV RX9 221 mX9_fault 9 2 := ⟨⟨xT 931 (by decide +kernel) rfl, xT 10 (by decide +kernel) rfl, xT 934 (by decide +kernel) rfl, by decide +kernel, by decide +kernel, by decide +kernel, by decide +kernel⟩, xT 933 (by decide +kernel) rfl, xTp 24 (n := 43) (by decide +kernel), rfl⟩
theorem kX9_272 : xLnkV RX9 272 mX9_turnLeft 9 0 := ⟨⟨xT 935 (by decide +kernel) rfl, xT 10 (by decide +kernel) rfl, xT 938 (by decide +kernel) rfl, by decide +kernel, by decide +kernel, by decide +kernel, by decide +kernel⟩, xT 937 (by decide +kernel) rfl, xTp 25 (n := 43) (by decide +kernel), rfl⟩
theorem kX9_234 : xLnkV RX9 234 mX9_store 9 1 := ⟨⟨xT 939 (by decide +kernel) rfl, xT 10 (by decide +kernel) rfl, xT 942 (by decide +kernel) rfl, by decide +kernel, by decide +kernel, by decide +kernel, by decide +kernel⟩, xT 941 (by decide +kernel) rfl, xTp 26 (n := 43) (by decide +kernel), rfl⟩
theorem kX9_275 : xLnkV RX9 275 mX9_overOf 9 3 := ⟨⟨xT 943 (by decide +kernel) rfl, xT 10 (by decide +kernel) rfl, xT 946 (by decide +kernel) rfl, by decide +kernel, by decide +kernel, by decide +kernel, by decide +kernel⟩, xT 945 (by decide +kernel) rfl, xTp 27 (n := 43) (by decide +kernel), rfl⟩
theorem kX9_264 : xLnkV RX9 264 mX9_lieOver 9 2 := ⟨⟨xT 947 (by decide +kernel) rfl, xT 10 (by decide +kernel) rfl, xT 950 (by decide +kernel) rfl, by decide +kernel, by decide +kernel, by decide +kernel, by decide +kernel⟩, xT 949 (by decide +kernel) rfl, xTp 28 (n := 43) (by decide +kernel), rfl⟩
theorem kX9_241 : xLnkV RX9 241 mX9_of 9 2 := ⟨⟨xT 951 (by decide +kernel) rfl, xT 10 (by decide +kernel) rfl, xT 954 (by decide +kernel) rfl, by decide +kernel, by decide +kernel, by decide +kernel, by decide +kernel⟩, xT 953 (by decide +kernel) rfl, xTp 29 (n := 43) (by decide +kernel), rfl⟩
theorem kX9_260 : xLnkV RX9 260 mX9_passes 9 3 := ⟨⟨xT 955 (by decide +kernel) rfl, xT 10 (by decide +kernel) rfl, xT 958 (by decide +kernel) rfl, by decide +kernel, by decide +kernel, by decide +kernel, by decide +kernel⟩, xT 957 (by decide +kernel) rfl, xTp 30 (n := 43) (by decide +kernel), rfl⟩
theorem kX9_250 : xLnkV RX9 250 mX9_isOn 9 3 := ⟨⟨xT 959 (by decide +kernel) rfl, xT 10 (by decide +kernel) rfl, xT 962 (by decide +kernel) rfl, by decide +kernel, by decide +kernel, by decide +kernel, by decide +kernel⟩, xT 961 (by decide +kernel) rfl, xTp 31 (n := 43) (by decide +kernel), rfl⟩
theorem kX9_253 : xLnkV RX9 253 mX9_middle 9 2 := ⟨⟨xT 963 (by decide +kernel) rfl, xT 10 (by decide +kernel) rfl, xT 966 (by decide +kernel) rfl, by decide +kernel, by decide +kernel, by decide +kernel, by decide +kernel⟩, xT 965 (by decide +kernel) rfl, xTp 32 (n := 43) (by decide +kernel), rfl⟩
theorem kX9_140 : xLnkS RX9 140 mX9_halve 1 := ⟨⟨xT 967 (by decide +kernel) rfl, xT 10 (by decide +kernel) rfl, xT 969 (by decide +kernel) rfl, by decide +kernel, by decide +kernel, by decide +kernel, by decide +kernel⟩, xT 968 (by decide +kernel) rfl⟩
theorem kX9_257 : xLnkV RX9 257 mX9_lies 9 2 := ⟨⟨xT 970 (by decide +kernel) rfl, xT 10 (by decide +kernel) rfl, xT 973 (by decide +kernel) rfl, by decide +kernel, by decide +kernel, by decide +kernel, by decide +kernel⟩, xT 972 (by decide +kernel) rfl, xTp 33 (n := 43) (by decide +kernel), rfl⟩
theorem kX9_278 : xLnkV RX9 278 mX9_keep 9 0 := ⟨⟨xT 974 (by decide +kernel) rfl, xT 10 (by decide +kernel) rfl, xT 977 (by decide +kernel) rfl, by decide +kernel, by decide +kernel, by decide +kernel, by decide +kernel⟩, xT 976 (by decide +kernel) rfl, xTp 34 (n := 43) (by decide +kernel), rfl⟩
theorem kX9_281 : xLnkV RX9 281 mX9_made 9 2 := ⟨⟨xT 978 (by decide +kernel) rfl, xT 10 (by decide +kernel) rfl, xT 981 (by decide +kernel) rfl, by decide +kernel, by decide +kernel, by decide +kernel, by decide +kernel⟩, xT 980 (by decide +kernel) rfl, xTp 35 (n := 43) (by decide +kernel), rfl⟩
theorem kX9_284 : xLnkV RX9 284 mX9_isParcel 9 1 := ⟨⟨xT 990 (by decide +kernel) rfl, xT 10 (by decide +kernel) rfl, xT 993 (by decide +kernel) rfl, by decide +kernel, by decide +kernel, by decide +kernel, by decide +kernel⟩, xT 992 (by decide +kernel) rfl, xTp 36 (n := 43) (by decide +kernel), rfl⟩
theorem kX9_287 : xLnkV RX9 287 mX9_there 9 1 := ⟨⟨xT 1002 (by decide +kernel) rfl, xT 10 (by decide +kernel) rfl, xT 1005 (by decide +kernel) rfl, by decide +kernel, by decide +kernel, by decide +kernel, by decide +kernel⟩, xT 1004 (by decide +kernel) rfl, xTp 37 (n := 43) (by decide +kernel), rfl⟩
theorem kX9_291 : xLnkV RX9 291 mX9_isInside 9 3 := ⟨⟨xT 1010 (by decide +kernel) rfl, xT 10 (by decide +kernel) rfl, xT 1013 (by decide +kernel) rfl, by decide +kernel, by decide +kernel, by decide +kernel, by decide +kernel⟩, xT 1012 (by decide +kernel) rfl, xTp 38 (n := 43) (by decide +kernel), rfl⟩
theorem kX9_294 : xLnkV RX9 294 mX9_reverse 9 3 := ⟨⟨xT 1018 (by decide +kernel) rfl, xT 10 (by decide +kernel) rfl, xT 1021 (by decide +kernel) rfl, by decide +kernel, by decide +kernel, by decide +kernel, by decide +kernel⟩, xT 1020 (by decide +kernel) rfl, xTp 39 (n := 43) (by decide +kernel), rfl⟩
theorem kX9_297 : xLnkV RX9 297 mX9_load 9 1 := ⟨⟨xT 1026 (by decide +kernel) rfl, xT 10 (by decide +kernel) rfl, xT 1029 (by decide +kernel) rfl, by decide +kernel, by decide +kernel, by decide +kernel, by decide +kernel⟩, xT 1028 (by decide +kernel) rfl, xTp 40 (n := 43) (by decide +kernel), rfl⟩
theorem kX9_300 : xLnkV RX9 300 mX9_borders 9 2 := ⟨⟨xT 1034 (by decide +kernel) rfl, xT 10 (by decide +kernel) rfl, xT 1037 (by decide +kernel) rfl, by decide +kernel, by decide +kernel, by decide +kernel, by decide +kernel⟩, xT 1036 (by decide +kernel) rfl, xTp 41 (n := 43) (by decide +kernel), rfl⟩
theorem kX9_303 : xLnkV RX9 303 mX9_comes 9 2 := ⟨⟨xT 1058 (by decide +kernel) rfl, xT 10 (by decide +kernel) rfl, xT 1061 (by decide +kernel) rfl, by decide +kernel, by decide +kernel, by decide +kernel, by decide +kernel⟩, xT 1060 (by decide +kernel) rfl, xTp 42 (n := 43) (by decide +kernel), rfl⟩
theorem kX9_306 : xLnkV RX9 306 mX9_weigh 9 1 := ⟨⟨xT 1070 (by decide +kernel) rfl, xT 10 (by decide +kernel) rfl, xT 1073 (by decide +kernel) rfl, by decide +kernel, by decide +kernel, by decide +kernel, by decide +kernel⟩, xT 1072 (by decide +kernel) rfl, xTp 43 (n := 43) (by decide +kernel), rfl⟩
theorem kX9_309 : xLnkV RX9 309 mX9_shareOf 9 2 := ⟨⟨xT 1082 (by decide +kernel) rfl, xT 10 (by decide +kernel) rfl, xT 1085 (by decide +kernel) rfl, by decide +kernel, by decide +kernel, by decide +kernel, by decide +kernel⟩, xT 1084 (by decide +kernel) rfl, xTp 44 (n := 43) (by decide +kernel), rfl⟩
