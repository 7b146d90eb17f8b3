/-! TABLES, by program (wip/whole/gen.py): classes, fields, methods, links by their places in lw_tbl -/
def pv_Rn (i : Nat) : String := [RX0, RX1, RX2, RX3, RX4, RX5, RX6, RX7, RX8, RX9, RX10, RL, RJ6, "java/lang/Math"].getD i ""
def pv_T (i : Nat) : u_T := [TX0, TX1, TX2, TX3, TX4, TX5, TX6, TX7, TX8, TX9, TX10].getD i TX0
def pv_ty (i : Nat) : Nat → FieldType := [tyX0, tyX1, tyX2, tyX3, tyX4, tyX5, tyX6, tyX7, tyX8, tyX9, tyX10].getD i tyX0
def pv_N (i : Nat) : Nat := [2, 5, 3, 13, 10, 3, 7, 9, 5, 13, 40].getD i 0
/-- kinds of fields: 0 int, 1 boolean, 2 a reference -/
def pv_K (i k : Nat) : Nat := ([[2, 0], [2, 2, 0, 0, 2], [0, 0, 0], [0, 0, 2, 2, 0, 0, 0, 2, 2, 2, 2, 2, 2], [2, 0, 0, 0, 2, 0, 0, 0, 0, 0], [1, 2, 2], [2, 2, 2, 0, 0, 0, 0], [0, 2, 0, 2, 2, 2, 2, 2, 2], [0, 2, 2, 2, 2], [2, 0, 2, 2, 2, 2, 2, 2, 2, 2, 2, 2, 2], [0, 2, 0, 0, 0, 2, 0, 2, 2, 2, 2, 2, 2, 2, 2, 0, 0, 0, 0, 2, 2, 0, 2, 2, 2, 0, 2, 2, 2, 2, 2, 2, 0, 0, 2, 2, 2, 0, 0, 0]].getD i []).getD k 0
def pv_Fi (i k : Nat) : Bool := ([[true, false], [false, false, false, false, true], [false, false, false], [false, false, true, false, false, false, false, true, true, true, true, true, true], [false, false, false, false, true, false, false, false, false, false], [false, true, true], [true, true, true, false, false, false, false], [false, true, false, true, true, true, true, true, true], [false, true, true, true, true], [true, false, true, false, true, true, true, true, true, true, true, true, true], [false, true, false, false, false, true, false, true, true, true, true, true, true, true, true, false, false, false, false, true, true, false, true, true, true, false, true, true, true, true, true, true, false, false, true, true, true, false, false, false]].getD i []).getD k false
abbrev PvM : Type := MethodName × ByteArray × Nat × Option FieldType × Nat × Nat × Nat × Nat × Bool
/-- methods: name, code, locals, answer, own class, how many arguments, cells and slots made, a constructor -/
def pv_M0 : List PvM := [(yX0_init, cX0_init, 2, none, 0, 0, 41, 320, true),
  (yX0_remember, cX0_remember, 2, none, 0, 1, 0, 0, false),
  (yX0_forgetFirst, cX0_forgetFirst, 3, none, 0, 0, 0, 0, false),
  (yX0_takeBack, cX0_takeBack, 2, none, 0, 1, 0, 0, false),
  (yX1_init, cX1_init, 1, none, 1, 0, 1, 5, true),
  (yX1_fewestSteps, cX1_fewestSteps, 4, (some .int), 1, 3, 0, 0, false),
  (yX1_place, cX1_place, 5, none, 1, 3, 0, 0, false),
  (yX2_init, cX2_init, 1, none, 2, 0, 0, 0, true),
  (yX2_search, cX2_search, 5, none, 2, 3, 0, 0, false),
  (yX2_weigh, cX2_weigh, 9, none, 2, 4, 0, 0, false),
  (yX2_wholeTenths, cX2_wholeTenths, 2, (some .int), 2, 2, 0, 0, false),
  (yX3_init, cX3_init, 1, none, 3, 0, 14, 74, true),
  (yX3_plan, cX3_plan, 8, none, 3, 4, 0, 0, false),
  (yX3_worthWhenDamp, cX3_worthWhenDamp, 7, (some .int), 3, 4, 0, 0, false),
  (yX3_choose, cX3_choose, 14, none, 3, 4, 0, 0, false),
  (yX3_note, cX3_note, 4, none, 3, 2, 0, 0, false),
  (yX4_init, cX4_init, 1, none, 4, 0, 9, 67, true),
  (yX4_firstFault, cX4_firstFault, 4, (some .int), 4, 2, 0, 0, false),
  (yX4_takes, cX4_takes, 3, (some .boolean), 4, 1, 0, 0, false),
  (yX4_takesPart, cX4_takesPart, 2, (some .boolean), 4, 1, 0, 0, false)]
def pv_M1 : List PvM := [(yX4_takesFigure, cX4_takesFigure, 2, (some .boolean), 4, 1, 0, 0, false),
  (yX4_takesFloors, cX4_takesFloors, 2, (some .boolean), 4, 1, 0, 0, false),
  (yX4_takesTens, cX4_takesTens, 2, (some .boolean), 4, 1, 0, 0, false),
  (yX4_takesOnes, cX4_takesOnes, 2, (some .boolean), 4, 1, 0, 0, false),
  (yX4_takesWeight, cX4_takesWeight, 2, (some .boolean), 4, 1, 0, 0, false),
  (yX4_takesWorth, cX4_takesWorth, 2, (some .boolean), 4, 1, 0, 0, false),
  (yX4_takesAsked, cX4_takesAsked, 2, (some .boolean), 4, 1, 0, 0, false),
  (yX4_takesKind, cX4_takesKind, 2, (some .boolean), 4, 1, 0, 0, false),
  (yX4_takesPlace, cX4_takesPlace, 3, (some .boolean), 4, 1, 0, 0, false),
  (yX4_takesCiting, cX4_takesCiting, 2, (some .boolean), 4, 1, 0, 0, false),
  (yX4_takesCited, cX4_takesCited, 2, (some .boolean), 4, 1, 0, 0, false),
  (yX4_hasRoom, cX4_hasRoom, 3, (some .boolean), 4, 1, 0, 0, false),
  (yX4_placeAhead, cX4_placeAhead, 1, (some .int), 4, 0, 0, 0, false),
  (yX4_bearsIt, cX4_bearsIt, 2, (some .boolean), 4, 1, 0, 0, false),
  (yX4_someoneCanCite, cX4_someoneCanCite, 2, (some .boolean), 4, 0, 0, 0, false),
  (yX4_canCite, cX4_canCite, 2, (some .boolean), 4, 1, 0, 0, false),
  (yX4_citableBy, cX4_citableBy, 3, (some .int), 4, 1, 0, 0, false),
  (yX5_init, cX5_init, 1, none, 5, 0, 5, 39, true),
  (yX6_init, cX6_init, 1, none, 6, 0, 3, 24, true),
  (yX6_begin, cX6_begin, 2, none, 6, 1, 0, 0, false)]
def pv_M2 : List PvM := [(yX6_copy, cX6_copy, 2, none, 6, 1, 0, 0, false),
  (yX6_copyRecords, cX6_copyRecords, 4, none, 6, 3, 0, 0, false),
  (yX6_isThere, cX6_isThere, 2, (some .boolean), 6, 1, 0, 0, false),
  (yX6_standingOn, cX6_standingOn, 5, (some .int), 6, 2, 0, 0, false),
  (yX6_keptWorth, cX6_keptWorth, 4, (some .int), 6, 1, 0, 0, false),
  (yX6_stepsAsked, cX6_stepsAsked, 4, (some .int), 6, 1, 0, 0, false),
  (yX6_hangingTogether, cX6_hangingTogether, 5, (some .int), 6, 2, 0, 0, false),
  (yX6_isJoined, cX6_isJoined, 2, (some .boolean), 6, 1, 0, 0, false),
  (yX6_raise, cX6_raise, 4, none, 6, 2, 0, 0, false),
  (yX6_sink, cX6_sink, 4, (some .int), 6, 1, 0, 0, false),
  (yX6_writeAgain, cX6_writeAgain, 5, none, 6, 3, 0, 0, false),
  (yX7_init, cX7_init, 1, none, 7, 0, 7, 53, true),
  (yX7_citing, cX7_citing, 3, (some .boolean), 7, 2, 0, 0, false),
  (yX7_weightOf, cX7_weightOf, 4, (some .int), 7, 1, 0, 0, false),
  (yX8_init, cX8_init, 1, none, 8, 0, 4, 32, true),
  (yX8_gather, cX8_gather, 5, none, 8, 2, 0, 0, false),
  (yX8_askedFor, cX8_askedFor, 4, (some .int), 8, 2, 0, 0, false),
  (yX8_holding, cX8_holding, 3, (some .int), 8, 1, 0, 0, false),
  (yX9_init, cX9_init, 1, none, 9, 0, 101, 797, true),
  (yX9_write, cX9_write, 5, (some .int), 9, 2, 0, 0, false)]
def pv_M3 : List PvM := [(yX9_wipe, cX9_wipe, 2, (some .int), 9, 0, 0, 0, false),
  (yX9_fault, cX9_fault, 1, (some .int), 9, 0, 0, 0, false),
  (yX9_tower, cX9_tower, 3, (some .int), 9, 0, 0, 0, false),
  (yX9_about, cX9_about, 2, (some .int), 9, 1, 0, 0, false),
  (yX9_floor, cX9_floor, 3, (some .int), 9, 2, 0, 0, false),
  (yX9_record, cX9_record, 3, (some .int), 9, 2, 0, 0, false),
  (yX9_cites, cX9_cites, 3, (some .int), 9, 2, 0, 0, false),
  (yX9_effort, cX9_effort, 3, (some .int), 9, 1, 0, 0, false),
  (yX9_carry, cX9_carry, 6, (some .int), 9, 2, 0, 0, false),
  (yX9_together, cX9_together, 2, (some .int), 9, 1, 0, 0, false),
  (yX9_decade, cX9_decade, 1, (some .int), 9, 0, 0, 0, false),
  (yX9_anew, cX9_anew, 4, (some .int), 9, 2, 0, 0, false),
  (yX9_undo, cX9_undo, 1, (some .int), 9, 0, 0, 0, false),
  (yX9_most, cX9_most, 3, (some .int), 9, 1, 0, 0, false),
  (yX9_least, cX9_least, 3, (some .int), 9, 1, 0, 0, false),
  (yX9_planAt, cX9_planAt, 5, (some .int), 9, 2, 0, 0, false),
  (yX9_atHand, cX9_atHand, 1, (some .int), 9, 0, 0, 0, false),
  (yX9_index, cX9_index, 4, (some .int), 9, 2, 0, 0, false),
  (yX9_lookUp, cX9_lookUp, 2, (some .int), 9, 1, 0, 0, false),
  (yX9_lies, cX9_lies, 4, (some .int), 9, 1, 0, 0, false)]
def pv_M4 : List PvM := [(yX9_mend, cX9_mend, 3, (some .int), 9, 0, 0, 0, false),
  (yX9_dive, cX9_dive, 3, (some .int), 9, 2, 0, 0, false),
  (yX9_dry, cX9_dry, 6, (some .long), 9, 4, 0, 0, false),
  (yX9_keep, cX9_keep, 3, (some .int), 9, 1, 0, 0, false),
  (yX9_again, cX9_again, 3, (some .int), 9, 1, 0, 0, false),
  (yX9_isFloor, cX9_isFloor, 2, (some .boolean), 9, 1, 0, 0, false),
  (yX9_isRecord, cX9_isRecord, 2, (some .boolean), 9, 1, 0, 0, false),
  (yX9_thereCount, cX9_thereCount, 1, (some .int), 9, 0, 0, 0, false),
  (yX9_bearsMore, cX9_bearsMore, 4, (some .boolean), 9, 2, 0, 0, false),
  (yX9_citingThere, cX9_citingThere, 4, (some .int), 9, 1, 0, 0, false),
  (yX9_liesAbout, cX9_liesAbout, 2, (some .boolean), 9, 1, 0, 0, false),
  (yX9_planRefusal, cX9_planRefusal, 2, (some .int), 9, 1, 0, 0, false),
  (yX9_makePlan, cX9_makePlan, 2, none, 9, 1, 0, 0, false),
  (yX9_floorsSearched, cX9_floorsSearched, 5, (some .int), 9, 2, 0, 0, false),
  (yX9_waysOfFewFloods, cX9_waysOfFewFloods, 8, (some .long), 9, 3, 0, 0, false),
  (yX9_power, cX9_power, 5, (some .long), 9, 2, 0, 0, false),
  (yX9_leastTerms, cX9_leastTerms, 7, (some .long), 9, 3, 0, 0, false),
  (yX9_commonDivisor, cX9_commonDivisor, 11, (some .long), 9, 2, 0, 0, false),
  (yX9_holds, cX9_holds, 2, (some .boolean), 9, 2, 0, 0, false),
  (yX10_init, cX10_init, 1, none, 10, 0, 24, 874, true)]
def pv_M5 : List PvM := [(yX10_in, cX10_in, 6, (some .boolean), 10, 3, 0, 0, false),
  (yX10_has, cX10_has, 2, (some .boolean), 10, 2, 0, 0, false),
  (yX10_noRecord, cX10_noRecord, 2, (some .boolean), 10, 1, 0, 0, false),
  (yX10_noFloor, cX10_noFloor, 2, (some .boolean), 10, 1, 0, 0, false),
  (yX10_write, cX10_write, 5, (some .int), 10, 2, 0, 0, false),
  (yX10_wipe, cX10_wipe, 2, (some .int), 10, 0, 0, 0, false),
  (yX10_figure, cX10_figure, 3, (some .int), 10, 2, 0, 0, false),
  (yX10_mostRoom, cX10_mostRoom, 3, (some .int), 10, 0, 0, 0, false),
  (yX10_readFloor, cX10_readFloor, 5, (some .int), 10, 3, 0, 0, false),
  (yX10_readRecord, cX10_readRecord, 9, (some .boolean), 10, 0, 0, 0, false),
  (yX10_hasMore, cX10_hasMore, 4, (some .boolean), 10, 1, 0, 0, false),
  (yX10_hasAnyMore, cX10_hasAnyMore, 3, (some .boolean), 10, 0, 0, 0, false),
  (yX10_readCite, cX10_readCite, 3, (some .boolean), 10, 0, 0, 0, false),
  (yX10_readPart, cX10_readPart, 2, (some .boolean), 10, 0, 0, 0, false),
  (yX10_readTower, cX10_readTower, 4, (some .int), 10, 0, 0, 0, false),
  (yX10_fault, cX10_fault, 1, (some .int), 10, 0, 0, 0, false),
  (yX10_tower, cX10_tower, 2, (some .int), 10, 0, 0, 0, false),
  (yX10_there, cX10_there, 3, (some .int), 10, 0, 0, 0, false),
  (yX10_many, cX10_many, 3, (some .int), 10, 1, 0, 0, false),
  (yX10_keptNow, cX10_keptNow, 3, (some .int), 10, 0, 0, 0, false)]
def pv_M6 : List PvM := [(yX10_stepsNow, cX10_stepsNow, 3, (some .int), 10, 0, 0, 0, false),
  (yX10_about, cX10_about, 2, (some .int), 10, 1, 0, 0, false),
  (yX10_setOn, cX10_setOn, 4, (some .int), 10, 1, 0, 0, false),
  (yX10_weightOf, cX10_weightOf, 4, (some .int), 10, 1, 0, 0, false),
  (yX10_floor, cX10_floor, 3, (some .int), 10, 2, 0, 0, false),
  (yX10_record, cX10_record, 3, (some .int), 10, 2, 0, 0, false),
  (yX10_cites, cX10_cites, 3, (some .int), 10, 2, 0, 0, false),
  (yX10_effort, cX10_effort, 3, (some .int), 10, 1, 0, 0, false),
  (yX10_layPage, cX10_layPage, 4, none, 10, 2, 0, 0, false),
  (yX10_takePage, cX10_takePage, 4, none, 10, 2, 0, 0, false),
  (yX10_note, cX10_note, 2, none, 10, 0, 0, 0, false),
  (yX10_layHeads, cX10_layHeads, 2, none, 10, 0, 0, 0, false),
  (yX10_groupOf, cX10_groupOf, 4, (some .int), 10, 1, 0, 0, false),
  (yX10_carry, cX10_carry, 6, (some .int), 10, 2, 0, 0, false),
  (yX10_together, cX10_together, 2, (some .int), 10, 1, 0, 0, false),
  (yX10_decade, cX10_decade, 4, (some .int), 10, 0, 0, 0, false),
  (yX10_citing, cX10_citing, 4, (some .int), 10, 1, 0, 0, false),
  (yX10_anew, cX10_anew, 4, (some .int), 10, 2, 0, 0, false),
  (yX10_undo, cX10_undo, 1, (some .int), 10, 0, 0, 0, false),
  (yX10_takes, cX10_takes, 8, (some .int), 10, 3, 0, 0, false)]
def pv_M7 : List PvM := [(yX10_from, cX10_from, 3, (some .int), 10, 2, 0, 0, false),
  (yX10_nextStand, cX10_nextStand, 7, (some .boolean), 10, 1, 0, 0, false),
  (yX10_beginStand, cX10_beginStand, 3, none, 10, 1, 0, 0, false),
  (yX10_goDecade, cX10_goDecade, 7, none, 10, 1, 0, 0, false),
  (yX10_keptAt, cX10_keptAt, 4, (some .int), 10, 1, 0, 0, false),
  (yX10_findPlan, cX10_findPlan, 7, none, 10, 1, 0, 0, false),
  (yX10_weigh, cX10_weigh, 4, none, 10, 1, 0, 0, false),
  (yX10_noPlan, cX10_noPlan, 2, (some .int), 10, 1, 0, 0, false),
  (yX10_most, cX10_most, 3, (some .int), 10, 1, 0, 0, false),
  (yX10_least, cX10_least, 3, (some .int), 10, 1, 0, 0, false),
  (yX10_planAt, cX10_planAt, 4, (some .int), 10, 2, 0, 0, false),
  (yX10_nextHand, cX10_nextHand, 5, (some .boolean), 10, 0, 0, 0, false),
  (yX10_atHand, cX10_atHand, 6, (some .int), 10, 0, 0, 0, false),
  (yX10_index, cX10_index, 4, (some .int), 10, 2, 0, 0, false),
  (yX10_lookUp, cX10_lookUp, 4, (some .int), 10, 1, 0, 0, false),
  (yX10_wrongs, cX10_wrongs, 3, (some .int), 10, 0, 0, 0, false),
  (yX10_divisor, cX10_divisor, 10, (some .long), 10, 2, 0, 0, false),
  (yX10_lies, cX10_lies, 4, (some .int), 10, 1, 0, 0, false),
  (yX10_mend, cX10_mend, 3, (some .int), 10, 0, 0, 0, false),
  (yX10_findDive, cX10_findDive, 8, none, 10, 1, 0, 0, false)]
def pv_M8 : List PvM := [(yX10_dive, cX10_dive, 3, (some .int), 10, 2, 0, 0, false),
  (yX10_power, cX10_power, 6, (some .long), 10, 2, 0, 0, false),
  (yX10_dry, cX10_dry, 13, (some .long), 10, 4, 0, 0, false),
  (yX10_keep, cX10_keep, 3, (some .int), 10, 1, 0, 0, false),
  (yX10_again, cX10_again, 3, (some .int), 10, 1, 0, 0, false),
  (yJ6_bitCount_0f7a4, cJ6_bitCount_0f7a4, 1, (some .int), 12, 1, 0, 0, false),
  (yL_law, cL_law, 4, (some .boolean), 11, 1, 127, 1724, false),
  (Lib.Math.max.name, Lib.Math.max.code, 2, (some .int), 13, 2, 0, 0, false)]
def pv_M (i : Nat) : PvM := (([pv_M0, pv_M1, pv_M2, pv_M3, pv_M4, pv_M5, pv_M6, pv_M7, pv_M8] : List (List PvM)).getD (i / 20) []).getD (i % 20) (yX0_init, cX0_init, 0, none, 0, 0, 0, 0, false)
def pv_nm (i : Nat) : MethodName := (pv_M i).1
def pv_cd (i : Nat) : ByteArray := (pv_M i).2.1
def pv_mL (i : Nat) : Nat := (pv_M i).2.2.1
def pv_rt (i : Nat) : Option FieldType := (pv_M i).2.2.2.1
def pv_ow (i : Nat) : Nat := (pv_M i).2.2.2.2.1
def pv_np (i : Nat) : Nat := (pv_M i).2.2.2.2.2.1
def pv_mc (i : Nat) : Nat := (pv_M i).2.2.2.2.2.2.1
def pv_ms (i : Nat) : Nat := (pv_M i).2.2.2.2.2.2.2.1
def pv_in (i : Nat) : Bool := (pv_M i).2.2.2.2.2.2.2.2
def pv_nM : Nat := 168
/-- fields linked: own class, entry, class, place of the field, place of the word in lw_tbl -/
def pv_Fl : List (Nat × Nat × Nat × Nat × Nat) := [(9, 82, 7, 0, 102), (4, 26, 7, 0, 103), (3, 51, 7, 0, 104), (1, 43, 7, 0, 105), (7, 9, 7, 1, 106), (3, 66, 7, 1, 107), (1, 48, 7, 1, 108), (9, 144, 7, 1, 109), (4, 85, 7, 1, 110), (8, 33, 7, 2, 111), (4, 29, 7, 2, 112), (2, 21, 7, 2, 113), (7, 37, 7, 2, 114), (3, 89, 7, 2, 115), (9, 102, 7, 2, 116), (6, 57, 7, 2, 117), (7, 15, 7, 3, 118), (2, 46, 7, 3, 119), (9, 157, 7, 3, 120), (4, 107, 7, 3, 121), (7, 18, 7, 4, 122), (6, 31, 7, 4, 123), (4, 109, 7, 4, 124), (7, 21, 7, 5, 125), (8, 55, 7, 5, 126), (6, 60, 7, 5, 127), (9, 163, 7, 5, 128), (4, 111, 7, 5, 129), (7, 24, 7, 6, 130), (6, 32, 7, 6, 131), (4, 113, 7, 6, 132), (7, 27, 7, 7, 133), (6, 28, 7, 7, 134), (9, 105, 7, 7, 135), (4, 115, 7, 7, 136), (7, 30, 7, 8, 137), (4, 118, 7, 8, 138), (4, 12, 4, 0, 159), (9, 95, 4, 0, 160), (4, 22, 4, 1, 161), (4, 79, 4, 2, 162), (4, 82, 4, 3, 163), (4, 18, 4, 4, 164), (4, 88, 4, 5, 165), (4, 91, 4, 6, 166), (4, 94, 4, 7, 167), (4, 97, 4, 8, 168), (4, 121, 4, 9, 169), (6, 9, 6, 0, 199), (8, 54, 6, 0, 200), (2, 42, 6, 0, 201), (9, 169, 6, 0, 202), (6, 15, 6, 1, 203), (3, 99, 6, 1, 204), (2, 56, 6, 1, 205), (9, 160, 6, 1, 206), (6, 18, 6, 2, 207), (3, 96, 6, 2, 208), (2, 49, 6, 2, 209), (9, 166, 6, 2, 210), (8, 28, 6, 3, 211), (6, 37, 6, 3, 212), (2, 26, 6, 3, 213), (9, 115, 6, 3, 214), (6, 40, 6, 4, 215), (3, 57, 6, 4, 216), (2, 39, 6, 4, 217), (9, 124, 6, 4, 218), (6, 21, 6, 5, 219), (3, 75, 6, 5, 220), (9, 127, 6, 5, 221), (6, 25, 6, 6, 222), (3, 73, 6, 6, 223), (9, 130, 6, 6, 224), (0, 11, 0, 0, 249), (0, 18, 0, 1, 250), (9, 108, 0, 1, 251), (9, 111, 5, 0, 265), (5, 12, 5, 1, 266), (9, 276, 5, 1, 267), (5, 18, 5, 2, 268), (9, 282, 5, 2, 269), (8, 24, 8, 0, 283), (3, 42, 8, 0, 284), (1, 35, 8, 0, 285), (8, 9, 8, 1, 286), (3, 78, 8, 1, 287), (8, 15, 8, 2, 288), (1, 40, 8, 2, 289), (3, 114, 8, 2, 290), (8, 18, 8, 3, 291), (1, 51, 8, 3, 292), (8, 21, 8, 4, 293), (3, 111, 8, 4, 294), (3, 35, 3, 0, 314), (9, 216, 3, 0, 315), (3, 39, 3, 1, 316), (9, 219, 3, 1, 317), (3, 9, 3, 2, 318), (9, 225, 3, 2, 319), (3, 47, 3, 3, 320), (3, 56, 3, 4, 321), (3, 62, 3, 5, 322), (3, 63, 3, 6, 323), (3, 15, 3, 7, 324), (3, 18, 3, 8, 325), (3, 23, 3, 9, 326), (3, 26, 3, 10, 327), (3, 29, 3, 11, 328), (3, 32, 3, 12, 329), (1, 15, 1, 0, 363), (1, 19, 1, 1, 364), (1, 23, 1, 2, 365), (1, 28, 1, 3, 366), (1, 9, 1, 4, 367), (2, 9, 2, 0, 385), (9, 254, 2, 0, 386), (2, 15, 2, 1, 387), (9, 256, 2, 1, 388), (2, 18, 2, 2, 389), (9, 259, 2, 2, 390), (9, 9, 9, 0, 398), (9, 86, 9, 1, 399), (9, 16, 9, 2, 400), (9, 23, 9, 3, 401), (9, 30, 9, 4, 402), (9, 34, 9, 5, 403), (9, 40, 9, 6, 404), (9, 47, 9, 7, 405), (9, 51, 9, 8, 406), (9, 57, 9, 9, 407), (9, 64, 9, 10, 408), (9, 71, 9, 11, 409), (9, 78, 9, 12, 410), (10, 93, 10, 0, 821), (10, 7, 10, 1, 822), (10, 105, 10, 2, 823), (10, 108, 10, 3, 824), (10, 13, 10, 4, 825), (10, 17, 10, 5, 826), (10, 96, 10, 6, 827), (10, 20, 10, 7, 828), (10, 23, 10, 8, 829), (10, 26, 10, 9, 830), (10, 29, 10, 10, 831), (10, 32, 10, 11, 832), (10, 35, 10, 12, 833), (10, 39, 10, 13, 834), (10, 42, 10, 14, 835), (10, 148, 10, 15, 836), (10, 45, 10, 16, 837), (10, 48, 10, 17, 838), (10, 111, 10, 18, 839), (10, 51, 10, 19, 840), (10, 54, 10, 20, 841), (10, 122, 10, 21, 842), (10, 57, 10, 22, 843), (10, 60, 10, 23, 844), (10, 63, 10, 24, 845), (10, 151, 10, 25, 846), (10, 66, 10, 26, 847), (10, 69, 10, 27, 848), (10, 72, 10, 28, 849), (10, 75, 10, 29, 850), (10, 78, 10, 30, 851), (10, 81, 10, 31, 852), (10, 208, 10, 32, 853), (10, 211, 10, 33, 854), (10, 84, 10, 34, 855), (10, 87, 10, 35, 856), (10, 90, 10, 36, 857), (10, 251, 10, 37, 858), (10, 254, 10, 38, 859), (10, 257, 10, 39, 860)]
def pv_fl (own idx : Nat) : Option (Nat × Nat × Nat × Nat × Nat) := pv_Fl.find? (fun e => e.1 == own && e.2.1 == idx)
/-- methods linked: own class, entry, kind (0 virtual, 2 static, 3 static of the nest, 4 static elsewhere, 5 constructor, 6 Object's, 7 arraycopy), method, places of the words -/
def pv_Ml_0 : List (Nat × Nat × Nat × Nat × List Nat) := [(11, 9, 5, 58, [84, 85, 68]), (9, 1, 6, 0, [87]), (9, 15, 5, 16, [92, 93, 69]), (4, 3, 6, 0, [95]), (4, 11, 5, 51, [98, 99, 70]), (7, 3, 6, 0, [101]), (9, 22, 5, 51, [192, 99, 70]), (9, 29, 5, 38, [195, 196, 71]), (6, 3, 6, 0, [198]), (9, 39, 5, 0, [242, 243, 72]), (0, 3, 6, 0, [245]), (0, 17, 5, 38, [248, 196, 71]), (9, 46, 5, 37, [259, 260, 73]), (5, 3, 6, 0, [262]), (5, 11, 5, 38, [264, 196, 71]), (9, 56, 5, 54, [279, 280, 74])]
def pv_Ml_1 : List (Nat × Nat × Nat × Nat × List Nat) := [(8, 3, 6, 0, [282]), (9, 63, 5, 11, [308, 309, 75]), (3, 3, 6, 0, [311]), (9, 70, 5, 4, [359, 360, 76]), (1, 3, 6, 0, [362]), (9, 77, 5, 7, [381, 382, 77]), (2, 3, 6, 0, [384]), (11, 15, 0, 59, [438, 439, 68, 440]), (11, 20, 0, 60, [443, 444, 68, 445]), (11, 25, 0, 61, [447, 448, 68, 449]), (9, 91, 0, 17, [451, 452, 69, 453]), (4, 32, 0, 18, [455, 457, 69, 0]), (4, 36, 0, 19, [459, 461, 69, 1]), (4, 42, 0, 31, [463, 465, 69, 2]), (4, 45, 0, 34, [467, 469, 69, 3]), (4, 124, 0, 35, [471, 473, 69, 4])]
def pv_Ml_2 : List (Nat × Nat × Nat × Nat × List Nat) := [(4, 127, 0, 36, [475, 477, 69, 5]), (4, 39, 0, 20, [479, 481, 69, 6]), (4, 49, 0, 21, [483, 485, 69, 7]), (4, 52, 0, 22, [487, 489, 69, 8]), (4, 55, 0, 23, [491, 493, 69, 9]), (4, 58, 0, 24, [495, 497, 69, 10]), (4, 61, 0, 25, [499, 501, 69, 11]), (4, 64, 0, 26, [503, 505, 69, 12]), (4, 67, 0, 27, [507, 509, 69, 13]), (4, 100, 0, 32, [511, 513, 69, 14]), (4, 104, 0, 33, [515, 517, 69, 15]), (4, 70, 0, 28, [519, 521, 69, 16]), (4, 73, 0, 29, [523, 525, 69, 17]), (4, 76, 0, 30, [527, 529, 69, 18]), (4, 131, 3, 98, [531, 532, 68]), (11, 29, 0, 62, [534, 535, 68, 536])]
def pv_Ml_3 : List (Nat × Nat × Nat × Nat × List Nat) := [(9, 98, 0, 39, [538, 539, 71, 540]), (6, 33, 0, 41, [542, 544, 71, 19]), (6, 43, 7, 0, [546]), (11, 33, 0, 63, [549, 550, 68, 551]), (9, 118, 4, 165, [553, 554, 80]), (9, 133, 0, 44, [559, 560, 71, 561]), (6, 53, 0, 42, [563, 564, 71, 565]), (6, 49, 3, 98, [567, 532, 68]), (9, 136, 0, 45, [568, 569, 71, 570]), (11, 38, 0, 64, [572, 573, 68, 574]), (9, 140, 0, 85, [576, 578, 68, 20]), (9, 147, 0, 43, [580, 581, 71, 582]), (9, 151, 0, 53, [584, 585, 70, 586]), (7, 33, 3, 98, [588, 532, 68]), (11, 43, 0, 65, [589, 590, 68, 591]), (9, 154, 0, 86, [593, 595, 68, 21])]
def pv_Ml_4 : List (Nat × Nat × Nat × Nat × List Nat) := [(9, 170, 0, 42, [597, 564, 71, 565]), (11, 47, 0, 66, [598, 599, 68, 600]), (9, 173, 0, 52, [602, 603, 70, 604]), (11, 51, 0, 67, [606, 607, 68, 608]), (9, 177, 8, 167, [610, 611, 81]), (11, 55, 0, 68, [613, 614, 68, 615]), (9, 182, 0, 46, [617, 618, 71, 619]), (6, 63, 0, 47, [621, 623, 71, 22]), (9, 185, 0, 88, [625, 627, 68, 23]), (9, 188, 0, 1, [629, 630, 72, 631]), (0, 22, 0, 2, [633, 635, 72, 24]), (0, 25, 0, 40, [637, 638, 71, 639]), (9, 192, 0, 48, [641, 642, 71, 643]), (11, 59, 0, 69, [645, 646, 68, 647]), (11, 63, 0, 70, [649, 650, 68, 651]), (9, 196, 0, 49, [653, 654, 71, 655])]
def pv_Ml_5 : List (Nat × Nat × Nat × Nat × List Nat) := [(6, 66, 0, 43, [657, 581, 71, 582]), (11, 67, 0, 71, [658, 659, 68, 660]), (9, 199, 0, 89, [662, 664, 68, 25]), (9, 202, 0, 50, [666, 667, 71, 668]), (11, 71, 0, 72, [670, 671, 68, 672]), (9, 206, 0, 3, [674, 675, 72, 676]), (11, 75, 0, 73, [678, 679, 68, 680]), (9, 209, 0, 91, [682, 684, 68, 26]), (9, 228, 0, 87, [686, 688, 68, 27]), (9, 212, 0, 92, [690, 692, 68, 28]), (9, 232, 0, 55, [694, 695, 74, 696]), (8, 38, 3, 98, [698, 532, 68]), (8, 42, 0, 46, [699, 618, 71, 619]), (8, 46, 0, 53, [700, 585, 70, 586]), (8, 50, 2, 56, [701, 702, 74]), (9, 289, 0, 12, [704, 705, 75, 706])]
def pv_Ml_6 : List (Nat × Nat × Nat × Nat × List Nat) := [(3, 67, 7, 0, [708]), (3, 81, 2, 13, [709, 710, 75]), (3, 92, 3, 98, [712, 532, 68]), (3, 101, 8, 167, [713, 611, 81]), (3, 85, 2, 14, [714, 715, 75]), (3, 107, 0, 15, [717, 719, 75, 29]), (11, 79, 0, 74, [721, 722, 68, 723]), (11, 83, 0, 75, [725, 726, 68, 727]), (9, 222, 0, 57, [729, 730, 74, 731]), (11, 87, 0, 76, [733, 734, 68, 735]), (9, 236, 0, 5, [737, 738, 76, 739]), (1, 31, 2, 6, [742, 743, 76]), (11, 91, 0, 77, [745, 746, 68, 747]), (11, 95, 0, 78, [749, 750, 68, 751]), (9, 240, 0, 93, [753, 755, 68, 30]), (11, 99, 0, 79, [757, 758, 68, 759])]
def pv_Ml_7 : List (Nat × Nat × Nat × Nat × List Nat) := [(9, 243, 0, 90, [761, 763, 68, 31]), (9, 246, 2, 96, [765, 766, 68]), (9, 293, 2, 97, [768, 769, 68]), (11, 104, 0, 80, [771, 772, 68, 773]), (11, 108, 0, 81, [775, 776, 68, 777]), (9, 250, 0, 8, [779, 780, 77, 781]), (2, 31, 0, 9, [783, 785, 77, 32]), (2, 35, 3, 98, [787, 532, 68]), (2, 52, 2, 10, [788, 789, 77]), (2, 58, 8, 167, [791, 611, 81]), (11, 112, 0, 82, [792, 793, 68, 794]), (9, 268, 2, 94, [799, 800, 68]), (9, 272, 2, 95, [802, 803, 68]), (11, 117, 0, 83, [805, 806, 68, 807]), (9, 279, 0, 40, [809, 638, 71, 639]), (9, 283, 7, 0, [810])]
def pv_Ml_8 : List (Nat × Nat × Nat × Nat × List Nat) := [(11, 121, 0, 84, [811, 812, 68, 813]), (11, 12, 5, 99, [817, 818, 78]), (10, 1, 6, 0, [820]), (11, 19, 0, 104, [943, 944, 78, 945]), (10, 99, 2, 100, [948, 949, 78]), (11, 24, 0, 105, [951, 952, 78, 953]), (11, 28, 0, 115, [955, 956, 78, 957]), (10, 145, 0, 114, [959, 961, 78, 33]), (10, 118, 0, 106, [963, 965, 78, 34]), (10, 142, 0, 113, [967, 969, 78, 35]), (10, 114, 0, 107, [971, 973, 78, 36]), (10, 133, 0, 109, [975, 977, 78, 37]), (10, 125, 0, 108, [979, 981, 78, 38]), (10, 136, 0, 111, [983, 985, 78, 39]), (10, 129, 0, 110, [987, 989, 78, 40]), (10, 139, 0, 112, [991, 993, 78, 41])]
def pv_Ml_9 : List (Nat × Nat × Nat × Nat × List Nat) := [(11, 32, 0, 116, [995, 996, 78, 997]), (11, 37, 0, 121, [999, 1000, 78, 1001]), (10, 154, 0, 117, [1003, 1005, 78, 42]), (10, 157, 2, 118, [1007, 1008, 78]), (10, 161, 0, 119, [1010, 1012, 78, 43]), (10, 164, 0, 120, [1014, 1016, 78, 44]), (11, 42, 0, 124, [1018, 1019, 78, 1020]), (10, 171, 0, 103, [1022, 1024, 78, 45]), (10, 174, 0, 122, [1026, 1028, 78, 46]), (10, 177, 0, 123, [1030, 1032, 78, 47]), (10, 167, 2, 101, [1034, 1035, 78]), (11, 46, 0, 125, [1037, 1038, 78, 1039]), (10, 180, 0, 102, [1041, 1043, 78, 48]), (11, 50, 0, 126, [1045, 1046, 78, 1047]), (11, 54, 0, 127, [1049, 1050, 78, 1051]), (11, 58, 0, 133, [1054, 1055, 78, 1056])]
def pv_Ml_10 : List (Nat × Nat × Nat × Nat × List Nat) := [(10, 192, 0, 132, [1058, 1060, 78, 49]), (10, 189, 0, 131, [1062, 1064, 78, 50]), (10, 195, 0, 130, [1066, 1068, 78, 51]), (10, 185, 0, 128, [1070, 1072, 78, 52]), (11, 62, 0, 134, [1074, 1075, 78, 1076]), (11, 66, 0, 135, [1078, 1079, 78, 1080]), (11, 70, 0, 137, [1082, 1083, 78, 1084]), (10, 198, 0, 136, [1086, 1088, 78, 53]), (11, 74, 0, 138, [1090, 1091, 78, 1092]), (10, 201, 0, 129, [1094, 1096, 78, 54]), (11, 78, 0, 148, [1098, 1099, 78, 1100]), (10, 235, 0, 147, [1102, 1104, 78, 55]), (10, 238, 0, 145, [1107, 1109, 78, 56]), (10, 214, 0, 142, [1112, 1114, 78, 57]), (10, 204, 0, 140, [1116, 1118, 78, 58]), (10, 218, 0, 141, [1120, 1122, 78, 59])]
def pv_Ml_11 : List (Nat × Nat × Nat × Nat × List Nat) := [(10, 221, 0, 139, [1124, 1126, 78, 60]), (10, 224, 0, 143, [1128, 1130, 78, 61]), (10, 227, 0, 146, [1132, 1134, 78, 62]), (10, 230, 0, 144, [1136, 1138, 78, 63]), (11, 82, 0, 149, [1140, 1141, 78, 1142]), (11, 86, 0, 150, [1144, 1145, 78, 1146]), (11, 90, 0, 152, [1148, 1149, 78, 1150]), (10, 241, 0, 151, [1152, 1154, 78, 64]), (11, 94, 0, 153, [1156, 1157, 78, 1158]), (11, 98, 0, 154, [1160, 1161, 78, 1162]), (11, 103, 0, 157, [1164, 1165, 78, 1166]), (10, 244, 0, 155, [1168, 1170, 78, 65]), (10, 247, 2, 156, [1172, 1173, 78]), (11, 107, 0, 158, [1175, 1176, 78, 1177]), (11, 111, 0, 160, [1179, 1180, 78, 1181]), (10, 262, 0, 159, [1184, 1186, 78, 66])]
def pv_Ml_12 : List (Nat × Nat × Nat × Nat × List Nat) := [(11, 116, 0, 162, [1188, 1189, 78, 1190]), (10, 275, 2, 161, [1197, 1198, 78]), (11, 120, 0, 163, [1200, 1201, 78, 1202]), (11, 124, 0, 164, [1204, 1205, 78, 1206])]
def pv_Ml : List (Nat × Nat × Nat × Nat × List Nat) := pv_Ml_0 ++ (pv_Ml_1 ++ (pv_Ml_2 ++ (pv_Ml_3 ++ (pv_Ml_4 ++ (pv_Ml_5 ++ (pv_Ml_6 ++ (pv_Ml_7 ++ (pv_Ml_8 ++ (pv_Ml_9 ++ (pv_Ml_10 ++ (pv_Ml_11 ++ (pv_Ml_12))))))))))))
def pv_cp : List Nat := [244, 632, 636, 677, 361, 740, 744, 383, 782, 786, 790, 310, 707, 711, 716, 720, 94, 454, 458, 462, 482, 486, 490, 494, 498, 502, 506, 510, 522, 526, 530, 466, 514, 518, 470, 474, 478, 261, 197, 541, 640, 545, 566, 583, 562, 571, 620, 624, 644, 656, 669, 100, 605, 587, 281, 697, 703, 732, 86, 441, 446, 450, 537, 552, 575, 592, 601, 609, 616, 648, 652, 661, 673, 681, 724, 728, 736, 748, 752, 760, 774, 778, 795, 808, 814, 579, 596, 689, 628, 665, 764, 685, 693, 756, 801, 804, 767, 770, 533, 819, 950, 1036, 1044, 1025, 946, 954, 966, 974, 982, 978, 990, 986, 994, 970, 962, 958, 998, 1006, 1009, 1013, 1017, 1002, 1029, 1033, 1021, 1040, 1048, 1052, 1073, 1097, 1069, 1065, 1061, 1057, 1077, 1081, 1089, 1085, 1093, 1127, 1119, 1123, 1115, 1131, 1139, 1110, 1135, 1105, 1101, 1143, 1147, 1155, 1151, 1159, 1163, 1171, 1174, 1167, 1178, 1187, 1182, 1199, 1191, 1203, 1207, 555, 0, 612]
def pv_ml (own idx : Nat) : Option (Nat × Nat × Nat × Nat × List Nat) := pv_Ml.find? (fun e => e.1 == own && e.2.1 == idx)
def pv_Nw : List (Nat × Nat × Nat × List Nat) := [(11, 7, 9, [82, 83, 68]), (9, 13, 4, [90, 91, 69]), (4, 9, 7, [96, 97, 70]), (9, 20, 7, [191, 97, 70]), (9, 27, 6, [193, 194, 71]), (9, 37, 0, [240, 241, 72]), (0, 9, 6, [246, 194, 71]), (9, 44, 5, [257, 258, 73]), (5, 9, 6, [263, 194, 71]), (9, 54, 8, [277, 278, 74]), (9, 61, 3, [306, 307, 75]), (9, 68, 1, [357, 358, 76]), (9, 75, 2, [379, 380, 77]), (11, 10, 10, [815, 816, 78])]
def pv_nw (own idx : Nat) : Option (Nat × Nat × Nat × List Nat) := pv_Nw.find? (fun e => e.1 == own && e.2.1 == idx)
def pv_Kc : List (Nat × Nat × Int32 × Nat) := [(12, 265, 1431655765, 556), (12, 266, 858993459, 557), (12, 267, 252645135, 558), (1, 27, 1000000, 741), (10, 207, 99999, 1111)]
def pv_kc (own idx : Nat) : Option (Nat × Nat × Int32 × Nat) := pv_Kc.find? (fun e => e.1 == own && e.2.1 == idx)
def pv_Kl : List (Nat × Nat × Int64 × Nat) := [(9, 89, 255, 442), (9, 262, -1, 796), (9, 264, -2, 797), (9, 266, -3, 798), (10, 103, 8, 947), (10, 183, 99, 1053), (10, 233, 3, 1106), (10, 260, 2, 1183), (10, 265, -1, 1192), (10, 267, 9, 1193), (10, 269, 10, 1194), (10, 271, -2, 1195), (10, 273, -3, 1196), (11, 13, 4294967295, 1208)]
def pv_kl (own idx : Nat) : Option (Nat × Nat × Int64 × Nat) := pv_Kl.find? (fun e => e.1 == own && e.2.1 == idx)
def pv_Ne : List Nat := [531, 567, 588, 698, 712, 787]
