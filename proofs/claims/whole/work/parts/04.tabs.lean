-- the tables as numbers: classes 0..10, 11 the law, 12 Math
def cn : Nat → String := fun c => match c with
  | 0 => RX0
  | 1 => RX1
  | 2 => RX2
  | 3 => RX3
  | 4 => RX4
  | 5 => RX5
  | 6 => RX6
  | 7 => RX7
  | 8 => RX8
  | 9 => RX9
  | 10 => RX10
  | 11 => RL
  | _ => RJ9
def cT : Nat → u_T := fun c => match c with
  | 0 => TX0
  | 1 => TX1
  | 2 => TX2
  | 3 => TX3
  | 4 => TX4
  | 5 => TX5
  | 6 => TX6
  | 7 => TX7
  | 8 => TX8
  | 9 => TX9
  | _ => TX10
def cN : Nat → Nat := fun c => match c with
  | 0 => 4
  | 1 => 15
  | 2 => 5
  | 3 => 10
  | 4 => 1
  | 5 => 5
  | 6 => 8
  | 7 => 4
  | 8 => 3
  | 9 => 13
  | _ => 48
def cY : Nat → Nat → FieldType := fun c => match c with
  | 0 => tyX0
  | 1 => tyX1
  | 2 => tyX2
  | 3 => tyX3
  | 4 => tyX4
  | 5 => tyX5
  | 6 => tyX6
  | 7 => tyX7
  | 8 => tyX8
  | 9 => tyX9
  | _ => tyX10
/-- a field that holds a reference -/
def isR (c k : Nat) : Bool := match cY c k with
  | .object _ => true
  | .array _ => true
  | _ => false
/-- a field that holds a boolean -/
def isZ (c k : Nat) : Bool := match cY c k with
  | .boolean => true
  | _ => false
def ftab : List (Nat × Nat × Nat × Int × Nat) := [(6, 9, 6, 0, 92), (6, 15, 6, 1, 93), (6, 18, 6, 2, 94), (6, 64, 6, 3, 95), (6, 30, 6, 4, 96), (6, 67, 6, 5, 97), (6, 21, 6, 6, 98), (6, 40, 6, 7, 99), (9, 252, 6, 7, 100), (5, 9, 5, 0, 125), (5, 15, 5, 1, 126), (5, 18, 5, 2, 127), (5, 21, 5, 3, 128), (5, 25, 5, 4, 129), (6, 47, 5, 4, 130), (9, 94, 5, 4, 131), (7, 9, 7, 0, 149), (9, 132, 7, 0, 150), (2, 50, 7, 0, 151), (3, 90, 7, 0, 152), (7, 21, 7, 1, 153), (3, 41, 7, 1, 154), (9, 103, 7, 1, 155), (2, 38, 7, 1, 156), (7, 25, 7, 2, 157), (3, 46, 7, 2, 158), (9, 106, 7, 2, 159), (2, 43, 7, 2, 160), (7, 28, 7, 3, 161), (9, 227, 7, 3, 162), (8, 11, 8, 0, 180), (8, 17, 8, 1, 181), (9, 212, 8, 1, 182), (8, 21, 8, 2, 183), (9, 100, 8, 2, 184), (2, 9, 2, 0, 198), (2, 15, 2, 1, 199), (2, 18, 2, 2, 200), (2, 25, 2, 3, 201), (2, 29, 2, 4, 202), (9, 148, 2, 4, 203), (0, 9, 0, 0, 221), (0, 15, 0, 1, 222), (0, 18, 0, 2, 223), (0, 21, 0, 3, 224), (9, 142, 0, 3, 225), (4, 7, 4, 0, 242), (3, 15, 3, 0, 252), (3, 19, 3, 1, 253), (3, 9, 3, 2, 254), (3, 191, 3, 3, 255), (3, 23, 3, 4, 256), (3, 38, 3, 5, 257), (3, 27, 3, 6, 258), (9, 126, 3, 6, 259), (9, 117, 3, 7, 260), (3, 65, 3, 7, 261), (9, 120, 3, 8, 262), (3, 68, 3, 8, 263), (9, 123, 3, 9, 264), (3, 71, 3, 9, 265), (1, 15, 1, 0, 408), (9, 159, 1, 0, 409), (3, 117, 1, 0, 410), (1, 19, 1, 1, 411), (9, 164, 1, 1, 412), (3, 151, 1, 1, 413), (1, 28, 1, 2, 414), (8, 47, 1, 2, 415), (9, 167, 1, 2, 416), (3, 108, 1, 2, 417), (1, 25, 1, 3, 418), (8, 44, 1, 3, 419), (9, 170, 1, 3, 420), (1, 31, 1, 4, 421), (9, 173, 1, 4, 422), (1, 22, 1, 5, 423), (8, 29, 1, 5, 424), (9, 179, 1, 5, 425), (3, 101, 1, 5, 426), (1, 41, 1, 6, 427), (9, 182, 1, 6, 428), (8, 60, 1, 6, 429), (1, 9, 1, 7, 430), (1, 34, 1, 8, 431), (4, 19, 1, 8, 432), (8, 35, 1, 8, 433), (3, 104, 1, 8, 434), (1, 47, 1, 9, 435), (4, 16, 1, 10, 436), (8, 38, 1, 10, 437), (1, 50, 1, 10, 438), (3, 111, 1, 10, 439), (4, 22, 1, 11, 440), (1, 44, 1, 11, 441), (3, 137, 1, 11, 442), (1, 38, 1, 12, 443), (3, 87, 1, 12, 444), (8, 32, 1, 13, 445), (9, 176, 1, 13, 446), (8, 41, 1, 14, 447), (9, 188, 1, 14, 448), (9, 9, 9, 0, 581), (9, 90, 9, 1, 582), (9, 13, 9, 2, 583), (9, 20, 9, 3, 584), (9, 27, 9, 4, 585), (9, 31, 9, 5, 586), (9, 37, 9, 6, 587), (9, 74, 9, 7, 588), (9, 78, 9, 8, 589), (9, 44, 9, 9, 590), (9, 51, 9, 10, 591), (9, 58, 9, 11, 592), (9, 62, 9, 12, 593), (10, 7, 10, 0, 908), (10, 105, 10, 1, 909), (10, 301, 10, 2, 910), (10, 283, 10, 3, 911), (10, 13, 10, 4, 912), (10, 16, 10, 5, 913), (10, 227, 10, 6, 914), (10, 19, 10, 7, 915), (10, 23, 10, 8, 916), (10, 26, 10, 9, 917), (10, 29, 10, 10, 918), (10, 247, 10, 11, 919), (10, 32, 10, 12, 920), (10, 35, 10, 13, 921), (10, 95, 10, 14, 922), (10, 38, 10, 15, 923), (10, 41, 10, 16, 924), (10, 44, 10, 17, 925), (10, 47, 10, 18, 926), (10, 50, 10, 19, 927), (10, 53, 10, 20, 928), (10, 56, 10, 21, 929), (10, 173, 10, 22, 930), (10, 59, 10, 23, 931), (10, 62, 10, 24, 932), (10, 65, 10, 25, 933), (10, 68, 10, 26, 934), (10, 71, 10, 27, 935), (10, 74, 10, 28, 936), (10, 118, 10, 29, 937), (10, 77, 10, 30, 938), (10, 80, 10, 31, 939), (10, 83, 10, 32, 940), (10, 186, 10, 33, 941), (10, 180, 10, 34, 942), (10, 183, 10, 35, 943), (10, 195, 10, 36, 944), (10, 86, 10, 37, 945), (10, 89, 10, 38, 946), (10, 92, 10, 39, 947), (10, 108, 10, 40, 948), (10, 111, 10, 41, 949), (10, 121, 10, 42, 950), (10, 218, 10, 43, 951), (10, 208, 10, 44, 952), (10, 224, 10, 45, 953), (10, 212, 10, 46, 954), (10, 215, 10, 47, 955)]
def fOk (e : Nat × Nat × Nat × Int × Nat) : Prop := lw_tbl[e.2.2.2.2]? = some (Cond.fieldLink (cn e.1) e.2.1 (cT e.2.2.1 e.2.2.2.1.toNat).1 (cT e.2.2.1 e.2.2.2.1.toNat).2.1 (cT e.2.2.1 e.2.2.2.1.toNat).2.2.1) ∧ e.2.2.1 < 11 ∧ 0 ≤ e.2.2.2.1 ∧ e.2.2.2.1.toNat < cN e.2.2.1
theorem ftab_ok : ∀ e ∈ ftab, fOk e := by unfold fOk; decide +kernel
def mtab : List (MethodName × ByteArray × Nat × Option FieldType × Nat × Nat × Nat) := [
  (yX0_init, cX0_init, 1, none, 0, 2, 0),
  (yX0_addEntry, cX0_addEntry, 4, some .boolean, 0, 0, 3),
  (yX0_has, cX0_has, 2, some .boolean, 0, 0, 1),
  (yX0_functionAt, cX0_functionAt, 2, some .int, 0, 0, 1),
  (yX0_argumentAt, cX0_argumentAt, 2, some .int, 0, 0, 1),
  (yX0_tellingAt, cX0_tellingAt, 2, some .int, 0, 0, 1),
  (yX1_init, cX1_init, 1, none, 1, 2, 0),
  (yX1_begin, cX1_begin, 5, none, 1, 0, 4),
  (yX1_beginDoing, cX1_beginDoing, 1, none, 1, 0, 0),
  (yX1_addPart, cX1_addPart, 2, none, 1, 0, 1),
  (yX1_firstSoFar, cX1_firstSoFar, 4, some (.object "TakenUpCalls$Call"), 1, 0, 2),
  (yX1_noteRead, cX1_noteRead, 3, none, 1, 0, 2),
  (yX1_isOf, cX1_isOf, 3, some .boolean, 1, 0, 2),
  (yX1_isOld, cX1_isOld, 4, some .boolean, 1, 0, 1),
  (yX1_howManyParts, cX1_howManyParts, 3, some .int, 1, 0, 0),
  (yX1_isAlike, cX1_isAlike, 2, some .boolean, 1, 0, 1),
  (yX1_areAlike, cX1_areAlike, 4, some .boolean, 1, 1, 2),
  (yX2_init, cX2_init, 1, none, 2, 2, 0),
  (yX2_noteCell, cX2_noteCell, 3, none, 2, 0, 2),
  (yX2_noteAim, cX2_noteAim, 3, none, 2, 0, 2),
  (yX2_note, cX2_note, 4, none, 2, 0, 3),
  (yX2_forget, cX2_forget, 1, none, 2, 0, 0),
  (yX2_takeBackLatest, cX2_takeBackLatest, 3, none, 2, 0, 1),
  (yX3_init, cX3_init, 4, none, 3, 2, 3),
  (yX3_takeProgram, cX3_takeProgram, 2, none, 3, 0, 1),
  (yX3_firstRoot, cX3_firstRoot, 2, some (.object "TakenUpCalls$Call"), 3, 0, 0),
  (yX3_madeByItself, cX3_madeByItself, 3, some (.object "TakenUpCalls$Call"), 3, 0, 2),
  (yX3_broughtRoot, cX3_broughtRoot, 2, some (.object "TakenUpCalls$Call"), 3, 0, 1),
  (yX3_letGoWithAll, cX3_letGoWithAll, 2, none, 3, 0, 1),
  (yX3_clearCounts, cX3_clearCounts, 1, none, 3, 0, 0),
  (yX3_make, cX3_make, 5, some (.object "TakenUpCalls$Call"), 3, 0, 3),
  (yX3_bringUp, cX3_bringUp, 2, none, 3, 0, 1),
  (yX3_isAnyPartOtherwise, cX3_isAnyPartOtherwise, 4, some .boolean, 3, 0, 1),
  (yX3_goThrough, cX3_goThrough, 5, none, 3, 0, 1),
  (yX3_takeStep, cX3_takeStep, 5, some .int, 3, 0, 3),
  (yX3_joinTwo, cX3_joinTwo, 4, none, 3, 0, 1),
  (yX3_readCell, cX3_readCell, 4, some .int, 3, 0, 2),
  (yX3_whatPartTells, cX3_whatPartTells, 5, some .int, 3, 0, 3),
  (yX3_takeUp, cX3_takeUp, 3, none, 3, 0, 2),
  (yX3_letGoChain, cX3_letGoChain, 5, none, 3, 0, 2),
  (yX3_letGo, cX3_letGo, 2, none, 3, 0, 1),
  (yX3_push, cX3_push, 2, none, 3, 0, 1),
  (yX3_pop, cX3_pop, 1, some .int, 3, 0, 0),
  (yX4_init, cX4_init, 1, none, 4, 2, 0),
  (yX4_take, cX4_take, 2, some (.object "TakenUpCalls$Call"), 4, 0, 0),
  (yX4_giveBack, cX4_giveBack, 2, none, 4, 0, 1),
  (yX5_init, cX5_init, 1, none, 5, 2, 0),
  (yX5_clear, cX5_clear, 1, none, 5, 0, 0),
  (yX5_beginFunction, cX5_beginFunction, 1, none, 5, 0, 0),
  (yX5_endFunction, cX5_endFunction, 1, none, 5, 0, 0),
  (yX5_addStep, cX5_addStep, 3, some .int, 5, 0, 2),
  (yX5_skipToHere, cX5_skipToHere, 2, none, 5, 0, 1),
  (yX5_tellsOf, cX5_tellsOf, 2, some .boolean, 5, 0, 1),
  (yX5_startOf, cX5_startOf, 2, some .int, 5, 0, 1),
  (yX5_stepAt, cX5_stepAt, 2, some .int, 5, 0, 1),
  (yX5_valueAt, cX5_valueAt, 2, some .int, 5, 0, 1),
  (yX6_init, cX6_init, 1, none, 6, 2, 0),
  (yX6_readInto, cX6_readInto, 6, some .int, 6, 0, 3),
  (yX6_readLetter, cX6_readLetter, 2, some .int, 6, 0, 1),
  (yX6_beginFunction, cX6_beginFunction, 2, some .int, 6, 0, 1),
  (yX6_endFunction, cX6_endFunction, 2, some .int, 6, 0, 1),
  (yX6_beginTerm, cX6_beginTerm, 2, some .int, 6, 0, 1),
  (yX6_beginCall, cX6_beginCall, 1, some .int, 6, 0, 0),
  (yX6_readCalledFunction, cX6_readCalledFunction, 2, some .int, 6, 0, 1),
  (yX6_openTerm, cX6_openTerm, 4, some .int, 6, 0, 3),
  (yX6_readLeaf, cX6_readLeaf, 4, some .int, 6, 0, 2),
  (yX6_placeSkips, cX6_placeSkips, 3, none, 6, 0, 1),
  (yX6_isFigure, cX6_isFigure, 1, some .boolean, 6, 1, 1),
  (yX7_init, cX7_init, 1, none, 7, 2, 0),
  (yX7_become, cX7_become, 2, none, 7, 0, 1),
  (yX7_draw, cX7_draw, 2, some .int, 7, 0, 1),
  (yX8_init, cX8_init, 1, none, 8, 2, 0),
  (yX8_list, cX8_list, 2, none, 8, 0, 1),
  (yX8_listAll, cX8_listAll, 5, none, 8, 0, 2),
  (yX8_numbered, cX8_numbered, 2, some (.object "TakenUpCalls$Call"), 8, 0, 1),
  (yX8_numberOfName, cX8_numberOfName, 3, some .int, 8, 0, 1),
  (yX8_rootTells, cX8_rootTells, 1, some .int, 8, 0, 0),
  (yX8_greatestNest, cX8_greatestNest, 3, some .int, 8, 0, 0),
  (yX8_howManyOld, cX8_howManyOld, 4, some .int, 8, 0, 1),
  (yX8_cellsRead, cX8_cellsRead, 3, some .int, 8, 0, 0),
  (yX9_init, cX9_init, 2, none, 9, 2, 0),
  (yX9_feed, cX9_feed, 2, some .int, 9, 0, 1),
  (yX9_functions, cX9_functions, 2, some .int, 9, 0, 0),
  (yX9_fault, cX9_fault, 1, some .int, 9, 0, 0),
  (yX9_told, cX9_told, 2, some .int, 9, 0, 1),
  (yX9_cell, cX9_cell, 2, some .int, 9, 0, 1),
  (yX9_call, cX9_call, 4, some .int, 9, 0, 2),
  (yX9_find, cX9_find, 2, some .int, 9, 0, 1),
  (yX9_set, cX9_set, 3, some .int, 9, 0, 2),
  (yX9_aim, cX9_aim, 4, some .int, 9, 0, 2),
  (yX9_bring, cX9_bring, 1, some .int, 9, 0, 0),
  (yX9_drift, cX9_drift, 5, some .int, 9, 0, 1),
  (yX9_undo, cX9_undo, 3, some .int, 9, 0, 1),
  (yX9_write, cX9_write, 4, some .int, 9, 0, 3),
  (yX9_tear, cX9_tear, 2, some .int, 9, 0, 0),
  (yX9_seed, cX9_seed, 3, some .int, 9, 0, 1),
  (yX9_keep, cX9_keep, 3, some .int, 9, 0, 1),
  (yX9_goBack, cX9_goBack, 3, some .int, 9, 0, 1),
  (yX9_isCell, cX9_isCell, 1, some .boolean, 9, 1, 1),
  (yX9_isNumber, cX9_isNumber, 1, some .boolean, 9, 1, 1),
  (yX9_isImage, cX9_isImage, 1, some .boolean, 9, 1, 1),
  (yX9_addLetter, cX9_addLetter, 2, some .boolean, 9, 0, 1),
  (yX9_takeText, cX9_takeText, 3, some .int, 9, 0, 0),
  (yX9_startAnew, cX9_startAnew, 1, none, 9, 0, 0),
  (yX9_changeCell, cX9_changeCell, 4, some .int, 9, 0, 2),
  (yX9_tellingByItself, cX9_tellingByItself, 5, some .int, 9, 0, 2),
  (yX9_isAlike, cX9_isAlike, 3, some .boolean, 9, 0, 0),
  (yX9_firstWrong, cX9_firstWrong, 4, some .int, 9, 0, 0),
  (yX10_init, cX10_init, 1, none, 10, 2, 0),
  (yX10_in, cX10_in, 6, some .boolean, 10, 1, 3),
  (yX10_has, cX10_has, 2, some .boolean, 10, 1, 2),
  (yX10_copyRow, cX10_copyRow, 4, none, 10, 0, 2),
  (yX10_remember, cX10_remember, 2, none, 10, 0, 0),
  (yX10_push, cX10_push, 3, none, 10, 0, 2),
  (yX10_wants, cX10_wants, 1, some .int, 10, 1, 1),
  (yX10_skip, cX10_skip, 3, none, 10, 0, 0),
  (yX10_begin, cX10_begin, 5, none, 10, 0, 2),
  (yX10_counted, cX10_counted, 3, some .int, 10, 1, 3),
  (yX10_open, cX10_open, 2, some .int, 10, 0, 0),
  (yX10_called, cX10_called, 3, some .int, 10, 0, 2),
  (yX10_give, cX10_give, 4, some .int, 10, 0, 1),
  (yX10_giveTwo, cX10_giveTwo, 3, some .int, 10, 0, 2),
  (yX10_choose, cX10_choose, 3, some .int, 10, 0, 2),
  (yX10_layNew, cX10_layNew, 4, some .int, 10, 0, 2),
  (yX10_layNow, cX10_layNow, 1, some .int, 10, 0, 0),
  (yX10_endOf, cX10_endOf, 4, some .int, 10, 1, 3),
  (yX10_isOld, cX10_isOld, 4, some .boolean, 10, 0, 1),
  (yX10_isDoneAnew, cX10_isDoneAnew, 7, some .boolean, 10, 0, 2),
  (yX10_matchParts, cX10_matchParts, 8, none, 10, 0, 2),
  (yX10_matchAll, cX10_matchAll, 5, none, 10, 0, 1),
  (yX10_takeOver, cX10_takeOver, 2, none, 10, 0, 0),
  (yX10_layFirst, cX10_layFirst, 2, none, 10, 0, 0),
  (yX10_isAlike, cX10_isAlike, 4, some .boolean, 10, 0, 0),
  (yX10_isTerm, cX10_isTerm, 1, some .boolean, 10, 1, 1),
  (yX10_faultOf, cX10_faultOf, 2, some .int, 10, 0, 1),
  (yX10_goOn, cX10_goOn, 2, none, 10, 0, 1),
  (yX10_readText, cX10_readText, 3, some .int, 10, 0, 0),
  (yX10_layCode, cX10_layCode, 4, none, 10, 0, 0),
  (yX10_feed, cX10_feed, 2, some .int, 10, 0, 1),
  (yX10_functions, cX10_functions, 2, some .int, 10, 0, 0),
  (yX10_fault, cX10_fault, 1, some .int, 10, 0, 0),
  (yX10_deepest, cX10_deepest, 3, some .int, 10, 0, 0),
  (yX10_oldMany, cX10_oldMany, 3, some .int, 10, 0, 0),
  (yX10_bears, cX10_bears, 3, some .int, 10, 0, 0),
  (yX10_wrong, cX10_wrong, 2, some .int, 10, 0, 0),
  (yX10_toldMore, cX10_toldMore, 2, some .int, 10, 0, 1),
  (yX10_told, cX10_told, 2, some .int, 10, 0, 1),
  (yX10_cell, cX10_cell, 2, some .int, 10, 0, 1),
  (yX10_makerOf, cX10_makerOf, 4, some .int, 10, 0, 1),
  (yX10_partsOf, cX10_partsOf, 4, some .int, 10, 0, 1),
  (yX10_call, cX10_call, 3, some .int, 10, 0, 2),
  (yX10_find, cX10_find, 4, some .int, 10, 0, 1),
  (yX10_set, cX10_set, 4, some .int, 10, 0, 2),
  (yX10_aim, cX10_aim, 4, some .int, 10, 0, 2),
  (yX10_bring, cX10_bring, 2, some .int, 10, 0, 0),
  (yX10_draw, cX10_draw, 2, some .int, 10, 0, 1),
  (yX10_drift, cX10_drift, 4, some .int, 10, 0, 1),
  (yX10_undo, cX10_undo, 3, some .int, 10, 0, 1),
  (yX10_write, cX10_write, 4, some .int, 10, 0, 3),
  (yX10_tear, cX10_tear, 2, some .int, 10, 0, 0),
  (yX10_seed, cX10_seed, 3, some .int, 10, 0, 1),
  (yX10_keep, cX10_keep, 2, some .int, 10, 0, 1),
  (yX10_goBack, cX10_goBack, 2, some .int, 10, 0, 1),
  (yJ9_floorMod_7cf53, cJ9_floorMod_7cf53, 3, some .int, 12, 1, 2),
  (yJ9_max_7cf53, cJ9_max_7cf53, 2, some .int, 12, 1, 2),
  (yJ9_min_7cf53, cJ9_min_7cf53, 2, some .int, 12, 1, 2),
  (yL_law, cL_law, 4, some .boolean, 11, 1, 1)]
theorem m_X0_init : mtab[0]? = some (yX0_init, cX0_init, 1, none, 0, 2, 0) := rfl
theorem m_X0_addEntry : mtab[1]? = some (yX0_addEntry, cX0_addEntry, 4, some .boolean, 0, 0, 3) := rfl
theorem m_X0_has : mtab[2]? = some (yX0_has, cX0_has, 2, some .boolean, 0, 0, 1) := rfl
theorem m_X0_functionAt : mtab[3]? = some (yX0_functionAt, cX0_functionAt, 2, some .int, 0, 0, 1) := rfl
theorem m_X0_argumentAt : mtab[4]? = some (yX0_argumentAt, cX0_argumentAt, 2, some .int, 0, 0, 1) := rfl
theorem m_X0_tellingAt : mtab[5]? = some (yX0_tellingAt, cX0_tellingAt, 2, some .int, 0, 0, 1) := rfl
theorem m_X1_init : mtab[6]? = some (yX1_init, cX1_init, 1, none, 1, 2, 0) := rfl
theorem m_X1_begin : mtab[7]? = some (yX1_begin, cX1_begin, 5, none, 1, 0, 4) := rfl
theorem m_X1_beginDoing : mtab[8]? = some (yX1_beginDoing, cX1_beginDoing, 1, none, 1, 0, 0) := rfl
theorem m_X1_addPart : mtab[9]? = some (yX1_addPart, cX1_addPart, 2, none, 1, 0, 1) := rfl
theorem m_X1_firstSoFar : mtab[10]? = some (yX1_firstSoFar, cX1_firstSoFar, 4, some (.object "TakenUpCalls$Call"), 1, 0, 2) := rfl
theorem m_X1_noteRead : mtab[11]? = some (yX1_noteRead, cX1_noteRead, 3, none, 1, 0, 2) := rfl
theorem m_X1_isOf : mtab[12]? = some (yX1_isOf, cX1_isOf, 3, some .boolean, 1, 0, 2) := rfl
theorem m_X1_isOld : mtab[13]? = some (yX1_isOld, cX1_isOld, 4, some .boolean, 1, 0, 1) := rfl
theorem m_X1_howManyParts : mtab[14]? = some (yX1_howManyParts, cX1_howManyParts, 3, some .int, 1, 0, 0) := rfl
theorem m_X1_isAlike : mtab[15]? = some (yX1_isAlike, cX1_isAlike, 2, some .boolean, 1, 0, 1) := rfl
theorem m_X1_areAlike : mtab[16]? = some (yX1_areAlike, cX1_areAlike, 4, some .boolean, 1, 1, 2) := rfl
theorem m_X2_init : mtab[17]? = some (yX2_init, cX2_init, 1, none, 2, 2, 0) := rfl
theorem m_X2_noteCell : mtab[18]? = some (yX2_noteCell, cX2_noteCell, 3, none, 2, 0, 2) := rfl
theorem m_X2_noteAim : mtab[19]? = some (yX2_noteAim, cX2_noteAim, 3, none, 2, 0, 2) := rfl
theorem m_X2_note : mtab[20]? = some (yX2_note, cX2_note, 4, none, 2, 0, 3) := rfl
theorem m_X2_forget : mtab[21]? = some (yX2_forget, cX2_forget, 1, none, 2, 0, 0) := rfl
theorem m_X2_takeBackLatest : mtab[22]? = some (yX2_takeBackLatest, cX2_takeBackLatest, 3, none, 2, 0, 1) := rfl
theorem m_X3_init : mtab[23]? = some (yX3_init, cX3_init, 4, none, 3, 2, 3) := rfl
theorem m_X3_takeProgram : mtab[24]? = some (yX3_takeProgram, cX3_takeProgram, 2, none, 3, 0, 1) := rfl
theorem m_X3_firstRoot : mtab[25]? = some (yX3_firstRoot, cX3_firstRoot, 2, some (.object "TakenUpCalls$Call"), 3, 0, 0) := rfl
theorem m_X3_madeByItself : mtab[26]? = some (yX3_madeByItself, cX3_madeByItself, 3, some (.object "TakenUpCalls$Call"), 3, 0, 2) := rfl
theorem m_X3_broughtRoot : mtab[27]? = some (yX3_broughtRoot, cX3_broughtRoot, 2, some (.object "TakenUpCalls$Call"), 3, 0, 1) := rfl
theorem m_X3_letGoWithAll : mtab[28]? = some (yX3_letGoWithAll, cX3_letGoWithAll, 2, none, 3, 0, 1) := rfl
theorem m_X3_clearCounts : mtab[29]? = some (yX3_clearCounts, cX3_clearCounts, 1, none, 3, 0, 0) := rfl
theorem m_X3_make : mtab[30]? = some (yX3_make, cX3_make, 5, some (.object "TakenUpCalls$Call"), 3, 0, 3) := rfl
theorem m_X3_bringUp : mtab[31]? = some (yX3_bringUp, cX3_bringUp, 2, none, 3, 0, 1) := rfl
theorem m_X3_isAnyPartOtherwise : mtab[32]? = some (yX3_isAnyPartOtherwise, cX3_isAnyPartOtherwise, 4, some .boolean, 3, 0, 1) := rfl
theorem m_X3_goThrough : mtab[33]? = some (yX3_goThrough, cX3_goThrough, 5, none, 3, 0, 1) := rfl
theorem m_X3_takeStep : mtab[34]? = some (yX3_takeStep, cX3_takeStep, 5, some .int, 3, 0, 3) := rfl
theorem m_X3_joinTwo : mtab[35]? = some (yX3_joinTwo, cX3_joinTwo, 4, none, 3, 0, 1) := rfl
theorem m_X3_readCell : mtab[36]? = some (yX3_readCell, cX3_readCell, 4, some .int, 3, 0, 2) := rfl
theorem m_X3_whatPartTells : mtab[37]? = some (yX3_whatPartTells, cX3_whatPartTells, 5, some .int, 3, 0, 3) := rfl
theorem m_X3_takeUp : mtab[38]? = some (yX3_takeUp, cX3_takeUp, 3, none, 3, 0, 2) := rfl
theorem m_X3_letGoChain : mtab[39]? = some (yX3_letGoChain, cX3_letGoChain, 5, none, 3, 0, 2) := rfl
theorem m_X3_letGo : mtab[40]? = some (yX3_letGo, cX3_letGo, 2, none, 3, 0, 1) := rfl
theorem m_X3_push : mtab[41]? = some (yX3_push, cX3_push, 2, none, 3, 0, 1) := rfl
theorem m_X3_pop : mtab[42]? = some (yX3_pop, cX3_pop, 1, some .int, 3, 0, 0) := rfl
theorem m_X4_init : mtab[43]? = some (yX4_init, cX4_init, 1, none, 4, 2, 0) := rfl
theorem m_X4_take : mtab[44]? = some (yX4_take, cX4_take, 2, some (.object "TakenUpCalls$Call"), 4, 0, 0) := rfl
theorem m_X4_giveBack : mtab[45]? = some (yX4_giveBack, cX4_giveBack, 2, none, 4, 0, 1) := rfl
theorem m_X5_init : mtab[46]? = some (yX5_init, cX5_init, 1, none, 5, 2, 0) := rfl
theorem m_X5_clear : mtab[47]? = some (yX5_clear, cX5_clear, 1, none, 5, 0, 0) := rfl
theorem m_X5_beginFunction : mtab[48]? = some (yX5_beginFunction, cX5_beginFunction, 1, none, 5, 0, 0) := rfl
theorem m_X5_endFunction : mtab[49]? = some (yX5_endFunction, cX5_endFunction, 1, none, 5, 0, 0) := rfl
theorem m_X5_addStep : mtab[50]? = some (yX5_addStep, cX5_addStep, 3, some .int, 5, 0, 2) := rfl
theorem m_X5_skipToHere : mtab[51]? = some (yX5_skipToHere, cX5_skipToHere, 2, none, 5, 0, 1) := rfl
theorem m_X5_tellsOf : mtab[52]? = some (yX5_tellsOf, cX5_tellsOf, 2, some .boolean, 5, 0, 1) := rfl
theorem m_X5_startOf : mtab[53]? = some (yX5_startOf, cX5_startOf, 2, some .int, 5, 0, 1) := rfl
theorem m_X5_stepAt : mtab[54]? = some (yX5_stepAt, cX5_stepAt, 2, some .int, 5, 0, 1) := rfl
theorem m_X5_valueAt : mtab[55]? = some (yX5_valueAt, cX5_valueAt, 2, some .int, 5, 0, 1) := rfl
theorem m_X6_init : mtab[56]? = some (yX6_init, cX6_init, 1, none, 6, 2, 0) := rfl
theorem m_X6_readInto : mtab[57]? = some (yX6_readInto, cX6_readInto, 6, some .int, 6, 0, 3) := rfl
theorem m_X6_readLetter : mtab[58]? = some (yX6_readLetter, cX6_readLetter, 2, some .int, 6, 0, 1) := rfl
theorem m_X6_beginFunction : mtab[59]? = some (yX6_beginFunction, cX6_beginFunction, 2, some .int, 6, 0, 1) := rfl
theorem m_X6_endFunction : mtab[60]? = some (yX6_endFunction, cX6_endFunction, 2, some .int, 6, 0, 1) := rfl
theorem m_X6_beginTerm : mtab[61]? = some (yX6_beginTerm, cX6_beginTerm, 2, some .int, 6, 0, 1) := rfl
theorem m_X6_beginCall : mtab[62]? = some (yX6_beginCall, cX6_beginCall, 1, some .int, 6, 0, 0) := rfl
theorem m_X6_readCalledFunction : mtab[63]? = some (yX6_readCalledFunction, cX6_readCalledFunction, 2, some .int, 6, 0, 1) := rfl
theorem m_X6_openTerm : mtab[64]? = some (yX6_openTerm, cX6_openTerm, 4, some .int, 6, 0, 3) := rfl
theorem m_X6_readLeaf : mtab[65]? = some (yX6_readLeaf, cX6_readLeaf, 4, some .int, 6, 0, 2) := rfl
theorem m_X6_placeSkips : mtab[66]? = some (yX6_placeSkips, cX6_placeSkips, 3, none, 6, 0, 1) := rfl
theorem m_X6_isFigure : mtab[67]? = some (yX6_isFigure, cX6_isFigure, 1, some .boolean, 6, 1, 1) := rfl
theorem m_X7_init : mtab[68]? = some (yX7_init, cX7_init, 1, none, 7, 2, 0) := rfl
theorem m_X7_become : mtab[69]? = some (yX7_become, cX7_become, 2, none, 7, 0, 1) := rfl
theorem m_X7_draw : mtab[70]? = some (yX7_draw, cX7_draw, 2, some .int, 7, 0, 1) := rfl
theorem m_X8_init : mtab[71]? = some (yX8_init, cX8_init, 1, none, 8, 2, 0) := rfl
theorem m_X8_list : mtab[72]? = some (yX8_list, cX8_list, 2, none, 8, 0, 1) := rfl
theorem m_X8_listAll : mtab[73]? = some (yX8_listAll, cX8_listAll, 5, none, 8, 0, 2) := rfl
theorem m_X8_numbered : mtab[74]? = some (yX8_numbered, cX8_numbered, 2, some (.object "TakenUpCalls$Call"), 8, 0, 1) := rfl
theorem m_X8_numberOfName : mtab[75]? = some (yX8_numberOfName, cX8_numberOfName, 3, some .int, 8, 0, 1) := rfl
theorem m_X8_rootTells : mtab[76]? = some (yX8_rootTells, cX8_rootTells, 1, some .int, 8, 0, 0) := rfl
theorem m_X8_greatestNest : mtab[77]? = some (yX8_greatestNest, cX8_greatestNest, 3, some .int, 8, 0, 0) := rfl
theorem m_X8_howManyOld : mtab[78]? = some (yX8_howManyOld, cX8_howManyOld, 4, some .int, 8, 0, 1) := rfl
theorem m_X8_cellsRead : mtab[79]? = some (yX8_cellsRead, cX8_cellsRead, 3, some .int, 8, 0, 0) := rfl
theorem m_X9_init : mtab[80]? = some (yX9_init, cX9_init, 2, none, 9, 2, 0) := rfl
theorem m_X9_feed : mtab[81]? = some (yX9_feed, cX9_feed, 2, some .int, 9, 0, 1) := rfl
theorem m_X9_functions : mtab[82]? = some (yX9_functions, cX9_functions, 2, some .int, 9, 0, 0) := rfl
theorem m_X9_fault : mtab[83]? = some (yX9_fault, cX9_fault, 1, some .int, 9, 0, 0) := rfl
theorem m_X9_told : mtab[84]? = some (yX9_told, cX9_told, 2, some .int, 9, 0, 1) := rfl
theorem m_X9_cell : mtab[85]? = some (yX9_cell, cX9_cell, 2, some .int, 9, 0, 1) := rfl
theorem m_X9_call : mtab[86]? = some (yX9_call, cX9_call, 4, some .int, 9, 0, 2) := rfl
theorem m_X9_find : mtab[87]? = some (yX9_find, cX9_find, 2, some .int, 9, 0, 1) := rfl
theorem m_X9_set : mtab[88]? = some (yX9_set, cX9_set, 3, some .int, 9, 0, 2) := rfl
theorem m_X9_aim : mtab[89]? = some (yX9_aim, cX9_aim, 4, some .int, 9, 0, 2) := rfl
theorem m_X9_bring : mtab[90]? = some (yX9_bring, cX9_bring, 1, some .int, 9, 0, 0) := rfl
theorem m_X9_drift : mtab[91]? = some (yX9_drift, cX9_drift, 5, some .int, 9, 0, 1) := rfl
theorem m_X9_undo : mtab[92]? = some (yX9_undo, cX9_undo, 3, some .int, 9, 0, 1) := rfl
theorem m_X9_write : mtab[93]? = some (yX9_write, cX9_write, 4, some .int, 9, 0, 3) := rfl
theorem m_X9_tear : mtab[94]? = some (yX9_tear, cX9_tear, 2, some .int, 9, 0, 0) := rfl
theorem m_X9_seed : mtab[95]? = some (yX9_seed, cX9_seed, 3, some .int, 9, 0, 1) := rfl
theorem m_X9_keep : mtab[96]? = some (yX9_keep, cX9_keep, 3, some .int, 9, 0, 1) := rfl
theorem m_X9_goBack : mtab[97]? = some (yX9_goBack, cX9_goBack, 3, some .int, 9, 0, 1) := rfl
theorem m_X9_isCell : mtab[98]? = some (yX9_isCell, cX9_isCell, 1, some .boolean, 9, 1, 1) := rfl
theorem m_X9_isNumber : mtab[99]? = some (yX9_isNumber, cX9_isNumber, 1, some .boolean, 9, 1, 1) := rfl
theorem m_X9_isImage : mtab[100]? = some (yX9_isImage, cX9_isImage, 1, some .boolean, 9, 1, 1) := rfl
theorem m_X9_addLetter : mtab[101]? = some (yX9_addLetter, cX9_addLetter, 2, some .boolean, 9, 0, 1) := rfl
theorem m_X9_takeText : mtab[102]? = some (yX9_takeText, cX9_takeText, 3, some .int, 9, 0, 0) := rfl
theorem m_X9_startAnew : mtab[103]? = some (yX9_startAnew, cX9_startAnew, 1, none, 9, 0, 0) := rfl
theorem m_X9_changeCell : mtab[104]? = some (yX9_changeCell, cX9_changeCell, 4, some .int, 9, 0, 2) := rfl
theorem m_X9_tellingByItself : mtab[105]? = some (yX9_tellingByItself, cX9_tellingByItself, 5, some .int, 9, 0, 2) := rfl
theorem m_X9_isAlike : mtab[106]? = some (yX9_isAlike, cX9_isAlike, 3, some .boolean, 9, 0, 0) := rfl
theorem m_X9_firstWrong : mtab[107]? = some (yX9_firstWrong, cX9_firstWrong, 4, some .int, 9, 0, 0) := rfl
theorem m_X10_init : mtab[108]? = some (yX10_init, cX10_init, 1, none, 10, 2, 0) := rfl
theorem m_X10_in : mtab[109]? = some (yX10_in, cX10_in, 6, some .boolean, 10, 1, 3) := rfl
theorem m_X10_has : mtab[110]? = some (yX10_has, cX10_has, 2, some .boolean, 10, 1, 2) := rfl
theorem m_X10_copyRow : mtab[111]? = some (yX10_copyRow, cX10_copyRow, 4, none, 10, 0, 2) := rfl
theorem m_X10_remember : mtab[112]? = some (yX10_remember, cX10_remember, 2, none, 10, 0, 0) := rfl
theorem m_X10_push : mtab[113]? = some (yX10_push, cX10_push, 3, none, 10, 0, 2) := rfl
theorem m_X10_wants : mtab[114]? = some (yX10_wants, cX10_wants, 1, some .int, 10, 1, 1) := rfl
theorem m_X10_skip : mtab[115]? = some (yX10_skip, cX10_skip, 3, none, 10, 0, 0) := rfl
theorem m_X10_begin : mtab[116]? = some (yX10_begin, cX10_begin, 5, none, 10, 0, 2) := rfl
theorem m_X10_counted : mtab[117]? = some (yX10_counted, cX10_counted, 3, some .int, 10, 1, 3) := rfl
theorem m_X10_open : mtab[118]? = some (yX10_open, cX10_open, 2, some .int, 10, 0, 0) := rfl
theorem m_X10_called : mtab[119]? = some (yX10_called, cX10_called, 3, some .int, 10, 0, 2) := rfl
theorem m_X10_give : mtab[120]? = some (yX10_give, cX10_give, 4, some .int, 10, 0, 1) := rfl
theorem m_X10_giveTwo : mtab[121]? = some (yX10_giveTwo, cX10_giveTwo, 3, some .int, 10, 0, 2) := rfl
theorem m_X10_choose : mtab[122]? = some (yX10_choose, cX10_choose, 3, some .int, 10, 0, 2) := rfl
theorem m_X10_layNew : mtab[123]? = some (yX10_layNew, cX10_layNew, 4, some .int, 10, 0, 2) := rfl
theorem m_X10_layNow : mtab[124]? = some (yX10_layNow, cX10_layNow, 1, some .int, 10, 0, 0) := rfl
theorem m_X10_endOf : mtab[125]? = some (yX10_endOf, cX10_endOf, 4, some .int, 10, 1, 3) := rfl
theorem m_X10_isOld : mtab[126]? = some (yX10_isOld, cX10_isOld, 4, some .boolean, 10, 0, 1) := rfl
theorem m_X10_isDoneAnew : mtab[127]? = some (yX10_isDoneAnew, cX10_isDoneAnew, 7, some .boolean, 10, 0, 2) := rfl
theorem m_X10_matchParts : mtab[128]? = some (yX10_matchParts, cX10_matchParts, 8, none, 10, 0, 2) := rfl
theorem m_X10_matchAll : mtab[129]? = some (yX10_matchAll, cX10_matchAll, 5, none, 10, 0, 1) := rfl
theorem m_X10_takeOver : mtab[130]? = some (yX10_takeOver, cX10_takeOver, 2, none, 10, 0, 0) := rfl
theorem m_X10_layFirst : mtab[131]? = some (yX10_layFirst, cX10_layFirst, 2, none, 10, 0, 0) := rfl
theorem m_X10_isAlike : mtab[132]? = some (yX10_isAlike, cX10_isAlike, 4, some .boolean, 10, 0, 0) := rfl
theorem m_X10_isTerm : mtab[133]? = some (yX10_isTerm, cX10_isTerm, 1, some .boolean, 10, 1, 1) := rfl
theorem m_X10_faultOf : mtab[134]? = some (yX10_faultOf, cX10_faultOf, 2, some .int, 10, 0, 1) := rfl
theorem m_X10_goOn : mtab[135]? = some (yX10_goOn, cX10_goOn, 2, none, 10, 0, 1) := rfl
theorem m_X10_readText : mtab[136]? = some (yX10_readText, cX10_readText, 3, some .int, 10, 0, 0) := rfl
theorem m_X10_layCode : mtab[137]? = some (yX10_layCode, cX10_layCode, 4, none, 10, 0, 0) := rfl
theorem m_X10_feed : mtab[138]? = some (yX10_feed, cX10_feed, 2, some .int, 10, 0, 1) := rfl
theorem m_X10_functions : mtab[139]? = some (yX10_functions, cX10_functions, 2, some .int, 10, 0, 0) := rfl
theorem m_X10_fault : mtab[140]? = some (yX10_fault, cX10_fault, 1, some .int, 10, 0, 0) := rfl
theorem m_X10_deepest : mtab[141]? = some (yX10_deepest, cX10_deepest, 3, some .int, 10, 0, 0) := rfl
theorem m_X10_oldMany : mtab[142]? = some (yX10_oldMany, cX10_oldMany, 3, some .int, 10, 0, 0) := rfl
theorem m_X10_bears : mtab[143]? = some (yX10_bears, cX10_bears, 3, some .int, 10, 0, 0) := rfl
theorem m_X10_wrong : mtab[144]? = some (yX10_wrong, cX10_wrong, 2, some .int, 10, 0, 0) := rfl
theorem m_X10_toldMore : mtab[145]? = some (yX10_toldMore, cX10_toldMore, 2, some .int, 10, 0, 1) := rfl
theorem m_X10_told : mtab[146]? = some (yX10_told, cX10_told, 2, some .int, 10, 0, 1) := rfl
theorem m_X10_cell : mtab[147]? = some (yX10_cell, cX10_cell, 2, some .int, 10, 0, 1) := rfl
theorem m_X10_makerOf : mtab[148]? = some (yX10_makerOf, cX10_makerOf, 4, some .int, 10, 0, 1) := rfl
theorem m_X10_partsOf : mtab[149]? = some (yX10_partsOf, cX10_partsOf, 4, some .int, 10, 0, 1) := rfl
theorem m_X10_call : mtab[150]? = some (yX10_call, cX10_call, 3, some .int, 10, 0, 2) := rfl
theorem m_X10_find : mtab[151]? = some (yX10_find, cX10_find, 4, some .int, 10, 0, 1) := rfl
theorem m_X10_set : mtab[152]? = some (yX10_set, cX10_set, 4, some .int, 10, 0, 2) := rfl
theorem m_X10_aim : mtab[153]? = some (yX10_aim, cX10_aim, 4, some .int, 10, 0, 2) := rfl
theorem m_X10_bring : mtab[154]? = some (yX10_bring, cX10_bring, 2, some .int, 10, 0, 0) := rfl
theorem m_X10_draw : mtab[155]? = some (yX10_draw, cX10_draw, 2, some .int, 10, 0, 1) := rfl
theorem m_X10_drift : mtab[156]? = some (yX10_drift, cX10_drift, 4, some .int, 10, 0, 1) := rfl
theorem m_X10_undo : mtab[157]? = some (yX10_undo, cX10_undo, 3, some .int, 10, 0, 1) := rfl
theorem m_X10_write : mtab[158]? = some (yX10_write, cX10_write, 4, some .int, 10, 0, 3) := rfl
theorem m_X10_tear : mtab[159]? = some (yX10_tear, cX10_tear, 2, some .int, 10, 0, 0) := rfl
theorem m_X10_seed : mtab[160]? = some (yX10_seed, cX10_seed, 3, some .int, 10, 0, 1) := rfl
theorem m_X10_keep : mtab[161]? = some (yX10_keep, cX10_keep, 2, some .int, 10, 0, 1) := rfl
theorem m_X10_goBack : mtab[162]? = some (yX10_goBack, cX10_goBack, 2, some .int, 10, 0, 1) := rfl
theorem m_J9_floorMod_7cf53 : mtab[163]? = some (yJ9_floorMod_7cf53, cJ9_floorMod_7cf53, 3, some .int, 12, 1, 2) := rfl
theorem m_J9_max_7cf53 : mtab[164]? = some (yJ9_max_7cf53, cJ9_max_7cf53, 2, some .int, 12, 1, 2) := rfl
theorem m_J9_min_7cf53 : mtab[165]? = some (yJ9_min_7cf53, cJ9_min_7cf53, 2, some .int, 12, 1, 2) := rfl
theorem m_L_law : mtab[166]? = some (yL_law, cL_law, 4, some .boolean, 11, 1, 1) := rfl
/-- where the tables speak of each method: its code, instance or static, selects, its class initialised (the law itself has none) -/
def mpl : List (Nat × Nat × Nat × Nat) := [(219, 218, 0, 71), (794, 792, 793, 71), (689, 688, 30, 71), (685, 683, 684, 71), (694, 692, 693, 71), (698, 696, 697, 71), (406, 405, 0, 75), (483, 481, 482, 75), (491, 489, 490, 75), (564, 562, 563, 75), (539, 537, 538, 75), (530, 528, 529, 75), (543, 541, 542, 75), (555, 553, 554, 75), (718, 716, 717, 75), (658, 656, 657, 75), (661, 660, 0, 75), (196, 195, 0, 70), (742, 740, 741, 70), (755, 753, 754, 70), (746, 745, 32, 70), (369, 367, 368, 70), (785, 783, 784, 70), (250, 249, 0, 73), (373, 371, 372, 73), (393, 391, 392, 73), (650, 648, 649, 73), (763, 761, 762, 73), (377, 375, 376, 73), (572, 571, 25, 73), (397, 396, 14, 73), (551, 550, 22, 73), (560, 559, 23, 73), (487, 486, 15, 73), (507, 506, 16, 73), (568, 567, 24, 73), (523, 522, 19, 73), (534, 533, 20, 73), (547, 546, 21, 73), (385, 384, 13, 73), (381, 380, 12, 73), (515, 514, 17, 73), (519, 518, 18, 73), (240, 239, 0, 72), (401, 399, 400, 72), (389, 387, 388, 72), (123, 122, 0, 67), (302, 300, 301, 67), (317, 315, 316, 67), (360, 358, 359, 67), (332, 330, 331, 67), (340, 338, 339, 67), (499, 497, 498, 67), (495, 493, 494, 67), (503, 501, 502, 67), (511, 509, 510, 67), (90, 89, 0, 66), (298, 296, 297, 66), (309, 308, 2, 66), (313, 312, 3, 66), (356, 355, 10, 66), (321, 320, 4, 66), (348, 347, 8, 66), (352, 351, 9, 66), (344, 343, 7, 66), (328, 327, 5, 66), (336, 335, 6, 66), (324, 323, 0, 66), (147, 146, 0, 68), (813, 811, 812, 68), (773, 771, 772, 68), (176, 175, 0, 69), (576, 574, 575, 69), (580, 579, 26, 69), (714, 712, 713, 69), (727, 725, 726, 69), (642, 640, 641, 69), (665, 663, 664, 69), (672, 670, 671, 69), (677, 675, 676, 69), (82, 81, 0, 65), (624, 622, 623, 65), (630, 628, 629, 65), (634, 632, 633, 65), (638, 636, 637, 65), (702, 700, 701, 65), (710, 708, 709, 65), (723, 721, 722, 65), (731, 729, 730, 65), (751, 749, 750, 65), (759, 757, 758, 65), (769, 767, 768, 65), (780, 778, 779, 65), (790, 788, 789, 65), (798, 796, 797, 65), (802, 800, 801, 65), (806, 804, 805, 65), (820, 818, 819, 65), (705, 704, 0, 65), (734, 733, 0, 65), (809, 808, 0, 65), (290, 289, 0, 65), (294, 293, 1, 65), (365, 364, 11, 65), (738, 737, 31, 65), (646, 645, 27, 65), (654, 653, 28, 65), (681, 680, 29, 65), (825, 824, 0, 76), (855, 854, 0, 76), (896, 895, 0, 76), (1149, 1148, 62, 76), (1145, 1144, 61, 76), (846, 845, 37, 76), (874, 873, 0, 76), (871, 870, 42, 76), (842, 841, 36, 76), (881, 880, 0, 76), (850, 849, 38, 76), (863, 862, 40, 76), (859, 858, 39, 76), (878, 877, 43, 76), (867, 866, 41, 76), (838, 837, 35, 76), (834, 833, 34, 76), (899, 898, 0, 76), (893, 892, 46, 76), (889, 888, 45, 76), (903, 902, 47, 76), (885, 884, 44, 76), (907, 906, 48, 76), (830, 829, 33, 76), (1094, 1093, 53, 76), (1074, 1073, 0, 76), (1071, 1070, 50, 76), (1078, 1077, 51, 76), (1067, 1066, 49, 76), (1082, 1081, 52, 76), (1056, 1054, 1055, 76), (1063, 1061, 1062, 76), (1086, 1084, 1085, 76), (1102, 1101, 55, 76), (1106, 1105, 56, 76), (1110, 1109, 57, 76), (1114, 1113, 58, 76), (1098, 1097, 54, 76), (1090, 1088, 1089, 76), (1118, 1116, 1117, 76), (1128, 1127, 59, 76), (1132, 1131, 60, 76), (1124, 1122, 1123, 76), (1136, 1134, 1135, 76), (1140, 1138, 1139, 76), (1153, 1151, 1152, 76), (1157, 1155, 1156, 76), (1166, 1165, 63, 76), (1161, 1159, 1160, 76), (1174, 1172, 1173, 76), (1180, 1178, 1179, 76), (1184, 1182, 1183, 76), (1188, 1186, 1187, 76), (1192, 1190, 1191, 76), (1196, 1194, 1195, 76), (526, 525, 0, 74), (668, 667, 0, 74), (305, 304, 0, 74), (0, 0, 0, 64)]
def mOk (q : (MethodName × ByteArray × Nat × Option FieldType × Nat × Nat × Nat) × (Nat × Nat × Nat × Nat)) : Prop := match q with
  | ((y, cc, nL, ret, own, kind, na), (p1, p2, p3, p4)) => own = 11 ∨ (lw_tbl[p1]? = some (Cond.code y cc nL ret) ∧ (lw_tbl[p2]? = some (if kind = 1 then Cond.static y else Cond.instanceMethod y)) ∧ (kind = 0 → lw_tbl[p3]? = some (Cond.selects y.cls y y)) ∧ lw_tbl[p4]? = some (Cond.initialized y.cls) ∧ y.cls = cn own ∧ plainFor y = true ∧ y.cls ≠ "java/lang/invoke/MethodHandle" ∧ y.cls ≠ "java/lang/invoke/VarHandle" ∧ (parseMethodDescriptor y.desc).map (fun d => d.parameters.length) = some na ∧ nL ≤ 16 ∧ (kind = 2 → y.name = "<init>" ∧ ret = none))
theorem mtab_ok_1 : ∀ q ∈ ((mtab.zip mpl).drop 0).take 12, mOk q := by unfold mOk; decide +kernel
theorem mtab_ok_2 : ∀ q ∈ ((mtab.zip mpl).drop 12).take 12, mOk q := by unfold mOk; decide +kernel
theorem mtab_ok_3 : ∀ q ∈ ((mtab.zip mpl).drop 24).take 12, mOk q := by unfold mOk; decide +kernel
theorem mtab_ok_4 : ∀ q ∈ ((mtab.zip mpl).drop 36).take 12, mOk q := by unfold mOk; decide +kernel
theorem mtab_ok_5 : ∀ q ∈ ((mtab.zip mpl).drop 48).take 12, mOk q := by unfold mOk; decide +kernel
theorem mtab_ok_6 : ∀ q ∈ ((mtab.zip mpl).drop 60).take 12, mOk q := by unfold mOk; decide +kernel
theorem mtab_ok_7 : ∀ q ∈ ((mtab.zip mpl).drop 72).take 12, mOk q := by unfold mOk; decide +kernel
theorem mtab_ok_8 : ∀ q ∈ ((mtab.zip mpl).drop 84).take 12, mOk q := by unfold mOk; decide +kernel
theorem mtab_ok_9 : ∀ q ∈ ((mtab.zip mpl).drop 96).take 12, mOk q := by unfold mOk; decide +kernel
theorem mtab_ok_10 : ∀ q ∈ ((mtab.zip mpl).drop 108).take 12, mOk q := by unfold mOk; decide +kernel
theorem mtab_ok_11 : ∀ q ∈ ((mtab.zip mpl).drop 120).take 12, mOk q := by unfold mOk; decide +kernel
theorem mtab_ok_12 : ∀ q ∈ ((mtab.zip mpl).drop 132).take 12, mOk q := by unfold mOk; decide +kernel
theorem mtab_ok_13 : ∀ q ∈ ((mtab.zip mpl).drop 144).take 12, mOk q := by unfold mOk; decide +kernel
theorem mtab_ok_14 : ∀ q ∈ ((mtab.zip mpl).drop 156).take 12, mOk q := by unfold mOk; decide +kernel
theorem mtab_len : (mtab.zip mpl).length = 167 := by decide +kernel
theorem mtab_len2 : mtab.length = 167 := by decide +kernel
theorem mpl_len2 : mpl.length = 167 := by decide +kernel
theorem all_by_12 {α : Type} {P : α → Prop} {L : List α} {n : Nat} (hn : L.length ≤ 12 * n) (h : ∀ j, j < n → ∀ q ∈ (L.drop (12 * j)).take 12, P q) : ∀ q ∈ L, P q := by
  intro q hq
  obtain ⟨i, hi⟩ := List.getElem?_of_mem hq
  have hl := (List.getElem?_eq_some_iff.mp hi).1
  refine h (i / 12) (by omega) q (List.mem_of_getElem? (i := i % 12) ?_)
  rw [List.getElem?_take, if_pos (by omega), List.getElem?_drop, show 12 * (i / 12) + i % 12 = i from by omega]
  exact hi
theorem mtab_ok : ∀ q ∈ mtab.zip mpl, mOk q := by
  refine all_by_12 (n := 14) (by rw [mtab_len]; decide) ?_
  intro j hj
  match j, hj with
  | 0, _ => exact mtab_ok_1
  | 1, _ => exact mtab_ok_2
  | 2, _ => exact mtab_ok_3
  | 3, _ => exact mtab_ok_4
  | 4, _ => exact mtab_ok_5
  | 5, _ => exact mtab_ok_6
  | 6, _ => exact mtab_ok_7
  | 7, _ => exact mtab_ok_8
  | 8, _ => exact mtab_ok_9
  | 9, _ => exact mtab_ok_10
  | 10, _ => exact mtab_ok_11
  | 11, _ => exact mtab_ok_12
  | 12, _ => exact mtab_ok_13
  | 13, _ => exact mtab_ok_14
  | (n + 14), h => exact absurd h (by omega)
def ltab : List (Nat × Nat × Nat × Nat × Nat) := [(11, 9, 80, 0, 80), (9, 3, 900, 0, 83), (9, 19, 56, 1, 88), (6, 3, 900, 0, 91), (9, 26, 46, 1, 121), (5, 3, 900, 0, 124), (9, 36, 68, 1, 145), (7, 3, 900, 0, 148), (9, 43, 71, 1, 174), (8, 3, 900, 0, 177), (9, 50, 17, 1, 194), (2, 3, 900, 0, 197), (9, 57, 0, 1, 217), (0, 3, 900, 0, 220), (9, 68, 43, 1, 238), (4, 1, 900, 0, 241), (9, 71, 23, 0, 248), (3, 3, 900, 0, 251), (9, 81, 101, 0, 287), (9, 85, 102, 0, 291), (9, 248, 57, 0, 295), (6, 25, 47, 0, 299), (6, 34, 165, 0, 303), (6, 43, 58, 0, 306), (6, 50, 59, 0, 310), (6, 62, 48, 0, 314), (6, 53, 61, 0, 318), (6, 72, 67, 0, 322), (6, 76, 65, 0, 325), (6, 87, 50, 0, 329), (6, 90, 66, 0, 333), (6, 94, 51, 0, 337), (6, 79, 64, 0, 341), (6, 83, 62, 0, 345), (6, 56, 63, 0, 349), (6, 59, 60, 0, 353), (6, 70, 49, 0, 357), (5, 28, 50, 0, 361), (9, 255, 103, 0, 362), (9, 245, 21, 0, 366), (9, 258, 24, 0, 370), (9, 262, 28, 0, 374), (3, 62, 40, 0, 378), (3, 140, 39, 0, 382), (3, 188, 45, 0, 386), (9, 265, 25, 0, 390), (3, 31, 30, 0, 394), (3, 74, 44, 0, 398), (4, 15, 6, 1, 404), (1, 3, 900, 0, 407), (3, 80, 7, 0, 480), (3, 84, 33, 0, 484), (3, 114, 8, 0, 488), (3, 120, 53, 0, 492), (5, 32, 52, 0, 496), (3, 126, 54, 0, 500), (3, 129, 34, 0, 504), (3, 144, 55, 0, 508), (3, 147, 41, 0, 512), (3, 133, 42, 0, 516), (3, 154, 36, 0, 520), (3, 164, 163, 0, 524), (3, 170, 11, 0, 527), (3, 158, 37, 0, 531), (3, 174, 52, 0, 535), (3, 178, 10, 0, 536), (1, 53, 12, 0, 540), (3, 182, 38, 0, 544), (3, 55, 31, 0, 548), (3, 93, 13, 0, 552), (1, 57, 165, 0, 556), (3, 97, 32, 0, 557), (3, 185, 9, 0, 561), (3, 161, 35, 0, 565), (3, 35, 29, 0, 569), (9, 220, 72, 0, 573), (8, 25, 73, 0, 577), (11, 13, 81, 0, 621), (11, 18, 82, 0, 627), (11, 23, 83, 0, 631), (11, 27, 84, 0, 635), (9, 97, 76, 0, 639), (9, 109, 105, 0, 643), (9, 272, 26, 0, 647), (9, 113, 106, 0, 651), (9, 276, 15, 0, 655), (1, 63, 16, 0, 659), (9, 129, 77, 0, 662), (8, 50, 164, 0, 666), (9, 135, 78, 0, 669), (8, 56, 13, 0, 673), (9, 139, 79, 0, 674), (9, 145, 107, 0, 678), (9, 279, 3, 0, 682), (0, 25, 2, 0, 686), (9, 205, 52, 0, 690), (9, 282, 4, 0, 691), (9, 285, 5, 0, 695), (11, 31, 85, 0, 699), (9, 151, 98, 0, 703), (11, 35, 86, 0, 707), (9, 155, 74, 0, 711), (9, 185, 14, 0, 715), (9, 191, 13, 0, 719), (11, 40, 87, 0, 720), (9, 195, 75, 0, 724), (11, 44, 88, 0, 728), (9, 199, 99, 0, 732), (9, 202, 104, 0, 735), (9, 269, 18, 0, 739), (2, 21, 20, 0, 743), (2, 32, 165, 0, 747), (11, 48, 89, 0, 748), (9, 208, 19, 0, 752), (11, 52, 90, 0, 756), (9, 216, 27, 0, 760), (3, 49, 12, 0, 764), (3, 59, 28, 0, 765), (11, 56, 91, 0, 766), (9, 224, 70, 0, 770), (11, 60, 92, 0, 777), (9, 231, 22, 0, 782), (2, 46, 98, 1, 786), (11, 64, 93, 0, 787), (9, 235, 1, 0, 791), (11, 69, 94, 0, 795), (11, 73, 95, 0, 799), (11, 77, 96, 0, 803), (9, 239, 100, 0, 807), (9, 242, 69, 0, 810), (7, 15, 901, 0, 814), (11, 81, 97, 0, 817), (11, 12, 108, 0, 823), (10, 1, 900, 0, 826), (10, 98, 131, 0, 827), (10, 198, 124, 0, 831), (10, 162, 123, 0, 835), (10, 135, 116, 0, 839), (10, 124, 113, 0, 843), (10, 155, 118, 0, 847), (10, 131, 109, 0, 853), (10, 159, 120, 0, 856), (10, 138, 119, 0, 860), (10, 142, 122, 0, 864), (10, 152, 115, 0, 868), (10, 114, 114, 0, 872), (10, 145, 121, 0, 875), (10, 148, 117, 0, 879), (10, 201, 129, 0, 882), (10, 189, 127, 0, 886), (10, 169, 126, 0, 890), (10, 165, 110, 0, 894), (10, 176, 125, 0, 897), (10, 192, 128, 0, 900), (10, 205, 130, 0, 904), (11, 17, 138, 0, 1053), (11, 22, 139, 0, 1060), (10, 241, 136, 0, 1064), (10, 230, 134, 0, 1068), (10, 221, 133, 0, 1072), (10, 233, 135, 0, 1075), (10, 244, 137, 0, 1079), (11, 26, 140, 0, 1083), (11, 30, 146, 0, 1087), (10, 262, 132, 0, 1091), (10, 266, 145, 0, 1095), (10, 250, 141, 0, 1099), (10, 253, 142, 0, 1103), (10, 256, 143, 0, 1107), (10, 259, 144, 0, 1111), (11, 34, 147, 0, 1115), (11, 39, 150, 0, 1121), (10, 272, 148, 0, 1125), (10, 275, 149, 0, 1129), (11, 43, 151, 0, 1133), (11, 47, 152, 0, 1137), (10, 280, 112, 0, 1142), (10, 101, 111, 0, 1146), (11, 51, 153, 0, 1150), (11, 55, 154, 0, 1154), (11, 59, 156, 0, 1158), (10, 295, 155, 0, 1163), (11, 63, 157, 0, 1171), (11, 68, 158, 0, 1177), (11, 72, 159, 0, 1181), (11, 76, 160, 0, 1185), (11, 80, 161, 0, 1189), (11, 84, 162, 0, 1193)]
def myn (mid : Nat) : MethodName := if mid = 900 then Lib.objectInit else if mid = 901 then arraycopyName else (mtab.getD mid (yX0_init, cX0_init, 0, none, 0, 0, 0)).1
def lOk (e : Nat × Nat × Nat × Nat × Nat) : Prop := lw_tbl[e.2.2.2.2]? = some (if e.2.2.2.1 = 1 then Cond.methodLinkNest (cn e.1) e.2.1 (myn e.2.2.1) "TakenUpCalls" else Cond.methodLink (cn e.1) e.2.1 (myn e.2.2.1))
theorem ltab_ok_1 : ∀ e ∈ (ltab.drop 0).take 12, lOk e := by unfold lOk; decide +kernel
theorem ltab_ok_2 : ∀ e ∈ (ltab.drop 12).take 12, lOk e := by unfold lOk; decide +kernel
theorem ltab_ok_3 : ∀ e ∈ (ltab.drop 24).take 12, lOk e := by unfold lOk; decide +kernel
theorem ltab_ok_4 : ∀ e ∈ (ltab.drop 36).take 12, lOk e := by unfold lOk; decide +kernel
theorem ltab_ok_5 : ∀ e ∈ (ltab.drop 48).take 12, lOk e := by unfold lOk; decide +kernel
theorem ltab_ok_6 : ∀ e ∈ (ltab.drop 60).take 12, lOk e := by unfold lOk; decide +kernel
theorem ltab_ok_7 : ∀ e ∈ (ltab.drop 72).take 12, lOk e := by unfold lOk; decide +kernel
theorem ltab_ok_8 : ∀ e ∈ (ltab.drop 84).take 12, lOk e := by unfold lOk; decide +kernel
theorem ltab_ok_9 : ∀ e ∈ (ltab.drop 96).take 12, lOk e := by unfold lOk; decide +kernel
theorem ltab_ok_10 : ∀ e ∈ (ltab.drop 108).take 12, lOk e := by unfold lOk; decide +kernel
theorem ltab_ok_11 : ∀ e ∈ (ltab.drop 120).take 12, lOk e := by unfold lOk; decide +kernel
theorem ltab_ok_12 : ∀ e ∈ (ltab.drop 132).take 12, lOk e := by unfold lOk; decide +kernel
theorem ltab_ok_13 : ∀ e ∈ (ltab.drop 144).take 12, lOk e := by unfold lOk; decide +kernel
theorem ltab_ok_14 : ∀ e ∈ (ltab.drop 156).take 12, lOk e := by unfold lOk; decide +kernel
theorem ltab_ok_15 : ∀ e ∈ (ltab.drop 168).take 12, lOk e := by unfold lOk; decide +kernel
theorem ltab_ok_16 : ∀ e ∈ (ltab.drop 180).take 12, lOk e := by unfold lOk; decide +kernel
theorem ltab_ok : ∀ e ∈ ltab, lOk e := by
  refine all_by_12 (n := 16) (by decide +kernel) ?_
  intro j hj
  match j, hj with
  | 0, _ => exact ltab_ok_1
  | 1, _ => exact ltab_ok_2
  | 2, _ => exact ltab_ok_3
  | 3, _ => exact ltab_ok_4
  | 4, _ => exact ltab_ok_5
  | 5, _ => exact ltab_ok_6
  | 6, _ => exact ltab_ok_7
  | 7, _ => exact ltab_ok_8
  | 8, _ => exact ltab_ok_9
  | 9, _ => exact ltab_ok_10
  | 10, _ => exact ltab_ok_11
  | 11, _ => exact ltab_ok_12
  | 12, _ => exact ltab_ok_13
  | 13, _ => exact ltab_ok_14
  | 14, _ => exact ltab_ok_15
  | 15, _ => exact ltab_ok_16
  | (n + 16), h => exact absurd h (by omega)
def ntab : List (Nat × Nat × Nat × Nat) := [(11, 7, 9, 78), (9, 17, 6, 86), (9, 24, 5, 119), (9, 34, 7, 143), (9, 41, 8, 172), (8, 9, 1, 178), (9, 48, 2, 192), (9, 55, 0, 215), (9, 66, 4, 236), (9, 69, 3, 246), (4, 13, 1, 402), (11, 10, 10, 821)]
def nOk (e : Nat × Nat × Nat × Nat) : Prop := lw_tbl[e.2.2.2]? = some (Cond.classLink (cn e.1) e.2.1 (cn e.2.2.1)) ∧ e.2.2.1 < 11
theorem ntab_ok : ∀ e ∈ ntab, nOk e := by unfold nOk; decide +kernel
def ktab : List (Nat × Nat × Int × Nat) := [(9, 89, -1000000002, 625), (9, 93, -1000000004, 626), (9, 154, -1000000001, 706), (7, 31, 1103515245, 774), (7, 32, 2147483647, 775), (7, 33, 65536, 776), (9, 230, -1000000003, 781), (10, 239, -1000000002, 1058), (10, 240, -1000000004, 1059), (10, 271, -1000000001, 1120), (10, 292, 65536, 1170), (10, 300, -1000000003, 1176)]
def kOk (e : Nat × Nat × Int × Nat) : Prop := lw_tbl[e.2.2.2]? = some (Cond.constant (cn e.1) e.2.1 (Int32.ofInt e.2.2.1)) ∧ -2147483648 ≤ e.2.2.1 ∧ e.2.2.1 < 2147483648
theorem ktab_ok : ∀ e ∈ ktab, kOk e := by unfold kOk; decide +kernel
def jtab : List (Nat × Nat × Int × Nat) := [(10, 127, 48, 851), (10, 129, 57, 852), (10, 237, 255, 1057), (10, 269, 7, 1119), (10, 278, 996, 1141), (10, 293, 12, 1162), (10, 286, 1103515245, 1167), (10, 288, 12345, 1168), (10, 290, 2147483648, 1169), (10, 298, 16, 1175)]
def jOk (e : Nat × Nat × Int × Nat) : Prop := lw_tbl[e.2.2.2]? = some (Cond.constantLong (cn e.1) e.2.1 (Int64.ofInt e.2.2.1)) ∧ -9223372036854775808 ≤ e.2.2.1 ∧ e.2.2.1 < 9223372036854775808
theorem jtab_ok : ∀ e ∈ jtab, jOk e := by unfold jOk; decide +kernel
theorem lay0 : ∀ k, k < 4 → lw_tbl[([226, 228, 230, 232] : List Nat).getD k 0]? = some (u_lay RX0 TX0 k) := by decide +kernel
theorem iwX0 : ∀ w ∈ u_ws RX0 TX0 4, w ∈ lw_tbl := by
  intro w h
  obtain ⟨k, hk, rfl⟩ := List.mem_map.mp h
  exact List.mem_of_getElem? (lay0 k (List.mem_range.mp hk))
theorem lay1 : ∀ k, k < 15 → lw_tbl[([449, 451, 453, 455, 457, 459, 461, 463, 465, 467, 469, 471, 473, 475, 477] : List Nat).getD k 0]? = some (u_lay RX1 TX1 k) := by decide +kernel
theorem iwX1 : ∀ w ∈ u_ws RX1 TX1 15, w ∈ lw_tbl := by
  intro w h
  obtain ⟨k, hk, rfl⟩ := List.mem_map.mp h
  exact List.mem_of_getElem? (lay1 k (List.mem_range.mp hk))
theorem lay2 : ∀ k, k < 5 → lw_tbl[([204, 206, 208, 210, 212] : List Nat).getD k 0]? = some (u_lay RX2 TX2 k) := by decide +kernel
theorem iwX2 : ∀ w ∈ u_ws RX2 TX2 5, w ∈ lw_tbl := by
  intro w h
  obtain ⟨k, hk, rfl⟩ := List.mem_map.mp h
  exact List.mem_of_getElem? (lay2 k (List.mem_range.mp hk))
theorem lay3 : ∀ k, k < 10 → lw_tbl[([266, 268, 270, 272, 274, 276, 278, 280, 282, 284] : List Nat).getD k 0]? = some (u_lay RX3 TX3 k) := by decide +kernel
theorem iwX3 : ∀ w ∈ u_ws RX3 TX3 10, w ∈ lw_tbl := by
  intro w h
  obtain ⟨k, hk, rfl⟩ := List.mem_map.mp h
  exact List.mem_of_getElem? (lay3 k (List.mem_range.mp hk))
theorem lay4 : ∀ k, k < 1 → lw_tbl[([243] : List Nat).getD k 0]? = some (u_lay RX4 TX4 k) := by decide +kernel
theorem iwX4 : ∀ w ∈ u_ws RX4 TX4 1, w ∈ lw_tbl := by
  intro w h
  obtain ⟨k, hk, rfl⟩ := List.mem_map.mp h
  exact List.mem_of_getElem? (lay4 k (List.mem_range.mp hk))
theorem lay5 : ∀ k, k < 5 → lw_tbl[([132, 134, 136, 138, 140] : List Nat).getD k 0]? = some (u_lay RX5 TX5 k) := by decide +kernel
theorem iwX5 : ∀ w ∈ u_ws RX5 TX5 5, w ∈ lw_tbl := by
  intro w h
  obtain ⟨k, hk, rfl⟩ := List.mem_map.mp h
  exact List.mem_of_getElem? (lay5 k (List.mem_range.mp hk))
theorem lay6 : ∀ k, k < 8 → lw_tbl[([101, 103, 105, 107, 109, 111, 113, 115] : List Nat).getD k 0]? = some (u_lay RX6 TX6 k) := by decide +kernel
theorem iwX6 : ∀ w ∈ u_ws RX6 TX6 8, w ∈ lw_tbl := by
  intro w h
  obtain ⟨k, hk, rfl⟩ := List.mem_map.mp h
  exact List.mem_of_getElem? (lay6 k (List.mem_range.mp hk))
theorem lay7 : ∀ k, k < 4 → lw_tbl[([163, 165, 167, 169] : List Nat).getD k 0]? = some (u_lay RX7 TX7 k) := by decide +kernel
theorem iwX7 : ∀ w ∈ u_ws RX7 TX7 4, w ∈ lw_tbl := by
  intro w h
  obtain ⟨k, hk, rfl⟩ := List.mem_map.mp h
  exact List.mem_of_getElem? (lay7 k (List.mem_range.mp hk))
theorem lay8 : ∀ k, k < 3 → lw_tbl[([185, 187, 189] : List Nat).getD k 0]? = some (u_lay RX8 TX8 k) := by decide +kernel
theorem iwX8 : ∀ w ∈ u_ws RX8 TX8 3, w ∈ lw_tbl := by
  intro w h
  obtain ⟨k, hk, rfl⟩ := List.mem_map.mp h
  exact List.mem_of_getElem? (lay8 k (List.mem_range.mp hk))
theorem lay9 : ∀ k, k < 13 → lw_tbl[([594, 596, 598, 600, 602, 604, 606, 608, 610, 612, 614, 616, 618] : List Nat).getD k 0]? = some (u_lay RX9 TX9 k) := by decide +kernel
theorem iwX9 : ∀ w ∈ u_ws RX9 TX9 13, w ∈ lw_tbl := by
  intro w h
  obtain ⟨k, hk, rfl⟩ := List.mem_map.mp h
  exact List.mem_of_getElem? (lay9 k (List.mem_range.mp hk))
theorem lay10 : ∀ k, k < 48 → lw_tbl[([956, 958, 960, 962, 964, 966, 968, 970, 972, 974, 976, 978, 980, 982, 984, 986, 988, 990, 992, 994, 996, 998, 1000, 1002, 1004, 1006, 1008, 1010, 1012, 1014, 1016, 1018, 1020, 1022, 1024, 1026, 1028, 1030, 1032, 1034, 1036, 1038, 1040, 1042, 1044, 1046, 1048, 1050] : List Nat).getD k 0]? = some (u_lay RX10 TX10 k) := by decide +kernel
theorem iwX10 : ∀ w ∈ u_ws RX10 TX10 48, w ∈ lw_tbl := by
  intro w h
  obtain ⟨k, hk, rfl⟩ := List.mem_map.mp h
  exact List.mem_of_getElem? (lay10 k (List.mem_range.mp hk))
theorem insts : ∀ c, c < 11 → lw_tbl[([216, 403, 193, 247, 237, 120, 87, 144, 173, 79, 822] : List Nat).getD c 0]? = some (Cond.instantiable (cn c) (cN c)) := by decide +kernel
theorem inits : ∀ c, c < 11 → lw_tbl[([71, 75, 70, 73, 72, 67, 66, 68, 69, 65, 76] : List Nat).getD c 0]? = some (Cond.initialized (cn c)) := by decide +kernel
theorem w_ac : Cond.arrayClass .int ∈ lw_tbl := List.mem_of_getElem? (i := 118) (by decide +kernel)
theorem w_aoC : Cond.arrayOver (.object RX1) ∈ lw_tbl := List.mem_of_getElem? (i := 179) (by decide +kernel)
theorem w_aoS : Cond.arrayOver (.object RX7) ∈ lw_tbl := List.mem_of_getElem? (i := 235) (by decide +kernel)
theorem w_nat : Cond.native arraycopyName ∈ lw_tbl := List.mem_of_getElem? (i := 816) (by decide +kernel)
theorem w_sta : Cond.static arraycopyName ∈ lw_tbl := List.mem_of_getElem? (i := 815) (by decide +kernel)
theorem w_isy : Cond.initialized "java/lang/System" ∈ lw_tbl := List.mem_of_getElem? (i := 77) (by decide +kernel)
theorem w_oi : Cond.instanceMethod Lib.objectInit ∈ lw_tbl := List.mem_of_getElem? (i := 84) (by decide +kernel)
theorem w_oc : Cond.code Lib.objectInit ⟨#[0xb1]⟩ 1 none ∈ lw_tbl := List.mem_of_getElem? (i := 85) (by decide +kernel)
def gtbl : List Cond := lw_tbl.filter goodWord
