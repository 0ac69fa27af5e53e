/-! WORDS of the tables, by name (by wip/p27/gen_words.py): m_ methods, wd_ words, fl_ field links, cl_ what a call asks -/
def mX12_init : Mth := (RX12, cX12_init, 3, none, true)
def mX7_init : Mth := (RX7, cX7_init, 5, none, true)
def mX7_firstValue : Mth := (RX7, cX7_firstValue, 1, (some .int), false)
def mX9_init : Mth := (RX9, cX9_init, 3, none, true)
def mX1_init : Mth := (RX1, cX1_init, 1, none, true)
def mX11_init : Mth := (RX11, cX11_init, 1, none, true)
def mX10_init : Mth := (RX10, cX10_init, 1, none, true)
def mX7_assignRoles : Mth := (RX7, cX7_assignRoles, 2, none, false)
def mX7_assignRole : Mth := (RX7, cX7_assignRole, 2, none, false)
def mX7_findKind : Mth := (RX7, cX7_findKind, 2, (some (.object "FlowBoxes$Kind")), false)
def mX7_isText : Mth := (RX7, cX7_isText, 1, (some .boolean), false)
def mX7_countsFor : Mth := (RX7, cX7_countsFor, 2, (some .boolean), false)
def mJx29ce0_ordinal_8abf5 : Mth := (RJx29ce0, cJx29ce0_ordinal_8abf5, 1, (some .int), false)
def mX7_isInColumns : Mth := (RX7, cX7_isInColumns, 2, (some .boolean), false)
def mX7_countScrollsAround : Mth := (RX7, cX7_countScrollsAround, 3, (some .int), false)
def mX7_onward : Mth := (RX7, cX7_onward, 4, (some (.object "FlowBoxes$Node")), false)
def mX4_init : Mth := (RX4, cX4_init, 4, none, true)
def mX2_init : Mth := (RX2, cX2_init, 1, none, true)
def mX8_init : Mth := (RX8, cX8_init, 1, none, true)
def mX4_layAll : Mth := (RX4, cX4_layAll, 5, (some .int), false)
def mX4_layOut : Mth := (RX4, cX4_layOut, 6, none, false)
def mX4_placeOf : Mth := (RX4, cX4_placeOf, 2, (some (.object "FlowBoxes$Place")), false)
def mX4_layTable : Mth := (RX4, cX4_layTable, 9, (some .int), false)
def mX6_countColumns : Mth := (RX6, cX6_countColumns, 5, (some .int), false)
def mX4_placeEvenly : Mth := (RX4, cX4_placeEvenly, 6, none, false)
def mX4_placeColumn : Mth := (RX4, cX4_placeColumn, 8, none, false)
def mX6_cellAt : Mth := (RX6, cX6_cellAt, 4, (some (.object "FlowBoxes$Node")), false)
def mX7_flatEdges : Mth := (RX7, cX7_flatEdges, 1, (some .int), false)
def mX4_placeByContent : Mth := (RX4, cX4_placeByContent, 12, none, false)
def mX6_leastOfColumn : Mth := (RX6, cX6_leastOfColumn, 5, (some .int), false)
def mX6_outerLeast : Mth := (RX6, cX6_outerLeast, 3, (some .int), false)
def mX6_mostOf : Mth := (RX6, cX6_mostOf, 1, (some .int), false)
def mX6_mostOfTable : Mth := (RX6, cX6_mostOfTable, 6, (some .int), false)
def mX6_mostOfColumn : Mth := (RX6, cX6_mostOfColumn, 5, (some .int), false)
def mX6_outerMost : Mth := (RX6, cX6_outerMost, 3, (some .int), false)
def mX6_leastOf : Mth := (RX6, cX6_leastOf, 1, (some .int), false)
def mX6_leastOfTable : Mth := (RX6, cX6_leastOfTable, 6, (some .int), false)
def mX6_besideEachOther : Mth := (RX6, cX6_besideEachOther, 5, (some .int), false)
def mX6_leastInside : Mth := (RX6, cX6_leastInside, 3, (some .int), false)
def mX6_leastOfWords : Mth := (RX6, cX6_leastOfWords, 5, (some .int), false)
def mX6_inColumns : Mth := (RX6, cX6_inColumns, 3, (some .int), false)
def mX7_flatRim : Mth := (RX7, cX7_flatRim, 1, (some .int), false)
def mX6_mostInside : Mth := (RX6, cX6_mostInside, 4, (some .int), false)
def mX3_isInLines : Mth := (RX3, cX3_isInLines, 1, (some .boolean), false)
def mX7_endOfRun : Mth := (RX7, cX7_endOfRun, 3, (some (.object "FlowBoxes$Node")), false)
def mX7_mayStandInRun : Mth := (RX7, cX7_mayStandInRun, 1, (some .boolean), false)
def mX6_mostOfRun : Mth := (RX6, cX6_mostOfRun, 6, (some .int), false)
def mX7_onwardInRun : Mth := (RX7, cX7_onwardInRun, 3, (some (.object "FlowBoxes$Node")), false)
def mX4_lackOf : Mth := (RX4, cX4_lackOf, 2, (some .int), false)
def mX4_partOf : Mth := (RX4, cX4_partOf, 3, (some .int), false)
def mX4_layRow : Mth := (RX4, cX4_layRow, 6, (some .int), false)
def mX4_heightIn : Mth := (RX4, cX4_heightIn, 3, (some .int), false)
def mX7_uprightEdges : Mth := (RX7, cX7_uprightEdges, 1, (some .int), false)
def mX4_layWithBars : Mth := (RX4, cX4_layWithBars, 10, (some .int), false)
def mX4_flowContext : Mth := (RX4, cX4_flowContext, 4, (some .int), false)
def mX4_flowOf : Mth := (RX4, cX4_flowOf, 2, (some (.object "FlowBoxes$Flow")), false)
def mX2_begin : Mth := (RX2, cX2_begin, 1, none, false)
def mX4_flowContainer : Mth := (RX4, cX4_flowContainer, 7, none, false)
def mX4_freeLines : Mth := (RX4, cX4_freeLines, 2, none, false)
def mX4_hasThings : Mth := (RX4, cX4_hasThings, 3, (some .boolean), false)
def mX4_flowLines : Mth := (RX4, cX4_flowLines, 6, none, false)
def mX2_endMargins : Mth := (RX2, cX2_endMargins, 2, none, false)
def mX2_pendingY : Mth := (RX2, cX2_pendingY, 1, (some .int), false)
def mX2_dropMargins : Mth := (RX2, cX2_dropMargins, 1, none, false)
def mX4_addWords : Mth := (RX4, cX4_addWords, 10, none, false)
def mX4_shiftOf : Mth := (RX4, cX4_shiftOf, 3, (some .int), false)
def mX9_pieceAt : Mth := (RX9, cX9_pieceAt, 2, (some (.object "FlowBoxes$Thing")), false)
def mX4_addThing : Mth := (RX4, cX4_addThing, 9, none, false)
def mX2_look : Mth := (RX2, cX2_look, 5, none, false)
def mX1_reachesInto : Mth := (RX1, cX1_reachesInto, 5, (some .boolean), false)
def mX2_fits : Mth := (RX2, cX2_fits, 2, (some .boolean), false)
def mX2_nextOffset : Mth := (RX2, cX2_nextOffset, 1, (some .int), false)
def mX2_band : Mth := (RX2, cX2_band, 1, (some .int), false)
def mX4_putThing : Mth := (RX4, cX4_putThing, 4, none, false)
def mX4_addLine : Mth := (RX4, cX4_addLine, 3, (some (.object "FlowBoxes$Line")), false)
def mX5_init : Mth := (RX5, cX5_init, 1, none, true)
def mX4_endLine : Mth := (RX4, cX4_endLine, 6, none, false)
def mX2_reachTo : Mth := (RX2, cX2_reachTo, 2, none, false)
def mX4_putFloat : Mth := (RX4, cX4_putFloat, 8, none, false)
def mX4_widthIn : Mth := (RX4, cX4_widthIn, 4, (some .int), false)
def mX4_knownHeight : Mth := (RX4, cX4_knownHeight, 3, (some .int), false)
def mX7_uprightRim : Mth := (RX7, cX7_uprightRim, 1, (some .int), false)
def mX2_floatTop : Mth := (RX2, cX2_floatTop, 2, (some .int), false)
def mX2_findHeight : Mth := (RX2, cX2_findHeight, 6, (some .int), false)
def mX2_nextLow : Mth := (RX2, cX2_nextLow, 5, (some .int), false)
def mX2_addFloat : Mth := (RX2, cX2_addFloat, 2, none, false)
def mX4_addInlineBlock : Mth := (RX4, cX4_addInlineBlock, 8, none, false)
def mX4_meetFloat : Mth := (RX4, cX4_meetFloat, 5, none, false)
def mX2_addLate : Mth := (RX2, cX2_addLate, 3, none, false)
def mX4_meetAbsolute : Mth := (RX4, cX4_meetAbsolute, 4, none, false)
def mX4_flowWithoutLines : Mth := (RX4, cX4_flowWithoutLines, 5, none, false)
def mX4_flowOutside : Mth := (RX4, cX4_flowOutside, 4, none, false)
def mX4_flowContextBlock : Mth := (RX4, cX4_flowContextBlock, 9, none, false)
def mX2_pend : Mth := (RX2, cX2_pend, 2, none, false)
def mX2_clearFloats : Mth := (RX2, cX2_clearFloats, 5, none, false)
def mX4_flowPlainBlock : Mth := (RX4, cX4_flowPlainBlock, 6, none, false)
def mX4_endHeldBlock : Mth := (RX4, cX4_endHeldBlock, 4, none, false)
def mX4_endWaitingBlock : Mth := (RX4, cX4_endWaitingBlock, 3, none, false)
def mX2_contentHeight : Mth := (RX2, cX2_contentHeight, 3, (some .int), false)
def mX4_layInColumns : Mth := (RX4, cX4_layInColumns, 7, (some .int), false)
def mX4_gatherItems : Mth := (RX4, cX4_gatherItems, 5, none, false)
def mX4_gatherLines : Mth := (RX4, cX4_gatherLines, 3, none, false)
def mX10_add : Mth := (RX10, cX10_add, 4, none, false)
def mX4_inlineTop : Mth := (RX4, cX4_inlineTop, 3, (some .int), false)
def mX11_topSide : Mth := (RX11, cX11_topSide, 1, (some .int), false)
def mX4_isFlownThrough : Mth := (RX4, cX4_isFlownThrough, 1, (some .boolean), false)
def mX10_findBreaks : Mth := (RX10, cX10_findBreaks, 3, none, false)
def mX10_addPlace : Mth := (RX10, cX10_addPlace, 4, none, false)
def mX10_keepWholeItems : Mth := (RX10, cX10_keepWholeItems, 6, none, false)
def mX10_leastHeight : Mth := (RX10, cX10_leastHeight, 6, (some .int), false)
def mX10_split : Mth := (RX10, cX10_split, 5, (some .int), false)
def mX4_moveToColumns : Mth := (RX4, cX4_moveToColumns, 6, none, false)
def mX4_moveLines : Mth := (RX4, cX4_moveLines, 5, none, false)
def mX10_columnAt : Mth := (RX10, cX10_columnAt, 3, (some .int), false)
def mX10_beginOf : Mth := (RX10, cX10_beginOf, 2, (some .int), false)
def mX4_layAbsolute : Mth := (RX4, cX4_layAbsolute, 4, none, false)
def mX4_stackAround : Mth := (RX4, cX4_stackAround, 2, (some (.object "FlowBoxes$Node")), false)
def mX7_isStack : Mth := (RX7, cX7_isStack, 1, (some .boolean), false)
def mX4_settle : Mth := (RX4, cX4_settle, 4, none, false)
def mX4_settleAbsolute : Mth := (RX4, cX4_settleAbsolute, 12, none, false)
def mX4_settleInFlow : Mth := (RX4, cX4_settleInFlow, 9, none, false)
def mX4_offsetOf : Mth := (RX4, cX4_offsetOf, 1, (some .int), false)
def mX4_inlineLeft : Mth := (RX4, cX4_inlineLeft, 3, (some .long), false)
def mX11_leftSide : Mth := (RX11, cX11_leftSide, 1, (some .long), false)
def mX8_arrange : Mth := (RX8, cX8_arrange, 2, none, false)
def mX8_paintStack : Mth := (RX8, cX8_paintStack, 3, none, false)
def mX8_add : Mth := (RX8, cX8_add, 2, none, false)
def mX8_paintStacksIn : Mth := (RX8, cX8_paintStacksIn, 5, none, false)
def mX8_paintInside : Mth := (RX8, cX8_paintInside, 6, none, false)
def mX8_stepOf : Mth := (RX8, cX8_stepOf, 1, (some .int), false)
def mX12_page : Mth := (RX12, cX12_page, 3, (some .int), false)
def mX12_layAgain : Mth := (RX12, cX12_layAgain, 1, none, false)
def mL_cell : Mth := (RL, cL_cell, 2, (some .int), false)
def mL_low : Mth := (RL, cL_low, 2, (some .int), false)
def mL_lays : Mth := (RL, cL_lays, 13, none, false)
def mL_next : Mth := (RL, cL_next, 5, (some .int), false)
def mL_runs : Mth := (RL, cL_runs, 18, (some .int), false)
def mL_ends : Mth := (RL, cL_ends, 3, none, false)
def mL_shuts : Mth := (RL, cL_shuts, 6, none, false)
def mL_inside : Mth := (RL, cL_inside, 3, (some .int), false)
def mL_enters : Mth := (RL, cL_enters, 10, none, false)
def mL_pends : Mth := (RL, cL_pends, 2, none, false)
def mL_known : Mth := (RL, cL_known, 5, (some .int), false)
def mL_leaves : Mth := (RL, cL_leaves, 9, none, false)
def mL_same : Mth := (RL, cL_same, 10, (some .boolean), false)
def mX12_height : Mth := (RX12, cX12_height, 2, (some .int), false)
def mX12_placedAt : Mth := (RX12, cX12_placedAt, 4, (some (.object "FlowBoxes$Node")), false)
def mX12_nodeAt : Mth := (RX12, cX12_nodeAt, 2, (some (.object "FlowBoxes$Node")), false)
def mX12_sideOf : Mth := (RX12, cX12_sideOf, 4, (some .long), false)
def mX12_pieceSide : Mth := (RX12, cX12_pieceSide, 7, (some .long), false)
def mX12_width : Mth := (RX12, cX12_width, 2, (some .int), false)
def mX12_painted : Mth := (RX12, cX12_painted, 1, (some .int), false)
def mX12_x : Mth := (RX12, cX12_x, 2, (some .int), false)
def mX12_y : Mth := (RX12, cX12_y, 2, (some .int), false)
def mX12_bars : Mth := (RX12, cX12_bars, 3, (some .int), false)
def mX12_boxAt : Mth := (RX12, cX12_boxAt, 3, (some (.object "FlowBoxes$Node")), false)
def mX12_fromNothing : Mth := (RX12, cX12_fromNothing, 4, (some .int), false)
def mX4_forgetAll : Mth := (RX4, cX4_forgetAll, 3, none, false)
def mX12_line : Mth := (RX12, cX12_line, 7, (some .int), false)
def mX7_holdsLines : Mth := (RX7, cX7_holdsLines, 1, (some .boolean), false)
def mX12_lineAt : Mth := (RX12, cX12_lineAt, 4, (some (.object "FlowBoxes$Line")), false)
def mX12_lines : Mth := (RX12, cX12_lines, 5, (some .int), false)
def mL_makes : Mth := (RL, cL_makes, 11, (some .boolean), false)
def mX12_children : Mth := (RX12, cX12_children, 3, (some .int), false)
def mX7_countChildren : Mth := (RX7, cX7_countChildren, 3, (some .int), false)
def mX12_text : Mth := (RX12, cX12_text, 6, (some .int), false)
def mX12_hasRoom : Mth := (RX12, cX12_hasRoom, 2, (some .boolean), false)
def mX12_insertNode : Mth := (RX12, cX12_insertNode, 6, (some .int), false)
def mX7_putIn : Mth := (RX7, cX7_putIn, 6, none, false)
def mX12_noteChange : Mth := (RX12, cX12_noteChange, 3, none, false)
def mX12_box : Mth := (RX12, cX12_box, 5, (some .int), false)
def mX12_word : Mth := (RX12, cX12_word, 5, (some .int), false)
def mX12_textAt : Mth := (RX12, cX12_textAt, 3, (some (.object "FlowBoxes$Node")), false)
def mL_styles : Mth := (RL, cL_styles, 11, (some .boolean), false)
def mX12_style : Mth := (RX12, cX12_style, 6, (some .int), false)
def mX12_allows : Mth := (RX12, cX12_allows, 2, (some .boolean), false)
def mX12_isPercentage : Mth := (RX12, cX12_isPercentage, 1, (some .boolean), false)
def mX12_reachesInside : Mth := (RX12, cX12_reachesInside, 1, (some .boolean), false)
def mX12_noteChangeInside : Mth := (RX12, cX12_noteChangeInside, 3, none, false)
theorem wd_0 : (Cond.initialized "FlowBoxesLaw") ∈ gwl := gw_of (i := 0) (by decide +kernel) rfl
theorem wd_1 : (Cond.initialized "FlowBoxes") ∈ gwl := gw_of (i := 1) (by decide +kernel) rfl
theorem wd_2 : (Cond.initialized "FlowBoxes$Node") ∈ gwl := gw_of (i := 2) (by decide +kernel) rfl
theorem wd_3 : (Cond.initialized "FlowBoxes$Place") ∈ gwl := gw_of (i := 3) (by decide +kernel) rfl
theorem wd_4 : (Cond.initialized "FlowBoxes$Floated") ∈ gwl := gw_of (i := 4) (by decide +kernel) rfl
theorem wd_5 : (Cond.initialized "FlowBoxes$Thing") ∈ gwl := gw_of (i := 5) (by decide +kernel) rfl
theorem wd_6 : (Cond.initialized "java/lang/Enum") ∈ gwl := gw_of (i := 6) (by decide +kernel) rfl
theorem wd_7 : (Cond.initialized "FlowBoxes$Kind") ∈ gwl := gw_of (i := 7) (by decide +kernel) rfl
theorem wd_8 : (Cond.initialized "FlowBoxes$Strip") ∈ gwl := gw_of (i := 8) (by decide +kernel) rfl
theorem wd_9 : (Cond.initialized "FlowBoxes$1") ∈ gwl := gw_of (i := 9) (by decide +kernel) rfl
theorem wd_10 : (Cond.initialized "FlowBoxes$Layout") ∈ gwl := gw_of (i := 10) (by decide +kernel) rfl
theorem wd_11 : (Cond.initialized "FlowBoxes$Flow") ∈ gwl := gw_of (i := 11) (by decide +kernel) rfl
theorem wd_12 : (Cond.initialized "FlowBoxes$Painter") ∈ gwl := gw_of (i := 12) (by decide +kernel) rfl
theorem wd_13 : (Cond.initialized "FlowBoxes$Measures") ∈ gwl := gw_of (i := 13) (by decide +kernel) rfl
theorem wd_14 : (Cond.initialized "java/lang/Math") ∈ gwl := gw_of (i := 14) (by decide +kernel) rfl
theorem wd_15 : (Cond.initialized "FlowBoxes$Line") ∈ gwl := gw_of (i := 15) (by decide +kernel) rfl
theorem wd_16 : (Cond.initialized "java/lang/Throwable") ∈ gwl := gw_of (i := 16) (by decide +kernel) rfl
theorem wd_17 : (Cond.initialized "java/lang/Exception") ∈ gwl := gw_of (i := 17) (by decide +kernel) rfl
theorem wd_18 : (Cond.initialized "java/lang/RuntimeException") ∈ gwl := gw_of (i := 18) (by decide +kernel) rfl
theorem wd_19 : (Cond.initialized "java/lang/IndexOutOfBoundsException") ∈ gwl := gw_of (i := 19) (by decide +kernel) rfl
theorem wd_20 : (Cond.initialized "java/lang/IllegalArgumentException") ∈ gwl := gw_of (i := 20) (by decide +kernel) rfl
theorem wd_21 : (Cond.initialized "java/lang/IllegalStateException") ∈ gwl := gw_of (i := 21) (by decide +kernel) rfl
theorem wd_22 : (Cond.classLink "FlowBoxesLaw" (49 : Nat) "FlowBoxes") ∈ gwl := gw_of (i := 22) (by decide +kernel) rfl
theorem wd_23 : (Cond.instantiable "FlowBoxes" (10 : Nat)) ∈ gwl := gw_of (i := 23) (by decide +kernel) rfl
theorem wd_24 : (Cond.methodLink "FlowBoxesLaw" (99 : Nat) ({ cls := "FlowBoxes", name := "<init>", desc := "()V" } : MethodName)) ∈ gwl := gw_of (i := 24) (by decide +kernel) rfl
theorem wd_25 : (Cond.instanceMethod ({ cls := "FlowBoxes", name := "<init>", desc := "()V" } : MethodName)) ∈ gwl := gw_of (i := 25) (by decide +kernel) rfl
theorem wd_26 : (Cond.code ({ cls := "FlowBoxes", name := "<init>", desc := "()V" } : MethodName) prog_1_method_1_code (3 : Nat) (Option.none : Option FieldType)) ∈ gwl := gw_of (i := 26) (by decide +kernel) rfl
theorem wd_27 : (Cond.methodLink "FlowBoxes" (1 : Nat) ({ cls := "java/lang/Object", name := "<init>", desc := "()V" } : MethodName)) ∈ gwl := gw_of (i := 27) (by decide +kernel) rfl
theorem wd_28 : (Cond.instanceMethod ({ cls := "java/lang/Object", name := "<init>", desc := "()V" } : MethodName)) ∈ gwl := gw_of (i := 28) (by decide +kernel) rfl
theorem wd_29 : (Cond.code ({ cls := "java/lang/Object", name := "<init>", desc := "()V" } : MethodName) object_method_1_code (1 : Nat) (Option.none : Option FieldType)) ∈ gwl := gw_of (i := 29) (by decide +kernel) rfl
theorem wd_30 : (Cond.classLink "FlowBoxes" (7 : Nat) "FlowBoxes$Node") ∈ gwl := gw_of (i := 30) (by decide +kernel) rfl
theorem wd_31 : (Cond.instantiable "FlowBoxes$Node" (20 : Nat)) ∈ gwl := gw_of (i := 31) (by decide +kernel) rfl
theorem wd_33 : (Cond.instanceMethod ({ cls := "FlowBoxes$Node", name := "<init>", desc := "(ILFlowBoxes$Node;I)V" } : MethodName)) ∈ gwl := gw_of (i := 33) (by decide +kernel) rfl
theorem wd_34 : (Cond.code ({ cls := "FlowBoxes$Node", name := "<init>", desc := "(ILFlowBoxes$Node;I)V" } : MethodName) prog_9_method_1_code (5 : Nat) (Option.none : Option FieldType)) ∈ gwl := gw_of (i := 34) (by decide +kernel) rfl
theorem wd_35 : (Cond.methodLink "FlowBoxes$Node" (3 : Nat) ({ cls := "java/lang/Object", name := "<init>", desc := "()V" } : MethodName)) ∈ gwl := gw_of (i := 35) (by decide +kernel) rfl
theorem wd_36 : (Cond.methodLink "FlowBoxes$Node" (32 : Nat) ({ cls := "FlowBoxes$Node", name := "firstValue", desc := "(I)I" } : MethodName)) ∈ gwl := gw_of (i := 36) (by decide +kernel) rfl
theorem wd_37 : (Cond.static ({ cls := "FlowBoxes$Node", name := "firstValue", desc := "(I)I" } : MethodName)) ∈ gwl := gw_of (i := 37) (by decide +kernel) rfl
theorem wd_38 : (Cond.code ({ cls := "FlowBoxes$Node", name := "firstValue", desc := "(I)I" } : MethodName) prog_9_method_2_code (1 : Nat) (Option.some FieldType.int)) ∈ gwl := gw_of (i := 38) (by decide +kernel) rfl
theorem wd_39 : (Cond.classLink "FlowBoxes$Node" (42 : Nat) "FlowBoxes$Place") ∈ gwl := gw_of (i := 39) (by decide +kernel) rfl
theorem wd_40 : (Cond.instantiable "FlowBoxes$Place" (20 : Nat)) ∈ gwl := gw_of (i := 40) (by decide +kernel) rfl
theorem wd_42 : (Cond.instanceMethod ({ cls := "FlowBoxes$Place", name := "<init>", desc := "(I)V" } : MethodName)) ∈ gwl := gw_of (i := 42) (by decide +kernel) rfl
theorem wd_43 : (Cond.code ({ cls := "FlowBoxes$Place", name := "<init>", desc := "(I)V" } : MethodName) prog_11_method_1_code (3 : Nat) (Option.none : Option FieldType)) ∈ gwl := gw_of (i := 43) (by decide +kernel) rfl
theorem wd_44 : (Cond.methodLink "FlowBoxes$Place" (3 : Nat) ({ cls := "java/lang/Object", name := "<init>", desc := "()V" } : MethodName)) ∈ gwl := gw_of (i := 44) (by decide +kernel) rfl
theorem wd_45 : (Cond.classLink "FlowBoxes$Place" (9 : Nat) "FlowBoxes$Floated") ∈ gwl := gw_of (i := 45) (by decide +kernel) rfl
theorem wd_46 : (Cond.instantiable "FlowBoxes$Floated" (7 : Nat)) ∈ gwl := gw_of (i := 46) (by decide +kernel) rfl
theorem wd_48 : (Cond.instanceMethod ({ cls := "FlowBoxes$Floated", name := "<init>", desc := "()V" } : MethodName)) ∈ gwl := gw_of (i := 48) (by decide +kernel) rfl
theorem wd_49 : (Cond.code ({ cls := "FlowBoxes$Floated", name := "<init>", desc := "()V" } : MethodName) prog_3_method_1_code (1 : Nat) (Option.none : Option FieldType)) ∈ gwl := gw_of (i := 49) (by decide +kernel) rfl
theorem wd_50 : (Cond.methodLink "FlowBoxes$Floated" (1 : Nat) ({ cls := "java/lang/Object", name := "<init>", desc := "()V" } : MethodName)) ∈ gwl := gw_of (i := 50) (by decide +kernel) rfl
theorem wd_51 : (Cond.fieldLink "FlowBoxes$Floated" (13 : Nat) "FlowBoxes$Floated" "left" "I") ∈ gwl := gw_of (i := 51) (by decide +kernel) rfl
theorem wd_54 : (Cond.fieldLink "FlowBoxes$Floated" (19 : Nat) "FlowBoxes$Floated" "top" "I") ∈ gwl := gw_of (i := 54) (by decide +kernel) rfl
theorem wd_57 : (Cond.fieldLink "FlowBoxes$Floated" (7 : Nat) "FlowBoxes$Floated" "right" "I") ∈ gwl := gw_of (i := 57) (by decide +kernel) rfl
theorem wd_60 : (Cond.fieldLink "FlowBoxes$Floated" (16 : Nat) "FlowBoxes$Floated" "low" "I") ∈ gwl := gw_of (i := 60) (by decide +kernel) rfl
theorem wd_84 : (Cond.arrayClass FieldType.int) ∈ gwl := gw_of (i := 84) (by decide +kernel) rfl
theorem wd_85 : (Cond.classLink "FlowBoxes$Place" (18 : Nat) "FlowBoxes$Thing") ∈ gwl := gw_of (i := 85) (by decide +kernel) rfl
theorem wd_87 : (Cond.instantiable "FlowBoxes$Thing" (5 : Nat)) ∈ gwl := gw_of (i := 87) (by decide +kernel) rfl
theorem wd_89 : (Cond.instanceMethod ({ cls := "FlowBoxes$Thing", name := "<init>", desc := "()V" } : MethodName)) ∈ gwl := gw_of (i := 89) (by decide +kernel) rfl
theorem wd_90 : (Cond.code ({ cls := "FlowBoxes$Thing", name := "<init>", desc := "()V" } : MethodName) prog_13_method_1_code (1 : Nat) (Option.none : Option FieldType)) ∈ gwl := gw_of (i := 90) (by decide +kernel) rfl
theorem wd_91 : (Cond.methodLink "FlowBoxes$Thing" (1 : Nat) ({ cls := "java/lang/Object", name := "<init>", desc := "()V" } : MethodName)) ∈ gwl := gw_of (i := 91) (by decide +kernel) rfl
theorem wd_92 : (Cond.fieldLink "FlowBoxes$Thing" (7 : Nat) "FlowBoxes$Thing" "line" "LFlowBoxes$Line;") ∈ gwl := gw_of (i := 92) (by decide +kernel) rfl
theorem wd_95 : (Cond.fieldLink "FlowBoxes$Thing" (19 : Nat) "FlowBoxes$Thing" "offset" "I") ∈ gwl := gw_of (i := 95) (by decide +kernel) rfl
theorem wd_99 : (Cond.fieldLink "FlowBoxes$Thing" (29 : Nat) "FlowBoxes$Thing" "ascent" "I") ∈ gwl := gw_of (i := 99) (by decide +kernel) rfl
theorem wd_120 : (Cond.fieldLink "FlowBoxes$Place" (25 : Nat) "FlowBoxes$Place" "known" "I") ∈ gwl := gw_of (i := 120) (by decide +kernel) rfl
theorem wd_137 : (Cond.fieldLink "FlowBoxes$Place" (12 : Nat) "FlowBoxes$Place" "floated" "LFlowBoxes$Floated;") ∈ gwl := gw_of (i := 137) (by decide +kernel) rfl
theorem wd_139 : (Cond.fieldLink "FlowBoxes$Place" (20 : Nat) "FlowBoxes$Place" "pieces" "[LFlowBoxes$Thing;") ∈ gwl := gw_of (i := 139) (by decide +kernel) rfl
theorem wd_140 : (Cond.fieldLink "FlowBoxes$Place" (29 : Nat) "FlowBoxes$Place" "laidAt" "I") ∈ gwl := gw_of (i := 140) (by decide +kernel) rfl
theorem wd_188 : (Cond.fieldLink "FlowBoxes$Node" (54 : Nat) "FlowBoxes$Kind" "TEXT" "LFlowBoxes$Kind;") ∈ gwl := gw_of (i := 188) (by decide +kernel) rfl
theorem wd_190 : (Cond.fieldLink "FlowBoxes$Node" (60 : Nat) "FlowBoxes$Kind" "BLOCK" "LFlowBoxes$Kind;") ∈ gwl := gw_of (i := 190) (by decide +kernel) rfl
theorem wd_192 : (Cond.fieldLink "FlowBoxes$Node" (9 : Nat) "FlowBoxes$Node" "number" "I") ∈ gwl := gw_of (i := 192) (by decide +kernel) rfl
theorem wd_193 : (Cond.fieldLink "FlowBoxes$Node" (15 : Nat) "FlowBoxes$Node" "parent" "LFlowBoxes$Node;") ∈ gwl := gw_of (i := 193) (by decide +kernel) rfl
theorem wd_196 : (Cond.fieldLink "FlowBoxes$Node" (19 : Nat) "FlowBoxes$Node" "depth" "I") ∈ gwl := gw_of (i := 196) (by decide +kernel) rfl
theorem wd_199 : (Cond.fieldLink "FlowBoxes$Node" (22 : Nat) "FlowBoxes$Node" "size" "I") ∈ gwl := gw_of (i := 199) (by decide +kernel) rfl
theorem wd_202 : (Cond.fieldLink "FlowBoxes$Node" (25 : Nat) "FlowBoxes$Node" "styles" "[I") ∈ gwl := gw_of (i := 202) (by decide +kernel) rfl
theorem wd_204 : (Cond.fieldLink "FlowBoxes$Node" (29 : Nat) "FlowBoxes$Node" "counted" "[I") ∈ gwl := gw_of (i := 204) (by decide +kernel) rfl
theorem wd_208 : (Cond.fieldLink "FlowBoxes$Node" (36 : Nat) "FlowBoxes$Node" "lengths" "[I") ∈ gwl := gw_of (i := 208) (by decide +kernel) rfl
theorem wd_212 : (Cond.fieldLink "FlowBoxes$Node" (39 : Nat) "FlowBoxes$Node" "cuts" "[I") ∈ gwl := gw_of (i := 212) (by decide +kernel) rfl
theorem wd_216 : (Cond.fieldLink "FlowBoxes$Node" (47 : Nat) "FlowBoxes$Node" "kept" "LFlowBoxes$Place;") ∈ gwl := gw_of (i := 216) (by decide +kernel) rfl
theorem wd_219 : (Cond.fieldLink "FlowBoxes$Node" (51 : Nat) "FlowBoxes$Node" "fresh" "LFlowBoxes$Place;") ∈ gwl := gw_of (i := 219) (by decide +kernel) rfl
theorem wd_223 : (Cond.fieldLink "FlowBoxes$Node" (80 : Nat) "FlowBoxes$Node" "first" "LFlowBoxes$Node;") ∈ gwl := gw_of (i := 223) (by decide +kernel) rfl
theorem wd_225 : (Cond.fieldLink "FlowBoxes$Node" (83 : Nat) "FlowBoxes$Node" "next" "LFlowBoxes$Node;") ∈ gwl := gw_of (i := 225) (by decide +kernel) rfl
theorem wd_233 : (Cond.fieldLink "FlowBoxes$Node" (63 : Nat) "FlowBoxes$Node" "kind" "LFlowBoxes$Kind;") ∈ gwl := gw_of (i := 233) (by decide +kernel) rfl
theorem wd_239 : (Cond.fieldLink "FlowBoxes$Node" (70 : Nat) "FlowBoxes$Node" "isTable" "Z") ∈ gwl := gw_of (i := 239) (by decide +kernel) rfl
theorem wd_242 : (Cond.fieldLink "FlowBoxes$Node" (135 : Nat) "FlowBoxes$Node" "isContext" "Z") ∈ gwl := gw_of (i := 242) (by decide +kernel) rfl
theorem wd_245 : (Cond.fieldLink "FlowBoxes$Node" (126 : Nat) "FlowBoxes$Node" "scrolls" "Z") ∈ gwl := gw_of (i := 245) (by decide +kernel) rfl
theorem wd_247 : (Cond.fieldLink "FlowBoxes$Node" (98 : Nat) "FlowBoxes$Node" "leastWidth" "I") ∈ gwl := gw_of (i := 247) (by decide +kernel) rfl
theorem wd_249 : (Cond.fieldLink "FlowBoxes$Node" (101 : Nat) "FlowBoxes$Node" "mostWidth" "I") ∈ gwl := gw_of (i := 249) (by decide +kernel) rfl
theorem wd_291 : (Cond.classLink "FlowBoxes" (12 : Nat) "FlowBoxes$Strip") ∈ gwl := gw_of (i := 291) (by decide +kernel) rfl
theorem wd_292 : (Cond.instantiable "FlowBoxes$Strip" (7 : Nat)) ∈ gwl := gw_of (i := 292) (by decide +kernel) rfl
theorem wd_294 : (Cond.instanceMethod ({ cls := "FlowBoxes$Strip", name := "<init>", desc := "()V" } : MethodName)) ∈ gwl := gw_of (i := 294) (by decide +kernel) rfl
theorem wd_295 : (Cond.code ({ cls := "FlowBoxes$Strip", name := "<init>", desc := "()V" } : MethodName) prog_12_method_1_code (1 : Nat) (Option.none : Option FieldType)) ∈ gwl := gw_of (i := 295) (by decide +kernel) rfl
theorem wd_296 : (Cond.methodLink "FlowBoxes$Strip" (3 : Nat) ({ cls := "java/lang/Object", name := "<init>", desc := "()V" } : MethodName)) ∈ gwl := gw_of (i := 296) (by decide +kernel) rfl
theorem wd_297 : (Cond.fieldLink "FlowBoxes$Strip" (11 : Nat) "FlowBoxes$Strip" "tops" "[I") ∈ gwl := gw_of (i := 297) (by decide +kernel) rfl
theorem wd_298 : (Cond.fieldLink "FlowBoxes$Strip" (15 : Nat) "FlowBoxes$Strip" "lows" "[I") ∈ gwl := gw_of (i := 298) (by decide +kernel) rfl
theorem wd_299 : (Cond.fieldLink "FlowBoxes$Strip" (24 : Nat) "FlowBoxes$Strip" "items" "I") ∈ gwl := gw_of (i := 299) (by decide +kernel) rfl
theorem wd_301 : (Cond.fieldLink "FlowBoxes$Strip" (18 : Nat) "FlowBoxes$Strip" "breaks" "[I") ∈ gwl := gw_of (i := 301) (by decide +kernel) rfl
theorem wd_302 : (Cond.fieldLink "FlowBoxes$Strip" (28 : Nat) "FlowBoxes$Strip" "breakCount" "I") ∈ gwl := gw_of (i := 302) (by decide +kernel) rfl
theorem wd_303 : (Cond.fieldLink "FlowBoxes$Strip" (21 : Nat) "FlowBoxes$Strip" "begins" "[I") ∈ gwl := gw_of (i := 303) (by decide +kernel) rfl
theorem wd_304 : (Cond.fieldLink "FlowBoxes$Strip" (44 : Nat) "FlowBoxes$Strip" "columns" "I") ∈ gwl := gw_of (i := 304) (by decide +kernel) rfl
theorem wd_321 : (Cond.static ({ cls := "FlowBoxes$Node", name := "assignRoles", desc := "(LFlowBoxes$Node;)V" } : MethodName)) ∈ gwl := gw_of (i := 321) (by decide +kernel) rfl
theorem wd_322 : (Cond.code ({ cls := "FlowBoxes$Node", name := "assignRoles", desc := "(LFlowBoxes$Node;)V" } : MethodName) prog_9_method_17_code (2 : Nat) (Option.none : Option FieldType)) ∈ gwl := gw_of (i := 322) (by decide +kernel) rfl
theorem wd_323 : (Cond.methodLink "FlowBoxes$Node" (104 : Nat) ({ cls := "FlowBoxes$Node", name := "assignRole", desc := "()V" } : MethodName)) ∈ gwl := gw_of (i := 323) (by decide +kernel) rfl
theorem wd_325 : (Cond.instanceMethod ({ cls := "FlowBoxes$Node", name := "assignRole", desc := "()V" } : MethodName)) ∈ gwl := gw_of (i := 325) (by decide +kernel) rfl
theorem wd_326 : (Cond.code ({ cls := "FlowBoxes$Node", name := "assignRole", desc := "()V" } : MethodName) prog_9_method_18_code (2 : Nat) (Option.none : Option FieldType)) ∈ gwl := gw_of (i := 326) (by decide +kernel) rfl
theorem wd_327 : (Cond.methodLink "FlowBoxes$Node" (111 : Nat) ({ cls := "FlowBoxes$Node", name := "findKind", desc := "()LFlowBoxes$Kind;" } : MethodName)) ∈ gwl := gw_of (i := 327) (by decide +kernel) rfl
theorem wd_329 : (Cond.instanceMethod ({ cls := "FlowBoxes$Node", name := "findKind", desc := "()LFlowBoxes$Kind;" } : MethodName)) ∈ gwl := gw_of (i := 329) (by decide +kernel) rfl
theorem wd_330 : (Cond.code ({ cls := "FlowBoxes$Node", name := "findKind", desc := "()LFlowBoxes$Kind;" } : MethodName) prog_9_method_19_code (2 : Nat) (Option.some (FieldType.object "FlowBoxes$Kind"))) ∈ gwl := gw_of (i := 330) (by decide +kernel) rfl
theorem wd_331 : (Cond.fieldLink "FlowBoxes$Node" (77 : Nat) "FlowBoxes$Kind" "ROW" "LFlowBoxes$Kind;") ∈ gwl := gw_of (i := 331) (by decide +kernel) rfl
theorem wd_333 : (Cond.methodLink "FlowBoxes$Node" (66 : Nat) ({ cls := "FlowBoxes$Node", name := "isText", desc := "()Z" } : MethodName)) ∈ gwl := gw_of (i := 333) (by decide +kernel) rfl
theorem wd_335 : (Cond.instanceMethod ({ cls := "FlowBoxes$Node", name := "isText", desc := "()Z" } : MethodName)) ∈ gwl := gw_of (i := 335) (by decide +kernel) rfl
theorem wd_336 : (Cond.code ({ cls := "FlowBoxes$Node", name := "isText", desc := "()Z" } : MethodName) prog_9_method_3_code (1 : Nat) (Option.some FieldType.boolean)) ∈ gwl := gw_of (i := 336) (by decide +kernel) rfl
theorem wd_337 : (Cond.fieldLink "FlowBoxes$Node" (138 : Nat) "FlowBoxes$Kind" "OUT" "LFlowBoxes$Kind;") ∈ gwl := gw_of (i := 337) (by decide +kernel) rfl
theorem wd_339 : (Cond.fieldLink "FlowBoxes$Node" (132 : Nat) "FlowBoxes$Kind" "CELL" "LFlowBoxes$Kind;") ∈ gwl := gw_of (i := 339) (by decide +kernel) rfl
theorem wd_341 : (Cond.fieldLink "FlowBoxes$Node" (95 : Nat) "FlowBoxes$Kind" "ABSOLUTE" "LFlowBoxes$Kind;") ∈ gwl := gw_of (i := 341) (by decide +kernel) rfl
theorem wd_343 : (Cond.fieldLink "FlowBoxes$Node" (92 : Nat) "FlowBoxes$Kind" "FLOATING" "LFlowBoxes$Kind;") ∈ gwl := gw_of (i := 343) (by decide +kernel) rfl
theorem wd_345 : (Cond.fieldLink "FlowBoxes$Node" (74 : Nat) "FlowBoxes$Kind" "SPAN" "LFlowBoxes$Kind;") ∈ gwl := gw_of (i := 345) (by decide +kernel) rfl
theorem wd_347 : (Cond.fieldLink "FlowBoxes$Node" (129 : Nat) "FlowBoxes$Kind" "INLINE" "LFlowBoxes$Kind;") ∈ gwl := gw_of (i := 347) (by decide +kernel) rfl
theorem wd_349 : (Cond.methodLink "FlowBoxes$Node" (115 : Nat) ({ cls := "FlowBoxes$Node", name := "countsFor", desc := "(I)Z" } : MethodName)) ∈ gwl := gw_of (i := 349) (by decide +kernel) rfl
theorem wd_351 : (Cond.instanceMethod ({ cls := "FlowBoxes$Node", name := "countsFor", desc := "(I)Z" } : MethodName)) ∈ gwl := gw_of (i := 351) (by decide +kernel) rfl
theorem wd_352 : (Cond.code ({ cls := "FlowBoxes$Node", name := "countsFor", desc := "(I)Z" } : MethodName) prog_9_method_20_code (2 : Nat) (Option.some FieldType.boolean)) ∈ gwl := gw_of (i := 352) (by decide +kernel) rfl
theorem wd_353 : (Cond.fieldLink "FlowBoxes$Node" (141 : Nat) "FlowBoxes$1" "$SwitchMap$FlowBoxes$Kind" "[I") ∈ gwl := gw_of (i := 353) (by decide +kernel) rfl
theorem wd_355 : (Cond.methodLink "FlowBoxes$Node" (146 : Nat) ({ cls := "FlowBoxes$Kind", name := "ordinal", desc := "()I" } : MethodName)) ∈ gwl := gw_of (i := 355) (by decide +kernel) rfl
theorem wd_356 : (Cond.sameMethod "FlowBoxes$Kind" "java/lang/Enum" "ordinal" "()I") ∈ gwl := gw_of (i := 356) (by decide +kernel) rfl
theorem wd_358 : (Cond.selects "FlowBoxes$Kind" ({ cls := "FlowBoxes$Kind", name := "ordinal", desc := "()I" } : MethodName) ({ cls := "java/lang/Enum", name := "ordinal", desc := "()I" } : MethodName)) ∈ gwl := gw_of (i := 358) (by decide +kernel) rfl
theorem wd_359 : (Cond.instanceMethod ({ cls := "java/lang/Enum", name := "ordinal", desc := "()I" } : MethodName)) ∈ gwl := gw_of (i := 359) (by decide +kernel) rfl
theorem wd_360 : (Cond.code ({ cls := "java/lang/Enum", name := "ordinal", desc := "()I" } : MethodName) prog_18_method_2_code (1 : Nat) (Option.some FieldType.int)) ∈ gwl := gw_of (i := 360) (by decide +kernel) rfl
theorem wd_361 : (Cond.methodLink "FlowBoxes$Node" (119 : Nat) ({ cls := "FlowBoxes$Node", name := "isInColumns", desc := "()Z" } : MethodName)) ∈ gwl := gw_of (i := 361) (by decide +kernel) rfl
theorem wd_363 : (Cond.instanceMethod ({ cls := "FlowBoxes$Node", name := "isInColumns", desc := "()Z" } : MethodName)) ∈ gwl := gw_of (i := 363) (by decide +kernel) rfl
theorem wd_364 : (Cond.code ({ cls := "FlowBoxes$Node", name := "isInColumns", desc := "()Z" } : MethodName) prog_9_method_21_code (2 : Nat) (Option.some FieldType.boolean)) ∈ gwl := gw_of (i := 364) (by decide +kernel) rfl
theorem wd_365 : (Cond.methodLink "FlowBoxes$Node" (122 : Nat) ({ cls := "FlowBoxes$Node", name := "countScrollsAround", desc := "()I" } : MethodName)) ∈ gwl := gw_of (i := 365) (by decide +kernel) rfl
theorem wd_367 : (Cond.instanceMethod ({ cls := "FlowBoxes$Node", name := "countScrollsAround", desc := "()I" } : MethodName)) ∈ gwl := gw_of (i := 367) (by decide +kernel) rfl
theorem wd_368 : (Cond.code ({ cls := "FlowBoxes$Node", name := "countScrollsAround", desc := "()I" } : MethodName) prog_9_method_22_code (3 : Nat) (Option.some FieldType.int)) ∈ gwl := gw_of (i := 368) (by decide +kernel) rfl
theorem wd_369 : (Cond.methodLink "FlowBoxes$Node" (107 : Nat) ({ cls := "FlowBoxes$Node", name := "onward", desc := "(LFlowBoxes$Node;LFlowBoxes$Node;Z)LFlowBoxes$Node;" } : MethodName)) ∈ gwl := gw_of (i := 369) (by decide +kernel) rfl
theorem wd_370 : (Cond.static ({ cls := "FlowBoxes$Node", name := "onward", desc := "(LFlowBoxes$Node;LFlowBoxes$Node;Z)LFlowBoxes$Node;" } : MethodName)) ∈ gwl := gw_of (i := 370) (by decide +kernel) rfl
theorem wd_371 : (Cond.code ({ cls := "FlowBoxes$Node", name := "onward", desc := "(LFlowBoxes$Node;LFlowBoxes$Node;Z)LFlowBoxes$Node;" } : MethodName) prog_9_method_12_code (4 : Nat) (Option.some (FieldType.object "FlowBoxes$Node"))) ∈ gwl := gw_of (i := 371) (by decide +kernel) rfl
theorem wd_373 : (Cond.classLink "FlowBoxes" (36 : Nat) "FlowBoxes$Layout") ∈ gwl := gw_of (i := 373) (by decide +kernel) rfl
theorem wd_374 : (Cond.instantiable "FlowBoxes$Layout" (6 : Nat)) ∈ gwl := gw_of (i := 374) (by decide +kernel) rfl
theorem wd_376 : (Cond.instanceMethod ({ cls := "FlowBoxes$Layout", name := "<init>", desc := "(ZLFlowBoxes$Strip;)V" } : MethodName)) ∈ gwl := gw_of (i := 376) (by decide +kernel) rfl
theorem wd_377 : (Cond.code ({ cls := "FlowBoxes$Layout", name := "<init>", desc := "(ZLFlowBoxes$Strip;)V" } : MethodName) prog_6_method_1_code (4 : Nat) (Option.none : Option FieldType)) ∈ gwl := gw_of (i := 377) (by decide +kernel) rfl
theorem wd_378 : (Cond.methodLink "FlowBoxes$Layout" (3 : Nat) ({ cls := "java/lang/Object", name := "<init>", desc := "()V" } : MethodName)) ∈ gwl := gw_of (i := 378) (by decide +kernel) rfl
theorem wd_379 : (Cond.classLink "FlowBoxes$Layout" (19 : Nat) "FlowBoxes$Flow") ∈ gwl := gw_of (i := 379) (by decide +kernel) rfl
theorem wd_381 : (Cond.instantiable "FlowBoxes$Flow" (20 : Nat)) ∈ gwl := gw_of (i := 381) (by decide +kernel) rfl
theorem wd_383 : (Cond.instanceMethod ({ cls := "FlowBoxes$Flow", name := "<init>", desc := "()V" } : MethodName)) ∈ gwl := gw_of (i := 383) (by decide +kernel) rfl
theorem wd_384 : (Cond.code ({ cls := "FlowBoxes$Flow", name := "<init>", desc := "()V" } : MethodName) prog_4_method_1_code (1 : Nat) (Option.none : Option FieldType)) ∈ gwl := gw_of (i := 384) (by decide +kernel) rfl
theorem wd_385 : (Cond.methodLink "FlowBoxes$Flow" (3 : Nat) ({ cls := "java/lang/Object", name := "<init>", desc := "()V" } : MethodName)) ∈ gwl := gw_of (i := 385) (by decide +kernel) rfl
theorem wd_386 : (Cond.fieldLink "FlowBoxes$Flow" (9 : Nat) "FlowBoxes$Flow" "y" "I") ∈ gwl := gw_of (i := 386) (by decide +kernel) rfl
theorem wd_388 : (Cond.fieldLink "FlowBoxes$Flow" (15 : Nat) "FlowBoxes$Flow" "above" "I") ∈ gwl := gw_of (i := 388) (by decide +kernel) rfl
theorem wd_389 : (Cond.fieldLink "FlowBoxes$Flow" (18 : Nat) "FlowBoxes$Flow" "below" "I") ∈ gwl := gw_of (i := 389) (by decide +kernel) rfl
theorem wd_390 : (Cond.fieldLink "FlowBoxes$Flow" (21 : Nat) "FlowBoxes$Flow" "waiting" "LFlowBoxes$Place;") ∈ gwl := gw_of (i := 390) (by decide +kernel) rfl
theorem wd_392 : (Cond.fieldLink "FlowBoxes$Flow" (25 : Nat) "FlowBoxes$Flow" "firstFloat" "LFlowBoxes$Floated;") ∈ gwl := gw_of (i := 392) (by decide +kernel) rfl
theorem wd_393 : (Cond.fieldLink "FlowBoxes$Flow" (29 : Nat) "FlowBoxes$Flow" "lastFloat" "LFlowBoxes$Floated;") ∈ gwl := gw_of (i := 393) (by decide +kernel) rfl
theorem wd_394 : (Cond.fieldLink "FlowBoxes$Flow" (33 : Nat) "FlowBoxes$Flow" "reach" "I") ∈ gwl := gw_of (i := 394) (by decide +kernel) rfl
theorem wd_396 : (Cond.fieldLink "FlowBoxes$Flow" (91 : Nat) "FlowBoxes$Flow" "left" "I") ∈ gwl := gw_of (i := 396) (by decide +kernel) rfl
theorem wd_398 : (Cond.fieldLink "FlowBoxes$Flow" (97 : Nat) "FlowBoxes$Flow" "wide" "I") ∈ gwl := gw_of (i := 398) (by decide +kernel) rfl
theorem wd_400 : (Cond.fieldLink "FlowBoxes$Flow" (94 : Nat) "FlowBoxes$Flow" "bandLeft" "I") ∈ gwl := gw_of (i := 400) (by decide +kernel) rfl
theorem wd_402 : (Cond.fieldLink "FlowBoxes$Flow" (100 : Nat) "FlowBoxes$Flow" "bandRight" "I") ∈ gwl := gw_of (i := 402) (by decide +kernel) rfl
theorem wd_404 : (Cond.fieldLink "FlowBoxes$Flow" (103 : Nat) "FlowBoxes$Flow" "reached" "Z") ∈ gwl := gw_of (i := 404) (by decide +kernel) rfl
theorem wd_406 : (Cond.fieldLink "FlowBoxes$Flow" (36 : Nat) "FlowBoxes$Flow" "line" "LFlowBoxes$Line;") ∈ gwl := gw_of (i := 406) (by decide +kernel) rfl
theorem wd_408 : (Cond.fieldLink "FlowBoxes$Flow" (40 : Nat) "FlowBoxes$Flow" "things" "I") ∈ gwl := gw_of (i := 408) (by decide +kernel) rfl
theorem wd_410 : (Cond.fieldLink "FlowBoxes$Flow" (43 : Nat) "FlowBoxes$Flow" "filled" "I") ∈ gwl := gw_of (i := 410) (by decide +kernel) rfl
theorem wd_415 : (Cond.fieldLink "FlowBoxes$Flow" (46 : Nat) "FlowBoxes$Flow" "firstLate" "LFlowBoxes$Floated;") ∈ gwl := gw_of (i := 415) (by decide +kernel) rfl
theorem wd_417 : (Cond.fieldLink "FlowBoxes$Flow" (49 : Nat) "FlowBoxes$Flow" "lastLate" "LFlowBoxes$Floated;") ∈ gwl := gw_of (i := 417) (by decide +kernel) rfl
theorem wd_460 : (Cond.fieldLink "FlowBoxes$Layout" (9 : Nat) "FlowBoxes$Layout" "isFresh" "Z") ∈ gwl := gw_of (i := 460) (by decide +kernel) rfl
theorem wd_461 : (Cond.fieldLink "FlowBoxes$Layout" (15 : Nat) "FlowBoxes$Layout" "strip" "LFlowBoxes$Strip;") ∈ gwl := gw_of (i := 461) (by decide +kernel) rfl
theorem wd_462 : (Cond.fieldLink "FlowBoxes$Layout" (21 : Nat) "FlowBoxes$Layout" "flows" "[LFlowBoxes$Flow;") ∈ gwl := gw_of (i := 462) (by decide +kernel) rfl
theorem wd_463 : (Cond.fieldLink "FlowBoxes$Layout" (514 : Nat) "FlowBoxes$Layout" "freeLine" "LFlowBoxes$Line;") ∈ gwl := gw_of (i := 463) (by decide +kernel) rfl
theorem wd_464 : (Cond.fieldLink "FlowBoxes$Layout" (49 : Nat) "FlowBoxes$Layout" "turn" "I") ∈ gwl := gw_of (i := 464) (by decide +kernel) rfl
theorem wd_465 : (Cond.fieldLink "FlowBoxes$Layout" (52 : Nat) "FlowBoxes$Layout" "count" "I") ∈ gwl := gw_of (i := 465) (by decide +kernel) rfl
theorem wd_479 : (Cond.classLink "FlowBoxes" (48 : Nat) "FlowBoxes$Painter") ∈ gwl := gw_of (i := 479) (by decide +kernel) rfl
theorem wd_480 : (Cond.instantiable "FlowBoxes$Painter" (2 : Nat)) ∈ gwl := gw_of (i := 480) (by decide +kernel) rfl
theorem wd_482 : (Cond.instanceMethod ({ cls := "FlowBoxes$Painter", name := "<init>", desc := "()V" } : MethodName)) ∈ gwl := gw_of (i := 482) (by decide +kernel) rfl
theorem wd_483 : (Cond.code ({ cls := "FlowBoxes$Painter", name := "<init>", desc := "()V" } : MethodName) prog_10_method_1_code (1 : Nat) (Option.none : Option FieldType)) ∈ gwl := gw_of (i := 483) (by decide +kernel) rfl
theorem wd_484 : (Cond.methodLink "FlowBoxes$Painter" (3 : Nat) ({ cls := "java/lang/Object", name := "<init>", desc := "()V" } : MethodName)) ∈ gwl := gw_of (i := 484) (by decide +kernel) rfl
theorem wd_485 : (Cond.classLink "FlowBoxes$Painter" (9 : Nat) "FlowBoxes$Node") ∈ gwl := gw_of (i := 485) (by decide +kernel) rfl
theorem wd_486 : (Cond.fieldLink "FlowBoxes$Painter" (11 : Nat) "FlowBoxes$Painter" "order" "[LFlowBoxes$Node;") ∈ gwl := gw_of (i := 486) (by decide +kernel) rfl
theorem wd_487 : (Cond.fieldLink "FlowBoxes$Painter" (17 : Nat) "FlowBoxes$Painter" "count" "I") ∈ gwl := gw_of (i := 487) (by decide +kernel) rfl
theorem wd_496 : (Cond.instanceMethod ({ cls := "FlowBoxes$Layout", name := "layAll", desc := "(LFlowBoxes$Node;II)I" } : MethodName)) ∈ gwl := gw_of (i := 496) (by decide +kernel) rfl
theorem wd_497 : (Cond.code ({ cls := "FlowBoxes$Layout", name := "layAll", desc := "(LFlowBoxes$Node;II)I" } : MethodName) prog_6_method_4_code (5 : Nat) (Option.some FieldType.int)) ∈ gwl := gw_of (i := 497) (by decide +kernel) rfl
theorem wd_498 : (Cond.methodLink "FlowBoxes$Layout" (55 : Nat) ({ cls := "FlowBoxes$Layout", name := "layOut", desc := "(LFlowBoxes$Node;II)V" } : MethodName)) ∈ gwl := gw_of (i := 498) (by decide +kernel) rfl
theorem wd_500 : (Cond.instanceMethod ({ cls := "FlowBoxes$Layout", name := "layOut", desc := "(LFlowBoxes$Node;II)V" } : MethodName)) ∈ gwl := gw_of (i := 500) (by decide +kernel) rfl
theorem wd_501 : (Cond.code ({ cls := "FlowBoxes$Layout", name := "layOut", desc := "(LFlowBoxes$Node;II)V" } : MethodName) prog_6_method_17_code (6 : Nat) (Option.none : Option FieldType)) ∈ gwl := gw_of (i := 501) (by decide +kernel) rfl
theorem wd_502 : (Cond.methodLink "FlowBoxes$Layout" (35 : Nat) ({ cls := "FlowBoxes$Layout", name := "placeOf", desc := "(LFlowBoxes$Node;)LFlowBoxes$Place;" } : MethodName)) ∈ gwl := gw_of (i := 502) (by decide +kernel) rfl
theorem wd_504 : (Cond.instanceMethod ({ cls := "FlowBoxes$Layout", name := "placeOf", desc := "(LFlowBoxes$Node;)LFlowBoxes$Place;" } : MethodName)) ∈ gwl := gw_of (i := 504) (by decide +kernel) rfl
theorem wd_505 : (Cond.code ({ cls := "FlowBoxes$Layout", name := "placeOf", desc := "(LFlowBoxes$Node;)LFlowBoxes$Place;" } : MethodName) prog_6_method_2_code (2 : Nat) (Option.some (FieldType.object "FlowBoxes$Place"))) ∈ gwl := gw_of (i := 505) (by decide +kernel) rfl
theorem wd_506 : (Cond.methodLink "FlowBoxes$Layout" (200 : Nat) ({ cls := "FlowBoxes$Layout", name := "layTable", desc := "(LFlowBoxes$Node;LFlowBoxes$Place;)I" } : MethodName)) ∈ gwl := gw_of (i := 506) (by decide +kernel) rfl
theorem wd_508 : (Cond.instanceMethod ({ cls := "FlowBoxes$Layout", name := "layTable", desc := "(LFlowBoxes$Node;LFlowBoxes$Place;)I" } : MethodName)) ∈ gwl := gw_of (i := 508) (by decide +kernel) rfl
theorem wd_509 : (Cond.code ({ cls := "FlowBoxes$Layout", name := "layTable", desc := "(LFlowBoxes$Node;LFlowBoxes$Place;)I" } : MethodName) prog_6_method_41_code (9 : Nat) (Option.some FieldType.int)) ∈ gwl := gw_of (i := 509) (by decide +kernel) rfl
theorem wd_511 : (Cond.static ({ cls := "FlowBoxes$Measures", name := "countColumns", desc := "(LFlowBoxes$Node;)I" } : MethodName)) ∈ gwl := gw_of (i := 511) (by decide +kernel) rfl
theorem wd_512 : (Cond.code ({ cls := "FlowBoxes$Measures", name := "countColumns", desc := "(LFlowBoxes$Node;)I" } : MethodName) prog_8_method_11_code (5 : Nat) (Option.some FieldType.int)) ∈ gwl := gw_of (i := 512) (by decide +kernel) rfl
theorem wd_513 : (Cond.fieldLink "FlowBoxes$Measures" (121 : Nat) "FlowBoxes$Kind" "CELL" "LFlowBoxes$Kind;") ∈ gwl := gw_of (i := 513) (by decide +kernel) rfl
theorem wd_514 : (Cond.methodLink "FlowBoxes$Measures" (55 : Nat) ({ cls := "java/lang/Math", name := "max", desc := "(II)I" } : MethodName)) ∈ gwl := gw_of (i := 514) (by decide +kernel) rfl
theorem wd_515 : (Cond.static ({ cls := "java/lang/Math", name := "max", desc := "(II)I" } : MethodName)) ∈ gwl := gw_of (i := 515) (by decide +kernel) rfl
theorem wd_516 : (Cond.code ({ cls := "java/lang/Math", name := "max", desc := "(II)I" } : MethodName) prog_23_method_65_code (2 : Nat) (Option.some FieldType.int)) ∈ gwl := gw_of (i := 516) (by decide +kernel) rfl
theorem wd_517 : (Cond.methodLink "FlowBoxes$Layout" (188 : Nat) ({ cls := "java/lang/Math", name := "max", desc := "(II)I" } : MethodName)) ∈ gwl := gw_of (i := 517) (by decide +kernel) rfl
theorem wd_518 : (Cond.methodLink "FlowBoxes$Layout" (529 : Nat) ({ cls := "FlowBoxes$Layout", name := "placeEvenly", desc := "(LFlowBoxes$Node;II)V" } : MethodName)) ∈ gwl := gw_of (i := 518) (by decide +kernel) rfl
theorem wd_520 : (Cond.instanceMethod ({ cls := "FlowBoxes$Layout", name := "placeEvenly", desc := "(LFlowBoxes$Node;II)V" } : MethodName)) ∈ gwl := gw_of (i := 520) (by decide +kernel) rfl
theorem wd_521 : (Cond.code ({ cls := "FlowBoxes$Layout", name := "placeEvenly", desc := "(LFlowBoxes$Node;II)V" } : MethodName) prog_6_method_43_code (6 : Nat) (Option.none : Option FieldType)) ∈ gwl := gw_of (i := 521) (by decide +kernel) rfl
theorem wd_522 : (Cond.methodLink "FlowBoxes$Layout" (544 : Nat) ({ cls := "FlowBoxes$Layout", name := "placeColumn", desc := "(LFlowBoxes$Node;III)V" } : MethodName)) ∈ gwl := gw_of (i := 522) (by decide +kernel) rfl
theorem wd_524 : (Cond.instanceMethod ({ cls := "FlowBoxes$Layout", name := "placeColumn", desc := "(LFlowBoxes$Node;III)V" } : MethodName)) ∈ gwl := gw_of (i := 524) (by decide +kernel) rfl
theorem wd_525 : (Cond.code ({ cls := "FlowBoxes$Layout", name := "placeColumn", desc := "(LFlowBoxes$Node;III)V" } : MethodName) prog_6_method_46_code (8 : Nat) (Option.none : Option FieldType)) ∈ gwl := gw_of (i := 525) (by decide +kernel) rfl
theorem wd_527 : (Cond.static ({ cls := "FlowBoxes$Measures", name := "cellAt", desc := "(LFlowBoxes$Node;I)LFlowBoxes$Node;" } : MethodName)) ∈ gwl := gw_of (i := 527) (by decide +kernel) rfl
theorem wd_528 : (Cond.code ({ cls := "FlowBoxes$Measures", name := "cellAt", desc := "(LFlowBoxes$Node;I)LFlowBoxes$Node;" } : MethodName) prog_8_method_12_code (4 : Nat) (Option.some (FieldType.object "FlowBoxes$Node"))) ∈ gwl := gw_of (i := 528) (by decide +kernel) rfl
theorem wd_531 : (Cond.instanceMethod ({ cls := "FlowBoxes$Node", name := "flatEdges", desc := "()I" } : MethodName)) ∈ gwl := gw_of (i := 531) (by decide +kernel) rfl
theorem wd_532 : (Cond.code ({ cls := "FlowBoxes$Node", name := "flatEdges", desc := "()I" } : MethodName) prog_9_method_5_code (1 : Nat) (Option.some FieldType.int)) ∈ gwl := gw_of (i := 532) (by decide +kernel) rfl
theorem wd_533 : (Cond.methodLink "FlowBoxes$Layout" (532 : Nat) ({ cls := "FlowBoxes$Layout", name := "placeByContent", desc := "(LFlowBoxes$Node;II)V" } : MethodName)) ∈ gwl := gw_of (i := 533) (by decide +kernel) rfl
theorem wd_535 : (Cond.instanceMethod ({ cls := "FlowBoxes$Layout", name := "placeByContent", desc := "(LFlowBoxes$Node;II)V" } : MethodName)) ∈ gwl := gw_of (i := 535) (by decide +kernel) rfl
theorem wd_536 : (Cond.code ({ cls := "FlowBoxes$Layout", name := "placeByContent", desc := "(LFlowBoxes$Node;II)V" } : MethodName) prog_6_method_44_code (12 : Nat) (Option.none : Option FieldType)) ∈ gwl := gw_of (i := 536) (by decide +kernel) rfl
theorem wd_538 : (Cond.static ({ cls := "FlowBoxes$Measures", name := "leastOfColumn", desc := "(LFlowBoxes$Node;I)I" } : MethodName)) ∈ gwl := gw_of (i := 538) (by decide +kernel) rfl
theorem wd_539 : (Cond.code ({ cls := "FlowBoxes$Measures", name := "leastOfColumn", desc := "(LFlowBoxes$Node;I)I" } : MethodName) prog_8_method_13_code (5 : Nat) (Option.some FieldType.int)) ∈ gwl := gw_of (i := 539) (by decide +kernel) rfl
theorem wd_540 : (Cond.methodLink "FlowBoxes$Measures" (124 : Nat) ({ cls := "FlowBoxes$Measures", name := "cellAt", desc := "(LFlowBoxes$Node;I)LFlowBoxes$Node;" } : MethodName)) ∈ gwl := gw_of (i := 540) (by decide +kernel) rfl
theorem wd_541 : (Cond.methodLink "FlowBoxes$Measures" (83 : Nat) ({ cls := "FlowBoxes$Measures", name := "outerLeast", desc := "(LFlowBoxes$Node;)I" } : MethodName)) ∈ gwl := gw_of (i := 541) (by decide +kernel) rfl
theorem wd_542 : (Cond.static ({ cls := "FlowBoxes$Measures", name := "outerLeast", desc := "(LFlowBoxes$Node;)I" } : MethodName)) ∈ gwl := gw_of (i := 542) (by decide +kernel) rfl
theorem wd_543 : (Cond.code ({ cls := "FlowBoxes$Measures", name := "outerLeast", desc := "(LFlowBoxes$Node;)I" } : MethodName) prog_8_method_5_code (3 : Nat) (Option.some FieldType.int)) ∈ gwl := gw_of (i := 543) (by decide +kernel) rfl
theorem wd_544 : (Cond.methodLink "FlowBoxes$Measures" (45 : Nat) ({ cls := "FlowBoxes$Measures", name := "mostOf", desc := "(LFlowBoxes$Node;)I" } : MethodName)) ∈ gwl := gw_of (i := 544) (by decide +kernel) rfl
theorem wd_545 : (Cond.static ({ cls := "FlowBoxes$Measures", name := "mostOf", desc := "(LFlowBoxes$Node;)I" } : MethodName)) ∈ gwl := gw_of (i := 545) (by decide +kernel) rfl
theorem wd_546 : (Cond.code ({ cls := "FlowBoxes$Measures", name := "mostOf", desc := "(LFlowBoxes$Node;)I" } : MethodName) prog_8_method_3_code (1 : Nat) (Option.some FieldType.int)) ∈ gwl := gw_of (i := 546) (by decide +kernel) rfl
theorem wd_547 : (Cond.methodLink "FlowBoxes$Measures" (35 : Nat) ({ cls := "FlowBoxes$Measures", name := "mostOfTable", desc := "(LFlowBoxes$Node;)I" } : MethodName)) ∈ gwl := gw_of (i := 547) (by decide +kernel) rfl
theorem wd_548 : (Cond.static ({ cls := "FlowBoxes$Measures", name := "mostOfTable", desc := "(LFlowBoxes$Node;)I" } : MethodName)) ∈ gwl := gw_of (i := 548) (by decide +kernel) rfl
theorem wd_549 : (Cond.code ({ cls := "FlowBoxes$Measures", name := "mostOfTable", desc := "(LFlowBoxes$Node;)I" } : MethodName) prog_8_method_16_code (6 : Nat) (Option.some FieldType.int)) ∈ gwl := gw_of (i := 549) (by decide +kernel) rfl
theorem wd_550 : (Cond.methodLink "FlowBoxes$Measures" (128 : Nat) ({ cls := "FlowBoxes$Measures", name := "countColumns", desc := "(LFlowBoxes$Node;)I" } : MethodName)) ∈ gwl := gw_of (i := 550) (by decide +kernel) rfl
theorem wd_551 : (Cond.methodLink "FlowBoxes$Measures" (138 : Nat) ({ cls := "FlowBoxes$Measures", name := "mostOfColumn", desc := "(LFlowBoxes$Node;I)I" } : MethodName)) ∈ gwl := gw_of (i := 551) (by decide +kernel) rfl
theorem wd_552 : (Cond.static ({ cls := "FlowBoxes$Measures", name := "mostOfColumn", desc := "(LFlowBoxes$Node;I)I" } : MethodName)) ∈ gwl := gw_of (i := 552) (by decide +kernel) rfl
theorem wd_553 : (Cond.code ({ cls := "FlowBoxes$Measures", name := "mostOfColumn", desc := "(LFlowBoxes$Node;I)I" } : MethodName) prog_8_method_14_code (5 : Nat) (Option.some FieldType.int)) ∈ gwl := gw_of (i := 553) (by decide +kernel) rfl
theorem wd_554 : (Cond.methodLink "FlowBoxes$Measures" (111 : Nat) ({ cls := "FlowBoxes$Measures", name := "outerMost", desc := "(LFlowBoxes$Node;)I" } : MethodName)) ∈ gwl := gw_of (i := 554) (by decide +kernel) rfl
theorem wd_555 : (Cond.static ({ cls := "FlowBoxes$Measures", name := "outerMost", desc := "(LFlowBoxes$Node;)I" } : MethodName)) ∈ gwl := gw_of (i := 555) (by decide +kernel) rfl
theorem wd_556 : (Cond.code ({ cls := "FlowBoxes$Measures", name := "outerMost", desc := "(LFlowBoxes$Node;)I" } : MethodName) prog_8_method_6_code (3 : Nat) (Option.some FieldType.int)) ∈ gwl := gw_of (i := 556) (by decide +kernel) rfl
theorem wd_557 : (Cond.methodLink "FlowBoxes$Measures" (48 : Nat) ({ cls := "FlowBoxes$Measures", name := "leastOf", desc := "(LFlowBoxes$Node;)I" } : MethodName)) ∈ gwl := gw_of (i := 557) (by decide +kernel) rfl
theorem wd_558 : (Cond.static ({ cls := "FlowBoxes$Measures", name := "leastOf", desc := "(LFlowBoxes$Node;)I" } : MethodName)) ∈ gwl := gw_of (i := 558) (by decide +kernel) rfl
theorem wd_559 : (Cond.code ({ cls := "FlowBoxes$Measures", name := "leastOf", desc := "(LFlowBoxes$Node;)I" } : MethodName) prog_8_method_2_code (1 : Nat) (Option.some FieldType.int)) ∈ gwl := gw_of (i := 559) (by decide +kernel) rfl
theorem wd_560 : (Cond.methodLink "FlowBoxes$Measures" (19 : Nat) ({ cls := "FlowBoxes$Measures", name := "leastOfTable", desc := "(LFlowBoxes$Node;)I" } : MethodName)) ∈ gwl := gw_of (i := 560) (by decide +kernel) rfl
theorem wd_561 : (Cond.static ({ cls := "FlowBoxes$Measures", name := "leastOfTable", desc := "(LFlowBoxes$Node;)I" } : MethodName)) ∈ gwl := gw_of (i := 561) (by decide +kernel) rfl
theorem wd_562 : (Cond.code ({ cls := "FlowBoxes$Measures", name := "leastOfTable", desc := "(LFlowBoxes$Node;)I" } : MethodName) prog_8_method_15_code (6 : Nat) (Option.some FieldType.int)) ∈ gwl := gw_of (i := 562) (by decide +kernel) rfl
theorem wd_563 : (Cond.methodLink "FlowBoxes$Measures" (131 : Nat) ({ cls := "FlowBoxes$Measures", name := "leastOfColumn", desc := "(LFlowBoxes$Node;I)I" } : MethodName)) ∈ gwl := gw_of (i := 563) (by decide +kernel) rfl
theorem wd_564 : (Cond.methodLink "FlowBoxes$Measures" (134 : Nat) ({ cls := "FlowBoxes$Measures", name := "besideEachOther", desc := "(LFlowBoxes$Node;III)I" } : MethodName)) ∈ gwl := gw_of (i := 564) (by decide +kernel) rfl
theorem wd_565 : (Cond.static ({ cls := "FlowBoxes$Measures", name := "besideEachOther", desc := "(LFlowBoxes$Node;III)I" } : MethodName)) ∈ gwl := gw_of (i := 565) (by decide +kernel) rfl
theorem wd_566 : (Cond.code ({ cls := "FlowBoxes$Measures", name := "besideEachOther", desc := "(LFlowBoxes$Node;III)I" } : MethodName) prog_8_method_17_code (5 : Nat) (Option.some FieldType.int)) ∈ gwl := gw_of (i := 566) (by decide +kernel) rfl
theorem wd_567 : (Cond.methodLink "FlowBoxes$Measures" (25 : Nat) ({ cls := "FlowBoxes$Measures", name := "leastInside", desc := "(LFlowBoxes$Node;)I" } : MethodName)) ∈ gwl := gw_of (i := 567) (by decide +kernel) rfl
theorem wd_568 : (Cond.static ({ cls := "FlowBoxes$Measures", name := "leastInside", desc := "(LFlowBoxes$Node;)I" } : MethodName)) ∈ gwl := gw_of (i := 568) (by decide +kernel) rfl
theorem wd_569 : (Cond.code ({ cls := "FlowBoxes$Measures", name := "leastInside", desc := "(LFlowBoxes$Node;)I" } : MethodName) prog_8_method_7_code (3 : Nat) (Option.some FieldType.int)) ∈ gwl := gw_of (i := 569) (by decide +kernel) rfl
theorem wd_570 : (Cond.fieldLink "FlowBoxes$Measures" (69 : Nat) "FlowBoxes$Kind" "TEXT" "LFlowBoxes$Kind;") ∈ gwl := gw_of (i := 570) (by decide +kernel) rfl
theorem wd_571 : (Cond.methodLink "FlowBoxes$Measures" (74 : Nat) ({ cls := "FlowBoxes$Measures", name := "leastOfWords", desc := "(LFlowBoxes$Node;)I" } : MethodName)) ∈ gwl := gw_of (i := 571) (by decide +kernel) rfl
theorem wd_572 : (Cond.static ({ cls := "FlowBoxes$Measures", name := "leastOfWords", desc := "(LFlowBoxes$Node;)I" } : MethodName)) ∈ gwl := gw_of (i := 572) (by decide +kernel) rfl
theorem wd_573 : (Cond.code ({ cls := "FlowBoxes$Measures", name := "leastOfWords", desc := "(LFlowBoxes$Node;)I" } : MethodName) prog_8_method_8_code (5 : Nat) (Option.some FieldType.int)) ∈ gwl := gw_of (i := 573) (by decide +kernel) rfl
theorem wd_574 : (Cond.fieldLink "FlowBoxes$Measures" (77 : Nat) "FlowBoxes$Kind" "SPAN" "LFlowBoxes$Kind;") ∈ gwl := gw_of (i := 574) (by decide +kernel) rfl
theorem wd_575 : (Cond.fieldLink "FlowBoxes$Measures" (80 : Nat) "FlowBoxes$Kind" "ABSOLUTE" "LFlowBoxes$Kind;") ∈ gwl := gw_of (i := 575) (by decide +kernel) rfl
theorem wd_577 : (Cond.methodLink "FlowBoxes$Measures" (28 : Nat) ({ cls := "FlowBoxes$Measures", name := "inColumns", desc := "(LFlowBoxes$Node;I)I" } : MethodName)) ∈ gwl := gw_of (i := 577) (by decide +kernel) rfl
theorem wd_578 : (Cond.static ({ cls := "FlowBoxes$Measures", name := "inColumns", desc := "(LFlowBoxes$Node;I)I" } : MethodName)) ∈ gwl := gw_of (i := 578) (by decide +kernel) rfl
theorem wd_579 : (Cond.code ({ cls := "FlowBoxes$Measures", name := "inColumns", desc := "(LFlowBoxes$Node;I)I" } : MethodName) prog_8_method_4_code (3 : Nat) (Option.some FieldType.int)) ∈ gwl := gw_of (i := 579) (by decide +kernel) rfl
theorem wd_582 : (Cond.instanceMethod ({ cls := "FlowBoxes$Node", name := "flatRim", desc := "()I" } : MethodName)) ∈ gwl := gw_of (i := 582) (by decide +kernel) rfl
theorem wd_583 : (Cond.code ({ cls := "FlowBoxes$Node", name := "flatRim", desc := "()I" } : MethodName) prog_9_method_7_code (1 : Nat) (Option.some FieldType.int)) ∈ gwl := gw_of (i := 583) (by decide +kernel) rfl
theorem wd_584 : (Cond.methodLink "FlowBoxes$Measures" (38 : Nat) ({ cls := "FlowBoxes$Measures", name := "mostInside", desc := "(LFlowBoxes$Node;)I" } : MethodName)) ∈ gwl := gw_of (i := 584) (by decide +kernel) rfl
theorem wd_585 : (Cond.static ({ cls := "FlowBoxes$Measures", name := "mostInside", desc := "(LFlowBoxes$Node;)I" } : MethodName)) ∈ gwl := gw_of (i := 585) (by decide +kernel) rfl
theorem wd_586 : (Cond.code ({ cls := "FlowBoxes$Measures", name := "mostInside", desc := "(LFlowBoxes$Node;)I" } : MethodName) prog_8_method_9_code (4 : Nat) (Option.some FieldType.int)) ∈ gwl := gw_of (i := 586) (by decide +kernel) rfl
theorem wd_589 : (Cond.instanceMethod ({ cls := "FlowBoxes$Kind", name := "isInLines", desc := "()Z" } : MethodName)) ∈ gwl := gw_of (i := 589) (by decide +kernel) rfl
theorem wd_590 : (Cond.instantiable "FlowBoxes$Kind" (3 : Nat)) ∈ gwl := gw_of (i := 590) (by decide +kernel) rfl
theorem wd_591 : (Cond.code ({ cls := "FlowBoxes$Kind", name := "isInLines", desc := "()Z" } : MethodName) prog_5_method_4_code (1 : Nat) (Option.some FieldType.boolean)) ∈ gwl := gw_of (i := 591) (by decide +kernel) rfl
theorem wd_592 : (Cond.fieldLink "FlowBoxes$Kind" (25 : Nat) "FlowBoxes$Kind" "TEXT" "LFlowBoxes$Kind;") ∈ gwl := gw_of (i := 592) (by decide +kernel) rfl
theorem wd_593 : (Cond.fieldLink "FlowBoxes$Kind" (7 : Nat) "FlowBoxes$Kind" "SPAN" "LFlowBoxes$Kind;") ∈ gwl := gw_of (i := 593) (by decide +kernel) rfl
theorem wd_594 : (Cond.fieldLink "FlowBoxes$Kind" (10 : Nat) "FlowBoxes$Kind" "INLINE" "LFlowBoxes$Kind;") ∈ gwl := gw_of (i := 594) (by decide +kernel) rfl
theorem wd_596 : (Cond.static ({ cls := "FlowBoxes$Node", name := "endOfRun", desc := "(LFlowBoxes$Node;)LFlowBoxes$Node;" } : MethodName)) ∈ gwl := gw_of (i := 596) (by decide +kernel) rfl
theorem wd_597 : (Cond.code ({ cls := "FlowBoxes$Node", name := "endOfRun", desc := "(LFlowBoxes$Node;)LFlowBoxes$Node;" } : MethodName) prog_9_method_14_code (3 : Nat) (Option.some (FieldType.object "FlowBoxes$Node"))) ∈ gwl := gw_of (i := 597) (by decide +kernel) rfl
theorem wd_598 : (Cond.methodLink "FlowBoxes$Node" (86 : Nat) ({ cls := "FlowBoxes$Node", name := "mayStandInRun", desc := "()Z" } : MethodName)) ∈ gwl := gw_of (i := 598) (by decide +kernel) rfl
theorem wd_600 : (Cond.instanceMethod ({ cls := "FlowBoxes$Node", name := "mayStandInRun", desc := "()Z" } : MethodName)) ∈ gwl := gw_of (i := 600) (by decide +kernel) rfl
theorem wd_601 : (Cond.code ({ cls := "FlowBoxes$Node", name := "mayStandInRun", desc := "()Z" } : MethodName) prog_9_method_15_code (1 : Nat) (Option.some FieldType.boolean)) ∈ gwl := gw_of (i := 601) (by decide +kernel) rfl
theorem wd_603 : (Cond.methodLink "FlowBoxes$Measures" (107 : Nat) ({ cls := "FlowBoxes$Measures", name := "mostOfRun", desc := "(LFlowBoxes$Node;LFlowBoxes$Node;)I" } : MethodName)) ∈ gwl := gw_of (i := 603) (by decide +kernel) rfl
theorem wd_604 : (Cond.static ({ cls := "FlowBoxes$Measures", name := "mostOfRun", desc := "(LFlowBoxes$Node;LFlowBoxes$Node;)I" } : MethodName)) ∈ gwl := gw_of (i := 604) (by decide +kernel) rfl
theorem wd_605 : (Cond.code ({ cls := "FlowBoxes$Measures", name := "mostOfRun", desc := "(LFlowBoxes$Node;LFlowBoxes$Node;)I" } : MethodName) prog_8_method_10_code (6 : Nat) (Option.some FieldType.int)) ∈ gwl := gw_of (i := 605) (by decide +kernel) rfl
theorem wd_607 : (Cond.static ({ cls := "FlowBoxes$Node", name := "onwardInRun", desc := "(LFlowBoxes$Node;LFlowBoxes$Node;)LFlowBoxes$Node;" } : MethodName)) ∈ gwl := gw_of (i := 607) (by decide +kernel) rfl
theorem wd_608 : (Cond.code ({ cls := "FlowBoxes$Node", name := "onwardInRun", desc := "(LFlowBoxes$Node;LFlowBoxes$Node;)LFlowBoxes$Node;" } : MethodName) prog_9_method_13_code (3 : Nat) (Option.some (FieldType.object "FlowBoxes$Node"))) ∈ gwl := gw_of (i := 608) (by decide +kernel) rfl
theorem wd_609 : (Cond.methodLink "FlowBoxes$Layout" (551 : Nat) ({ cls := "FlowBoxes$Layout", name := "lackOf", desc := "(LFlowBoxes$Node;I)I" } : MethodName)) ∈ gwl := gw_of (i := 609) (by decide +kernel) rfl
theorem wd_610 : (Cond.static ({ cls := "FlowBoxes$Layout", name := "lackOf", desc := "(LFlowBoxes$Node;I)I" } : MethodName)) ∈ gwl := gw_of (i := 610) (by decide +kernel) rfl
theorem wd_611 : (Cond.code ({ cls := "FlowBoxes$Layout", name := "lackOf", desc := "(LFlowBoxes$Node;I)I" } : MethodName) prog_6_method_45_code (2 : Nat) (Option.some FieldType.int)) ∈ gwl := gw_of (i := 611) (by decide +kernel) rfl
theorem wd_613 : (Cond.methodLink "FlowBoxes$Layout" (194 : Nat) ({ cls := "java/lang/Math", name := "min", desc := "(II)I" } : MethodName)) ∈ gwl := gw_of (i := 613) (by decide +kernel) rfl
theorem wd_614 : (Cond.static ({ cls := "java/lang/Math", name := "min", desc := "(II)I" } : MethodName)) ∈ gwl := gw_of (i := 614) (by decide +kernel) rfl
theorem wd_615 : (Cond.code ({ cls := "java/lang/Math", name := "min", desc := "(II)I" } : MethodName) prog_23_method_69_code (2 : Nat) (Option.some FieldType.int)) ∈ gwl := gw_of (i := 615) (by decide +kernel) rfl
theorem wd_616 : (Cond.methodLink "FlowBoxes$Layout" (169 : Nat) ({ cls := "FlowBoxes$Layout", name := "partOf", desc := "(III)I" } : MethodName)) ∈ gwl := gw_of (i := 616) (by decide +kernel) rfl
theorem wd_617 : (Cond.static ({ cls := "FlowBoxes$Layout", name := "partOf", desc := "(III)I" } : MethodName)) ∈ gwl := gw_of (i := 617) (by decide +kernel) rfl
theorem wd_618 : (Cond.code ({ cls := "FlowBoxes$Layout", name := "partOf", desc := "(III)I" } : MethodName) prog_6_method_15_code (3 : Nat) (Option.some FieldType.int)) ∈ gwl := gw_of (i := 618) (by decide +kernel) rfl
theorem wd_619 : (Cond.fieldLink "FlowBoxes$Layout" (535 : Nat) "FlowBoxes$Kind" "ROW" "LFlowBoxes$Kind;") ∈ gwl := gw_of (i := 619) (by decide +kernel) rfl
theorem wd_620 : (Cond.methodLink "FlowBoxes$Layout" (538 : Nat) ({ cls := "FlowBoxes$Layout", name := "layRow", desc := "(LFlowBoxes$Node;I)I" } : MethodName)) ∈ gwl := gw_of (i := 620) (by decide +kernel) rfl
theorem wd_622 : (Cond.instanceMethod ({ cls := "FlowBoxes$Layout", name := "layRow", desc := "(LFlowBoxes$Node;I)I" } : MethodName)) ∈ gwl := gw_of (i := 622) (by decide +kernel) rfl
theorem wd_623 : (Cond.code ({ cls := "FlowBoxes$Layout", name := "layRow", desc := "(LFlowBoxes$Node;I)I" } : MethodName) prog_6_method_42_code (6 : Nat) (Option.some FieldType.int)) ∈ gwl := gw_of (i := 623) (by decide +kernel) rfl
theorem wd_624 : (Cond.fieldLink "FlowBoxes$Layout" (541 : Nat) "FlowBoxes$Kind" "CELL" "LFlowBoxes$Kind;") ∈ gwl := gw_of (i := 624) (by decide +kernel) rfl
theorem wd_625 : (Cond.methodLink "FlowBoxes$Layout" (101 : Nat) ({ cls := "FlowBoxes$Layout", name := "heightIn", desc := "(LFlowBoxes$Node;I)I" } : MethodName)) ∈ gwl := gw_of (i := 625) (by decide +kernel) rfl
theorem wd_626 : (Cond.static ({ cls := "FlowBoxes$Layout", name := "heightIn", desc := "(LFlowBoxes$Node;I)I" } : MethodName)) ∈ gwl := gw_of (i := 626) (by decide +kernel) rfl
theorem wd_627 : (Cond.code ({ cls := "FlowBoxes$Layout", name := "heightIn", desc := "(LFlowBoxes$Node;I)I" } : MethodName) prog_6_method_14_code (3 : Nat) (Option.some FieldType.int)) ∈ gwl := gw_of (i := 627) (by decide +kernel) rfl
theorem wd_630 : (Cond.instanceMethod ({ cls := "FlowBoxes$Node", name := "uprightEdges", desc := "()I" } : MethodName)) ∈ gwl := gw_of (i := 630) (by decide +kernel) rfl
theorem wd_631 : (Cond.code ({ cls := "FlowBoxes$Node", name := "uprightEdges", desc := "()I" } : MethodName) prog_9_method_6_code (1 : Nat) (Option.some FieldType.int)) ∈ gwl := gw_of (i := 631) (by decide +kernel) rfl
theorem wd_632 : (Cond.methodLink "FlowBoxes$Layout" (218 : Nat) ({ cls := "FlowBoxes$Layout", name := "layWithBars", desc := "(LFlowBoxes$Node;LFlowBoxes$Place;)I" } : MethodName)) ∈ gwl := gw_of (i := 632) (by decide +kernel) rfl
theorem wd_634 : (Cond.instanceMethod ({ cls := "FlowBoxes$Layout", name := "layWithBars", desc := "(LFlowBoxes$Node;LFlowBoxes$Place;)I" } : MethodName)) ∈ gwl := gw_of (i := 634) (by decide +kernel) rfl
theorem wd_635 : (Cond.code ({ cls := "FlowBoxes$Layout", name := "layWithBars", desc := "(LFlowBoxes$Node;LFlowBoxes$Place;)I" } : MethodName) prog_6_method_20_code (10 : Nat) (Option.some FieldType.int)) ∈ gwl := gw_of (i := 635) (by decide +kernel) rfl
theorem wd_636 : (Cond.methodLink "FlowBoxes$Layout" (227 : Nat) ({ cls := "FlowBoxes$Layout", name := "flowContext", desc := "(LFlowBoxes$Node;I)I" } : MethodName)) ∈ gwl := gw_of (i := 636) (by decide +kernel) rfl
theorem wd_638 : (Cond.instanceMethod ({ cls := "FlowBoxes$Layout", name := "flowContext", desc := "(LFlowBoxes$Node;I)I" } : MethodName)) ∈ gwl := gw_of (i := 638) (by decide +kernel) rfl
theorem wd_639 : (Cond.code ({ cls := "FlowBoxes$Layout", name := "flowContext", desc := "(LFlowBoxes$Node;I)I" } : MethodName) prog_6_method_19_code (4 : Nat) (Option.some FieldType.int)) ∈ gwl := gw_of (i := 639) (by decide +kernel) rfl
theorem wd_640 : (Cond.methodLink "FlowBoxes$Layout" (233 : Nat) ({ cls := "FlowBoxes$Layout", name := "flowOf", desc := "(LFlowBoxes$Node;)LFlowBoxes$Flow;" } : MethodName)) ∈ gwl := gw_of (i := 640) (by decide +kernel) rfl
theorem wd_642 : (Cond.instanceMethod ({ cls := "FlowBoxes$Layout", name := "flowOf", desc := "(LFlowBoxes$Node;)LFlowBoxes$Flow;" } : MethodName)) ∈ gwl := gw_of (i := 642) (by decide +kernel) rfl
theorem wd_643 : (Cond.code ({ cls := "FlowBoxes$Layout", name := "flowOf", desc := "(LFlowBoxes$Node;)LFlowBoxes$Flow;" } : MethodName) prog_6_method_18_code (2 : Nat) (Option.some (FieldType.object "FlowBoxes$Flow"))) ∈ gwl := gw_of (i := 643) (by decide +kernel) rfl
theorem wd_646 : (Cond.instanceMethod ({ cls := "FlowBoxes$Flow", name := "begin", desc := "()V" } : MethodName)) ∈ gwl := gw_of (i := 646) (by decide +kernel) rfl
theorem wd_647 : (Cond.code ({ cls := "FlowBoxes$Flow", name := "begin", desc := "()V" } : MethodName) prog_4_method_2_code (1 : Nat) (Option.none : Option FieldType)) ∈ gwl := gw_of (i := 647) (by decide +kernel) rfl
theorem wd_648 : (Cond.constant "FlowBoxes$Flow" (32 : Nat) (-1000000 : Int32)) ∈ gwl := gw_of (i := 648) (by decide +kernel) rfl
theorem wd_649 : (Cond.methodLink "FlowBoxes$Layout" (240 : Nat) ({ cls := "FlowBoxes$Layout", name := "flowContainer", desc := "(LFlowBoxes$Node;LFlowBoxes$Flow;II)V" } : MethodName)) ∈ gwl := gw_of (i := 649) (by decide +kernel) rfl
theorem wd_651 : (Cond.instanceMethod ({ cls := "FlowBoxes$Layout", name := "flowContainer", desc := "(LFlowBoxes$Node;LFlowBoxes$Flow;II)V" } : MethodName)) ∈ gwl := gw_of (i := 651) (by decide +kernel) rfl
theorem wd_652 : (Cond.code ({ cls := "FlowBoxes$Layout", name := "flowContainer", desc := "(LFlowBoxes$Node;LFlowBoxes$Flow;II)V" } : MethodName) prog_6_method_21_code (7 : Nat) (Option.none : Option FieldType)) ∈ gwl := gw_of (i := 652) (by decide +kernel) rfl
theorem wd_653 : (Cond.methodLink "FlowBoxes$Layout" (256 : Nat) ({ cls := "FlowBoxes$Layout", name := "freeLines", desc := "(LFlowBoxes$Place;)V" } : MethodName)) ∈ gwl := gw_of (i := 653) (by decide +kernel) rfl
theorem wd_655 : (Cond.instanceMethod ({ cls := "FlowBoxes$Layout", name := "freeLines", desc := "(LFlowBoxes$Place;)V" } : MethodName)) ∈ gwl := gw_of (i := 655) (by decide +kernel) rfl
theorem wd_656 : (Cond.code ({ cls := "FlowBoxes$Layout", name := "freeLines", desc := "(LFlowBoxes$Place;)V" } : MethodName) prog_6_method_40_code (2 : Nat) (Option.none : Option FieldType)) ∈ gwl := gw_of (i := 656) (by decide +kernel) rfl
theorem wd_659 : (Cond.methodLink "FlowBoxes$Layout" (272 : Nat) ({ cls := "FlowBoxes$Layout", name := "hasThings", desc := "(LFlowBoxes$Node;LFlowBoxes$Node;)Z" } : MethodName)) ∈ gwl := gw_of (i := 659) (by decide +kernel) rfl
theorem wd_660 : (Cond.static ({ cls := "FlowBoxes$Layout", name := "hasThings", desc := "(LFlowBoxes$Node;LFlowBoxes$Node;)Z" } : MethodName)) ∈ gwl := gw_of (i := 660) (by decide +kernel) rfl
theorem wd_661 : (Cond.code ({ cls := "FlowBoxes$Layout", name := "hasThings", desc := "(LFlowBoxes$Node;LFlowBoxes$Node;)Z" } : MethodName) prog_6_method_28_code (3 : Nat) (Option.some FieldType.boolean)) ∈ gwl := gw_of (i := 661) (by decide +kernel) rfl
theorem wd_662 : (Cond.fieldLink "FlowBoxes$Layout" (136 : Nat) "FlowBoxes$Kind" "INLINE" "LFlowBoxes$Kind;") ∈ gwl := gw_of (i := 662) (by decide +kernel) rfl
theorem wd_664 : (Cond.methodLink "FlowBoxes$Layout" (276 : Nat) ({ cls := "FlowBoxes$Layout", name := "flowLines", desc := "(LFlowBoxes$Node;LFlowBoxes$Flow;LFlowBoxes$Node;LFlowBoxes$Node;)V" } : MethodName)) ∈ gwl := gw_of (i := 664) (by decide +kernel) rfl
theorem wd_666 : (Cond.instanceMethod ({ cls := "FlowBoxes$Layout", name := "flowLines", desc := "(LFlowBoxes$Node;LFlowBoxes$Flow;LFlowBoxes$Node;LFlowBoxes$Node;)V" } : MethodName)) ∈ gwl := gw_of (i := 666) (by decide +kernel) rfl
theorem wd_667 : (Cond.code ({ cls := "FlowBoxes$Layout", name := "flowLines", desc := "(LFlowBoxes$Node;LFlowBoxes$Flow;LFlowBoxes$Node;LFlowBoxes$Node;)V" } : MethodName) prog_6_method_30_code (6 : Nat) (Option.none : Option FieldType)) ∈ gwl := gw_of (i := 667) (by decide +kernel) rfl
theorem wd_670 : (Cond.instanceMethod ({ cls := "FlowBoxes$Flow", name := "endMargins", desc := "()V" } : MethodName)) ∈ gwl := gw_of (i := 670) (by decide +kernel) rfl
theorem wd_671 : (Cond.code ({ cls := "FlowBoxes$Flow", name := "endMargins", desc := "()V" } : MethodName) prog_4_method_6_code (2 : Nat) (Option.none : Option FieldType)) ∈ gwl := gw_of (i := 671) (by decide +kernel) rfl
theorem wd_672 : (Cond.methodLink "FlowBoxes$Flow" (61 : Nat) ({ cls := "FlowBoxes$Flow", name := "pendingY", desc := "()I" } : MethodName)) ∈ gwl := gw_of (i := 672) (by decide +kernel) rfl
theorem wd_674 : (Cond.instanceMethod ({ cls := "FlowBoxes$Flow", name := "pendingY", desc := "()I" } : MethodName)) ∈ gwl := gw_of (i := 674) (by decide +kernel) rfl
theorem wd_675 : (Cond.code ({ cls := "FlowBoxes$Flow", name := "pendingY", desc := "()I" } : MethodName) prog_4_method_4_code (1 : Nat) (Option.some FieldType.int)) ∈ gwl := gw_of (i := 675) (by decide +kernel) rfl
theorem wd_676 : (Cond.methodLink "FlowBoxes$Flow" (65 : Nat) ({ cls := "FlowBoxes$Flow", name := "dropMargins", desc := "()V" } : MethodName)) ∈ gwl := gw_of (i := 676) (by decide +kernel) rfl
theorem wd_678 : (Cond.instanceMethod ({ cls := "FlowBoxes$Flow", name := "dropMargins", desc := "()V" } : MethodName)) ∈ gwl := gw_of (i := 678) (by decide +kernel) rfl
theorem wd_679 : (Cond.code ({ cls := "FlowBoxes$Flow", name := "dropMargins", desc := "()V" } : MethodName) prog_4_method_5_code (1 : Nat) (Option.none : Option FieldType)) ∈ gwl := gw_of (i := 679) (by decide +kernel) rfl
theorem wd_680 : (Cond.fieldLink "FlowBoxes$Layout" (397 : Nat) "FlowBoxes$1" "$SwitchMap$FlowBoxes$Kind" "[I") ∈ gwl := gw_of (i := 680) (by decide +kernel) rfl
theorem wd_681 : (Cond.methodLink "FlowBoxes$Layout" (402 : Nat) ({ cls := "FlowBoxes$Kind", name := "ordinal", desc := "()I" } : MethodName)) ∈ gwl := gw_of (i := 681) (by decide +kernel) rfl
theorem wd_682 : (Cond.methodLink "FlowBoxes$Layout" (405 : Nat) ({ cls := "FlowBoxes$Layout", name := "addWords", desc := "(LFlowBoxes$Node;LFlowBoxes$Flow;LFlowBoxes$Node;)V" } : MethodName)) ∈ gwl := gw_of (i := 682) (by decide +kernel) rfl
theorem wd_684 : (Cond.instanceMethod ({ cls := "FlowBoxes$Layout", name := "addWords", desc := "(LFlowBoxes$Node;LFlowBoxes$Flow;LFlowBoxes$Node;)V" } : MethodName)) ∈ gwl := gw_of (i := 684) (by decide +kernel) rfl
theorem wd_685 : (Cond.code ({ cls := "FlowBoxes$Layout", name := "addWords", desc := "(LFlowBoxes$Node;LFlowBoxes$Flow;LFlowBoxes$Node;)V" } : MethodName) prog_6_method_32_code (10 : Nat) (Option.none : Option FieldType)) ∈ gwl := gw_of (i := 685) (by decide +kernel) rfl
theorem wd_686 : (Cond.methodLink "FlowBoxes$Layout" (426 : Nat) ({ cls := "FlowBoxes$Layout", name := "shiftOf", desc := "(LFlowBoxes$Node;)I" } : MethodName)) ∈ gwl := gw_of (i := 686) (by decide +kernel) rfl
theorem wd_687 : (Cond.static ({ cls := "FlowBoxes$Layout", name := "shiftOf", desc := "(LFlowBoxes$Node;)I" } : MethodName)) ∈ gwl := gw_of (i := 687) (by decide +kernel) rfl
theorem wd_688 : (Cond.code ({ cls := "FlowBoxes$Layout", name := "shiftOf", desc := "(LFlowBoxes$Node;)I" } : MethodName) prog_6_method_31_code (3 : Nat) (Option.some FieldType.int)) ∈ gwl := gw_of (i := 688) (by decide +kernel) rfl
theorem wd_690 : (Cond.fieldLink "FlowBoxes$Layout" (197 : Nat) "FlowBoxes$Kind" "SPAN" "LFlowBoxes$Kind;") ∈ gwl := gw_of (i := 690) (by decide +kernel) rfl
theorem wd_693 : (Cond.instanceMethod ({ cls := "FlowBoxes$Place", name := "pieceAt", desc := "(I)LFlowBoxes$Thing;" } : MethodName)) ∈ gwl := gw_of (i := 693) (by decide +kernel) rfl
theorem wd_694 : (Cond.code ({ cls := "FlowBoxes$Place", name := "pieceAt", desc := "(I)LFlowBoxes$Thing;" } : MethodName) prog_11_method_2_code (2 : Nat) (Option.some (FieldType.object "FlowBoxes$Thing"))) ∈ gwl := gw_of (i := 694) (by decide +kernel) rfl
theorem wd_695 : (Cond.methodLink "FlowBoxes$Layout" (448 : Nat) ({ cls := "FlowBoxes$Layout", name := "addThing", desc := "(LFlowBoxes$Node;LFlowBoxes$Flow;LFlowBoxes$Thing;LFlowBoxes$Thing;I)V" } : MethodName)) ∈ gwl := gw_of (i := 695) (by decide +kernel) rfl
theorem wd_697 : (Cond.instanceMethod ({ cls := "FlowBoxes$Layout", name := "addThing", desc := "(LFlowBoxes$Node;LFlowBoxes$Flow;LFlowBoxes$Thing;LFlowBoxes$Thing;I)V" } : MethodName)) ∈ gwl := gw_of (i := 697) (by decide +kernel) rfl
theorem wd_698 : (Cond.code ({ cls := "FlowBoxes$Layout", name := "addThing", desc := "(LFlowBoxes$Node;LFlowBoxes$Flow;LFlowBoxes$Thing;LFlowBoxes$Thing;I)V" } : MethodName) prog_6_method_34_code (9 : Nat) (Option.none : Option FieldType)) ∈ gwl := gw_of (i := 698) (by decide +kernel) rfl
theorem wd_701 : (Cond.instanceMethod ({ cls := "FlowBoxes$Flow", name := "look", desc := "(II)V" } : MethodName)) ∈ gwl := gw_of (i := 701) (by decide +kernel) rfl
theorem wd_702 : (Cond.code ({ cls := "FlowBoxes$Flow", name := "look", desc := "(II)V" } : MethodName) prog_4_method_9_code (5 : Nat) (Option.none : Option FieldType)) ∈ gwl := gw_of (i := 702) (by decide +kernel) rfl
theorem wd_703 : (Cond.methodLink "FlowBoxes$Flow" (52 : Nat) ({ cls := "java/lang/Math", name := "max", desc := "(II)I" } : MethodName)) ∈ gwl := gw_of (i := 703) (by decide +kernel) rfl
theorem wd_706 : (Cond.instanceMethod ({ cls := "FlowBoxes$Floated", name := "reachesInto", desc := "(IIII)Z" } : MethodName)) ∈ gwl := gw_of (i := 706) (by decide +kernel) rfl
theorem wd_707 : (Cond.code ({ cls := "FlowBoxes$Floated", name := "reachesInto", desc := "(IIII)Z" } : MethodName) prog_3_method_2_code (5 : Nat) (Option.some FieldType.boolean)) ∈ gwl := gw_of (i := 707) (by decide +kernel) rfl
theorem wd_708 : (Cond.methodLink "FlowBoxes$Flow" (58 : Nat) ({ cls := "java/lang/Math", name := "min", desc := "(II)I" } : MethodName)) ∈ gwl := gw_of (i := 708) (by decide +kernel) rfl
theorem wd_711 : (Cond.instanceMethod ({ cls := "FlowBoxes$Flow", name := "fits", desc := "(I)Z" } : MethodName)) ∈ gwl := gw_of (i := 711) (by decide +kernel) rfl
theorem wd_712 : (Cond.code ({ cls := "FlowBoxes$Flow", name := "fits", desc := "(I)Z" } : MethodName) prog_4_method_17_code (2 : Nat) (Option.some FieldType.boolean)) ∈ gwl := gw_of (i := 712) (by decide +kernel) rfl
theorem wd_713 : (Cond.methodLink "FlowBoxes$Flow" (133 : Nat) ({ cls := "FlowBoxes$Flow", name := "nextOffset", desc := "()I" } : MethodName)) ∈ gwl := gw_of (i := 713) (by decide +kernel) rfl
theorem wd_715 : (Cond.instanceMethod ({ cls := "FlowBoxes$Flow", name := "nextOffset", desc := "()I" } : MethodName)) ∈ gwl := gw_of (i := 715) (by decide +kernel) rfl
theorem wd_716 : (Cond.code ({ cls := "FlowBoxes$Flow", name := "nextOffset", desc := "()I" } : MethodName) prog_4_method_16_code (1 : Nat) (Option.some FieldType.int)) ∈ gwl := gw_of (i := 716) (by decide +kernel) rfl
theorem wd_717 : (Cond.methodLink "FlowBoxes$Flow" (118 : Nat) ({ cls := "FlowBoxes$Flow", name := "band", desc := "()I" } : MethodName)) ∈ gwl := gw_of (i := 717) (by decide +kernel) rfl
theorem wd_719 : (Cond.instanceMethod ({ cls := "FlowBoxes$Flow", name := "band", desc := "()I" } : MethodName)) ∈ gwl := gw_of (i := 719) (by decide +kernel) rfl
theorem wd_720 : (Cond.code ({ cls := "FlowBoxes$Flow", name := "band", desc := "()I" } : MethodName) prog_4_method_10_code (1 : Nat) (Option.some FieldType.int)) ∈ gwl := gw_of (i := 720) (by decide +kernel) rfl
theorem wd_721 : (Cond.methodLink "FlowBoxes$Layout" (469 : Nat) ({ cls := "FlowBoxes$Layout", name := "putThing", desc := "(LFlowBoxes$Node;LFlowBoxes$Flow;LFlowBoxes$Thing;)V" } : MethodName)) ∈ gwl := gw_of (i := 721) (by decide +kernel) rfl
theorem wd_723 : (Cond.instanceMethod ({ cls := "FlowBoxes$Layout", name := "putThing", desc := "(LFlowBoxes$Node;LFlowBoxes$Flow;LFlowBoxes$Thing;)V" } : MethodName)) ∈ gwl := gw_of (i := 723) (by decide +kernel) rfl
theorem wd_724 : (Cond.code ({ cls := "FlowBoxes$Layout", name := "putThing", desc := "(LFlowBoxes$Node;LFlowBoxes$Flow;LFlowBoxes$Thing;)V" } : MethodName) prog_6_method_35_code (4 : Nat) (Option.none : Option FieldType)) ∈ gwl := gw_of (i := 724) (by decide +kernel) rfl
theorem wd_725 : (Cond.methodLink "FlowBoxes$Layout" (479 : Nat) ({ cls := "FlowBoxes$Layout", name := "addLine", desc := "(LFlowBoxes$Place;)LFlowBoxes$Line;" } : MethodName)) ∈ gwl := gw_of (i := 725) (by decide +kernel) rfl
theorem wd_727 : (Cond.instanceMethod ({ cls := "FlowBoxes$Layout", name := "addLine", desc := "(LFlowBoxes$Place;)LFlowBoxes$Line;" } : MethodName)) ∈ gwl := gw_of (i := 727) (by decide +kernel) rfl
theorem wd_728 : (Cond.code ({ cls := "FlowBoxes$Layout", name := "addLine", desc := "(LFlowBoxes$Place;)LFlowBoxes$Line;" } : MethodName) prog_6_method_39_code (3 : Nat) (Option.some (FieldType.object "FlowBoxes$Line"))) ∈ gwl := gw_of (i := 728) (by decide +kernel) rfl
theorem wd_729 : (Cond.classLink "FlowBoxes$Layout" (494 : Nat) "FlowBoxes$Line") ∈ gwl := gw_of (i := 729) (by decide +kernel) rfl
theorem wd_730 : (Cond.instantiable "FlowBoxes$Line" (6 : Nat)) ∈ gwl := gw_of (i := 730) (by decide +kernel) rfl
theorem wd_732 : (Cond.instanceMethod ({ cls := "FlowBoxes$Line", name := "<init>", desc := "()V" } : MethodName)) ∈ gwl := gw_of (i := 732) (by decide +kernel) rfl
theorem wd_733 : (Cond.code ({ cls := "FlowBoxes$Line", name := "<init>", desc := "()V" } : MethodName) prog_7_method_1_code (1 : Nat) (Option.none : Option FieldType)) ∈ gwl := gw_of (i := 733) (by decide +kernel) rfl
theorem wd_734 : (Cond.methodLink "FlowBoxes$Line" (1 : Nat) ({ cls := "java/lang/Object", name := "<init>", desc := "()V" } : MethodName)) ∈ gwl := gw_of (i := 734) (by decide +kernel) rfl
theorem wd_763 : (Cond.constant "FlowBoxes$Layout" (486 : Nat) (-1000000 : Int32)) ∈ gwl := gw_of (i := 763) (by decide +kernel) rfl
theorem wd_765 : (Cond.methodLink "FlowBoxes$Layout" (419 : Nat) ({ cls := "FlowBoxes$Layout", name := "endLine", desc := "(LFlowBoxes$Flow;)V" } : MethodName)) ∈ gwl := gw_of (i := 765) (by decide +kernel) rfl
theorem wd_767 : (Cond.instanceMethod ({ cls := "FlowBoxes$Layout", name := "endLine", desc := "(LFlowBoxes$Flow;)V" } : MethodName)) ∈ gwl := gw_of (i := 767) (by decide +kernel) rfl
theorem wd_768 : (Cond.code ({ cls := "FlowBoxes$Layout", name := "endLine", desc := "(LFlowBoxes$Flow;)V" } : MethodName) prog_6_method_36_code (6 : Nat) (Option.none : Option FieldType)) ∈ gwl := gw_of (i := 768) (by decide +kernel) rfl
theorem wd_771 : (Cond.instanceMethod ({ cls := "FlowBoxes$Flow", name := "reachTo", desc := "(I)V" } : MethodName)) ∈ gwl := gw_of (i := 771) (by decide +kernel) rfl
theorem wd_772 : (Cond.code ({ cls := "FlowBoxes$Flow", name := "reachTo", desc := "(I)V" } : MethodName) prog_4_method_8_code (2 : Nat) (Option.none : Option FieldType)) ∈ gwl := gw_of (i := 772) (by decide +kernel) rfl
theorem wd_773 : (Cond.methodLink "FlowBoxes$Layout" (303 : Nat) ({ cls := "FlowBoxes$Layout", name := "putFloat", desc := "(LFlowBoxes$Node;LFlowBoxes$Flow;I)V" } : MethodName)) ∈ gwl := gw_of (i := 773) (by decide +kernel) rfl
theorem wd_775 : (Cond.instanceMethod ({ cls := "FlowBoxes$Layout", name := "putFloat", desc := "(LFlowBoxes$Node;LFlowBoxes$Flow;I)V" } : MethodName)) ∈ gwl := gw_of (i := 775) (by decide +kernel) rfl
theorem wd_776 : (Cond.code ({ cls := "FlowBoxes$Layout", name := "putFloat", desc := "(LFlowBoxes$Node;LFlowBoxes$Flow;I)V" } : MethodName) prog_6_method_27_code (8 : Nat) (Option.none : Option FieldType)) ∈ gwl := gw_of (i := 776) (by decide +kernel) rfl
theorem wd_778 : (Cond.methodLink "FlowBoxes$Layout" (94 : Nat) ({ cls := "FlowBoxes$Layout", name := "widthIn", desc := "(LFlowBoxes$Node;II)I" } : MethodName)) ∈ gwl := gw_of (i := 778) (by decide +kernel) rfl
theorem wd_779 : (Cond.static ({ cls := "FlowBoxes$Layout", name := "widthIn", desc := "(LFlowBoxes$Node;II)I" } : MethodName)) ∈ gwl := gw_of (i := 779) (by decide +kernel) rfl
theorem wd_780 : (Cond.code ({ cls := "FlowBoxes$Layout", name := "widthIn", desc := "(LFlowBoxes$Node;II)I" } : MethodName) prog_6_method_13_code (4 : Nat) (Option.some FieldType.int)) ∈ gwl := gw_of (i := 780) (by decide +kernel) rfl
theorem wd_783 : (Cond.fieldLink "FlowBoxes$Layout" (182 : Nat) "FlowBoxes$Kind" "BLOCK" "LFlowBoxes$Kind;") ∈ gwl := gw_of (i := 783) (by decide +kernel) rfl
theorem wd_784 : (Cond.methodLink "FlowBoxes$Layout" (314 : Nat) ({ cls := "FlowBoxes$Layout", name := "knownHeight", desc := "(LFlowBoxes$Node;)I" } : MethodName)) ∈ gwl := gw_of (i := 784) (by decide +kernel) rfl
theorem wd_786 : (Cond.instanceMethod ({ cls := "FlowBoxes$Layout", name := "knownHeight", desc := "(LFlowBoxes$Node;)I" } : MethodName)) ∈ gwl := gw_of (i := 786) (by decide +kernel) rfl
theorem wd_787 : (Cond.code ({ cls := "FlowBoxes$Layout", name := "knownHeight", desc := "(LFlowBoxes$Node;)I" } : MethodName) prog_6_method_16_code (3 : Nat) (Option.some FieldType.int)) ∈ gwl := gw_of (i := 787) (by decide +kernel) rfl
theorem wd_790 : (Cond.instanceMethod ({ cls := "FlowBoxes$Node", name := "uprightRim", desc := "()I" } : MethodName)) ∈ gwl := gw_of (i := 790) (by decide +kernel) rfl
theorem wd_791 : (Cond.code ({ cls := "FlowBoxes$Node", name := "uprightRim", desc := "()I" } : MethodName) prog_9_method_8_code (1 : Nat) (Option.some FieldType.int)) ∈ gwl := gw_of (i := 791) (by decide +kernel) rfl
theorem wd_794 : (Cond.instanceMethod ({ cls := "FlowBoxes$Flow", name := "floatTop", desc := "(I)I" } : MethodName)) ∈ gwl := gw_of (i := 794) (by decide +kernel) rfl
theorem wd_795 : (Cond.code ({ cls := "FlowBoxes$Flow", name := "floatTop", desc := "(I)I" } : MethodName) prog_4_method_13_code (2 : Nat) (Option.some FieldType.int)) ∈ gwl := gw_of (i := 795) (by decide +kernel) rfl
theorem wd_798 : (Cond.instanceMethod ({ cls := "FlowBoxes$Flow", name := "findHeight", desc := "(III)I" } : MethodName)) ∈ gwl := gw_of (i := 798) (by decide +kernel) rfl
theorem wd_799 : (Cond.code ({ cls := "FlowBoxes$Flow", name := "findHeight", desc := "(III)I" } : MethodName) prog_4_method_12_code (6 : Nat) (Option.some FieldType.int)) ∈ gwl := gw_of (i := 799) (by decide +kernel) rfl
theorem wd_800 : (Cond.methodLink "FlowBoxes$Flow" (114 : Nat) ({ cls := "FlowBoxes$Flow", name := "look", desc := "(II)V" } : MethodName)) ∈ gwl := gw_of (i := 800) (by decide +kernel) rfl
theorem wd_801 : (Cond.methodLink "FlowBoxes$Flow" (121 : Nat) ({ cls := "FlowBoxes$Flow", name := "nextLow", desc := "(I)I" } : MethodName)) ∈ gwl := gw_of (i := 801) (by decide +kernel) rfl
theorem wd_803 : (Cond.instanceMethod ({ cls := "FlowBoxes$Flow", name := "nextLow", desc := "(I)I" } : MethodName)) ∈ gwl := gw_of (i := 803) (by decide +kernel) rfl
theorem wd_804 : (Cond.code ({ cls := "FlowBoxes$Flow", name := "nextLow", desc := "(I)I" } : MethodName) prog_4_method_11_code (5 : Nat) (Option.some FieldType.int)) ∈ gwl := gw_of (i := 804) (by decide +kernel) rfl
theorem wd_807 : (Cond.instanceMethod ({ cls := "FlowBoxes$Flow", name := "addFloat", desc := "(LFlowBoxes$Floated;)V" } : MethodName)) ∈ gwl := gw_of (i := 807) (by decide +kernel) rfl
theorem wd_808 : (Cond.code ({ cls := "FlowBoxes$Flow", name := "addFloat", desc := "(LFlowBoxes$Floated;)V" } : MethodName) prog_4_method_14_code (2 : Nat) (Option.none : Option FieldType)) ∈ gwl := gw_of (i := 808) (by decide +kernel) rfl
theorem wd_809 : (Cond.methodLink "FlowBoxes$Flow" (126 : Nat) ({ cls := "FlowBoxes$Flow", name := "reachTo", desc := "(I)V" } : MethodName)) ∈ gwl := gw_of (i := 809) (by decide +kernel) rfl
theorem wd_811 : (Cond.methodLink "FlowBoxes$Layout" (409 : Nat) ({ cls := "FlowBoxes$Layout", name := "addInlineBlock", desc := "(LFlowBoxes$Node;LFlowBoxes$Flow;LFlowBoxes$Node;)V" } : MethodName)) ∈ gwl := gw_of (i := 811) (by decide +kernel) rfl
theorem wd_813 : (Cond.instanceMethod ({ cls := "FlowBoxes$Layout", name := "addInlineBlock", desc := "(LFlowBoxes$Node;LFlowBoxes$Flow;LFlowBoxes$Node;)V" } : MethodName)) ∈ gwl := gw_of (i := 813) (by decide +kernel) rfl
theorem wd_814 : (Cond.code ({ cls := "FlowBoxes$Layout", name := "addInlineBlock", desc := "(LFlowBoxes$Node;LFlowBoxes$Flow;LFlowBoxes$Node;)V" } : MethodName) prog_6_method_33_code (8 : Nat) (Option.none : Option FieldType)) ∈ gwl := gw_of (i := 814) (by decide +kernel) rfl
theorem wd_815 : (Cond.methodLink "FlowBoxes$Layout" (412 : Nat) ({ cls := "FlowBoxes$Layout", name := "meetFloat", desc := "(LFlowBoxes$Flow;LFlowBoxes$Node;)V" } : MethodName)) ∈ gwl := gw_of (i := 815) (by decide +kernel) rfl
theorem wd_817 : (Cond.instanceMethod ({ cls := "FlowBoxes$Layout", name := "meetFloat", desc := "(LFlowBoxes$Flow;LFlowBoxes$Node;)V" } : MethodName)) ∈ gwl := gw_of (i := 817) (by decide +kernel) rfl
theorem wd_818 : (Cond.code ({ cls := "FlowBoxes$Layout", name := "meetFloat", desc := "(LFlowBoxes$Flow;LFlowBoxes$Node;)V" } : MethodName) prog_6_method_37_code (5 : Nat) (Option.none : Option FieldType)) ∈ gwl := gw_of (i := 818) (by decide +kernel) rfl
theorem wd_822 : (Cond.instanceMethod ({ cls := "FlowBoxes$Flow", name := "addLate", desc := "(LFlowBoxes$Floated;LFlowBoxes$Node;)V" } : MethodName)) ∈ gwl := gw_of (i := 822) (by decide +kernel) rfl
theorem wd_823 : (Cond.code ({ cls := "FlowBoxes$Flow", name := "addLate", desc := "(LFlowBoxes$Floated;LFlowBoxes$Node;)V" } : MethodName) prog_4_method_15_code (3 : Nat) (Option.none : Option FieldType)) ∈ gwl := gw_of (i := 823) (by decide +kernel) rfl
theorem wd_824 : (Cond.methodLink "FlowBoxes$Layout" (416 : Nat) ({ cls := "FlowBoxes$Layout", name := "meetAbsolute", desc := "(LFlowBoxes$Flow;LFlowBoxes$Node;)V" } : MethodName)) ∈ gwl := gw_of (i := 824) (by decide +kernel) rfl
theorem wd_826 : (Cond.instanceMethod ({ cls := "FlowBoxes$Layout", name := "meetAbsolute", desc := "(LFlowBoxes$Flow;LFlowBoxes$Node;)V" } : MethodName)) ∈ gwl := gw_of (i := 826) (by decide +kernel) rfl
theorem wd_827 : (Cond.code ({ cls := "FlowBoxes$Layout", name := "meetAbsolute", desc := "(LFlowBoxes$Flow;LFlowBoxes$Node;)V" } : MethodName) prog_6_method_38_code (4 : Nat) (Option.none : Option FieldType)) ∈ gwl := gw_of (i := 827) (by decide +kernel) rfl
theorem wd_828 : (Cond.methodLink "FlowBoxes$Layout" (280 : Nat) ({ cls := "FlowBoxes$Layout", name := "flowWithoutLines", desc := "(LFlowBoxes$Flow;LFlowBoxes$Node;LFlowBoxes$Node;)V" } : MethodName)) ∈ gwl := gw_of (i := 828) (by decide +kernel) rfl
theorem wd_830 : (Cond.instanceMethod ({ cls := "FlowBoxes$Layout", name := "flowWithoutLines", desc := "(LFlowBoxes$Flow;LFlowBoxes$Node;LFlowBoxes$Node;)V" } : MethodName)) ∈ gwl := gw_of (i := 830) (by decide +kernel) rfl
theorem wd_831 : (Cond.code ({ cls := "FlowBoxes$Layout", name := "flowWithoutLines", desc := "(LFlowBoxes$Flow;LFlowBoxes$Node;LFlowBoxes$Node;)V" } : MethodName) prog_6_method_29_code (5 : Nat) (Option.none : Option FieldType)) ∈ gwl := gw_of (i := 831) (by decide +kernel) rfl
theorem wd_832 : (Cond.methodLink "FlowBoxes$Layout" (284 : Nat) ({ cls := "FlowBoxes$Layout", name := "flowOutside", desc := "(LFlowBoxes$Node;LFlowBoxes$Flow;)V" } : MethodName)) ∈ gwl := gw_of (i := 832) (by decide +kernel) rfl
theorem wd_834 : (Cond.instanceMethod ({ cls := "FlowBoxes$Layout", name := "flowOutside", desc := "(LFlowBoxes$Node;LFlowBoxes$Flow;)V" } : MethodName)) ∈ gwl := gw_of (i := 834) (by decide +kernel) rfl
theorem wd_835 : (Cond.code ({ cls := "FlowBoxes$Layout", name := "flowOutside", desc := "(LFlowBoxes$Node;LFlowBoxes$Flow;)V" } : MethodName) prog_6_method_22_code (4 : Nat) (Option.none : Option FieldType)) ∈ gwl := gw_of (i := 835) (by decide +kernel) rfl
theorem wd_836 : (Cond.fieldLink "FlowBoxes$Layout" (297 : Nat) "FlowBoxes$Kind" "FLOATING" "LFlowBoxes$Kind;") ∈ gwl := gw_of (i := 836) (by decide +kernel) rfl
theorem wd_838 : (Cond.fieldLink "FlowBoxes$Layout" (63 : Nat) "FlowBoxes$Kind" "ABSOLUTE" "LFlowBoxes$Kind;") ∈ gwl := gw_of (i := 838) (by decide +kernel) rfl
theorem wd_839 : (Cond.methodLink "FlowBoxes$Layout" (288 : Nat) ({ cls := "FlowBoxes$Layout", name := "flowContextBlock", desc := "(LFlowBoxes$Node;LFlowBoxes$Flow;)V" } : MethodName)) ∈ gwl := gw_of (i := 839) (by decide +kernel) rfl
theorem wd_841 : (Cond.instanceMethod ({ cls := "FlowBoxes$Layout", name := "flowContextBlock", desc := "(LFlowBoxes$Node;LFlowBoxes$Flow;)V" } : MethodName)) ∈ gwl := gw_of (i := 841) (by decide +kernel) rfl
theorem wd_842 : (Cond.code ({ cls := "FlowBoxes$Layout", name := "flowContextBlock", desc := "(LFlowBoxes$Node;LFlowBoxes$Flow;)V" } : MethodName) prog_6_method_26_code (9 : Nat) (Option.none : Option FieldType)) ∈ gwl := gw_of (i := 842) (by decide +kernel) rfl
theorem wd_845 : (Cond.instanceMethod ({ cls := "FlowBoxes$Flow", name := "pend", desc := "(I)V" } : MethodName)) ∈ gwl := gw_of (i := 845) (by decide +kernel) rfl
theorem wd_846 : (Cond.code ({ cls := "FlowBoxes$Flow", name := "pend", desc := "(I)V" } : MethodName) prog_4_method_3_code (2 : Nat) (Option.none : Option FieldType)) ∈ gwl := gw_of (i := 846) (by decide +kernel) rfl
theorem wd_849 : (Cond.instanceMethod ({ cls := "FlowBoxes$Flow", name := "clearFloats", desc := "(I)V" } : MethodName)) ∈ gwl := gw_of (i := 849) (by decide +kernel) rfl
theorem wd_850 : (Cond.code ({ cls := "FlowBoxes$Flow", name := "clearFloats", desc := "(I)V" } : MethodName) prog_4_method_7_code (5 : Nat) (Option.none : Option FieldType)) ∈ gwl := gw_of (i := 850) (by decide +kernel) rfl
theorem wd_852 : (Cond.methodLink "FlowBoxes$Layout" (291 : Nat) ({ cls := "FlowBoxes$Layout", name := "flowPlainBlock", desc := "(LFlowBoxes$Node;LFlowBoxes$Flow;)V" } : MethodName)) ∈ gwl := gw_of (i := 852) (by decide +kernel) rfl
theorem wd_854 : (Cond.instanceMethod ({ cls := "FlowBoxes$Layout", name := "flowPlainBlock", desc := "(LFlowBoxes$Node;LFlowBoxes$Flow;)V" } : MethodName)) ∈ gwl := gw_of (i := 854) (by decide +kernel) rfl
theorem wd_855 : (Cond.code ({ cls := "FlowBoxes$Layout", name := "flowPlainBlock", desc := "(LFlowBoxes$Node;LFlowBoxes$Flow;)V" } : MethodName) prog_6_method_23_code (6 : Nat) (Option.none : Option FieldType)) ∈ gwl := gw_of (i := 855) (by decide +kernel) rfl
theorem wd_856 : (Cond.methodLink "FlowBoxes$Layout" (335 : Nat) ({ cls := "FlowBoxes$Layout", name := "endHeldBlock", desc := "([ILFlowBoxes$Place;LFlowBoxes$Flow;)V" } : MethodName)) ∈ gwl := gw_of (i := 856) (by decide +kernel) rfl
theorem wd_857 : (Cond.static ({ cls := "FlowBoxes$Layout", name := "endHeldBlock", desc := "([ILFlowBoxes$Place;LFlowBoxes$Flow;)V" } : MethodName)) ∈ gwl := gw_of (i := 857) (by decide +kernel) rfl
theorem wd_858 : (Cond.code ({ cls := "FlowBoxes$Layout", name := "endHeldBlock", desc := "([ILFlowBoxes$Place;LFlowBoxes$Flow;)V" } : MethodName) prog_6_method_25_code (4 : Nat) (Option.none : Option FieldType)) ∈ gwl := gw_of (i := 858) (by decide +kernel) rfl
theorem wd_860 : (Cond.methodLink "FlowBoxes$Layout" (339 : Nat) ({ cls := "FlowBoxes$Layout", name := "endWaitingBlock", desc := "([ILFlowBoxes$Place;LFlowBoxes$Flow;)V" } : MethodName)) ∈ gwl := gw_of (i := 860) (by decide +kernel) rfl
theorem wd_861 : (Cond.static ({ cls := "FlowBoxes$Layout", name := "endWaitingBlock", desc := "([ILFlowBoxes$Place;LFlowBoxes$Flow;)V" } : MethodName)) ∈ gwl := gw_of (i := 861) (by decide +kernel) rfl
theorem wd_862 : (Cond.code ({ cls := "FlowBoxes$Layout", name := "endWaitingBlock", desc := "([ILFlowBoxes$Place;LFlowBoxes$Flow;)V" } : MethodName) prog_6_method_24_code (3 : Nat) (Option.none : Option FieldType)) ∈ gwl := gw_of (i := 862) (by decide +kernel) rfl
theorem wd_865 : (Cond.instanceMethod ({ cls := "FlowBoxes$Flow", name := "contentHeight", desc := "()I" } : MethodName)) ∈ gwl := gw_of (i := 865) (by decide +kernel) rfl
theorem wd_866 : (Cond.code ({ cls := "FlowBoxes$Flow", name := "contentHeight", desc := "()I" } : MethodName) prog_4_method_18_code (3 : Nat) (Option.some FieldType.int)) ∈ gwl := gw_of (i := 866) (by decide +kernel) rfl
theorem wd_867 : (Cond.methodLink "FlowBoxes$Layout" (224 : Nat) ({ cls := "FlowBoxes$Layout", name := "layInColumns", desc := "(LFlowBoxes$Node;LFlowBoxes$Place;)I" } : MethodName)) ∈ gwl := gw_of (i := 867) (by decide +kernel) rfl
theorem wd_869 : (Cond.instanceMethod ({ cls := "FlowBoxes$Layout", name := "layInColumns", desc := "(LFlowBoxes$Node;LFlowBoxes$Place;)I" } : MethodName)) ∈ gwl := gw_of (i := 869) (by decide +kernel) rfl
theorem wd_870 : (Cond.code ({ cls := "FlowBoxes$Layout", name := "layInColumns", desc := "(LFlowBoxes$Node;LFlowBoxes$Place;)I" } : MethodName) prog_6_method_47_code (7 : Nat) (Option.some FieldType.int)) ∈ gwl := gw_of (i := 870) (by decide +kernel) rfl
theorem wd_871 : (Cond.methodLink "FlowBoxes$Layout" (561 : Nat) ({ cls := "FlowBoxes$Layout", name := "gatherItems", desc := "(LFlowBoxes$Node;)V" } : MethodName)) ∈ gwl := gw_of (i := 871) (by decide +kernel) rfl
theorem wd_873 : (Cond.instanceMethod ({ cls := "FlowBoxes$Layout", name := "gatherItems", desc := "(LFlowBoxes$Node;)V" } : MethodName)) ∈ gwl := gw_of (i := 873) (by decide +kernel) rfl
theorem wd_874 : (Cond.code ({ cls := "FlowBoxes$Layout", name := "gatherItems", desc := "(LFlowBoxes$Node;)V" } : MethodName) prog_6_method_49_code (5 : Nat) (Option.none : Option FieldType)) ∈ gwl := gw_of (i := 874) (by decide +kernel) rfl
theorem wd_875 : (Cond.methodLink "FlowBoxes$Layout" (582 : Nat) ({ cls := "FlowBoxes$Layout", name := "gatherLines", desc := "(LFlowBoxes$Place;)V" } : MethodName)) ∈ gwl := gw_of (i := 875) (by decide +kernel) rfl
theorem wd_877 : (Cond.instanceMethod ({ cls := "FlowBoxes$Layout", name := "gatherLines", desc := "(LFlowBoxes$Place;)V" } : MethodName)) ∈ gwl := gw_of (i := 877) (by decide +kernel) rfl
theorem wd_878 : (Cond.code ({ cls := "FlowBoxes$Layout", name := "gatherLines", desc := "(LFlowBoxes$Place;)V" } : MethodName) prog_6_method_50_code (3 : Nat) (Option.none : Option FieldType)) ∈ gwl := gw_of (i := 878) (by decide +kernel) rfl
theorem wd_881 : (Cond.instanceMethod ({ cls := "FlowBoxes$Strip", name := "add", desc := "(II)V" } : MethodName)) ∈ gwl := gw_of (i := 881) (by decide +kernel) rfl
theorem wd_882 : (Cond.code ({ cls := "FlowBoxes$Strip", name := "add", desc := "(II)V" } : MethodName) prog_12_method_2_code (4 : Nat) (Option.none : Option FieldType)) ∈ gwl := gw_of (i := 882) (by decide +kernel) rfl
theorem wd_883 : (Cond.methodLink "FlowBoxes$Layout" (146 : Nat) ({ cls := "FlowBoxes$Layout", name := "inlineTop", desc := "(LFlowBoxes$Node;LFlowBoxes$Place;)I" } : MethodName)) ∈ gwl := gw_of (i := 883) (by decide +kernel) rfl
theorem wd_884 : (Cond.static ({ cls := "FlowBoxes$Layout", name := "inlineTop", desc := "(LFlowBoxes$Node;LFlowBoxes$Place;)I" } : MethodName)) ∈ gwl := gw_of (i := 884) (by decide +kernel) rfl
theorem wd_885 : (Cond.code ({ cls := "FlowBoxes$Layout", name := "inlineTop", desc := "(LFlowBoxes$Node;LFlowBoxes$Place;)I" } : MethodName) prog_6_method_12_code (3 : Nat) (Option.some FieldType.int)) ∈ gwl := gw_of (i := 885) (by decide +kernel) rfl
theorem wd_888 : (Cond.instanceMethod ({ cls := "FlowBoxes$Thing", name := "topSide", desc := "()I" } : MethodName)) ∈ gwl := gw_of (i := 888) (by decide +kernel) rfl
theorem wd_889 : (Cond.code ({ cls := "FlowBoxes$Thing", name := "topSide", desc := "()I" } : MethodName) prog_13_method_3_code (1 : Nat) (Option.some FieldType.int)) ∈ gwl := gw_of (i := 889) (by decide +kernel) rfl
theorem wd_890 : (Cond.methodLink "FlowBoxes$Layout" (588 : Nat) ({ cls := "FlowBoxes$Layout", name := "isFlownThrough", desc := "(LFlowBoxes$Node;)Z" } : MethodName)) ∈ gwl := gw_of (i := 890) (by decide +kernel) rfl
theorem wd_891 : (Cond.static ({ cls := "FlowBoxes$Layout", name := "isFlownThrough", desc := "(LFlowBoxes$Node;)Z" } : MethodName)) ∈ gwl := gw_of (i := 891) (by decide +kernel) rfl
theorem wd_892 : (Cond.code ({ cls := "FlowBoxes$Layout", name := "isFlownThrough", desc := "(LFlowBoxes$Node;)Z" } : MethodName) prog_6_method_48_code (1 : Nat) (Option.some FieldType.boolean)) ∈ gwl := gw_of (i := 892) (by decide +kernel) rfl
theorem wd_896 : (Cond.instanceMethod ({ cls := "FlowBoxes$Strip", name := "findBreaks", desc := "(I)V" } : MethodName)) ∈ gwl := gw_of (i := 896) (by decide +kernel) rfl
theorem wd_897 : (Cond.code ({ cls := "FlowBoxes$Strip", name := "findBreaks", desc := "(I)V" } : MethodName) prog_12_method_4_code (3 : Nat) (Option.none : Option FieldType)) ∈ gwl := gw_of (i := 897) (by decide +kernel) rfl
theorem wd_898 : (Cond.methodLink "FlowBoxes$Strip" (31 : Nat) ({ cls := "FlowBoxes$Strip", name := "addPlace", desc := "(II)V" } : MethodName)) ∈ gwl := gw_of (i := 898) (by decide +kernel) rfl
theorem wd_900 : (Cond.instanceMethod ({ cls := "FlowBoxes$Strip", name := "addPlace", desc := "(II)V" } : MethodName)) ∈ gwl := gw_of (i := 900) (by decide +kernel) rfl
theorem wd_901 : (Cond.code ({ cls := "FlowBoxes$Strip", name := "addPlace", desc := "(II)V" } : MethodName) prog_12_method_3_code (4 : Nat) (Option.none : Option FieldType)) ∈ gwl := gw_of (i := 901) (by decide +kernel) rfl
theorem wd_902 : (Cond.methodLink "FlowBoxes$Strip" (35 : Nat) ({ cls := "FlowBoxes$Strip", name := "keepWholeItems", desc := "()V" } : MethodName)) ∈ gwl := gw_of (i := 902) (by decide +kernel) rfl
theorem wd_904 : (Cond.instanceMethod ({ cls := "FlowBoxes$Strip", name := "keepWholeItems", desc := "()V" } : MethodName)) ∈ gwl := gw_of (i := 904) (by decide +kernel) rfl
theorem wd_905 : (Cond.code ({ cls := "FlowBoxes$Strip", name := "keepWholeItems", desc := "()V" } : MethodName) prog_12_method_5_code (6 : Nat) (Option.none : Option FieldType)) ∈ gwl := gw_of (i := 905) (by decide +kernel) rfl
theorem wd_906 : (Cond.methodLink "FlowBoxes$Strip" (38 : Nat) ({ cls := "java/lang/Math", name := "max", desc := "(II)I" } : MethodName)) ∈ gwl := gw_of (i := 906) (by decide +kernel) rfl
theorem wd_909 : (Cond.instanceMethod ({ cls := "FlowBoxes$Strip", name := "leastHeight", desc := "(I)I" } : MethodName)) ∈ gwl := gw_of (i := 909) (by decide +kernel) rfl
theorem wd_910 : (Cond.code ({ cls := "FlowBoxes$Strip", name := "leastHeight", desc := "(I)I" } : MethodName) prog_12_method_7_code (6 : Nat) (Option.some FieldType.int)) ∈ gwl := gw_of (i := 910) (by decide +kernel) rfl
theorem wd_911 : (Cond.methodLink "FlowBoxes$Strip" (47 : Nat) ({ cls := "java/lang/Math", name := "min", desc := "(II)I" } : MethodName)) ∈ gwl := gw_of (i := 911) (by decide +kernel) rfl
theorem wd_912 : (Cond.methodLink "FlowBoxes$Strip" (50 : Nat) ({ cls := "FlowBoxes$Strip", name := "split", desc := "(I)I" } : MethodName)) ∈ gwl := gw_of (i := 912) (by decide +kernel) rfl
theorem wd_914 : (Cond.instanceMethod ({ cls := "FlowBoxes$Strip", name := "split", desc := "(I)I" } : MethodName)) ∈ gwl := gw_of (i := 914) (by decide +kernel) rfl
theorem wd_915 : (Cond.code ({ cls := "FlowBoxes$Strip", name := "split", desc := "(I)I" } : MethodName) prog_12_method_6_code (5 : Nat) (Option.some FieldType.int)) ∈ gwl := gw_of (i := 915) (by decide +kernel) rfl
theorem wd_917 : (Cond.methodLink "FlowBoxes$Layout" (575 : Nat) ({ cls := "FlowBoxes$Layout", name := "moveToColumns", desc := "(LFlowBoxes$Node;I)V" } : MethodName)) ∈ gwl := gw_of (i := 917) (by decide +kernel) rfl
theorem wd_919 : (Cond.instanceMethod ({ cls := "FlowBoxes$Layout", name := "moveToColumns", desc := "(LFlowBoxes$Node;I)V" } : MethodName)) ∈ gwl := gw_of (i := 919) (by decide +kernel) rfl
theorem wd_920 : (Cond.code ({ cls := "FlowBoxes$Layout", name := "moveToColumns", desc := "(LFlowBoxes$Node;I)V" } : MethodName) prog_6_method_51_code (6 : Nat) (Option.none : Option FieldType)) ∈ gwl := gw_of (i := 920) (by decide +kernel) rfl
theorem wd_921 : (Cond.methodLink "FlowBoxes$Layout" (592 : Nat) ({ cls := "FlowBoxes$Layout", name := "moveLines", desc := "(LFlowBoxes$Place;I)V" } : MethodName)) ∈ gwl := gw_of (i := 921) (by decide +kernel) rfl
theorem wd_923 : (Cond.instanceMethod ({ cls := "FlowBoxes$Layout", name := "moveLines", desc := "(LFlowBoxes$Place;I)V" } : MethodName)) ∈ gwl := gw_of (i := 923) (by decide +kernel) rfl
theorem wd_924 : (Cond.code ({ cls := "FlowBoxes$Layout", name := "moveLines", desc := "(LFlowBoxes$Place;I)V" } : MethodName) prog_6_method_52_code (5 : Nat) (Option.none : Option FieldType)) ∈ gwl := gw_of (i := 924) (by decide +kernel) rfl
theorem wd_927 : (Cond.instanceMethod ({ cls := "FlowBoxes$Strip", name := "columnAt", desc := "(I)I" } : MethodName)) ∈ gwl := gw_of (i := 927) (by decide +kernel) rfl
theorem wd_928 : (Cond.code ({ cls := "FlowBoxes$Strip", name := "columnAt", desc := "(I)I" } : MethodName) prog_12_method_8_code (3 : Nat) (Option.some FieldType.int)) ∈ gwl := gw_of (i := 928) (by decide +kernel) rfl
theorem wd_931 : (Cond.instanceMethod ({ cls := "FlowBoxes$Strip", name := "beginOf", desc := "(I)I" } : MethodName)) ∈ gwl := gw_of (i := 931) (by decide +kernel) rfl
theorem wd_932 : (Cond.code ({ cls := "FlowBoxes$Strip", name := "beginOf", desc := "(I)I" } : MethodName) prog_12_method_9_code (2 : Nat) (Option.some FieldType.int)) ∈ gwl := gw_of (i := 932) (by decide +kernel) rfl
theorem wd_933 : (Cond.methodLink "FlowBoxes$Layout" (68 : Nat) ({ cls := "FlowBoxes$Layout", name := "layAbsolute", desc := "(LFlowBoxes$Node;)V" } : MethodName)) ∈ gwl := gw_of (i := 933) (by decide +kernel) rfl
theorem wd_935 : (Cond.instanceMethod ({ cls := "FlowBoxes$Layout", name := "layAbsolute", desc := "(LFlowBoxes$Node;)V" } : MethodName)) ∈ gwl := gw_of (i := 935) (by decide +kernel) rfl
theorem wd_936 : (Cond.code ({ cls := "FlowBoxes$Layout", name := "layAbsolute", desc := "(LFlowBoxes$Node;)V" } : MethodName) prog_6_method_6_code (4 : Nat) (Option.none : Option FieldType)) ∈ gwl := gw_of (i := 936) (by decide +kernel) rfl
theorem wd_937 : (Cond.methodLink "FlowBoxes$Layout" (83 : Nat) ({ cls := "FlowBoxes$Layout", name := "stackAround", desc := "(LFlowBoxes$Node;)LFlowBoxes$Node;" } : MethodName)) ∈ gwl := gw_of (i := 937) (by decide +kernel) rfl
theorem wd_938 : (Cond.static ({ cls := "FlowBoxes$Layout", name := "stackAround", desc := "(LFlowBoxes$Node;)LFlowBoxes$Node;" } : MethodName)) ∈ gwl := gw_of (i := 938) (by decide +kernel) rfl
theorem wd_939 : (Cond.code ({ cls := "FlowBoxes$Layout", name := "stackAround", desc := "(LFlowBoxes$Node;)LFlowBoxes$Node;" } : MethodName) prog_6_method_5_code (2 : Nat) (Option.some (FieldType.object "FlowBoxes$Node"))) ∈ gwl := gw_of (i := 939) (by decide +kernel) rfl
theorem wd_942 : (Cond.instanceMethod ({ cls := "FlowBoxes$Node", name := "isStack", desc := "()Z" } : MethodName)) ∈ gwl := gw_of (i := 942) (by decide +kernel) rfl
theorem wd_943 : (Cond.code ({ cls := "FlowBoxes$Node", name := "isStack", desc := "()Z" } : MethodName) prog_9_method_16_code (1 : Nat) (Option.some FieldType.boolean)) ∈ gwl := gw_of (i := 943) (by decide +kernel) rfl
theorem wd_944 : (Cond.methodLink "FlowBoxes$Layout" (72 : Nat) ({ cls := "FlowBoxes$Layout", name := "settle", desc := "(LFlowBoxes$Node;)V" } : MethodName)) ∈ gwl := gw_of (i := 944) (by decide +kernel) rfl
theorem wd_946 : (Cond.instanceMethod ({ cls := "FlowBoxes$Layout", name := "settle", desc := "(LFlowBoxes$Node;)V" } : MethodName)) ∈ gwl := gw_of (i := 946) (by decide +kernel) rfl
theorem wd_947 : (Cond.code ({ cls := "FlowBoxes$Layout", name := "settle", desc := "(LFlowBoxes$Node;)V" } : MethodName) prog_6_method_7_code (4 : Nat) (Option.none : Option FieldType)) ∈ gwl := gw_of (i := 947) (by decide +kernel) rfl
theorem wd_948 : (Cond.methodLink "FlowBoxes$Layout" (118 : Nat) ({ cls := "FlowBoxes$Layout", name := "settleAbsolute", desc := "(LFlowBoxes$Node;LFlowBoxes$Place;LFlowBoxes$Place;)V" } : MethodName)) ∈ gwl := gw_of (i := 948) (by decide +kernel) rfl
theorem wd_950 : (Cond.instanceMethod ({ cls := "FlowBoxes$Layout", name := "settleAbsolute", desc := "(LFlowBoxes$Node;LFlowBoxes$Place;LFlowBoxes$Place;)V" } : MethodName)) ∈ gwl := gw_of (i := 950) (by decide +kernel) rfl
theorem wd_951 : (Cond.code ({ cls := "FlowBoxes$Layout", name := "settleAbsolute", desc := "(LFlowBoxes$Node;LFlowBoxes$Place;LFlowBoxes$Place;)V" } : MethodName) prog_6_method_9_code (12 : Nat) (Option.none : Option FieldType)) ∈ gwl := gw_of (i := 951) (by decide +kernel) rfl
theorem wd_952 : (Cond.methodLink "FlowBoxes$Layout" (125 : Nat) ({ cls := "FlowBoxes$Layout", name := "settleInFlow", desc := "(LFlowBoxes$Node;LFlowBoxes$Place;LFlowBoxes$Place;)V" } : MethodName)) ∈ gwl := gw_of (i := 952) (by decide +kernel) rfl
theorem wd_954 : (Cond.instanceMethod ({ cls := "FlowBoxes$Layout", name := "settleInFlow", desc := "(LFlowBoxes$Node;LFlowBoxes$Place;LFlowBoxes$Place;)V" } : MethodName)) ∈ gwl := gw_of (i := 954) (by decide +kernel) rfl
theorem wd_955 : (Cond.code ({ cls := "FlowBoxes$Layout", name := "settleInFlow", desc := "(LFlowBoxes$Node;LFlowBoxes$Place;LFlowBoxes$Place;)V" } : MethodName) prog_6_method_8_code (9 : Nat) (Option.none : Option FieldType)) ∈ gwl := gw_of (i := 955) (by decide +kernel) rfl
theorem wd_956 : (Cond.methodLink "FlowBoxes$Layout" (132 : Nat) ({ cls := "FlowBoxes$Layout", name := "offsetOf", desc := "(I)I" } : MethodName)) ∈ gwl := gw_of (i := 956) (by decide +kernel) rfl
theorem wd_957 : (Cond.static ({ cls := "FlowBoxes$Layout", name := "offsetOf", desc := "(I)I" } : MethodName)) ∈ gwl := gw_of (i := 957) (by decide +kernel) rfl
theorem wd_958 : (Cond.code ({ cls := "FlowBoxes$Layout", name := "offsetOf", desc := "(I)I" } : MethodName) prog_6_method_10_code (1 : Nat) (Option.some FieldType.int)) ∈ gwl := gw_of (i := 958) (by decide +kernel) rfl
theorem wd_959 : (Cond.methodLink "FlowBoxes$Layout" (139 : Nat) ({ cls := "FlowBoxes$Layout", name := "inlineLeft", desc := "(LFlowBoxes$Node;LFlowBoxes$Place;)J" } : MethodName)) ∈ gwl := gw_of (i := 959) (by decide +kernel) rfl
theorem wd_960 : (Cond.static ({ cls := "FlowBoxes$Layout", name := "inlineLeft", desc := "(LFlowBoxes$Node;LFlowBoxes$Place;)J" } : MethodName)) ∈ gwl := gw_of (i := 960) (by decide +kernel) rfl
theorem wd_961 : (Cond.code ({ cls := "FlowBoxes$Layout", name := "inlineLeft", desc := "(LFlowBoxes$Node;LFlowBoxes$Place;)J" } : MethodName) prog_6_method_11_code (3 : Nat) (Option.some FieldType.long)) ∈ gwl := gw_of (i := 961) (by decide +kernel) rfl
theorem wd_964 : (Cond.instanceMethod ({ cls := "FlowBoxes$Thing", name := "leftSide", desc := "()J" } : MethodName)) ∈ gwl := gw_of (i := 964) (by decide +kernel) rfl
theorem wd_965 : (Cond.code ({ cls := "FlowBoxes$Thing", name := "leftSide", desc := "()J" } : MethodName) prog_13_method_2_code (1 : Nat) (Option.some FieldType.long)) ∈ gwl := gw_of (i := 965) (by decide +kernel) rfl
theorem wd_968 : (Cond.instanceMethod ({ cls := "FlowBoxes$Painter", name := "arrange", desc := "(LFlowBoxes$Node;)V" } : MethodName)) ∈ gwl := gw_of (i := 968) (by decide +kernel) rfl
theorem wd_969 : (Cond.code ({ cls := "FlowBoxes$Painter", name := "arrange", desc := "(LFlowBoxes$Node;)V" } : MethodName) prog_10_method_3_code (2 : Nat) (Option.none : Option FieldType)) ∈ gwl := gw_of (i := 969) (by decide +kernel) rfl
theorem wd_970 : (Cond.methodLink "FlowBoxes$Painter" (21 : Nat) ({ cls := "FlowBoxes$Painter", name := "paintStack", desc := "(LFlowBoxes$Node;)V" } : MethodName)) ∈ gwl := gw_of (i := 970) (by decide +kernel) rfl
theorem wd_972 : (Cond.instanceMethod ({ cls := "FlowBoxes$Painter", name := "paintStack", desc := "(LFlowBoxes$Node;)V" } : MethodName)) ∈ gwl := gw_of (i := 972) (by decide +kernel) rfl
theorem wd_973 : (Cond.code ({ cls := "FlowBoxes$Painter", name := "paintStack", desc := "(LFlowBoxes$Node;)V" } : MethodName) prog_10_method_5_code (3 : Nat) (Option.none : Option FieldType)) ∈ gwl := gw_of (i := 973) (by decide +kernel) rfl
theorem wd_974 : (Cond.methodLink "FlowBoxes$Painter" (25 : Nat) ({ cls := "FlowBoxes$Painter", name := "add", desc := "(LFlowBoxes$Node;)V" } : MethodName)) ∈ gwl := gw_of (i := 974) (by decide +kernel) rfl
theorem wd_976 : (Cond.instanceMethod ({ cls := "FlowBoxes$Painter", name := "add", desc := "(LFlowBoxes$Node;)V" } : MethodName)) ∈ gwl := gw_of (i := 976) (by decide +kernel) rfl
theorem wd_977 : (Cond.code ({ cls := "FlowBoxes$Painter", name := "add", desc := "(LFlowBoxes$Node;)V" } : MethodName) prog_10_method_4_code (2 : Nat) (Option.none : Option FieldType)) ∈ gwl := gw_of (i := 977) (by decide +kernel) rfl
theorem wd_978 : (Cond.methodLink "FlowBoxes$Painter" (28 : Nat) ({ cls := "FlowBoxes$Painter", name := "paintStacksIn", desc := "(LFlowBoxes$Node;I)V" } : MethodName)) ∈ gwl := gw_of (i := 978) (by decide +kernel) rfl
theorem wd_980 : (Cond.instanceMethod ({ cls := "FlowBoxes$Painter", name := "paintStacksIn", desc := "(LFlowBoxes$Node;I)V" } : MethodName)) ∈ gwl := gw_of (i := 980) (by decide +kernel) rfl
theorem wd_981 : (Cond.code ({ cls := "FlowBoxes$Painter", name := "paintStacksIn", desc := "(LFlowBoxes$Node;I)V" } : MethodName) prog_10_method_6_code (5 : Nat) (Option.none : Option FieldType)) ∈ gwl := gw_of (i := 981) (by decide +kernel) rfl
theorem wd_984 : (Cond.methodLink "FlowBoxes$Painter" (32 : Nat) ({ cls := "FlowBoxes$Painter", name := "paintInside", desc := "(LFlowBoxes$Node;)V" } : MethodName)) ∈ gwl := gw_of (i := 984) (by decide +kernel) rfl
theorem wd_986 : (Cond.instanceMethod ({ cls := "FlowBoxes$Painter", name := "paintInside", desc := "(LFlowBoxes$Node;)V" } : MethodName)) ∈ gwl := gw_of (i := 986) (by decide +kernel) rfl
theorem wd_987 : (Cond.code ({ cls := "FlowBoxes$Painter", name := "paintInside", desc := "(LFlowBoxes$Node;)V" } : MethodName) prog_10_method_7_code (6 : Nat) (Option.none : Option FieldType)) ∈ gwl := gw_of (i := 987) (by decide +kernel) rfl
theorem wd_988 : (Cond.fieldLink "FlowBoxes$Painter" (55 : Nat) "FlowBoxes$Kind" "FLOATING" "LFlowBoxes$Kind;") ∈ gwl := gw_of (i := 988) (by decide +kernel) rfl
theorem wd_989 : (Cond.fieldLink "FlowBoxes$Painter" (60 : Nat) "FlowBoxes$Kind" "INLINE" "LFlowBoxes$Kind;") ∈ gwl := gw_of (i := 989) (by decide +kernel) rfl
theorem wd_990 : (Cond.methodLink "FlowBoxes$Painter" (63 : Nat) ({ cls := "FlowBoxes$Painter", name := "stepOf", desc := "(LFlowBoxes$Node;)I" } : MethodName)) ∈ gwl := gw_of (i := 990) (by decide +kernel) rfl
theorem wd_991 : (Cond.static ({ cls := "FlowBoxes$Painter", name := "stepOf", desc := "(LFlowBoxes$Node;)I" } : MethodName)) ∈ gwl := gw_of (i := 991) (by decide +kernel) rfl
theorem wd_992 : (Cond.code ({ cls := "FlowBoxes$Painter", name := "stepOf", desc := "(LFlowBoxes$Node;)I" } : MethodName) prog_10_method_8_code (1 : Nat) (Option.some FieldType.int)) ∈ gwl := gw_of (i := 992) (by decide +kernel) rfl
theorem wd_993 : (Cond.fieldLink "FlowBoxes$Painter" (67 : Nat) "FlowBoxes$1" "$SwitchMap$FlowBoxes$Kind" "[I") ∈ gwl := gw_of (i := 993) (by decide +kernel) rfl
theorem wd_994 : (Cond.methodLink "FlowBoxes$Painter" (72 : Nat) ({ cls := "FlowBoxes$Kind", name := "ordinal", desc := "()I" } : MethodName)) ∈ gwl := gw_of (i := 994) (by decide +kernel) rfl
theorem wd_995 : (Cond.fieldLink "FlowBoxes" (21 : Nat) "FlowBoxes" "nodes" "[LFlowBoxes$Node;") ∈ gwl := gw_of (i := 995) (by decide +kernel) rfl
theorem wd_996 : (Cond.fieldLink "FlowBoxes" (25 : Nat) "FlowBoxes" "root" "LFlowBoxes$Node;") ∈ gwl := gw_of (i := 996) (by decide +kernel) rfl
theorem wd_997 : (Cond.fieldLink "FlowBoxes" (41 : Nat) "FlowBoxes" "kept" "LFlowBoxes$Layout;") ∈ gwl := gw_of (i := 997) (by decide +kernel) rfl
theorem wd_998 : (Cond.fieldLink "FlowBoxes" (45 : Nat) "FlowBoxes" "fresh" "LFlowBoxes$Layout;") ∈ gwl := gw_of (i := 998) (by decide +kernel) rfl
theorem wd_999 : (Cond.fieldLink "FlowBoxes" (51 : Nat) "FlowBoxes" "painter" "LFlowBoxes$Painter;") ∈ gwl := gw_of (i := 999) (by decide +kernel) rfl
theorem wd_1000 : (Cond.fieldLink "FlowBoxes" (29 : Nat) "FlowBoxes" "made" "I") ∈ gwl := gw_of (i := 1000) (by decide +kernel) rfl
theorem wd_1001 : (Cond.fieldLink "FlowBoxes" (33 : Nat) "FlowBoxes" "pageWidth" "I") ∈ gwl := gw_of (i := 1001) (by decide +kernel) rfl
theorem wd_1002 : (Cond.fieldLink "FlowBoxes" (151 : Nat) "FlowBoxes" "turn" "I") ∈ gwl := gw_of (i := 1002) (by decide +kernel) rfl
theorem wd_1003 : (Cond.fieldLink "FlowBoxes" (62 : Nat) "FlowBoxes" "workDone" "I") ∈ gwl := gw_of (i := 1003) (by decide +kernel) rfl
theorem wd_1004 : (Cond.fieldLink "FlowBoxes" (59 : Nat) "FlowBoxes" "latestWork" "I") ∈ gwl := gw_of (i := 1004) (by decide +kernel) rfl
theorem wd_1026 : (Cond.methodLink "FlowBoxesLaw" (108 : Nat) ({ cls := "FlowBoxes", name := "page", desc := "(I)I" } : MethodName)) ∈ gwl := gw_of (i := 1026) (by decide +kernel) rfl
theorem wd_1027 : (Cond.instanceMethod ({ cls := "FlowBoxes", name := "page", desc := "(I)I" } : MethodName)) ∈ gwl := gw_of (i := 1027) (by decide +kernel) rfl
theorem wd_1028 : (Cond.selects "FlowBoxes" ({ cls := "FlowBoxes", name := "page", desc := "(I)I" } : MethodName) ({ cls := "FlowBoxes", name := "page", desc := "(I)I" } : MethodName)) ∈ gwl := gw_of (i := 1028) (by decide +kernel) rfl
theorem wd_1029 : (Cond.code ({ cls := "FlowBoxes", name := "page", desc := "(I)I" } : MethodName) prog_1_method_9_code (3 : Nat) (Option.some FieldType.int)) ∈ gwl := gw_of (i := 1029) (by decide +kernel) rfl
theorem wd_1030 : (Cond.classLink "FlowBoxes" (92 : Nat) "java/lang/IllegalArgumentException") ∈ gwl := gw_of (i := 1030) (by decide +kernel) rfl
theorem wd_1031 : (Cond.instantiable "java/lang/IllegalArgumentException" (6 : Nat)) ∈ gwl := gw_of (i := 1031) (by decide +kernel) rfl
theorem wd_1039 : (Cond.selects "java/lang/IllegalArgumentException" ({ cls := "java/lang/Throwable", name := "fillInStackTrace", desc := "(I)Ljava/lang/Throwable;" } : MethodName) ({ cls := "java/lang/Throwable", name := "fillInStackTrace", desc := "(I)Ljava/lang/Throwable;" } : MethodName)) ∈ gwl := gw_of (i := 1039) (by decide +kernel) rfl
theorem wd_1040 : (Cond.selects "java/lang/IllegalArgumentException" ({ cls := "java/lang/Throwable", name := "fillInStackTrace", desc := "()Ljava/lang/Throwable;" } : MethodName) ({ cls := "java/lang/Throwable", name := "fillInStackTrace", desc := "()Ljava/lang/Throwable;" } : MethodName)) ∈ gwl := gw_of (i := 1040) (by decide +kernel) rfl
theorem wd_1053 : (Cond.instanceMethod ({ cls := "java/lang/Throwable", name := "<init>", desc := "()V" } : MethodName)) ∈ gwl := gw_of (i := 1053) (by decide +kernel) rfl
theorem wd_1054 : (Cond.code ({ cls := "java/lang/Throwable", name := "<init>", desc := "()V" } : MethodName) prog_25_method_1_code (1 : Nat) (Option.none : Option FieldType)) ∈ gwl := gw_of (i := 1054) (by decide +kernel) rfl
theorem wd_1061 : (Cond.instanceMethod ({ cls := "java/lang/Throwable", name := "fillInStackTrace", desc := "()Ljava/lang/Throwable;" } : MethodName)) ∈ gwl := gw_of (i := 1061) (by decide +kernel) rfl
theorem wd_1062 : (Cond.sameMethod "java/lang/Throwable" "java/lang/Throwable" "fillInStackTrace" "()Ljava/lang/Throwable;") ∈ gwl := gw_of (i := 1062) (by decide +kernel) rfl
theorem wd_1063 : (Cond.selects "java/lang/IllegalStateException" ({ cls := "java/lang/Throwable", name := "fillInStackTrace", desc := "()Ljava/lang/Throwable;" } : MethodName) ({ cls := "java/lang/Throwable", name := "fillInStackTrace", desc := "()Ljava/lang/Throwable;" } : MethodName)) ∈ gwl := gw_of (i := 1063) (by decide +kernel) rfl
theorem wd_1064 : (Cond.selects "java/lang/IndexOutOfBoundsException" ({ cls := "java/lang/Throwable", name := "fillInStackTrace", desc := "()Ljava/lang/Throwable;" } : MethodName) ({ cls := "java/lang/Throwable", name := "fillInStackTrace", desc := "()Ljava/lang/Throwable;" } : MethodName)) ∈ gwl := gw_of (i := 1064) (by decide +kernel) rfl
theorem wd_1068 : (Cond.instanceMethod ({ cls := "java/lang/Throwable", name := "fillInStackTrace", desc := "(I)Ljava/lang/Throwable;" } : MethodName)) ∈ gwl := gw_of (i := 1068) (by decide +kernel) rfl
theorem wd_1069 : (Cond.instantiable "java/lang/Throwable" (6 : Nat)) ∈ gwl := gw_of (i := 1069) (by decide +kernel) rfl
theorem wd_1071 : (Cond.methodLink "FlowBoxes" (94 : Nat) ({ cls := "java/lang/IllegalArgumentException", name := "<init>", desc := "()V" } : MethodName)) ∈ gwl := gw_of (i := 1071) (by decide +kernel) rfl
theorem wd_1072 : (Cond.instanceMethod ({ cls := "java/lang/IllegalArgumentException", name := "<init>", desc := "()V" } : MethodName)) ∈ gwl := gw_of (i := 1072) (by decide +kernel) rfl
theorem wd_1073 : (Cond.code ({ cls := "java/lang/IllegalArgumentException", name := "<init>", desc := "()V" } : MethodName) prog_20_method_1_code (1 : Nat) (Option.none : Option FieldType)) ∈ gwl := gw_of (i := 1073) (by decide +kernel) rfl
theorem wd_1075 : (Cond.instanceMethod ({ cls := "java/lang/RuntimeException", name := "<init>", desc := "()V" } : MethodName)) ∈ gwl := gw_of (i := 1075) (by decide +kernel) rfl
theorem wd_1076 : (Cond.code ({ cls := "java/lang/RuntimeException", name := "<init>", desc := "()V" } : MethodName) prog_24_method_1_code (1 : Nat) (Option.none : Option FieldType)) ∈ gwl := gw_of (i := 1076) (by decide +kernel) rfl
theorem wd_1078 : (Cond.instanceMethod ({ cls := "java/lang/Exception", name := "<init>", desc := "()V" } : MethodName)) ∈ gwl := gw_of (i := 1078) (by decide +kernel) rfl
theorem wd_1079 : (Cond.code ({ cls := "java/lang/Exception", name := "<init>", desc := "()V" } : MethodName) prog_19_method_1_code (1 : Nat) (Option.none : Option FieldType)) ∈ gwl := gw_of (i := 1079) (by decide +kernel) rfl
theorem wd_1093 : (Cond.methodLink "FlowBoxes" (89 : Nat) ({ cls := "FlowBoxes", name := "layAgain", desc := "()V" } : MethodName)) ∈ gwl := gw_of (i := 1093) (by decide +kernel) rfl
theorem wd_1095 : (Cond.instanceMethod ({ cls := "FlowBoxes", name := "layAgain", desc := "()V" } : MethodName)) ∈ gwl := gw_of (i := 1095) (by decide +kernel) rfl
theorem wd_1096 : (Cond.code ({ cls := "FlowBoxes", name := "layAgain", desc := "()V" } : MethodName) prog_1_method_39_code (1 : Nat) (Option.none : Option FieldType)) ∈ gwl := gw_of (i := 1096) (by decide +kernel) rfl
theorem wd_1097 : (Cond.methodLink "FlowBoxesLaw" (100 : Nat) ({ cls := "FlowBoxesLaw", name := "cell", desc := "([II)I" } : MethodName)) ∈ gwl := gw_of (i := 1097) (by decide +kernel) rfl
theorem wd_1098 : (Cond.static ({ cls := "FlowBoxesLaw", name := "cell", desc := "([II)I" } : MethodName)) ∈ gwl := gw_of (i := 1098) (by decide +kernel) rfl
theorem wd_1099 : (Cond.code ({ cls := "FlowBoxesLaw", name := "cell", desc := "([II)I" } : MethodName) method_2_code (2 : Nat) (Option.some FieldType.int)) ∈ gwl := gw_of (i := 1099) (by decide +kernel) rfl
theorem wd_1100 : (Cond.constant "FlowBoxesLaw" (7 : Nat) (53819 : Int32)) ∈ gwl := gw_of (i := 1100) (by decide +kernel) rfl
theorem wd_1101 : (Cond.constant "FlowBoxesLaw" (8 : Nat) (2047065 : Int32)) ∈ gwl := gw_of (i := 1101) (by decide +kernel) rfl
theorem wd_1102 : (Cond.methodLink "FlowBoxesLaw" (81 : Nat) ({ cls := "FlowBoxesLaw", name := "low", desc := "(II)I" } : MethodName)) ∈ gwl := gw_of (i := 1102) (by decide +kernel) rfl
theorem wd_1103 : (Cond.static ({ cls := "FlowBoxesLaw", name := "low", desc := "(II)I" } : MethodName)) ∈ gwl := gw_of (i := 1103) (by decide +kernel) rfl
theorem wd_1104 : (Cond.code ({ cls := "FlowBoxesLaw", name := "low", desc := "(II)I" } : MethodName) method_3_code (2 : Nat) (Option.some FieldType.int)) ∈ gwl := gw_of (i := 1104) (by decide +kernel) rfl
theorem wd_1105 : (Cond.constant "FlowBoxesLaw" (9 : Nat) (2147483647 : Int32)) ∈ gwl := gw_of (i := 1105) (by decide +kernel) rfl
theorem wd_1106 : (Cond.methodLink "FlowBoxesLaw" (115 : Nat) ({ cls := "FlowBoxesLaw", name := "lays", desc := "([I[I[I[I[I[I[I[I[I)V" } : MethodName)) ∈ gwl := gw_of (i := 1106) (by decide +kernel) rfl
theorem wd_1107 : (Cond.static ({ cls := "FlowBoxesLaw", name := "lays", desc := "([I[I[I[I[I[I[I[I[I)V" } : MethodName)) ∈ gwl := gw_of (i := 1107) (by decide +kernel) rfl
theorem wd_1108 : (Cond.code ({ cls := "FlowBoxesLaw", name := "lays", desc := "([I[I[I[I[I[I[I[I[I)V" } : MethodName) method_13_code (13 : Nat) (Option.none : Option FieldType)) ∈ gwl := gw_of (i := 1108) (by decide +kernel) rfl
theorem wd_1109 : (Cond.methodLink "FlowBoxesLaw" (28 : Nat) ({ cls := "FlowBoxesLaw", name := "next", desc := "(II[I[I)I" } : MethodName)) ∈ gwl := gw_of (i := 1109) (by decide +kernel) rfl
theorem wd_1110 : (Cond.static ({ cls := "FlowBoxesLaw", name := "next", desc := "(II[I[I)I" } : MethodName)) ∈ gwl := gw_of (i := 1110) (by decide +kernel) rfl
theorem wd_1111 : (Cond.code ({ cls := "FlowBoxesLaw", name := "next", desc := "(II[I[I)I" } : MethodName) method_6_code (5 : Nat) (Option.some FieldType.int)) ∈ gwl := gw_of (i := 1111) (by decide +kernel) rfl
theorem wd_1112 : (Cond.methodLink "FlowBoxesLaw" (36 : Nat) ({ cls := "FlowBoxesLaw", name := "runs", desc := "(II[I[I[I[I[I[I)I" } : MethodName)) ∈ gwl := gw_of (i := 1112) (by decide +kernel) rfl
theorem wd_1113 : (Cond.static ({ cls := "FlowBoxesLaw", name := "runs", desc := "(II[I[I[I[I[I[I)I" } : MethodName)) ∈ gwl := gw_of (i := 1113) (by decide +kernel) rfl
theorem wd_1114 : (Cond.code ({ cls := "FlowBoxesLaw", name := "runs", desc := "(II[I[I[I[I[I[I)I" } : MethodName) method_12_code (18 : Nat) (Option.some FieldType.int)) ∈ gwl := gw_of (i := 1114) (by decide +kernel) rfl
theorem wd_1115 : (Cond.methodLink "FlowBoxesLaw" (16 : Nat) ({ cls := "FlowBoxesLaw", name := "ends", desc := "([I[I)V" } : MethodName)) ∈ gwl := gw_of (i := 1115) (by decide +kernel) rfl
theorem wd_1116 : (Cond.static ({ cls := "FlowBoxesLaw", name := "ends", desc := "([I[I)V" } : MethodName)) ∈ gwl := gw_of (i := 1116) (by decide +kernel) rfl
theorem wd_1117 : (Cond.code ({ cls := "FlowBoxesLaw", name := "ends", desc := "([I[I)V" } : MethodName) method_5_code (3 : Nat) (Option.none : Option FieldType)) ∈ gwl := gw_of (i := 1117) (by decide +kernel) rfl
theorem wd_1118 : (Cond.methodLink "FlowBoxesLaw" (32 : Nat) ({ cls := "FlowBoxesLaw", name := "shuts", desc := "(IIII[I[I)V" } : MethodName)) ∈ gwl := gw_of (i := 1118) (by decide +kernel) rfl
theorem wd_1119 : (Cond.static ({ cls := "FlowBoxesLaw", name := "shuts", desc := "(IIII[I[I)V" } : MethodName)) ∈ gwl := gw_of (i := 1119) (by decide +kernel) rfl
theorem wd_1120 : (Cond.code ({ cls := "FlowBoxesLaw", name := "shuts", desc := "(IIII[I[I)V" } : MethodName) method_11_code (6 : Nat) (Option.none : Option FieldType)) ∈ gwl := gw_of (i := 1120) (by decide +kernel) rfl
theorem wd_1121 : (Cond.methodLink "FlowBoxesLaw" (24 : Nat) ({ cls := "FlowBoxesLaw", name := "inside", desc := "(I[I[I)I" } : MethodName)) ∈ gwl := gw_of (i := 1121) (by decide +kernel) rfl
theorem wd_1122 : (Cond.static ({ cls := "FlowBoxesLaw", name := "inside", desc := "(I[I[I)I" } : MethodName)) ∈ gwl := gw_of (i := 1122) (by decide +kernel) rfl
theorem wd_1123 : (Cond.code ({ cls := "FlowBoxesLaw", name := "inside", desc := "(I[I[I)I" } : MethodName) method_8_code (3 : Nat) (Option.some FieldType.int)) ∈ gwl := gw_of (i := 1123) (by decide +kernel) rfl
theorem wd_1124 : (Cond.methodLink "FlowBoxesLaw" (40 : Nat) ({ cls := "FlowBoxesLaw", name := "enters", desc := "(I[I[I[I[I[I[I[I)V" } : MethodName)) ∈ gwl := gw_of (i := 1124) (by decide +kernel) rfl
theorem wd_1125 : (Cond.static ({ cls := "FlowBoxesLaw", name := "enters", desc := "(I[I[I[I[I[I[I[I)V" } : MethodName)) ∈ gwl := gw_of (i := 1125) (by decide +kernel) rfl
theorem wd_1126 : (Cond.code ({ cls := "FlowBoxesLaw", name := "enters", desc := "(I[I[I[I[I[I[I[I)V" } : MethodName) method_9_code (10 : Nat) (Option.none : Option FieldType)) ∈ gwl := gw_of (i := 1126) (by decide +kernel) rfl
theorem wd_1127 : (Cond.methodLink "FlowBoxesLaw" (10 : Nat) ({ cls := "FlowBoxesLaw", name := "pends", desc := "(I[I)V" } : MethodName)) ∈ gwl := gw_of (i := 1127) (by decide +kernel) rfl
theorem wd_1128 : (Cond.static ({ cls := "FlowBoxesLaw", name := "pends", desc := "(I[I)V" } : MethodName)) ∈ gwl := gw_of (i := 1128) (by decide +kernel) rfl
theorem wd_1129 : (Cond.code ({ cls := "FlowBoxesLaw", name := "pends", desc := "(I[I)V" } : MethodName) method_4_code (2 : Nat) (Option.none : Option FieldType)) ∈ gwl := gw_of (i := 1129) (by decide +kernel) rfl
theorem wd_1130 : (Cond.methodLink "FlowBoxesLaw" (20 : Nat) ({ cls := "FlowBoxesLaw", name := "known", desc := "(I[I[I[I)I" } : MethodName)) ∈ gwl := gw_of (i := 1130) (by decide +kernel) rfl
theorem wd_1131 : (Cond.static ({ cls := "FlowBoxesLaw", name := "known", desc := "(I[I[I[I)I" } : MethodName)) ∈ gwl := gw_of (i := 1131) (by decide +kernel) rfl
theorem wd_1132 : (Cond.code ({ cls := "FlowBoxesLaw", name := "known", desc := "(I[I[I[I)I" } : MethodName) method_7_code (5 : Nat) (Option.some FieldType.int)) ∈ gwl := gw_of (i := 1132) (by decide +kernel) rfl
theorem wd_1133 : (Cond.methodLink "FlowBoxesLaw" (44 : Nat) ({ cls := "FlowBoxesLaw", name := "leaves", desc := "(I[I[I[I[I[I)V" } : MethodName)) ∈ gwl := gw_of (i := 1133) (by decide +kernel) rfl
theorem wd_1134 : (Cond.static ({ cls := "FlowBoxesLaw", name := "leaves", desc := "(I[I[I[I[I[I)V" } : MethodName)) ∈ gwl := gw_of (i := 1134) (by decide +kernel) rfl
theorem wd_1135 : (Cond.code ({ cls := "FlowBoxesLaw", name := "leaves", desc := "(I[I[I[I[I[I)V" } : MethodName) method_10_code (9 : Nat) (Option.none : Option FieldType)) ∈ gwl := gw_of (i := 1135) (by decide +kernel) rfl
theorem wd_1136 : (Cond.methodLink "FlowBoxesLaw" (119 : Nat) ({ cls := "FlowBoxesLaw", name := "same", desc := "(LFlowBoxes;[I[I[I[I[I)Z" } : MethodName)) ∈ gwl := gw_of (i := 1136) (by decide +kernel) rfl
theorem wd_1137 : (Cond.static ({ cls := "FlowBoxesLaw", name := "same", desc := "(LFlowBoxes;[I[I[I[I[I)Z" } : MethodName)) ∈ gwl := gw_of (i := 1137) (by decide +kernel) rfl
theorem wd_1138 : (Cond.code ({ cls := "FlowBoxesLaw", name := "same", desc := "(LFlowBoxes;[I[I[I[I[I)Z" } : MethodName) method_14_code (10 : Nat) (Option.some FieldType.boolean)) ∈ gwl := gw_of (i := 1138) (by decide +kernel) rfl
theorem wd_1139 : (Cond.methodLink "FlowBoxesLaw" (48 : Nat) ({ cls := "FlowBoxes", name := "height", desc := "(I)I" } : MethodName)) ∈ gwl := gw_of (i := 1139) (by decide +kernel) rfl
theorem wd_1140 : (Cond.instanceMethod ({ cls := "FlowBoxes", name := "height", desc := "(I)I" } : MethodName)) ∈ gwl := gw_of (i := 1140) (by decide +kernel) rfl
theorem wd_1141 : (Cond.selects "FlowBoxes" ({ cls := "FlowBoxes", name := "height", desc := "(I)I" } : MethodName) ({ cls := "FlowBoxes", name := "height", desc := "(I)I" } : MethodName)) ∈ gwl := gw_of (i := 1141) (by decide +kernel) rfl
theorem wd_1142 : (Cond.code ({ cls := "FlowBoxes", name := "height", desc := "(I)I" } : MethodName) prog_1_method_13_code (2 : Nat) (Option.some FieldType.int)) ∈ gwl := gw_of (i := 1142) (by decide +kernel) rfl
theorem wd_1143 : (Cond.methodLink "FlowBoxes" (141 : Nat) ({ cls := "FlowBoxes", name := "placedAt", desc := "(I)LFlowBoxes$Node;" } : MethodName)) ∈ gwl := gw_of (i := 1143) (by decide +kernel) rfl
theorem wd_1145 : (Cond.instanceMethod ({ cls := "FlowBoxes", name := "placedAt", desc := "(I)LFlowBoxes$Node;" } : MethodName)) ∈ gwl := gw_of (i := 1145) (by decide +kernel) rfl
theorem wd_1146 : (Cond.code ({ cls := "FlowBoxes", name := "placedAt", desc := "(I)LFlowBoxes$Node;" } : MethodName) prog_1_method_29_code (4 : Nat) (Option.some (FieldType.object "FlowBoxes$Node"))) ∈ gwl := gw_of (i := 1146) (by decide +kernel) rfl
theorem wd_1147 : (Cond.methodLink "FlowBoxes" (111 : Nat) ({ cls := "FlowBoxes", name := "nodeAt", desc := "(I)LFlowBoxes$Node;" } : MethodName)) ∈ gwl := gw_of (i := 1147) (by decide +kernel) rfl
theorem wd_1149 : (Cond.instanceMethod ({ cls := "FlowBoxes", name := "nodeAt", desc := "(I)LFlowBoxes$Node;" } : MethodName)) ∈ gwl := gw_of (i := 1149) (by decide +kernel) rfl
theorem wd_1150 : (Cond.code ({ cls := "FlowBoxes", name := "nodeAt", desc := "(I)LFlowBoxes$Node;" } : MethodName) prog_1_method_26_code (2 : Nat) (Option.some (FieldType.object "FlowBoxes$Node"))) ∈ gwl := gw_of (i := 1150) (by decide +kernel) rfl
theorem wd_1151 : (Cond.classLink "FlowBoxes" (76 : Nat) "java/lang/IndexOutOfBoundsException") ∈ gwl := gw_of (i := 1151) (by decide +kernel) rfl
theorem wd_1152 : (Cond.instantiable "java/lang/IndexOutOfBoundsException" (6 : Nat)) ∈ gwl := gw_of (i := 1152) (by decide +kernel) rfl
theorem wd_1154 : (Cond.selects "java/lang/IndexOutOfBoundsException" ({ cls := "java/lang/Throwable", name := "fillInStackTrace", desc := "(I)Ljava/lang/Throwable;" } : MethodName) ({ cls := "java/lang/Throwable", name := "fillInStackTrace", desc := "(I)Ljava/lang/Throwable;" } : MethodName)) ∈ gwl := gw_of (i := 1154) (by decide +kernel) rfl
theorem wd_1160 : (Cond.methodLink "FlowBoxes" (78 : Nat) ({ cls := "java/lang/IndexOutOfBoundsException", name := "<init>", desc := "()V" } : MethodName)) ∈ gwl := gw_of (i := 1160) (by decide +kernel) rfl
theorem wd_1161 : (Cond.instanceMethod ({ cls := "java/lang/IndexOutOfBoundsException", name := "<init>", desc := "()V" } : MethodName)) ∈ gwl := gw_of (i := 1161) (by decide +kernel) rfl
theorem wd_1162 : (Cond.code ({ cls := "java/lang/IndexOutOfBoundsException", name := "<init>", desc := "()V" } : MethodName) prog_22_method_1_code (1 : Nat) (Option.none : Option FieldType)) ∈ gwl := gw_of (i := 1162) (by decide +kernel) rfl
theorem wd_1167 : (Cond.fieldLink "FlowBoxes" (170 : Nat) "FlowBoxes$Kind" "OUT" "LFlowBoxes$Kind;") ∈ gwl := gw_of (i := 1167) (by decide +kernel) rfl
theorem wd_1168 : (Cond.fieldLink "FlowBoxes" (175 : Nat) "FlowBoxes$Kind" "SPAN" "LFlowBoxes$Kind;") ∈ gwl := gw_of (i := 1168) (by decide +kernel) rfl
theorem wd_1169 : (Cond.classLink "FlowBoxes" (83 : Nat) "java/lang/IllegalStateException") ∈ gwl := gw_of (i := 1169) (by decide +kernel) rfl
theorem wd_1170 : (Cond.instantiable "java/lang/IllegalStateException" (6 : Nat)) ∈ gwl := gw_of (i := 1170) (by decide +kernel) rfl
theorem wd_1172 : (Cond.selects "java/lang/IllegalStateException" ({ cls := "java/lang/Throwable", name := "fillInStackTrace", desc := "(I)Ljava/lang/Throwable;" } : MethodName) ({ cls := "java/lang/Throwable", name := "fillInStackTrace", desc := "(I)Ljava/lang/Throwable;" } : MethodName)) ∈ gwl := gw_of (i := 1172) (by decide +kernel) rfl
theorem wd_1178 : (Cond.methodLink "FlowBoxes" (85 : Nat) ({ cls := "java/lang/IllegalStateException", name := "<init>", desc := "()V" } : MethodName)) ∈ gwl := gw_of (i := 1178) (by decide +kernel) rfl
theorem wd_1179 : (Cond.instanceMethod ({ cls := "java/lang/IllegalStateException", name := "<init>", desc := "()V" } : MethodName)) ∈ gwl := gw_of (i := 1179) (by decide +kernel) rfl
theorem wd_1180 : (Cond.code ({ cls := "java/lang/IllegalStateException", name := "<init>", desc := "()V" } : MethodName) prog_21_method_1_code (1 : Nat) (Option.none : Option FieldType)) ∈ gwl := gw_of (i := 1180) (by decide +kernel) rfl
theorem wd_1184 : (Cond.methodLink "FlowBoxes" (144 : Nat) ({ cls := "FlowBoxes", name := "sideOf", desc := "(LFlowBoxes$Node;ILFlowBoxes$Layout;)J" } : MethodName)) ∈ gwl := gw_of (i := 1184) (by decide +kernel) rfl
theorem wd_1185 : (Cond.static ({ cls := "FlowBoxes", name := "sideOf", desc := "(LFlowBoxes$Node;ILFlowBoxes$Layout;)J" } : MethodName)) ∈ gwl := gw_of (i := 1185) (by decide +kernel) rfl
theorem wd_1186 : (Cond.code ({ cls := "FlowBoxes", name := "sideOf", desc := "(LFlowBoxes$Node;ILFlowBoxes$Layout;)J" } : MethodName) prog_1_method_40_code (4 : Nat) (Option.some FieldType.long)) ∈ gwl := gw_of (i := 1186) (by decide +kernel) rfl
theorem wd_1187 : (Cond.methodLink "FlowBoxes" (229 : Nat) ({ cls := "FlowBoxes", name := "pieceSide", desc := "(LFlowBoxes$Node;IILFlowBoxes$Layout;)J" } : MethodName)) ∈ gwl := gw_of (i := 1187) (by decide +kernel) rfl
theorem wd_1188 : (Cond.static ({ cls := "FlowBoxes", name := "pieceSide", desc := "(LFlowBoxes$Node;IILFlowBoxes$Layout;)J" } : MethodName)) ∈ gwl := gw_of (i := 1188) (by decide +kernel) rfl
theorem wd_1189 : (Cond.code ({ cls := "FlowBoxes", name := "pieceSide", desc := "(LFlowBoxes$Node;IILFlowBoxes$Layout;)J" } : MethodName) prog_1_method_41_code (7 : Nat) (Option.some FieldType.long)) ∈ gwl := gw_of (i := 1189) (by decide +kernel) rfl
theorem wd_1196 : (Cond.methodLink "FlowBoxesLaw" (54 : Nat) ({ cls := "FlowBoxes", name := "width", desc := "(I)I" } : MethodName)) ∈ gwl := gw_of (i := 1196) (by decide +kernel) rfl
theorem wd_1197 : (Cond.instanceMethod ({ cls := "FlowBoxes", name := "width", desc := "(I)I" } : MethodName)) ∈ gwl := gw_of (i := 1197) (by decide +kernel) rfl
theorem wd_1198 : (Cond.selects "FlowBoxes" ({ cls := "FlowBoxes", name := "width", desc := "(I)I" } : MethodName) ({ cls := "FlowBoxes", name := "width", desc := "(I)I" } : MethodName)) ∈ gwl := gw_of (i := 1198) (by decide +kernel) rfl
theorem wd_1199 : (Cond.code ({ cls := "FlowBoxes", name := "width", desc := "(I)I" } : MethodName) prog_1_method_12_code (2 : Nat) (Option.some FieldType.int)) ∈ gwl := gw_of (i := 1199) (by decide +kernel) rfl
theorem wd_1200 : (Cond.methodLink "FlowBoxesLaw" (57 : Nat) ({ cls := "FlowBoxes", name := "painted", desc := "()I" } : MethodName)) ∈ gwl := gw_of (i := 1200) (by decide +kernel) rfl
theorem wd_1201 : (Cond.instanceMethod ({ cls := "FlowBoxes", name := "painted", desc := "()I" } : MethodName)) ∈ gwl := gw_of (i := 1201) (by decide +kernel) rfl
theorem wd_1202 : (Cond.selects "FlowBoxes" ({ cls := "FlowBoxes", name := "painted", desc := "()I" } : MethodName) ({ cls := "FlowBoxes", name := "painted", desc := "()I" } : MethodName)) ∈ gwl := gw_of (i := 1202) (by decide +kernel) rfl
theorem wd_1203 : (Cond.code ({ cls := "FlowBoxes", name := "painted", desc := "()I" } : MethodName) prog_1_method_21_code (1 : Nat) (Option.some FieldType.int)) ∈ gwl := gw_of (i := 1203) (by decide +kernel) rfl
theorem wd_1204 : (Cond.methodLink "FlowBoxesLaw" (61 : Nat) ({ cls := "FlowBoxes", name := "x", desc := "(I)I" } : MethodName)) ∈ gwl := gw_of (i := 1204) (by decide +kernel) rfl
theorem wd_1205 : (Cond.instanceMethod ({ cls := "FlowBoxes", name := "x", desc := "(I)I" } : MethodName)) ∈ gwl := gw_of (i := 1205) (by decide +kernel) rfl
theorem wd_1206 : (Cond.selects "FlowBoxes" ({ cls := "FlowBoxes", name := "x", desc := "(I)I" } : MethodName) ({ cls := "FlowBoxes", name := "x", desc := "(I)I" } : MethodName)) ∈ gwl := gw_of (i := 1206) (by decide +kernel) rfl
theorem wd_1207 : (Cond.code ({ cls := "FlowBoxes", name := "x", desc := "(I)I" } : MethodName) prog_1_method_10_code (2 : Nat) (Option.some FieldType.int)) ∈ gwl := gw_of (i := 1207) (by decide +kernel) rfl
theorem wd_1208 : (Cond.methodLink "FlowBoxesLaw" (64 : Nat) ({ cls := "FlowBoxes", name := "y", desc := "(I)I" } : MethodName)) ∈ gwl := gw_of (i := 1208) (by decide +kernel) rfl
theorem wd_1209 : (Cond.instanceMethod ({ cls := "FlowBoxes", name := "y", desc := "(I)I" } : MethodName)) ∈ gwl := gw_of (i := 1209) (by decide +kernel) rfl
theorem wd_1210 : (Cond.selects "FlowBoxes" ({ cls := "FlowBoxes", name := "y", desc := "(I)I" } : MethodName) ({ cls := "FlowBoxes", name := "y", desc := "(I)I" } : MethodName)) ∈ gwl := gw_of (i := 1210) (by decide +kernel) rfl
theorem wd_1211 : (Cond.code ({ cls := "FlowBoxes", name := "y", desc := "(I)I" } : MethodName) prog_1_method_11_code (2 : Nat) (Option.some FieldType.int)) ∈ gwl := gw_of (i := 1211) (by decide +kernel) rfl
theorem wd_1212 : (Cond.methodLink "FlowBoxesLaw" (67 : Nat) ({ cls := "FlowBoxes", name := "bars", desc := "(I)I" } : MethodName)) ∈ gwl := gw_of (i := 1212) (by decide +kernel) rfl
theorem wd_1213 : (Cond.instanceMethod ({ cls := "FlowBoxes", name := "bars", desc := "(I)I" } : MethodName)) ∈ gwl := gw_of (i := 1213) (by decide +kernel) rfl
theorem wd_1214 : (Cond.selects "FlowBoxes" ({ cls := "FlowBoxes", name := "bars", desc := "(I)I" } : MethodName) ({ cls := "FlowBoxes", name := "bars", desc := "(I)I" } : MethodName)) ∈ gwl := gw_of (i := 1214) (by decide +kernel) rfl
theorem wd_1215 : (Cond.code ({ cls := "FlowBoxes", name := "bars", desc := "(I)I" } : MethodName) prog_1_method_17_code (3 : Nat) (Option.some FieldType.int)) ∈ gwl := gw_of (i := 1215) (by decide +kernel) rfl
theorem wd_1216 : (Cond.methodLink "FlowBoxes" (68 : Nat) ({ cls := "FlowBoxes", name := "boxAt", desc := "(I)LFlowBoxes$Node;" } : MethodName)) ∈ gwl := gw_of (i := 1216) (by decide +kernel) rfl
theorem wd_1218 : (Cond.instanceMethod ({ cls := "FlowBoxes", name := "boxAt", desc := "(I)LFlowBoxes$Node;" } : MethodName)) ∈ gwl := gw_of (i := 1218) (by decide +kernel) rfl
theorem wd_1219 : (Cond.code ({ cls := "FlowBoxes", name := "boxAt", desc := "(I)LFlowBoxes$Node;" } : MethodName) prog_1_method_27_code (3 : Nat) (Option.some (FieldType.object "FlowBoxes$Node"))) ∈ gwl := gw_of (i := 1219) (by decide +kernel) rfl
theorem wd_1220 : (Cond.methodLink "FlowBoxesLaw" (70 : Nat) ({ cls := "FlowBoxes", name := "fromNothing", desc := "(II)I" } : MethodName)) ∈ gwl := gw_of (i := 1220) (by decide +kernel) rfl
theorem wd_1221 : (Cond.instanceMethod ({ cls := "FlowBoxes", name := "fromNothing", desc := "(II)I" } : MethodName)) ∈ gwl := gw_of (i := 1221) (by decide +kernel) rfl
theorem wd_1222 : (Cond.selects "FlowBoxes" ({ cls := "FlowBoxes", name := "fromNothing", desc := "(II)I" } : MethodName) ({ cls := "FlowBoxes", name := "fromNothing", desc := "(II)I" } : MethodName)) ∈ gwl := gw_of (i := 1222) (by decide +kernel) rfl
theorem wd_1223 : (Cond.code ({ cls := "FlowBoxes", name := "fromNothing", desc := "(II)I" } : MethodName) prog_1_method_14_code (4 : Nat) (Option.some FieldType.int)) ∈ gwl := gw_of (i := 1223) (by decide +kernel) rfl
theorem wd_1226 : (Cond.instanceMethod ({ cls := "FlowBoxes$Layout", name := "forgetAll", desc := "(LFlowBoxes$Node;)V" } : MethodName)) ∈ gwl := gw_of (i := 1226) (by decide +kernel) rfl
theorem wd_1227 : (Cond.code ({ cls := "FlowBoxes$Layout", name := "forgetAll", desc := "(LFlowBoxes$Node;)V" } : MethodName) prog_6_method_3_code (3 : Nat) (Option.none : Option FieldType)) ∈ gwl := gw_of (i := 1227) (by decide +kernel) rfl
theorem wd_1228 : (Cond.methodLink "FlowBoxesLaw" (74 : Nat) ({ cls := "FlowBoxes", name := "line", desc := "(III)I" } : MethodName)) ∈ gwl := gw_of (i := 1228) (by decide +kernel) rfl
theorem wd_1229 : (Cond.instanceMethod ({ cls := "FlowBoxes", name := "line", desc := "(III)I" } : MethodName)) ∈ gwl := gw_of (i := 1229) (by decide +kernel) rfl
theorem wd_1230 : (Cond.selects "FlowBoxes" ({ cls := "FlowBoxes", name := "line", desc := "(III)I" } : MethodName) ({ cls := "FlowBoxes", name := "line", desc := "(III)I" } : MethodName)) ∈ gwl := gw_of (i := 1230) (by decide +kernel) rfl
theorem wd_1231 : (Cond.code ({ cls := "FlowBoxes", name := "line", desc := "(III)I" } : MethodName) prog_1_method_19_code (7 : Nat) (Option.some FieldType.int)) ∈ gwl := gw_of (i := 1231) (by decide +kernel) rfl
theorem wd_1234 : (Cond.instanceMethod ({ cls := "FlowBoxes$Node", name := "holdsLines", desc := "()Z" } : MethodName)) ∈ gwl := gw_of (i := 1234) (by decide +kernel) rfl
theorem wd_1235 : (Cond.code ({ cls := "FlowBoxes$Node", name := "holdsLines", desc := "()Z" } : MethodName) prog_9_method_4_code (1 : Nat) (Option.some FieldType.boolean)) ∈ gwl := gw_of (i := 1235) (by decide +kernel) rfl
theorem wd_1236 : (Cond.methodLink "FlowBoxes" (203 : Nat) ({ cls := "FlowBoxes", name := "lineAt", desc := "(LFlowBoxes$Node;I)LFlowBoxes$Line;" } : MethodName)) ∈ gwl := gw_of (i := 1236) (by decide +kernel) rfl
theorem wd_1237 : (Cond.static ({ cls := "FlowBoxes", name := "lineAt", desc := "(LFlowBoxes$Node;I)LFlowBoxes$Line;" } : MethodName)) ∈ gwl := gw_of (i := 1237) (by decide +kernel) rfl
theorem wd_1238 : (Cond.code ({ cls := "FlowBoxes", name := "lineAt", desc := "(LFlowBoxes$Node;I)LFlowBoxes$Line;" } : MethodName) prog_1_method_31_code (4 : Nat) (Option.some (FieldType.object "FlowBoxes$Line"))) ∈ gwl := gw_of (i := 1238) (by decide +kernel) rfl
theorem wd_1239 : (Cond.methodLink "FlowBoxesLaw" (78 : Nat) ({ cls := "FlowBoxes", name := "lines", desc := "(I)I" } : MethodName)) ∈ gwl := gw_of (i := 1239) (by decide +kernel) rfl
theorem wd_1240 : (Cond.instanceMethod ({ cls := "FlowBoxes", name := "lines", desc := "(I)I" } : MethodName)) ∈ gwl := gw_of (i := 1240) (by decide +kernel) rfl
theorem wd_1241 : (Cond.selects "FlowBoxes" ({ cls := "FlowBoxes", name := "lines", desc := "(I)I" } : MethodName) ({ cls := "FlowBoxes", name := "lines", desc := "(I)I" } : MethodName)) ∈ gwl := gw_of (i := 1241) (by decide +kernel) rfl
theorem wd_1242 : (Cond.code ({ cls := "FlowBoxes", name := "lines", desc := "(I)I" } : MethodName) prog_1_method_18_code (5 : Nat) (Option.some FieldType.int)) ∈ gwl := gw_of (i := 1242) (by decide +kernel) rfl
theorem wd_1243 : (Cond.methodLink "FlowBoxesLaw" (104 : Nat) ({ cls := "FlowBoxesLaw", name := "makes", desc := "(LFlowBoxes;I[I[I[I[I)Z" } : MethodName)) ∈ gwl := gw_of (i := 1243) (by decide +kernel) rfl
theorem wd_1244 : (Cond.static ({ cls := "FlowBoxesLaw", name := "makes", desc := "(LFlowBoxes;I[I[I[I[I)Z" } : MethodName)) ∈ gwl := gw_of (i := 1244) (by decide +kernel) rfl
theorem wd_1245 : (Cond.code ({ cls := "FlowBoxesLaw", name := "makes", desc := "(LFlowBoxes;I[I[I[I[I)Z" } : MethodName) method_15_code (11 : Nat) (Option.some FieldType.boolean)) ∈ gwl := gw_of (i := 1245) (by decide +kernel) rfl
theorem wd_1246 : (Cond.methodLink "FlowBoxesLaw" (84 : Nat) ({ cls := "FlowBoxes", name := "children", desc := "(I)I" } : MethodName)) ∈ gwl := gw_of (i := 1246) (by decide +kernel) rfl
theorem wd_1247 : (Cond.instanceMethod ({ cls := "FlowBoxes", name := "children", desc := "(I)I" } : MethodName)) ∈ gwl := gw_of (i := 1247) (by decide +kernel) rfl
theorem wd_1248 : (Cond.selects "FlowBoxes" ({ cls := "FlowBoxes", name := "children", desc := "(I)I" } : MethodName) ({ cls := "FlowBoxes", name := "children", desc := "(I)I" } : MethodName)) ∈ gwl := gw_of (i := 1248) (by decide +kernel) rfl
theorem wd_1249 : (Cond.code ({ cls := "FlowBoxes", name := "children", desc := "(I)I" } : MethodName) prog_1_method_7_code (3 : Nat) (Option.some FieldType.int)) ∈ gwl := gw_of (i := 1249) (by decide +kernel) rfl
theorem wd_1252 : (Cond.instanceMethod ({ cls := "FlowBoxes$Node", name := "countChildren", desc := "()I" } : MethodName)) ∈ gwl := gw_of (i := 1252) (by decide +kernel) rfl
theorem wd_1253 : (Cond.code ({ cls := "FlowBoxes$Node", name := "countChildren", desc := "()I" } : MethodName) prog_9_method_9_code (3 : Nat) (Option.some FieldType.int)) ∈ gwl := gw_of (i := 1253) (by decide +kernel) rfl
theorem wd_1254 : (Cond.methodLink "FlowBoxesLaw" (87 : Nat) ({ cls := "FlowBoxes", name := "text", desc := "(III)I" } : MethodName)) ∈ gwl := gw_of (i := 1254) (by decide +kernel) rfl
theorem wd_1255 : (Cond.instanceMethod ({ cls := "FlowBoxes", name := "text", desc := "(III)I" } : MethodName)) ∈ gwl := gw_of (i := 1255) (by decide +kernel) rfl
theorem wd_1256 : (Cond.selects "FlowBoxes" ({ cls := "FlowBoxes", name := "text", desc := "(III)I" } : MethodName) ({ cls := "FlowBoxes", name := "text", desc := "(III)I" } : MethodName)) ∈ gwl := gw_of (i := 1256) (by decide +kernel) rfl
theorem wd_1257 : (Cond.code ({ cls := "FlowBoxes", name := "text", desc := "(III)I" } : MethodName) prog_1_method_3_code (6 : Nat) (Option.some FieldType.int)) ∈ gwl := gw_of (i := 1257) (by decide +kernel) rfl
theorem wd_1258 : (Cond.methodLink "FlowBoxes" (79 : Nat) ({ cls := "FlowBoxes", name := "hasRoom", desc := "(LFlowBoxes$Node;)Z" } : MethodName)) ∈ gwl := gw_of (i := 1258) (by decide +kernel) rfl
theorem wd_1260 : (Cond.instanceMethod ({ cls := "FlowBoxes", name := "hasRoom", desc := "(LFlowBoxes$Node;)Z" } : MethodName)) ∈ gwl := gw_of (i := 1260) (by decide +kernel) rfl
theorem wd_1261 : (Cond.code ({ cls := "FlowBoxes", name := "hasRoom", desc := "(LFlowBoxes$Node;)Z" } : MethodName) prog_1_method_32_code (2 : Nat) (Option.some FieldType.boolean)) ∈ gwl := gw_of (i := 1261) (by decide +kernel) rfl
theorem wd_1262 : (Cond.methodLink "FlowBoxes" (86 : Nat) ({ cls := "FlowBoxes", name := "insertNode", desc := "(LFlowBoxes$Node;II)I" } : MethodName)) ∈ gwl := gw_of (i := 1262) (by decide +kernel) rfl
theorem wd_1264 : (Cond.instanceMethod ({ cls := "FlowBoxes", name := "insertNode", desc := "(LFlowBoxes$Node;II)I" } : MethodName)) ∈ gwl := gw_of (i := 1264) (by decide +kernel) rfl
theorem wd_1265 : (Cond.code ({ cls := "FlowBoxes", name := "insertNode", desc := "(LFlowBoxes$Node;II)I" } : MethodName) prog_1_method_33_code (6 : Nat) (Option.some FieldType.int)) ∈ gwl := gw_of (i := 1265) (by decide +kernel) rfl
theorem wd_1268 : (Cond.instanceMethod ({ cls := "FlowBoxes$Node", name := "putIn", desc := "(LFlowBoxes$Node;I)V" } : MethodName)) ∈ gwl := gw_of (i := 1268) (by decide +kernel) rfl
theorem wd_1269 : (Cond.code ({ cls := "FlowBoxes$Node", name := "putIn", desc := "(LFlowBoxes$Node;I)V" } : MethodName) prog_9_method_10_code (6 : Nat) (Option.none : Option FieldType)) ∈ gwl := gw_of (i := 1269) (by decide +kernel) rfl
theorem wd_1270 : (Cond.methodLink "FlowBoxes" (108 : Nat) ({ cls := "FlowBoxes", name := "noteChange", desc := "(LFlowBoxes$Node;)V" } : MethodName)) ∈ gwl := gw_of (i := 1270) (by decide +kernel) rfl
theorem wd_1272 : (Cond.instanceMethod ({ cls := "FlowBoxes", name := "noteChange", desc := "(LFlowBoxes$Node;)V" } : MethodName)) ∈ gwl := gw_of (i := 1272) (by decide +kernel) rfl
theorem wd_1273 : (Cond.code ({ cls := "FlowBoxes", name := "noteChange", desc := "(LFlowBoxes$Node;)V" } : MethodName) prog_1_method_37_code (3 : Nat) (Option.none : Option FieldType)) ∈ gwl := gw_of (i := 1273) (by decide +kernel) rfl
theorem wd_1274 : (Cond.methodLink "FlowBoxesLaw" (90 : Nat) ({ cls := "FlowBoxes", name := "box", desc := "(II)I" } : MethodName)) ∈ gwl := gw_of (i := 1274) (by decide +kernel) rfl
theorem wd_1275 : (Cond.instanceMethod ({ cls := "FlowBoxes", name := "box", desc := "(II)I" } : MethodName)) ∈ gwl := gw_of (i := 1275) (by decide +kernel) rfl
theorem wd_1276 : (Cond.selects "FlowBoxes" ({ cls := "FlowBoxes", name := "box", desc := "(II)I" } : MethodName) ({ cls := "FlowBoxes", name := "box", desc := "(II)I" } : MethodName)) ∈ gwl := gw_of (i := 1276) (by decide +kernel) rfl
theorem wd_1277 : (Cond.code ({ cls := "FlowBoxes", name := "box", desc := "(II)I" } : MethodName) prog_1_method_2_code (5 : Nat) (Option.some FieldType.int)) ∈ gwl := gw_of (i := 1277) (by decide +kernel) rfl
theorem wd_1278 : (Cond.methodLink "FlowBoxesLaw" (93 : Nat) ({ cls := "FlowBoxes", name := "word", desc := "(III)I" } : MethodName)) ∈ gwl := gw_of (i := 1278) (by decide +kernel) rfl
theorem wd_1279 : (Cond.instanceMethod ({ cls := "FlowBoxes", name := "word", desc := "(III)I" } : MethodName)) ∈ gwl := gw_of (i := 1279) (by decide +kernel) rfl
theorem wd_1280 : (Cond.selects "FlowBoxes" ({ cls := "FlowBoxes", name := "word", desc := "(III)I" } : MethodName) ({ cls := "FlowBoxes", name := "word", desc := "(III)I" } : MethodName)) ∈ gwl := gw_of (i := 1280) (by decide +kernel) rfl
theorem wd_1281 : (Cond.code ({ cls := "FlowBoxes", name := "word", desc := "(III)I" } : MethodName) prog_1_method_4_code (5 : Nat) (Option.some FieldType.int)) ∈ gwl := gw_of (i := 1281) (by decide +kernel) rfl
theorem wd_1282 : (Cond.methodLink "FlowBoxes" (95 : Nat) ({ cls := "FlowBoxes", name := "textAt", desc := "(I)LFlowBoxes$Node;" } : MethodName)) ∈ gwl := gw_of (i := 1282) (by decide +kernel) rfl
theorem wd_1284 : (Cond.instanceMethod ({ cls := "FlowBoxes", name := "textAt", desc := "(I)LFlowBoxes$Node;" } : MethodName)) ∈ gwl := gw_of (i := 1284) (by decide +kernel) rfl
theorem wd_1285 : (Cond.code ({ cls := "FlowBoxes", name := "textAt", desc := "(I)LFlowBoxes$Node;" } : MethodName) prog_1_method_28_code (3 : Nat) (Option.some (FieldType.object "FlowBoxes$Node"))) ∈ gwl := gw_of (i := 1285) (by decide +kernel) rfl
theorem wd_1286 : (Cond.methodLink "FlowBoxesLaw" (111 : Nat) ({ cls := "FlowBoxesLaw", name := "styles", desc := "(LFlowBoxes;I[I[I[I[I[I)Z" } : MethodName)) ∈ gwl := gw_of (i := 1286) (by decide +kernel) rfl
theorem wd_1287 : (Cond.static ({ cls := "FlowBoxesLaw", name := "styles", desc := "(LFlowBoxes;I[I[I[I[I[I)Z" } : MethodName)) ∈ gwl := gw_of (i := 1287) (by decide +kernel) rfl
theorem wd_1288 : (Cond.code ({ cls := "FlowBoxesLaw", name := "styles", desc := "(LFlowBoxes;I[I[I[I[I[I)Z" } : MethodName) method_16_code (11 : Nat) (Option.some FieldType.boolean)) ∈ gwl := gw_of (i := 1288) (by decide +kernel) rfl
theorem wd_1289 : (Cond.methodLink "FlowBoxesLaw" (96 : Nat) ({ cls := "FlowBoxes", name := "style", desc := "(III)I" } : MethodName)) ∈ gwl := gw_of (i := 1289) (by decide +kernel) rfl
theorem wd_1290 : (Cond.instanceMethod ({ cls := "FlowBoxes", name := "style", desc := "(III)I" } : MethodName)) ∈ gwl := gw_of (i := 1290) (by decide +kernel) rfl
theorem wd_1291 : (Cond.selects "FlowBoxes" ({ cls := "FlowBoxes", name := "style", desc := "(III)I" } : MethodName) ({ cls := "FlowBoxes", name := "style", desc := "(III)I" } : MethodName)) ∈ gwl := gw_of (i := 1291) (by decide +kernel) rfl
theorem wd_1292 : (Cond.code ({ cls := "FlowBoxes", name := "style", desc := "(III)I" } : MethodName) prog_1_method_8_code (6 : Nat) (Option.some FieldType.int)) ∈ gwl := gw_of (i := 1292) (by decide +kernel) rfl
theorem wd_1293 : (Cond.methodLink "FlowBoxes" (127 : Nat) ({ cls := "FlowBoxes", name := "allows", desc := "(II)Z" } : MethodName)) ∈ gwl := gw_of (i := 1293) (by decide +kernel) rfl
theorem wd_1294 : (Cond.static ({ cls := "FlowBoxes", name := "allows", desc := "(II)Z" } : MethodName)) ∈ gwl := gw_of (i := 1294) (by decide +kernel) rfl
theorem wd_1295 : (Cond.code ({ cls := "FlowBoxes", name := "allows", desc := "(II)Z" } : MethodName) prog_1_method_34_code (2 : Nat) (Option.some FieldType.boolean)) ∈ gwl := gw_of (i := 1295) (by decide +kernel) rfl
theorem wd_1296 : (Cond.methodLink "FlowBoxes" (256 : Nat) ({ cls := "FlowBoxes", name := "isPercentage", desc := "(I)Z" } : MethodName)) ∈ gwl := gw_of (i := 1296) (by decide +kernel) rfl
theorem wd_1297 : (Cond.static ({ cls := "FlowBoxes", name := "isPercentage", desc := "(I)Z" } : MethodName)) ∈ gwl := gw_of (i := 1297) (by decide +kernel) rfl
theorem wd_1298 : (Cond.code ({ cls := "FlowBoxes", name := "isPercentage", desc := "(I)Z" } : MethodName) prog_1_method_35_code (1 : Nat) (Option.some FieldType.boolean)) ∈ gwl := gw_of (i := 1298) (by decide +kernel) rfl
theorem wd_1299 : (Cond.methodLink "FlowBoxes" (134 : Nat) ({ cls := "FlowBoxes", name := "reachesInside", desc := "(I)Z" } : MethodName)) ∈ gwl := gw_of (i := 1299) (by decide +kernel) rfl
theorem wd_1300 : (Cond.static ({ cls := "FlowBoxes", name := "reachesInside", desc := "(I)Z" } : MethodName)) ∈ gwl := gw_of (i := 1300) (by decide +kernel) rfl
theorem wd_1301 : (Cond.code ({ cls := "FlowBoxes", name := "reachesInside", desc := "(I)Z" } : MethodName) prog_1_method_36_code (1 : Nat) (Option.some FieldType.boolean)) ∈ gwl := gw_of (i := 1301) (by decide +kernel) rfl
theorem wd_1302 : (Cond.methodLink "FlowBoxes" (138 : Nat) ({ cls := "FlowBoxes", name := "noteChangeInside", desc := "(LFlowBoxes$Node;)V" } : MethodName)) ∈ gwl := gw_of (i := 1302) (by decide +kernel) rfl
theorem wd_1304 : (Cond.instanceMethod ({ cls := "FlowBoxes", name := "noteChangeInside", desc := "(LFlowBoxes$Node;)V" } : MethodName)) ∈ gwl := gw_of (i := 1304) (by decide +kernel) rfl
theorem wd_1305 : (Cond.code ({ cls := "FlowBoxes", name := "noteChangeInside", desc := "(LFlowBoxes$Node;)V" } : MethodName) prog_1_method_38_code (3 : Nat) (Option.none : Option FieldType)) ∈ gwl := gw_of (i := 1305) (by decide +kernel) rfl
theorem wd_1307 : (Cond.sameMethod "java/lang/Throwable" "java/lang/Throwable" "fillInStackTrace" "(I)Ljava/lang/Throwable;") ∈ gwl := gw_of (i := 1307) (by decide +kernel) rfl
theorem wd_1308 : (Cond.fieldLink "java/lang/Enum" (7 : Nat) "java/lang/Enum" "ordinal" "I") ∈ gwl := gw_of (i := 1308) (by decide +kernel) rfl
theorem cl_L_99 : zCl0 RL 99 yX12_init mX12_init 0 false := ⟨wd_26, wd_1, by decide, ⟨by decide, by decide, by decide +kernel⟩, Or.inl ⟨rfl, wd_24⟩⟩
theorem im_X12_init : Cond.instanceMethod yX12_init ∈ gwl := wd_25
theorem cl_X12_9 : zCl0 RX12 9 yX7_init mX7_init 3 true := ⟨wd_34, wd_2, by decide, ⟨by decide, by decide, by decide +kernel⟩, Or.inr ⟨rfl, gn_of (i := 32) (by decide +kernel) rfl⟩⟩
theorem im_X7_init : Cond.instanceMethod yX7_init ∈ gwl := wd_33
theorem cl_X7_32 : zCl0 RX7 32 yX7_firstValue mX7_firstValue 1 false := ⟨wd_38, wd_2, by decide, ⟨by decide, by decide, by decide +kernel⟩, Or.inl ⟨rfl, wd_36⟩⟩
theorem st_X7_firstValue : Cond.static yX7_firstValue ∈ gwl := wd_37
theorem cl_X7_44 : zCl0 RX7 44 yX9_init mX9_init 1 true := ⟨wd_43, wd_3, by decide, ⟨by decide, by decide, by decide +kernel⟩, Or.inr ⟨rfl, gn_of (i := 41) (by decide +kernel) rfl⟩⟩
theorem im_X9_init : Cond.instanceMethod yX9_init ∈ gwl := wd_42
theorem cl_X9_11 : zCl0 RX9 11 yX1_init mX1_init 0 true := ⟨wd_49, wd_4, by decide, ⟨by decide, by decide, by decide +kernel⟩, Or.inr ⟨rfl, gn_of (i := 47) (by decide +kernel) rfl⟩⟩
theorem im_X1_init : Cond.instanceMethod yX1_init ∈ gwl := wd_48
theorem fl_X1_13 : zFL RX1 13 1 100 (tyX1 0) false false false := ⟨rfl, 0, 0, (RX1, TX1, 7), rfl, by decide, rfl, rfl, by decide, tyX1_ok 0 (by decide), rfl, by decide +kernel, rfl, Or.inl ⟨rfl, wd_51⟩⟩
theorem fl_X2_113 : zFL RX2 113 1 100 (tyX1 0) false false true := ⟨rfl, 0, 0, (RX1, TX1, 7), rfl, by decide, rfl, rfl, by decide, tyX1_ok 0 (by decide), rfl, by decide +kernel, rfl, Or.inr ⟨rfl, gn_of (i := 52) (by decide +kernel) rfl⟩⟩
theorem fl_X4_379 : zFL RX4 379 1 100 (tyX1 0) false false true := ⟨rfl, 0, 0, (RX1, TX1, 7), rfl, by decide, rfl, rfl, by decide, tyX1_ok 0 (by decide), rfl, by decide +kernel, rfl, Or.inr ⟨rfl, gn_of (i := 53) (by decide +kernel) rfl⟩⟩
theorem fl_X1_19 : zFL RX1 19 1 101 (tyX1 1) false false false := ⟨rfl, 0, 1, (RX1, TX1, 7), rfl, by decide, rfl, rfl, by decide, tyX1_ok 1 (by decide), rfl, by decide +kernel, rfl, Or.inl ⟨rfl, wd_54⟩⟩
theorem fl_X2_125 : zFL RX2 125 1 101 (tyX1 1) false false true := ⟨rfl, 0, 1, (RX1, TX1, 7), rfl, by decide, rfl, rfl, by decide, tyX1_ok 1 (by decide), rfl, by decide +kernel, rfl, Or.inr ⟨rfl, gn_of (i := 55) (by decide +kernel) rfl⟩⟩
theorem fl_X4_375 : zFL RX4 375 1 101 (tyX1 1) false false true := ⟨rfl, 0, 1, (RX1, TX1, 7), rfl, by decide, rfl, rfl, by decide, tyX1_ok 1 (by decide), rfl, by decide +kernel, rfl, Or.inr ⟨rfl, gn_of (i := 56) (by decide +kernel) rfl⟩⟩
theorem fl_X1_7 : zFL RX1 7 1 102 (tyX1 2) false false false := ⟨rfl, 0, 2, (RX1, TX1, 7), rfl, by decide, rfl, rfl, by decide, tyX1_ok 2 (by decide), rfl, by decide +kernel, rfl, Or.inl ⟨rfl, wd_57⟩⟩
theorem fl_X2_110 : zFL RX2 110 1 102 (tyX1 2) false false true := ⟨rfl, 0, 2, (RX1, TX1, 7), rfl, by decide, rfl, rfl, by decide, tyX1_ok 2 (by decide), rfl, by decide +kernel, rfl, Or.inr ⟨rfl, gn_of (i := 58) (by decide +kernel) rfl⟩⟩
theorem fl_X4_380 : zFL RX4 380 1 102 (tyX1 2) false false true := ⟨rfl, 0, 2, (RX1, TX1, 7), rfl, by decide, rfl, rfl, by decide, tyX1_ok 2 (by decide), rfl, by decide +kernel, rfl, Or.inr ⟨rfl, gn_of (i := 59) (by decide +kernel) rfl⟩⟩
theorem fl_X1_16 : zFL RX1 16 1 103 (tyX1 3) false false false := ⟨rfl, 0, 3, (RX1, TX1, 7), rfl, by decide, rfl, rfl, by decide, tyX1_ok 3 (by decide), rfl, by decide +kernel, rfl, Or.inl ⟨rfl, wd_60⟩⟩
theorem fl_X2_85 : zFL RX2 85 1 103 (tyX1 3) false false true := ⟨rfl, 0, 3, (RX1, TX1, 7), rfl, by decide, rfl, rfl, by decide, tyX1_ok 3 (by decide), rfl, by decide +kernel, rfl, Or.inr ⟨rfl, gn_of (i := 61) (by decide +kernel) rfl⟩⟩
theorem fl_X4_383 : zFL RX4 383 1 103 (tyX1 3) false false true := ⟨rfl, 0, 3, (RX1, TX1, 7), rfl, by decide, rfl, rfl, by decide, tyX1_ok 3 (by decide), rfl, by decide +kernel, rfl, Or.inr ⟨rfl, gn_of (i := 62) (by decide +kernel) rfl⟩⟩
theorem fl_X2_80 : zFL RX2 80 1 104 (tyX1 4) false false true := ⟨rfl, 0, 4, (RX1, TX1, 7), rfl, by decide, rfl, rfl, by decide, tyX1_ok 4 (by decide), rfl, by decide +kernel, rfl, Or.inr ⟨rfl, gn_of (i := 63) (by decide +kernel) rfl⟩⟩
theorem fl_X4_367 : zFL RX4 367 1 104 (tyX1 4) false false true := ⟨rfl, 0, 4, (RX1, TX1, 7), rfl, by decide, rfl, rfl, by decide, tyX1_ok 4 (by decide), rfl, by decide +kernel, rfl, Or.inr ⟨rfl, gn_of (i := 64) (by decide +kernel) rfl⟩⟩
theorem fl_X2_88 : zFL RX2 88 1 105 (tyX1 5) false true true := ⟨rfl, 0, 5, (RX1, TX1, 7), rfl, by decide, rfl, rfl, by decide, tyX1_ok 5 (by decide), rfl, by decide +kernel, rfl, Or.inr ⟨rfl, gn_of (i := 65) (by decide +kernel) rfl⟩⟩
theorem fl_X4_506 : zFL RX4 506 1 105 (tyX1 5) false true true := ⟨rfl, 0, 5, (RX1, TX1, 7), rfl, by decide, rfl, rfl, by decide, tyX1_ok 5 (by decide), rfl, by decide +kernel, rfl, Or.inr ⟨rfl, gn_of (i := 66) (by decide +kernel) rfl⟩⟩
theorem fl_X2_130 : zFL RX2 130 1 106 (tyX1 6) false true true := ⟨rfl, 0, 6, (RX1, TX1, 7), rfl, by decide, rfl, rfl, by decide, tyX1_ok 6 (by decide), rfl, by decide +kernel, rfl, Or.inr ⟨rfl, gn_of (i := 67) (by decide +kernel) rfl⟩⟩
theorem fl_X4_508 : zFL RX4 508 1 106 (tyX1 6) false true true := ⟨rfl, 0, 6, (RX1, TX1, 7), rfl, by decide, rfl, rfl, by decide, tyX1_ok 6 (by decide), rfl, by decide +kernel, rfl, Or.inr ⟨rfl, gn_of (i := 68) (by decide +kernel) rfl⟩⟩
theorem cl_X9_24 : zCl0 RX9 24 yX11_init mX11_init 0 true := ⟨wd_90, wd_5, by decide, ⟨by decide, by decide, by decide +kernel⟩, Or.inr ⟨rfl, gn_of (i := 88) (by decide +kernel) rfl⟩⟩
theorem im_X11_init : Cond.instanceMethod yX11_init ∈ gwl := wd_89
theorem fl_X11_7 : zFL RX11 7 9 900 (tyX11 0) false true false := ⟨rfl, 8, 0, (RX11, TX11, 5), rfl, by decide, rfl, rfl, by decide, tyX11_ok 0 (by decide), rfl, by decide +kernel, rfl, Or.inl ⟨rfl, wd_92⟩⟩
theorem fl_X4_441 : zFL RX4 441 9 900 (tyX11 0) false true true := ⟨rfl, 8, 0, (RX11, TX11, 5), rfl, by decide, rfl, rfl, by decide, tyX11_ok 0 (by decide), rfl, by decide +kernel, rfl, Or.inr ⟨rfl, gn_of (i := 93) (by decide +kernel) rfl⟩⟩
theorem fl_X12_289 : zFL RX12 289 9 900 (tyX11 0) false true true := ⟨rfl, 8, 0, (RX11, TX11, 5), rfl, by decide, rfl, rfl, by decide, tyX11_ok 0 (by decide), rfl, by decide +kernel, rfl, Or.inr ⟨rfl, gn_of (i := 94) (by decide +kernel) rfl⟩⟩
theorem fl_X11_19 : zFL RX11 19 9 901 (tyX11 1) false false false := ⟨rfl, 8, 1, (RX11, TX11, 5), rfl, by decide, rfl, rfl, by decide, tyX11_ok 1 (by decide), rfl, by decide +kernel, rfl, Or.inl ⟨rfl, wd_95⟩⟩
theorem fl_X4_452 : zFL RX4 452 9 901 (tyX11 1) false false true := ⟨rfl, 8, 1, (RX11, TX11, 5), rfl, by decide, rfl, rfl, by decide, tyX11_ok 1 (by decide), rfl, by decide +kernel, rfl, Or.inr ⟨rfl, gn_of (i := 96) (by decide +kernel) rfl⟩⟩
theorem fl_X4_432 : zFL RX4 432 9 902 (tyX11 2) false false true := ⟨rfl, 8, 2, (RX11, TX11, 5), rfl, by decide, rfl, rfl, by decide, tyX11_ok 2 (by decide), rfl, by decide +kernel, rfl, Or.inr ⟨rfl, gn_of (i := 97) (by decide +kernel) rfl⟩⟩
theorem fl_X12_301 : zFL RX12 301 9 902 (tyX11 2) false false true := ⟨rfl, 8, 2, (RX11, TX11, 5), rfl, by decide, rfl, rfl, by decide, tyX11_ok 2 (by decide), rfl, by decide +kernel, rfl, Or.inr ⟨rfl, gn_of (i := 98) (by decide +kernel) rfl⟩⟩
theorem fl_X11_29 : zFL RX11 29 9 903 (tyX11 3) false false false := ⟨rfl, 8, 3, (RX11, TX11, 5), rfl, by decide, rfl, rfl, by decide, tyX11_ok 3 (by decide), rfl, by decide +kernel, rfl, Or.inl ⟨rfl, wd_99⟩⟩
theorem fl_X4_435 : zFL RX4 435 9 903 (tyX11 3) false false true := ⟨rfl, 8, 3, (RX11, TX11, 5), rfl, by decide, rfl, rfl, by decide, tyX11_ok 3 (by decide), rfl, by decide +kernel, rfl, Or.inr ⟨rfl, gn_of (i := 100) (by decide +kernel) rfl⟩⟩
theorem fl_X4_438 : zFL RX4 438 9 904 (tyX11 4) false false true := ⟨rfl, 8, 4, (RX11, TX11, 5), rfl, by decide, rfl, rfl, by decide, tyX11_ok 4 (by decide), rfl, by decide +kernel, rfl, Or.inr ⟨rfl, gn_of (i := 101) (by decide +kernel) rfl⟩⟩
theorem fl_X4_143 : zF0 RX4 143 7 700 .long false true true := ⟨6, 0, (RX9, TX9, 20), rfl, by decide, rfl, rfl, by decide, tyX9_ok 0 (by decide), rfl, by decide +kernel, rfl, Or.inr ⟨rfl, gn_of (i := 113) (by decide +kernel) rfl⟩⟩
theorem fl_X2_68 : zFL RX2 68 7 701 (tyX9 1) false false true := ⟨rfl, 6, 1, (RX9, TX9, 20), rfl, by decide, rfl, rfl, by decide, tyX9_ok 1 (by decide), rfl, by decide +kernel, rfl, Or.inr ⟨rfl, gn_of (i := 114) (by decide +kernel) rfl⟩⟩
theorem fl_X4_150 : zFL RX4 150 7 701 (tyX9 1) false false true := ⟨rfl, 6, 1, (RX9, TX9, 20), rfl, by decide, rfl, rfl, by decide, tyX9_ok 1 (by decide), rfl, by decide +kernel, rfl, Or.inr ⟨rfl, gn_of (i := 115) (by decide +kernel) rfl⟩⟩
theorem fl_X4_87 : zFL RX4 87 7 702 (tyX9 2) false false true := ⟨rfl, 6, 2, (RX9, TX9, 20), rfl, by decide, rfl, rfl, by decide, tyX9_ok 2 (by decide), rfl, by decide +kernel, rfl, Or.inr ⟨rfl, gn_of (i := 116) (by decide +kernel) rfl⟩⟩
theorem fl_X12_275 : zFL RX12 275 7 702 (tyX9 2) false false true := ⟨rfl, 6, 2, (RX9, TX9, 20), rfl, by decide, rfl, rfl, by decide, tyX9_ok 2 (by decide), rfl, by decide +kernel, rfl, Or.inr ⟨rfl, gn_of (i := 117) (by decide +kernel) rfl⟩⟩
theorem fl_X4_203 : zFL RX4 203 7 703 (tyX9 3) false false true := ⟨rfl, 6, 3, (RX9, TX9, 20), rfl, by decide, rfl, rfl, by decide, tyX9_ok 3 (by decide), rfl, by decide +kernel, rfl, Or.inr ⟨rfl, gn_of (i := 118) (by decide +kernel) rfl⟩⟩
theorem fl_X12_281 : zFL RX12 281 7 703 (tyX9 3) false false true := ⟨rfl, 6, 3, (RX9, TX9, 20), rfl, by decide, rfl, rfl, by decide, tyX9_ok 3 (by decide), rfl, by decide +kernel, rfl, Or.inr ⟨rfl, gn_of (i := 119) (by decide +kernel) rfl⟩⟩
theorem fl_X9_25 : zFL RX9 25 7 704 (tyX9 4) false false false := ⟨rfl, 6, 4, (RX9, TX9, 20), rfl, by decide, rfl, rfl, by decide, tyX9_ok 4 (by decide), rfl, by decide +kernel, rfl, Or.inl ⟨rfl, wd_120⟩⟩
theorem fl_X4_98 : zFL RX4 98 7 704 (tyX9 4) false false true := ⟨rfl, 6, 4, (RX9, TX9, 20), rfl, by decide, rfl, rfl, by decide, tyX9_ok 4 (by decide), rfl, by decide +kernel, rfl, Or.inr ⟨rfl, gn_of (i := 121) (by decide +kernel) rfl⟩⟩
theorem fl_X4_105 : zF0 RX4 105 7 705 .long false true true := ⟨6, 5, (RX9, TX9, 20), rfl, by decide, rfl, rfl, by decide, tyX9_ok 5 (by decide), rfl, by decide +kernel, rfl, Or.inr ⟨rfl, gn_of (i := 122) (by decide +kernel) rfl⟩⟩
theorem fl_X12_269 : zF0 RX12 269 7 705 .long false true true := ⟨6, 5, (RX9, TX9, 20), rfl, by decide, rfl, rfl, by decide, tyX9_ok 5 (by decide), rfl, by decide +kernel, rfl, Or.inr ⟨rfl, gn_of (i := 123) (by decide +kernel) rfl⟩⟩
theorem fl_X4_109 : zF0 RX4 109 7 706 .long false true true := ⟨6, 6, (RX9, TX9, 20), rfl, by decide, rfl, rfl, by decide, tyX9_ok 6 (by decide), rfl, by decide +kernel, rfl, Or.inr ⟨rfl, gn_of (i := 124) (by decide +kernel) rfl⟩⟩
theorem fl_X12_272 : zF0 RX12 272 7 706 .long false true true := ⟨6, 6, (RX9, TX9, 20), rfl, by decide, rfl, rfl, by decide, tyX9_ok 6 (by decide), rfl, by decide +kernel, rfl, Or.inr ⟨rfl, gn_of (i := 125) (by decide +kernel) rfl⟩⟩
theorem fl_X4_112 : zF0 RX4 112 7 707 .long false true true := ⟨6, 7, (RX9, TX9, 20), rfl, by decide, rfl, rfl, by decide, tyX9_ok 7 (by decide), rfl, by decide +kernel, rfl, Or.inr ⟨rfl, gn_of (i := 126) (by decide +kernel) rfl⟩⟩
theorem fl_X12_207 : zF0 RX12 207 7 707 .long false true true := ⟨6, 7, (RX9, TX9, 20), rfl, by decide, rfl, rfl, by decide, tyX9_ok 7 (by decide), rfl, by decide +kernel, rfl, Or.inr ⟨rfl, gn_of (i := 127) (by decide +kernel) rfl⟩⟩
theorem fl_X4_115 : zF0 RX4 115 7 708 .long false true true := ⟨6, 8, (RX9, TX9, 20), rfl, by decide, rfl, rfl, by decide, tyX9_ok 8 (by decide), rfl, by decide +kernel, rfl, Or.inr ⟨rfl, gn_of (i := 128) (by decide +kernel) rfl⟩⟩
theorem fl_X12_214 : zF0 RX12 214 7 708 .long false true true := ⟨6, 8, (RX9, TX9, 20), rfl, by decide, rfl, rfl, by decide, tyX9_ok 8 (by decide), rfl, by decide +kernel, rfl, Or.inr ⟨rfl, gn_of (i := 129) (by decide +kernel) rfl⟩⟩
theorem fl_X2_73 : zFL RX2 73 7 709 (tyX9 9) false false true := ⟨rfl, 6, 9, (RX9, TX9, 20), rfl, by decide, rfl, rfl, by decide, tyX9_ok 9 (by decide), rfl, by decide +kernel, rfl, Or.inr ⟨rfl, gn_of (i := 130) (by decide +kernel) rfl⟩⟩
theorem fl_X4_317 : zFL RX4 317 7 709 (tyX9 9) false false true := ⟨rfl, 6, 9, (RX9, TX9, 20), rfl, by decide, rfl, rfl, by decide, tyX9_ok 9 (by decide), rfl, by decide +kernel, rfl, Or.inr ⟨rfl, gn_of (i := 131) (by decide +kernel) rfl⟩⟩
theorem fl_X2_77 : zFL RX2 77 7 710 (tyX9 10) false true true := ⟨rfl, 6, 10, (RX9, TX9, 20), rfl, by decide, rfl, rfl, by decide, tyX9_ok 10 (by decide), rfl, by decide +kernel, rfl, Or.inr ⟨rfl, gn_of (i := 132) (by decide +kernel) rfl⟩⟩
theorem fl_X4_323 : zFL RX4 323 7 710 (tyX9 10) false true true := ⟨rfl, 6, 10, (RX9, TX9, 20), rfl, by decide, rfl, rfl, by decide, tyX9_ok 10 (by decide), rfl, by decide +kernel, rfl, Or.inr ⟨rfl, gn_of (i := 133) (by decide +kernel) rfl⟩⟩
theorem fl_X12_194 : zFL RX12 194 7 711 (tyX9 11) false true true := ⟨rfl, 6, 11, (RX9, TX9, 20), rfl, by decide, rfl, rfl, by decide, tyX9_ok 11 (by decide), rfl, by decide +kernel, rfl, Or.inr ⟨rfl, gn_of (i := 134) (by decide +kernel) rfl⟩⟩
theorem fl_X4_523 : zFL RX4 523 7 711 (tyX9 11) false true true := ⟨rfl, 6, 11, (RX9, TX9, 20), rfl, by decide, rfl, rfl, by decide, tyX9_ok 11 (by decide), rfl, by decide +kernel, rfl, Or.inr ⟨rfl, gn_of (i := 135) (by decide +kernel) rfl⟩⟩
theorem fl_X4_520 : zFL RX4 520 7 712 (tyX9 12) false true true := ⟨rfl, 6, 12, (RX9, TX9, 20), rfl, by decide, rfl, rfl, by decide, tyX9_ok 12 (by decide), rfl, by decide +kernel, rfl, Or.inr ⟨rfl, gn_of (i := 136) (by decide +kernel) rfl⟩⟩
theorem fl_X9_12 : zFL RX9 12 7 713 (tyX9 13) true true false := ⟨rfl, 6, 13, (RX9, TX9, 20), rfl, by decide, rfl, rfl, by decide, tyX9_ok 13 (by decide), rfl, by decide +kernel, rfl, Or.inl ⟨rfl, wd_137⟩⟩
theorem fl_X4_363 : zFL RX4 363 7 713 (tyX9 13) true true true := ⟨rfl, 6, 13, (RX9, TX9, 20), rfl, by decide, rfl, rfl, by decide, tyX9_ok 13 (by decide), rfl, by decide +kernel, rfl, Or.inr ⟨rfl, gn_of (i := 138) (by decide +kernel) rfl⟩⟩
theorem fl_X9_20 : zFL RX9 20 7 714 (tyX9 14) true true false := ⟨rfl, 6, 14, (RX9, TX9, 20), rfl, by decide, rfl, rfl, by decide, tyX9_ok 14 (by decide), rfl, by decide +kernel, rfl, Or.inl ⟨rfl, wd_139⟩⟩
theorem fl_X9_29 : zFL RX9 29 7 715 (tyX9 15) false false false := ⟨rfl, 6, 15, (RX9, TX9, 20), rfl, by decide, rfl, rfl, by decide, tyX9_ok 15 (by decide), rfl, by decide +kernel, rfl, Or.inl ⟨rfl, wd_140⟩⟩
theorem fl_X4_39 : zFL RX4 39 7 715 (tyX9 15) false false true := ⟨rfl, 6, 15, (RX9, TX9, 20), rfl, by decide, rfl, rfl, by decide, tyX9_ok 15 (by decide), rfl, by decide +kernel, rfl, Or.inr ⟨rfl, gn_of (i := 141) (by decide +kernel) rfl⟩⟩
theorem fl_X4_209 : zFL RX4 209 7 716 (tyX9 16) false false true := ⟨rfl, 6, 16, (RX9, TX9, 20), rfl, by decide, rfl, rfl, by decide, tyX9_ok 16 (by decide), rfl, by decide +kernel, rfl, Or.inr ⟨rfl, gn_of (i := 142) (by decide +kernel) rfl⟩⟩
theorem fl_X4_212 : zFL RX4 212 7 717 (tyX9 17) false false true := ⟨rfl, 6, 17, (RX9, TX9, 20), rfl, by decide, rfl, rfl, by decide, tyX9_ok 17 (by decide), rfl, by decide +kernel, rfl, Or.inr ⟨rfl, gn_of (i := 143) (by decide +kernel) rfl⟩⟩
theorem fl_X4_221 : zFL RX4 221 7 718 (tyX9 18) false false true := ⟨rfl, 6, 18, (RX9, TX9, 20), rfl, by decide, rfl, rfl, by decide, tyX9_ok 18 (by decide), rfl, by decide +kernel, rfl, Or.inr ⟨rfl, gn_of (i := 144) (by decide +kernel) rfl⟩⟩
theorem fl_X12_185 : zFL RX12 185 7 719 (tyX9 19) false false true := ⟨rfl, 6, 19, (RX9, TX9, 20), rfl, by decide, rfl, rfl, by decide, tyX9_ok 19 (by decide), rfl, by decide +kernel, rfl, Or.inr ⟨rfl, gn_of (i := 145) (by decide +kernel) rfl⟩⟩
theorem fl_X4_253 : zFL RX4 253 7 719 (tyX9 19) false false true := ⟨rfl, 6, 19, (RX9, TX9, 20), rfl, by decide, rfl, rfl, by decide, tyX9_ok 19 (by decide), rfl, by decide +kernel, rfl, Or.inr ⟨rfl, gn_of (i := 146) (by decide +kernel) rfl⟩⟩
theorem fl_X7_9 : zFL RX7 9 5 500 (tyX7 0) true false false := ⟨rfl, 4, 0, (RX7, TX7, 20), rfl, by decide, rfl, rfl, by decide, tyX7_ok 0 (by decide), rfl, by decide +kernel, rfl, Or.inl ⟨rfl, wd_192⟩⟩
theorem fl_X7_15 : zFL RX7 15 5 501 (tyX7 1) true true false := ⟨rfl, 4, 1, (RX7, TX7, 20), rfl, by decide, rfl, rfl, by decide, tyX7_ok 1 (by decide), rfl, by decide +kernel, rfl, Or.inl ⟨rfl, wd_193⟩⟩
theorem fl_X4_75 : zFL RX4 75 5 501 (tyX7 1) true true true := ⟨rfl, 4, 1, (RX7, TX7, 20), rfl, by decide, rfl, rfl, by decide, tyX7_ok 1 (by decide), rfl, by decide +kernel, rfl, Or.inr ⟨rfl, gn_of (i := 194) (by decide +kernel) rfl⟩⟩
theorem fl_X12_114 : zFL RX12 114 5 501 (tyX7 1) true true true := ⟨rfl, 4, 1, (RX7, TX7, 20), rfl, by decide, rfl, rfl, by decide, tyX7_ok 1 (by decide), rfl, by decide +kernel, rfl, Or.inr ⟨rfl, gn_of (i := 195) (by decide +kernel) rfl⟩⟩
theorem fl_X7_19 : zFL RX7 19 5 502 (tyX7 2) true false false := ⟨rfl, 4, 2, (RX7, TX7, 20), rfl, by decide, rfl, rfl, by decide, tyX7_ok 2 (by decide), rfl, by decide +kernel, rfl, Or.inl ⟨rfl, wd_196⟩⟩
theorem fl_X4_230 : zFL RX4 230 5 502 (tyX7 2) true false true := ⟨rfl, 4, 2, (RX7, TX7, 20), rfl, by decide, rfl, rfl, by decide, tyX7_ok 2 (by decide), rfl, by decide +kernel, rfl, Or.inr ⟨rfl, gn_of (i := 197) (by decide +kernel) rfl⟩⟩
theorem fl_X12_249 : zFL RX12 249 5 502 (tyX7 2) true false true := ⟨rfl, 4, 2, (RX7, TX7, 20), rfl, by decide, rfl, rfl, by decide, tyX7_ok 2 (by decide), rfl, by decide +kernel, rfl, Or.inr ⟨rfl, gn_of (i := 198) (by decide +kernel) rfl⟩⟩
theorem fl_X7_22 : zFL RX7 22 5 503 (tyX7 3) true false false := ⟨rfl, 4, 3, (RX7, TX7, 20), rfl, by decide, rfl, rfl, by decide, tyX7_ok 3 (by decide), rfl, by decide +kernel, rfl, Or.inl ⟨rfl, wd_199⟩⟩
theorem fl_X4_423 : zFL RX4 423 5 503 (tyX7 3) true false true := ⟨rfl, 4, 3, (RX7, TX7, 20), rfl, by decide, rfl, rfl, by decide, tyX7_ok 3 (by decide), rfl, by decide +kernel, rfl, Or.inr ⟨rfl, gn_of (i := 200) (by decide +kernel) rfl⟩⟩
theorem fl_X12_262 : zFL RX12 262 5 503 (tyX7 3) true false true := ⟨rfl, 4, 3, (RX7, TX7, 20), rfl, by decide, rfl, rfl, by decide, tyX7_ok 3 (by decide), rfl, by decide +kernel, rfl, Or.inr ⟨rfl, gn_of (i := 201) (by decide +kernel) rfl⟩⟩
theorem fl_X7_25 : zFL RX7 25 5 504 (tyX7 4) true true false := ⟨rfl, 4, 4, (RX7, TX7, 20), rfl, by decide, rfl, rfl, by decide, tyX7_ok 4 (by decide), rfl, by decide +kernel, rfl, Or.inl ⟨rfl, wd_202⟩⟩
theorem fl_X12_131 : zFL RX12 131 5 504 (tyX7 4) true true true := ⟨rfl, 4, 4, (RX7, TX7, 20), rfl, by decide, rfl, rfl, by decide, tyX7_ok 4 (by decide), rfl, by decide +kernel, rfl, Or.inr ⟨rfl, gn_of (i := 203) (by decide +kernel) rfl⟩⟩
theorem fl_X7_29 : zFL RX7 29 5 505 (tyX7 5) true true false := ⟨rfl, 4, 5, (RX7, TX7, 20), rfl, by decide, rfl, rfl, by decide, tyX7_ok 5 (by decide), rfl, by decide +kernel, rfl, Or.inl ⟨rfl, wd_204⟩⟩
theorem fl_X6_41 : zFL RX6 41 5 505 (tyX7 5) true true true := ⟨rfl, 4, 5, (RX7, TX7, 20), rfl, by decide, rfl, rfl, by decide, tyX7_ok 5 (by decide), rfl, by decide +kernel, rfl, Or.inr ⟨rfl, gn_of (i := 205) (by decide +kernel) rfl⟩⟩
theorem fl_X8_43 : zFL RX8 43 5 505 (tyX7 5) true true true := ⟨rfl, 4, 5, (RX7, TX7, 20), rfl, by decide, rfl, rfl, by decide, tyX7_ok 5 (by decide), rfl, by decide +kernel, rfl, Or.inr ⟨rfl, gn_of (i := 206) (by decide +kernel) rfl⟩⟩
theorem fl_X4_128 : zFL RX4 128 5 505 (tyX7 5) true true true := ⟨rfl, 4, 5, (RX7, TX7, 20), rfl, by decide, rfl, rfl, by decide, tyX7_ok 5 (by decide), rfl, by decide +kernel, rfl, Or.inr ⟨rfl, gn_of (i := 207) (by decide +kernel) rfl⟩⟩
theorem fl_X7_36 : zFL RX7 36 5 506 (tyX7 6) true true false := ⟨rfl, 4, 6, (RX7, TX7, 20), rfl, by decide, rfl, rfl, by decide, tyX7_ok 6 (by decide), rfl, by decide +kernel, rfl, Or.inl ⟨rfl, wd_208⟩⟩
theorem fl_X12_101 : zFL RX12 101 5 506 (tyX7 6) true true true := ⟨rfl, 4, 6, (RX7, TX7, 20), rfl, by decide, rfl, rfl, by decide, tyX7_ok 6 (by decide), rfl, by decide +kernel, rfl, Or.inr ⟨rfl, gn_of (i := 209) (by decide +kernel) rfl⟩⟩
theorem fl_X6_93 : zFL RX6 93 5 506 (tyX7 6) true true true := ⟨rfl, 4, 6, (RX7, TX7, 20), rfl, by decide, rfl, rfl, by decide, tyX7_ok 6 (by decide), rfl, by decide +kernel, rfl, Or.inr ⟨rfl, gn_of (i := 210) (by decide +kernel) rfl⟩⟩
theorem fl_X4_429 : zFL RX4 429 5 506 (tyX7 6) true true true := ⟨rfl, 4, 6, (RX7, TX7, 20), rfl, by decide, rfl, rfl, by decide, tyX7_ok 6 (by decide), rfl, by decide +kernel, rfl, Or.inr ⟨rfl, gn_of (i := 211) (by decide +kernel) rfl⟩⟩
theorem fl_X7_39 : zFL RX7 39 5 507 (tyX7 7) true true false := ⟨rfl, 4, 7, (RX7, TX7, 20), rfl, by decide, rfl, rfl, by decide, tyX7_ok 7 (by decide), rfl, by decide +kernel, rfl, Or.inl ⟨rfl, wd_212⟩⟩
theorem fl_X12_105 : zFL RX12 105 5 507 (tyX7 7) true true true := ⟨rfl, 4, 7, (RX7, TX7, 20), rfl, by decide, rfl, rfl, by decide, tyX7_ok 7 (by decide), rfl, by decide +kernel, rfl, Or.inr ⟨rfl, gn_of (i := 213) (by decide +kernel) rfl⟩⟩
theorem fl_X6_96 : zFL RX6 96 5 507 (tyX7 7) true true true := ⟨rfl, 4, 7, (RX7, TX7, 20), rfl, by decide, rfl, rfl, by decide, tyX7_ok 7 (by decide), rfl, by decide +kernel, rfl, Or.inr ⟨rfl, gn_of (i := 214) (by decide +kernel) rfl⟩⟩
theorem fl_X4_445 : zFL RX4 445 5 507 (tyX7 7) true true true := ⟨rfl, 4, 7, (RX7, TX7, 20), rfl, by decide, rfl, rfl, by decide, tyX7_ok 7 (by decide), rfl, by decide +kernel, rfl, Or.inr ⟨rfl, gn_of (i := 215) (by decide +kernel) rfl⟩⟩
theorem fl_X7_47 : zFL RX7 47 5 508 (tyX7 8) true true false := ⟨rfl, 4, 8, (RX7, TX7, 20), rfl, by decide, rfl, rfl, by decide, tyX7_ok 8 (by decide), rfl, by decide +kernel, rfl, Or.inl ⟨rfl, wd_216⟩⟩
theorem fl_X4_32 : zFL RX4 32 5 508 (tyX7 8) true true true := ⟨rfl, 4, 8, (RX7, TX7, 20), rfl, by decide, rfl, rfl, by decide, tyX7_ok 8 (by decide), rfl, by decide +kernel, rfl, Or.inr ⟨rfl, gn_of (i := 217) (by decide +kernel) rfl⟩⟩
theorem fl_X12_182 : zFL RX12 182 5 508 (tyX7 8) true true true := ⟨rfl, 4, 8, (RX7, TX7, 20), rfl, by decide, rfl, rfl, by decide, tyX7_ok 8 (by decide), rfl, by decide +kernel, rfl, Or.inr ⟨rfl, gn_of (i := 218) (by decide +kernel) rfl⟩⟩
theorem fl_X7_51 : zFL RX7 51 5 509 (tyX7 9) true true false := ⟨rfl, 4, 9, (RX7, TX7, 20), rfl, by decide, rfl, rfl, by decide, tyX7_ok 9 (by decide), rfl, by decide +kernel, rfl, Or.inl ⟨rfl, wd_219⟩⟩
theorem fl_X4_26 : zFL RX4 26 5 509 (tyX7 9) true true true := ⟨rfl, 4, 9, (RX7, TX7, 20), rfl, by decide, rfl, rfl, by decide, tyX7_ok 9 (by decide), rfl, by decide +kernel, rfl, Or.inr ⟨rfl, gn_of (i := 220) (by decide +kernel) rfl⟩⟩
theorem fl_X8_35 : zFL RX8 35 5 510 (tyX7 10) false true true := ⟨rfl, 4, 10, (RX7, TX7, 20), rfl, by decide, rfl, rfl, by decide, tyX7_ok 10 (by decide), rfl, by decide +kernel, rfl, Or.inr ⟨rfl, gn_of (i := 221) (by decide +kernel) rfl⟩⟩
theorem fl_X6_61 : zFL RX6 61 5 510 (tyX7 10) false true true := ⟨rfl, 4, 10, (RX7, TX7, 20), rfl, by decide, rfl, rfl, by decide, tyX7_ok 10 (by decide), rfl, by decide +kernel, rfl, Or.inr ⟨rfl, gn_of (i := 222) (by decide +kernel) rfl⟩⟩
theorem fl_X7_80 : zFL RX7 80 5 510 (tyX7 10) false true false := ⟨rfl, 4, 10, (RX7, TX7, 20), rfl, by decide, rfl, rfl, by decide, tyX7_ok 10 (by decide), rfl, by decide +kernel, rfl, Or.inl ⟨rfl, wd_223⟩⟩
theorem fl_X4_260 : zFL RX4 260 5 510 (tyX7 10) false true true := ⟨rfl, 4, 10, (RX7, TX7, 20), rfl, by decide, rfl, rfl, by decide, tyX7_ok 10 (by decide), rfl, by decide +kernel, rfl, Or.inr ⟨rfl, gn_of (i := 224) (by decide +kernel) rfl⟩⟩
theorem fl_X7_83 : zFL RX7 83 5 511 (tyX7 11) false true false := ⟨rfl, 4, 11, (RX7, TX7, 20), rfl, by decide, rfl, rfl, by decide, tyX7_ok 11 (by decide), rfl, by decide +kernel, rfl, Or.inl ⟨rfl, wd_225⟩⟩
theorem fl_X6_114 : zFL RX6 114 5 511 (tyX7 11) false true true := ⟨rfl, 4, 11, (RX7, TX7, 20), rfl, by decide, rfl, rfl, by decide, tyX7_ok 11 (by decide), rfl, by decide +kernel, rfl, Or.inr ⟨rfl, gn_of (i := 226) (by decide +kernel) rfl⟩⟩
theorem fl_X4_294 : zFL RX4 294 5 511 (tyX7 11) false true true := ⟨rfl, 4, 11, (RX7, TX7, 20), rfl, by decide, rfl, rfl, by decide, tyX7_ok 11 (by decide), rfl, by decide +kernel, rfl, Or.inr ⟨rfl, gn_of (i := 227) (by decide +kernel) rfl⟩⟩
theorem fl_X12_98 : zFL RX12 98 5 512 (tyX7 12) false false true := ⟨rfl, 4, 12, (RX7, TX7, 20), rfl, by decide, rfl, rfl, by decide, tyX7_ok 12 (by decide), rfl, by decide +kernel, rfl, Or.inr ⟨rfl, gn_of (i := 228) (by decide +kernel) rfl⟩⟩
theorem fl_X6_90 : zFL RX6 90 5 512 (tyX7 12) false false true := ⟨rfl, 4, 12, (RX7, TX7, 20), rfl, by decide, rfl, rfl, by decide, tyX7_ok 12 (by decide), rfl, by decide +kernel, rfl, Or.inr ⟨rfl, gn_of (i := 229) (by decide +kernel) rfl⟩⟩
theorem fl_X4_390 : zFL RX4 390 5 512 (tyX7 12) false false true := ⟨rfl, 4, 12, (RX7, TX7, 20), rfl, by decide, rfl, rfl, by decide, tyX7_ok 12 (by decide), rfl, by decide +kernel, rfl, Or.inr ⟨rfl, gn_of (i := 230) (by decide +kernel) rfl⟩⟩
theorem fl_X4_206 : zFL RX4 206 5 513 (tyX7 13) false false true := ⟨rfl, 4, 13, (RX7, TX7, 20), rfl, by decide, rfl, rfl, by decide, tyX7_ok 13 (by decide), rfl, by decide +kernel, rfl, Or.inr ⟨rfl, gn_of (i := 231) (by decide +kernel) rfl⟩⟩
theorem fl_X12_259 : zFL RX12 259 5 513 (tyX7 13) false false true := ⟨rfl, 4, 13, (RX7, TX7, 20), rfl, by decide, rfl, rfl, by decide, tyX7_ok 13 (by decide), rfl, by decide +kernel, rfl, Or.inr ⟨rfl, gn_of (i := 232) (by decide +kernel) rfl⟩⟩
theorem fl_X7_63 : zFL RX7 63 5 514 (tyX7 14) false true false := ⟨rfl, 4, 14, (RX7, TX7, 20), rfl, by decide, rfl, rfl, by decide, tyX7_ok 14 (by decide), rfl, by decide +kernel, rfl, Or.inl ⟨rfl, wd_233⟩⟩
theorem fl_X4_59 : zFL RX4 59 5 514 (tyX7 14) false true true := ⟨rfl, 4, 14, (RX7, TX7, 20), rfl, by decide, rfl, rfl, by decide, tyX7_ok 14 (by decide), rfl, by decide +kernel, rfl, Or.inr ⟨rfl, gn_of (i := 234) (by decide +kernel) rfl⟩⟩
theorem fl_X6_65 : zFL RX6 65 5 514 (tyX7 14) false true true := ⟨rfl, 4, 14, (RX7, TX7, 20), rfl, by decide, rfl, rfl, by decide, tyX7_ok 14 (by decide), rfl, by decide +kernel, rfl, Or.inr ⟨rfl, gn_of (i := 235) (by decide +kernel) rfl⟩⟩
theorem fl_X8_51 : zFL RX8 51 5 514 (tyX7 14) false true true := ⟨rfl, 4, 14, (RX7, TX7, 20), rfl, by decide, rfl, rfl, by decide, tyX7_ok 14 (by decide), rfl, by decide +kernel, rfl, Or.inr ⟨rfl, gn_of (i := 236) (by decide +kernel) rfl⟩⟩
theorem fl_X12_166 : zFL RX12 166 5 514 (tyX7 14) false true true := ⟨rfl, 4, 14, (RX7, TX7, 20), rfl, by decide, rfl, rfl, by decide, tyX7_ok 14 (by decide), rfl, by decide +kernel, rfl, Or.inr ⟨rfl, gn_of (i := 237) (by decide +kernel) rfl⟩⟩
theorem fl_X6_15 : zFL RX6 15 5 515 (tyX7 15) false false true := ⟨rfl, 4, 15, (RX7, TX7, 20), rfl, by decide, rfl, rfl, by decide, tyX7_ok 15 (by decide), rfl, by decide +kernel, rfl, Or.inr ⟨rfl, gn_of (i := 238) (by decide +kernel) rfl⟩⟩
theorem fl_X7_70 : zFL RX7 70 5 515 (tyX7 15) false false false := ⟨rfl, 4, 15, (RX7, TX7, 20), rfl, by decide, rfl, rfl, by decide, tyX7_ok 15 (by decide), rfl, by decide +kernel, rfl, Or.inl ⟨rfl, wd_239⟩⟩
theorem fl_X4_185 : zFL RX4 185 5 515 (tyX7 15) false false true := ⟨rfl, 4, 15, (RX7, TX7, 20), rfl, by decide, rfl, rfl, by decide, tyX7_ok 15 (by decide), rfl, by decide +kernel, rfl, Or.inr ⟨rfl, gn_of (i := 240) (by decide +kernel) rfl⟩⟩
theorem fl_X4_153 : zFL RX4 153 5 516 (tyX7 16) false false true := ⟨rfl, 4, 16, (RX7, TX7, 20), rfl, by decide, rfl, rfl, by decide, tyX7_ok 16 (by decide), rfl, by decide +kernel, rfl, Or.inr ⟨rfl, gn_of (i := 241) (by decide +kernel) rfl⟩⟩
theorem fl_X7_135 : zFL RX7 135 5 516 (tyX7 16) false false false := ⟨rfl, 4, 16, (RX7, TX7, 20), rfl, by decide, rfl, rfl, by decide, tyX7_ok 16 (by decide), rfl, by decide +kernel, rfl, Or.inl ⟨rfl, wd_242⟩⟩
theorem fl_X12_178 : zFL RX12 178 5 517 (tyX7 17) false false true := ⟨rfl, 4, 17, (RX7, TX7, 20), rfl, by decide, rfl, rfl, by decide, tyX7_ok 17 (by decide), rfl, by decide +kernel, rfl, Or.inr ⟨rfl, gn_of (i := 243) (by decide +kernel) rfl⟩⟩
theorem fl_X4_215 : zFL RX4 215 5 517 (tyX7 17) false false true := ⟨rfl, 4, 17, (RX7, TX7, 20), rfl, by decide, rfl, rfl, by decide, tyX7_ok 17 (by decide), rfl, by decide +kernel, rfl, Or.inr ⟨rfl, gn_of (i := 244) (by decide +kernel) rfl⟩⟩
theorem fl_X7_126 : zFL RX7 126 5 517 (tyX7 17) false false false := ⟨rfl, 4, 17, (RX7, TX7, 20), rfl, by decide, rfl, rfl, by decide, tyX7_ok 17 (by decide), rfl, by decide +kernel, rfl, Or.inl ⟨rfl, wd_245⟩⟩
theorem fl_X6_9 : zFL RX6 9 5 518 (tyX7 18) false false true := ⟨rfl, 4, 18, (RX7, TX7, 20), rfl, by decide, rfl, rfl, by decide, tyX7_ok 18 (by decide), rfl, by decide +kernel, rfl, Or.inr ⟨rfl, gn_of (i := 246) (by decide +kernel) rfl⟩⟩
theorem fl_X7_98 : zFL RX7 98 5 518 (tyX7 18) false false false := ⟨rfl, 4, 18, (RX7, TX7, 20), rfl, by decide, rfl, rfl, by decide, tyX7_ok 18 (by decide), rfl, by decide +kernel, rfl, Or.inl ⟨rfl, wd_247⟩⟩
theorem fl_X6_32 : zFL RX6 32 5 519 (tyX7 19) false false true := ⟨rfl, 4, 19, (RX7, TX7, 20), rfl, by decide, rfl, rfl, by decide, tyX7_ok 19 (by decide), rfl, by decide +kernel, rfl, Or.inr ⟨rfl, gn_of (i := 248) (by decide +kernel) rfl⟩⟩
theorem fl_X7_101 : zFL RX7 101 5 519 (tyX7 19) false false false := ⟨rfl, 4, 19, (RX7, TX7, 20), rfl, by decide, rfl, rfl, by decide, tyX7_ok 19 (by decide), rfl, by decide +kernel, rfl, Or.inl ⟨rfl, wd_249⟩⟩
theorem cl_X12_14 : zCl0 RX12 14 yX10_init mX10_init 0 true := ⟨wd_295, wd_8, by decide, ⟨by decide, by decide, by decide +kernel⟩, Or.inr ⟨rfl, gn_of (i := 293) (by decide +kernel) rfl⟩⟩
theorem im_X10_init : Cond.instanceMethod yX10_init ∈ gwl := wd_294
theorem fl_X10_11 : zFL RX10 11 8 800 (tyX10 0) true true false := ⟨rfl, 7, 0, (RX10, TX10, 7), rfl, by decide, rfl, rfl, by decide, tyX10_ok 0 (by decide), rfl, by decide +kernel, rfl, Or.inl ⟨rfl, wd_297⟩⟩
theorem fl_X10_15 : zFL RX10 15 8 801 (tyX10 1) true true false := ⟨rfl, 7, 1, (RX10, TX10, 7), rfl, by decide, rfl, rfl, by decide, tyX10_ok 1 (by decide), rfl, by decide +kernel, rfl, Or.inl ⟨rfl, wd_298⟩⟩
theorem fl_X10_24 : zFL RX10 24 8 802 (tyX10 2) false false false := ⟨rfl, 7, 2, (RX10, TX10, 7), rfl, by decide, rfl, rfl, by decide, tyX10_ok 2 (by decide), rfl, by decide +kernel, rfl, Or.inl ⟨rfl, wd_299⟩⟩
theorem fl_X4_579 : zFL RX4 579 8 802 (tyX10 2) false false true := ⟨rfl, 7, 2, (RX10, TX10, 7), rfl, by decide, rfl, rfl, by decide, tyX10_ok 2 (by decide), rfl, by decide +kernel, rfl, Or.inr ⟨rfl, gn_of (i := 300) (by decide +kernel) rfl⟩⟩
theorem fl_X10_18 : zFL RX10 18 8 803 (tyX10 3) true true false := ⟨rfl, 7, 3, (RX10, TX10, 7), rfl, by decide, rfl, rfl, by decide, tyX10_ok 3 (by decide), rfl, by decide +kernel, rfl, Or.inl ⟨rfl, wd_301⟩⟩
theorem fl_X10_28 : zFL RX10 28 8 804 (tyX10 4) false false false := ⟨rfl, 7, 4, (RX10, TX10, 7), rfl, by decide, rfl, rfl, by decide, tyX10_ok 4 (by decide), rfl, by decide +kernel, rfl, Or.inl ⟨rfl, wd_302⟩⟩
theorem fl_X10_21 : zFL RX10 21 8 805 (tyX10 5) true true false := ⟨rfl, 7, 5, (RX10, TX10, 7), rfl, by decide, rfl, rfl, by decide, tyX10_ok 5 (by decide), rfl, by decide +kernel, rfl, Or.inl ⟨rfl, wd_303⟩⟩
theorem fl_X10_44 : zFL RX10 44 8 806 (tyX10 6) false false false := ⟨rfl, 7, 6, (RX10, TX10, 7), rfl, by decide, rfl, rfl, by decide, tyX10_ok 6 (by decide), rfl, by decide +kernel, rfl, Or.inl ⟨rfl, wd_304⟩⟩
theorem cl_X12_15 : zCl0 RX12 15 yX7_assignRoles mX7_assignRoles 1 true := ⟨wd_322, wd_2, by decide, ⟨by decide, by decide, by decide +kernel⟩, Or.inr ⟨rfl, gn_of (i := 320) (by decide +kernel) rfl⟩⟩
theorem st_X7_assignRoles : Cond.static yX7_assignRoles ∈ gwl := wd_321
theorem cl_X7_104 : zCl0 RX7 104 yX7_assignRole mX7_assignRole 0 false := ⟨wd_326, wd_2, by decide, ⟨by decide, by decide, by decide +kernel⟩, Or.inl ⟨rfl, wd_323⟩⟩
theorem im_X7_assignRole : Cond.instanceMethod yX7_assignRole ∈ gwl := wd_325
theorem cl_X7_111 : zCl0 RX7 111 yX7_findKind mX7_findKind 0 false := ⟨wd_330, wd_2, by decide, ⟨by decide, by decide, by decide +kernel⟩, Or.inl ⟨rfl, wd_327⟩⟩
theorem im_X7_findKind : Cond.instanceMethod yX7_findKind ∈ gwl := wd_329
theorem cl_X7_66 : zCl0 RX7 66 yX7_isText mX7_isText 0 false := ⟨wd_336, wd_2, by decide, ⟨by decide, by decide, by decide +kernel⟩, Or.inl ⟨rfl, wd_333⟩⟩
theorem im_X7_isText : Cond.instanceMethod yX7_isText ∈ gwl := wd_335
theorem cl_X7_115 : zCl0 RX7 115 yX7_countsFor mX7_countsFor 1 false := ⟨wd_352, wd_2, by decide, ⟨by decide, by decide, by decide +kernel⟩, Or.inl ⟨rfl, wd_349⟩⟩
theorem im_X7_countsFor : Cond.instanceMethod yX7_countsFor ∈ gwl := wd_351
theorem im_Jx29ce0_ordinal_8abf5 : Cond.instanceMethod yJx29ce0_ordinal_8abf5 ∈ gwl := wd_359
theorem cl_X7_119 : zCl0 RX7 119 yX7_isInColumns mX7_isInColumns 0 false := ⟨wd_364, wd_2, by decide, ⟨by decide, by decide, by decide +kernel⟩, Or.inl ⟨rfl, wd_361⟩⟩
theorem im_X7_isInColumns : Cond.instanceMethod yX7_isInColumns ∈ gwl := wd_363
theorem cl_X7_122 : zCl0 RX7 122 yX7_countScrollsAround mX7_countScrollsAround 0 false := ⟨wd_368, wd_2, by decide, ⟨by decide, by decide, by decide +kernel⟩, Or.inl ⟨rfl, wd_365⟩⟩
theorem im_X7_countScrollsAround : Cond.instanceMethod yX7_countScrollsAround ∈ gwl := wd_367
theorem cl_X7_107 : zCl0 RX7 107 yX7_onward mX7_onward 3 false := ⟨wd_371, wd_2, by decide, ⟨by decide, by decide, by decide +kernel⟩, Or.inl ⟨rfl, wd_369⟩⟩
theorem st_X7_onward : Cond.static yX7_onward ∈ gwl := wd_370
theorem cl_X12_38 : zCl0 RX12 38 yX4_init mX4_init 2 true := ⟨wd_377, wd_10, by decide, ⟨by decide, by decide, by decide +kernel⟩, Or.inr ⟨rfl, gn_of (i := 375) (by decide +kernel) rfl⟩⟩
theorem im_X4_init : Cond.instanceMethod yX4_init ∈ gwl := wd_376
theorem cl_X4_25 : zCl0 RX4 25 yX2_init mX2_init 0 true := ⟨wd_384, wd_11, by decide, ⟨by decide, by decide, by decide +kernel⟩, Or.inr ⟨rfl, gn_of (i := 382) (by decide +kernel) rfl⟩⟩
theorem im_X2_init : Cond.instanceMethod yX2_init ∈ gwl := wd_383
theorem fl_X2_9 : zFL RX2 9 2 200 (tyX2 0) false false false := ⟨rfl, 1, 0, (RX2, TX2, 20), rfl, by decide, rfl, rfl, by decide, tyX2_ok 0 (by decide), rfl, by decide +kernel, rfl, Or.inl ⟨rfl, wd_386⟩⟩
theorem fl_X4_326 : zFL RX4 326 2 200 (tyX2 0) false false true := ⟨rfl, 1, 0, (RX2, TX2, 20), rfl, by decide, rfl, rfl, by decide, tyX2_ok 0 (by decide), rfl, by decide +kernel, rfl, Or.inr ⟨rfl, gn_of (i := 387) (by decide +kernel) rfl⟩⟩
theorem fl_X2_15 : zFL RX2 15 2 201 (tyX2 1) false false false := ⟨rfl, 1, 1, (RX2, TX2, 20), rfl, by decide, rfl, rfl, by decide, tyX2_ok 1 (by decide), rfl, by decide +kernel, rfl, Or.inl ⟨rfl, wd_388⟩⟩
theorem fl_X2_18 : zFL RX2 18 2 202 (tyX2 2) false false false := ⟨rfl, 1, 2, (RX2, TX2, 20), rfl, by decide, rfl, rfl, by decide, tyX2_ok 2 (by decide), rfl, by decide +kernel, rfl, Or.inl ⟨rfl, wd_389⟩⟩
theorem fl_X2_21 : zFL RX2 21 2 203 (tyX2 3) false true false := ⟨rfl, 1, 3, (RX2, TX2, 20), rfl, by decide, rfl, rfl, by decide, tyX2_ok 3 (by decide), rfl, by decide +kernel, rfl, Or.inl ⟨rfl, wd_390⟩⟩
theorem fl_X4_320 : zFL RX4 320 2 203 (tyX2 3) false true true := ⟨rfl, 1, 3, (RX2, TX2, 20), rfl, by decide, rfl, rfl, by decide, tyX2_ok 3 (by decide), rfl, by decide +kernel, rfl, Or.inr ⟨rfl, gn_of (i := 391) (by decide +kernel) rfl⟩⟩
theorem fl_X2_25 : zFL RX2 25 2 204 (tyX2 4) false true false := ⟨rfl, 1, 4, (RX2, TX2, 20), rfl, by decide, rfl, rfl, by decide, tyX2_ok 4 (by decide), rfl, by decide +kernel, rfl, Or.inl ⟨rfl, wd_392⟩⟩
theorem fl_X2_29 : zFL RX2 29 2 205 (tyX2 5) false true false := ⟨rfl, 1, 5, (RX2, TX2, 20), rfl, by decide, rfl, rfl, by decide, tyX2_ok 5 (by decide), rfl, by decide +kernel, rfl, Or.inl ⟨rfl, wd_393⟩⟩
theorem fl_X2_33 : zFL RX2 33 2 206 (tyX2 6) false false false := ⟨rfl, 1, 6, (RX2, TX2, 20), rfl, by decide, rfl, rfl, by decide, tyX2_ok 6 (by decide), rfl, by decide +kernel, rfl, Or.inl ⟨rfl, wd_394⟩⟩
theorem fl_X4_250 : zFL RX4 250 2 206 (tyX2 6) false false true := ⟨rfl, 1, 6, (RX2, TX2, 20), rfl, by decide, rfl, rfl, by decide, tyX2_ok 6 (by decide), rfl, by decide +kernel, rfl, Or.inr ⟨rfl, gn_of (i := 395) (by decide +kernel) rfl⟩⟩
theorem fl_X2_91 : zFL RX2 91 2 207 (tyX2 7) false false false := ⟨rfl, 1, 7, (RX2, TX2, 20), rfl, by decide, rfl, rfl, by decide, tyX2_ok 7 (by decide), rfl, by decide +kernel, rfl, Or.inl ⟨rfl, wd_396⟩⟩
theorem fl_X4_263 : zFL RX4 263 2 207 (tyX2 7) false false true := ⟨rfl, 1, 7, (RX2, TX2, 20), rfl, by decide, rfl, rfl, by decide, tyX2_ok 7 (by decide), rfl, by decide +kernel, rfl, Or.inr ⟨rfl, gn_of (i := 397) (by decide +kernel) rfl⟩⟩
theorem fl_X2_97 : zFL RX2 97 2 208 (tyX2 8) false false false := ⟨rfl, 1, 8, (RX2, TX2, 20), rfl, by decide, rfl, rfl, by decide, tyX2_ok 8 (by decide), rfl, by decide +kernel, rfl, Or.inl ⟨rfl, wd_398⟩⟩
theorem fl_X4_265 : zFL RX4 265 2 208 (tyX2 8) false false true := ⟨rfl, 1, 8, (RX2, TX2, 20), rfl, by decide, rfl, rfl, by decide, tyX2_ok 8 (by decide), rfl, by decide +kernel, rfl, Or.inr ⟨rfl, gn_of (i := 399) (by decide +kernel) rfl⟩⟩
theorem fl_X2_94 : zFL RX2 94 2 209 (tyX2 9) false false false := ⟨rfl, 1, 9, (RX2, TX2, 20), rfl, by decide, rfl, rfl, by decide, tyX2_ok 9 (by decide), rfl, by decide +kernel, rfl, Or.inl ⟨rfl, wd_400⟩⟩
theorem fl_X4_351 : zFL RX4 351 2 209 (tyX2 9) false false true := ⟨rfl, 1, 9, (RX2, TX2, 20), rfl, by decide, rfl, rfl, by decide, tyX2_ok 9 (by decide), rfl, by decide +kernel, rfl, Or.inr ⟨rfl, gn_of (i := 401) (by decide +kernel) rfl⟩⟩
theorem fl_X2_100 : zFL RX2 100 2 210 (tyX2 10) false false false := ⟨rfl, 1, 10, (RX2, TX2, 20), rfl, by decide, rfl, rfl, by decide, tyX2_ok 10 (by decide), rfl, by decide +kernel, rfl, Or.inl ⟨rfl, wd_402⟩⟩
theorem fl_X4_376 : zFL RX4 376 2 210 (tyX2 10) false false true := ⟨rfl, 1, 10, (RX2, TX2, 20), rfl, by decide, rfl, rfl, by decide, tyX2_ok 10 (by decide), rfl, by decide +kernel, rfl, Or.inr ⟨rfl, gn_of (i := 403) (by decide +kernel) rfl⟩⟩
theorem fl_X2_103 : zFL RX2 103 2 211 (tyX2 11) false false false := ⟨rfl, 1, 11, (RX2, TX2, 20), rfl, by decide, rfl, rfl, by decide, tyX2_ok 11 (by decide), rfl, by decide +kernel, rfl, Or.inl ⟨rfl, wd_404⟩⟩
theorem fl_X4_473 : zFL RX4 473 2 211 (tyX2 11) false false true := ⟨rfl, 1, 11, (RX2, TX2, 20), rfl, by decide, rfl, rfl, by decide, tyX2_ok 11 (by decide), rfl, by decide +kernel, rfl, Or.inr ⟨rfl, gn_of (i := 405) (by decide +kernel) rfl⟩⟩
theorem fl_X2_36 : zFL RX2 36 2 212 (tyX2 12) false true false := ⟨rfl, 1, 12, (RX2, TX2, 20), rfl, by decide, rfl, rfl, by decide, tyX2_ok 12 (by decide), rfl, by decide +kernel, rfl, Or.inl ⟨rfl, wd_406⟩⟩
theorem fl_X4_483 : zFL RX4 483 2 212 (tyX2 12) false true true := ⟨rfl, 1, 12, (RX2, TX2, 20), rfl, by decide, rfl, rfl, by decide, tyX2_ok 12 (by decide), rfl, by decide +kernel, rfl, Or.inr ⟨rfl, gn_of (i := 407) (by decide +kernel) rfl⟩⟩
theorem fl_X2_40 : zFL RX2 40 2 213 (tyX2 13) false false false := ⟨rfl, 1, 13, (RX2, TX2, 20), rfl, by decide, rfl, rfl, by decide, tyX2_ok 13 (by decide), rfl, by decide +kernel, rfl, Or.inl ⟨rfl, wd_408⟩⟩
theorem fl_X4_458 : zFL RX4 458 2 213 (tyX2 13) false false true := ⟨rfl, 1, 13, (RX2, TX2, 20), rfl, by decide, rfl, rfl, by decide, tyX2_ok 13 (by decide), rfl, by decide +kernel, rfl, Or.inr ⟨rfl, gn_of (i := 409) (by decide +kernel) rfl⟩⟩
theorem fl_X2_43 : zFL RX2 43 2 214 (tyX2 14) false false false := ⟨rfl, 1, 14, (RX2, TX2, 20), rfl, by decide, rfl, rfl, by decide, tyX2_ok 14 (by decide), rfl, by decide +kernel, rfl, Or.inl ⟨rfl, wd_410⟩⟩
theorem fl_X4_490 : zFL RX4 490 2 214 (tyX2 14) false false true := ⟨rfl, 1, 14, (RX2, TX2, 20), rfl, by decide, rfl, rfl, by decide, tyX2_ok 14 (by decide), rfl, by decide +kernel, rfl, Or.inr ⟨rfl, gn_of (i := 411) (by decide +kernel) rfl⟩⟩
theorem fl_X4_484 : zFL RX4 484 2 215 (tyX2 15) false false true := ⟨rfl, 1, 15, (RX2, TX2, 20), rfl, by decide, rfl, rfl, by decide, tyX2_ok 15 (by decide), rfl, by decide +kernel, rfl, Or.inr ⟨rfl, gn_of (i := 412) (by decide +kernel) rfl⟩⟩
theorem fl_X4_485 : zFL RX4 485 2 216 (tyX2 16) false false true := ⟨rfl, 1, 16, (RX2, TX2, 20), rfl, by decide, rfl, rfl, by decide, tyX2_ok 16 (by decide), rfl, by decide +kernel, rfl, Or.inr ⟨rfl, gn_of (i := 413) (by decide +kernel) rfl⟩⟩
theorem fl_X4_455 : zFL RX4 455 2 217 (tyX2 17) false false true := ⟨rfl, 1, 17, (RX2, TX2, 20), rfl, by decide, rfl, rfl, by decide, tyX2_ok 17 (by decide), rfl, by decide +kernel, rfl, Or.inr ⟨rfl, gn_of (i := 414) (by decide +kernel) rfl⟩⟩
theorem fl_X2_46 : zFL RX2 46 2 218 (tyX2 18) false true false := ⟨rfl, 1, 18, (RX2, TX2, 20), rfl, by decide, rfl, rfl, by decide, tyX2_ok 18 (by decide), rfl, by decide +kernel, rfl, Or.inl ⟨rfl, wd_415⟩⟩
theorem fl_X4_500 : zFL RX4 500 2 218 (tyX2 18) false true true := ⟨rfl, 1, 18, (RX2, TX2, 20), rfl, by decide, rfl, rfl, by decide, tyX2_ok 18 (by decide), rfl, by decide +kernel, rfl, Or.inr ⟨rfl, gn_of (i := 416) (by decide +kernel) rfl⟩⟩
theorem fl_X2_49 : zFL RX2 49 2 219 (tyX2 19) false true false := ⟨rfl, 1, 19, (RX2, TX2, 20), rfl, by decide, rfl, rfl, by decide, tyX2_ok 19 (by decide), rfl, by decide +kernel, rfl, Or.inl ⟨rfl, wd_417⟩⟩
theorem fl_X4_503 : zFL RX4 503 2 219 (tyX2 19) false true true := ⟨rfl, 1, 19, (RX2, TX2, 20), rfl, by decide, rfl, rfl, by decide, tyX2_ok 19 (by decide), rfl, by decide +kernel, rfl, Or.inr ⟨rfl, gn_of (i := 418) (by decide +kernel) rfl⟩⟩
theorem fl_X4_9 : zFL RX4 9 3 300 (tyX4 0) true false false := ⟨rfl, 2, 0, (RX4, TX4, 6), rfl, by decide, rfl, rfl, by decide, tyX4_ok 0 (by decide), rfl, by decide +kernel, rfl, Or.inl ⟨rfl, wd_460⟩⟩
theorem fl_X4_15 : zFL RX4 15 3 301 (tyX4 1) true true false := ⟨rfl, 2, 1, (RX4, TX4, 6), rfl, by decide, rfl, rfl, by decide, tyX4_ok 1 (by decide), rfl, by decide +kernel, rfl, Or.inl ⟨rfl, wd_461⟩⟩
theorem fl_X4_21 : zFL RX4 21 3 302 (tyX4 2) true true false := ⟨rfl, 2, 2, (RX4, TX4, 6), rfl, by decide, rfl, rfl, by decide, tyX4_ok 2 (by decide), rfl, by decide +kernel, rfl, Or.inl ⟨rfl, wd_462⟩⟩
theorem fl_X4_514 : zFL RX4 514 3 303 (tyX4 3) false true false := ⟨rfl, 2, 3, (RX4, TX4, 6), rfl, by decide, rfl, rfl, by decide, tyX4_ok 3 (by decide), rfl, by decide +kernel, rfl, Or.inl ⟨rfl, wd_463⟩⟩
theorem fl_X4_49 : zFL RX4 49 3 304 (tyX4 4) false false false := ⟨rfl, 2, 4, (RX4, TX4, 6), rfl, by decide, rfl, rfl, by decide, tyX4_ok 4 (by decide), rfl, by decide +kernel, rfl, Or.inl ⟨rfl, wd_464⟩⟩
theorem fl_X4_52 : zFL RX4 52 3 305 (tyX4 5) false false false := ⟨rfl, 2, 5, (RX4, TX4, 6), rfl, by decide, rfl, rfl, by decide, tyX4_ok 5 (by decide), rfl, by decide +kernel, rfl, Or.inl ⟨rfl, wd_465⟩⟩
theorem cl_X12_50 : zCl0 RX12 50 yX8_init mX8_init 0 true := ⟨wd_483, wd_12, by decide, ⟨by decide, by decide, by decide +kernel⟩, Or.inr ⟨rfl, gn_of (i := 481) (by decide +kernel) rfl⟩⟩
theorem im_X8_init : Cond.instanceMethod yX8_init ∈ gwl := wd_482
theorem fl_X8_11 : zFL RX8 11 6 600 (tyX8 0) true true false := ⟨rfl, 5, 0, (RX8, TX8, 2), rfl, by decide, rfl, rfl, by decide, tyX8_ok 0 (by decide), rfl, by decide +kernel, rfl, Or.inl ⟨rfl, wd_486⟩⟩
theorem fl_X8_17 : zFL RX8 17 6 601 (tyX8 1) false false false := ⟨rfl, 5, 1, (RX8, TX8, 2), rfl, by decide, rfl, rfl, by decide, tyX8_ok 1 (by decide), rfl, by decide +kernel, rfl, Or.inl ⟨rfl, wd_487⟩⟩
theorem fl_X12_233 : zFL RX12 233 6 601 (tyX8 1) false false true := ⟨rfl, 5, 1, (RX8, TX8, 2), rfl, by decide, rfl, rfl, by decide, tyX8_ok 1 (by decide), rfl, by decide +kernel, rfl, Or.inr ⟨rfl, gn_of (i := 488) (by decide +kernel) rfl⟩⟩
theorem cl_X12_55 : zCl0 RX12 55 yX4_layAll mX4_layAll 3 true := ⟨wd_497, wd_10, by decide, ⟨by decide, by decide, by decide +kernel⟩, Or.inr ⟨rfl, gn_of (i := 494) (by decide +kernel) rfl⟩⟩
theorem im_X4_layAll : Cond.instanceMethod yX4_layAll ∈ gwl := wd_496
theorem cl_X4_55 : zCl0 RX4 55 yX4_layOut mX4_layOut 3 false := ⟨wd_501, wd_10, by decide, ⟨by decide, by decide, by decide +kernel⟩, Or.inl ⟨rfl, wd_498⟩⟩
theorem im_X4_layOut : Cond.instanceMethod yX4_layOut ∈ gwl := wd_500
theorem cl_X4_35 : zCl0 RX4 35 yX4_placeOf mX4_placeOf 1 false := ⟨wd_505, wd_10, by decide, ⟨by decide, by decide, by decide +kernel⟩, Or.inl ⟨rfl, wd_502⟩⟩
theorem im_X4_placeOf : Cond.instanceMethod yX4_placeOf ∈ gwl := wd_504
theorem cl_X4_200 : zCl0 RX4 200 yX4_layTable mX4_layTable 2 false := ⟨wd_509, wd_10, by decide, ⟨by decide, by decide, by decide +kernel⟩, Or.inl ⟨rfl, wd_506⟩⟩
theorem im_X4_layTable : Cond.instanceMethod yX4_layTable ∈ gwl := wd_508
theorem cl_X4_526 : zCl0 RX4 526 yX6_countColumns mX6_countColumns 1 true := ⟨wd_512, wd_13, by decide, ⟨by decide, by decide, by decide +kernel⟩, Or.inr ⟨rfl, gn_of (i := 510) (by decide +kernel) rfl⟩⟩
theorem st_X6_countColumns : Cond.static yX6_countColumns ∈ gwl := wd_511
theorem cl_X4_529 : zCl0 RX4 529 yX4_placeEvenly mX4_placeEvenly 3 false := ⟨wd_521, wd_10, by decide, ⟨by decide, by decide, by decide +kernel⟩, Or.inl ⟨rfl, wd_518⟩⟩
theorem im_X4_placeEvenly : Cond.instanceMethod yX4_placeEvenly ∈ gwl := wd_520
theorem cl_X4_544 : zCl0 RX4 544 yX4_placeColumn mX4_placeColumn 4 false := ⟨wd_525, wd_10, by decide, ⟨by decide, by decide, by decide +kernel⟩, Or.inl ⟨rfl, wd_522⟩⟩
theorem im_X4_placeColumn : Cond.instanceMethod yX4_placeColumn ∈ gwl := wd_524
theorem cl_X4_557 : zCl0 RX4 557 yX6_cellAt mX6_cellAt 2 true := ⟨wd_528, wd_13, by decide, ⟨by decide, by decide, by decide +kernel⟩, Or.inr ⟨rfl, gn_of (i := 526) (by decide +kernel) rfl⟩⟩
theorem st_X6_cellAt : Cond.static yX6_cellAt ∈ gwl := wd_527
theorem cl_X4_329 : zCl0 RX4 329 yX7_flatEdges mX7_flatEdges 0 true := ⟨wd_532, wd_2, by decide, ⟨by decide, by decide, by decide +kernel⟩, Or.inr ⟨rfl, gn_of (i := 529) (by decide +kernel) rfl⟩⟩
theorem im_X7_flatEdges : Cond.instanceMethod yX7_flatEdges ∈ gwl := wd_531
theorem cl_X4_532 : zCl0 RX4 532 yX4_placeByContent mX4_placeByContent 3 false := ⟨wd_536, wd_10, by decide, ⟨by decide, by decide, by decide +kernel⟩, Or.inl ⟨rfl, wd_533⟩⟩
theorem im_X4_placeByContent : Cond.instanceMethod yX4_placeByContent ∈ gwl := wd_535
theorem cl_X4_548 : zCl0 RX4 548 yX6_leastOfColumn mX6_leastOfColumn 2 true := ⟨wd_539, wd_13, by decide, ⟨by decide, by decide, by decide +kernel⟩, Or.inr ⟨rfl, gn_of (i := 537) (by decide +kernel) rfl⟩⟩
theorem st_X6_leastOfColumn : Cond.static yX6_leastOfColumn ∈ gwl := wd_538
theorem cl_X6_124 : zCl0 RX6 124 yX6_cellAt mX6_cellAt 2 false := ⟨wd_528, wd_13, by decide, ⟨by decide, by decide, by decide +kernel⟩, Or.inl ⟨rfl, wd_540⟩⟩
theorem cl_X6_83 : zCl0 RX6 83 yX6_outerLeast mX6_outerLeast 1 false := ⟨wd_543, wd_13, by decide, ⟨by decide, by decide, by decide +kernel⟩, Or.inl ⟨rfl, wd_541⟩⟩
theorem st_X6_outerLeast : Cond.static yX6_outerLeast ∈ gwl := wd_542
theorem cl_X6_45 : zCl0 RX6 45 yX6_mostOf mX6_mostOf 1 false := ⟨wd_546, wd_13, by decide, ⟨by decide, by decide, by decide +kernel⟩, Or.inl ⟨rfl, wd_544⟩⟩
theorem st_X6_mostOf : Cond.static yX6_mostOf ∈ gwl := wd_545
theorem cl_X6_35 : zCl0 RX6 35 yX6_mostOfTable mX6_mostOfTable 1 false := ⟨wd_549, wd_13, by decide, ⟨by decide, by decide, by decide +kernel⟩, Or.inl ⟨rfl, wd_547⟩⟩
theorem st_X6_mostOfTable : Cond.static yX6_mostOfTable ∈ gwl := wd_548
theorem cl_X6_128 : zCl0 RX6 128 yX6_countColumns mX6_countColumns 1 false := ⟨wd_512, wd_13, by decide, ⟨by decide, by decide, by decide +kernel⟩, Or.inl ⟨rfl, wd_550⟩⟩
theorem cl_X6_138 : zCl0 RX6 138 yX6_mostOfColumn mX6_mostOfColumn 2 false := ⟨wd_553, wd_13, by decide, ⟨by decide, by decide, by decide +kernel⟩, Or.inl ⟨rfl, wd_551⟩⟩
theorem st_X6_mostOfColumn : Cond.static yX6_mostOfColumn ∈ gwl := wd_552
theorem cl_X6_111 : zCl0 RX6 111 yX6_outerMost mX6_outerMost 1 false := ⟨wd_556, wd_13, by decide, ⟨by decide, by decide, by decide +kernel⟩, Or.inl ⟨rfl, wd_554⟩⟩
theorem st_X6_outerMost : Cond.static yX6_outerMost ∈ gwl := wd_555
theorem cl_X6_48 : zCl0 RX6 48 yX6_leastOf mX6_leastOf 1 false := ⟨wd_559, wd_13, by decide, ⟨by decide, by decide, by decide +kernel⟩, Or.inl ⟨rfl, wd_557⟩⟩
theorem st_X6_leastOf : Cond.static yX6_leastOf ∈ gwl := wd_558
theorem cl_X6_19 : zCl0 RX6 19 yX6_leastOfTable mX6_leastOfTable 1 false := ⟨wd_562, wd_13, by decide, ⟨by decide, by decide, by decide +kernel⟩, Or.inl ⟨rfl, wd_560⟩⟩
theorem st_X6_leastOfTable : Cond.static yX6_leastOfTable ∈ gwl := wd_561
theorem cl_X6_131 : zCl0 RX6 131 yX6_leastOfColumn mX6_leastOfColumn 2 false := ⟨wd_539, wd_13, by decide, ⟨by decide, by decide, by decide +kernel⟩, Or.inl ⟨rfl, wd_563⟩⟩
theorem cl_X6_134 : zCl0 RX6 134 yX6_besideEachOther mX6_besideEachOther 4 false := ⟨wd_566, wd_13, by decide, ⟨by decide, by decide, by decide +kernel⟩, Or.inl ⟨rfl, wd_564⟩⟩
theorem st_X6_besideEachOther : Cond.static yX6_besideEachOther ∈ gwl := wd_565
theorem cl_X6_25 : zCl0 RX6 25 yX6_leastInside mX6_leastInside 1 false := ⟨wd_569, wd_13, by decide, ⟨by decide, by decide, by decide +kernel⟩, Or.inl ⟨rfl, wd_567⟩⟩
theorem st_X6_leastInside : Cond.static yX6_leastInside ∈ gwl := wd_568
theorem cl_X6_74 : zCl0 RX6 74 yX6_leastOfWords mX6_leastOfWords 1 false := ⟨wd_573, wd_13, by decide, ⟨by decide, by decide, by decide +kernel⟩, Or.inl ⟨rfl, wd_571⟩⟩
theorem st_X6_leastOfWords : Cond.static yX6_leastOfWords ∈ gwl := wd_572
theorem cl_X6_86 : zCl0 RX6 86 yX7_onward mX7_onward 3 true := ⟨wd_371, wd_2, by decide, ⟨by decide, by decide, by decide +kernel⟩, Or.inr ⟨rfl, gn_of (i := 576) (by decide +kernel) rfl⟩⟩
theorem cl_X6_28 : zCl0 RX6 28 yX6_inColumns mX6_inColumns 2 false := ⟨wd_579, wd_13, by decide, ⟨by decide, by decide, by decide +kernel⟩, Or.inl ⟨rfl, wd_577⟩⟩
theorem st_X6_inColumns : Cond.static yX6_inColumns ∈ gwl := wd_578
theorem cl_X6_51 : zCl0 RX6 51 yX7_flatRim mX7_flatRim 0 true := ⟨wd_583, wd_2, by decide, ⟨by decide, by decide, by decide +kernel⟩, Or.inr ⟨rfl, gn_of (i := 580) (by decide +kernel) rfl⟩⟩
theorem im_X7_flatRim : Cond.instanceMethod yX7_flatRim ∈ gwl := wd_582
theorem cl_X6_38 : zCl0 RX6 38 yX6_mostInside mX6_mostInside 1 false := ⟨wd_586, wd_13, by decide, ⟨by decide, by decide, by decide +kernel⟩, Or.inl ⟨rfl, wd_584⟩⟩
theorem st_X6_mostInside : Cond.static yX6_mostInside ∈ gwl := wd_585
theorem cl_X6_99 : zCl0 RX6 99 yX3_isInLines mX3_isInLines 0 true := ⟨wd_591, wd_7, by decide, ⟨by decide, by decide, by decide +kernel⟩, Or.inr ⟨rfl, gn_of (i := 587) (by decide +kernel) rfl⟩⟩
theorem im_X3_isInLines : Cond.instanceMethod yX3_isInLines ∈ gwl := wd_589
theorem cl_X6_103 : zCl0 RX6 103 yX7_endOfRun mX7_endOfRun 1 true := ⟨wd_597, wd_2, by decide, ⟨by decide, by decide, by decide +kernel⟩, Or.inr ⟨rfl, gn_of (i := 595) (by decide +kernel) rfl⟩⟩
theorem st_X7_endOfRun : Cond.static yX7_endOfRun ∈ gwl := wd_596
theorem cl_X7_86 : zCl0 RX7 86 yX7_mayStandInRun mX7_mayStandInRun 0 false := ⟨wd_601, wd_2, by decide, ⟨by decide, by decide, by decide +kernel⟩, Or.inl ⟨rfl, wd_598⟩⟩
theorem im_X7_mayStandInRun : Cond.instanceMethod yX7_mayStandInRun ∈ gwl := wd_600
theorem cl_X7_89 : zCl0 RX7 89 yX3_isInLines mX3_isInLines 0 true := ⟨wd_591, wd_7, by decide, ⟨by decide, by decide, by decide +kernel⟩, Or.inr ⟨rfl, gn_of (i := 602) (by decide +kernel) rfl⟩⟩
theorem cl_X6_107 : zCl0 RX6 107 yX6_mostOfRun mX6_mostOfRun 2 false := ⟨wd_605, wd_13, by decide, ⟨by decide, by decide, by decide +kernel⟩, Or.inl ⟨rfl, wd_603⟩⟩
theorem st_X6_mostOfRun : Cond.static yX6_mostOfRun ∈ gwl := wd_604
theorem cl_X6_117 : zCl0 RX6 117 yX7_onwardInRun mX7_onwardInRun 2 true := ⟨wd_608, wd_2, by decide, ⟨by decide, by decide, by decide +kernel⟩, Or.inr ⟨rfl, gn_of (i := 606) (by decide +kernel) rfl⟩⟩
theorem st_X7_onwardInRun : Cond.static yX7_onwardInRun ∈ gwl := wd_607
theorem cl_X4_551 : zCl0 RX4 551 yX4_lackOf mX4_lackOf 2 false := ⟨wd_611, wd_10, by decide, ⟨by decide, by decide, by decide +kernel⟩, Or.inl ⟨rfl, wd_609⟩⟩
theorem st_X4_lackOf : Cond.static yX4_lackOf ∈ gwl := wd_610
theorem cl_X4_554 : zCl0 RX4 554 yX6_mostOfColumn mX6_mostOfColumn 2 true := ⟨wd_553, wd_13, by decide, ⟨by decide, by decide, by decide +kernel⟩, Or.inr ⟨rfl, gn_of (i := 612) (by decide +kernel) rfl⟩⟩
theorem cl_X4_169 : zCl0 RX4 169 yX4_partOf mX4_partOf 3 false := ⟨wd_618, wd_10, by decide, ⟨by decide, by decide, by decide +kernel⟩, Or.inl ⟨rfl, wd_616⟩⟩
theorem st_X4_partOf : Cond.static yX4_partOf ∈ gwl := wd_617
theorem cl_X4_538 : zCl0 RX4 538 yX4_layRow mX4_layRow 2 false := ⟨wd_623, wd_10, by decide, ⟨by decide, by decide, by decide +kernel⟩, Or.inl ⟨rfl, wd_620⟩⟩
theorem im_X4_layRow : Cond.instanceMethod yX4_layRow ∈ gwl := wd_622
theorem cl_X4_101 : zCl0 RX4 101 yX4_heightIn mX4_heightIn 2 false := ⟨wd_627, wd_10, by decide, ⟨by decide, by decide, by decide +kernel⟩, Or.inl ⟨rfl, wd_625⟩⟩
theorem st_X4_heightIn : Cond.static yX4_heightIn ∈ gwl := wd_626
theorem cl_X4_357 : zCl0 RX4 357 yX7_uprightEdges mX7_uprightEdges 0 true := ⟨wd_631, wd_2, by decide, ⟨by decide, by decide, by decide +kernel⟩, Or.inr ⟨rfl, gn_of (i := 628) (by decide +kernel) rfl⟩⟩
theorem im_X7_uprightEdges : Cond.instanceMethod yX7_uprightEdges ∈ gwl := wd_630
theorem cl_X4_218 : zCl0 RX4 218 yX4_layWithBars mX4_layWithBars 2 false := ⟨wd_635, wd_10, by decide, ⟨by decide, by decide, by decide +kernel⟩, Or.inl ⟨rfl, wd_632⟩⟩
theorem im_X4_layWithBars : Cond.instanceMethod yX4_layWithBars ∈ gwl := wd_634
theorem cl_X4_227 : zCl0 RX4 227 yX4_flowContext mX4_flowContext 2 false := ⟨wd_639, wd_10, by decide, ⟨by decide, by decide, by decide +kernel⟩, Or.inl ⟨rfl, wd_636⟩⟩
theorem im_X4_flowContext : Cond.instanceMethod yX4_flowContext ∈ gwl := wd_638
theorem cl_X4_233 : zCl0 RX4 233 yX4_flowOf mX4_flowOf 1 false := ⟨wd_643, wd_10, by decide, ⟨by decide, by decide, by decide +kernel⟩, Or.inl ⟨rfl, wd_640⟩⟩
theorem im_X4_flowOf : Cond.instanceMethod yX4_flowOf ∈ gwl := wd_642
theorem cl_X4_237 : zCl0 RX4 237 yX2_begin mX2_begin 0 true := ⟨wd_647, wd_11, by decide, ⟨by decide, by decide, by decide +kernel⟩, Or.inr ⟨rfl, gn_of (i := 644) (by decide +kernel) rfl⟩⟩
theorem im_X2_begin : Cond.instanceMethod yX2_begin ∈ gwl := wd_646
theorem cl_X4_240 : zCl0 RX4 240 yX4_flowContainer mX4_flowContainer 4 false := ⟨wd_652, wd_10, by decide, ⟨by decide, by decide, by decide +kernel⟩, Or.inl ⟨rfl, wd_649⟩⟩
theorem im_X4_flowContainer : Cond.instanceMethod yX4_flowContainer ∈ gwl := wd_651
theorem cl_X4_256 : zCl0 RX4 256 yX4_freeLines mX4_freeLines 1 false := ⟨wd_656, wd_10, by decide, ⟨by decide, by decide, by decide +kernel⟩, Or.inl ⟨rfl, wd_653⟩⟩
theorem im_X4_freeLines : Cond.instanceMethod yX4_freeLines ∈ gwl := wd_655
theorem cl_X4_266 : zCl0 RX4 266 yX3_isInLines mX3_isInLines 0 true := ⟨wd_591, wd_7, by decide, ⟨by decide, by decide, by decide +kernel⟩, Or.inr ⟨rfl, gn_of (i := 657) (by decide +kernel) rfl⟩⟩
theorem cl_X4_269 : zCl0 RX4 269 yX7_endOfRun mX7_endOfRun 1 true := ⟨wd_597, wd_2, by decide, ⟨by decide, by decide, by decide +kernel⟩, Or.inr ⟨rfl, gn_of (i := 658) (by decide +kernel) rfl⟩⟩
theorem cl_X4_272 : zCl0 RX4 272 yX4_hasThings mX4_hasThings 2 false := ⟨wd_661, wd_10, by decide, ⟨by decide, by decide, by decide +kernel⟩, Or.inl ⟨rfl, wd_659⟩⟩
theorem st_X4_hasThings : Cond.static yX4_hasThings ∈ gwl := wd_660
theorem cl_X4_393 : zCl0 RX4 393 yX7_onwardInRun mX7_onwardInRun 2 true := ⟨wd_608, wd_2, by decide, ⟨by decide, by decide, by decide +kernel⟩, Or.inr ⟨rfl, gn_of (i := 663) (by decide +kernel) rfl⟩⟩
theorem cl_X4_276 : zCl0 RX4 276 yX4_flowLines mX4_flowLines 4 false := ⟨wd_667, wd_10, by decide, ⟨by decide, by decide, by decide +kernel⟩, Or.inl ⟨rfl, wd_664⟩⟩
theorem im_X4_flowLines : Cond.instanceMethod yX4_flowLines ∈ gwl := wd_666
theorem cl_X4_244 : zCl0 RX4 244 yX2_endMargins mX2_endMargins 0 true := ⟨wd_671, wd_11, by decide, ⟨by decide, by decide, by decide +kernel⟩, Or.inr ⟨rfl, gn_of (i := 668) (by decide +kernel) rfl⟩⟩
theorem im_X2_endMargins : Cond.instanceMethod yX2_endMargins ∈ gwl := wd_670
theorem cl_X2_61 : zCl0 RX2 61 yX2_pendingY mX2_pendingY 0 false := ⟨wd_675, wd_11, by decide, ⟨by decide, by decide, by decide +kernel⟩, Or.inl ⟨rfl, wd_672⟩⟩
theorem im_X2_pendingY : Cond.instanceMethod yX2_pendingY ∈ gwl := wd_674
theorem cl_X2_65 : zCl0 RX2 65 yX2_dropMargins mX2_dropMargins 0 false := ⟨wd_679, wd_11, by decide, ⟨by decide, by decide, by decide +kernel⟩, Or.inl ⟨rfl, wd_676⟩⟩
theorem im_X2_dropMargins : Cond.instanceMethod yX2_dropMargins ∈ gwl := wd_678
theorem cl_X4_405 : zCl0 RX4 405 yX4_addWords mX4_addWords 3 false := ⟨wd_685, wd_10, by decide, ⟨by decide, by decide, by decide +kernel⟩, Or.inl ⟨rfl, wd_682⟩⟩
theorem im_X4_addWords : Cond.instanceMethod yX4_addWords ∈ gwl := wd_684
theorem cl_X4_426 : zCl0 RX4 426 yX4_shiftOf mX4_shiftOf 1 false := ⟨wd_688, wd_10, by decide, ⟨by decide, by decide, by decide +kernel⟩, Or.inl ⟨rfl, wd_686⟩⟩
theorem st_X4_shiftOf : Cond.static yX4_shiftOf ∈ gwl := wd_687
theorem cl_X4_122 : zCl0 RX4 122 yX7_isText mX7_isText 0 true := ⟨wd_336, wd_2, by decide, ⟨by decide, by decide, by decide +kernel⟩, Or.inr ⟨rfl, gn_of (i := 689) (by decide +kernel) rfl⟩⟩
theorem cl_X4_156 : zCl0 RX4 156 yX9_pieceAt mX9_pieceAt 1 true := ⟨wd_694, wd_3, by decide, ⟨by decide, by decide, by decide +kernel⟩, Or.inr ⟨rfl, gn_of (i := 691) (by decide +kernel) rfl⟩⟩
theorem im_X9_pieceAt : Cond.instanceMethod yX9_pieceAt ∈ gwl := wd_693
theorem cl_X4_448 : zCl0 RX4 448 yX4_addThing mX4_addThing 5 false := ⟨wd_698, wd_10, by decide, ⟨by decide, by decide, by decide +kernel⟩, Or.inl ⟨rfl, wd_695⟩⟩
theorem im_X4_addThing : Cond.instanceMethod yX4_addThing ∈ gwl := wd_697
theorem cl_X4_461 : zCl0 RX4 461 yX2_look mX2_look 2 true := ⟨wd_702, wd_11, by decide, ⟨by decide, by decide, by decide +kernel⟩, Or.inr ⟨rfl, gn_of (i := 699) (by decide +kernel) rfl⟩⟩
theorem im_X2_look : Cond.instanceMethod yX2_look ∈ gwl := wd_701
theorem cl_X2_106 : zCl0 RX2 106 yX1_reachesInto mX1_reachesInto 4 true := ⟨wd_707, wd_4, by decide, ⟨by decide, by decide, by decide +kernel⟩, Or.inr ⟨rfl, gn_of (i := 704) (by decide +kernel) rfl⟩⟩
theorem im_X1_reachesInto : Cond.instanceMethod yX1_reachesInto ∈ gwl := wd_706
theorem cl_X4_465 : zCl0 RX4 465 yX2_fits mX2_fits 1 true := ⟨wd_712, wd_11, by decide, ⟨by decide, by decide, by decide +kernel⟩, Or.inr ⟨rfl, gn_of (i := 709) (by decide +kernel) rfl⟩⟩
theorem im_X2_fits : Cond.instanceMethod yX2_fits ∈ gwl := wd_711
theorem cl_X2_133 : zCl0 RX2 133 yX2_nextOffset mX2_nextOffset 0 false := ⟨wd_716, wd_11, by decide, ⟨by decide, by decide, by decide +kernel⟩, Or.inl ⟨rfl, wd_713⟩⟩
theorem im_X2_nextOffset : Cond.instanceMethod yX2_nextOffset ∈ gwl := wd_715
theorem cl_X2_118 : zCl0 RX2 118 yX2_band mX2_band 0 false := ⟨wd_720, wd_11, by decide, ⟨by decide, by decide, by decide +kernel⟩, Or.inl ⟨rfl, wd_717⟩⟩
theorem im_X2_band : Cond.instanceMethod yX2_band ∈ gwl := wd_719
theorem cl_X4_469 : zCl0 RX4 469 yX4_putThing mX4_putThing 3 false := ⟨wd_724, wd_10, by decide, ⟨by decide, by decide, by decide +kernel⟩, Or.inl ⟨rfl, wd_721⟩⟩
theorem im_X4_putThing : Cond.instanceMethod yX4_putThing ∈ gwl := wd_723
theorem cl_X4_479 : zCl0 RX4 479 yX4_addLine mX4_addLine 1 false := ⟨wd_728, wd_10, by decide, ⟨by decide, by decide, by decide +kernel⟩, Or.inl ⟨rfl, wd_725⟩⟩
theorem im_X4_addLine : Cond.instanceMethod yX4_addLine ∈ gwl := wd_727
theorem cl_X4_517 : zCl0 RX4 517 yX5_init mX5_init 0 true := ⟨wd_733, wd_15, by decide, ⟨by decide, by decide, by decide +kernel⟩, Or.inr ⟨rfl, gn_of (i := 731) (by decide +kernel) rfl⟩⟩
theorem im_X5_init : Cond.instanceMethod yX5_init ∈ gwl := wd_732
theorem fl_X11_13 : zF0 RX11 13 4 400 .long false true true := ⟨3, 0, (RX5, TX5, 6), rfl, by decide, rfl, rfl, by decide, tyX5_ok 0 (by decide), rfl, by decide +kernel, rfl, Or.inr ⟨rfl, gn_of (i := 735) (by decide +kernel) rfl⟩⟩
theorem fl_X12_211 : zF0 RX12 211 4 400 .long false true true := ⟨3, 0, (RX5, TX5, 6), rfl, by decide, rfl, rfl, by decide, tyX5_ok 0 (by decide), rfl, by decide +kernel, rfl, Or.inr ⟨rfl, gn_of (i := 736) (by decide +kernel) rfl⟩⟩
theorem fl_X4_493 : zF0 RX4 493 4 400 .long false true true := ⟨3, 0, (RX5, TX5, 6), rfl, by decide, rfl, rfl, by decide, tyX5_ok 0 (by decide), rfl, by decide +kernel, rfl, Or.inr ⟨rfl, gn_of (i := 737) (by decide +kernel) rfl⟩⟩
theorem fl_X11_23 : zFL RX11 23 4 401 (tyX5 1) false false true := ⟨rfl, 3, 1, (RX5, TX5, 6), rfl, by decide, rfl, rfl, by decide, tyX5_ok 1 (by decide), rfl, by decide +kernel, rfl, Or.inr ⟨rfl, gn_of (i := 738) (by decide +kernel) rfl⟩⟩
theorem fl_X12_217 : zFL RX12 217 4 401 (tyX5 1) false false true := ⟨rfl, 3, 1, (RX5, TX5, 6), rfl, by decide, rfl, rfl, by decide, tyX5_ok 1 (by decide), rfl, by decide +kernel, rfl, Or.inr ⟨rfl, gn_of (i := 739) (by decide +kernel) rfl⟩⟩
theorem fl_X4_496 : zFL RX4 496 4 401 (tyX5 1) false false true := ⟨rfl, 3, 1, (RX5, TX5, 6), rfl, by decide, rfl, rfl, by decide, tyX5_ok 1 (by decide), rfl, by decide +kernel, rfl, Or.inr ⟨rfl, gn_of (i := 740) (by decide +kernel) rfl⟩⟩
theorem fl_X12_220 : zFL RX12 220 4 402 (tyX5 2) false false true := ⟨rfl, 3, 2, (RX5, TX5, 6), rfl, by decide, rfl, rfl, by decide, tyX5_ok 2 (by decide), rfl, by decide +kernel, rfl, Or.inr ⟨rfl, gn_of (i := 741) (by decide +kernel) rfl⟩⟩
theorem fl_X4_497 : zFL RX4 497 4 402 (tyX5 2) false false true := ⟨rfl, 3, 2, (RX5, TX5, 6), rfl, by decide, rfl, rfl, by decide, tyX5_ok 2 (by decide), rfl, by decide +kernel, rfl, Or.inr ⟨rfl, gn_of (i := 742) (by decide +kernel) rfl⟩⟩
theorem fl_X12_223 : zFL RX12 223 4 403 (tyX5 3) false false true := ⟨rfl, 3, 3, (RX5, TX5, 6), rfl, by decide, rfl, rfl, by decide, tyX5_ok 3 (by decide), rfl, by decide +kernel, rfl, Or.inr ⟨rfl, gn_of (i := 743) (by decide +kernel) rfl⟩⟩
theorem fl_X4_499 : zFL RX4 499 4 403 (tyX5 3) false false true := ⟨rfl, 3, 3, (RX5, TX5, 6), rfl, by decide, rfl, rfl, by decide, tyX5_ok 3 (by decide), rfl, by decide +kernel, rfl, Or.inr ⟨rfl, gn_of (i := 744) (by decide +kernel) rfl⟩⟩
theorem fl_X11_26 : zFL RX11 26 4 404 (tyX5 4) false false true := ⟨rfl, 3, 4, (RX5, TX5, 6), rfl, by decide, rfl, rfl, by decide, tyX5_ok 4 (by decide), rfl, by decide +kernel, rfl, Or.inr ⟨rfl, gn_of (i := 745) (by decide +kernel) rfl⟩⟩
theorem fl_X12_226 : zFL RX12 226 4 404 (tyX5 4) false false true := ⟨rfl, 3, 4, (RX5, TX5, 6), rfl, by decide, rfl, rfl, by decide, tyX5_ok 4 (by decide), rfl, by decide +kernel, rfl, Or.inr ⟨rfl, gn_of (i := 746) (by decide +kernel) rfl⟩⟩
theorem fl_X4_498 : zFL RX4 498 4 404 (tyX5 4) false false true := ⟨rfl, 3, 4, (RX5, TX5, 6), rfl, by decide, rfl, rfl, by decide, tyX5_ok 4 (by decide), rfl, by decide +kernel, rfl, Or.inr ⟨rfl, gn_of (i := 747) (by decide +kernel) rfl⟩⟩
theorem fl_X12_198 : zFL RX12 198 4 405 (tyX5 5) false true true := ⟨rfl, 3, 5, (RX5, TX5, 6), rfl, by decide, rfl, rfl, by decide, tyX5_ok 5 (by decide), rfl, by decide +kernel, rfl, Or.inr ⟨rfl, gn_of (i := 748) (by decide +kernel) rfl⟩⟩
theorem fl_X4_518 : zFL RX4 518 4 405 (tyX5 5) false true true := ⟨rfl, 3, 5, (RX5, TX5, 6), rfl, by decide, rfl, rfl, by decide, tyX5_ok 5 (by decide), rfl, by decide +kernel, rfl, Or.inr ⟨rfl, gn_of (i := 749) (by decide +kernel) rfl⟩⟩
theorem cl_X4_487 : zCl0 RX4 487 yX2_nextOffset mX2_nextOffset 0 true := ⟨wd_716, wd_11, by decide, ⟨by decide, by decide, by decide +kernel⟩, Or.inr ⟨rfl, gn_of (i := 764) (by decide +kernel) rfl⟩⟩
theorem cl_X4_419 : zCl0 RX4 419 yX4_endLine mX4_endLine 1 false := ⟨wd_768, wd_10, by decide, ⟨by decide, by decide, by decide +kernel⟩, Or.inl ⟨rfl, wd_765⟩⟩
theorem im_X4_endLine : Cond.instanceMethod yX4_endLine ∈ gwl := wd_767
theorem cl_X4_332 : zCl0 RX4 332 yX2_reachTo mX2_reachTo 1 true := ⟨wd_772, wd_11, by decide, ⟨by decide, by decide, by decide +kernel⟩, Or.inr ⟨rfl, gn_of (i := 769) (by decide +kernel) rfl⟩⟩
theorem im_X2_reachTo : Cond.instanceMethod yX2_reachTo ∈ gwl := wd_771
theorem cl_X4_303 : zCl0 RX4 303 yX4_putFloat mX4_putFloat 3 false := ⟨wd_776, wd_10, by decide, ⟨by decide, by decide, by decide +kernel⟩, Or.inl ⟨rfl, wd_773⟩⟩
theorem im_X4_putFloat : Cond.instanceMethod yX4_putFloat ∈ gwl := wd_775
theorem cl_X4_90 : zCl0 RX4 90 yX7_flatRim mX7_flatRim 0 true := ⟨wd_583, wd_2, by decide, ⟨by decide, by decide, by decide +kernel⟩, Or.inr ⟨rfl, gn_of (i := 777) (by decide +kernel) rfl⟩⟩
theorem cl_X4_94 : zCl0 RX4 94 yX4_widthIn mX4_widthIn 3 false := ⟨wd_780, wd_10, by decide, ⟨by decide, by decide, by decide +kernel⟩, Or.inl ⟨rfl, wd_778⟩⟩
theorem st_X4_widthIn : Cond.static yX4_widthIn ∈ gwl := wd_779
theorem cl_X4_173 : zCl0 RX4 173 yX6_leastOf mX6_leastOf 1 true := ⟨wd_559, wd_13, by decide, ⟨by decide, by decide, by decide +kernel⟩, Or.inr ⟨rfl, gn_of (i := 781) (by decide +kernel) rfl⟩⟩
theorem cl_X4_179 : zCl0 RX4 179 yX6_mostOf mX6_mostOf 1 true := ⟨wd_546, wd_13, by decide, ⟨by decide, by decide, by decide +kernel⟩, Or.inr ⟨rfl, gn_of (i := 782) (by decide +kernel) rfl⟩⟩
theorem cl_X4_314 : zCl0 RX4 314 yX4_knownHeight mX4_knownHeight 1 false := ⟨wd_787, wd_10, by decide, ⟨by decide, by decide, by decide +kernel⟩, Or.inl ⟨rfl, wd_784⟩⟩
theorem im_X4_knownHeight : Cond.instanceMethod yX4_knownHeight ∈ gwl := wd_786
theorem cl_X4_360 : zCl0 RX4 360 yX7_uprightRim mX7_uprightRim 0 true := ⟨wd_791, wd_2, by decide, ⟨by decide, by decide, by decide +kernel⟩, Or.inr ⟨rfl, gn_of (i := 788) (by decide +kernel) rfl⟩⟩
theorem im_X7_uprightRim : Cond.instanceMethod yX7_uprightRim ∈ gwl := wd_790
theorem cl_X4_372 : zCl0 RX4 372 yX2_floatTop mX2_floatTop 1 true := ⟨wd_795, wd_11, by decide, ⟨by decide, by decide, by decide +kernel⟩, Or.inr ⟨rfl, gn_of (i := 792) (by decide +kernel) rfl⟩⟩
theorem im_X2_floatTop : Cond.instanceMethod yX2_floatTop ∈ gwl := wd_794
theorem cl_X4_348 : zCl0 RX4 348 yX2_findHeight mX2_findHeight 3 true := ⟨wd_799, wd_11, by decide, ⟨by decide, by decide, by decide +kernel⟩, Or.inr ⟨rfl, gn_of (i := 796) (by decide +kernel) rfl⟩⟩
theorem im_X2_findHeight : Cond.instanceMethod yX2_findHeight ∈ gwl := wd_798
theorem cl_X2_114 : zCl0 RX2 114 yX2_look mX2_look 2 false := ⟨wd_702, wd_11, by decide, ⟨by decide, by decide, by decide +kernel⟩, Or.inl ⟨rfl, wd_800⟩⟩
theorem cl_X2_121 : zCl0 RX2 121 yX2_nextLow mX2_nextLow 1 false := ⟨wd_804, wd_11, by decide, ⟨by decide, by decide, by decide +kernel⟩, Or.inl ⟨rfl, wd_801⟩⟩
theorem im_X2_nextLow : Cond.instanceMethod yX2_nextLow ∈ gwl := wd_803
theorem cl_X4_386 : zCl0 RX4 386 yX2_addFloat mX2_addFloat 1 true := ⟨wd_808, wd_11, by decide, ⟨by decide, by decide, by decide +kernel⟩, Or.inr ⟨rfl, gn_of (i := 805) (by decide +kernel) rfl⟩⟩
theorem im_X2_addFloat : Cond.instanceMethod yX2_addFloat ∈ gwl := wd_807
theorem cl_X2_126 : zCl0 RX2 126 yX2_reachTo mX2_reachTo 1 false := ⟨wd_772, wd_11, by decide, ⟨by decide, by decide, by decide +kernel⟩, Or.inl ⟨rfl, wd_809⟩⟩
theorem cl_X4_476 : zCl0 RX4 476 yX2_nextLow mX2_nextLow 1 true := ⟨wd_804, wd_11, by decide, ⟨by decide, by decide, by decide +kernel⟩, Or.inr ⟨rfl, gn_of (i := 810) (by decide +kernel) rfl⟩⟩
theorem cl_X4_409 : zCl0 RX4 409 yX4_addInlineBlock mX4_addInlineBlock 3 false := ⟨wd_814, wd_10, by decide, ⟨by decide, by decide, by decide +kernel⟩, Or.inl ⟨rfl, wd_811⟩⟩
theorem im_X4_addInlineBlock : Cond.instanceMethod yX4_addInlineBlock ∈ gwl := wd_813
theorem cl_X4_412 : zCl0 RX4 412 yX4_meetFloat mX4_meetFloat 2 false := ⟨wd_818, wd_10, by decide, ⟨by decide, by decide, by decide +kernel⟩, Or.inl ⟨rfl, wd_815⟩⟩
theorem im_X4_meetFloat : Cond.instanceMethod yX4_meetFloat ∈ gwl := wd_817
theorem cl_X4_354 : zCl0 RX4 354 yX2_band mX2_band 0 true := ⟨wd_720, wd_11, by decide, ⟨by decide, by decide, by decide +kernel⟩, Or.inr ⟨rfl, gn_of (i := 819) (by decide +kernel) rfl⟩⟩
theorem cl_X4_510 : zCl0 RX4 510 yX2_addLate mX2_addLate 2 true := ⟨wd_823, wd_11, by decide, ⟨by decide, by decide, by decide +kernel⟩, Or.inr ⟨rfl, gn_of (i := 820) (by decide +kernel) rfl⟩⟩
theorem im_X2_addLate : Cond.instanceMethod yX2_addLate ∈ gwl := wd_822
theorem cl_X4_416 : zCl0 RX4 416 yX4_meetAbsolute mX4_meetAbsolute 2 false := ⟨wd_827, wd_10, by decide, ⟨by decide, by decide, by decide +kernel⟩, Or.inl ⟨rfl, wd_824⟩⟩
theorem im_X4_meetAbsolute : Cond.instanceMethod yX4_meetAbsolute ∈ gwl := wd_826
theorem cl_X4_280 : zCl0 RX4 280 yX4_flowWithoutLines mX4_flowWithoutLines 3 false := ⟨wd_831, wd_10, by decide, ⟨by decide, by decide, by decide +kernel⟩, Or.inl ⟨rfl, wd_828⟩⟩
theorem im_X4_flowWithoutLines : Cond.instanceMethod yX4_flowWithoutLines ∈ gwl := wd_830
theorem cl_X4_284 : zCl0 RX4 284 yX4_flowOutside mX4_flowOutside 2 false := ⟨wd_835, wd_10, by decide, ⟨by decide, by decide, by decide +kernel⟩, Or.inl ⟨rfl, wd_832⟩⟩
theorem im_X4_flowOutside : Cond.instanceMethod yX4_flowOutside ∈ gwl := wd_834
theorem cl_X4_300 : zCl0 RX4 300 yX2_pendingY mX2_pendingY 0 true := ⟨wd_675, wd_11, by decide, ⟨by decide, by decide, by decide +kernel⟩, Or.inr ⟨rfl, gn_of (i := 837) (by decide +kernel) rfl⟩⟩
theorem cl_X4_288 : zCl0 RX4 288 yX4_flowContextBlock mX4_flowContextBlock 2 false := ⟨wd_842, wd_10, by decide, ⟨by decide, by decide, by decide +kernel⟩, Or.inl ⟨rfl, wd_839⟩⟩
theorem im_X4_flowContextBlock : Cond.instanceMethod yX4_flowContextBlock ∈ gwl := wd_841
theorem cl_X4_307 : zCl0 RX4 307 yX2_pend mX2_pend 1 true := ⟨wd_846, wd_11, by decide, ⟨by decide, by decide, by decide +kernel⟩, Or.inr ⟨rfl, gn_of (i := 843) (by decide +kernel) rfl⟩⟩
theorem im_X2_pend : Cond.instanceMethod yX2_pend ∈ gwl := wd_845
theorem cl_X4_311 : zCl0 RX4 311 yX2_clearFloats mX2_clearFloats 1 true := ⟨wd_850, wd_11, by decide, ⟨by decide, by decide, by decide +kernel⟩, Or.inr ⟨rfl, gn_of (i := 847) (by decide +kernel) rfl⟩⟩
theorem im_X2_clearFloats : Cond.instanceMethod yX2_clearFloats ∈ gwl := wd_849
theorem cl_X4_345 : zCl0 RX4 345 yX6_outerLeast mX6_outerLeast 1 true := ⟨wd_543, wd_13, by decide, ⟨by decide, by decide, by decide +kernel⟩, Or.inr ⟨rfl, gn_of (i := 851) (by decide +kernel) rfl⟩⟩
theorem cl_X4_291 : zCl0 RX4 291 yX4_flowPlainBlock mX4_flowPlainBlock 2 false := ⟨wd_855, wd_10, by decide, ⟨by decide, by decide, by decide +kernel⟩, Or.inl ⟨rfl, wd_852⟩⟩
theorem im_X4_flowPlainBlock : Cond.instanceMethod yX4_flowPlainBlock ∈ gwl := wd_854
theorem cl_X4_335 : zCl0 RX4 335 yX4_endHeldBlock mX4_endHeldBlock 3 false := ⟨wd_858, wd_10, by decide, ⟨by decide, by decide, by decide +kernel⟩, Or.inl ⟨rfl, wd_856⟩⟩
theorem st_X4_endHeldBlock : Cond.static yX4_endHeldBlock ∈ gwl := wd_857
theorem cl_X4_342 : zCl0 RX4 342 yX2_dropMargins mX2_dropMargins 0 true := ⟨wd_679, wd_11, by decide, ⟨by decide, by decide, by decide +kernel⟩, Or.inr ⟨rfl, gn_of (i := 859) (by decide +kernel) rfl⟩⟩
theorem cl_X4_339 : zCl0 RX4 339 yX4_endWaitingBlock mX4_endWaitingBlock 3 false := ⟨wd_862, wd_10, by decide, ⟨by decide, by decide, by decide +kernel⟩, Or.inl ⟨rfl, wd_860⟩⟩
theorem st_X4_endWaitingBlock : Cond.static yX4_endWaitingBlock ∈ gwl := wd_861
theorem cl_X4_247 : zCl0 RX4 247 yX2_contentHeight mX2_contentHeight 0 true := ⟨wd_866, wd_11, by decide, ⟨by decide, by decide, by decide +kernel⟩, Or.inr ⟨rfl, gn_of (i := 863) (by decide +kernel) rfl⟩⟩
theorem im_X2_contentHeight : Cond.instanceMethod yX2_contentHeight ∈ gwl := wd_865
theorem cl_X4_224 : zCl0 RX4 224 yX4_layInColumns mX4_layInColumns 2 false := ⟨wd_870, wd_10, by decide, ⟨by decide, by decide, by decide +kernel⟩, Or.inl ⟨rfl, wd_867⟩⟩
theorem im_X4_layInColumns : Cond.instanceMethod yX4_layInColumns ∈ gwl := wd_869
theorem cl_X4_561 : zCl0 RX4 561 yX4_gatherItems mX4_gatherItems 1 false := ⟨wd_874, wd_10, by decide, ⟨by decide, by decide, by decide +kernel⟩, Or.inl ⟨rfl, wd_871⟩⟩
theorem im_X4_gatherItems : Cond.instanceMethod yX4_gatherItems ∈ gwl := wd_873
theorem cl_X4_582 : zCl0 RX4 582 yX4_gatherLines mX4_gatherLines 1 false := ⟨wd_878, wd_10, by decide, ⟨by decide, by decide, by decide +kernel⟩, Or.inl ⟨rfl, wd_875⟩⟩
theorem im_X4_gatherLines : Cond.instanceMethod yX4_gatherLines ∈ gwl := wd_877
theorem cl_X4_585 : zCl0 RX4 585 yX10_add mX10_add 2 true := ⟨wd_882, wd_8, by decide, ⟨by decide, by decide, by decide +kernel⟩, Or.inr ⟨rfl, gn_of (i := 879) (by decide +kernel) rfl⟩⟩
theorem im_X10_add : Cond.instanceMethod yX10_add ∈ gwl := wd_881
theorem cl_X4_146 : zCl0 RX4 146 yX4_inlineTop mX4_inlineTop 2 false := ⟨wd_885, wd_10, by decide, ⟨by decide, by decide, by decide +kernel⟩, Or.inl ⟨rfl, wd_883⟩⟩
theorem st_X4_inlineTop : Cond.static yX4_inlineTop ∈ gwl := wd_884
theorem cl_X4_166 : zCl0 RX4 166 yX11_topSide mX11_topSide 0 true := ⟨wd_889, wd_5, by decide, ⟨by decide, by decide, by decide +kernel⟩, Or.inr ⟨rfl, gn_of (i := 886) (by decide +kernel) rfl⟩⟩
theorem im_X11_topSide : Cond.instanceMethod yX11_topSide ∈ gwl := wd_888
theorem cl_X4_588 : zCl0 RX4 588 yX4_isFlownThrough mX4_isFlownThrough 1 false := ⟨wd_892, wd_10, by decide, ⟨by decide, by decide, by decide +kernel⟩, Or.inl ⟨rfl, wd_890⟩⟩
theorem st_X4_isFlownThrough : Cond.static yX4_isFlownThrough ∈ gwl := wd_891
theorem cl_X4_45 : zCl0 RX4 45 yX7_onward mX7_onward 3 true := ⟨wd_371, wd_2, by decide, ⟨by decide, by decide, by decide +kernel⟩, Or.inr ⟨rfl, gn_of (i := 893) (by decide +kernel) rfl⟩⟩
theorem cl_X4_564 : zCl0 RX4 564 yX10_findBreaks mX10_findBreaks 1 true := ⟨wd_897, wd_8, by decide, ⟨by decide, by decide, by decide +kernel⟩, Or.inr ⟨rfl, gn_of (i := 894) (by decide +kernel) rfl⟩⟩
theorem im_X10_findBreaks : Cond.instanceMethod yX10_findBreaks ∈ gwl := wd_896
theorem cl_X10_31 : zCl0 RX10 31 yX10_addPlace mX10_addPlace 2 false := ⟨wd_901, wd_8, by decide, ⟨by decide, by decide, by decide +kernel⟩, Or.inl ⟨rfl, wd_898⟩⟩
theorem im_X10_addPlace : Cond.instanceMethod yX10_addPlace ∈ gwl := wd_900
theorem cl_X10_35 : zCl0 RX10 35 yX10_keepWholeItems mX10_keepWholeItems 0 false := ⟨wd_905, wd_8, by decide, ⟨by decide, by decide, by decide +kernel⟩, Or.inl ⟨rfl, wd_902⟩⟩
theorem im_X10_keepWholeItems : Cond.instanceMethod yX10_keepWholeItems ∈ gwl := wd_904
theorem cl_X4_569 : zCl0 RX4 569 yX10_leastHeight mX10_leastHeight 1 true := ⟨wd_910, wd_8, by decide, ⟨by decide, by decide, by decide +kernel⟩, Or.inr ⟨rfl, gn_of (i := 907) (by decide +kernel) rfl⟩⟩
theorem im_X10_leastHeight : Cond.instanceMethod yX10_leastHeight ∈ gwl := wd_909
theorem cl_X10_50 : zCl0 RX10 50 yX10_split mX10_split 1 false := ⟨wd_915, wd_8, by decide, ⟨by decide, by decide, by decide +kernel⟩, Or.inl ⟨rfl, wd_912⟩⟩
theorem im_X10_split : Cond.instanceMethod yX10_split ∈ gwl := wd_914
theorem cl_X4_572 : zCl0 RX4 572 yX10_split mX10_split 1 true := ⟨wd_915, wd_8, by decide, ⟨by decide, by decide, by decide +kernel⟩, Or.inr ⟨rfl, gn_of (i := 916) (by decide +kernel) rfl⟩⟩
theorem cl_X4_575 : zCl0 RX4 575 yX4_moveToColumns mX4_moveToColumns 2 false := ⟨wd_920, wd_10, by decide, ⟨by decide, by decide, by decide +kernel⟩, Or.inl ⟨rfl, wd_917⟩⟩
theorem im_X4_moveToColumns : Cond.instanceMethod yX4_moveToColumns ∈ gwl := wd_919
theorem cl_X4_592 : zCl0 RX4 592 yX4_moveLines mX4_moveLines 2 false := ⟨wd_924, wd_10, by decide, ⟨by decide, by decide, by decide +kernel⟩, Or.inl ⟨rfl, wd_921⟩⟩
theorem im_X4_moveLines : Cond.instanceMethod yX4_moveLines ∈ gwl := wd_923
theorem cl_X4_596 : zCl0 RX4 596 yX10_columnAt mX10_columnAt 1 true := ⟨wd_928, wd_8, by decide, ⟨by decide, by decide, by decide +kernel⟩, Or.inr ⟨rfl, gn_of (i := 925) (by decide +kernel) rfl⟩⟩
theorem im_X10_columnAt : Cond.instanceMethod yX10_columnAt ∈ gwl := wd_927
theorem cl_X4_599 : zCl0 RX4 599 yX10_beginOf mX10_beginOf 1 true := ⟨wd_932, wd_8, by decide, ⟨by decide, by decide, by decide +kernel⟩, Or.inr ⟨rfl, gn_of (i := 929) (by decide +kernel) rfl⟩⟩
theorem im_X10_beginOf : Cond.instanceMethod yX10_beginOf ∈ gwl := wd_931
theorem cl_X4_68 : zCl0 RX4 68 yX4_layAbsolute mX4_layAbsolute 1 false := ⟨wd_936, wd_10, by decide, ⟨by decide, by decide, by decide +kernel⟩, Or.inl ⟨rfl, wd_933⟩⟩
theorem im_X4_layAbsolute : Cond.instanceMethod yX4_layAbsolute ∈ gwl := wd_935
theorem cl_X4_83 : zCl0 RX4 83 yX4_stackAround mX4_stackAround 1 false := ⟨wd_939, wd_10, by decide, ⟨by decide, by decide, by decide +kernel⟩, Or.inl ⟨rfl, wd_937⟩⟩
theorem st_X4_stackAround : Cond.static yX4_stackAround ∈ gwl := wd_938
theorem cl_X4_79 : zCl0 RX4 79 yX7_isStack mX7_isStack 0 true := ⟨wd_943, wd_2, by decide, ⟨by decide, by decide, by decide +kernel⟩, Or.inr ⟨rfl, gn_of (i := 940) (by decide +kernel) rfl⟩⟩
theorem im_X7_isStack : Cond.instanceMethod yX7_isStack ∈ gwl := wd_942
theorem cl_X4_72 : zCl0 RX4 72 yX4_settle mX4_settle 1 false := ⟨wd_947, wd_10, by decide, ⟨by decide, by decide, by decide +kernel⟩, Or.inl ⟨rfl, wd_944⟩⟩
theorem im_X4_settle : Cond.instanceMethod yX4_settle ∈ gwl := wd_946
theorem cl_X4_118 : zCl0 RX4 118 yX4_settleAbsolute mX4_settleAbsolute 3 false := ⟨wd_951, wd_10, by decide, ⟨by decide, by decide, by decide +kernel⟩, Or.inl ⟨rfl, wd_948⟩⟩
theorem im_X4_settleAbsolute : Cond.instanceMethod yX4_settleAbsolute ∈ gwl := wd_950
theorem cl_X4_125 : zCl0 RX4 125 yX4_settleInFlow mX4_settleInFlow 3 false := ⟨wd_955, wd_10, by decide, ⟨by decide, by decide, by decide +kernel⟩, Or.inl ⟨rfl, wd_952⟩⟩
theorem im_X4_settleInFlow : Cond.instanceMethod yX4_settleInFlow ∈ gwl := wd_954
theorem cl_X4_132 : zCl0 RX4 132 yX4_offsetOf mX4_offsetOf 1 false := ⟨wd_958, wd_10, by decide, ⟨by decide, by decide, by decide +kernel⟩, Or.inl ⟨rfl, wd_956⟩⟩
theorem st_X4_offsetOf : Cond.static yX4_offsetOf ∈ gwl := wd_957
theorem cl_X4_139 : zCl0 RX4 139 yX4_inlineLeft mX4_inlineLeft 2 false := ⟨wd_961, wd_10, by decide, ⟨by decide, by decide, by decide +kernel⟩, Or.inl ⟨rfl, wd_959⟩⟩
theorem st_X4_inlineLeft : Cond.static yX4_inlineLeft ∈ gwl := wd_960
theorem cl_X4_160 : zCl0 RX4 160 yX11_leftSide mX11_leftSide 0 true := ⟨wd_965, wd_5, by decide, ⟨by decide, by decide, by decide +kernel⟩, Or.inr ⟨rfl, gn_of (i := 962) (by decide +kernel) rfl⟩⟩
theorem im_X11_leftSide : Cond.instanceMethod yX11_leftSide ∈ gwl := wd_964
theorem cl_X12_65 : zCl0 RX12 65 yX8_arrange mX8_arrange 1 true := ⟨wd_969, wd_12, by decide, ⟨by decide, by decide, by decide +kernel⟩, Or.inr ⟨rfl, gn_of (i := 966) (by decide +kernel) rfl⟩⟩
theorem im_X8_arrange : Cond.instanceMethod yX8_arrange ∈ gwl := wd_968
theorem cl_X8_21 : zCl0 RX8 21 yX8_paintStack mX8_paintStack 1 false := ⟨wd_973, wd_12, by decide, ⟨by decide, by decide, by decide +kernel⟩, Or.inl ⟨rfl, wd_970⟩⟩
theorem im_X8_paintStack : Cond.instanceMethod yX8_paintStack ∈ gwl := wd_972
theorem cl_X8_25 : zCl0 RX8 25 yX8_add mX8_add 1 false := ⟨wd_977, wd_12, by decide, ⟨by decide, by decide, by decide +kernel⟩, Or.inl ⟨rfl, wd_974⟩⟩
theorem im_X8_add : Cond.instanceMethod yX8_add ∈ gwl := wd_976
theorem cl_X8_28 : zCl0 RX8 28 yX8_paintStacksIn mX8_paintStacksIn 2 false := ⟨wd_981, wd_12, by decide, ⟨by decide, by decide, by decide +kernel⟩, Or.inl ⟨rfl, wd_978⟩⟩
theorem im_X8_paintStacksIn : Cond.instanceMethod yX8_paintStacksIn ∈ gwl := wd_980
theorem cl_X8_39 : zCl0 RX8 39 yX7_isStack mX7_isStack 0 true := ⟨wd_943, wd_2, by decide, ⟨by decide, by decide, by decide +kernel⟩, Or.inr ⟨rfl, gn_of (i := 982) (by decide +kernel) rfl⟩⟩
theorem cl_X8_47 : zCl0 RX8 47 yX7_onward mX7_onward 3 true := ⟨wd_371, wd_2, by decide, ⟨by decide, by decide, by decide +kernel⟩, Or.inr ⟨rfl, gn_of (i := 983) (by decide +kernel) rfl⟩⟩
theorem cl_X8_32 : zCl0 RX8 32 yX8_paintInside mX8_paintInside 1 false := ⟨wd_987, wd_12, by decide, ⟨by decide, by decide, by decide +kernel⟩, Or.inl ⟨rfl, wd_984⟩⟩
theorem im_X8_paintInside : Cond.instanceMethod yX8_paintInside ∈ gwl := wd_986
theorem cl_X8_63 : zCl0 RX8 63 yX8_stepOf mX8_stepOf 1 false := ⟨wd_992, wd_12, by decide, ⟨by decide, by decide, by decide +kernel⟩, Or.inl ⟨rfl, wd_990⟩⟩
theorem st_X8_stepOf : Cond.static yX8_stepOf ∈ gwl := wd_991
theorem fl_X12_21 : zFL RX12 21 10 1000 (tyX12 0) true true false := ⟨rfl, 9, 0, (RX12, TX12, 10), rfl, by decide, rfl, rfl, by decide, tyX12_ok 0 (by decide), rfl, by decide +kernel, rfl, Or.inl ⟨rfl, wd_995⟩⟩
theorem fl_X12_25 : zFL RX12 25 10 1001 (tyX12 1) true true false := ⟨rfl, 9, 1, (RX12, TX12, 10), rfl, by decide, rfl, rfl, by decide, tyX12_ok 1 (by decide), rfl, by decide +kernel, rfl, Or.inl ⟨rfl, wd_996⟩⟩
theorem fl_X12_41 : zFL RX12 41 10 1002 (tyX12 2) true true false := ⟨rfl, 9, 2, (RX12, TX12, 10), rfl, by decide, rfl, rfl, by decide, tyX12_ok 2 (by decide), rfl, by decide +kernel, rfl, Or.inl ⟨rfl, wd_997⟩⟩
theorem fl_X12_45 : zFL RX12 45 10 1003 (tyX12 3) true true false := ⟨rfl, 9, 3, (RX12, TX12, 10), rfl, by decide, rfl, rfl, by decide, tyX12_ok 3 (by decide), rfl, by decide +kernel, rfl, Or.inl ⟨rfl, wd_998⟩⟩
theorem fl_X12_51 : zFL RX12 51 10 1004 (tyX12 4) true true false := ⟨rfl, 9, 4, (RX12, TX12, 10), rfl, by decide, rfl, rfl, by decide, tyX12_ok 4 (by decide), rfl, by decide +kernel, rfl, Or.inl ⟨rfl, wd_999⟩⟩
theorem fl_X12_29 : zFL RX12 29 10 1005 (tyX12 5) false false false := ⟨rfl, 9, 5, (RX12, TX12, 10), rfl, by decide, rfl, rfl, by decide, tyX12_ok 5 (by decide), rfl, by decide +kernel, rfl, Or.inl ⟨rfl, wd_1000⟩⟩
theorem fl_X12_33 : zFL RX12 33 10 1006 (tyX12 6) false false false := ⟨rfl, 9, 6, (RX12, TX12, 10), rfl, by decide, rfl, rfl, by decide, tyX12_ok 6 (by decide), rfl, by decide +kernel, rfl, Or.inl ⟨rfl, wd_1001⟩⟩
theorem fl_X12_151 : zFL RX12 151 10 1007 (tyX12 7) false false false := ⟨rfl, 9, 7, (RX12, TX12, 10), rfl, by decide, rfl, rfl, by decide, tyX12_ok 7 (by decide), rfl, by decide +kernel, rfl, Or.inl ⟨rfl, wd_1002⟩⟩
theorem fl_X12_62 : zFL RX12 62 10 1008 (tyX12 8) false false false := ⟨rfl, 9, 8, (RX12, TX12, 10), rfl, by decide, rfl, rfl, by decide, tyX12_ok 8 (by decide), rfl, by decide +kernel, rfl, Or.inl ⟨rfl, wd_1003⟩⟩
theorem fl_X12_59 : zFL RX12 59 10 1009 (tyX12 9) false false false := ⟨rfl, 9, 9, (RX12, TX12, 10), rfl, by decide, rfl, rfl, by decide, tyX12_ok 9 (by decide), rfl, by decide +kernel, rfl, Or.inl ⟨rfl, wd_1004⟩⟩
theorem cl_L_108 : zCl0 RL 108 yX12_page mX12_page 1 false := ⟨wd_1029, wd_1, by decide, ⟨by decide, by decide, by decide +kernel⟩, Or.inl ⟨rfl, wd_1026⟩⟩
theorem im_X12_page : Cond.instanceMethod yX12_page ∈ gwl := wd_1027
theorem se_X12_page : Cond.selects yX12_page.cls yX12_page yX12_page ∈ gwl := wd_1028
theorem cl_X12_89 : zCl0 RX12 89 yX12_layAgain mX12_layAgain 0 false := ⟨wd_1096, wd_1, by decide, ⟨by decide, by decide, by decide +kernel⟩, Or.inl ⟨rfl, wd_1093⟩⟩
theorem im_X12_layAgain : Cond.instanceMethod yX12_layAgain ∈ gwl := wd_1095
theorem cl_L_100 : zCl0 RL 100 yL_cell mL_cell 2 false := ⟨wd_1099, wd_0, by decide, ⟨by decide, by decide, by decide +kernel⟩, Or.inl ⟨rfl, wd_1097⟩⟩
theorem st_L_cell : Cond.static yL_cell ∈ gwl := wd_1098
theorem cl_L_81 : zCl0 RL 81 yL_low mL_low 2 false := ⟨wd_1104, wd_0, by decide, ⟨by decide, by decide, by decide +kernel⟩, Or.inl ⟨rfl, wd_1102⟩⟩
theorem st_L_low : Cond.static yL_low ∈ gwl := wd_1103
theorem cl_L_115 : zCl0 RL 115 yL_lays mL_lays 9 false := ⟨wd_1108, wd_0, by decide, ⟨by decide, by decide, by decide +kernel⟩, Or.inl ⟨rfl, wd_1106⟩⟩
theorem st_L_lays : Cond.static yL_lays ∈ gwl := wd_1107
theorem cl_L_28 : zCl0 RL 28 yL_next mL_next 4 false := ⟨wd_1111, wd_0, by decide, ⟨by decide, by decide, by decide +kernel⟩, Or.inl ⟨rfl, wd_1109⟩⟩
theorem st_L_next : Cond.static yL_next ∈ gwl := wd_1110
theorem cl_L_36 : zCl0 RL 36 yL_runs mL_runs 8 false := ⟨wd_1114, wd_0, by decide, ⟨by decide, by decide, by decide +kernel⟩, Or.inl ⟨rfl, wd_1112⟩⟩
theorem st_L_runs : Cond.static yL_runs ∈ gwl := wd_1113
theorem cl_L_16 : zCl0 RL 16 yL_ends mL_ends 2 false := ⟨wd_1117, wd_0, by decide, ⟨by decide, by decide, by decide +kernel⟩, Or.inl ⟨rfl, wd_1115⟩⟩
theorem st_L_ends : Cond.static yL_ends ∈ gwl := wd_1116
theorem cl_L_32 : zCl0 RL 32 yL_shuts mL_shuts 6 false := ⟨wd_1120, wd_0, by decide, ⟨by decide, by decide, by decide +kernel⟩, Or.inl ⟨rfl, wd_1118⟩⟩
theorem st_L_shuts : Cond.static yL_shuts ∈ gwl := wd_1119
theorem cl_L_24 : zCl0 RL 24 yL_inside mL_inside 3 false := ⟨wd_1123, wd_0, by decide, ⟨by decide, by decide, by decide +kernel⟩, Or.inl ⟨rfl, wd_1121⟩⟩
theorem st_L_inside : Cond.static yL_inside ∈ gwl := wd_1122
theorem cl_L_40 : zCl0 RL 40 yL_enters mL_enters 8 false := ⟨wd_1126, wd_0, by decide, ⟨by decide, by decide, by decide +kernel⟩, Or.inl ⟨rfl, wd_1124⟩⟩
theorem st_L_enters : Cond.static yL_enters ∈ gwl := wd_1125
theorem cl_L_10 : zCl0 RL 10 yL_pends mL_pends 2 false := ⟨wd_1129, wd_0, by decide, ⟨by decide, by decide, by decide +kernel⟩, Or.inl ⟨rfl, wd_1127⟩⟩
theorem st_L_pends : Cond.static yL_pends ∈ gwl := wd_1128
theorem cl_L_20 : zCl0 RL 20 yL_known mL_known 4 false := ⟨wd_1132, wd_0, by decide, ⟨by decide, by decide, by decide +kernel⟩, Or.inl ⟨rfl, wd_1130⟩⟩
theorem st_L_known : Cond.static yL_known ∈ gwl := wd_1131
theorem cl_L_44 : zCl0 RL 44 yL_leaves mL_leaves 6 false := ⟨wd_1135, wd_0, by decide, ⟨by decide, by decide, by decide +kernel⟩, Or.inl ⟨rfl, wd_1133⟩⟩
theorem st_L_leaves : Cond.static yL_leaves ∈ gwl := wd_1134
theorem cl_L_119 : zCl0 RL 119 yL_same mL_same 6 false := ⟨wd_1138, wd_0, by decide, ⟨by decide, by decide, by decide +kernel⟩, Or.inl ⟨rfl, wd_1136⟩⟩
theorem st_L_same : Cond.static yL_same ∈ gwl := wd_1137
theorem cl_L_48 : zCl0 RL 48 yX12_height mX12_height 1 false := ⟨wd_1142, wd_1, by decide, ⟨by decide, by decide, by decide +kernel⟩, Or.inl ⟨rfl, wd_1139⟩⟩
theorem im_X12_height : Cond.instanceMethod yX12_height ∈ gwl := wd_1140
theorem se_X12_height : Cond.selects yX12_height.cls yX12_height yX12_height ∈ gwl := wd_1141
theorem cl_X12_141 : zCl0 RX12 141 yX12_placedAt mX12_placedAt 1 false := ⟨wd_1146, wd_1, by decide, ⟨by decide, by decide, by decide +kernel⟩, Or.inl ⟨rfl, wd_1143⟩⟩
theorem im_X12_placedAt : Cond.instanceMethod yX12_placedAt ∈ gwl := wd_1145
theorem cl_X12_111 : zCl0 RX12 111 yX12_nodeAt mX12_nodeAt 1 false := ⟨wd_1150, wd_1, by decide, ⟨by decide, by decide, by decide +kernel⟩, Or.inl ⟨rfl, wd_1147⟩⟩
theorem im_X12_nodeAt : Cond.instanceMethod yX12_nodeAt ∈ gwl := wd_1149
theorem cl_X12_243 : zCl0 RX12 243 yX7_isText mX7_isText 0 true := ⟨wd_336, wd_2, by decide, ⟨by decide, by decide, by decide +kernel⟩, Or.inr ⟨rfl, gn_of (i := 1166) (by decide +kernel) rfl⟩⟩
theorem cl_X12_144 : zCl0 RX12 144 yX12_sideOf mX12_sideOf 3 false := ⟨wd_1186, wd_1, by decide, ⟨by decide, by decide, by decide +kernel⟩, Or.inl ⟨rfl, wd_1184⟩⟩
theorem st_X12_sideOf : Cond.static yX12_sideOf ∈ gwl := wd_1185
theorem cl_X12_229 : zCl0 RX12 229 yX12_pieceSide mX12_pieceSide 4 false := ⟨wd_1189, wd_1, by decide, ⟨by decide, by decide, by decide +kernel⟩, Or.inl ⟨rfl, wd_1187⟩⟩
theorem st_X12_pieceSide : Cond.static yX12_pieceSide ∈ gwl := wd_1188
theorem cl_X12_265 : zCl0 RX12 265 yX4_placeOf mX4_placeOf 1 true := ⟨wd_505, wd_10, by decide, ⟨by decide, by decide, by decide +kernel⟩, Or.inr ⟨rfl, gn_of (i := 1190) (by decide +kernel) rfl⟩⟩
theorem cl_X12_285 : zCl0 RX12 285 yX9_pieceAt mX9_pieceAt 1 true := ⟨wd_694, wd_3, by decide, ⟨by decide, by decide, by decide +kernel⟩, Or.inr ⟨rfl, gn_of (i := 1191) (by decide +kernel) rfl⟩⟩
theorem cl_X12_294 : zCl0 RX12 294 yX11_leftSide mX11_leftSide 0 true := ⟨wd_965, wd_5, by decide, ⟨by decide, by decide, by decide +kernel⟩, Or.inr ⟨rfl, gn_of (i := 1192) (by decide +kernel) rfl⟩⟩
theorem cl_X12_298 : zCl0 RX12 298 yX11_topSide mX11_topSide 0 true := ⟨wd_889, wd_5, by decide, ⟨by decide, by decide, by decide +kernel⟩, Or.inr ⟨rfl, gn_of (i := 1193) (by decide +kernel) rfl⟩⟩
theorem cl_X12_278 : zCl0 RX12 278 yX7_flatEdges mX7_flatEdges 0 true := ⟨wd_532, wd_2, by decide, ⟨by decide, by decide, by decide +kernel⟩, Or.inr ⟨rfl, gn_of (i := 1194) (by decide +kernel) rfl⟩⟩
theorem cl_X12_282 : zCl0 RX12 282 yX7_uprightEdges mX7_uprightEdges 0 true := ⟨wd_631, wd_2, by decide, ⟨by decide, by decide, by decide +kernel⟩, Or.inr ⟨rfl, gn_of (i := 1195) (by decide +kernel) rfl⟩⟩
theorem cl_L_54 : zCl0 RL 54 yX12_width mX12_width 1 false := ⟨wd_1199, wd_1, by decide, ⟨by decide, by decide, by decide +kernel⟩, Or.inl ⟨rfl, wd_1196⟩⟩
theorem im_X12_width : Cond.instanceMethod yX12_width ∈ gwl := wd_1197
theorem se_X12_width : Cond.selects yX12_width.cls yX12_width yX12_width ∈ gwl := wd_1198
theorem cl_L_57 : zCl0 RL 57 yX12_painted mX12_painted 0 false := ⟨wd_1203, wd_1, by decide, ⟨by decide, by decide, by decide +kernel⟩, Or.inl ⟨rfl, wd_1200⟩⟩
theorem im_X12_painted : Cond.instanceMethod yX12_painted ∈ gwl := wd_1201
theorem se_X12_painted : Cond.selects yX12_painted.cls yX12_painted yX12_painted ∈ gwl := wd_1202
theorem cl_L_61 : zCl0 RL 61 yX12_x mX12_x 1 false := ⟨wd_1207, wd_1, by decide, ⟨by decide, by decide, by decide +kernel⟩, Or.inl ⟨rfl, wd_1204⟩⟩
theorem im_X12_x : Cond.instanceMethod yX12_x ∈ gwl := wd_1205
theorem se_X12_x : Cond.selects yX12_x.cls yX12_x yX12_x ∈ gwl := wd_1206
theorem cl_L_64 : zCl0 RL 64 yX12_y mX12_y 1 false := ⟨wd_1211, wd_1, by decide, ⟨by decide, by decide, by decide +kernel⟩, Or.inl ⟨rfl, wd_1208⟩⟩
theorem im_X12_y : Cond.instanceMethod yX12_y ∈ gwl := wd_1209
theorem se_X12_y : Cond.selects yX12_y.cls yX12_y yX12_y ∈ gwl := wd_1210
theorem cl_L_67 : zCl0 RL 67 yX12_bars mX12_bars 1 false := ⟨wd_1215, wd_1, by decide, ⟨by decide, by decide, by decide +kernel⟩, Or.inl ⟨rfl, wd_1212⟩⟩
theorem im_X12_bars : Cond.instanceMethod yX12_bars ∈ gwl := wd_1213
theorem se_X12_bars : Cond.selects yX12_bars.cls yX12_bars yX12_bars ∈ gwl := wd_1214
theorem cl_X12_68 : zCl0 RX12 68 yX12_boxAt mX12_boxAt 1 false := ⟨wd_1219, wd_1, by decide, ⟨by decide, by decide, by decide +kernel⟩, Or.inl ⟨rfl, wd_1216⟩⟩
theorem im_X12_boxAt : Cond.instanceMethod yX12_boxAt ∈ gwl := wd_1218
theorem cl_L_70 : zCl0 RL 70 yX12_fromNothing mX12_fromNothing 2 false := ⟨wd_1223, wd_1, by decide, ⟨by decide, by decide, by decide +kernel⟩, Or.inl ⟨rfl, wd_1220⟩⟩
theorem im_X12_fromNothing : Cond.instanceMethod yX12_fromNothing ∈ gwl := wd_1221
theorem se_X12_fromNothing : Cond.selects yX12_fromNothing.cls yX12_fromNothing yX12_fromNothing ∈ gwl := wd_1222
theorem cl_X12_148 : zCl0 RX12 148 yX4_forgetAll mX4_forgetAll 1 true := ⟨wd_1227, wd_10, by decide, ⟨by decide, by decide, by decide +kernel⟩, Or.inr ⟨rfl, gn_of (i := 1224) (by decide +kernel) rfl⟩⟩
theorem im_X4_forgetAll : Cond.instanceMethod yX4_forgetAll ∈ gwl := wd_1226
theorem cl_L_74 : zCl0 RL 74 yX12_line mX12_line 3 false := ⟨wd_1231, wd_1, by decide, ⟨by decide, by decide, by decide +kernel⟩, Or.inl ⟨rfl, wd_1228⟩⟩
theorem im_X12_line : Cond.instanceMethod yX12_line ∈ gwl := wd_1229
theorem se_X12_line : Cond.selects yX12_line.cls yX12_line yX12_line ∈ gwl := wd_1230
theorem cl_X12_190 : zCl0 RX12 190 yX7_holdsLines mX7_holdsLines 0 true := ⟨wd_1235, wd_2, by decide, ⟨by decide, by decide, by decide +kernel⟩, Or.inr ⟨rfl, gn_of (i := 1232) (by decide +kernel) rfl⟩⟩
theorem im_X7_holdsLines : Cond.instanceMethod yX7_holdsLines ∈ gwl := wd_1234
theorem cl_X12_203 : zCl0 RX12 203 yX12_lineAt mX12_lineAt 2 false := ⟨wd_1238, wd_1, by decide, ⟨by decide, by decide, by decide +kernel⟩, Or.inl ⟨rfl, wd_1236⟩⟩
theorem st_X12_lineAt : Cond.static yX12_lineAt ∈ gwl := wd_1237
theorem cl_L_78 : zCl0 RL 78 yX12_lines mX12_lines 1 false := ⟨wd_1242, wd_1, by decide, ⟨by decide, by decide, by decide +kernel⟩, Or.inl ⟨rfl, wd_1239⟩⟩
theorem im_X12_lines : Cond.instanceMethod yX12_lines ∈ gwl := wd_1240
theorem se_X12_lines : Cond.selects yX12_lines.cls yX12_lines yX12_lines ∈ gwl := wd_1241
theorem cl_L_104 : zCl0 RL 104 yL_makes mL_makes 6 false := ⟨wd_1245, wd_0, by decide, ⟨by decide, by decide, by decide +kernel⟩, Or.inl ⟨rfl, wd_1243⟩⟩
theorem st_L_makes : Cond.static yL_makes ∈ gwl := wd_1244
theorem cl_L_84 : zCl0 RL 84 yX12_children mX12_children 1 false := ⟨wd_1249, wd_1, by decide, ⟨by decide, by decide, by decide +kernel⟩, Or.inl ⟨rfl, wd_1246⟩⟩
theorem im_X12_children : Cond.instanceMethod yX12_children ∈ gwl := wd_1247
theorem se_X12_children : Cond.selects yX12_children.cls yX12_children yX12_children ∈ gwl := wd_1248
theorem cl_X12_72 : zCl0 RX12 72 yX7_countChildren mX7_countChildren 0 true := ⟨wd_1253, wd_2, by decide, ⟨by decide, by decide, by decide +kernel⟩, Or.inr ⟨rfl, gn_of (i := 1250) (by decide +kernel) rfl⟩⟩
theorem im_X7_countChildren : Cond.instanceMethod yX7_countChildren ∈ gwl := wd_1252
theorem cl_L_87 : zCl0 RL 87 yX12_text mX12_text 3 false := ⟨wd_1257, wd_1, by decide, ⟨by decide, by decide, by decide +kernel⟩, Or.inl ⟨rfl, wd_1254⟩⟩
theorem im_X12_text : Cond.instanceMethod yX12_text ∈ gwl := wd_1255
theorem se_X12_text : Cond.selects yX12_text.cls yX12_text yX12_text ∈ gwl := wd_1256
theorem cl_X12_79 : zCl0 RX12 79 yX12_hasRoom mX12_hasRoom 1 false := ⟨wd_1261, wd_1, by decide, ⟨by decide, by decide, by decide +kernel⟩, Or.inl ⟨rfl, wd_1258⟩⟩
theorem im_X12_hasRoom : Cond.instanceMethod yX12_hasRoom ∈ gwl := wd_1260
theorem cl_X12_86 : zCl0 RX12 86 yX12_insertNode mX12_insertNode 3 false := ⟨wd_1265, wd_1, by decide, ⟨by decide, by decide, by decide +kernel⟩, Or.inl ⟨rfl, wd_1262⟩⟩
theorem im_X12_insertNode : Cond.instanceMethod yX12_insertNode ∈ gwl := wd_1264
theorem cl_X12_252 : zCl0 RX12 252 yX7_putIn mX7_putIn 2 true := ⟨wd_1269, wd_2, by decide, ⟨by decide, by decide, by decide +kernel⟩, Or.inr ⟨rfl, gn_of (i := 1266) (by decide +kernel) rfl⟩⟩
theorem im_X7_putIn : Cond.instanceMethod yX7_putIn ∈ gwl := wd_1268
theorem cl_X12_108 : zCl0 RX12 108 yX12_noteChange mX12_noteChange 1 false := ⟨wd_1273, wd_1, by decide, ⟨by decide, by decide, by decide +kernel⟩, Or.inl ⟨rfl, wd_1270⟩⟩
theorem im_X12_noteChange : Cond.instanceMethod yX12_noteChange ∈ gwl := wd_1272
theorem cl_L_90 : zCl0 RL 90 yX12_box mX12_box 2 false := ⟨wd_1277, wd_1, by decide, ⟨by decide, by decide, by decide +kernel⟩, Or.inl ⟨rfl, wd_1274⟩⟩
theorem im_X12_box : Cond.instanceMethod yX12_box ∈ gwl := wd_1275
theorem se_X12_box : Cond.selects yX12_box.cls yX12_box yX12_box ∈ gwl := wd_1276
theorem cl_L_93 : zCl0 RL 93 yX12_word mX12_word 3 false := ⟨wd_1281, wd_1, by decide, ⟨by decide, by decide, by decide +kernel⟩, Or.inl ⟨rfl, wd_1278⟩⟩
theorem im_X12_word : Cond.instanceMethod yX12_word ∈ gwl := wd_1279
theorem se_X12_word : Cond.selects yX12_word.cls yX12_word yX12_word ∈ gwl := wd_1280
theorem cl_X12_95 : zCl0 RX12 95 yX12_textAt mX12_textAt 1 false := ⟨wd_1285, wd_1, by decide, ⟨by decide, by decide, by decide +kernel⟩, Or.inl ⟨rfl, wd_1282⟩⟩
theorem im_X12_textAt : Cond.instanceMethod yX12_textAt ∈ gwl := wd_1284
theorem cl_L_111 : zCl0 RL 111 yL_styles mL_styles 7 false := ⟨wd_1288, wd_0, by decide, ⟨by decide, by decide, by decide +kernel⟩, Or.inl ⟨rfl, wd_1286⟩⟩
theorem st_L_styles : Cond.static yL_styles ∈ gwl := wd_1287
theorem cl_L_96 : zCl0 RL 96 yX12_style mX12_style 3 false := ⟨wd_1292, wd_1, by decide, ⟨by decide, by decide, by decide +kernel⟩, Or.inl ⟨rfl, wd_1289⟩⟩
theorem im_X12_style : Cond.instanceMethod yX12_style ∈ gwl := wd_1290
theorem se_X12_style : Cond.selects yX12_style.cls yX12_style yX12_style ∈ gwl := wd_1291
theorem cl_X12_127 : zCl0 RX12 127 yX12_allows mX12_allows 2 false := ⟨wd_1295, wd_1, by decide, ⟨by decide, by decide, by decide +kernel⟩, Or.inl ⟨rfl, wd_1293⟩⟩
theorem st_X12_allows : Cond.static yX12_allows ∈ gwl := wd_1294
theorem cl_X12_256 : zCl0 RX12 256 yX12_isPercentage mX12_isPercentage 1 false := ⟨wd_1298, wd_1, by decide, ⟨by decide, by decide, by decide +kernel⟩, Or.inl ⟨rfl, wd_1296⟩⟩
theorem st_X12_isPercentage : Cond.static yX12_isPercentage ∈ gwl := wd_1297
theorem cl_X12_134 : zCl0 RX12 134 yX12_reachesInside mX12_reachesInside 1 false := ⟨wd_1301, wd_1, by decide, ⟨by decide, by decide, by decide +kernel⟩, Or.inl ⟨rfl, wd_1299⟩⟩
theorem st_X12_reachesInside : Cond.static yX12_reachesInside ∈ gwl := wd_1300
theorem cl_X12_138 : zCl0 RX12 138 yX12_noteChangeInside mX12_noteChangeInside 1 false := ⟨wd_1305, wd_1, by decide, ⟨by decide, by decide, by decide +kernel⟩, Or.inl ⟨rfl, wd_1302⟩⟩
theorem im_X12_noteChangeInside : Cond.instanceMethod yX12_noteChangeInside ∈ gwl := wd_1304
theorem cl_X12_120 : zCl0 RX12 120 yX7_onward mX7_onward 3 true := ⟨wd_371, wd_2, by decide, ⟨by decide, by decide, by decide +kernel⟩, Or.inr ⟨rfl, gn_of (i := 1306) (by decide +kernel) rfl⟩⟩
theorem se_X7_assignRole : Cond.selects yX7_assignRole.cls yX7_assignRole yX7_assignRole ∈ gwl := gs_of (q := (yX7_assignRole, 20)) (List.mem_of_getElem? (i := 0) (by decide +kernel))
theorem se_X7_findKind : Cond.selects yX7_findKind.cls yX7_findKind yX7_findKind ∈ gwl := gs_of (q := (yX7_findKind, 20)) (List.mem_of_getElem? (i := 1) (by decide +kernel))
theorem se_X7_isText : Cond.selects yX7_isText.cls yX7_isText yX7_isText ∈ gwl := gs_of (q := (yX7_isText, 20)) (List.mem_of_getElem? (i := 2) (by decide +kernel))
theorem se_X7_countsFor : Cond.selects yX7_countsFor.cls yX7_countsFor yX7_countsFor ∈ gwl := gs_of (q := (yX7_countsFor, 20)) (List.mem_of_getElem? (i := 3) (by decide +kernel))
theorem se_X7_isInColumns : Cond.selects yX7_isInColumns.cls yX7_isInColumns yX7_isInColumns ∈ gwl := gs_of (q := (yX7_isInColumns, 20)) (List.mem_of_getElem? (i := 4) (by decide +kernel))
theorem se_X7_countScrollsAround : Cond.selects yX7_countScrollsAround.cls yX7_countScrollsAround yX7_countScrollsAround ∈ gwl := gs_of (q := (yX7_countScrollsAround, 20)) (List.mem_of_getElem? (i := 5) (by decide +kernel))
theorem se_X4_layAll : Cond.selects yX4_layAll.cls yX4_layAll yX4_layAll ∈ gwl := gs_of (q := (yX4_layAll, 6)) (List.mem_of_getElem? (i := 6) (by decide +kernel))
theorem se_X4_layOut : Cond.selects yX4_layOut.cls yX4_layOut yX4_layOut ∈ gwl := gs_of (q := (yX4_layOut, 6)) (List.mem_of_getElem? (i := 7) (by decide +kernel))
theorem se_X4_placeOf : Cond.selects yX4_placeOf.cls yX4_placeOf yX4_placeOf ∈ gwl := gs_of (q := (yX4_placeOf, 6)) (List.mem_of_getElem? (i := 8) (by decide +kernel))
theorem se_X4_layTable : Cond.selects yX4_layTable.cls yX4_layTable yX4_layTable ∈ gwl := gs_of (q := (yX4_layTable, 6)) (List.mem_of_getElem? (i := 9) (by decide +kernel))
theorem se_X4_placeEvenly : Cond.selects yX4_placeEvenly.cls yX4_placeEvenly yX4_placeEvenly ∈ gwl := gs_of (q := (yX4_placeEvenly, 6)) (List.mem_of_getElem? (i := 10) (by decide +kernel))
theorem se_X4_placeColumn : Cond.selects yX4_placeColumn.cls yX4_placeColumn yX4_placeColumn ∈ gwl := gs_of (q := (yX4_placeColumn, 6)) (List.mem_of_getElem? (i := 11) (by decide +kernel))
theorem se_X7_flatEdges : Cond.selects yX7_flatEdges.cls yX7_flatEdges yX7_flatEdges ∈ gwl := gs_of (q := (yX7_flatEdges, 20)) (List.mem_of_getElem? (i := 12) (by decide +kernel))
theorem se_X4_placeByContent : Cond.selects yX4_placeByContent.cls yX4_placeByContent yX4_placeByContent ∈ gwl := gs_of (q := (yX4_placeByContent, 6)) (List.mem_of_getElem? (i := 13) (by decide +kernel))
theorem se_X7_flatRim : Cond.selects yX7_flatRim.cls yX7_flatRim yX7_flatRim ∈ gwl := gs_of (q := (yX7_flatRim, 20)) (List.mem_of_getElem? (i := 14) (by decide +kernel))
theorem se_X3_isInLines : Cond.selects yX3_isInLines.cls yX3_isInLines yX3_isInLines ∈ gwl := gs_of (q := (yX3_isInLines, 3)) (List.mem_of_getElem? (i := 15) (by decide +kernel))
theorem se_X7_mayStandInRun : Cond.selects yX7_mayStandInRun.cls yX7_mayStandInRun yX7_mayStandInRun ∈ gwl := gs_of (q := (yX7_mayStandInRun, 20)) (List.mem_of_getElem? (i := 16) (by decide +kernel))
theorem se_X4_layRow : Cond.selects yX4_layRow.cls yX4_layRow yX4_layRow ∈ gwl := gs_of (q := (yX4_layRow, 6)) (List.mem_of_getElem? (i := 17) (by decide +kernel))
theorem se_X7_uprightEdges : Cond.selects yX7_uprightEdges.cls yX7_uprightEdges yX7_uprightEdges ∈ gwl := gs_of (q := (yX7_uprightEdges, 20)) (List.mem_of_getElem? (i := 18) (by decide +kernel))
theorem se_X4_layWithBars : Cond.selects yX4_layWithBars.cls yX4_layWithBars yX4_layWithBars ∈ gwl := gs_of (q := (yX4_layWithBars, 6)) (List.mem_of_getElem? (i := 19) (by decide +kernel))
theorem se_X4_flowContext : Cond.selects yX4_flowContext.cls yX4_flowContext yX4_flowContext ∈ gwl := gs_of (q := (yX4_flowContext, 6)) (List.mem_of_getElem? (i := 20) (by decide +kernel))
theorem se_X4_flowOf : Cond.selects yX4_flowOf.cls yX4_flowOf yX4_flowOf ∈ gwl := gs_of (q := (yX4_flowOf, 6)) (List.mem_of_getElem? (i := 21) (by decide +kernel))
theorem se_X2_begin : Cond.selects yX2_begin.cls yX2_begin yX2_begin ∈ gwl := gs_of (q := (yX2_begin, 20)) (List.mem_of_getElem? (i := 22) (by decide +kernel))
theorem se_X4_flowContainer : Cond.selects yX4_flowContainer.cls yX4_flowContainer yX4_flowContainer ∈ gwl := gs_of (q := (yX4_flowContainer, 6)) (List.mem_of_getElem? (i := 23) (by decide +kernel))
theorem se_X4_freeLines : Cond.selects yX4_freeLines.cls yX4_freeLines yX4_freeLines ∈ gwl := gs_of (q := (yX4_freeLines, 6)) (List.mem_of_getElem? (i := 24) (by decide +kernel))
theorem se_X4_flowLines : Cond.selects yX4_flowLines.cls yX4_flowLines yX4_flowLines ∈ gwl := gs_of (q := (yX4_flowLines, 6)) (List.mem_of_getElem? (i := 25) (by decide +kernel))
theorem se_X2_endMargins : Cond.selects yX2_endMargins.cls yX2_endMargins yX2_endMargins ∈ gwl := gs_of (q := (yX2_endMargins, 20)) (List.mem_of_getElem? (i := 26) (by decide +kernel))
theorem se_X2_pendingY : Cond.selects yX2_pendingY.cls yX2_pendingY yX2_pendingY ∈ gwl := gs_of (q := (yX2_pendingY, 20)) (List.mem_of_getElem? (i := 27) (by decide +kernel))
theorem se_X2_dropMargins : Cond.selects yX2_dropMargins.cls yX2_dropMargins yX2_dropMargins ∈ gwl := gs_of (q := (yX2_dropMargins, 20)) (List.mem_of_getElem? (i := 28) (by decide +kernel))
theorem se_X4_addWords : Cond.selects yX4_addWords.cls yX4_addWords yX4_addWords ∈ gwl := gs_of (q := (yX4_addWords, 6)) (List.mem_of_getElem? (i := 29) (by decide +kernel))
theorem se_X9_pieceAt : Cond.selects yX9_pieceAt.cls yX9_pieceAt yX9_pieceAt ∈ gwl := gs_of (q := (yX9_pieceAt, 20)) (List.mem_of_getElem? (i := 30) (by decide +kernel))
theorem se_X4_addThing : Cond.selects yX4_addThing.cls yX4_addThing yX4_addThing ∈ gwl := gs_of (q := (yX4_addThing, 6)) (List.mem_of_getElem? (i := 31) (by decide +kernel))
theorem se_X2_look : Cond.selects yX2_look.cls yX2_look yX2_look ∈ gwl := gs_of (q := (yX2_look, 20)) (List.mem_of_getElem? (i := 32) (by decide +kernel))
theorem se_X1_reachesInto : Cond.selects yX1_reachesInto.cls yX1_reachesInto yX1_reachesInto ∈ gwl := gs_of (q := (yX1_reachesInto, 7)) (List.mem_of_getElem? (i := 33) (by decide +kernel))
theorem se_X2_fits : Cond.selects yX2_fits.cls yX2_fits yX2_fits ∈ gwl := gs_of (q := (yX2_fits, 20)) (List.mem_of_getElem? (i := 34) (by decide +kernel))
theorem se_X2_nextOffset : Cond.selects yX2_nextOffset.cls yX2_nextOffset yX2_nextOffset ∈ gwl := gs_of (q := (yX2_nextOffset, 20)) (List.mem_of_getElem? (i := 35) (by decide +kernel))
theorem se_X2_band : Cond.selects yX2_band.cls yX2_band yX2_band ∈ gwl := gs_of (q := (yX2_band, 20)) (List.mem_of_getElem? (i := 36) (by decide +kernel))
theorem se_X4_putThing : Cond.selects yX4_putThing.cls yX4_putThing yX4_putThing ∈ gwl := gs_of (q := (yX4_putThing, 6)) (List.mem_of_getElem? (i := 37) (by decide +kernel))
theorem se_X4_addLine : Cond.selects yX4_addLine.cls yX4_addLine yX4_addLine ∈ gwl := gs_of (q := (yX4_addLine, 6)) (List.mem_of_getElem? (i := 38) (by decide +kernel))
theorem se_X4_endLine : Cond.selects yX4_endLine.cls yX4_endLine yX4_endLine ∈ gwl := gs_of (q := (yX4_endLine, 6)) (List.mem_of_getElem? (i := 39) (by decide +kernel))
theorem se_X2_reachTo : Cond.selects yX2_reachTo.cls yX2_reachTo yX2_reachTo ∈ gwl := gs_of (q := (yX2_reachTo, 20)) (List.mem_of_getElem? (i := 40) (by decide +kernel))
theorem se_X4_putFloat : Cond.selects yX4_putFloat.cls yX4_putFloat yX4_putFloat ∈ gwl := gs_of (q := (yX4_putFloat, 6)) (List.mem_of_getElem? (i := 41) (by decide +kernel))
theorem se_X4_knownHeight : Cond.selects yX4_knownHeight.cls yX4_knownHeight yX4_knownHeight ∈ gwl := gs_of (q := (yX4_knownHeight, 6)) (List.mem_of_getElem? (i := 42) (by decide +kernel))
theorem se_X7_uprightRim : Cond.selects yX7_uprightRim.cls yX7_uprightRim yX7_uprightRim ∈ gwl := gs_of (q := (yX7_uprightRim, 20)) (List.mem_of_getElem? (i := 43) (by decide +kernel))
theorem se_X2_floatTop : Cond.selects yX2_floatTop.cls yX2_floatTop yX2_floatTop ∈ gwl := gs_of (q := (yX2_floatTop, 20)) (List.mem_of_getElem? (i := 44) (by decide +kernel))
theorem se_X2_findHeight : Cond.selects yX2_findHeight.cls yX2_findHeight yX2_findHeight ∈ gwl := gs_of (q := (yX2_findHeight, 20)) (List.mem_of_getElem? (i := 45) (by decide +kernel))
theorem se_X2_nextLow : Cond.selects yX2_nextLow.cls yX2_nextLow yX2_nextLow ∈ gwl := gs_of (q := (yX2_nextLow, 20)) (List.mem_of_getElem? (i := 46) (by decide +kernel))
theorem se_X2_addFloat : Cond.selects yX2_addFloat.cls yX2_addFloat yX2_addFloat ∈ gwl := gs_of (q := (yX2_addFloat, 20)) (List.mem_of_getElem? (i := 47) (by decide +kernel))
theorem se_X4_addInlineBlock : Cond.selects yX4_addInlineBlock.cls yX4_addInlineBlock yX4_addInlineBlock ∈ gwl := gs_of (q := (yX4_addInlineBlock, 6)) (List.mem_of_getElem? (i := 48) (by decide +kernel))
theorem se_X4_meetFloat : Cond.selects yX4_meetFloat.cls yX4_meetFloat yX4_meetFloat ∈ gwl := gs_of (q := (yX4_meetFloat, 6)) (List.mem_of_getElem? (i := 49) (by decide +kernel))
theorem se_X2_addLate : Cond.selects yX2_addLate.cls yX2_addLate yX2_addLate ∈ gwl := gs_of (q := (yX2_addLate, 20)) (List.mem_of_getElem? (i := 50) (by decide +kernel))
theorem se_X4_meetAbsolute : Cond.selects yX4_meetAbsolute.cls yX4_meetAbsolute yX4_meetAbsolute ∈ gwl := gs_of (q := (yX4_meetAbsolute, 6)) (List.mem_of_getElem? (i := 51) (by decide +kernel))
theorem se_X4_flowWithoutLines : Cond.selects yX4_flowWithoutLines.cls yX4_flowWithoutLines yX4_flowWithoutLines ∈ gwl := gs_of (q := (yX4_flowWithoutLines, 6)) (List.mem_of_getElem? (i := 52) (by decide +kernel))
theorem se_X4_flowOutside : Cond.selects yX4_flowOutside.cls yX4_flowOutside yX4_flowOutside ∈ gwl := gs_of (q := (yX4_flowOutside, 6)) (List.mem_of_getElem? (i := 53) (by decide +kernel))
theorem se_X4_flowContextBlock : Cond.selects yX4_flowContextBlock.cls yX4_flowContextBlock yX4_flowContextBlock ∈ gwl := gs_of (q := (yX4_flowContextBlock, 6)) (List.mem_of_getElem? (i := 54) (by decide +kernel))
theorem se_X2_pend : Cond.selects yX2_pend.cls yX2_pend yX2_pend ∈ gwl := gs_of (q := (yX2_pend, 20)) (List.mem_of_getElem? (i := 55) (by decide +kernel))
theorem se_X2_clearFloats : Cond.selects yX2_clearFloats.cls yX2_clearFloats yX2_clearFloats ∈ gwl := gs_of (q := (yX2_clearFloats, 20)) (List.mem_of_getElem? (i := 56) (by decide +kernel))
theorem se_X4_flowPlainBlock : Cond.selects yX4_flowPlainBlock.cls yX4_flowPlainBlock yX4_flowPlainBlock ∈ gwl := gs_of (q := (yX4_flowPlainBlock, 6)) (List.mem_of_getElem? (i := 57) (by decide +kernel))
theorem se_X2_contentHeight : Cond.selects yX2_contentHeight.cls yX2_contentHeight yX2_contentHeight ∈ gwl := gs_of (q := (yX2_contentHeight, 20)) (List.mem_of_getElem? (i := 58) (by decide +kernel))
theorem se_X4_layInColumns : Cond.selects yX4_layInColumns.cls yX4_layInColumns yX4_layInColumns ∈ gwl := gs_of (q := (yX4_layInColumns, 6)) (List.mem_of_getElem? (i := 59) (by decide +kernel))
theorem se_X4_gatherItems : Cond.selects yX4_gatherItems.cls yX4_gatherItems yX4_gatherItems ∈ gwl := gs_of (q := (yX4_gatherItems, 6)) (List.mem_of_getElem? (i := 60) (by decide +kernel))
theorem se_X4_gatherLines : Cond.selects yX4_gatherLines.cls yX4_gatherLines yX4_gatherLines ∈ gwl := gs_of (q := (yX4_gatherLines, 6)) (List.mem_of_getElem? (i := 61) (by decide +kernel))
theorem se_X10_add : Cond.selects yX10_add.cls yX10_add yX10_add ∈ gwl := gs_of (q := (yX10_add, 7)) (List.mem_of_getElem? (i := 62) (by decide +kernel))
theorem se_X11_topSide : Cond.selects yX11_topSide.cls yX11_topSide yX11_topSide ∈ gwl := gs_of (q := (yX11_topSide, 5)) (List.mem_of_getElem? (i := 63) (by decide +kernel))
theorem se_X10_findBreaks : Cond.selects yX10_findBreaks.cls yX10_findBreaks yX10_findBreaks ∈ gwl := gs_of (q := (yX10_findBreaks, 7)) (List.mem_of_getElem? (i := 64) (by decide +kernel))
theorem se_X10_addPlace : Cond.selects yX10_addPlace.cls yX10_addPlace yX10_addPlace ∈ gwl := gs_of (q := (yX10_addPlace, 7)) (List.mem_of_getElem? (i := 65) (by decide +kernel))
theorem se_X10_keepWholeItems : Cond.selects yX10_keepWholeItems.cls yX10_keepWholeItems yX10_keepWholeItems ∈ gwl := gs_of (q := (yX10_keepWholeItems, 7)) (List.mem_of_getElem? (i := 66) (by decide +kernel))
theorem se_X10_leastHeight : Cond.selects yX10_leastHeight.cls yX10_leastHeight yX10_leastHeight ∈ gwl := gs_of (q := (yX10_leastHeight, 7)) (List.mem_of_getElem? (i := 67) (by decide +kernel))
theorem se_X10_split : Cond.selects yX10_split.cls yX10_split yX10_split ∈ gwl := gs_of (q := (yX10_split, 7)) (List.mem_of_getElem? (i := 68) (by decide +kernel))
theorem se_X4_moveToColumns : Cond.selects yX4_moveToColumns.cls yX4_moveToColumns yX4_moveToColumns ∈ gwl := gs_of (q := (yX4_moveToColumns, 6)) (List.mem_of_getElem? (i := 69) (by decide +kernel))
theorem se_X4_moveLines : Cond.selects yX4_moveLines.cls yX4_moveLines yX4_moveLines ∈ gwl := gs_of (q := (yX4_moveLines, 6)) (List.mem_of_getElem? (i := 70) (by decide +kernel))
theorem se_X10_columnAt : Cond.selects yX10_columnAt.cls yX10_columnAt yX10_columnAt ∈ gwl := gs_of (q := (yX10_columnAt, 7)) (List.mem_of_getElem? (i := 71) (by decide +kernel))
theorem se_X10_beginOf : Cond.selects yX10_beginOf.cls yX10_beginOf yX10_beginOf ∈ gwl := gs_of (q := (yX10_beginOf, 7)) (List.mem_of_getElem? (i := 72) (by decide +kernel))
theorem se_X4_layAbsolute : Cond.selects yX4_layAbsolute.cls yX4_layAbsolute yX4_layAbsolute ∈ gwl := gs_of (q := (yX4_layAbsolute, 6)) (List.mem_of_getElem? (i := 73) (by decide +kernel))
theorem se_X7_isStack : Cond.selects yX7_isStack.cls yX7_isStack yX7_isStack ∈ gwl := gs_of (q := (yX7_isStack, 20)) (List.mem_of_getElem? (i := 74) (by decide +kernel))
theorem se_X4_settle : Cond.selects yX4_settle.cls yX4_settle yX4_settle ∈ gwl := gs_of (q := (yX4_settle, 6)) (List.mem_of_getElem? (i := 75) (by decide +kernel))
theorem se_X4_settleAbsolute : Cond.selects yX4_settleAbsolute.cls yX4_settleAbsolute yX4_settleAbsolute ∈ gwl := gs_of (q := (yX4_settleAbsolute, 6)) (List.mem_of_getElem? (i := 76) (by decide +kernel))
theorem se_X4_settleInFlow : Cond.selects yX4_settleInFlow.cls yX4_settleInFlow yX4_settleInFlow ∈ gwl := gs_of (q := (yX4_settleInFlow, 6)) (List.mem_of_getElem? (i := 77) (by decide +kernel))
theorem se_X11_leftSide : Cond.selects yX11_leftSide.cls yX11_leftSide yX11_leftSide ∈ gwl := gs_of (q := (yX11_leftSide, 5)) (List.mem_of_getElem? (i := 78) (by decide +kernel))
theorem se_X8_arrange : Cond.selects yX8_arrange.cls yX8_arrange yX8_arrange ∈ gwl := gs_of (q := (yX8_arrange, 2)) (List.mem_of_getElem? (i := 79) (by decide +kernel))
theorem se_X8_paintStack : Cond.selects yX8_paintStack.cls yX8_paintStack yX8_paintStack ∈ gwl := gs_of (q := (yX8_paintStack, 2)) (List.mem_of_getElem? (i := 80) (by decide +kernel))
theorem se_X8_add : Cond.selects yX8_add.cls yX8_add yX8_add ∈ gwl := gs_of (q := (yX8_add, 2)) (List.mem_of_getElem? (i := 81) (by decide +kernel))
theorem se_X8_paintStacksIn : Cond.selects yX8_paintStacksIn.cls yX8_paintStacksIn yX8_paintStacksIn ∈ gwl := gs_of (q := (yX8_paintStacksIn, 2)) (List.mem_of_getElem? (i := 82) (by decide +kernel))
theorem se_X8_paintInside : Cond.selects yX8_paintInside.cls yX8_paintInside yX8_paintInside ∈ gwl := gs_of (q := (yX8_paintInside, 2)) (List.mem_of_getElem? (i := 83) (by decide +kernel))
theorem se_X12_layAgain : Cond.selects yX12_layAgain.cls yX12_layAgain yX12_layAgain ∈ gwl := gs_of (q := (yX12_layAgain, 10)) (List.mem_of_getElem? (i := 85) (by decide +kernel))
theorem se_X12_placedAt : Cond.selects yX12_placedAt.cls yX12_placedAt yX12_placedAt ∈ gwl := gs_of (q := (yX12_placedAt, 10)) (List.mem_of_getElem? (i := 86) (by decide +kernel))
theorem se_X12_nodeAt : Cond.selects yX12_nodeAt.cls yX12_nodeAt yX12_nodeAt ∈ gwl := gs_of (q := (yX12_nodeAt, 10)) (List.mem_of_getElem? (i := 87) (by decide +kernel))
theorem se_X12_boxAt : Cond.selects yX12_boxAt.cls yX12_boxAt yX12_boxAt ∈ gwl := gs_of (q := (yX12_boxAt, 10)) (List.mem_of_getElem? (i := 88) (by decide +kernel))
theorem se_X4_forgetAll : Cond.selects yX4_forgetAll.cls yX4_forgetAll yX4_forgetAll ∈ gwl := gs_of (q := (yX4_forgetAll, 6)) (List.mem_of_getElem? (i := 89) (by decide +kernel))
theorem se_X7_holdsLines : Cond.selects yX7_holdsLines.cls yX7_holdsLines yX7_holdsLines ∈ gwl := gs_of (q := (yX7_holdsLines, 20)) (List.mem_of_getElem? (i := 90) (by decide +kernel))
theorem se_X7_countChildren : Cond.selects yX7_countChildren.cls yX7_countChildren yX7_countChildren ∈ gwl := gs_of (q := (yX7_countChildren, 20)) (List.mem_of_getElem? (i := 91) (by decide +kernel))
theorem se_X12_hasRoom : Cond.selects yX12_hasRoom.cls yX12_hasRoom yX12_hasRoom ∈ gwl := gs_of (q := (yX12_hasRoom, 10)) (List.mem_of_getElem? (i := 92) (by decide +kernel))
theorem se_X12_insertNode : Cond.selects yX12_insertNode.cls yX12_insertNode yX12_insertNode ∈ gwl := gs_of (q := (yX12_insertNode, 10)) (List.mem_of_getElem? (i := 93) (by decide +kernel))
theorem se_X7_putIn : Cond.selects yX7_putIn.cls yX7_putIn yX7_putIn ∈ gwl := gs_of (q := (yX7_putIn, 20)) (List.mem_of_getElem? (i := 94) (by decide +kernel))
theorem se_X12_noteChange : Cond.selects yX12_noteChange.cls yX12_noteChange yX12_noteChange ∈ gwl := gs_of (q := (yX12_noteChange, 10)) (List.mem_of_getElem? (i := 95) (by decide +kernel))
theorem se_X12_textAt : Cond.selects yX12_textAt.cls yX12_textAt yX12_textAt ∈ gwl := gs_of (q := (yX12_textAt, 10)) (List.mem_of_getElem? (i := 96) (by decide +kernel))
theorem se_X12_noteChangeInside : Cond.selects yX12_noteChangeInside.cls yX12_noteChangeInside yX12_noteChangeInside ∈ gwl := gs_of (q := (yX12_noteChangeInside, 10)) (List.mem_of_getElem? (i := 97) (by decide +kernel))
