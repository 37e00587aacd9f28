/-! Methods with their room, their words; the links of calls, fields, classes. Printed by program out of the tables. -/
theorem TB_sub {ws : List Cond} (ps : List Nat) (hp : ws = ps.filterMap (fun i => lw_tbl[i]?)) (h : ws.all goodWord = true) : ∀ w ∈ ws, w ∈ TB := by
  intro w hw
  have h1 := List.all_eq_true.mp h w hw
  rw [hp] at hw
  obtain ⟨i, -, hi⟩ := List.mem_filterMap.mp hw
  exact TB_of hi h1
def mX8_init : Mi := (yX8_init, cX8_init, 1, none, 1, 20)
def mX7_init : Mi := (yX7_init, cX7_init, 1, none, 1, 20)
def mX5_init : Mi := (yX5_init, cX5_init, 2, none, 2, 40)
def mX6_init : Mi := (yX6_init, cX6_init, 2, none, 1, 21)
def mX4_init : Mi := (yX4_init, cX4_init, 1, none, 2, 42)
def mX2_init : Mi := (yX2_init, cX2_init, 2, none, 3, 62)
def mX1_init : Mi := (yX1_init, cX1_init, 1, none, 1, 20)
def mJ7_fill_53178 : Mi := (yJ7_fill_53178, cJ7_fill_53178, 4, none, 0, 0)
def mX0_clear : Mi := (yX0_clear, cX0_clear, 2, none, 1, 23)
def mX0_init : Mi := (yX0_init, cX0_init, 1, none, 2, 44)
def mX3_init : Mi := (yX3_init, cX3_init, 1, none, 1, 20)
def mX9_init : Mi := (yX9_init, cX9_init, 1, none, 4, 83)
def mX10_init : Mi := (yX10_init, cX10_init, 1, none, 1, 20)
def mX8_isFull : Mi := (yX8_isFull, cX8_isFull, 1, (some .boolean), 0, 0)
def mX8_add : Mi := (yX8_add, cX8_add, 2, none, 1, 20)
def mX8_length : Mi := (yX8_length, cX8_length, 1, (some .int), 0, 0)
def mX9_append : Mi := (yX9_append, cX9_append, 2, (some .int), 2, 41)
def mX10_in : Mi := (yX10_in, cX10_in, 3, (some .boolean), 0, 0)
def mX10_append : Mi := (yX10_append, cX10_append, 2, (some .int), 1, 22)
def mX8_clear : Mi := (yX8_clear, cX8_clear, 1, none, 0, 0)
def mX9_clearText : Mi := (yX9_clearText, cX9_clearText, 2, (some .int), 1, 20)
def mX10_clearText : Mi := (yX10_clearText, cX10_clearText, 2, (some .int), 0, 0)
def mX6_clear : Mi := (yX6_clear, cX6_clear, 1, none, 0, 0)
def mX4_clear : Mi := (yX4_clear, cX4_clear, 1, none, 1, 23)
def mX8_kindOfSign : Mi := (yX8_kindOfSign, cX8_kindOfSign, 1, (some .int), 0, 0)
def mJ0_coder_7d493 : Mi := (yJ0_coder_7d493, cJ0_coder_7d493, 1, (some .byte), 0, 0)
def mJ0_length_8abf5 : Mi := (yJ0_length_8abf5, cJ0_length_8abf5, 1, (some .int), 1, 20)
def mJ0_isLatin1_aae02 : Mi := (yJ0_isLatin1_aae02, cJ0_isLatin1_aae02, 1, (some .boolean), 0, 0)
def mJ3_checkIndex_8e157 : Mi := (yJ3_checkIndex_8e157, cJ3_checkIndex_8e157, 3, (some .int), 0, 0)
def mJ0_checkIndex_df160 : Mi := (yJ0_checkIndex_df160, cJ0_checkIndex_df160, 2, none, 1, 22)
def mJ1_charAt_3b067 : Mi := (yJ1_charAt_3b067, cJ1_charAt_3b067, 2, (some .char), 2, 43)
def mJ2_length_9d52b : Mi := (yJ2_length_9d52b, cJ2_length_9d52b, 1, (some .int), 0, 0)
def mJ2_checkIndex_2214a : Mi := (yJ2_checkIndex_2214a, cJ2_checkIndex_2214a, 2, none, 2, 43)
def mJ2_getChar_3b067 : Mi := (yJ2_getChar_3b067, cJ2_getChar_3b067, 2, (some .char), 1, 20)
def mJ2_charAt_3b067 : Mi := (yJ2_charAt_3b067, cJ2_charAt_3b067, 2, (some .char), 3, 64)
def mJ0_charAt_5068e : Mi := (yJ0_charAt_5068e, cJ0_charAt_5068e, 2, (some .char), 4, 85)
def mX8_isWord : Mi := (yX8_isWord, cX8_isWord, 5, (some .boolean), 5, 106)
def mX8_kindOfWord : Mi := (yX8_kindOfWord, cX8_kindOfWord, 3, (some .int), 6, 130)
def mX8_split : Mi := (yX8_split, cX8_split, 5, none, 7, 152)
def mX8_kind : Mi := (yX8_kind, cX8_kind, 1, (some .int), 0, 0)
def mX8_pass : Mi := (yX8_pass, cX8_pass, 2, (some .boolean), 0, 0)
def mX8_name : Mi := (yX8_name, cX8_name, 1, (some .int), 0, 0)
def mX9_isVariable : Mi := (yX9_isVariable, cX9_isVariable, 1, (some .boolean), 0, 0)
def mX4_widthOf : Mi := (yX4_widthOf, cX4_widthOf, 2, (some .int), 1, 20)
def mX8_advance : Mi := (yX8_advance, cX8_advance, 1, none, 0, 0)
def mX8_number : Mi := (yX8_number, cX8_number, 3, (some .int), 0, 0)
def mX4_declare : Mi := (yX4_declare, cX4_declare, 3, none, 1, 20)
def mX5_readDeclaration : Mi := (yX5_readDeclaration, cX5_readDeclaration, 4, (some .boolean), 2, 42)
def mX6_isFull : Mi := (yX6_isFull, cX6_isFull, 1, (some .boolean), 0, 0)
def mX7_clear : Mi := (yX7_clear, cX7_clear, 1, none, 0, 0)
def mX8_constantBits : Mi := (yX8_constantBits, cX8_constantBits, 2, (some .int), 0, 0)
def mX7_beginPart : Mi := (yX7_beginPart, cX7_beginPart, 1, none, 0, 0)
def mX8_constantBit : Mi := (yX8_constantBit, cX8_constantBit, 3, (some .int), 0, 0)
def mX7_add : Mi := (yX7_add, cX7_add, 2, none, 0, 0)
def mX5_readConstant : Mi := (yX5_readConstant, cX5_readConstant, 3, (some .boolean), 1, 22)
def mX5_readRange : Mi := (yX5_readRange, cX5_readRange, 3, (some .boolean), 1, 22)
def mX9_nodeOf : Mi := (yX9_nodeOf, cX9_nodeOf, 2, (some .int), 0, 0)
def mX7_addRange : Mi := (yX7_addRange, cX7_addRange, 4, none, 1, 21)
def mX5_readPart : Mi := (yX5_readPart, cX5_readPart, 3, (some .boolean), 2, 44)
def mX5_readTerm : Mi := (yX5_readTerm, cX5_readTerm, 4, (some .boolean), 3, 66)
def mX7_bitCount : Mi := (yX7_bitCount, cX7_bitCount, 1, (some .int), 0, 0)
def mX7_node : Mi := (yX7_node, cX7_node, 3, (some .int), 0, 0)
def mX7_partBeginsAt : Mi := (yX7_partBeginsAt, cX7_partBeginsAt, 3, (some .boolean), 0, 0)
def mX6_putTerm : Mi := (yX6_putTerm, cX6_putTerm, 5, none, 1, 22)
def mX6_finish : Mi := (yX6_finish, cX6_finish, 2, none, 1, 20)
def mX5_readStatement : Mi := (yX5_readStatement, cX5_readStatement, 5, (some .boolean), 4, 89)
def mX8_start : Mi := (yX8_start, cX8_start, 1, (some .int), 0, 0)
def mX5_read : Mi := (yX5_read, cX5_read, 4, (some .int), 8, 176)
def mX2_forgetOldest : Mi := (yX2_forgetOldest, cX2_forgetOldest, 3, none, 0, 0)
def mX6_move : Mi := (yX6_move, cX6_move, 6, none, 1, 28)
def mX6_copyFrom : Mi := (yX6_copyFrom, cX6_copyFrom, 2, none, 2, 53)
def mX4_copyFrom : Mi := (yX4_copyFrom, cX4_copyFrom, 2, none, 3, 74)
def mX2_push : Mi := (yX2_push, cX2_push, 2, none, 4, 95)
def mX6_count : Mi := (yX6_count, cX6_count, 1, (some .int), 0, 0)
def mX6_has : Mi := (yX6_has, cX6_has, 2, (some .boolean), 0, 0)
def mX6_widthOf : Mi := (yX6_widthOf, cX6_widthOf, 2, (some .int), 1, 21)
def mX6_node : Mi := (yX6_node, cX6_node, 4, (some .int), 0, 0)
def mX9_isConstantNode : Mi := (yX9_isConstantNode, cX9_isConstantNode, 1, (some .boolean), 0, 0)
def mX6_partEndsAt : Mi := (yX6_partEndsAt, cX6_partEndsAt, 4, (some .boolean), 0, 0)
def mX9_variableOf : Mi := (yX9_variableOf, cX9_variableOf, 1, (some .int), 0, 0)
def mX9_bitOf : Mi := (yX9_bitOf, cX9_bitOf, 1, (some .int), 0, 0)
def mX1_cutBelow : Mi := (yX1_cutBelow, cX1_cutBelow, 4, none, 2, 41)
def mX1_cutAroundParts : Mi := (yX1_cutAroundParts, cX1_cutAroundParts, 8, none, 3, 64)
def mX1_isCut : Mi := (yX1_isCut, cX1_isCut, 2, (some .boolean), 1, 20)
def mX1_isMarked : Mi := (yX1_isMarked, cX1_isMarked, 6, (some .boolean), 2, 41)
def mX1_spread : Mi := (yX1_spread, cX1_spread, 9, (some .boolean), 3, 66)
def mX1_cut : Mi := (yX1_cut, cX1_cut, 7, none, 4, 94)
def mX0_rootOf : Mi := (yX0_rootOf, cX0_rootOf, 4, (some .int), 0, 0)
def mX0_fix : Mi := (yX0_fix, cX0_fix, 3, none, 0, 0)
def mX0_unite : Mi := (yX0_unite, cX0_unite, 5, none, 1, 22)
def mX0_join : Mi := (yX0_join, cX0_join, 3, none, 2, 46)
def mX0_equate : Mi := (yX0_equate, cX0_equate, 4, none, 3, 68)
def mX9_slice : Mi := (yX9_slice, cX9_slice, 2, none, 5, 120)
def mX4_statementCount : Mi := (yX4_statementCount, cX4_statementCount, 1, (some .int), 1, 20)
def mX9_load : Mi := (yX9_load, cX9_load, 2, (some .int), 9, 199)
def mX10_characterAt : Mi := (yX10_characterAt, cX10_characterAt, 2, (some .int), 0, 0)
def mX10_wordOf : Mi := (yX10_wordOf, cX10_wordOf, 3, (some .int), 1, 22)
def mX10_isSignCharacter : Mi := (yX10_isSignCharacter, cX10_isSignCharacter, 1, (some .boolean), 0, 0)
def mX10_advance : Mi := (yX10_advance, cX10_advance, 3, none, 2, 44)
def mX10_isFine : Mi := (yX10_isFine, cX10_isFine, 1, (some .boolean), 0, 0)
def mX10_take : Mi := (yX10_take, cX10_take, 3, (some .int), 3, 66)
def mX10_isName : Mi := (yX10_isName, cX10_isName, 1, (some .boolean), 0, 0)
def mX10_number : Mi := (yX10_number, cX10_number, 3, (some .int), 4, 88)
def mX10_isSign : Mi := (yX10_isSign, cX10_isSign, 2, (some .boolean), 0, 0)
def mX10_readDeclaration : Mi := (yX10_readDeclaration, cX10_readDeclaration, 3, none, 5, 110)
def mX10_addBit : Mi := (yX10_addBit, cX10_addBit, 2, none, 0, 0)
def mX10_readConstant : Mi := (yX10_readConstant, cX10_readConstant, 5, none, 4, 88)
def mX10_readRange : Mi := (yX10_readRange, cX10_readRange, 5, none, 5, 110)
def mX10_readPart : Mi := (yX10_readPart, cX10_readPart, 1, none, 6, 134)
def mX10_readTerm : Mi := (yX10_readTerm, cX10_readTerm, 1, none, 7, 154)
def mX10_putTerm : Mi := (yX10_putTerm, cX10_putTerm, 3, none, 0, 0)
def mX10_readStatement : Mi := (yX10_readStatement, cX10_readStatement, 5, none, 8, 174)
def mX10_readItem : Mi := (yX10_readItem, cX10_readItem, 1, none, 9, 198)
def mX10_keep : Mi := (yX10_keep, cX10_keep, 2, none, 0, 0)
def mX10_load : Mi := (yX10_load, cX10_load, 2, (some .int), 10, 218)
def mX6_drop : Mi := (yX6_drop, cX6_drop, 2, none, 2, 53)
def mX9_removeEquation : Mi := (yX9_removeEquation, cX9_removeEquation, 2, (some .int), 6, 141)
def mX10_removeAt : Mi := (yX10_removeAt, cX10_removeAt, 4, none, 0, 0)
def mX10_removeEquation : Mi := (yX10_removeEquation, cX10_removeEquation, 2, (some .int), 1, 23)
def mX9_removeDisequation : Mi := (yX9_removeDisequation, cX9_removeDisequation, 2, (some .int), 6, 141)
def mX10_removeDisequation : Mi := (yX10_removeDisequation, cX10_removeDisequation, 2, (some .int), 1, 23)
def mX9_width : Mi := (yX9_width, cX9_width, 2, (some .int), 2, 41)
def mX10_isVariable : Mi := (yX10_isVariable, cX10_isVariable, 1, (some .boolean), 1, 22)
def mX10_width : Mi := (yX10_width, cX10_width, 2, (some .int), 2, 42)
def mX9_equationCount : Mi := (yX9_equationCount, cX9_equationCount, 1, (some .int), 1, 20)
def mX10_equationCount : Mi := (yX10_equationCount, cX10_equationCount, 1, (some .int), 0, 0)
def mX9_disequationCount : Mi := (yX9_disequationCount, cX9_disequationCount, 1, (some .int), 1, 20)
def mX10_disequationCount : Mi := (yX10_disequationCount, cX10_disequationCount, 1, (some .int), 0, 0)
def mJ6_bitCount_0f7a4 : Mi := (yJ6_bitCount_0f7a4, cJ6_bitCount_0f7a4, 1, (some .int), 0, 0)
def mX1_countOf : Mi := (yX1_countOf, cX1_countOf, 2, (some .int), 1, 20)
def mX9_slicesOf : Mi := (yX9_slicesOf, cX9_slicesOf, 2, (some .int), 2, 41)
def mX9_sliceCount : Mi := (yX9_sliceCount, cX9_sliceCount, 2, (some .int), 3, 62)
def mX10_widthOf : Mi := (yX10_widthOf, cX10_widthOf, 2, (some .int), 0, 0)
def mX10_bitOf : Mi := (yX10_bitOf, cX10_bitOf, 4, (some .int), 0, 0)
def mX10_isOfVariable : Mi := (yX10_isOfVariable, cX10_isOfVariable, 2, (some .boolean), 0, 0)
def mX10_variableBit : Mi := (yX10_variableBit, cX10_variableBit, 1, (some .int), 0, 0)
def mX10_areOfOnePart : Mi := (yX10_areOfOnePart, cX10_areOfOnePart, 2, (some .boolean), 0, 0)
def mX10_addCut : Mi := (yX10_addCut, cX10_addCut, 2, none, 0, 0)
def mX10_cutEnds : Mi := (yX10_cutEnds, cX10_cutEnds, 9, none, 1, 23)
def mX10_isMarked : Mi := (yX10_isMarked, cX10_isMarked, 6, (some .boolean), 1, 23)
def mX10_carry : Mi := (yX10_carry, cX10_carry, 6, none, 2, 48)
def mX10_findCuts : Mi := (yX10_findCuts, cX10_findCuts, 3, none, 3, 73)
def mX10_slicesOf : Mi := (yX10_slicesOf, cX10_slicesOf, 4, (some .int), 0, 0)
def mX10_sliceCount : Mi := (yX10_sliceCount, cX10_sliceCount, 2, (some .int), 4, 95)
def mX9_isSlice : Mi := (yX9_isSlice, cX9_isSlice, 3, (some .boolean), 3, 62)
def mX1_startOf : Mi := (yX1_startOf, cX1_startOf, 5, (some .int), 0, 0)
def mX9_sliceStart : Mi := (yX9_sliceStart, cX9_sliceStart, 3, (some .int), 4, 84)
def mX10_isSlice : Mi := (yX10_isSlice, cX10_isSlice, 3, (some .boolean), 4, 95)
def mX10_startOf : Mi := (yX10_startOf, cX10_startOf, 5, (some .int), 0, 0)
def mX10_sliceStart : Mi := (yX10_sliceStart, cX10_sliceStart, 3, (some .int), 5, 117)
def mX9_sliceWidth : Mi := (yX9_sliceWidth, cX9_sliceWidth, 5, (some .int), 4, 84)
def mX10_sliceWidth : Mi := (yX10_sliceWidth, cX10_sliceWidth, 3, (some .int), 5, 117)
def mX1_sliceAt : Mi := (yX1_sliceAt, cX1_sliceAt, 4, (some .int), 1, 20)
def mX9_representative : Mi := (yX9_representative, cX9_representative, 5, (some .int), 4, 84)
def mX10_rootOf : Mi := (yX10_rootOf, cX10_rootOf, 3, (some .int), 0, 0)
def mX10_fix : Mi := (yX10_fix, cX10_fix, 3, none, 0, 0)
def mX10_join : Mi := (yX10_join, cX10_join, 5, none, 1, 22)
def mX10_equate : Mi := (yX10_equate, cX10_equate, 3, none, 2, 46)
def mX10_equateTerms : Mi := (yX10_equateTerms, cX10_equateTerms, 3, none, 3, 68)
def mX10_solve : Mi := (yX10_solve, cX10_solve, 3, (some .boolean), 4, 90)
def mX10_solveAll : Mi := (yX10_solveAll, cX10_solveAll, 1, (some .boolean), 5, 112)
def mX10_sliceOfBit : Mi := (yX10_sliceOfBit, cX10_sliceOfBit, 5, (some .int), 0, 0)
def mX10_representative : Mi := (yX10_representative, cX10_representative, 4, (some .int), 6, 132)
def mX9_classCount : Mi := (yX9_classCount, cX9_classCount, 6, (some .int), 3, 62)
def mX10_classCount : Mi := (yX10_classCount, cX10_classCount, 5, (some .int), 6, 132)
def mX0_agree : Mi := (yX0_agree, cX0_agree, 1, (some .boolean), 0, 0)
def mX9_isConsistent : Mi := (yX9_isConsistent, cX9_isConsistent, 1, (some .int), 1, 20)
def mX10_isConsistent : Mi := (yX10_isConsistent, cX10_isConsistent, 1, (some .int), 6, 132)
def mX9_firstConflict : Mi := (yX9_firstConflict, cX9_firstConflict, 2, (some .int), 4, 91)
def mX10_firstConflict : Mi := (yX10_firstConflict, cX10_firstConflict, 2, (some .int), 5, 112)
def mX9_tryEquations : Mi := (yX9_tryEquations, cX9_tryEquations, 3, none, 4, 91)
def mX9_conflictSet : Mi := (yX9_conflictSet, cX9_conflictSet, 4, (some .int), 5, 113)
def mX10_conflictSet : Mi := (yX10_conflictSet, cX10_conflictSet, 3, (some .int), 5, 112)
def mX9_isBit : Mi := (yX9_isBit, cX9_isBit, 3, (some .boolean), 2, 41)
def mX0_constantOf : Mi := (yX0_constantOf, cX0_constantOf, 2, (some .int), 1, 23)
def mX9_fixedBit : Mi := (yX9_fixedBit, cX9_fixedBit, 4, (some .int), 3, 63)
def mX10_isBit : Mi := (yX10_isBit, cX10_isBit, 3, (some .boolean), 2, 42)
def mX10_fixedBit : Mi := (yX10_fixedBit, cX10_fixedBit, 3, (some .int), 6, 132)
def mX9_compareBits : Mi := (yX9_compareBits, cX9_compareBits, 9, (some .int), 3, 63)
def mX10_compareBits : Mi := (yX10_compareBits, cX10_compareBits, 7, (some .int), 6, 132)
def mX9_freeBits : Mi := (yX9_freeBits, cX9_freeBits, 4, (some .int), 2, 44)
def mX10_isFree : Mi := (yX10_isFree, cX10_isFree, 2, (some .boolean), 0, 0)
def mX10_freeBits : Mi := (yX10_freeBits, cX10_freeBits, 3, (some .int), 6, 132)
def mJ7_fill_d0a16 : Mi := (yJ7_fill_d0a16, cJ7_fill_d0a16, 5, none, 0, 0)
def mX3_constantPlace : Mi := (yX3_constantPlace, cX3_constantPlace, 6, (some .long), 2, 44)
def mX3_wordOfZeros : Mi := (yX3_wordOfZeros, cX3_wordOfZeros, 9, (some .long), 3, 69)
def mX3_gatherCandidates : Mi := (yX3_gatherCandidates, cX3_gatherCandidates, 2, none, 0, 0)
def mX3_holds : Mi := (yX3_holds, cX3_holds, 2, (some .boolean), 0, 0)
def mX3_pickLast : Mi := (yX3_pickLast, cX3_pickLast, 6, (some .boolean), 1, 21)
def mX3_pickLastTwo : Mi := (yX3_pickLastTwo, cX3_pickLastTwo, 6, (some .boolean), 2, 46)
def mX3_pickThree : Mi := (yX3_pickThree, cX3_pickThree, 4, (some .boolean), 3, 71)
def mX3_choose : Mi := (yX3_choose, cX3_choose, 5, none, 4, 97)
def mX9_chosenModel : Mi := (yX9_chosenModel, cX9_chosenModel, 1, (some (.object "SliceSolver$Model")), 5, 121)
def mX3_oneCount : Mi := (yX3_oneCount, cX3_oneCount, 1, (some .int), 0, 0)
def mX9_isSatisfiable : Mi := (yX9_isSatisfiable, cX9_isSatisfiable, 1, (some .int), 6, 141)
def mX10_occurs : Mi := (yX10_occurs, cX10_occurs, 6, (some .boolean), 1, 23)
def mX10_findUsed : Mi := (yX10_findUsed, cX10_findUsed, 2, none, 2, 48)
def mX10_valueOf : Mi := (yX10_valueOf, cX10_valueOf, 5, (some .int), 1, 22)
def mX10_holds : Mi := (yX10_holds, cX10_holds, 4, (some .boolean), 2, 46)
def mX10_isModel : Mi := (yX10_isModel, cX10_isModel, 3, (some .boolean), 3, 69)
def mX10_search : Mi := (yX10_search, cX10_search, 8, (some .boolean), 4, 91)
def mX10_choose : Mi := (yX10_choose, cX10_choose, 2, (some .boolean), 6, 132)
def mX10_isSatisfiable : Mi := (yX10_isSatisfiable, cX10_isSatisfiable, 1, (some .int), 7, 153)
def mX9_oneBits : Mi := (yX9_oneBits, cX9_oneBits, 1, (some .int), 6, 141)
def mX10_oneBits : Mi := (yX10_oneBits, cX10_oneBits, 1, (some .int), 7, 153)
def mX3_hasOne : Mi := (yX3_hasOne, cX3_hasOne, 3, (some .boolean), 0, 0)
def mX9_value : Mi := (yX9_value, cX9_value, 7, (some .int), 6, 141)
def mX10_value : Mi := (yX10_value, cX10_value, 4, (some .int), 7, 153)
def mX9_isImplied : Mi := (yX9_isImplied, cX9_isImplied, 2, (some .int), 5, 113)
def mX10_isImplied : Mi := (yX10_isImplied, cX10_isImplied, 2, (some .int), 6, 132)
def mX2_depth : Mi := (yX2_depth, cX2_depth, 1, (some .int), 0, 0)
def mX2_popInto : Mi := (yX2_popInto, cX2_popInto, 2, none, 4, 95)
def mX9_undo : Mi := (yX9_undo, cX9_undo, 1, (some .int), 6, 141)
def mX10_undo : Mi := (yX10_undo, cX10_undo, 2, (some .int), 0, 0)
def mX9_undoDepth : Mi := (yX9_undoDepth, cX9_undoDepth, 1, (some .int), 1, 20)
def mX10_undoDepth : Mi := (yX10_undoDepth, cX10_undoDepth, 1, (some .int), 0, 0)
def mX9_isSlot : Mi := (yX9_isSlot, cX9_isSlot, 1, (some .boolean), 0, 0)
def mX9_snapshot : Mi := (yX9_snapshot, cX9_snapshot, 2, (some (.object "SliceSolver$Problem")), 0, 0)
def mX9_save : Mi := (yX9_save, cX9_save, 2, (some .int), 4, 95)
def mX10_save : Mi := (yX10_save, cX10_save, 3, (some .int), 1, 22)
def mX2_clear : Mi := (yX2_clear, cX2_clear, 1, none, 0, 0)
def mX9_restore : Mi := (yX9_restore, cX9_restore, 2, (some .int), 6, 141)
def mX10_restore : Mi := (yX10_restore, cX10_restore, 3, (some .int), 1, 22)
theorem ini_X9 : Cond.initialized RX9 ∈ TB := TB_of (w := Cond.initialized RX9) (i := 79) (by decide +kernel) (by decide +kernel)
theorem ini_X0 : Cond.initialized RX0 ∈ TB := TB_of (w := Cond.initialized RX0) (i := 88) (by decide +kernel) (by decide +kernel)
theorem ini_X1 : Cond.initialized RX1 ∈ TB := TB_of (w := Cond.initialized RX1) (i := 87) (by decide +kernel) (by decide +kernel)
theorem ini_X2 : Cond.initialized RX2 ∈ TB := TB_of (w := Cond.initialized RX2) (i := 86) (by decide +kernel) (by decide +kernel)
theorem ini_X3 : Cond.initialized RX3 ∈ TB := TB_of (w := Cond.initialized RX3) (i := 90) (by decide +kernel) (by decide +kernel)
theorem ini_X4 : Cond.initialized RX4 ∈ TB := TB_of (w := Cond.initialized RX4) (i := 83) (by decide +kernel) (by decide +kernel)
theorem ini_X5 : Cond.initialized RX5 ∈ TB := TB_of (w := Cond.initialized RX5) (i := 81) (by decide +kernel) (by decide +kernel)
theorem ini_X6 : Cond.initialized RX6 ∈ TB := TB_of (w := Cond.initialized RX6) (i := 84) (by decide +kernel) (by decide +kernel)
theorem ini_X7 : Cond.initialized RX7 ∈ TB := TB_of (w := Cond.initialized RX7) (i := 82) (by decide +kernel) (by decide +kernel)
theorem ini_X8 : Cond.initialized RX8 ∈ TB := TB_of (w := Cond.initialized RX8) (i := 80) (by decide +kernel) (by decide +kernel)
theorem ini_X10 : Cond.initialized RX10 ∈ TB := TB_of (w := Cond.initialized RX10) (i := 91) (by decide +kernel) (by decide +kernel)
theorem ini_J6 : Cond.initialized RJ6 ∈ TB := TB_of (w := Cond.initialized RJ6) (i := 97) (by decide +kernel) (by decide +kernel)
theorem ini_J0 : Cond.initialized RJ0 ∈ TB := TB_of (w := Cond.initialized RJ0) (i := 92) (by decide +kernel) (by decide +kernel)
theorem ini_J1 : Cond.initialized RJ1 ∈ TB := TB_of (w := Cond.initialized RJ1) (i := 93) (by decide +kernel) (by decide +kernel)
theorem ini_J2 : Cond.initialized RJ2 ∈ TB := TB_of (w := Cond.initialized RJ2) (i := 95) (by decide +kernel) (by decide +kernel)
theorem ini_J7 : Cond.initialized RJ7 ∈ TB := TB_of (w := Cond.initialized RJ7) (i := 89) (by decide +kernel) (by decide +kernel)
theorem ini_J3 : Cond.initialized RJ3 ∈ TB := TB_of (w := Cond.initialized RJ3) (i := 94) (by decide +kernel) (by decide +kernel)
theorem lay_X0 : ∀ w ∈ u_ws RX0 TX0 3, w ∈ TB := TB_sub [259, 261, 263] (by decide +kernel) (by decide +kernel)
theorem lay_X1 : ∀ w ∈ u_ws RX1 TX1 1, w ∈ TB := TB_sub [240] (by decide +kernel) (by decide +kernel)
theorem lay_X2 : ∀ w ∈ u_ws RX2 TX2 2, w ∈ TB := TB_sub [228, 230] (by decide +kernel) (by decide +kernel)
theorem lay_X3 : ∀ w ∈ u_ws RX3 TX3 5, w ∈ TB := TB_sub [277, 279, 281, 283, 285] (by decide +kernel) (by decide +kernel)
theorem lay_X4 : ∀ w ∈ u_ws RX4 TX4 3, w ∈ TB := TB_sub [210, 212, 214] (by decide +kernel) (by decide +kernel)
theorem lay_X5 : ∀ w ∈ u_ws RX5 TX5 4, w ∈ TB := TB_sub [162, 164, 166, 168] (by decide +kernel) (by decide +kernel)
theorem lay_X6 : ∀ w ∈ u_ws RX6 TX6 5, w ∈ TB := TB_sub [191, 193, 195, 197, 199] (by decide +kernel) (by decide +kernel)
theorem lay_X7 : ∀ w ∈ u_ws RX7 TX7 3, w ∈ TB := TB_sub [151, 153, 155] (by decide +kernel) (by decide +kernel)
theorem lay_X8 : ∀ w ∈ u_ws RX8 TX8 7, w ∈ TB := TB_sub [119, 121, 123, 125, 127, 129, 131] (by decide +kernel) (by decide +kernel)
theorem lay_X9 : ∀ w ∈ u_ws RX9 TX9 13, w ∈ TB := TB_sub [302, 304, 306, 308, 310, 312, 314, 316, 318, 320, 322, 324, 326] (by decide +kernel) (by decide +kernel)
theorem lay_X10 : ∀ w ∈ u_ws RX10 TX10 26, w ∈ TB := TB_sub [925, 927, 929, 931, 933, 935, 937, 939, 941, 943, 945, 947, 949, 951, 953, 955, 957, 959, 961, 963, 965, 967, 969, 971, 973, 975] (by decide +kernel) (by decide +kernel)
theorem fX8_9 : FLk RX8 9 8 0 (some true) (.array .char) := ⟨RX8, TX8, 7, tyX8, rfl, by decide, lay_X8, tyX8_ok, nmX8, TB_of (i := 112) (by decide +kernel) (by decide +kernel), by decide +kernel, by decide +kernel, by decide +kernel⟩
theorem fX8_25 : FLk RX8 25 8 1 (some false) (.int) := ⟨RX8, TX8, 7, tyX8, rfl, by decide, lay_X8, tyX8_ok, nmX8, TB_of (i := 113) (by decide +kernel) (by decide +kernel), by decide +kernel, by decide +kernel, by decide +kernel⟩
theorem fX8_15 : FLk RX8 15 8 2 (some true) (.array .int) := ⟨RX8, TX8, 7, tyX8, rfl, by decide, lay_X8, tyX8_ok, nmX8, TB_of (i := 114) (by decide +kernel) (by decide +kernel), by decide +kernel, by decide +kernel, by decide +kernel⟩
theorem fX8_19 : FLk RX8 19 8 3 (some true) (.array .int) := ⟨RX8, TX8, 7, tyX8, rfl, by decide, lay_X8, tyX8_ok, nmX8, TB_of (i := 115) (by decide +kernel) (by decide +kernel), by decide +kernel, by decide +kernel, by decide +kernel⟩
theorem fX8_22 : FLk RX8 22 8 4 (some true) (.array .int) := ⟨RX8, TX8, 7, tyX8, rfl, by decide, lay_X8, tyX8_ok, nmX8, TB_of (i := 116) (by decide +kernel) (by decide +kernel), by decide +kernel, by decide +kernel, by decide +kernel⟩
theorem fX8_33 : FLk RX8 33 8 5 (some false) (.int) := ⟨RX8, TX8, 7, tyX8, rfl, by decide, lay_X8, tyX8_ok, nmX8, TB_of (i := 117) (by decide +kernel) (by decide +kernel), by decide +kernel, by decide +kernel, by decide +kernel⟩
theorem fX8_36 : FLk RX8 36 8 6 (some false) (.int) := ⟨RX8, TX8, 7, tyX8, rfl, by decide, lay_X8, tyX8_ok, nmX8, TB_of (i := 118) (by decide +kernel) (by decide +kernel), by decide +kernel, by decide +kernel, by decide +kernel⟩
theorem fX7_9 : FLk RX7 9 7 0 (some true) (.array .int) := ⟨RX7, TX7, 3, tyX7, rfl, by decide, lay_X7, tyX7_ok, nmX7, TB_of (i := 148) (by decide +kernel) (by decide +kernel), by decide +kernel, by decide +kernel, by decide +kernel⟩
theorem fX7_15 : FLk RX7 15 7 1 (some false) (.int) := ⟨RX7, TX7, 3, tyX7, rfl, by decide, lay_X7, tyX7_ok, nmX7, TB_of (i := 149) (by decide +kernel) (by decide +kernel), by decide +kernel, by decide +kernel, by decide +kernel⟩
theorem fX7_19 : FLk RX7 19 7 2 (some false) (.int) := ⟨RX7, TX7, 3, tyX7, rfl, by decide, lay_X7, tyX7_ok, nmX7, TB_of (i := 150) (by decide +kernel) (by decide +kernel), by decide +kernel, by decide +kernel, by decide +kernel⟩
theorem fX5_18 : FLk RX5 18 5 0 (some true) (.object "SliceSolver$Text") := ⟨RX5, TX5, 4, tyX5, rfl, by decide, lay_X5, tyX5_ok, nmX5, TB_of (i := 158) (by decide +kernel) (by decide +kernel), by decide +kernel, by decide +kernel, by decide +kernel⟩
theorem fX5_12 : FLk RX5 12 5 1 (some true) (.object "SliceSolver$Term") := ⟨RX5, TX5, 4, tyX5, rfl, by decide, lay_X5, tyX5_ok, nmX5, TB_of (i := 159) (by decide +kernel) (by decide +kernel), by decide +kernel, by decide +kernel, by decide +kernel⟩
theorem fX5_101 : FLk RX5 101 5 2 (some false) (.int) := ⟨RX5, TX5, 4, tyX5, rfl, by decide, lay_X5, tyX5_ok, nmX5, TB_of (i := 160) (by decide +kernel) (by decide +kernel), by decide +kernel, by decide +kernel, by decide +kernel⟩
theorem fX5_105 : FLk RX5 105 5 3 (some false) (.int) := ⟨RX5, TX5, 4, tyX5, rfl, by decide, lay_X5, tyX5_ok, nmX5, TB_of (i := 161) (by decide +kernel) (by decide +kernel), by decide +kernel, by decide +kernel, by decide +kernel⟩
theorem fX6_15 : FLk RX6 15 6 0 (some true) (.int) := ⟨RX6, TX6, 5, tyX6, rfl, by decide, lay_X6, tyX6_ok, nmX6, TB_of (i := 186) (by decide +kernel) (by decide +kernel), by decide +kernel, by decide +kernel, by decide +kernel⟩
theorem fX6_31 : FLk RX6 31 6 1 (some false) (.int) := ⟨RX6, TX6, 5, tyX6, rfl, by decide, lay_X6, tyX6_ok, nmX6, TB_of (i := 187) (by decide +kernel) (by decide +kernel), by decide +kernel, by decide +kernel, by decide +kernel⟩
theorem fX6_21 : FLk RX6 21 6 2 (some true) (.array .int) := ⟨RX6, TX6, 5, tyX6, rfl, by decide, lay_X6, tyX6_ok, nmX6, TB_of (i := 188) (by decide +kernel) (by decide +kernel), by decide +kernel, by decide +kernel, by decide +kernel⟩
theorem fX6_25 : FLk RX6 25 6 3 (some true) (.array .int) := ⟨RX6, TX6, 5, tyX6, rfl, by decide, lay_X6, tyX6_ok, nmX6, TB_of (i := 189) (by decide +kernel) (by decide +kernel), by decide +kernel, by decide +kernel, by decide +kernel⟩
theorem fX6_28 : FLk RX6 28 6 4 (some true) (.array .int) := ⟨RX6, TX6, 5, tyX6, rfl, by decide, lay_X6, tyX6_ok, nmX6, TB_of (i := 190) (by decide +kernel) (by decide +kernel), by decide +kernel, by decide +kernel, by decide +kernel⟩
theorem fX4_9 : FLk RX4 9 4 0 (some true) (.array .int) := ⟨RX4, TX4, 3, tyX4, rfl, by decide, lay_X4, tyX4_ok, nmX4, TB_of (i := 202) (by decide +kernel) (by decide +kernel), by decide +kernel, by decide +kernel, by decide +kernel⟩
theorem fX4_20 : FLk RX4 20 4 1 (some true) (.object "SliceSolver$Statements") := ⟨RX4, TX4, 3, tyX4, rfl, by decide, lay_X4, tyX4_ok, nmX4, TB_of (i := 203) (by decide +kernel) (by decide +kernel), by decide +kernel, by decide +kernel, by decide +kernel⟩
theorem fX5_71 : FLk RX5 71 4 1 none (.object "SliceSolver$Statements") := ⟨RX4, TX4, 3, tyX4, rfl, by decide, lay_X4, tyX4_ok, nmX4, TB_of (i := 204) (by decide +kernel) (by decide +kernel), by decide +kernel, by decide +kernel, by decide +kernel⟩
theorem fX9_112 : FLk RX9 112 4 1 none (.object "SliceSolver$Statements") := ⟨RX4, TX4, 3, tyX4, rfl, by decide, lay_X4, tyX4_ok, nmX4, TB_of (i := 205) (by decide +kernel) (by decide +kernel), by decide +kernel, by decide +kernel, by decide +kernel⟩
theorem fX1_27 : FLk RX1 27 4 1 none (.object "SliceSolver$Statements") := ⟨RX4, TX4, 3, tyX4, rfl, by decide, lay_X4, tyX4_ok, nmX4, TB_of (i := 206) (by decide +kernel) (by decide +kernel), by decide +kernel, by decide +kernel, by decide +kernel⟩
theorem fX4_24 : FLk RX4 24 4 2 (some true) (.object "SliceSolver$Statements") := ⟨RX4, TX4, 3, tyX4, rfl, by decide, lay_X4, tyX4_ok, nmX4, TB_of (i := 207) (by decide +kernel) (by decide +kernel), by decide +kernel, by decide +kernel, by decide +kernel⟩
theorem fX5_67 : FLk RX5 67 4 2 none (.object "SliceSolver$Statements") := ⟨RX4, TX4, 3, tyX4, rfl, by decide, lay_X4, tyX4_ok, nmX4, TB_of (i := 208) (by decide +kernel) (by decide +kernel), by decide +kernel, by decide +kernel, by decide +kernel⟩
theorem fX9_129 : FLk RX9 129 4 2 none (.object "SliceSolver$Statements") := ⟨RX4, TX4, 3, tyX4, rfl, by decide, lay_X4, tyX4_ok, nmX4, TB_of (i := 209) (by decide +kernel) (by decide +kernel), by decide +kernel, by decide +kernel, by decide +kernel⟩
theorem fX2_11 : FLk RX2 11 2 0 (some true) (.array (.object "SliceSolver$Problem")) := ⟨RX2, TX2, 2, tyX2, rfl, by decide, lay_X2, tyX2_ok, nmX2, TB_of (i := 226) (by decide +kernel) (by decide +kernel), by decide +kernel, by decide +kernel, by decide +kernel⟩
theorem fX2_18 : FLk RX2 18 2 1 (some false) (.int) := ⟨RX2, TX2, 2, tyX2, rfl, by decide, lay_X2, tyX2_ok, nmX2, TB_of (i := 227) (by decide +kernel) (by decide +kernel), by decide +kernel, by decide +kernel, by decide +kernel⟩
theorem fX1_9 : FLk RX1 9 1 0 (some true) (.array .int) := ⟨RX1, TX1, 1, tyX1, rfl, by decide, lay_X1, tyX1_ok, nmX1, TB_of (i := 239) (by decide +kernel) (by decide +kernel), by decide +kernel, by decide +kernel, by decide +kernel⟩
theorem fX0_9 : FLk RX0 9 0 0 (some true) (.array .int) := ⟨RX0, TX0, 3, tyX0, rfl, by decide, lay_X0, tyX0_ok, nmX0, TB_of (i := 256) (by decide +kernel) (by decide +kernel), by decide +kernel, by decide +kernel, by decide +kernel⟩
theorem fX0_15 : FLk RX0 15 0 1 (some true) (.array .int) := ⟨RX0, TX0, 3, tyX0, rfl, by decide, lay_X0, tyX0_ok, nmX0, TB_of (i := 257) (by decide +kernel) (by decide +kernel), by decide +kernel, by decide +kernel, by decide +kernel⟩
theorem fX0_27 : FLk RX0 27 0 2 (some false) (.boolean) := ⟨RX0, TX0, 3, tyX0, rfl, by decide, lay_X0, tyX0_ok, nmX0, TB_of (i := 258) (by decide +kernel) (by decide +kernel), by decide +kernel, by decide +kernel, by decide +kernel⟩
theorem fX3_9 : FLk RX3 9 3 0 (some true) (.array .long) := ⟨RX3, TX3, 5, tyX3, rfl, by decide, lay_X3, tyX3_ok, nmX3, TB_of (i := 272) (by decide +kernel) (by decide +kernel), by decide +kernel, by decide +kernel, by decide +kernel⟩
theorem fX3_15 : FLk RX3 15 3 1 (some true) (.array .int) := ⟨RX3, TX3, 5, tyX3, rfl, by decide, lay_X3, tyX3_ok, nmX3, TB_of (i := 273) (by decide +kernel) (by decide +kernel), by decide +kernel, by decide +kernel, by decide +kernel⟩
theorem fX3_83 : FLk RX3 83 3 2 (some false) (.int) := ⟨RX3, TX3, 5, tyX3, rfl, by decide, lay_X3, tyX3_ok, nmX3, TB_of (i := 274) (by decide +kernel) (by decide +kernel), by decide +kernel, by decide +kernel, by decide +kernel⟩
theorem fX3_19 : FLk RX3 19 3 3 (some true) (.array .int) := ⟨RX3, TX3, 5, tyX3, rfl, by decide, lay_X3, tyX3_ok, nmX3, TB_of (i := 275) (by decide +kernel) (by decide +kernel), by decide +kernel, by decide +kernel, by decide +kernel⟩
theorem fX3_22 : FLk RX3 22 3 4 (some false) (.int) := ⟨RX3, TX3, 5, tyX3, rfl, by decide, lay_X3, tyX3_ok, nmX3, TB_of (i := 276) (by decide +kernel) (by decide +kernel), by decide +kernel, by decide +kernel, by decide +kernel⟩
theorem fX9_12 : FLk RX9 12 9 0 (some true) (.object "SliceSolver$Text") := ⟨RX9, TX9, 13, tyX9, rfl, by decide, lay_X9, tyX9_ok, nmX9, TB_of (i := 289) (by decide +kernel) (by decide +kernel), by decide +kernel, by decide +kernel, by decide +kernel⟩
theorem fX9_21 : FLk RX9 21 9 1 (some true) (.object "SliceSolver$Reader") := ⟨RX9, TX9, 13, tyX9, rfl, by decide, lay_X9, tyX9_ok, nmX9, TB_of (i := 290) (by decide +kernel) (by decide +kernel), by decide +kernel, by decide +kernel, by decide +kernel⟩
theorem fX9_28 : FLk RX9 28 9 2 (some true) (.object "SliceSolver$Problem") := ⟨RX9, TX9, 13, tyX9, rfl, by decide, lay_X9, tyX9_ok, nmX9, TB_of (i := 291) (by decide +kernel) (by decide +kernel), by decide +kernel, by decide +kernel, by decide +kernel⟩
theorem fX9_32 : FLk RX9 32 9 3 (some true) (.object "SliceSolver$Problem") := ⟨RX9, TX9, 13, tyX9, rfl, by decide, lay_X9, tyX9_ok, nmX9, TB_of (i := 292) (by decide +kernel) (by decide +kernel), by decide +kernel, by decide +kernel, by decide +kernel⟩
theorem fX9_38 : FLk RX9 38 9 4 (some true) (.object "SliceSolver$History") := ⟨RX9, TX9, 13, tyX9, rfl, by decide, lay_X9, tyX9_ok, nmX9, TB_of (i := 293) (by decide +kernel) (by decide +kernel), by decide +kernel, by decide +kernel, by decide +kernel⟩
theorem fX9_42 : FLk RX9 42 9 5 (some true) (.object "SliceSolver$Problem") := ⟨RX9, TX9, 13, tyX9, rfl, by decide, lay_X9, tyX9_ok, nmX9, TB_of (i := 294) (by decide +kernel) (by decide +kernel), by decide +kernel, by decide +kernel, by decide +kernel⟩
theorem fX9_45 : FLk RX9 45 9 6 (some true) (.object "SliceSolver$Problem") := ⟨RX9, TX9, 13, tyX9, rfl, by decide, lay_X9, tyX9_ok, nmX9, TB_of (i := 295) (by decide +kernel) (by decide +kernel), by decide +kernel, by decide +kernel, by decide +kernel⟩
theorem fX9_72 : FLk RX9 72 9 7 (some false) (.int) := ⟨RX9, TX9, 13, tyX9, rfl, by decide, lay_X9, tyX9_ok, nmX9, TB_of (i := 296) (by decide +kernel) (by decide +kernel), by decide +kernel, by decide +kernel, by decide +kernel⟩
theorem fX9_51 : FLk RX9 51 9 8 (some true) (.object "SliceSolver$Cuts") := ⟨RX9, TX9, 13, tyX9, rfl, by decide, lay_X9, tyX9_ok, nmX9, TB_of (i := 297) (by decide +kernel) (by decide +kernel), by decide +kernel, by decide +kernel, by decide +kernel⟩
theorem fX9_58 : FLk RX9 58 9 9 (some true) (.object "SliceSolver$Classes") := ⟨RX9, TX9, 13, tyX9, rfl, by decide, lay_X9, tyX9_ok, nmX9, TB_of (i := 298) (by decide +kernel) (by decide +kernel), by decide +kernel, by decide +kernel, by decide +kernel⟩
theorem fX9_62 : FLk RX9 62 9 10 (some true) (.object "SliceSolver$Classes") := ⟨RX9, TX9, 13, tyX9, rfl, by decide, lay_X9, tyX9_ok, nmX9, TB_of (i := 299) (by decide +kernel) (by decide +kernel), by decide +kernel, by decide +kernel, by decide +kernel⟩
theorem fX9_68 : FLk RX9 68 9 11 (some true) (.object "SliceSolver$Model") := ⟨RX9, TX9, 13, tyX9, rfl, by decide, lay_X9, tyX9_ok, nmX9, TB_of (i := 300) (by decide +kernel) (by decide +kernel), by decide +kernel, by decide +kernel, by decide +kernel⟩
theorem fX9_76 : FLk RX9 76 9 12 (some false) (.boolean) := ⟨RX9, TX9, 13, tyX9, rfl, by decide, lay_X9, tyX9_ok, nmX9, TB_of (i := 301) (by decide +kernel) (by decide +kernel), by decide +kernel, by decide +kernel, by decide +kernel⟩
theorem fX10_47 : FLk RX10 47 10 0 (some false) (.int) := ⟨RX10, TX10, 26, tyX10, rfl, by decide, lay_X10, tyX10_ok, nmX10, TB_of (i := 899) (by decide +kernel) (by decide +kernel), by decide +kernel, by decide +kernel, by decide +kernel⟩
theorem fX10_7 : FLk RX10 7 10 1 (some true) (.array .int) := ⟨RX10, TX10, 26, tyX10, rfl, by decide, lay_X10, tyX10_ok, nmX10, TB_of (i := 900) (by decide +kernel) (by decide +kernel), by decide +kernel, by decide +kernel, by decide +kernel⟩
theorem fX10_13 : FLk RX10 13 10 2 (some true) (.array .int) := ⟨RX10, TX10, 26, tyX10, rfl, by decide, lay_X10, tyX10_ok, nmX10, TB_of (i := 901) (by decide +kernel) (by decide +kernel), by decide +kernel, by decide +kernel, by decide +kernel⟩
theorem fX10_16 : FLk RX10 16 10 3 (some true) (.array .int) := ⟨RX10, TX10, 26, tyX10, rfl, by decide, lay_X10, tyX10_ok, nmX10, TB_of (i := 902) (by decide +kernel) (by decide +kernel), by decide +kernel, by decide +kernel, by decide +kernel⟩
theorem fX10_144 : FLk RX10 144 10 4 (some false) (.int) := ⟨RX10, TX10, 26, tyX10, rfl, by decide, lay_X10, tyX10_ok, nmX10, TB_of (i := 903) (by decide +kernel) (by decide +kernel), by decide +kernel, by decide +kernel, by decide +kernel⟩
theorem fX10_19 : FLk RX10 19 10 5 (some true) (.array .int) := ⟨RX10, TX10, 26, tyX10, rfl, by decide, lay_X10, tyX10_ok, nmX10, TB_of (i := 904) (by decide +kernel) (by decide +kernel), by decide +kernel, by decide +kernel, by decide +kernel⟩
theorem fX10_22 : FLk RX10 22 10 6 (some true) (.array .boolean) := ⟨RX10, TX10, 26, tyX10, rfl, by decide, lay_X10, tyX10_ok, nmX10, TB_of (i := 905) (by decide +kernel) (by decide +kernel), by decide +kernel, by decide +kernel, by decide +kernel⟩
theorem fX10_26 : FLk RX10 26 10 7 (some true) (.array .int) := ⟨RX10, TX10, 26, tyX10, rfl, by decide, lay_X10, tyX10_ok, nmX10, TB_of (i := 906) (by decide +kernel) (by decide +kernel), by decide +kernel, by decide +kernel, by decide +kernel⟩
theorem fX10_51 : FLk RX10 51 10 8 (some false) (.int) := ⟨RX10, TX10, 26, tyX10, rfl, by decide, lay_X10, tyX10_ok, nmX10, TB_of (i := 907) (by decide +kernel) (by decide +kernel), by decide +kernel, by decide +kernel, by decide +kernel⟩
theorem fX10_54 : FLk RX10 54 10 9 (some false) (.int) := ⟨RX10, TX10, 26, tyX10, rfl, by decide, lay_X10, tyX10_ok, nmX10, TB_of (i := 908) (by decide +kernel) (by decide +kernel), by decide +kernel, by decide +kernel, by decide +kernel⟩
theorem fX10_57 : FLk RX10 57 10 10 (some false) (.int) := ⟨RX10, TX10, 26, tyX10, rfl, by decide, lay_X10, tyX10_ok, nmX10, TB_of (i := 909) (by decide +kernel) (by decide +kernel), by decide +kernel, by decide +kernel, by decide +kernel⟩
theorem fX10_71 : FLk RX10 71 10 11 (some false) (.int) := ⟨RX10, TX10, 26, tyX10, rfl, by decide, lay_X10, tyX10_ok, nmX10, TB_of (i := 910) (by decide +kernel) (by decide +kernel), by decide +kernel, by decide +kernel, by decide +kernel⟩
theorem fX10_68 : FLk RX10 68 10 12 (some false) (.int) := ⟨RX10, TX10, 26, tyX10, rfl, by decide, lay_X10, tyX10_ok, nmX10, TB_of (i := 911) (by decide +kernel) (by decide +kernel), by decide +kernel, by decide +kernel, by decide +kernel⟩
theorem fX10_82 : FLk RX10 82 10 13 (some false) (.int) := ⟨RX10, TX10, 26, tyX10, rfl, by decide, lay_X10, tyX10_ok, nmX10, TB_of (i := 912) (by decide +kernel) (by decide +kernel), by decide +kernel, by decide +kernel, by decide +kernel⟩
theorem fX10_29 : FLk RX10 29 10 14 (some true) (.array .int) := ⟨RX10, TX10, 26, tyX10, rfl, by decide, lay_X10, tyX10_ok, nmX10, TB_of (i := 913) (by decide +kernel) (by decide +kernel), by decide +kernel, by decide +kernel, by decide +kernel⟩
theorem fX10_96 : FLk RX10 96 10 15 (some false) (.int) := ⟨RX10, TX10, 26, tyX10, rfl, by decide, lay_X10, tyX10_ok, nmX10, TB_of (i := 914) (by decide +kernel) (by decide +kernel), by decide +kernel, by decide +kernel, by decide +kernel⟩
theorem fX10_99 : FLk RX10 99 10 16 (some false) (.int) := ⟨RX10, TX10, 26, tyX10, rfl, by decide, lay_X10, tyX10_ok, nmX10, TB_of (i := 915) (by decide +kernel) (by decide +kernel), by decide +kernel, by decide +kernel, by decide +kernel⟩
theorem fX10_32 : FLk RX10 32 10 17 (some true) (.array .boolean) := ⟨RX10, TX10, 26, tyX10, rfl, by decide, lay_X10, tyX10_ok, nmX10, TB_of (i := 916) (by decide +kernel) (by decide +kernel), by decide +kernel, by decide +kernel, by decide +kernel⟩
theorem fX10_154 : FLk RX10 154 10 18 (some false) (.boolean) := ⟨RX10, TX10, 26, tyX10, rfl, by decide, lay_X10, tyX10_ok, nmX10, TB_of (i := 917) (by decide +kernel) (by decide +kernel), by decide +kernel, by decide +kernel, by decide +kernel⟩
theorem fX10_35 : FLk RX10 35 10 19 (some true) (.array .int) := ⟨RX10, TX10, 26, tyX10, rfl, by decide, lay_X10, tyX10_ok, nmX10, TB_of (i := 918) (by decide +kernel) (by decide +kernel), by decide +kernel, by decide +kernel, by decide +kernel⟩
theorem fX10_38 : FLk RX10 38 10 20 (some true) (.array .int) := ⟨RX10, TX10, 26, tyX10, rfl, by decide, lay_X10, tyX10_ok, nmX10, TB_of (i := 919) (by decide +kernel) (by decide +kernel), by decide +kernel, by decide +kernel, by decide +kernel⟩
theorem fX10_200 : FLk RX10 200 10 21 (some false) (.boolean) := ⟨RX10, TX10, 26, tyX10, rfl, by decide, lay_X10, tyX10_ok, nmX10, TB_of (i := 920) (by decide +kernel) (by decide +kernel), by decide +kernel, by decide +kernel, by decide +kernel⟩
theorem fX10_41 : FLk RX10 41 10 22 (some true) (.array .int) := ⟨RX10, TX10, 26, tyX10, rfl, by decide, lay_X10, tyX10_ok, nmX10, TB_of (i := 921) (by decide +kernel) (by decide +kernel), by decide +kernel, by decide +kernel, by decide +kernel⟩
theorem fX10_233 : FLk RX10 233 10 23 (some false) (.int) := ⟨RX10, TX10, 26, tyX10, rfl, by decide, lay_X10, tyX10_ok, nmX10, TB_of (i := 922) (by decide +kernel) (by decide +kernel), by decide +kernel, by decide +kernel, by decide +kernel⟩
theorem fX10_44 : FLk RX10 44 10 24 (some true) (.array .int) := ⟨RX10, TX10, 26, tyX10, rfl, by decide, lay_X10, tyX10_ok, nmX10, TB_of (i := 923) (by decide +kernel) (by decide +kernel), by decide +kernel, by decide +kernel, by decide +kernel⟩
theorem fX10_242 : FLk RX10 242 10 25 (some false) (.int) := ⟨RX10, TX10, 26, tyX10, rfl, by decide, lay_X10, tyX10_ok, nmX10, TB_of (i := 924) (by decide +kernel) (by decide +kernel), by decide +kernel, by decide +kernel, by decide +kernel⟩
