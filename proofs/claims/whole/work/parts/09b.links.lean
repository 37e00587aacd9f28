set_option maxRecDepth 100000 in
theorem oX8_init : MOk mX8_init := ⟨TB_of (i := 110) rfl rfl, ini_X8, by decide +kernel, by decide +kernel, by decide +kernel⟩
set_option maxRecDepth 100000 in
theorem oX7_init : MOk mX7_init := ⟨TB_of (i := 146) rfl rfl, ini_X7, by decide +kernel, by decide +kernel, by decide +kernel⟩
set_option maxRecDepth 100000 in
theorem oX5_init : MOk mX5_init := ⟨TB_of (i := 140) rfl rfl, ini_X5, by decide +kernel, by decide +kernel, by decide +kernel⟩
set_option maxRecDepth 100000 in
theorem oX6_init : MOk mX6_init := ⟨TB_of (i := 181) rfl rfl, ini_X6, by decide +kernel, by decide +kernel, by decide +kernel⟩
set_option maxRecDepth 100000 in
theorem oX4_init : MOk mX4_init := ⟨TB_of (i := 175) rfl rfl, ini_X4, by decide +kernel, by decide +kernel, by decide +kernel⟩
set_option maxRecDepth 100000 in
theorem oX2_init : MOk mX2_init := ⟨TB_of (i := 221) rfl rfl, ini_X2, by decide +kernel, by decide +kernel, by decide +kernel⟩
set_option maxRecDepth 100000 in
theorem oX1_init : MOk mX1_init := ⟨TB_of (i := 237) rfl rfl, ini_X1, by decide +kernel, by decide +kernel, by decide +kernel⟩
set_option maxRecDepth 100000 in
theorem oJ7_fill_53178 : MOk mJ7_fill_53178 := ⟨TB_of (i := 255) rfl rfl, ini_J7, by decide +kernel, by decide +kernel, by decide +kernel⟩
set_option maxRecDepth 100000 in
theorem oX0_clear : MOk mX0_clear := ⟨TB_of (i := 252) rfl rfl, ini_X0, by decide +kernel, by decide +kernel, by decide +kernel⟩
set_option maxRecDepth 100000 in
theorem oX0_init : MOk mX0_init := ⟨TB_of (i := 247) rfl rfl, ini_X0, by decide +kernel, by decide +kernel, by decide +kernel⟩
set_option maxRecDepth 100000 in
theorem oX3_init : MOk mX3_init := ⟨TB_of (i := 270) rfl rfl, ini_X3, by decide +kernel, by decide +kernel, by decide +kernel⟩
set_option maxRecDepth 100000 in
theorem oX9_init : MOk mX9_init := ⟨TB_of (i := 102) rfl rfl, ini_X9, by decide +kernel, by decide +kernel, by decide +kernel⟩
set_option maxRecDepth 100000 in
theorem oX10_init : MOk mX10_init := ⟨TB_of (i := 897) rfl rfl, ini_X10, by decide +kernel, by decide +kernel, by decide +kernel⟩
set_option maxRecDepth 100000 in
theorem oX8_isFull : MOk mX8_isFull := ⟨TB_of (i := 336) rfl rfl, ini_X8, by decide +kernel, by decide +kernel, by decide +kernel⟩
set_option maxRecDepth 100000 in
theorem oX8_add : MOk mX8_add := ⟨TB_of (i := 340) rfl rfl, ini_X8, by decide +kernel, by decide +kernel, by decide +kernel⟩
set_option maxRecDepth 100000 in
theorem oX8_length : MOk mX8_length := ⟨TB_of (i := 345) rfl rfl, ini_X8, by decide +kernel, by decide +kernel, by decide +kernel⟩
set_option maxRecDepth 100000 in
theorem oX9_append : MOk mX9_append := ⟨TB_of (i := 332) rfl rfl, ini_X9, by decide +kernel, by decide +kernel, by decide +kernel⟩
set_option maxRecDepth 100000 in
theorem oX10_in : MOk mX10_in := ⟨TB_of (i := 985) rfl rfl, ini_X10, by decide +kernel, by decide +kernel, by decide +kernel⟩
set_option maxRecDepth 100000 in
theorem oX10_append : MOk mX10_append := ⟨TB_of (i := 982) rfl rfl, ini_X10, by decide +kernel, by decide +kernel, by decide +kernel⟩
set_option maxRecDepth 100000 in
theorem oX8_clear : MOk mX8_clear := ⟨TB_of (i := 353) rfl rfl, ini_X8, by decide +kernel, by decide +kernel, by decide +kernel⟩
set_option maxRecDepth 100000 in
theorem oX9_clearText : MOk mX9_clearText := ⟨TB_of (i := 349) rfl rfl, ini_X9, by decide +kernel, by decide +kernel, by decide +kernel⟩
set_option maxRecDepth 100000 in
theorem oX10_clearText : MOk mX10_clearText := ⟨TB_of (i := 989) rfl rfl, ini_X10, by decide +kernel, by decide +kernel, by decide +kernel⟩
set_option maxRecDepth 100000 in
theorem oX6_clear : MOk mX6_clear := ⟨TB_of (i := 370) rfl rfl, ini_X6, by decide +kernel, by decide +kernel, by decide +kernel⟩
set_option maxRecDepth 100000 in
theorem oX4_clear : MOk mX4_clear := ⟨TB_of (i := 365) rfl rfl, ini_X4, by decide +kernel, by decide +kernel, by decide +kernel⟩
set_option maxRecDepth 100000 in
theorem oX8_kindOfSign : MOk mX8_kindOfSign := ⟨TB_of (i := 377) rfl rfl, ini_X8, by decide +kernel, by decide +kernel, by decide +kernel⟩
set_option maxRecDepth 100000 in
theorem oJ0_coder_7d493 : MOk mJ0_coder_7d493 := ⟨TB_of (i := 394) rfl rfl, ini_J0, by decide +kernel, by decide +kernel, by decide +kernel⟩
set_option maxRecDepth 100000 in
theorem oJ0_length_8abf5 : MOk mJ0_length_8abf5 := ⟨TB_of (i := 390) rfl rfl, ini_J0, by decide +kernel, by decide +kernel, by decide +kernel⟩
set_option maxRecDepth 100000 in
theorem oJ0_isLatin1_aae02 : MOk mJ0_isLatin1_aae02 := ⟨TB_of (i := 404) rfl rfl, ini_J0, by decide +kernel, by decide +kernel, by decide +kernel⟩
set_option maxRecDepth 100000 in
theorem oJ3_checkIndex_8e157 : MOk mJ3_checkIndex_8e157 := ⟨TB_of (i := 415) rfl rfl, ini_J3, by decide +kernel, by decide +kernel, by decide +kernel⟩
set_option maxRecDepth 100000 in
theorem oJ0_checkIndex_df160 : MOk mJ0_checkIndex_df160 := ⟨TB_of (i := 410) rfl rfl, ini_J0, by decide +kernel, by decide +kernel, by decide +kernel⟩
set_option maxRecDepth 100000 in
theorem oJ1_charAt_3b067 : MOk mJ1_charAt_3b067 := ⟨TB_of (i := 407) rfl rfl, ini_J1, by decide +kernel, by decide +kernel, by decide +kernel⟩
set_option maxRecDepth 100000 in
theorem oJ2_length_9d52b : MOk mJ2_length_9d52b := ⟨TB_of (i := 424) rfl rfl, ini_J2, by decide +kernel, by decide +kernel, by decide +kernel⟩
set_option maxRecDepth 100000 in
theorem oJ2_checkIndex_2214a : MOk mJ2_checkIndex_2214a := ⟨TB_of (i := 421) rfl rfl, ini_J2, by decide +kernel, by decide +kernel, by decide +kernel⟩
set_option maxRecDepth 100000 in
theorem oJ2_getChar_3b067 : MOk mJ2_getChar_3b067 := ⟨TB_of (i := 428) rfl rfl, ini_J2, by decide +kernel, by decide +kernel, by decide +kernel⟩
set_option maxRecDepth 100000 in
theorem oJ2_charAt_3b067 : MOk mJ2_charAt_3b067 := ⟨TB_of (i := 418) rfl rfl, ini_J2, by decide +kernel, by decide +kernel, by decide +kernel⟩
set_option maxRecDepth 100000 in
theorem oJ0_charAt_5068e : MOk mJ0_charAt_5068e := ⟨TB_of (i := 400) rfl rfl, ini_J0, by decide +kernel, by decide +kernel, by decide +kernel⟩
set_option maxRecDepth 100000 in
theorem oX8_isWord : MOk mX8_isWord := ⟨TB_of (i := 386) rfl rfl, ini_X8, by decide +kernel, by decide +kernel, by decide +kernel⟩
set_option maxRecDepth 100000 in
theorem oX8_kindOfWord : MOk mX8_kindOfWord := ⟨TB_of (i := 381) rfl rfl, ini_X8, by decide +kernel, by decide +kernel, by decide +kernel⟩
set_option maxRecDepth 100000 in
theorem oX8_split : MOk mX8_split := ⟨TB_of (i := 374) rfl rfl, ini_X8, by decide +kernel, by decide +kernel, by decide +kernel⟩
set_option maxRecDepth 100000 in
theorem oX8_kind : MOk mX8_kind := ⟨TB_of (i := 439) rfl rfl, ini_X8, by decide +kernel, by decide +kernel, by decide +kernel⟩
set_option maxRecDepth 100000 in
theorem oX8_pass : MOk mX8_pass := ⟨TB_of (i := 443) rfl rfl, ini_X8, by decide +kernel, by decide +kernel, by decide +kernel⟩
set_option maxRecDepth 100000 in
theorem oX8_name : MOk mX8_name := ⟨TB_of (i := 451) rfl rfl, ini_X8, by decide +kernel, by decide +kernel, by decide +kernel⟩
set_option maxRecDepth 100000 in
theorem oX9_isVariable : MOk mX9_isVariable := ⟨TB_of (i := 458) rfl rfl, ini_X9, by decide +kernel, by decide +kernel, by decide +kernel⟩
set_option maxRecDepth 100000 in
theorem oX4_widthOf : MOk mX4_widthOf := ⟨TB_of (i := 455) rfl rfl, ini_X4, by decide +kernel, by decide +kernel, by decide +kernel⟩
set_option maxRecDepth 100000 in
theorem oX8_advance : MOk mX8_advance := ⟨TB_of (i := 462) rfl rfl, ini_X8, by decide +kernel, by decide +kernel, by decide +kernel⟩
set_option maxRecDepth 100000 in
theorem oX8_number : MOk mX8_number := ⟨TB_of (i := 466) rfl rfl, ini_X8, by decide +kernel, by decide +kernel, by decide +kernel⟩
set_option maxRecDepth 100000 in
theorem oX4_declare : MOk mX4_declare := ⟨TB_of (i := 470) rfl rfl, ini_X4, by decide +kernel, by decide +kernel, by decide +kernel⟩
set_option maxRecDepth 100000 in
theorem oX5_readDeclaration : MOk mX5_readDeclaration := ⟨TB_of (i := 447) rfl rfl, ini_X5, by decide +kernel, by decide +kernel, by decide +kernel⟩
set_option maxRecDepth 100000 in
theorem oX6_isFull : MOk mX6_isFull := ⟨TB_of (i := 478) rfl rfl, ini_X6, by decide +kernel, by decide +kernel, by decide +kernel⟩
set_option maxRecDepth 100000 in
theorem oX7_clear : MOk mX7_clear := ⟨TB_of (i := 486) rfl rfl, ini_X7, by decide +kernel, by decide +kernel, by decide +kernel⟩
set_option maxRecDepth 100000 in
theorem oX8_constantBits : MOk mX8_constantBits := ⟨TB_of (i := 498) rfl rfl, ini_X8, by decide +kernel, by decide +kernel, by decide +kernel⟩
set_option maxRecDepth 100000 in
theorem oX7_beginPart : MOk mX7_beginPart := ⟨TB_of (i := 502) rfl rfl, ini_X7, by decide +kernel, by decide +kernel, by decide +kernel⟩
set_option maxRecDepth 100000 in
theorem oX8_constantBit : MOk mX8_constantBit := ⟨TB_of (i := 506) rfl rfl, ini_X8, by decide +kernel, by decide +kernel, by decide +kernel⟩
set_option maxRecDepth 100000 in
theorem oX7_add : MOk mX7_add := ⟨TB_of (i := 510) rfl rfl, ini_X7, by decide +kernel, by decide +kernel, by decide +kernel⟩
set_option maxRecDepth 100000 in
theorem oX5_readConstant : MOk mX5_readConstant := ⟨TB_of (i := 494) rfl rfl, ini_X5, by decide +kernel, by decide +kernel, by decide +kernel⟩
set_option maxRecDepth 100000 in
theorem oX5_readRange : MOk mX5_readRange := ⟨TB_of (i := 514) rfl rfl, ini_X5, by decide +kernel, by decide +kernel, by decide +kernel⟩
set_option maxRecDepth 100000 in
theorem oX9_nodeOf : MOk mX9_nodeOf := ⟨TB_of (i := 517) rfl rfl, ini_X9, by decide +kernel, by decide +kernel, by decide +kernel⟩
set_option maxRecDepth 100000 in
theorem oX7_addRange : MOk mX7_addRange := ⟨TB_of (i := 521) rfl rfl, ini_X7, by decide +kernel, by decide +kernel, by decide +kernel⟩
set_option maxRecDepth 100000 in
theorem oX5_readPart : MOk mX5_readPart := ⟨TB_of (i := 490) rfl rfl, ini_X5, by decide +kernel, by decide +kernel, by decide +kernel⟩
set_option maxRecDepth 100000 in
theorem oX5_readTerm : MOk mX5_readTerm := ⟨TB_of (i := 482) rfl rfl, ini_X5, by decide +kernel, by decide +kernel, by decide +kernel⟩
set_option maxRecDepth 100000 in
theorem oX7_bitCount : MOk mX7_bitCount := ⟨TB_of (i := 527) rfl rfl, ini_X7, by decide +kernel, by decide +kernel, by decide +kernel⟩
set_option maxRecDepth 100000 in
theorem oX7_node : MOk mX7_node := ⟨TB_of (i := 537) rfl rfl, ini_X7, by decide +kernel, by decide +kernel, by decide +kernel⟩
set_option maxRecDepth 100000 in
theorem oX7_partBeginsAt : MOk mX7_partBeginsAt := ⟨TB_of (i := 541) rfl rfl, ini_X7, by decide +kernel, by decide +kernel, by decide +kernel⟩
set_option maxRecDepth 100000 in
theorem oX6_putTerm : MOk mX6_putTerm := ⟨TB_of (i := 531) rfl rfl, ini_X6, by decide +kernel, by decide +kernel, by decide +kernel⟩
set_option maxRecDepth 100000 in
theorem oX6_finish : MOk mX6_finish := ⟨TB_of (i := 545) rfl rfl, ini_X6, by decide +kernel, by decide +kernel, by decide +kernel⟩
set_option maxRecDepth 100000 in
theorem oX5_readStatement : MOk mX5_readStatement := ⟨TB_of (i := 474) rfl rfl, ini_X5, by decide +kernel, by decide +kernel, by decide +kernel⟩
set_option maxRecDepth 100000 in
theorem oX8_start : MOk mX8_start := ⟨TB_of (i := 549) rfl rfl, ini_X8, by decide +kernel, by decide +kernel, by decide +kernel⟩
set_option maxRecDepth 100000 in
theorem oX5_read : MOk mX5_read := ⟨TB_of (i := 361) rfl rfl, ini_X5, by decide +kernel, by decide +kernel, by decide +kernel⟩
set_option maxRecDepth 100000 in
theorem oX2_forgetOldest : MOk mX2_forgetOldest := ⟨TB_of (i := 557) rfl rfl, ini_X2, by decide +kernel, by decide +kernel, by decide +kernel⟩
set_option maxRecDepth 100000 in
theorem oX6_move : MOk mX6_move := ⟨TB_of (i := 575) rfl rfl, ini_X6, by decide +kernel, by decide +kernel, by decide +kernel⟩
set_option maxRecDepth 100000 in
theorem oX6_copyFrom : MOk mX6_copyFrom := ⟨TB_of (i := 568) rfl rfl, ini_X6, by decide +kernel, by decide +kernel, by decide +kernel⟩
set_option maxRecDepth 100000 in
theorem oX4_copyFrom : MOk mX4_copyFrom := ⟨TB_of (i := 561) rfl rfl, ini_X4, by decide +kernel, by decide +kernel, by decide +kernel⟩
set_option maxRecDepth 100000 in
theorem oX2_push : MOk mX2_push := ⟨TB_of (i := 553) rfl rfl, ini_X2, by decide +kernel, by decide +kernel, by decide +kernel⟩
set_option maxRecDepth 100000 in
theorem oX6_count : MOk mX6_count := ⟨TB_of (i := 590) rfl rfl, ini_X6, by decide +kernel, by decide +kernel, by decide +kernel⟩
set_option maxRecDepth 100000 in
theorem oX6_has : MOk mX6_has := ⟨TB_of (i := 602) rfl rfl, ini_X6, by decide +kernel, by decide +kernel, by decide +kernel⟩
set_option maxRecDepth 100000 in
theorem oX6_widthOf : MOk mX6_widthOf := ⟨TB_of (i := 598) rfl rfl, ini_X6, by decide +kernel, by decide +kernel, by decide +kernel⟩
set_option maxRecDepth 100000 in
theorem oX6_node : MOk mX6_node := ⟨TB_of (i := 606) rfl rfl, ini_X6, by decide +kernel, by decide +kernel, by decide +kernel⟩
set_option maxRecDepth 100000 in
theorem oX9_isConstantNode : MOk mX9_isConstantNode := ⟨TB_of (i := 609) rfl rfl, ini_X9, by decide +kernel, by decide +kernel, by decide +kernel⟩
set_option maxRecDepth 100000 in
theorem oX6_partEndsAt : MOk mX6_partEndsAt := ⟨TB_of (i := 613) rfl rfl, ini_X6, by decide +kernel, by decide +kernel, by decide +kernel⟩
set_option maxRecDepth 100000 in
theorem oX9_variableOf : MOk mX9_variableOf := ⟨TB_of (i := 616) rfl rfl, ini_X9, by decide +kernel, by decide +kernel, by decide +kernel⟩
set_option maxRecDepth 100000 in
theorem oX9_bitOf : MOk mX9_bitOf := ⟨TB_of (i := 619) rfl rfl, ini_X9, by decide +kernel, by decide +kernel, by decide +kernel⟩
set_option maxRecDepth 100000 in
theorem oX1_cutBelow : MOk mX1_cutBelow := ⟨TB_of (i := 623) rfl rfl, ini_X1, by decide +kernel, by decide +kernel, by decide +kernel⟩
set_option maxRecDepth 100000 in
theorem oX1_cutAroundParts : MOk mX1_cutAroundParts := ⟨TB_of (i := 594) rfl rfl, ini_X1, by decide +kernel, by decide +kernel, by decide +kernel⟩
set_option maxRecDepth 100000 in
theorem oX1_isCut : MOk mX1_isCut := ⟨TB_of (i := 632) rfl rfl, ini_X1, by decide +kernel, by decide +kernel, by decide +kernel⟩
set_option maxRecDepth 100000 in
theorem oX1_isMarked : MOk mX1_isMarked := ⟨TB_of (i := 636) rfl rfl, ini_X1, by decide +kernel, by decide +kernel, by decide +kernel⟩
set_option maxRecDepth 100000 in
theorem oX1_spread : MOk mX1_spread := ⟨TB_of (i := 628) rfl rfl, ini_X1, by decide +kernel, by decide +kernel, by decide +kernel⟩
set_option maxRecDepth 100000 in
theorem oX1_cut : MOk mX1_cut := ⟨TB_of (i := 585) rfl rfl, ini_X1, by decide +kernel, by decide +kernel, by decide +kernel⟩
set_option maxRecDepth 100000 in
theorem oX0_rootOf : MOk mX0_rootOf := ⟨TB_of (i := 653) rfl rfl, ini_X0, by decide +kernel, by decide +kernel, by decide +kernel⟩
set_option maxRecDepth 100000 in
theorem oX0_fix : MOk mX0_fix := ⟨TB_of (i := 657) rfl rfl, ini_X0, by decide +kernel, by decide +kernel, by decide +kernel⟩
set_option maxRecDepth 100000 in
theorem oX0_unite : MOk mX0_unite := ⟨TB_of (i := 661) rfl rfl, ini_X0, by decide +kernel, by decide +kernel, by decide +kernel⟩
set_option maxRecDepth 100000 in
theorem oX0_join : MOk mX0_join := ⟨TB_of (i := 648) rfl rfl, ini_X0, by decide +kernel, by decide +kernel, by decide +kernel⟩
set_option maxRecDepth 100000 in
theorem oX0_equate : MOk mX0_equate := ⟨TB_of (i := 642) rfl rfl, ini_X0, by decide +kernel, by decide +kernel, by decide +kernel⟩
set_option maxRecDepth 100000 in
theorem oX9_slice : MOk mX9_slice := ⟨TB_of (i := 581) rfl rfl, ini_X9, by decide +kernel, by decide +kernel, by decide +kernel⟩
set_option maxRecDepth 100000 in
theorem oX4_statementCount : MOk mX4_statementCount := ⟨TB_of (i := 667) rfl rfl, ini_X4, by decide +kernel, by decide +kernel, by decide +kernel⟩
set_option maxRecDepth 100000 in
theorem oX9_load : MOk mX9_load := ⟨TB_of (i := 357) rfl rfl, ini_X9, by decide +kernel, by decide +kernel, by decide +kernel⟩
set_option maxRecDepth 100000 in
theorem oX10_characterAt : MOk mX10_characterAt := ⟨TB_of (i := 1001) rfl rfl, ini_X10, by decide +kernel, by decide +kernel, by decide +kernel⟩
set_option maxRecDepth 100000 in
theorem oX10_wordOf : MOk mX10_wordOf := ⟨TB_of (i := 1005) rfl rfl, ini_X10, by decide +kernel, by decide +kernel, by decide +kernel⟩
set_option maxRecDepth 100000 in
theorem oX10_isSignCharacter : MOk mX10_isSignCharacter := ⟨TB_of (i := 1008) rfl rfl, ini_X10, by decide +kernel, by decide +kernel, by decide +kernel⟩
set_option maxRecDepth 100000 in
theorem oX10_advance : MOk mX10_advance := ⟨TB_of (i := 997) rfl rfl, ini_X10, by decide +kernel, by decide +kernel, by decide +kernel⟩
set_option maxRecDepth 100000 in
theorem oX10_isFine : MOk mX10_isFine := ⟨TB_of (i := 1012) rfl rfl, ini_X10, by decide +kernel, by decide +kernel, by decide +kernel⟩
set_option maxRecDepth 100000 in
theorem oX10_take : MOk mX10_take := ⟨TB_of (i := 1024) rfl rfl, ini_X10, by decide +kernel, by decide +kernel, by decide +kernel⟩
set_option maxRecDepth 100000 in
theorem oX10_isName : MOk mX10_isName := ⟨TB_of (i := 1028) rfl rfl, ini_X10, by decide +kernel, by decide +kernel, by decide +kernel⟩
set_option maxRecDepth 100000 in
theorem oX10_number : MOk mX10_number := ⟨TB_of (i := 1032) rfl rfl, ini_X10, by decide +kernel, by decide +kernel, by decide +kernel⟩
set_option maxRecDepth 100000 in
theorem oX10_isSign : MOk mX10_isSign := ⟨TB_of (i := 1036) rfl rfl, ini_X10, by decide +kernel, by decide +kernel, by decide +kernel⟩
set_option maxRecDepth 100000 in
theorem oX10_readDeclaration : MOk mX10_readDeclaration := ⟨TB_of (i := 1020) rfl rfl, ini_X10, by decide +kernel, by decide +kernel, by decide +kernel⟩
set_option maxRecDepth 100000 in
theorem oX10_addBit : MOk mX10_addBit := ⟨TB_of (i := 1056) rfl rfl, ini_X10, by decide +kernel, by decide +kernel, by decide +kernel⟩
set_option maxRecDepth 100000 in
theorem oX10_readConstant : MOk mX10_readConstant := ⟨TB_of (i := 1052) rfl rfl, ini_X10, by decide +kernel, by decide +kernel, by decide +kernel⟩
set_option maxRecDepth 100000 in
theorem oX10_readRange : MOk mX10_readRange := ⟨TB_of (i := 1060) rfl rfl, ini_X10, by decide +kernel, by decide +kernel, by decide +kernel⟩
set_option maxRecDepth 100000 in
theorem oX10_readPart : MOk mX10_readPart := ⟨TB_of (i := 1048) rfl rfl, ini_X10, by decide +kernel, by decide +kernel, by decide +kernel⟩
set_option maxRecDepth 100000 in
theorem oX10_readTerm : MOk mX10_readTerm := ⟨TB_of (i := 1044) rfl rfl, ini_X10, by decide +kernel, by decide +kernel, by decide +kernel⟩
set_option maxRecDepth 100000 in
theorem oX10_putTerm : MOk mX10_putTerm := ⟨TB_of (i := 1064) rfl rfl, ini_X10, by decide +kernel, by decide +kernel, by decide +kernel⟩
set_option maxRecDepth 100000 in
theorem oX10_readStatement : MOk mX10_readStatement := ⟨TB_of (i := 1040) rfl rfl, ini_X10, by decide +kernel, by decide +kernel, by decide +kernel⟩
set_option maxRecDepth 100000 in
theorem oX10_readItem : MOk mX10_readItem := ⟨TB_of (i := 1016) rfl rfl, ini_X10, by decide +kernel, by decide +kernel, by decide +kernel⟩
set_option maxRecDepth 100000 in
theorem oX10_keep : MOk mX10_keep := ⟨TB_of (i := 1068) rfl rfl, ini_X10, by decide +kernel, by decide +kernel, by decide +kernel⟩
set_option maxRecDepth 100000 in
theorem oX10_load : MOk mX10_load := ⟨TB_of (i := 993) rfl rfl, ini_X10, by decide +kernel, by decide +kernel, by decide +kernel⟩
set_option maxRecDepth 100000 in
theorem oX6_drop : MOk mX6_drop := ⟨TB_of (i := 678) rfl rfl, ini_X6, by decide +kernel, by decide +kernel, by decide +kernel⟩
set_option maxRecDepth 100000 in
theorem oX9_removeEquation : MOk mX9_removeEquation := ⟨TB_of (i := 673) rfl rfl, ini_X9, by decide +kernel, by decide +kernel, by decide +kernel⟩
set_option maxRecDepth 100000 in
theorem oX10_removeAt : MOk mX10_removeAt := ⟨TB_of (i := 1076) rfl rfl, ini_X10, by decide +kernel, by decide +kernel, by decide +kernel⟩
set_option maxRecDepth 100000 in
theorem oX10_removeEquation : MOk mX10_removeEquation := ⟨TB_of (i := 1072) rfl rfl, ini_X10, by decide +kernel, by decide +kernel, by decide +kernel⟩
set_option maxRecDepth 100000 in
theorem oX9_removeDisequation : MOk mX9_removeDisequation := ⟨TB_of (i := 682) rfl rfl, ini_X9, by decide +kernel, by decide +kernel, by decide +kernel⟩
set_option maxRecDepth 100000 in
theorem oX10_removeDisequation : MOk mX10_removeDisequation := ⟨TB_of (i := 1080) rfl rfl, ini_X10, by decide +kernel, by decide +kernel, by decide +kernel⟩
set_option maxRecDepth 100000 in
theorem oX9_width : MOk mX9_width := ⟨TB_of (i := 686) rfl rfl, ini_X9, by decide +kernel, by decide +kernel, by decide +kernel⟩
set_option maxRecDepth 100000 in
theorem oX10_isVariable : MOk mX10_isVariable := ⟨TB_of (i := 1087) rfl rfl, ini_X10, by decide +kernel, by decide +kernel, by decide +kernel⟩
set_option maxRecDepth 100000 in
theorem oX10_width : MOk mX10_width := ⟨TB_of (i := 1084) rfl rfl, ini_X10, by decide +kernel, by decide +kernel, by decide +kernel⟩
set_option maxRecDepth 100000 in
theorem oX9_equationCount : MOk mX9_equationCount := ⟨TB_of (i := 692) rfl rfl, ini_X9, by decide +kernel, by decide +kernel, by decide +kernel⟩
set_option maxRecDepth 100000 in
theorem oX10_equationCount : MOk mX10_equationCount := ⟨TB_of (i := 1091) rfl rfl, ini_X10, by decide +kernel, by decide +kernel, by decide +kernel⟩
set_option maxRecDepth 100000 in
theorem oX9_disequationCount : MOk mX9_disequationCount := ⟨TB_of (i := 696) rfl rfl, ini_X9, by decide +kernel, by decide +kernel, by decide +kernel⟩
set_option maxRecDepth 100000 in
theorem oX10_disequationCount : MOk mX10_disequationCount := ⟨TB_of (i := 1095) rfl rfl, ini_X10, by decide +kernel, by decide +kernel, by decide +kernel⟩
set_option maxRecDepth 100000 in
theorem oJ6_bitCount_0f7a4 : MOk mJ6_bitCount_0f7a4 := ⟨TB_of (i := 711) rfl rfl, ini_J6, by decide +kernel, by decide +kernel, by decide +kernel⟩
set_option maxRecDepth 100000 in
theorem oX1_countOf : MOk mX1_countOf := ⟨TB_of (i := 708) rfl rfl, ini_X1, by decide +kernel, by decide +kernel, by decide +kernel⟩
set_option maxRecDepth 100000 in
theorem oX9_slicesOf : MOk mX9_slicesOf := ⟨TB_of (i := 704) rfl rfl, ini_X9, by decide +kernel, by decide +kernel, by decide +kernel⟩
set_option maxRecDepth 100000 in
theorem oX9_sliceCount : MOk mX9_sliceCount := ⟨TB_of (i := 700) rfl rfl, ini_X9, by decide +kernel, by decide +kernel, by decide +kernel⟩
set_option maxRecDepth 100000 in
theorem oX10_widthOf : MOk mX10_widthOf := ⟨TB_of (i := 1111) rfl rfl, ini_X10, by decide +kernel, by decide +kernel, by decide +kernel⟩
set_option maxRecDepth 100000 in
theorem oX10_bitOf : MOk mX10_bitOf := ⟨TB_of (i := 1115) rfl rfl, ini_X10, by decide +kernel, by decide +kernel, by decide +kernel⟩
set_option maxRecDepth 100000 in
theorem oX10_isOfVariable : MOk mX10_isOfVariable := ⟨TB_of (i := 1119) rfl rfl, ini_X10, by decide +kernel, by decide +kernel, by decide +kernel⟩
set_option maxRecDepth 100000 in
theorem oX10_variableBit : MOk mX10_variableBit := ⟨TB_of (i := 1122) rfl rfl, ini_X10, by decide +kernel, by decide +kernel, by decide +kernel⟩
set_option maxRecDepth 100000 in
theorem oX10_areOfOnePart : MOk mX10_areOfOnePart := ⟨TB_of (i := 1125) rfl rfl, ini_X10, by decide +kernel, by decide +kernel, by decide +kernel⟩
set_option maxRecDepth 100000 in
theorem oX10_addCut : MOk mX10_addCut := ⟨TB_of (i := 1129) rfl rfl, ini_X10, by decide +kernel, by decide +kernel, by decide +kernel⟩
set_option maxRecDepth 100000 in
theorem oX10_cutEnds : MOk mX10_cutEnds := ⟨TB_of (i := 1107) rfl rfl, ini_X10, by decide +kernel, by decide +kernel, by decide +kernel⟩
set_option maxRecDepth 100000 in
theorem oX10_isMarked : MOk mX10_isMarked := ⟨TB_of (i := 1137) rfl rfl, ini_X10, by decide +kernel, by decide +kernel, by decide +kernel⟩
set_option maxRecDepth 100000 in
theorem oX10_carry : MOk mX10_carry := ⟨TB_of (i := 1133) rfl rfl, ini_X10, by decide +kernel, by decide +kernel, by decide +kernel⟩
set_option maxRecDepth 100000 in
theorem oX10_findCuts : MOk mX10_findCuts := ⟨TB_of (i := 1103) rfl rfl, ini_X10, by decide +kernel, by decide +kernel, by decide +kernel⟩
set_option maxRecDepth 100000 in
theorem oX10_slicesOf : MOk mX10_slicesOf := ⟨TB_of (i := 1141) rfl rfl, ini_X10, by decide +kernel, by decide +kernel, by decide +kernel⟩
set_option maxRecDepth 100000 in
theorem oX10_sliceCount : MOk mX10_sliceCount := ⟨TB_of (i := 1099) rfl rfl, ini_X10, by decide +kernel, by decide +kernel, by decide +kernel⟩
set_option maxRecDepth 100000 in
theorem oX9_isSlice : MOk mX9_isSlice := ⟨TB_of (i := 722) rfl rfl, ini_X9, by decide +kernel, by decide +kernel, by decide +kernel⟩
set_option maxRecDepth 100000 in
theorem oX1_startOf : MOk mX1_startOf := ⟨TB_of (i := 726) rfl rfl, ini_X1, by decide +kernel, by decide +kernel, by decide +kernel⟩
set_option maxRecDepth 100000 in
theorem oX9_sliceStart : MOk mX9_sliceStart := ⟨TB_of (i := 718) rfl rfl, ini_X9, by decide +kernel, by decide +kernel, by decide +kernel⟩
set_option maxRecDepth 100000 in
theorem oX10_isSlice : MOk mX10_isSlice := ⟨TB_of (i := 1149) rfl rfl, ini_X10, by decide +kernel, by decide +kernel, by decide +kernel⟩
set_option maxRecDepth 100000 in
theorem oX10_startOf : MOk mX10_startOf := ⟨TB_of (i := 1153) rfl rfl, ini_X10, by decide +kernel, by decide +kernel, by decide +kernel⟩
set_option maxRecDepth 100000 in
theorem oX10_sliceStart : MOk mX10_sliceStart := ⟨TB_of (i := 1145) rfl rfl, ini_X10, by decide +kernel, by decide +kernel, by decide +kernel⟩
set_option maxRecDepth 100000 in
theorem oX9_sliceWidth : MOk mX9_sliceWidth := ⟨TB_of (i := 730) rfl rfl, ini_X9, by decide +kernel, by decide +kernel, by decide +kernel⟩
set_option maxRecDepth 100000 in
theorem oX10_sliceWidth : MOk mX10_sliceWidth := ⟨TB_of (i := 1157) rfl rfl, ini_X10, by decide +kernel, by decide +kernel, by decide +kernel⟩
set_option maxRecDepth 100000 in
theorem oX1_sliceAt : MOk mX1_sliceAt := ⟨TB_of (i := 742) rfl rfl, ini_X1, by decide +kernel, by decide +kernel, by decide +kernel⟩
set_option maxRecDepth 100000 in
theorem oX9_representative : MOk mX9_representative := ⟨TB_of (i := 734) rfl rfl, ini_X9, by decide +kernel, by decide +kernel, by decide +kernel⟩
set_option maxRecDepth 100000 in
theorem oX10_rootOf : MOk mX10_rootOf := ⟨TB_of (i := 1181) rfl rfl, ini_X10, by decide +kernel, by decide +kernel, by decide +kernel⟩
set_option maxRecDepth 100000 in
theorem oX10_fix : MOk mX10_fix := ⟨TB_of (i := 1185) rfl rfl, ini_X10, by decide +kernel, by decide +kernel, by decide +kernel⟩
set_option maxRecDepth 100000 in
theorem oX10_join : MOk mX10_join := ⟨TB_of (i := 1189) rfl rfl, ini_X10, by decide +kernel, by decide +kernel, by decide +kernel⟩
set_option maxRecDepth 100000 in
theorem oX10_equate : MOk mX10_equate := ⟨TB_of (i := 1177) rfl rfl, ini_X10, by decide +kernel, by decide +kernel, by decide +kernel⟩
set_option maxRecDepth 100000 in
theorem oX10_equateTerms : MOk mX10_equateTerms := ⟨TB_of (i := 1173) rfl rfl, ini_X10, by decide +kernel, by decide +kernel, by decide +kernel⟩
set_option maxRecDepth 100000 in
theorem oX10_solve : MOk mX10_solve := ⟨TB_of (i := 1169) rfl rfl, ini_X10, by decide +kernel, by decide +kernel, by decide +kernel⟩
set_option maxRecDepth 100000 in
theorem oX10_solveAll : MOk mX10_solveAll := ⟨TB_of (i := 1165) rfl rfl, ini_X10, by decide +kernel, by decide +kernel, by decide +kernel⟩
set_option maxRecDepth 100000 in
theorem oX10_sliceOfBit : MOk mX10_sliceOfBit := ⟨TB_of (i := 1193) rfl rfl, ini_X10, by decide +kernel, by decide +kernel, by decide +kernel⟩
set_option maxRecDepth 100000 in
theorem oX10_representative : MOk mX10_representative := ⟨TB_of (i := 1161) rfl rfl, ini_X10, by decide +kernel, by decide +kernel, by decide +kernel⟩
set_option maxRecDepth 100000 in
theorem oX9_classCount : MOk mX9_classCount := ⟨TB_of (i := 746) rfl rfl, ini_X9, by decide +kernel, by decide +kernel, by decide +kernel⟩
set_option maxRecDepth 100000 in
theorem oX10_classCount : MOk mX10_classCount := ⟨TB_of (i := 1197) rfl rfl, ini_X10, by decide +kernel, by decide +kernel, by decide +kernel⟩
set_option maxRecDepth 100000 in
theorem oX0_agree : MOk mX0_agree := ⟨TB_of (i := 754) rfl rfl, ini_X0, by decide +kernel, by decide +kernel, by decide +kernel⟩
set_option maxRecDepth 100000 in
theorem oX9_isConsistent : MOk mX9_isConsistent := ⟨TB_of (i := 750) rfl rfl, ini_X9, by decide +kernel, by decide +kernel, by decide +kernel⟩
set_option maxRecDepth 100000 in
theorem oX10_isConsistent : MOk mX10_isConsistent := ⟨TB_of (i := 1201) rfl rfl, ini_X10, by decide +kernel, by decide +kernel, by decide +kernel⟩
set_option maxRecDepth 100000 in
theorem oX9_firstConflict : MOk mX9_firstConflict := ⟨TB_of (i := 758) rfl rfl, ini_X9, by decide +kernel, by decide +kernel, by decide +kernel⟩
set_option maxRecDepth 100000 in
theorem oX10_firstConflict : MOk mX10_firstConflict := ⟨TB_of (i := 1205) rfl rfl, ini_X10, by decide +kernel, by decide +kernel, by decide +kernel⟩
set_option maxRecDepth 100000 in
theorem oX9_tryEquations : MOk mX9_tryEquations := ⟨TB_of (i := 766) rfl rfl, ini_X9, by decide +kernel, by decide +kernel, by decide +kernel⟩
set_option maxRecDepth 100000 in
theorem oX9_conflictSet : MOk mX9_conflictSet := ⟨TB_of (i := 762) rfl rfl, ini_X9, by decide +kernel, by decide +kernel, by decide +kernel⟩
set_option maxRecDepth 100000 in
theorem oX10_conflictSet : MOk mX10_conflictSet := ⟨TB_of (i := 1209) rfl rfl, ini_X10, by decide +kernel, by decide +kernel, by decide +kernel⟩
set_option maxRecDepth 100000 in
theorem oX9_isBit : MOk mX9_isBit := ⟨TB_of (i := 774) rfl rfl, ini_X9, by decide +kernel, by decide +kernel, by decide +kernel⟩
set_option maxRecDepth 100000 in
theorem oX0_constantOf : MOk mX0_constantOf := ⟨TB_of (i := 778) rfl rfl, ini_X0, by decide +kernel, by decide +kernel, by decide +kernel⟩
set_option maxRecDepth 100000 in
theorem oX9_fixedBit : MOk mX9_fixedBit := ⟨TB_of (i := 770) rfl rfl, ini_X9, by decide +kernel, by decide +kernel, by decide +kernel⟩
set_option maxRecDepth 100000 in
theorem oX10_isBit : MOk mX10_isBit := ⟨TB_of (i := 1217) rfl rfl, ini_X10, by decide +kernel, by decide +kernel, by decide +kernel⟩
set_option maxRecDepth 100000 in
theorem oX10_fixedBit : MOk mX10_fixedBit := ⟨TB_of (i := 1213) rfl rfl, ini_X10, by decide +kernel, by decide +kernel, by decide +kernel⟩
set_option maxRecDepth 100000 in
theorem oX9_compareBits : MOk mX9_compareBits := ⟨TB_of (i := 782) rfl rfl, ini_X9, by decide +kernel, by decide +kernel, by decide +kernel⟩
set_option maxRecDepth 100000 in
theorem oX10_compareBits : MOk mX10_compareBits := ⟨TB_of (i := 1221) rfl rfl, ini_X10, by decide +kernel, by decide +kernel, by decide +kernel⟩
set_option maxRecDepth 100000 in
theorem oX9_freeBits : MOk mX9_freeBits := ⟨TB_of (i := 786) rfl rfl, ini_X9, by decide +kernel, by decide +kernel, by decide +kernel⟩
set_option maxRecDepth 100000 in
theorem oX10_isFree : MOk mX10_isFree := ⟨TB_of (i := 1229) rfl rfl, ini_X10, by decide +kernel, by decide +kernel, by decide +kernel⟩
set_option maxRecDepth 100000 in
theorem oX10_freeBits : MOk mX10_freeBits := ⟨TB_of (i := 1225) rfl rfl, ini_X10, by decide +kernel, by decide +kernel, by decide +kernel⟩
set_option maxRecDepth 100000 in
theorem oJ7_fill_d0a16 : MOk mJ7_fill_d0a16 := ⟨TB_of (i := 806) rfl rfl, ini_J7, by decide +kernel, by decide +kernel, by decide +kernel⟩
set_option maxRecDepth 100000 in
theorem oX3_constantPlace : MOk mX3_constantPlace := ⟨TB_of (i := 813) rfl rfl, ini_X3, by decide +kernel, by decide +kernel, by decide +kernel⟩
set_option maxRecDepth 100000 in
theorem oX3_wordOfZeros : MOk mX3_wordOfZeros := ⟨TB_of (i := 803) rfl rfl, ini_X3, by decide +kernel, by decide +kernel, by decide +kernel⟩
set_option maxRecDepth 100000 in
theorem oX3_gatherCandidates : MOk mX3_gatherCandidates := ⟨TB_of (i := 819) rfl rfl, ini_X3, by decide +kernel, by decide +kernel, by decide +kernel⟩
set_option maxRecDepth 100000 in
theorem oX3_holds : MOk mX3_holds := ⟨TB_of (i := 822) rfl rfl, ini_X3, by decide +kernel, by decide +kernel, by decide +kernel⟩
set_option maxRecDepth 100000 in
theorem oX3_pickLast : MOk mX3_pickLast := ⟨TB_of (i := 829) rfl rfl, ini_X3, by decide +kernel, by decide +kernel, by decide +kernel⟩
set_option maxRecDepth 100000 in
theorem oX3_pickLastTwo : MOk mX3_pickLastTwo := ⟨TB_of (i := 833) rfl rfl, ini_X3, by decide +kernel, by decide +kernel, by decide +kernel⟩
set_option maxRecDepth 100000 in
theorem oX3_pickThree : MOk mX3_pickThree := ⟨TB_of (i := 837) rfl rfl, ini_X3, by decide +kernel, by decide +kernel, by decide +kernel⟩
set_option maxRecDepth 100000 in
theorem oX3_choose : MOk mX3_choose := ⟨TB_of (i := 798) rfl rfl, ini_X3, by decide +kernel, by decide +kernel, by decide +kernel⟩
set_option maxRecDepth 100000 in
theorem oX9_chosenModel : MOk mX9_chosenModel := ⟨TB_of (i := 794) rfl rfl, ini_X9, by decide +kernel, by decide +kernel, by decide +kernel⟩
set_option maxRecDepth 100000 in
theorem oX3_oneCount : MOk mX3_oneCount := ⟨TB_of (i := 841) rfl rfl, ini_X3, by decide +kernel, by decide +kernel, by decide +kernel⟩
set_option maxRecDepth 100000 in
theorem oX9_isSatisfiable : MOk mX9_isSatisfiable := ⟨TB_of (i := 790) rfl rfl, ini_X9, by decide +kernel, by decide +kernel, by decide +kernel⟩
set_option maxRecDepth 100000 in
theorem oX10_occurs : MOk mX10_occurs := ⟨TB_of (i := 1245) rfl rfl, ini_X10, by decide +kernel, by decide +kernel, by decide +kernel⟩
set_option maxRecDepth 100000 in
theorem oX10_findUsed : MOk mX10_findUsed := ⟨TB_of (i := 1241) rfl rfl, ini_X10, by decide +kernel, by decide +kernel, by decide +kernel⟩
set_option maxRecDepth 100000 in
theorem oX10_valueOf : MOk mX10_valueOf := ⟨TB_of (i := 1261) rfl rfl, ini_X10, by decide +kernel, by decide +kernel, by decide +kernel⟩
set_option maxRecDepth 100000 in
theorem oX10_holds : MOk mX10_holds := ⟨TB_of (i := 1257) rfl rfl, ini_X10, by decide +kernel, by decide +kernel, by decide +kernel⟩
set_option maxRecDepth 100000 in
theorem oX10_isModel : MOk mX10_isModel := ⟨TB_of (i := 1253) rfl rfl, ini_X10, by decide +kernel, by decide +kernel, by decide +kernel⟩
set_option maxRecDepth 100000 in
theorem oX10_search : MOk mX10_search := ⟨TB_of (i := 1249) rfl rfl, ini_X10, by decide +kernel, by decide +kernel, by decide +kernel⟩
set_option maxRecDepth 100000 in
theorem oX10_choose : MOk mX10_choose := ⟨TB_of (i := 1237) rfl rfl, ini_X10, by decide +kernel, by decide +kernel, by decide +kernel⟩
set_option maxRecDepth 100000 in
theorem oX10_isSatisfiable : MOk mX10_isSatisfiable := ⟨TB_of (i := 1233) rfl rfl, ini_X10, by decide +kernel, by decide +kernel, by decide +kernel⟩
set_option maxRecDepth 100000 in
theorem oX9_oneBits : MOk mX9_oneBits := ⟨TB_of (i := 845) rfl rfl, ini_X9, by decide +kernel, by decide +kernel, by decide +kernel⟩
set_option maxRecDepth 100000 in
theorem oX10_oneBits : MOk mX10_oneBits := ⟨TB_of (i := 1265) rfl rfl, ini_X10, by decide +kernel, by decide +kernel, by decide +kernel⟩
set_option maxRecDepth 100000 in
theorem oX3_hasOne : MOk mX3_hasOne := ⟨TB_of (i := 853) rfl rfl, ini_X3, by decide +kernel, by decide +kernel, by decide +kernel⟩
set_option maxRecDepth 100000 in
theorem oX9_value : MOk mX9_value := ⟨TB_of (i := 849) rfl rfl, ini_X9, by decide +kernel, by decide +kernel, by decide +kernel⟩
set_option maxRecDepth 100000 in
theorem oX10_value : MOk mX10_value := ⟨TB_of (i := 1269) rfl rfl, ini_X10, by decide +kernel, by decide +kernel, by decide +kernel⟩
set_option maxRecDepth 100000 in
theorem oX9_isImplied : MOk mX9_isImplied := ⟨TB_of (i := 857) rfl rfl, ini_X9, by decide +kernel, by decide +kernel, by decide +kernel⟩
set_option maxRecDepth 100000 in
theorem oX10_isImplied : MOk mX10_isImplied := ⟨TB_of (i := 1273) rfl rfl, ini_X10, by decide +kernel, by decide +kernel, by decide +kernel⟩
set_option maxRecDepth 100000 in
theorem oX2_depth : MOk mX2_depth := ⟨TB_of (i := 865) rfl rfl, ini_X2, by decide +kernel, by decide +kernel, by decide +kernel⟩
set_option maxRecDepth 100000 in
theorem oX2_popInto : MOk mX2_popInto := ⟨TB_of (i := 869) rfl rfl, ini_X2, by decide +kernel, by decide +kernel, by decide +kernel⟩
set_option maxRecDepth 100000 in
theorem oX9_undo : MOk mX9_undo := ⟨TB_of (i := 861) rfl rfl, ini_X9, by decide +kernel, by decide +kernel, by decide +kernel⟩
set_option maxRecDepth 100000 in
theorem oX10_undo : MOk mX10_undo := ⟨TB_of (i := 1277) rfl rfl, ini_X10, by decide +kernel, by decide +kernel, by decide +kernel⟩
set_option maxRecDepth 100000 in
theorem oX9_undoDepth : MOk mX9_undoDepth := ⟨TB_of (i := 873) rfl rfl, ini_X9, by decide +kernel, by decide +kernel, by decide +kernel⟩
set_option maxRecDepth 100000 in
theorem oX10_undoDepth : MOk mX10_undoDepth := ⟨TB_of (i := 1281) rfl rfl, ini_X10, by decide +kernel, by decide +kernel, by decide +kernel⟩
set_option maxRecDepth 100000 in
theorem oX9_isSlot : MOk mX9_isSlot := ⟨TB_of (i := 880) rfl rfl, ini_X9, by decide +kernel, by decide +kernel, by decide +kernel⟩
set_option maxRecDepth 100000 in
theorem oX9_snapshot : MOk mX9_snapshot := ⟨TB_of (i := 884) rfl rfl, ini_X9, by decide +kernel, by decide +kernel, by decide +kernel⟩
set_option maxRecDepth 100000 in
theorem oX9_save : MOk mX9_save := ⟨TB_of (i := 877) rfl rfl, ini_X9, by decide +kernel, by decide +kernel, by decide +kernel⟩
set_option maxRecDepth 100000 in
theorem oX10_save : MOk mX10_save := ⟨TB_of (i := 1285) rfl rfl, ini_X10, by decide +kernel, by decide +kernel, by decide +kernel⟩
set_option maxRecDepth 100000 in
theorem oX2_clear : MOk mX2_clear := ⟨TB_of (i := 892) rfl rfl, ini_X2, by decide +kernel, by decide +kernel, by decide +kernel⟩
set_option maxRecDepth 100000 in
theorem oX9_restore : MOk mX9_restore := ⟨TB_of (i := 888) rfl rfl, ini_X9, by decide +kernel, by decide +kernel, by decide +kernel⟩
set_option maxRecDepth 100000 in
theorem oX10_restore : MOk mX10_restore := ⟨TB_of (i := 1289) rfl rfl, ini_X10, by decide +kernel, by decide +kernel, by decide +kernel⟩
theorem lL_9 : LkI "SliceSolverLaw" 9 mX9_init 0 := ⟨TB_of (w := Cond.methodLink "SliceSolverLaw" 9 yX9_init) (i := 100) (by decide +kernel) (by decide +kernel), TB_of (w := Cond.instanceMethod yX9_init) (i := 101) (by decide +kernel) (by decide +kernel), rfl, by decide +kernel⟩
theorem lX9_18 : LkI RX9 18 mX5_init 1 := ⟨TB_of (w := Cond.methodLink RX9 18 yX5_init) (i := 138) (by decide +kernel) (by decide +kernel), TB_of (w := Cond.instanceMethod yX5_init) (i := 139) (by decide +kernel) (by decide +kernel), rfl, by decide +kernel⟩
theorem lX4_17 : LkI RX4 17 mX6_init 1 := ⟨TB_of (w := Cond.methodLink RX4 17 yX6_init) (i := 179) (by decide +kernel) (by decide +kernel), TB_of (w := Cond.instanceMethod yX6_init) (i := 180) (by decide +kernel) (by decide +kernel), rfl, by decide +kernel⟩
theorem lX9_37 : LkI RX9 37 mX2_init 0 := ⟨TB_of (w := Cond.methodLink RX9 37 yX2_init) (i := 219) (by decide +kernel) (by decide +kernel), TB_of (w := Cond.instanceMethod yX2_init) (i := 220) (by decide +kernel) (by decide +kernel), rfl, by decide +kernel⟩
theorem lX9_57 : LkI RX9 57 mX0_init 0 := ⟨TB_of (w := Cond.methodLink RX9 57 yX0_init) (i := 245) (by decide +kernel) (by decide +kernel), TB_of (w := Cond.instanceMethod yX0_init) (i := 246) (by decide +kernel) (by decide +kernel), rfl, by decide +kernel⟩
theorem lX0_18 : LkV RX0 18 mX0_clear 0 0 := ⟨TB_of (w := Cond.methodLink RX0 18 yX0_clear) (i := 249) (by decide +kernel) (by decide +kernel), TB_of (w := Cond.instanceMethod yX0_clear) (i := 250) (by decide +kernel) (by decide +kernel), TB_of (w := Cond.selects RX0 yX0_clear yX0_clear) (i := 251) (by decide +kernel) (by decide +kernel), by decide +kernel, TX0, 3, rfl⟩
theorem lX0_21 : LkS RX0 21 mJ7_fill_53178 2 := ⟨TB_of (w := Cond.methodLink RX0 21 yJ7_fill_53178) (i := 253) (by decide +kernel) (by decide +kernel), TB_of (w := Cond.static yJ7_fill_53178) (i := 254) (by decide +kernel) (by decide +kernel), by decide +kernel⟩
theorem lL_13 : LkV "SliceSolverLaw" 13 mX9_append 1 9 := ⟨TB_of (w := Cond.methodLink "SliceSolverLaw" 13 yX9_append) (i := 329) (by decide +kernel) (by decide +kernel), TB_of (w := Cond.instanceMethod yX9_append) (i := 330) (by decide +kernel) (by decide +kernel), TB_of (w := Cond.selects RX9 yX9_append yX9_append) (i := 331) (by decide +kernel) (by decide +kernel), by decide +kernel, TX9, 13, rfl⟩
theorem lX9_80 : LkV RX9 80 mX8_isFull 0 8 := ⟨TB_of (w := Cond.methodLink RX9 80 yX8_isFull) (i := 333) (by decide +kernel) (by decide +kernel), TB_of (w := Cond.instanceMethod yX8_isFull) (i := 334) (by decide +kernel) (by decide +kernel), TB_of (w := Cond.selects RX8 yX8_isFull yX8_isFull) (i := 335) (by decide +kernel) (by decide +kernel), by decide +kernel, TX8, 7, rfl⟩
theorem lX9_84 : LkV RX9 84 mX8_add 1 8 := ⟨TB_of (w := Cond.methodLink RX9 84 yX8_add) (i := 337) (by decide +kernel) (by decide +kernel), TB_of (w := Cond.instanceMethod yX8_add) (i := 338) (by decide +kernel) (by decide +kernel), TB_of (w := Cond.selects RX8 yX8_add yX8_add) (i := 339) (by decide +kernel) (by decide +kernel), by decide +kernel, TX8, 7, rfl⟩
theorem lX8_29 : LkV RX8 29 mX8_isFull 0 8 := ⟨TB_of (w := Cond.methodLink RX8 29 yX8_isFull) (i := 341) (by decide +kernel) (by decide +kernel), TB_of (w := Cond.instanceMethod yX8_isFull) (i := 334) (by decide +kernel) (by decide +kernel), TB_of (w := Cond.selects RX8 yX8_isFull yX8_isFull) (i := 335) (by decide +kernel) (by decide +kernel), by decide +kernel, TX8, 7, rfl⟩
theorem lX9_88 : LkV RX9 88 mX8_length 0 8 := ⟨TB_of (w := Cond.methodLink RX9 88 yX8_length) (i := 342) (by decide +kernel) (by decide +kernel), TB_of (w := Cond.instanceMethod yX8_length) (i := 343) (by decide +kernel) (by decide +kernel), TB_of (w := Cond.selects RX8 yX8_length yX8_length) (i := 344) (by decide +kernel) (by decide +kernel), by decide +kernel, TX8, 7, rfl⟩
theorem lL_18 : LkV "SliceSolverLaw" 18 mX9_clearText 0 9 := ⟨TB_of (w := Cond.methodLink "SliceSolverLaw" 18 yX9_clearText) (i := 346) (by decide +kernel) (by decide +kernel), TB_of (w := Cond.instanceMethod yX9_clearText) (i := 347) (by decide +kernel) (by decide +kernel), TB_of (w := Cond.selects RX9 yX9_clearText yX9_clearText) (i := 348) (by decide +kernel) (by decide +kernel), by decide +kernel, TX9, 13, rfl⟩
theorem lX9_92 : LkV RX9 92 mX8_clear 0 8 := ⟨TB_of (w := Cond.methodLink RX9 92 yX8_clear) (i := 350) (by decide +kernel) (by decide +kernel), TB_of (w := Cond.instanceMethod yX8_clear) (i := 351) (by decide +kernel) (by decide +kernel), TB_of (w := Cond.selects RX8 yX8_clear yX8_clear) (i := 352) (by decide +kernel) (by decide +kernel), by decide +kernel, TX8, 7, rfl⟩
theorem lL_23 : LkV "SliceSolverLaw" 23 mX9_load 0 9 := ⟨TB_of (w := Cond.methodLink "SliceSolverLaw" 23 yX9_load) (i := 354) (by decide +kernel) (by decide +kernel), TB_of (w := Cond.instanceMethod yX9_load) (i := 355) (by decide +kernel) (by decide +kernel), TB_of (w := Cond.selects RX9 yX9_load yX9_load) (i := 356) (by decide +kernel) (by decide +kernel), by decide +kernel, TX9, 13, rfl⟩
theorem lX9_95 : LkV RX9 95 mX5_read 1 5 := ⟨TB_of (w := Cond.methodLink RX9 95 yX5_read) (i := 358) (by decide +kernel) (by decide +kernel), TB_of (w := Cond.instanceMethod yX5_read) (i := 359) (by decide +kernel) (by decide +kernel), TB_of (w := Cond.selects RX5 yX5_read yX5_read) (i := 360) (by decide +kernel) (by decide +kernel), by decide +kernel, TX5, 4, rfl⟩
theorem lX5_22 : LkV RX5 22 mX4_clear 0 4 := ⟨TB_of (w := Cond.methodLink RX5 22 yX4_clear) (i := 362) (by decide +kernel) (by decide +kernel), TB_of (w := Cond.instanceMethod yX4_clear) (i := 363) (by decide +kernel) (by decide +kernel), TB_of (w := Cond.selects RX4 yX4_clear yX4_clear) (i := 364) (by decide +kernel) (by decide +kernel), by decide +kernel, TX4, 3, rfl⟩
theorem lX4_35 : LkS RX4 35 mJ7_fill_53178 2 := ⟨TB_of (w := Cond.methodLink RX4 35 yJ7_fill_53178) (i := 366) (by decide +kernel) (by decide +kernel), TB_of (w := Cond.static yJ7_fill_53178) (i := 254) (by decide +kernel) (by decide +kernel), by decide +kernel⟩
theorem lX4_41 : LkV RX4 41 mX6_clear 0 6 := ⟨TB_of (w := Cond.methodLink RX4 41 yX6_clear) (i := 367) (by decide +kernel) (by decide +kernel), TB_of (w := Cond.instanceMethod yX6_clear) (i := 368) (by decide +kernel) (by decide +kernel), TB_of (w := Cond.selects RX6 yX6_clear yX6_clear) (i := 369) (by decide +kernel) (by decide +kernel), by decide +kernel, TX6, 5, rfl⟩
theorem lX5_27 : LkV RX5 27 mX8_split 0 8 := ⟨TB_of (w := Cond.methodLink RX5 27 yX8_split) (i := 371) (by decide +kernel) (by decide +kernel), TB_of (w := Cond.instanceMethod yX8_split) (i := 372) (by decide +kernel) (by decide +kernel), TB_of (w := Cond.selects RX8 yX8_split yX8_split) (i := 373) (by decide +kernel) (by decide +kernel), by decide +kernel, TX8, 7, rfl⟩
theorem lX8_39 : LkS RX8 39 mX8_kindOfSign 1 := ⟨TB_of (w := Cond.methodLink RX8 39 yX8_kindOfSign) (i := 375) (by decide +kernel) (by decide +kernel), TB_of (w := Cond.static yX8_kindOfSign) (i := 376) (by decide +kernel) (by decide +kernel), by decide +kernel⟩
theorem lX8_43 : LkV RX8 43 mX8_kindOfWord 2 8 := ⟨TB_of (w := Cond.methodLink RX8 43 yX8_kindOfWord) (i := 378) (by decide +kernel) (by decide +kernel), TB_of (w := Cond.instanceMethod yX8_kindOfWord) (i := 380) (by decide +kernel) (by decide +kernel), TB_of (w := Cond.selects RX8 yX8_kindOfWord yX8_kindOfWord) (i := 0) (by decide +kernel) (by decide +kernel), by decide +kernel, TX8, 7, rfl⟩
theorem lX8_49 : LkV RX8 49 mX8_isWord 3 8 := ⟨TB_of (w := Cond.methodLink RX8 49 yX8_isWord) (i := 383) (by decide +kernel) (by decide +kernel), TB_of (w := Cond.instanceMethod yX8_isWord) (i := 385) (by decide +kernel) (by decide +kernel), TB_of (w := Cond.selects RX8 yX8_isWord yX8_isWord) (i := 1) (by decide +kernel) (by decide +kernel), by decide +kernel, TX8, 7, rfl⟩
theorem lJ0_495 : LkS RJ0 495 mJ1_charAt_3b067 2 := ⟨TB_of (w := Cond.methodLink RJ0 495 yJ1_charAt_3b067) (i := 405) (by decide +kernel) (by decide +kernel), TB_of (w := Cond.static yJ1_charAt_3b067) (i := 406) (by decide +kernel) (by decide +kernel), by decide +kernel⟩
theorem lJ1_9 : LkS RJ1 9 mJ0_checkIndex_df160 2 := ⟨TB_of (w := Cond.methodLink RJ1 9 yJ0_checkIndex_df160) (i := 408) (by decide +kernel) (by decide +kernel), TB_of (w := Cond.static yJ0_checkIndex_df160) (i := 409) (by decide +kernel) (by decide +kernel), by decide +kernel⟩
theorem lJ0_1059 : LkS RJ0 1059 mJ3_checkIndex_8e157 3 := ⟨TB_of (w := Cond.methodLink RJ0 1059 yJ3_checkIndex_8e157) (i := 413) (by decide +kernel) (by decide +kernel), TB_of (w := Cond.static yJ3_checkIndex_8e157) (i := 414) (by decide +kernel) (by decide +kernel), by decide +kernel⟩
theorem lJ0_498 : LkS RJ0 498 mJ2_charAt_3b067 2 := ⟨TB_of (w := Cond.methodLink RJ0 498 yJ2_charAt_3b067) (i := 416) (by decide +kernel) (by decide +kernel), TB_of (w := Cond.static yJ2_charAt_3b067) (i := 417) (by decide +kernel) (by decide +kernel), by decide +kernel⟩
theorem lJ2_67 : LkS RJ2 67 mJ2_checkIndex_2214a 2 := ⟨TB_of (w := Cond.methodLink RJ2 67 yJ2_checkIndex_2214a) (i := 419) (by decide +kernel) (by decide +kernel), TB_of (w := Cond.static yJ2_checkIndex_2214a) (i := 420) (by decide +kernel) (by decide +kernel), by decide +kernel⟩
theorem lJ2_48 : LkS RJ2 48 mJ2_length_9d52b 1 := ⟨TB_of (w := Cond.methodLink RJ2 48 yJ2_length_9d52b) (i := 422) (by decide +kernel) (by decide +kernel), TB_of (w := Cond.static yJ2_length_9d52b) (i := 423) (by decide +kernel) (by decide +kernel), by decide +kernel⟩
theorem lJ2_414 : LkS RJ2 414 mJ0_checkIndex_df160 2 := ⟨TB_of (w := Cond.methodLink RJ2 414 yJ0_checkIndex_df160) (i := 425) (by decide +kernel) (by decide +kernel), TB_of (w := Cond.static yJ0_checkIndex_df160) (i := 409) (by decide +kernel) (by decide +kernel), by decide +kernel⟩
theorem lJ2_71 : LkS RJ2 71 mJ2_getChar_3b067 2 := ⟨TB_of (w := Cond.methodLink RJ2 71 yJ2_getChar_3b067) (i := 426) (by decide +kernel) (by decide +kernel), TB_of (w := Cond.static yJ2_getChar_3b067) (i := 427) (by decide +kernel) (by decide +kernel), by decide +kernel⟩
theorem lX5_32 : LkV RX5 32 mX8_kind 0 8 := ⟨TB_of (w := Cond.methodLink RX5 32 yX8_kind) (i := 436) (by decide +kernel) (by decide +kernel), TB_of (w := Cond.instanceMethod yX8_kind) (i := 437) (by decide +kernel) (by decide +kernel), TB_of (w := Cond.selects RX8 yX8_kind yX8_kind) (i := 438) (by decide +kernel) (by decide +kernel), by decide +kernel, TX8, 7, rfl⟩
theorem lX5_36 : LkV RX5 36 mX8_pass 1 8 := ⟨TB_of (w := Cond.methodLink RX5 36 yX8_pass) (i := 440) (by decide +kernel) (by decide +kernel), TB_of (w := Cond.instanceMethod yX8_pass) (i := 441) (by decide +kernel) (by decide +kernel), TB_of (w := Cond.selects RX8 yX8_pass yX8_pass) (i := 442) (by decide +kernel) (by decide +kernel), by decide +kernel, TX8, 7, rfl⟩
theorem lX5_40 : LkV RX5 40 mX5_readDeclaration 1 5 := ⟨TB_of (w := Cond.methodLink RX5 40 yX5_readDeclaration) (i := 444) (by decide +kernel) (by decide +kernel), TB_of (w := Cond.instanceMethod yX5_readDeclaration) (i := 446) (by decide +kernel) (by decide +kernel), TB_of (w := Cond.selects RX5 yX5_readDeclaration yX5_readDeclaration) (i := 2) (by decide +kernel) (by decide +kernel), by decide +kernel, TX5, 4, rfl⟩
theorem lX5_50 : LkV RX5 50 mX8_name 0 8 := ⟨TB_of (w := Cond.methodLink RX5 50 yX8_name) (i := 448) (by decide +kernel) (by decide +kernel), TB_of (w := Cond.instanceMethod yX8_name) (i := 449) (by decide +kernel) (by decide +kernel), TB_of (w := Cond.selects RX8 yX8_name yX8_name) (i := 450) (by decide +kernel) (by decide +kernel), by decide +kernel, TX8, 7, rfl⟩
theorem lX5_53 : LkV RX5 53 mX4_widthOf 1 4 := ⟨TB_of (w := Cond.methodLink RX5 53 yX4_widthOf) (i := 452) (by decide +kernel) (by decide +kernel), TB_of (w := Cond.instanceMethod yX4_widthOf) (i := 453) (by decide +kernel) (by decide +kernel), TB_of (w := Cond.selects RX4 yX4_widthOf yX4_widthOf) (i := 454) (by decide +kernel) (by decide +kernel), by decide +kernel, TX4, 3, rfl⟩
theorem lX5_57 : LkV RX5 57 mX8_advance 0 8 := ⟨TB_of (w := Cond.methodLink RX5 57 yX8_advance) (i := 459) (by decide +kernel) (by decide +kernel), TB_of (w := Cond.instanceMethod yX8_advance) (i := 460) (by decide +kernel) (by decide +kernel), TB_of (w := Cond.selects RX8 yX8_advance yX8_advance) (i := 461) (by decide +kernel) (by decide +kernel), by decide +kernel, TX8, 7, rfl⟩
theorem lX5_60 : LkV RX5 60 mX8_number 0 8 := ⟨TB_of (w := Cond.methodLink RX5 60 yX8_number) (i := 463) (by decide +kernel) (by decide +kernel), TB_of (w := Cond.instanceMethod yX8_number) (i := 464) (by decide +kernel) (by decide +kernel), TB_of (w := Cond.selects RX8 yX8_number yX8_number) (i := 465) (by decide +kernel) (by decide +kernel), by decide +kernel, TX8, 7, rfl⟩
theorem lX5_63 : LkV RX5 63 mX4_declare 2 4 := ⟨TB_of (w := Cond.methodLink RX5 63 yX4_declare) (i := 467) (by decide +kernel) (by decide +kernel), TB_of (w := Cond.instanceMethod yX4_declare) (i := 468) (by decide +kernel) (by decide +kernel), TB_of (w := Cond.selects RX4 yX4_declare yX4_declare) (i := 469) (by decide +kernel) (by decide +kernel), by decide +kernel, TX4, 3, rfl⟩
theorem lX5_44 : LkV RX5 44 mX5_readStatement 1 5 := ⟨TB_of (w := Cond.methodLink RX5 44 yX5_readStatement) (i := 471) (by decide +kernel) (by decide +kernel), TB_of (w := Cond.instanceMethod yX5_readStatement) (i := 473) (by decide +kernel) (by decide +kernel), TB_of (w := Cond.selects RX5 yX5_readStatement yX5_readStatement) (i := 3) (by decide +kernel) (by decide +kernel), by decide +kernel, TX5, 4, rfl⟩
theorem lX5_74 : LkV RX5 74 mX6_isFull 0 6 := ⟨TB_of (w := Cond.methodLink RX5 74 yX6_isFull) (i := 475) (by decide +kernel) (by decide +kernel), TB_of (w := Cond.instanceMethod yX6_isFull) (i := 476) (by decide +kernel) (by decide +kernel), TB_of (w := Cond.selects RX6 yX6_isFull yX6_isFull) (i := 477) (by decide +kernel) (by decide +kernel), by decide +kernel, TX6, 5, rfl⟩
theorem lX5_80 : LkV RX5 80 mX5_readTerm 1 5 := ⟨TB_of (w := Cond.methodLink RX5 80 yX5_readTerm) (i := 479) (by decide +kernel) (by decide +kernel), TB_of (w := Cond.instanceMethod yX5_readTerm) (i := 481) (by decide +kernel) (by decide +kernel), TB_of (w := Cond.selects RX5 yX5_readTerm yX5_readTerm) (i := 4) (by decide +kernel) (by decide +kernel), by decide +kernel, TX5, 4, rfl⟩
theorem lX5_94 : LkV RX5 94 mX7_clear 0 7 := ⟨TB_of (w := Cond.methodLink RX5 94 yX7_clear) (i := 483) (by decide +kernel) (by decide +kernel), TB_of (w := Cond.instanceMethod yX7_clear) (i := 484) (by decide +kernel) (by decide +kernel), TB_of (w := Cond.selects RX7 yX7_clear yX7_clear) (i := 485) (by decide +kernel) (by decide +kernel), by decide +kernel, TX7, 3, rfl⟩
theorem lX5_95 : LkV RX5 95 mX5_readPart 1 5 := ⟨TB_of (w := Cond.methodLink RX5 95 yX5_readPart) (i := 487) (by decide +kernel) (by decide +kernel), TB_of (w := Cond.instanceMethod yX5_readPart) (i := 489) (by decide +kernel) (by decide +kernel), TB_of (w := Cond.selects RX5 yX5_readPart yX5_readPart) (i := 5) (by decide +kernel) (by decide +kernel), by decide +kernel, TX5, 4, rfl⟩
theorem lX5_98 : LkV RX5 98 mX5_readConstant 0 5 := ⟨TB_of (w := Cond.methodLink RX5 98 yX5_readConstant) (i := 491) (by decide +kernel) (by decide +kernel), TB_of (w := Cond.instanceMethod yX5_readConstant) (i := 493) (by decide +kernel) (by decide +kernel), TB_of (w := Cond.selects RX5 yX5_readConstant yX5_readConstant) (i := 6) (by decide +kernel) (by decide +kernel), by decide +kernel, TX5, 4, rfl⟩
theorem lX5_118 : LkV RX5 118 mX8_constantBits 0 8 := ⟨TB_of (w := Cond.methodLink RX5 118 yX8_constantBits) (i := 495) (by decide +kernel) (by decide +kernel), TB_of (w := Cond.instanceMethod yX8_constantBits) (i := 496) (by decide +kernel) (by decide +kernel), TB_of (w := Cond.selects RX8 yX8_constantBits yX8_constantBits) (i := 497) (by decide +kernel) (by decide +kernel), by decide +kernel, TX8, 7, rfl⟩
theorem lX5_121 : LkV RX5 121 mX7_beginPart 0 7 := ⟨TB_of (w := Cond.methodLink RX5 121 yX7_beginPart) (i := 499) (by decide +kernel) (by decide +kernel), TB_of (w := Cond.instanceMethod yX7_beginPart) (i := 500) (by decide +kernel) (by decide +kernel), TB_of (w := Cond.selects RX7 yX7_beginPart yX7_beginPart) (i := 501) (by decide +kernel) (by decide +kernel), by decide +kernel, TX7, 3, rfl⟩
theorem lX5_124 : LkV RX5 124 mX8_constantBit 1 8 := ⟨TB_of (w := Cond.methodLink RX5 124 yX8_constantBit) (i := 503) (by decide +kernel) (by decide +kernel), TB_of (w := Cond.instanceMethod yX8_constantBit) (i := 504) (by decide +kernel) (by decide +kernel), TB_of (w := Cond.selects RX8 yX8_constantBit yX8_constantBit) (i := 505) (by decide +kernel) (by decide +kernel), by decide +kernel, TX8, 7, rfl⟩
theorem lX5_127 : LkV RX5 127 mX7_add 1 7 := ⟨TB_of (w := Cond.methodLink RX5 127 yX7_add) (i := 507) (by decide +kernel) (by decide +kernel), TB_of (w := Cond.instanceMethod yX7_add) (i := 508) (by decide +kernel) (by decide +kernel), TB_of (w := Cond.selects RX7 yX7_add yX7_add) (i := 509) (by decide +kernel) (by decide +kernel), by decide +kernel, TX7, 3, rfl⟩
theorem lX5_108 : LkV RX5 108 mX5_readRange 0 5 := ⟨TB_of (w := Cond.methodLink RX5 108 yX5_readRange) (i := 511) (by decide +kernel) (by decide +kernel), TB_of (w := Cond.instanceMethod yX5_readRange) (i := 513) (by decide +kernel) (by decide +kernel), TB_of (w := Cond.selects RX5 yX5_readRange yX5_readRange) (i := 7) (by decide +kernel) (by decide +kernel), by decide +kernel, TX5, 4, rfl⟩
theorem lX5_115 : LkV RX5 115 mX7_addRange 2 7 := ⟨TB_of (w := Cond.methodLink RX5 115 yX7_addRange) (i := 518) (by decide +kernel) (by decide +kernel), TB_of (w := Cond.instanceMethod yX7_addRange) (i := 519) (by decide +kernel) (by decide +kernel), TB_of (w := Cond.selects RX7 yX7_addRange yX7_addRange) (i := 520) (by decide +kernel) (by decide +kernel), by decide +kernel, TX7, 3, rfl⟩
theorem lX7_22 : LkV RX7 22 mX7_beginPart 0 7 := ⟨TB_of (w := Cond.methodLink RX7 22 yX7_beginPart) (i := 522) (by decide +kernel) (by decide +kernel), TB_of (w := Cond.instanceMethod yX7_beginPart) (i := 500) (by decide +kernel) (by decide +kernel), TB_of (w := Cond.selects RX7 yX7_beginPart yX7_beginPart) (i := 501) (by decide +kernel) (by decide +kernel), by decide +kernel, TX7, 3, rfl⟩
theorem lX7_25 : LkV RX7 25 mX7_add 1 7 := ⟨TB_of (w := Cond.methodLink RX7 25 yX7_add) (i := 523) (by decide +kernel) (by decide +kernel), TB_of (w := Cond.instanceMethod yX7_add) (i := 508) (by decide +kernel) (by decide +kernel), TB_of (w := Cond.selects RX7 yX7_add yX7_add) (i := 509) (by decide +kernel) (by decide +kernel), by decide +kernel, TX7, 3, rfl⟩
theorem lX5_83 : LkV RX5 83 mX7_bitCount 0 7 := ⟨TB_of (w := Cond.methodLink RX5 83 yX7_bitCount) (i := 524) (by decide +kernel) (by decide +kernel), TB_of (w := Cond.instanceMethod yX7_bitCount) (i := 525) (by decide +kernel) (by decide +kernel), TB_of (w := Cond.selects RX7 yX7_bitCount yX7_bitCount) (i := 526) (by decide +kernel) (by decide +kernel), by decide +kernel, TX7, 3, rfl⟩
theorem lX5_86 : LkV RX5 86 mX6_putTerm 2 6 := ⟨TB_of (w := Cond.methodLink RX5 86 yX6_putTerm) (i := 528) (by decide +kernel) (by decide +kernel), TB_of (w := Cond.instanceMethod yX6_putTerm) (i := 529) (by decide +kernel) (by decide +kernel), TB_of (w := Cond.selects RX6 yX6_putTerm yX6_putTerm) (i := 530) (by decide +kernel) (by decide +kernel), by decide +kernel, TX6, 5, rfl⟩
theorem lX6_38 : LkV RX6 38 mX6_isFull 0 6 := ⟨TB_of (w := Cond.methodLink RX6 38 yX6_isFull) (i := 532) (by decide +kernel) (by decide +kernel), TB_of (w := Cond.instanceMethod yX6_isFull) (i := 476) (by decide +kernel) (by decide +kernel), TB_of (w := Cond.selects RX6 yX6_isFull yX6_isFull) (i := 477) (by decide +kernel) (by decide +kernel), by decide +kernel, TX6, 5, rfl⟩
theorem lX6_42 : LkV RX6 42 mX7_bitCount 0 7 := ⟨TB_of (w := Cond.methodLink RX6 42 yX7_bitCount) (i := 533) (by decide +kernel) (by decide +kernel), TB_of (w := Cond.instanceMethod yX7_bitCount) (i := 525) (by decide +kernel) (by decide +kernel), TB_of (w := Cond.selects RX7 yX7_bitCount yX7_bitCount) (i := 526) (by decide +kernel) (by decide +kernel), by decide +kernel, TX7, 3, rfl⟩
theorem lX6_48 : LkV RX6 48 mX7_node 1 7 := ⟨TB_of (w := Cond.methodLink RX6 48 yX7_node) (i := 534) (by decide +kernel) (by decide +kernel), TB_of (w := Cond.instanceMethod yX7_node) (i := 535) (by decide +kernel) (by decide +kernel), TB_of (w := Cond.selects RX7 yX7_node yX7_node) (i := 536) (by decide +kernel) (by decide +kernel), by decide +kernel, TX7, 3, rfl⟩
theorem lX6_52 : LkV RX6 52 mX7_partBeginsAt 1 7 := ⟨TB_of (w := Cond.methodLink RX6 52 yX7_partBeginsAt) (i := 538) (by decide +kernel) (by decide +kernel), TB_of (w := Cond.instanceMethod yX7_partBeginsAt) (i := 539) (by decide +kernel) (by decide +kernel), TB_of (w := Cond.selects RX7 yX7_partBeginsAt yX7_partBeginsAt) (i := 540) (by decide +kernel) (by decide +kernel), by decide +kernel, TX7, 3, rfl⟩
theorem lX5_90 : LkV RX5 90 mX6_finish 1 6 := ⟨TB_of (w := Cond.methodLink RX5 90 yX6_finish) (i := 542) (by decide +kernel) (by decide +kernel), TB_of (w := Cond.instanceMethod yX6_finish) (i := 543) (by decide +kernel) (by decide +kernel), TB_of (w := Cond.selects RX6 yX6_finish yX6_finish) (i := 544) (by decide +kernel) (by decide +kernel), by decide +kernel, TX6, 5, rfl⟩
theorem lX5_47 : LkV RX5 47 mX8_start 0 8 := ⟨TB_of (w := Cond.methodLink RX5 47 yX8_start) (i := 546) (by decide +kernel) (by decide +kernel), TB_of (w := Cond.instanceMethod yX8_start) (i := 547) (by decide +kernel) (by decide +kernel), TB_of (w := Cond.selects RX8 yX8_start yX8_start) (i := 548) (by decide +kernel) (by decide +kernel), by decide +kernel, TX8, 7, rfl⟩
theorem lX9_99 : LkV RX9 99 mX2_push 1 2 := ⟨TB_of (w := Cond.methodLink RX9 99 yX2_push) (i := 550) (by decide +kernel) (by decide +kernel), TB_of (w := Cond.instanceMethod yX2_push) (i := 551) (by decide +kernel) (by decide +kernel), TB_of (w := Cond.selects RX2 yX2_push yX2_push) (i := 552) (by decide +kernel) (by decide +kernel), by decide +kernel, TX2, 2, rfl⟩
theorem lX2_22 : LkV RX2 22 mX2_forgetOldest 0 2 := ⟨TB_of (w := Cond.methodLink RX2 22 yX2_forgetOldest) (i := 554) (by decide +kernel) (by decide +kernel), TB_of (w := Cond.instanceMethod yX2_forgetOldest) (i := 556) (by decide +kernel) (by decide +kernel), TB_of (w := Cond.selects RX2 yX2_forgetOldest yX2_forgetOldest) (i := 8) (by decide +kernel) (by decide +kernel), by decide +kernel, TX2, 2, rfl⟩
theorem lX2_25 : LkV RX2 25 mX4_copyFrom 1 4 := ⟨TB_of (w := Cond.methodLink RX2 25 yX4_copyFrom) (i := 558) (by decide +kernel) (by decide +kernel), TB_of (w := Cond.instanceMethod yX4_copyFrom) (i := 559) (by decide +kernel) (by decide +kernel), TB_of (w := Cond.selects RX4 yX4_copyFrom yX4_copyFrom) (i := 560) (by decide +kernel) (by decide +kernel), by decide +kernel, TX4, 3, rfl⟩
theorem lX4_50 : LkV RX4 50 mX6_copyFrom 1 6 := ⟨TB_of (w := Cond.methodLink RX4 50 yX6_copyFrom) (i := 565) (by decide +kernel) (by decide +kernel), TB_of (w := Cond.instanceMethod yX6_copyFrom) (i := 566) (by decide +kernel) (by decide +kernel), TB_of (w := Cond.selects RX6 yX6_copyFrom yX6_copyFrom) (i := 567) (by decide +kernel) (by decide +kernel), by decide +kernel, TX6, 5, rfl⟩
theorem lX6_58 : LkV RX6 58 mX6_move 4 6 := ⟨TB_of (w := Cond.methodLink RX6 58 yX6_move) (i := 572) (by decide +kernel) (by decide +kernel), TB_of (w := Cond.instanceMethod yX6_move) (i := 574) (by decide +kernel) (by decide +kernel), TB_of (w := Cond.selects RX6 yX6_move yX6_move) (i := 9) (by decide +kernel) (by decide +kernel), by decide +kernel, TX6, 5, rfl⟩
theorem lX9_103 : LkV RX9 103 mX4_copyFrom 1 4 := ⟨TB_of (w := Cond.methodLink RX9 103 yX4_copyFrom) (i := 577) (by decide +kernel) (by decide +kernel), TB_of (w := Cond.instanceMethod yX4_copyFrom) (i := 559) (by decide +kernel) (by decide +kernel), TB_of (w := Cond.selects RX4 yX4_copyFrom yX4_copyFrom) (i := 560) (by decide +kernel) (by decide +kernel), by decide +kernel, TX4, 3, rfl⟩
theorem lX9_106 : LkV RX9 106 mX9_slice 0 9 := ⟨TB_of (w := Cond.methodLink RX9 106 yX9_slice) (i := 578) (by decide +kernel) (by decide +kernel), TB_of (w := Cond.instanceMethod yX9_slice) (i := 580) (by decide +kernel) (by decide +kernel), TB_of (w := Cond.selects RX9 yX9_slice yX9_slice) (i := 10) (by decide +kernel) (by decide +kernel), by decide +kernel, TX9, 13, rfl⟩
theorem lX9_206 : LkV RX9 206 mX1_cut 1 1 := ⟨TB_of (w := Cond.methodLink RX9 206 yX1_cut) (i := 582) (by decide +kernel) (by decide +kernel), TB_of (w := Cond.instanceMethod yX1_cut) (i := 583) (by decide +kernel) (by decide +kernel), TB_of (w := Cond.selects RX1 yX1_cut yX1_cut) (i := 584) (by decide +kernel) (by decide +kernel), by decide +kernel, TX1, 1, rfl⟩
theorem lX1_21 : LkS RX1 21 mJ7_fill_53178 2 := ⟨TB_of (w := Cond.methodLink RX1 21 yJ7_fill_53178) (i := 586) (by decide +kernel) (by decide +kernel), TB_of (w := Cond.static yJ7_fill_53178) (i := 254) (by decide +kernel) (by decide +kernel), by decide +kernel⟩
theorem lX1_33 : LkV RX1 33 mX6_count 0 6 := ⟨TB_of (w := Cond.methodLink RX1 33 yX6_count) (i := 587) (by decide +kernel) (by decide +kernel), TB_of (w := Cond.instanceMethod yX6_count) (i := 588) (by decide +kernel) (by decide +kernel), TB_of (w := Cond.selects RX6 yX6_count yX6_count) (i := 589) (by decide +kernel) (by decide +kernel), by decide +kernel, TX6, 5, rfl⟩
theorem lX1_39 : LkV RX1 39 mX1_cutAroundParts 3 1 := ⟨TB_of (w := Cond.methodLink RX1 39 yX1_cutAroundParts) (i := 591) (by decide +kernel) (by decide +kernel), TB_of (w := Cond.instanceMethod yX1_cutAroundParts) (i := 593) (by decide +kernel) (by decide +kernel), TB_of (w := Cond.selects RX1 yX1_cutAroundParts yX1_cutAroundParts) (i := 11) (by decide +kernel) (by decide +kernel), by decide +kernel, TX1, 1, rfl⟩
theorem lX1_47 : LkV RX1 47 mX6_widthOf 1 6 := ⟨TB_of (w := Cond.methodLink RX1 47 yX6_widthOf) (i := 595) (by decide +kernel) (by decide +kernel), TB_of (w := Cond.instanceMethod yX6_widthOf) (i := 596) (by decide +kernel) (by decide +kernel), TB_of (w := Cond.selects RX6 yX6_widthOf yX6_widthOf) (i := 597) (by decide +kernel) (by decide +kernel), by decide +kernel, TX6, 5, rfl⟩
theorem lX6_34 : LkV RX6 34 mX6_has 1 6 := ⟨TB_of (w := Cond.methodLink RX6 34 yX6_has) (i := 599) (by decide +kernel) (by decide +kernel), TB_of (w := Cond.instanceMethod yX6_has) (i := 600) (by decide +kernel) (by decide +kernel), TB_of (w := Cond.selects RX6 yX6_has yX6_has) (i := 601) (by decide +kernel) (by decide +kernel), by decide +kernel, TX6, 5, rfl⟩
theorem lX1_50 : LkV RX1 50 mX6_node 3 6 := ⟨TB_of (w := Cond.methodLink RX1 50 yX6_node) (i := 603) (by decide +kernel) (by decide +kernel), TB_of (w := Cond.instanceMethod yX6_node) (i := 604) (by decide +kernel) (by decide +kernel), TB_of (w := Cond.selects RX6 yX6_node yX6_node) (i := 605) (by decide +kernel) (by decide +kernel), by decide +kernel, TX6, 5, rfl⟩
theorem lX1_58 : LkV RX1 58 mX6_partEndsAt 3 6 := ⟨TB_of (w := Cond.methodLink RX1 58 yX6_partEndsAt) (i := 610) (by decide +kernel) (by decide +kernel), TB_of (w := Cond.instanceMethod yX6_partEndsAt) (i := 611) (by decide +kernel) (by decide +kernel), TB_of (w := Cond.selects RX6 yX6_partEndsAt yX6_partEndsAt) (i := 612) (by decide +kernel) (by decide +kernel), by decide +kernel, TX6, 5, rfl⟩
theorem lX1_68 : LkV RX1 68 mX1_cutBelow 3 1 := ⟨TB_of (w := Cond.methodLink RX1 68 yX1_cutBelow) (i := 620) (by decide +kernel) (by decide +kernel), TB_of (w := Cond.instanceMethod yX1_cutBelow) (i := 622) (by decide +kernel) (by decide +kernel), TB_of (w := Cond.selects RX1 yX1_cutBelow yX1_cutBelow) (i := 12) (by decide +kernel) (by decide +kernel), by decide +kernel, TX1, 1, rfl⟩
theorem lX1_71 : LkV RX1 71 mX4_widthOf 1 4 := ⟨TB_of (w := Cond.methodLink RX1 71 yX4_widthOf) (i := 624) (by decide +kernel) (by decide +kernel), TB_of (w := Cond.instanceMethod yX4_widthOf) (i := 453) (by decide +kernel) (by decide +kernel), TB_of (w := Cond.selects RX4 yX4_widthOf yX4_widthOf) (i := 454) (by decide +kernel) (by decide +kernel), by decide +kernel, TX4, 3, rfl⟩
theorem lX1_43 : LkV RX1 43 mX1_spread 4 1 := ⟨TB_of (w := Cond.methodLink RX1 43 yX1_spread) (i := 625) (by decide +kernel) (by decide +kernel), TB_of (w := Cond.instanceMethod yX1_spread) (i := 627) (by decide +kernel) (by decide +kernel), TB_of (w := Cond.selects RX1 yX1_spread yX1_spread) (i := 13) (by decide +kernel) (by decide +kernel), by decide +kernel, TX1, 1, rfl⟩
theorem lX1_72 : LkV RX1 72 mX1_isCut 1 1 := ⟨TB_of (w := Cond.methodLink RX1 72 yX1_isCut) (i := 629) (by decide +kernel) (by decide +kernel), TB_of (w := Cond.instanceMethod yX1_isCut) (i := 631) (by decide +kernel) (by decide +kernel), TB_of (w := Cond.selects RX1 yX1_isCut yX1_isCut) (i := 14) (by decide +kernel) (by decide +kernel), by decide +kernel, TX1, 1, rfl⟩
theorem lX1_75 : LkV RX1 75 mX1_isMarked 4 1 := ⟨TB_of (w := Cond.methodLink RX1 75 yX1_isMarked) (i := 633) (by decide +kernel) (by decide +kernel), TB_of (w := Cond.instanceMethod yX1_isMarked) (i := 635) (by decide +kernel) (by decide +kernel), TB_of (w := Cond.selects RX1 yX1_isMarked yX1_isMarked) (i := 15) (by decide +kernel) (by decide +kernel), by decide +kernel, TX1, 1, rfl⟩
theorem lX9_168 : LkV RX9 168 mX0_clear 0 0 := ⟨TB_of (w := Cond.methodLink RX9 168 yX0_clear) (i := 637) (by decide +kernel) (by decide +kernel), TB_of (w := Cond.instanceMethod yX0_clear) (i := 250) (by decide +kernel) (by decide +kernel), TB_of (w := Cond.selects RX0 yX0_clear yX0_clear) (i := 251) (by decide +kernel) (by decide +kernel), by decide +kernel, TX0, 3, rfl⟩
theorem lX9_126 : LkV RX9 126 mX6_count 0 6 := ⟨TB_of (w := Cond.methodLink RX9 126 yX6_count) (i := 638) (by decide +kernel) (by decide +kernel), TB_of (w := Cond.instanceMethod yX6_count) (i := 588) (by decide +kernel) (by decide +kernel), TB_of (w := Cond.selects RX6 yX6_count yX6_count) (i := 589) (by decide +kernel) (by decide +kernel), by decide +kernel, TX6, 5, rfl⟩
theorem lX9_169 : LkV RX9 169 mX0_equate 2 0 := ⟨TB_of (w := Cond.methodLink RX9 169 yX0_equate) (i := 639) (by decide +kernel) (by decide +kernel), TB_of (w := Cond.instanceMethod yX0_equate) (i := 640) (by decide +kernel) (by decide +kernel), TB_of (w := Cond.selects RX0 yX0_equate yX0_equate) (i := 641) (by decide +kernel) (by decide +kernel), by decide +kernel, TX0, 3, rfl⟩
theorem lX0_39 : LkV RX0 39 mX6_widthOf 1 6 := ⟨TB_of (w := Cond.methodLink RX0 39 yX6_widthOf) (i := 643) (by decide +kernel) (by decide +kernel), TB_of (w := Cond.instanceMethod yX6_widthOf) (i := 596) (by decide +kernel) (by decide +kernel), TB_of (w := Cond.selects RX6 yX6_widthOf yX6_widthOf) (i := 597) (by decide +kernel) (by decide +kernel), by decide +kernel, TX6, 5, rfl⟩
theorem lX0_44 : LkV RX0 44 mX6_node 3 6 := ⟨TB_of (w := Cond.methodLink RX0 44 yX6_node) (i := 644) (by decide +kernel) (by decide +kernel), TB_of (w := Cond.instanceMethod yX6_node) (i := 604) (by decide +kernel) (by decide +kernel), TB_of (w := Cond.selects RX6 yX6_node yX6_node) (i := 605) (by decide +kernel) (by decide +kernel), by decide +kernel, TX6, 5, rfl⟩
theorem lX0_48 : LkV RX0 48 mX0_join 2 0 := ⟨TB_of (w := Cond.methodLink RX0 48 yX0_join) (i := 645) (by decide +kernel) (by decide +kernel), TB_of (w := Cond.instanceMethod yX0_join) (i := 647) (by decide +kernel) (by decide +kernel), TB_of (w := Cond.selects RX0 yX0_join yX0_join) (i := 16) (by decide +kernel) (by decide +kernel), by decide +kernel, TX0, 3, rfl⟩
theorem lX0_35 : LkV RX0 35 mX0_rootOf 1 0 := ⟨TB_of (w := Cond.methodLink RX0 35 yX0_rootOf) (i := 650) (by decide +kernel) (by decide +kernel), TB_of (w := Cond.instanceMethod yX0_rootOf) (i := 651) (by decide +kernel) (by decide +kernel), TB_of (w := Cond.selects RX0 yX0_rootOf yX0_rootOf) (i := 652) (by decide +kernel) (by decide +kernel), by decide +kernel, TX0, 3, rfl⟩
theorem lX0_52 : LkV RX0 52 mX0_fix 2 0 := ⟨TB_of (w := Cond.methodLink RX0 52 yX0_fix) (i := 654) (by decide +kernel) (by decide +kernel), TB_of (w := Cond.instanceMethod yX0_fix) (i := 656) (by decide +kernel) (by decide +kernel), TB_of (w := Cond.selects RX0 yX0_fix yX0_fix) (i := 17) (by decide +kernel) (by decide +kernel), by decide +kernel, TX0, 3, rfl⟩
theorem lX0_55 : LkV RX0 55 mX0_unite 2 0 := ⟨TB_of (w := Cond.methodLink RX0 55 yX0_unite) (i := 658) (by decide +kernel) (by decide +kernel), TB_of (w := Cond.instanceMethod yX0_unite) (i := 660) (by decide +kernel) (by decide +kernel), TB_of (w := Cond.selects RX0 yX0_unite yX0_unite) (i := 18) (by decide +kernel) (by decide +kernel), by decide +kernel, TX0, 3, rfl⟩
theorem lX9_109 : LkV RX9 109 mX4_statementCount 0 4 := ⟨TB_of (w := Cond.methodLink RX9 109 yX4_statementCount) (i := 664) (by decide +kernel) (by decide +kernel), TB_of (w := Cond.instanceMethod yX4_statementCount) (i := 665) (by decide +kernel) (by decide +kernel), TB_of (w := Cond.selects RX4 yX4_statementCount yX4_statementCount) (i := 666) (by decide +kernel) (by decide +kernel), by decide +kernel, TX4, 3, rfl⟩
theorem lX4_31 : LkV RX4 31 mX6_count 0 6 := ⟨TB_of (w := Cond.methodLink RX4 31 yX6_count) (i := 668) (by decide +kernel) (by decide +kernel), TB_of (w := Cond.instanceMethod yX6_count) (i := 588) (by decide +kernel) (by decide +kernel), TB_of (w := Cond.selects RX6 yX6_count yX6_count) (i := 589) (by decide +kernel) (by decide +kernel), by decide +kernel, TX6, 5, rfl⟩
theorem lL_27 : LkV "SliceSolverLaw" 27 mX9_removeEquation 1 9 := ⟨TB_of (w := Cond.methodLink "SliceSolverLaw" 27 yX9_removeEquation) (i := 670) (by decide +kernel) (by decide +kernel), TB_of (w := Cond.instanceMethod yX9_removeEquation) (i := 671) (by decide +kernel) (by decide +kernel), TB_of (w := Cond.selects RX9 yX9_removeEquation yX9_removeEquation) (i := 672) (by decide +kernel) (by decide +kernel), by decide +kernel, TX9, 13, rfl⟩
theorem lX9_116 : LkV RX9 116 mX6_has 1 6 := ⟨TB_of (w := Cond.methodLink RX9 116 yX6_has) (i := 674) (by decide +kernel) (by decide +kernel), TB_of (w := Cond.instanceMethod yX6_has) (i := 600) (by decide +kernel) (by decide +kernel), TB_of (w := Cond.selects RX6 yX6_has yX6_has) (i := 601) (by decide +kernel) (by decide +kernel), by decide +kernel, TX6, 5, rfl⟩
theorem lX9_122 : LkV RX9 122 mX6_drop 1 6 := ⟨TB_of (w := Cond.methodLink RX9 122 yX6_drop) (i := 675) (by decide +kernel) (by decide +kernel), TB_of (w := Cond.instanceMethod yX6_drop) (i := 676) (by decide +kernel) (by decide +kernel), TB_of (w := Cond.selects RX6 yX6_drop yX6_drop) (i := 677) (by decide +kernel) (by decide +kernel), by decide +kernel, TX6, 5, rfl⟩
theorem lL_31 : LkV "SliceSolverLaw" 31 mX9_removeDisequation 1 9 := ⟨TB_of (w := Cond.methodLink "SliceSolverLaw" 31 yX9_removeDisequation) (i := 679) (by decide +kernel) (by decide +kernel), TB_of (w := Cond.instanceMethod yX9_removeDisequation) (i := 680) (by decide +kernel) (by decide +kernel), TB_of (w := Cond.selects RX9 yX9_removeDisequation yX9_removeDisequation) (i := 681) (by decide +kernel) (by decide +kernel), by decide +kernel, TX9, 13, rfl⟩
theorem lL_35 : LkV "SliceSolverLaw" 35 mX9_width 1 9 := ⟨TB_of (w := Cond.methodLink "SliceSolverLaw" 35 yX9_width) (i := 683) (by decide +kernel) (by decide +kernel), TB_of (w := Cond.instanceMethod yX9_width) (i := 684) (by decide +kernel) (by decide +kernel), TB_of (w := Cond.selects RX9 yX9_width yX9_width) (i := 685) (by decide +kernel) (by decide +kernel), by decide +kernel, TX9, 13, rfl⟩
theorem lX9_132 : LkS RX9 132 mX9_isVariable 1 := ⟨TB_of (w := Cond.methodLink RX9 132 yX9_isVariable) (i := 687) (by decide +kernel) (by decide +kernel), TB_of (w := Cond.static yX9_isVariable) (i := 457) (by decide +kernel) (by decide +kernel), by decide +kernel⟩
theorem lX9_135 : LkV RX9 135 mX4_widthOf 1 4 := ⟨TB_of (w := Cond.methodLink RX9 135 yX4_widthOf) (i := 688) (by decide +kernel) (by decide +kernel), TB_of (w := Cond.instanceMethod yX4_widthOf) (i := 453) (by decide +kernel) (by decide +kernel), TB_of (w := Cond.selects RX4 yX4_widthOf yX4_widthOf) (i := 454) (by decide +kernel) (by decide +kernel), by decide +kernel, TX4, 3, rfl⟩
theorem lL_39 : LkV "SliceSolverLaw" 39 mX9_equationCount 0 9 := ⟨TB_of (w := Cond.methodLink "SliceSolverLaw" 39 yX9_equationCount) (i := 689) (by decide +kernel) (by decide +kernel), TB_of (w := Cond.instanceMethod yX9_equationCount) (i := 690) (by decide +kernel) (by decide +kernel), TB_of (w := Cond.selects RX9 yX9_equationCount yX9_equationCount) (i := 691) (by decide +kernel) (by decide +kernel), by decide +kernel, TX9, 13, rfl⟩
theorem lL_43 : LkV "SliceSolverLaw" 43 mX9_disequationCount 0 9 := ⟨TB_of (w := Cond.methodLink "SliceSolverLaw" 43 yX9_disequationCount) (i := 693) (by decide +kernel) (by decide +kernel), TB_of (w := Cond.instanceMethod yX9_disequationCount) (i := 694) (by decide +kernel) (by decide +kernel), TB_of (w := Cond.selects RX9 yX9_disequationCount yX9_disequationCount) (i := 695) (by decide +kernel) (by decide +kernel), by decide +kernel, TX9, 13, rfl⟩
theorem lL_47 : LkV "SliceSolverLaw" 47 mX9_sliceCount 1 9 := ⟨TB_of (w := Cond.methodLink "SliceSolverLaw" 47 yX9_sliceCount) (i := 697) (by decide +kernel) (by decide +kernel), TB_of (w := Cond.instanceMethod yX9_sliceCount) (i := 698) (by decide +kernel) (by decide +kernel), TB_of (w := Cond.selects RX9 yX9_sliceCount yX9_sliceCount) (i := 699) (by decide +kernel) (by decide +kernel), by decide +kernel, TX9, 13, rfl⟩
theorem lX9_139 : LkV RX9 139 mX9_slicesOf 1 9 := ⟨TB_of (w := Cond.methodLink RX9 139 yX9_slicesOf) (i := 701) (by decide +kernel) (by decide +kernel), TB_of (w := Cond.instanceMethod yX9_slicesOf) (i := 703) (by decide +kernel) (by decide +kernel), TB_of (w := Cond.selects RX9 yX9_slicesOf yX9_slicesOf) (i := 19) (by decide +kernel) (by decide +kernel), by decide +kernel, TX9, 13, rfl⟩
theorem lX9_213 : LkV RX9 213 mX1_countOf 1 1 := ⟨TB_of (w := Cond.methodLink RX9 213 yX1_countOf) (i := 705) (by decide +kernel) (by decide +kernel), TB_of (w := Cond.instanceMethod yX1_countOf) (i := 706) (by decide +kernel) (by decide +kernel), TB_of (w := Cond.selects RX1 yX1_countOf yX1_countOf) (i := 707) (by decide +kernel) (by decide +kernel), by decide +kernel, TX1, 1, rfl⟩
theorem lX1_15 : LkS RX1 15 mJ6_bitCount_0f7a4 1 := ⟨TB_of (w := Cond.methodLink RX1 15 yJ6_bitCount_0f7a4) (i := 709) (by decide +kernel) (by decide +kernel), TB_of (w := Cond.static yJ6_bitCount_0f7a4) (i := 710) (by decide +kernel) (by decide +kernel), by decide +kernel⟩
theorem lL_51 : LkV "SliceSolverLaw" 51 mX9_sliceStart 2 9 := ⟨TB_of (w := Cond.methodLink "SliceSolverLaw" 51 yX9_sliceStart) (i := 715) (by decide +kernel) (by decide +kernel), TB_of (w := Cond.instanceMethod yX9_sliceStart) (i := 716) (by decide +kernel) (by decide +kernel), TB_of (w := Cond.selects RX9 yX9_sliceStart yX9_sliceStart) (i := 717) (by decide +kernel) (by decide +kernel), by decide +kernel, TX9, 13, rfl⟩
theorem lX9_142 : LkV RX9 142 mX9_isSlice 2 9 := ⟨TB_of (w := Cond.methodLink RX9 142 yX9_isSlice) (i := 719) (by decide +kernel) (by decide +kernel), TB_of (w := Cond.instanceMethod yX9_isSlice) (i := 721) (by decide +kernel) (by decide +kernel), TB_of (w := Cond.selects RX9 yX9_isSlice yX9_isSlice) (i := 20) (by decide +kernel) (by decide +kernel), by decide +kernel, TX9, 13, rfl⟩
theorem lX9_146 : LkV RX9 146 mX1_startOf 2 1 := ⟨TB_of (w := Cond.methodLink RX9 146 yX1_startOf) (i := 723) (by decide +kernel) (by decide +kernel), TB_of (w := Cond.instanceMethod yX1_startOf) (i := 724) (by decide +kernel) (by decide +kernel), TB_of (w := Cond.selects RX1 yX1_startOf yX1_startOf) (i := 725) (by decide +kernel) (by decide +kernel), by decide +kernel, TX1, 1, rfl⟩
theorem lL_56 : LkV "SliceSolverLaw" 56 mX9_sliceWidth 2 9 := ⟨TB_of (w := Cond.methodLink "SliceSolverLaw" 56 yX9_sliceWidth) (i := 727) (by decide +kernel) (by decide +kernel), TB_of (w := Cond.instanceMethod yX9_sliceWidth) (i := 728) (by decide +kernel) (by decide +kernel), TB_of (w := Cond.selects RX9 yX9_sliceWidth yX9_sliceWidth) (i := 729) (by decide +kernel) (by decide +kernel), by decide +kernel, TX9, 13, rfl⟩
theorem lL_60 : LkV "SliceSolverLaw" 60 mX9_representative 2 9 := ⟨TB_of (w := Cond.methodLink "SliceSolverLaw" 60 yX9_representative) (i := 731) (by decide +kernel) (by decide +kernel), TB_of (w := Cond.instanceMethod yX9_representative) (i := 732) (by decide +kernel) (by decide +kernel), TB_of (w := Cond.selects RX9 yX9_representative yX9_representative) (i := 733) (by decide +kernel) (by decide +kernel), by decide +kernel, TX9, 13, rfl⟩
theorem lX9_150 : LkS RX9 150 mX9_nodeOf 2 := ⟨TB_of (w := Cond.methodLink RX9 150 yX9_nodeOf) (i := 735) (by decide +kernel) (by decide +kernel), TB_of (w := Cond.static yX9_nodeOf) (i := 516) (by decide +kernel) (by decide +kernel), by decide +kernel⟩
theorem lX9_153 : LkV RX9 153 mX0_rootOf 1 0 := ⟨TB_of (w := Cond.methodLink RX9 153 yX0_rootOf) (i := 736) (by decide +kernel) (by decide +kernel), TB_of (w := Cond.instanceMethod yX0_rootOf) (i := 651) (by decide +kernel) (by decide +kernel), TB_of (w := Cond.selects RX0 yX0_rootOf yX0_rootOf) (i := 652) (by decide +kernel) (by decide +kernel), by decide +kernel, TX0, 3, rfl⟩
theorem lX9_156 : LkS RX9 156 mX9_variableOf 1 := ⟨TB_of (w := Cond.methodLink RX9 156 yX9_variableOf) (i := 737) (by decide +kernel) (by decide +kernel), TB_of (w := Cond.static yX9_variableOf) (i := 615) (by decide +kernel) (by decide +kernel), by decide +kernel⟩
theorem lX9_159 : LkS RX9 159 mX9_bitOf 1 := ⟨TB_of (w := Cond.methodLink RX9 159 yX9_bitOf) (i := 738) (by decide +kernel) (by decide +kernel), TB_of (w := Cond.static yX9_bitOf) (i := 618) (by decide +kernel) (by decide +kernel), by decide +kernel⟩
theorem lX9_162 : LkV RX9 162 mX1_sliceAt 2 1 := ⟨TB_of (w := Cond.methodLink RX9 162 yX1_sliceAt) (i := 739) (by decide +kernel) (by decide +kernel), TB_of (w := Cond.instanceMethod yX1_sliceAt) (i := 740) (by decide +kernel) (by decide +kernel), TB_of (w := Cond.selects RX1 yX1_sliceAt yX1_sliceAt) (i := 741) (by decide +kernel) (by decide +kernel), by decide +kernel, TX1, 1, rfl⟩
theorem lL_64 : LkV "SliceSolverLaw" 64 mX9_classCount 0 9 := ⟨TB_of (w := Cond.methodLink "SliceSolverLaw" 64 yX9_classCount) (i := 743) (by decide +kernel) (by decide +kernel), TB_of (w := Cond.instanceMethod yX9_classCount) (i := 744) (by decide +kernel) (by decide +kernel), TB_of (w := Cond.selects RX9 yX9_classCount yX9_classCount) (i := 745) (by decide +kernel) (by decide +kernel), by decide +kernel, TX9, 13, rfl⟩
theorem lL_68 : LkV "SliceSolverLaw" 68 mX9_isConsistent 0 9 := ⟨TB_of (w := Cond.methodLink "SliceSolverLaw" 68 yX9_isConsistent) (i := 747) (by decide +kernel) (by decide +kernel), TB_of (w := Cond.instanceMethod yX9_isConsistent) (i := 748) (by decide +kernel) (by decide +kernel), TB_of (w := Cond.selects RX9 yX9_isConsistent yX9_isConsistent) (i := 749) (by decide +kernel) (by decide +kernel), by decide +kernel, TX9, 13, rfl⟩
theorem lX9_165 : LkV RX9 165 mX0_agree 0 0 := ⟨TB_of (w := Cond.methodLink RX9 165 yX0_agree) (i := 751) (by decide +kernel) (by decide +kernel), TB_of (w := Cond.instanceMethod yX0_agree) (i := 752) (by decide +kernel) (by decide +kernel), TB_of (w := Cond.selects RX0 yX0_agree yX0_agree) (i := 753) (by decide +kernel) (by decide +kernel), by decide +kernel, TX0, 3, rfl⟩
theorem lL_72 : LkV "SliceSolverLaw" 72 mX9_firstConflict 0 9 := ⟨TB_of (w := Cond.methodLink "SliceSolverLaw" 72 yX9_firstConflict) (i := 755) (by decide +kernel) (by decide +kernel), TB_of (w := Cond.instanceMethod yX9_firstConflict) (i := 756) (by decide +kernel) (by decide +kernel), TB_of (w := Cond.selects RX9 yX9_firstConflict yX9_firstConflict) (i := 757) (by decide +kernel) (by decide +kernel), by decide +kernel, TX9, 13, rfl⟩
theorem lL_76 : LkV "SliceSolverLaw" 76 mX9_conflictSet 0 9 := ⟨TB_of (w := Cond.methodLink "SliceSolverLaw" 76 yX9_conflictSet) (i := 759) (by decide +kernel) (by decide +kernel), TB_of (w := Cond.instanceMethod yX9_conflictSet) (i := 760) (by decide +kernel) (by decide +kernel), TB_of (w := Cond.selects RX9 yX9_conflictSet yX9_conflictSet) (i := 761) (by decide +kernel) (by decide +kernel), by decide +kernel, TX9, 13, rfl⟩
theorem lX9_173 : LkV RX9 173 mX9_tryEquations 1 9 := ⟨TB_of (w := Cond.methodLink RX9 173 yX9_tryEquations) (i := 763) (by decide +kernel) (by decide +kernel), TB_of (w := Cond.instanceMethod yX9_tryEquations) (i := 765) (by decide +kernel) (by decide +kernel), TB_of (w := Cond.selects RX9 yX9_tryEquations yX9_tryEquations) (i := 21) (by decide +kernel) (by decide +kernel), by decide +kernel, TX9, 13, rfl⟩
theorem lL_80 : LkV "SliceSolverLaw" 80 mX9_fixedBit 2 9 := ⟨TB_of (w := Cond.methodLink "SliceSolverLaw" 80 yX9_fixedBit) (i := 767) (by decide +kernel) (by decide +kernel), TB_of (w := Cond.instanceMethod yX9_fixedBit) (i := 768) (by decide +kernel) (by decide +kernel), TB_of (w := Cond.selects RX9 yX9_fixedBit yX9_fixedBit) (i := 769) (by decide +kernel) (by decide +kernel), by decide +kernel, TX9, 13, rfl⟩
theorem lX9_176 : LkV RX9 176 mX9_isBit 2 9 := ⟨TB_of (w := Cond.methodLink RX9 176 yX9_isBit) (i := 771) (by decide +kernel) (by decide +kernel), TB_of (w := Cond.instanceMethod yX9_isBit) (i := 773) (by decide +kernel) (by decide +kernel), TB_of (w := Cond.selects RX9 yX9_isBit yX9_isBit) (i := 22) (by decide +kernel) (by decide +kernel), by decide +kernel, TX9, 13, rfl⟩
theorem lX9_179 : LkV RX9 179 mX0_constantOf 1 0 := ⟨TB_of (w := Cond.methodLink RX9 179 yX0_constantOf) (i := 775) (by decide +kernel) (by decide +kernel), TB_of (w := Cond.instanceMethod yX0_constantOf) (i := 776) (by decide +kernel) (by decide +kernel), TB_of (w := Cond.selects RX0 yX0_constantOf yX0_constantOf) (i := 777) (by decide +kernel) (by decide +kernel), by decide +kernel, TX0, 3, rfl⟩
theorem lL_84 : LkV "SliceSolverLaw" 84 mX9_compareBits 4 9 := ⟨TB_of (w := Cond.methodLink "SliceSolverLaw" 84 yX9_compareBits) (i := 779) (by decide +kernel) (by decide +kernel), TB_of (w := Cond.instanceMethod yX9_compareBits) (i := 780) (by decide +kernel) (by decide +kernel), TB_of (w := Cond.selects RX9 yX9_compareBits yX9_compareBits) (i := 781) (by decide +kernel) (by decide +kernel), by decide +kernel, TX9, 13, rfl⟩
theorem lL_89 : LkV "SliceSolverLaw" 89 mX9_freeBits 0 9 := ⟨TB_of (w := Cond.methodLink "SliceSolverLaw" 89 yX9_freeBits) (i := 783) (by decide +kernel) (by decide +kernel), TB_of (w := Cond.instanceMethod yX9_freeBits) (i := 784) (by decide +kernel) (by decide +kernel), TB_of (w := Cond.selects RX9 yX9_freeBits yX9_freeBits) (i := 785) (by decide +kernel) (by decide +kernel), by decide +kernel, TX9, 13, rfl⟩
theorem lL_93 : LkV "SliceSolverLaw" 93 mX9_isSatisfiable 0 9 := ⟨TB_of (w := Cond.methodLink "SliceSolverLaw" 93 yX9_isSatisfiable) (i := 787) (by decide +kernel) (by decide +kernel), TB_of (w := Cond.instanceMethod yX9_isSatisfiable) (i := 788) (by decide +kernel) (by decide +kernel), TB_of (w := Cond.selects RX9 yX9_isSatisfiable yX9_isSatisfiable) (i := 789) (by decide +kernel) (by decide +kernel), by decide +kernel, TX9, 13, rfl⟩
theorem lX9_182 : LkV RX9 182 mX9_chosenModel 0 9 := ⟨TB_of (w := Cond.methodLink RX9 182 yX9_chosenModel) (i := 791) (by decide +kernel) (by decide +kernel), TB_of (w := Cond.instanceMethod yX9_chosenModel) (i := 793) (by decide +kernel) (by decide +kernel), TB_of (w := Cond.selects RX9 yX9_chosenModel yX9_chosenModel) (i := 23) (by decide +kernel) (by decide +kernel), by decide +kernel, TX9, 13, rfl⟩
theorem lX9_209 : LkV RX9 209 mX3_choose 2 3 := ⟨TB_of (w := Cond.methodLink RX9 209 yX3_choose) (i := 795) (by decide +kernel) (by decide +kernel), TB_of (w := Cond.instanceMethod yX3_choose) (i := 796) (by decide +kernel) (by decide +kernel), TB_of (w := Cond.selects RX3 yX3_choose yX3_choose) (i := 797) (by decide +kernel) (by decide +kernel), by decide +kernel, TX3, 5, rfl⟩
theorem lX3_26 : LkV RX3 26 mX0_agree 0 0 := ⟨TB_of (w := Cond.methodLink RX3 26 yX0_agree) (i := 799) (by decide +kernel) (by decide +kernel), TB_of (w := Cond.instanceMethod yX0_agree) (i := 752) (by decide +kernel) (by decide +kernel), TB_of (w := Cond.selects RX0 yX0_agree yX0_agree) (i := 753) (by decide +kernel) (by decide +kernel), by decide +kernel, TX0, 3, rfl⟩
theorem lX3_32 : LkV RX3 32 mX3_wordOfZeros 2 3 := ⟨TB_of (w := Cond.methodLink RX3 32 yX3_wordOfZeros) (i := 800) (by decide +kernel) (by decide +kernel), TB_of (w := Cond.instanceMethod yX3_wordOfZeros) (i := 802) (by decide +kernel) (by decide +kernel), TB_of (w := Cond.selects RX3 yX3_wordOfZeros yX3_wordOfZeros) (i := 24) (by decide +kernel) (by decide +kernel), by decide +kernel, TX3, 5, rfl⟩
theorem lX3_53 : LkS RX3 53 mJ7_fill_d0a16 2 := ⟨TB_of (w := Cond.methodLink RX3 53 yJ7_fill_d0a16) (i := 804) (by decide +kernel) (by decide +kernel), TB_of (w := Cond.static yJ7_fill_d0a16) (i := 805) (by decide +kernel) (by decide +kernel), by decide +kernel⟩
theorem lX3_59 : LkV RX3 59 mX6_has 1 6 := ⟨TB_of (w := Cond.methodLink RX3 59 yX6_has) (i := 807) (by decide +kernel) (by decide +kernel), TB_of (w := Cond.instanceMethod yX6_has) (i := 600) (by decide +kernel) (by decide +kernel), TB_of (w := Cond.selects RX6 yX6_has yX6_has) (i := 601) (by decide +kernel) (by decide +kernel), by decide +kernel, TX6, 5, rfl⟩
theorem lX3_65 : LkV RX3 65 mX6_widthOf 1 6 := ⟨TB_of (w := Cond.methodLink RX3 65 yX6_widthOf) (i := 808) (by decide +kernel) (by decide +kernel), TB_of (w := Cond.instanceMethod yX6_widthOf) (i := 596) (by decide +kernel) (by decide +kernel), TB_of (w := Cond.selects RX6 yX6_widthOf yX6_widthOf) (i := 597) (by decide +kernel) (by decide +kernel), by decide +kernel, TX6, 5, rfl⟩
theorem lX3_69 : LkV RX3 69 mX6_node 3 6 := ⟨TB_of (w := Cond.methodLink RX3 69 yX6_node) (i := 809) (by decide +kernel) (by decide +kernel), TB_of (w := Cond.instanceMethod yX6_node) (i := 604) (by decide +kernel) (by decide +kernel), TB_of (w := Cond.selects RX6 yX6_node yX6_node) (i := 605) (by decide +kernel) (by decide +kernel), by decide +kernel, TX6, 5, rfl⟩
theorem lX3_73 : LkV RX3 73 mX3_constantPlace 3 3 := ⟨TB_of (w := Cond.methodLink RX3 73 yX3_constantPlace) (i := 810) (by decide +kernel) (by decide +kernel), TB_of (w := Cond.instanceMethod yX3_constantPlace) (i := 812) (by decide +kernel) (by decide +kernel), TB_of (w := Cond.selects RX3 yX3_constantPlace yX3_constantPlace) (i := 25) (by decide +kernel) (by decide +kernel), by decide +kernel, TX3, 5, rfl⟩
theorem lX3_77 : LkV RX3 77 mX0_constantOf 1 0 := ⟨TB_of (w := Cond.methodLink RX3 77 yX0_constantOf) (i := 814) (by decide +kernel) (by decide +kernel), TB_of (w := Cond.instanceMethod yX0_constantOf) (i := 776) (by decide +kernel) (by decide +kernel), TB_of (w := Cond.selects RX0 yX0_constantOf yX0_constantOf) (i := 777) (by decide +kernel) (by decide +kernel), by decide +kernel, TX0, 3, rfl⟩
theorem lX3_80 : LkV RX3 80 mX0_rootOf 1 0 := ⟨TB_of (w := Cond.methodLink RX3 80 yX0_rootOf) (i := 815) (by decide +kernel) (by decide +kernel), TB_of (w := Cond.instanceMethod yX0_rootOf) (i := 651) (by decide +kernel) (by decide +kernel), TB_of (w := Cond.selects RX0 yX0_rootOf yX0_rootOf) (i := 652) (by decide +kernel) (by decide +kernel), by decide +kernel, TX0, 3, rfl⟩
theorem lX3_36 : LkV RX3 36 mX3_gatherCandidates 0 3 := ⟨TB_of (w := Cond.methodLink RX3 36 yX3_gatherCandidates) (i := 816) (by decide +kernel) (by decide +kernel), TB_of (w := Cond.instanceMethod yX3_gatherCandidates) (i := 818) (by decide +kernel) (by decide +kernel), TB_of (w := Cond.selects RX3 yX3_gatherCandidates yX3_gatherCandidates) (i := 26) (by decide +kernel) (by decide +kernel), by decide +kernel, TX3, 5, rfl⟩
theorem lX3_39 : LkS RX3 39 mX3_holds 1 := ⟨TB_of (w := Cond.methodLink RX3 39 yX3_holds) (i := 820) (by decide +kernel) (by decide +kernel), TB_of (w := Cond.static yX3_holds) (i := 821) (by decide +kernel) (by decide +kernel), by decide +kernel⟩
theorem lX3_43 : LkV RX3 43 mX3_pickLast 3 3 := ⟨TB_of (w := Cond.methodLink RX3 43 yX3_pickLast) (i := 826) (by decide +kernel) (by decide +kernel), TB_of (w := Cond.instanceMethod yX3_pickLast) (i := 828) (by decide +kernel) (by decide +kernel), TB_of (w := Cond.selects RX3 yX3_pickLast yX3_pickLast) (i := 27) (by decide +kernel) (by decide +kernel), by decide +kernel, TX3, 5, rfl⟩
theorem lX3_47 : LkV RX3 47 mX3_pickLastTwo 3 3 := ⟨TB_of (w := Cond.methodLink RX3 47 yX3_pickLastTwo) (i := 830) (by decide +kernel) (by decide +kernel), TB_of (w := Cond.instanceMethod yX3_pickLastTwo) (i := 832) (by decide +kernel) (by decide +kernel), TB_of (w := Cond.selects RX3 yX3_pickLastTwo yX3_pickLastTwo) (i := 28) (by decide +kernel) (by decide +kernel), by decide +kernel, TX3, 5, rfl⟩
theorem lX3_50 : LkV RX3 50 mX3_pickThree 1 3 := ⟨TB_of (w := Cond.methodLink RX3 50 yX3_pickThree) (i := 834) (by decide +kernel) (by decide +kernel), TB_of (w := Cond.instanceMethod yX3_pickThree) (i := 836) (by decide +kernel) (by decide +kernel), TB_of (w := Cond.selects RX3 yX3_pickThree yX3_pickThree) (i := 29) (by decide +kernel) (by decide +kernel), by decide +kernel, TX3, 5, rfl⟩
theorem lX9_186 : LkV RX9 186 mX3_oneCount 0 3 := ⟨TB_of (w := Cond.methodLink RX9 186 yX3_oneCount) (i := 838) (by decide +kernel) (by decide +kernel), TB_of (w := Cond.instanceMethod yX3_oneCount) (i := 839) (by decide +kernel) (by decide +kernel), TB_of (w := Cond.selects RX3 yX3_oneCount yX3_oneCount) (i := 840) (by decide +kernel) (by decide +kernel), by decide +kernel, TX3, 5, rfl⟩
theorem lL_97 : LkV "SliceSolverLaw" 97 mX9_oneBits 0 9 := ⟨TB_of (w := Cond.methodLink "SliceSolverLaw" 97 yX9_oneBits) (i := 842) (by decide +kernel) (by decide +kernel), TB_of (w := Cond.instanceMethod yX9_oneBits) (i := 843) (by decide +kernel) (by decide +kernel), TB_of (w := Cond.selects RX9 yX9_oneBits yX9_oneBits) (i := 844) (by decide +kernel) (by decide +kernel), by decide +kernel, TX9, 13, rfl⟩
theorem lL_101 : LkV "SliceSolverLaw" 101 mX9_value 1 9 := ⟨TB_of (w := Cond.methodLink "SliceSolverLaw" 101 yX9_value) (i := 846) (by decide +kernel) (by decide +kernel), TB_of (w := Cond.instanceMethod yX9_value) (i := 847) (by decide +kernel) (by decide +kernel), TB_of (w := Cond.selects RX9 yX9_value yX9_value) (i := 848) (by decide +kernel) (by decide +kernel), by decide +kernel, TX9, 13, rfl⟩
theorem lX9_189 : LkV RX9 189 mX3_hasOne 1 3 := ⟨TB_of (w := Cond.methodLink RX9 189 yX3_hasOne) (i := 850) (by decide +kernel) (by decide +kernel), TB_of (w := Cond.instanceMethod yX3_hasOne) (i := 851) (by decide +kernel) (by decide +kernel), TB_of (w := Cond.selects RX3 yX3_hasOne yX3_hasOne) (i := 852) (by decide +kernel) (by decide +kernel), by decide +kernel, TX3, 5, rfl⟩
theorem lL_105 : LkV "SliceSolverLaw" 105 mX9_isImplied 1 9 := ⟨TB_of (w := Cond.methodLink "SliceSolverLaw" 105 yX9_isImplied) (i := 854) (by decide +kernel) (by decide +kernel), TB_of (w := Cond.instanceMethod yX9_isImplied) (i := 855) (by decide +kernel) (by decide +kernel), TB_of (w := Cond.selects RX9 yX9_isImplied yX9_isImplied) (i := 856) (by decide +kernel) (by decide +kernel), by decide +kernel, TX9, 13, rfl⟩
theorem lL_109 : LkV "SliceSolverLaw" 109 mX9_undo 0 9 := ⟨TB_of (w := Cond.methodLink "SliceSolverLaw" 109 yX9_undo) (i := 858) (by decide +kernel) (by decide +kernel), TB_of (w := Cond.instanceMethod yX9_undo) (i := 859) (by decide +kernel) (by decide +kernel), TB_of (w := Cond.selects RX9 yX9_undo yX9_undo) (i := 860) (by decide +kernel) (by decide +kernel), by decide +kernel, TX9, 13, rfl⟩
theorem lX9_192 : LkV RX9 192 mX2_depth 0 2 := ⟨TB_of (w := Cond.methodLink RX9 192 yX2_depth) (i := 862) (by decide +kernel) (by decide +kernel), TB_of (w := Cond.instanceMethod yX2_depth) (i := 863) (by decide +kernel) (by decide +kernel), TB_of (w := Cond.selects RX2 yX2_depth yX2_depth) (i := 864) (by decide +kernel) (by decide +kernel), by decide +kernel, TX2, 2, rfl⟩
theorem lX9_195 : LkV RX9 195 mX2_popInto 1 2 := ⟨TB_of (w := Cond.methodLink RX9 195 yX2_popInto) (i := 866) (by decide +kernel) (by decide +kernel), TB_of (w := Cond.instanceMethod yX2_popInto) (i := 867) (by decide +kernel) (by decide +kernel), TB_of (w := Cond.selects RX2 yX2_popInto yX2_popInto) (i := 868) (by decide +kernel) (by decide +kernel), by decide +kernel, TX2, 2, rfl⟩
theorem lL_113 : LkV "SliceSolverLaw" 113 mX9_undoDepth 0 9 := ⟨TB_of (w := Cond.methodLink "SliceSolverLaw" 113 yX9_undoDepth) (i := 870) (by decide +kernel) (by decide +kernel), TB_of (w := Cond.instanceMethod yX9_undoDepth) (i := 871) (by decide +kernel) (by decide +kernel), TB_of (w := Cond.selects RX9 yX9_undoDepth yX9_undoDepth) (i := 872) (by decide +kernel) (by decide +kernel), by decide +kernel, TX9, 13, rfl⟩
theorem lL_117 : LkV "SliceSolverLaw" 117 mX9_save 1 9 := ⟨TB_of (w := Cond.methodLink "SliceSolverLaw" 117 yX9_save) (i := 874) (by decide +kernel) (by decide +kernel), TB_of (w := Cond.instanceMethod yX9_save) (i := 875) (by decide +kernel) (by decide +kernel), TB_of (w := Cond.selects RX9 yX9_save yX9_save) (i := 876) (by decide +kernel) (by decide +kernel), by decide +kernel, TX9, 13, rfl⟩
theorem lX9_198 : LkS RX9 198 mX9_isSlot 1 := ⟨TB_of (w := Cond.methodLink RX9 198 yX9_isSlot) (i := 878) (by decide +kernel) (by decide +kernel), TB_of (w := Cond.static yX9_isSlot) (i := 879) (by decide +kernel) (by decide +kernel), by decide +kernel⟩
theorem lX9_201 : LkV RX9 201 mX9_snapshot 1 9 := ⟨TB_of (w := Cond.methodLink RX9 201 yX9_snapshot) (i := 881) (by decide +kernel) (by decide +kernel), TB_of (w := Cond.instanceMethod yX9_snapshot) (i := 883) (by decide +kernel) (by decide +kernel), TB_of (w := Cond.selects RX9 yX9_snapshot yX9_snapshot) (i := 30) (by decide +kernel) (by decide +kernel), by decide +kernel, TX9, 13, rfl⟩
theorem lL_121 : LkV "SliceSolverLaw" 121 mX9_restore 1 9 := ⟨TB_of (w := Cond.methodLink "SliceSolverLaw" 121 yX9_restore) (i := 885) (by decide +kernel) (by decide +kernel), TB_of (w := Cond.instanceMethod yX9_restore) (i := 886) (by decide +kernel) (by decide +kernel), TB_of (w := Cond.selects RX9 yX9_restore yX9_restore) (i := 887) (by decide +kernel) (by decide +kernel), by decide +kernel, TX9, 13, rfl⟩
theorem lX9_205 : LkV RX9 205 mX2_clear 0 2 := ⟨TB_of (w := Cond.methodLink RX9 205 yX2_clear) (i := 889) (by decide +kernel) (by decide +kernel), TB_of (w := Cond.instanceMethod yX2_clear) (i := 890) (by decide +kernel) (by decide +kernel), TB_of (w := Cond.selects RX2 yX2_clear yX2_clear) (i := 891) (by decide +kernel) (by decide +kernel), by decide +kernel, TX2, 2, rfl⟩
theorem lL_12 : LkI "SliceSolverLaw" 12 mX10_init 0 := ⟨TB_of (w := Cond.methodLink "SliceSolverLaw" 12 yX10_init) (i := 895) (by decide +kernel) (by decide +kernel), TB_of (w := Cond.instanceMethod yX10_init) (i := 896) (by decide +kernel) (by decide +kernel), rfl, by decide +kernel⟩
theorem lL_17 : LkV "SliceSolverLaw" 17 mX10_append 1 10 := ⟨TB_of (w := Cond.methodLink "SliceSolverLaw" 17 yX10_append) (i := 979) (by decide +kernel) (by decide +kernel), TB_of (w := Cond.instanceMethod yX10_append) (i := 980) (by decide +kernel) (by decide +kernel), TB_of (w := Cond.selects RX10 yX10_append yX10_append) (i := 981) (by decide +kernel) (by decide +kernel), by decide +kernel, TX10, 26, rfl⟩
theorem lX10_60 : LkS RX10 60 mX10_in 3 := ⟨TB_of (w := Cond.methodLink RX10 60 yX10_in) (i := 983) (by decide +kernel) (by decide +kernel), TB_of (w := Cond.static yX10_in) (i := 984) (by decide +kernel) (by decide +kernel), by decide +kernel⟩
theorem lL_22 : LkV "SliceSolverLaw" 22 mX10_clearText 0 10 := ⟨TB_of (w := Cond.methodLink "SliceSolverLaw" 22 yX10_clearText) (i := 986) (by decide +kernel) (by decide +kernel), TB_of (w := Cond.instanceMethod yX10_clearText) (i := 987) (by decide +kernel) (by decide +kernel), TB_of (w := Cond.selects RX10 yX10_clearText yX10_clearText) (i := 988) (by decide +kernel) (by decide +kernel), by decide +kernel, TX10, 26, rfl⟩
theorem lL_26 : LkV "SliceSolverLaw" 26 mX10_load 0 10 := ⟨TB_of (w := Cond.methodLink "SliceSolverLaw" 26 yX10_load) (i := 990) (by decide +kernel) (by decide +kernel), TB_of (w := Cond.instanceMethod yX10_load) (i := 991) (by decide +kernel) (by decide +kernel), TB_of (w := Cond.selects RX10 yX10_load yX10_load) (i := 992) (by decide +kernel) (by decide +kernel), by decide +kernel, TX10, 26, rfl⟩
theorem lX10_89 : LkV RX10 89 mX10_advance 0 10 := ⟨TB_of (w := Cond.methodLink RX10 89 yX10_advance) (i := 994) (by decide +kernel) (by decide +kernel), TB_of (w := Cond.instanceMethod yX10_advance) (i := 996) (by decide +kernel) (by decide +kernel), TB_of (w := Cond.selects RX10 yX10_advance yX10_advance) (i := 31) (by decide +kernel) (by decide +kernel), by decide +kernel, TX10, 26, rfl⟩
theorem lX10_64 : LkV RX10 64 mX10_characterAt 1 10 := ⟨TB_of (w := Cond.methodLink RX10 64 yX10_characterAt) (i := 998) (by decide +kernel) (by decide +kernel), TB_of (w := Cond.instanceMethod yX10_characterAt) (i := 1000) (by decide +kernel) (by decide +kernel), TB_of (w := Cond.selects RX10 yX10_characterAt yX10_characterAt) (i := 32) (by decide +kernel) (by decide +kernel), by decide +kernel, TX10, 26, rfl⟩
theorem lX10_74 : LkV RX10 74 mX10_wordOf 0 10 := ⟨TB_of (w := Cond.methodLink RX10 74 yX10_wordOf) (i := 1002) (by decide +kernel) (by decide +kernel), TB_of (w := Cond.instanceMethod yX10_wordOf) (i := 1004) (by decide +kernel) (by decide +kernel), TB_of (w := Cond.selects RX10 yX10_wordOf yX10_wordOf) (i := 33) (by decide +kernel) (by decide +kernel), by decide +kernel, TX10, 26, rfl⟩
theorem lX10_78 : LkS RX10 78 mX10_isSignCharacter 1 := ⟨TB_of (w := Cond.methodLink RX10 78 yX10_isSignCharacter) (i := 1006) (by decide +kernel) (by decide +kernel), TB_of (w := Cond.static yX10_isSignCharacter) (i := 1007) (by decide +kernel) (by decide +kernel), by decide +kernel⟩
theorem lX10_85 : LkV RX10 85 mX10_isFine 0 10 := ⟨TB_of (w := Cond.methodLink RX10 85 yX10_isFine) (i := 1009) (by decide +kernel) (by decide +kernel), TB_of (w := Cond.instanceMethod yX10_isFine) (i := 1011) (by decide +kernel) (by decide +kernel), TB_of (w := Cond.selects RX10 yX10_isFine yX10_isFine) (i := 34) (by decide +kernel) (by decide +kernel), by decide +kernel, TX10, 26, rfl⟩
theorem lX10_138 : LkV RX10 138 mX10_readItem 0 10 := ⟨TB_of (w := Cond.methodLink RX10 138 yX10_readItem) (i := 1013) (by decide +kernel) (by decide +kernel), TB_of (w := Cond.instanceMethod yX10_readItem) (i := 1015) (by decide +kernel) (by decide +kernel), TB_of (w := Cond.selects RX10 yX10_readItem yX10_readItem) (i := 35) (by decide +kernel) (by decide +kernel), by decide +kernel, TX10, 26, rfl⟩
theorem lX10_131 : LkV RX10 131 mX10_readDeclaration 0 10 := ⟨TB_of (w := Cond.methodLink RX10 131 yX10_readDeclaration) (i := 1017) (by decide +kernel) (by decide +kernel), TB_of (w := Cond.instanceMethod yX10_readDeclaration) (i := 1019) (by decide +kernel) (by decide +kernel), TB_of (w := Cond.selects RX10 yX10_readDeclaration yX10_readDeclaration) (i := 36) (by decide +kernel) (by decide +kernel), by decide +kernel, TX10, 26, rfl⟩
theorem lX10_92 : LkV RX10 92 mX10_take 1 10 := ⟨TB_of (w := Cond.methodLink RX10 92 yX10_take) (i := 1021) (by decide +kernel) (by decide +kernel), TB_of (w := Cond.instanceMethod yX10_take) (i := 1023) (by decide +kernel) (by decide +kernel), TB_of (w := Cond.selects RX10 yX10_take yX10_take) (i := 37) (by decide +kernel) (by decide +kernel), by decide +kernel, TX10, 26, rfl⟩
theorem lX10_102 : LkV RX10 102 mX10_isName 0 10 := ⟨TB_of (w := Cond.methodLink RX10 102 yX10_isName) (i := 1025) (by decide +kernel) (by decide +kernel), TB_of (w := Cond.instanceMethod yX10_isName) (i := 1027) (by decide +kernel) (by decide +kernel), TB_of (w := Cond.selects RX10 yX10_isName yX10_isName) (i := 38) (by decide +kernel) (by decide +kernel), by decide +kernel, TX10, 26, rfl⟩
theorem lX10_108 : LkV RX10 108 mX10_number 2 10 := ⟨TB_of (w := Cond.methodLink RX10 108 yX10_number) (i := 1029) (by decide +kernel) (by decide +kernel), TB_of (w := Cond.instanceMethod yX10_number) (i := 1031) (by decide +kernel) (by decide +kernel), TB_of (w := Cond.selects RX10 yX10_number yX10_number) (i := 39) (by decide +kernel) (by decide +kernel), by decide +kernel, TX10, 26, rfl⟩
theorem lX10_105 : LkV RX10 105 mX10_isSign 1 10 := ⟨TB_of (w := Cond.methodLink RX10 105 yX10_isSign) (i := 1033) (by decide +kernel) (by decide +kernel), TB_of (w := Cond.instanceMethod yX10_isSign) (i := 1035) (by decide +kernel) (by decide +kernel), TB_of (w := Cond.selects RX10 yX10_isSign yX10_isSign) (i := 40) (by decide +kernel) (by decide +kernel), by decide +kernel, TX10, 26, rfl⟩
theorem lX10_134 : LkV RX10 134 mX10_readStatement 1 10 := ⟨TB_of (w := Cond.methodLink RX10 134 yX10_readStatement) (i := 1037) (by decide +kernel) (by decide +kernel), TB_of (w := Cond.instanceMethod yX10_readStatement) (i := 1039) (by decide +kernel) (by decide +kernel), TB_of (w := Cond.selects RX10 yX10_readStatement yX10_readStatement) (i := 41) (by decide +kernel) (by decide +kernel), by decide +kernel, TX10, 26, rfl⟩
theorem lX10_125 : LkV RX10 125 mX10_readTerm 0 10 := ⟨TB_of (w := Cond.methodLink RX10 125 yX10_readTerm) (i := 1041) (by decide +kernel) (by decide +kernel), TB_of (w := Cond.instanceMethod yX10_readTerm) (i := 1043) (by decide +kernel) (by decide +kernel), TB_of (w := Cond.selects RX10 yX10_readTerm yX10_readTerm) (i := 42) (by decide +kernel) (by decide +kernel), by decide +kernel, TX10, 26, rfl⟩
theorem lX10_122 : LkV RX10 122 mX10_readPart 0 10 := ⟨TB_of (w := Cond.methodLink RX10 122 yX10_readPart) (i := 1045) (by decide +kernel) (by decide +kernel), TB_of (w := Cond.instanceMethod yX10_readPart) (i := 1047) (by decide +kernel) (by decide +kernel), TB_of (w := Cond.selects RX10 yX10_readPart yX10_readPart) (i := 43) (by decide +kernel) (by decide +kernel), by decide +kernel, TX10, 26, rfl⟩
theorem lX10_116 : LkV RX10 116 mX10_readConstant 0 10 := ⟨TB_of (w := Cond.methodLink RX10 116 yX10_readConstant) (i := 1049) (by decide +kernel) (by decide +kernel), TB_of (w := Cond.instanceMethod yX10_readConstant) (i := 1051) (by decide +kernel) (by decide +kernel), TB_of (w := Cond.selects RX10 yX10_readConstant yX10_readConstant) (i := 44) (by decide +kernel) (by decide +kernel), by decide +kernel, TX10, 26, rfl⟩
theorem lX10_112 : LkV RX10 112 mX10_addBit 1 10 := ⟨TB_of (w := Cond.methodLink RX10 112 yX10_addBit) (i := 1053) (by decide +kernel) (by decide +kernel), TB_of (w := Cond.instanceMethod yX10_addBit) (i := 1055) (by decide +kernel) (by decide +kernel), TB_of (w := Cond.selects RX10 yX10_addBit yX10_addBit) (i := 45) (by decide +kernel) (by decide +kernel), by decide +kernel, TX10, 26, rfl⟩
theorem lX10_119 : LkV RX10 119 mX10_readRange 0 10 := ⟨TB_of (w := Cond.methodLink RX10 119 yX10_readRange) (i := 1057) (by decide +kernel) (by decide +kernel), TB_of (w := Cond.instanceMethod yX10_readRange) (i := 1059) (by decide +kernel) (by decide +kernel), TB_of (w := Cond.selects RX10 yX10_readRange yX10_readRange) (i := 46) (by decide +kernel) (by decide +kernel), by decide +kernel, TX10, 26, rfl⟩
theorem lX10_128 : LkV RX10 128 mX10_putTerm 1 10 := ⟨TB_of (w := Cond.methodLink RX10 128 yX10_putTerm) (i := 1061) (by decide +kernel) (by decide +kernel), TB_of (w := Cond.instanceMethod yX10_putTerm) (i := 1063) (by decide +kernel) (by decide +kernel), TB_of (w := Cond.selects RX10 yX10_putTerm yX10_putTerm) (i := 47) (by decide +kernel) (by decide +kernel), by decide +kernel, TX10, 26, rfl⟩
theorem lX10_141 : LkV RX10 141 mX10_keep 0 10 := ⟨TB_of (w := Cond.methodLink RX10 141 yX10_keep) (i := 1065) (by decide +kernel) (by decide +kernel), TB_of (w := Cond.instanceMethod yX10_keep) (i := 1067) (by decide +kernel) (by decide +kernel), TB_of (w := Cond.selects RX10 yX10_keep yX10_keep) (i := 48) (by decide +kernel) (by decide +kernel), by decide +kernel, TX10, 26, rfl⟩
theorem lL_30 : LkV "SliceSolverLaw" 30 mX10_removeEquation 1 10 := ⟨TB_of (w := Cond.methodLink "SliceSolverLaw" 30 yX10_removeEquation) (i := 1069) (by decide +kernel) (by decide +kernel), TB_of (w := Cond.instanceMethod yX10_removeEquation) (i := 1070) (by decide +kernel) (by decide +kernel), TB_of (w := Cond.selects RX10 yX10_removeEquation yX10_removeEquation) (i := 1071) (by decide +kernel) (by decide +kernel), by decide +kernel, TX10, 26, rfl⟩
theorem lX10_147 : LkV RX10 147 mX10_removeAt 2 10 := ⟨TB_of (w := Cond.methodLink RX10 147 yX10_removeAt) (i := 1073) (by decide +kernel) (by decide +kernel), TB_of (w := Cond.instanceMethod yX10_removeAt) (i := 1075) (by decide +kernel) (by decide +kernel), TB_of (w := Cond.selects RX10 yX10_removeAt yX10_removeAt) (i := 49) (by decide +kernel) (by decide +kernel), by decide +kernel, TX10, 26, rfl⟩
theorem lL_34 : LkV "SliceSolverLaw" 34 mX10_removeDisequation 1 10 := ⟨TB_of (w := Cond.methodLink "SliceSolverLaw" 34 yX10_removeDisequation) (i := 1077) (by decide +kernel) (by decide +kernel), TB_of (w := Cond.instanceMethod yX10_removeDisequation) (i := 1078) (by decide +kernel) (by decide +kernel), TB_of (w := Cond.selects RX10 yX10_removeDisequation yX10_removeDisequation) (i := 1079) (by decide +kernel) (by decide +kernel), by decide +kernel, TX10, 26, rfl⟩
theorem lL_38 : LkV "SliceSolverLaw" 38 mX10_width 1 10 := ⟨TB_of (w := Cond.methodLink "SliceSolverLaw" 38 yX10_width) (i := 1081) (by decide +kernel) (by decide +kernel), TB_of (w := Cond.instanceMethod yX10_width) (i := 1082) (by decide +kernel) (by decide +kernel), TB_of (w := Cond.selects RX10 yX10_width yX10_width) (i := 1083) (by decide +kernel) (by decide +kernel), by decide +kernel, TX10, 26, rfl⟩
theorem lX10_151 : LkS RX10 151 mX10_isVariable 1 := ⟨TB_of (w := Cond.methodLink RX10 151 yX10_isVariable) (i := 1085) (by decide +kernel) (by decide +kernel), TB_of (w := Cond.static yX10_isVariable) (i := 1086) (by decide +kernel) (by decide +kernel), by decide +kernel⟩
theorem lL_42 : LkV "SliceSolverLaw" 42 mX10_equationCount 0 10 := ⟨TB_of (w := Cond.methodLink "SliceSolverLaw" 42 yX10_equationCount) (i := 1088) (by decide +kernel) (by decide +kernel), TB_of (w := Cond.instanceMethod yX10_equationCount) (i := 1089) (by decide +kernel) (by decide +kernel), TB_of (w := Cond.selects RX10 yX10_equationCount yX10_equationCount) (i := 1090) (by decide +kernel) (by decide +kernel), by decide +kernel, TX10, 26, rfl⟩
theorem lL_46 : LkV "SliceSolverLaw" 46 mX10_disequationCount 0 10 := ⟨TB_of (w := Cond.methodLink "SliceSolverLaw" 46 yX10_disequationCount) (i := 1092) (by decide +kernel) (by decide +kernel), TB_of (w := Cond.instanceMethod yX10_disequationCount) (i := 1093) (by decide +kernel) (by decide +kernel), TB_of (w := Cond.selects RX10 yX10_disequationCount yX10_disequationCount) (i := 1094) (by decide +kernel) (by decide +kernel), by decide +kernel, TX10, 26, rfl⟩
theorem lL_50 : LkV "SliceSolverLaw" 50 mX10_sliceCount 1 10 := ⟨TB_of (w := Cond.methodLink "SliceSolverLaw" 50 yX10_sliceCount) (i := 1096) (by decide +kernel) (by decide +kernel), TB_of (w := Cond.instanceMethod yX10_sliceCount) (i := 1097) (by decide +kernel) (by decide +kernel), TB_of (w := Cond.selects RX10 yX10_sliceCount yX10_sliceCount) (i := 1098) (by decide +kernel) (by decide +kernel), by decide +kernel, TX10, 26, rfl⟩
theorem lX10_188 : LkV RX10 188 mX10_findCuts 0 10 := ⟨TB_of (w := Cond.methodLink RX10 188 yX10_findCuts) (i := 1100) (by decide +kernel) (by decide +kernel), TB_of (w := Cond.instanceMethod yX10_findCuts) (i := 1102) (by decide +kernel) (by decide +kernel), TB_of (w := Cond.selects RX10 yX10_findCuts yX10_findCuts) (i := 50) (by decide +kernel) (by decide +kernel), by decide +kernel, TX10, 26, rfl⟩
theorem lX10_181 : LkV RX10 181 mX10_cutEnds 2 10 := ⟨TB_of (w := Cond.methodLink RX10 181 yX10_cutEnds) (i := 1104) (by decide +kernel) (by decide +kernel), TB_of (w := Cond.instanceMethod yX10_cutEnds) (i := 1106) (by decide +kernel) (by decide +kernel), TB_of (w := Cond.selects RX10 yX10_cutEnds yX10_cutEnds) (i := 51) (by decide +kernel) (by decide +kernel), by decide +kernel, TX10, 26, rfl⟩
theorem lX10_158 : LkV RX10 158 mX10_widthOf 1 10 := ⟨TB_of (w := Cond.methodLink RX10 158 yX10_widthOf) (i := 1108) (by decide +kernel) (by decide +kernel), TB_of (w := Cond.instanceMethod yX10_widthOf) (i := 1110) (by decide +kernel) (by decide +kernel), TB_of (w := Cond.selects RX10 yX10_widthOf yX10_widthOf) (i := 52) (by decide +kernel) (by decide +kernel), by decide +kernel, TX10, 26, rfl⟩
theorem lX10_161 : LkV RX10 161 mX10_bitOf 3 10 := ⟨TB_of (w := Cond.methodLink RX10 161 yX10_bitOf) (i := 1112) (by decide +kernel) (by decide +kernel), TB_of (w := Cond.instanceMethod yX10_bitOf) (i := 1114) (by decide +kernel) (by decide +kernel), TB_of (w := Cond.selects RX10 yX10_bitOf yX10_bitOf) (i := 53) (by decide +kernel) (by decide +kernel), by decide +kernel, TX10, 26, rfl⟩
theorem lX10_165 : LkV RX10 165 mX10_isOfVariable 1 10 := ⟨TB_of (w := Cond.methodLink RX10 165 yX10_isOfVariable) (i := 1116) (by decide +kernel) (by decide +kernel), TB_of (w := Cond.instanceMethod yX10_isOfVariable) (i := 1118) (by decide +kernel) (by decide +kernel), TB_of (w := Cond.selects RX10 yX10_isOfVariable yX10_isOfVariable) (i := 54) (by decide +kernel) (by decide +kernel), by decide +kernel, TX10, 26, rfl⟩
theorem lX10_168 : LkS RX10 168 mX10_variableBit 1 := ⟨TB_of (w := Cond.methodLink RX10 168 yX10_variableBit) (i := 1120) (by decide +kernel) (by decide +kernel), TB_of (w := Cond.static yX10_variableBit) (i := 1121) (by decide +kernel) (by decide +kernel), by decide +kernel⟩
theorem lX10_171 : LkS RX10 171 mX10_areOfOnePart 2 := ⟨TB_of (w := Cond.methodLink RX10 171 yX10_areOfOnePart) (i := 1123) (by decide +kernel) (by decide +kernel), TB_of (w := Cond.static yX10_areOfOnePart) (i := 1124) (by decide +kernel) (by decide +kernel), by decide +kernel⟩
theorem lX10_175 : LkV RX10 175 mX10_addCut 1 10 := ⟨TB_of (w := Cond.methodLink RX10 175 yX10_addCut) (i := 1126) (by decide +kernel) (by decide +kernel), TB_of (w := Cond.instanceMethod yX10_addCut) (i := 1128) (by decide +kernel) (by decide +kernel), TB_of (w := Cond.selects RX10 yX10_addCut yX10_addCut) (i := 55) (by decide +kernel) (by decide +kernel), by decide +kernel, TX10, 26, rfl⟩
theorem lX10_184 : LkV RX10 184 mX10_carry 3 10 := ⟨TB_of (w := Cond.methodLink RX10 184 yX10_carry) (i := 1130) (by decide +kernel) (by decide +kernel), TB_of (w := Cond.instanceMethod yX10_carry) (i := 1132) (by decide +kernel) (by decide +kernel), TB_of (w := Cond.selects RX10 yX10_carry yX10_carry) (i := 56) (by decide +kernel) (by decide +kernel), by decide +kernel, TX10, 26, rfl⟩
theorem lX10_178 : LkV RX10 178 mX10_isMarked 3 10 := ⟨TB_of (w := Cond.methodLink RX10 178 yX10_isMarked) (i := 1134) (by decide +kernel) (by decide +kernel), TB_of (w := Cond.instanceMethod yX10_isMarked) (i := 1136) (by decide +kernel) (by decide +kernel), TB_of (w := Cond.selects RX10 yX10_isMarked yX10_isMarked) (i := 57) (by decide +kernel) (by decide +kernel), by decide +kernel, TX10, 26, rfl⟩
theorem lX10_191 : LkV RX10 191 mX10_slicesOf 1 10 := ⟨TB_of (w := Cond.methodLink RX10 191 yX10_slicesOf) (i := 1138) (by decide +kernel) (by decide +kernel), TB_of (w := Cond.instanceMethod yX10_slicesOf) (i := 1140) (by decide +kernel) (by decide +kernel), TB_of (w := Cond.selects RX10 yX10_slicesOf yX10_slicesOf) (i := 58) (by decide +kernel) (by decide +kernel), by decide +kernel, TX10, 26, rfl⟩
theorem lL_55 : LkV "SliceSolverLaw" 55 mX10_sliceStart 2 10 := ⟨TB_of (w := Cond.methodLink "SliceSolverLaw" 55 yX10_sliceStart) (i := 1142) (by decide +kernel) (by decide +kernel), TB_of (w := Cond.instanceMethod yX10_sliceStart) (i := 1143) (by decide +kernel) (by decide +kernel), TB_of (w := Cond.selects RX10 yX10_sliceStart yX10_sliceStart) (i := 1144) (by decide +kernel) (by decide +kernel), by decide +kernel, TX10, 26, rfl⟩
theorem lX10_194 : LkV RX10 194 mX10_isSlice 2 10 := ⟨TB_of (w := Cond.methodLink RX10 194 yX10_isSlice) (i := 1146) (by decide +kernel) (by decide +kernel), TB_of (w := Cond.instanceMethod yX10_isSlice) (i := 1148) (by decide +kernel) (by decide +kernel), TB_of (w := Cond.selects RX10 yX10_isSlice yX10_isSlice) (i := 59) (by decide +kernel) (by decide +kernel), by decide +kernel, TX10, 26, rfl⟩
theorem lX10_197 : LkV RX10 197 mX10_startOf 2 10 := ⟨TB_of (w := Cond.methodLink RX10 197 yX10_startOf) (i := 1150) (by decide +kernel) (by decide +kernel), TB_of (w := Cond.instanceMethod yX10_startOf) (i := 1152) (by decide +kernel) (by decide +kernel), TB_of (w := Cond.selects RX10 yX10_startOf yX10_startOf) (i := 60) (by decide +kernel) (by decide +kernel), by decide +kernel, TX10, 26, rfl⟩
theorem lL_59 : LkV "SliceSolverLaw" 59 mX10_sliceWidth 2 10 := ⟨TB_of (w := Cond.methodLink "SliceSolverLaw" 59 yX10_sliceWidth) (i := 1154) (by decide +kernel) (by decide +kernel), TB_of (w := Cond.instanceMethod yX10_sliceWidth) (i := 1155) (by decide +kernel) (by decide +kernel), TB_of (w := Cond.selects RX10 yX10_sliceWidth yX10_sliceWidth) (i := 1156) (by decide +kernel) (by decide +kernel), by decide +kernel, TX10, 26, rfl⟩
theorem lL_63 : LkV "SliceSolverLaw" 63 mX10_representative 2 10 := ⟨TB_of (w := Cond.methodLink "SliceSolverLaw" 63 yX10_representative) (i := 1158) (by decide +kernel) (by decide +kernel), TB_of (w := Cond.instanceMethod yX10_representative) (i := 1159) (by decide +kernel) (by decide +kernel), TB_of (w := Cond.selects RX10 yX10_representative yX10_representative) (i := 1160) (by decide +kernel) (by decide +kernel), by decide +kernel, TX10, 26, rfl⟩
theorem lX10_221 : LkV RX10 221 mX10_solveAll 0 10 := ⟨TB_of (w := Cond.methodLink RX10 221 yX10_solveAll) (i := 1162) (by decide +kernel) (by decide +kernel), TB_of (w := Cond.instanceMethod yX10_solveAll) (i := 1164) (by decide +kernel) (by decide +kernel), TB_of (w := Cond.selects RX10 yX10_solveAll yX10_solveAll) (i := 61) (by decide +kernel) (by decide +kernel), by decide +kernel, TX10, 26, rfl⟩
theorem lX10_218 : LkV RX10 218 mX10_solve 1 10 := ⟨TB_of (w := Cond.methodLink RX10 218 yX10_solve) (i := 1166) (by decide +kernel) (by decide +kernel), TB_of (w := Cond.instanceMethod yX10_solve) (i := 1168) (by decide +kernel) (by decide +kernel), TB_of (w := Cond.selects RX10 yX10_solve yX10_solve) (i := 62) (by decide +kernel) (by decide +kernel), by decide +kernel, TX10, 26, rfl⟩
theorem lX10_215 : LkV RX10 215 mX10_equateTerms 1 10 := ⟨TB_of (w := Cond.methodLink RX10 215 yX10_equateTerms) (i := 1170) (by decide +kernel) (by decide +kernel), TB_of (w := Cond.instanceMethod yX10_equateTerms) (i := 1172) (by decide +kernel) (by decide +kernel), TB_of (w := Cond.selects RX10 yX10_equateTerms yX10_equateTerms) (i := 63) (by decide +kernel) (by decide +kernel), by decide +kernel, TX10, 26, rfl⟩
theorem lX10_212 : LkV RX10 212 mX10_equate 2 10 := ⟨TB_of (w := Cond.methodLink RX10 212 yX10_equate) (i := 1174) (by decide +kernel) (by decide +kernel), TB_of (w := Cond.instanceMethod yX10_equate) (i := 1176) (by decide +kernel) (by decide +kernel), TB_of (w := Cond.selects RX10 yX10_equate yX10_equate) (i := 64) (by decide +kernel) (by decide +kernel), by decide +kernel, TX10, 26, rfl⟩
theorem lX10_203 : LkV RX10 203 mX10_rootOf 1 10 := ⟨TB_of (w := Cond.methodLink RX10 203 yX10_rootOf) (i := 1178) (by decide +kernel) (by decide +kernel), TB_of (w := Cond.instanceMethod yX10_rootOf) (i := 1180) (by decide +kernel) (by decide +kernel), TB_of (w := Cond.selects RX10 yX10_rootOf yX10_rootOf) (i := 65) (by decide +kernel) (by decide +kernel), by decide +kernel, TX10, 26, rfl⟩
theorem lX10_206 : LkV RX10 206 mX10_fix 2 10 := ⟨TB_of (w := Cond.methodLink RX10 206 yX10_fix) (i := 1182) (by decide +kernel) (by decide +kernel), TB_of (w := Cond.instanceMethod yX10_fix) (i := 1184) (by decide +kernel) (by decide +kernel), TB_of (w := Cond.selects RX10 yX10_fix yX10_fix) (i := 66) (by decide +kernel) (by decide +kernel), by decide +kernel, TX10, 26, rfl⟩
theorem lX10_209 : LkV RX10 209 mX10_join 2 10 := ⟨TB_of (w := Cond.methodLink RX10 209 yX10_join) (i := 1186) (by decide +kernel) (by decide +kernel), TB_of (w := Cond.instanceMethod yX10_join) (i := 1188) (by decide +kernel) (by decide +kernel), TB_of (w := Cond.selects RX10 yX10_join yX10_join) (i := 67) (by decide +kernel) (by decide +kernel), by decide +kernel, TX10, 26, rfl⟩
theorem lX10_224 : LkV RX10 224 mX10_sliceOfBit 2 10 := ⟨TB_of (w := Cond.methodLink RX10 224 yX10_sliceOfBit) (i := 1190) (by decide +kernel) (by decide +kernel), TB_of (w := Cond.instanceMethod yX10_sliceOfBit) (i := 1192) (by decide +kernel) (by decide +kernel), TB_of (w := Cond.selects RX10 yX10_sliceOfBit yX10_sliceOfBit) (i := 68) (by decide +kernel) (by decide +kernel), by decide +kernel, TX10, 26, rfl⟩
theorem lL_67 : LkV "SliceSolverLaw" 67 mX10_classCount 0 10 := ⟨TB_of (w := Cond.methodLink "SliceSolverLaw" 67 yX10_classCount) (i := 1194) (by decide +kernel) (by decide +kernel), TB_of (w := Cond.instanceMethod yX10_classCount) (i := 1195) (by decide +kernel) (by decide +kernel), TB_of (w := Cond.selects RX10 yX10_classCount yX10_classCount) (i := 1196) (by decide +kernel) (by decide +kernel), by decide +kernel, TX10, 26, rfl⟩
theorem lL_71 : LkV "SliceSolverLaw" 71 mX10_isConsistent 0 10 := ⟨TB_of (w := Cond.methodLink "SliceSolverLaw" 71 yX10_isConsistent) (i := 1198) (by decide +kernel) (by decide +kernel), TB_of (w := Cond.instanceMethod yX10_isConsistent) (i := 1199) (by decide +kernel) (by decide +kernel), TB_of (w := Cond.selects RX10 yX10_isConsistent yX10_isConsistent) (i := 1200) (by decide +kernel) (by decide +kernel), by decide +kernel, TX10, 26, rfl⟩
theorem lL_75 : LkV "SliceSolverLaw" 75 mX10_firstConflict 0 10 := ⟨TB_of (w := Cond.methodLink "SliceSolverLaw" 75 yX10_firstConflict) (i := 1202) (by decide +kernel) (by decide +kernel), TB_of (w := Cond.instanceMethod yX10_firstConflict) (i := 1203) (by decide +kernel) (by decide +kernel), TB_of (w := Cond.selects RX10 yX10_firstConflict yX10_firstConflict) (i := 1204) (by decide +kernel) (by decide +kernel), by decide +kernel, TX10, 26, rfl⟩
theorem lL_79 : LkV "SliceSolverLaw" 79 mX10_conflictSet 0 10 := ⟨TB_of (w := Cond.methodLink "SliceSolverLaw" 79 yX10_conflictSet) (i := 1206) (by decide +kernel) (by decide +kernel), TB_of (w := Cond.instanceMethod yX10_conflictSet) (i := 1207) (by decide +kernel) (by decide +kernel), TB_of (w := Cond.selects RX10 yX10_conflictSet yX10_conflictSet) (i := 1208) (by decide +kernel) (by decide +kernel), by decide +kernel, TX10, 26, rfl⟩
theorem lL_83 : LkV "SliceSolverLaw" 83 mX10_fixedBit 2 10 := ⟨TB_of (w := Cond.methodLink "SliceSolverLaw" 83 yX10_fixedBit) (i := 1210) (by decide +kernel) (by decide +kernel), TB_of (w := Cond.instanceMethod yX10_fixedBit) (i := 1211) (by decide +kernel) (by decide +kernel), TB_of (w := Cond.selects RX10 yX10_fixedBit yX10_fixedBit) (i := 1212) (by decide +kernel) (by decide +kernel), by decide +kernel, TX10, 26, rfl⟩
theorem lX10_227 : LkV RX10 227 mX10_isBit 2 10 := ⟨TB_of (w := Cond.methodLink RX10 227 yX10_isBit) (i := 1214) (by decide +kernel) (by decide +kernel), TB_of (w := Cond.instanceMethod yX10_isBit) (i := 1216) (by decide +kernel) (by decide +kernel), TB_of (w := Cond.selects RX10 yX10_isBit yX10_isBit) (i := 69) (by decide +kernel) (by decide +kernel), by decide +kernel, TX10, 26, rfl⟩
theorem lL_88 : LkV "SliceSolverLaw" 88 mX10_compareBits 4 10 := ⟨TB_of (w := Cond.methodLink "SliceSolverLaw" 88 yX10_compareBits) (i := 1218) (by decide +kernel) (by decide +kernel), TB_of (w := Cond.instanceMethod yX10_compareBits) (i := 1219) (by decide +kernel) (by decide +kernel), TB_of (w := Cond.selects RX10 yX10_compareBits yX10_compareBits) (i := 1220) (by decide +kernel) (by decide +kernel), by decide +kernel, TX10, 26, rfl⟩
theorem lL_92 : LkV "SliceSolverLaw" 92 mX10_freeBits 0 10 := ⟨TB_of (w := Cond.methodLink "SliceSolverLaw" 92 yX10_freeBits) (i := 1222) (by decide +kernel) (by decide +kernel), TB_of (w := Cond.instanceMethod yX10_freeBits) (i := 1223) (by decide +kernel) (by decide +kernel), TB_of (w := Cond.selects RX10 yX10_freeBits yX10_freeBits) (i := 1224) (by decide +kernel) (by decide +kernel), by decide +kernel, TX10, 26, rfl⟩
theorem lX10_230 : LkV RX10 230 mX10_isFree 1 10 := ⟨TB_of (w := Cond.methodLink RX10 230 yX10_isFree) (i := 1226) (by decide +kernel) (by decide +kernel), TB_of (w := Cond.instanceMethod yX10_isFree) (i := 1228) (by decide +kernel) (by decide +kernel), TB_of (w := Cond.selects RX10 yX10_isFree yX10_isFree) (i := 70) (by decide +kernel) (by decide +kernel), by decide +kernel, TX10, 26, rfl⟩
theorem lL_96 : LkV "SliceSolverLaw" 96 mX10_isSatisfiable 0 10 := ⟨TB_of (w := Cond.methodLink "SliceSolverLaw" 96 yX10_isSatisfiable) (i := 1230) (by decide +kernel) (by decide +kernel), TB_of (w := Cond.instanceMethod yX10_isSatisfiable) (i := 1231) (by decide +kernel) (by decide +kernel), TB_of (w := Cond.selects RX10 yX10_isSatisfiable yX10_isSatisfiable) (i := 1232) (by decide +kernel) (by decide +kernel), by decide +kernel, TX10, 26, rfl⟩
theorem lX10_257 : LkV RX10 257 mX10_choose 0 10 := ⟨TB_of (w := Cond.methodLink RX10 257 yX10_choose) (i := 1234) (by decide +kernel) (by decide +kernel), TB_of (w := Cond.instanceMethod yX10_choose) (i := 1236) (by decide +kernel) (by decide +kernel), TB_of (w := Cond.selects RX10 yX10_choose yX10_choose) (i := 71) (by decide +kernel) (by decide +kernel), by decide +kernel, TX10, 26, rfl⟩
theorem lX10_251 : LkV RX10 251 mX10_findUsed 0 10 := ⟨TB_of (w := Cond.methodLink RX10 251 yX10_findUsed) (i := 1238) (by decide +kernel) (by decide +kernel), TB_of (w := Cond.instanceMethod yX10_findUsed) (i := 1240) (by decide +kernel) (by decide +kernel), TB_of (w := Cond.selects RX10 yX10_findUsed yX10_findUsed) (i := 72) (by decide +kernel) (by decide +kernel), by decide +kernel, TX10, 26, rfl⟩
theorem lX10_245 : LkV RX10 245 mX10_occurs 1 10 := ⟨TB_of (w := Cond.methodLink RX10 245 yX10_occurs) (i := 1242) (by decide +kernel) (by decide +kernel), TB_of (w := Cond.instanceMethod yX10_occurs) (i := 1244) (by decide +kernel) (by decide +kernel), TB_of (w := Cond.selects RX10 yX10_occurs yX10_occurs) (i := 73) (by decide +kernel) (by decide +kernel), by decide +kernel, TX10, 26, rfl⟩
theorem lX10_254 : LkV RX10 254 mX10_search 1 10 := ⟨TB_of (w := Cond.methodLink RX10 254 yX10_search) (i := 1246) (by decide +kernel) (by decide +kernel), TB_of (w := Cond.instanceMethod yX10_search) (i := 1248) (by decide +kernel) (by decide +kernel), TB_of (w := Cond.selects RX10 yX10_search yX10_search) (i := 74) (by decide +kernel) (by decide +kernel), by decide +kernel, TX10, 26, rfl⟩
theorem lX10_248 : LkV RX10 248 mX10_isModel 0 10 := ⟨TB_of (w := Cond.methodLink RX10 248 yX10_isModel) (i := 1250) (by decide +kernel) (by decide +kernel), TB_of (w := Cond.instanceMethod yX10_isModel) (i := 1252) (by decide +kernel) (by decide +kernel), TB_of (w := Cond.selects RX10 yX10_isModel yX10_isModel) (i := 75) (by decide +kernel) (by decide +kernel), by decide +kernel, TX10, 26, rfl⟩
theorem lX10_239 : LkV RX10 239 mX10_holds 1 10 := ⟨TB_of (w := Cond.methodLink RX10 239 yX10_holds) (i := 1254) (by decide +kernel) (by decide +kernel), TB_of (w := Cond.instanceMethod yX10_holds) (i := 1256) (by decide +kernel) (by decide +kernel), TB_of (w := Cond.selects RX10 yX10_holds yX10_holds) (i := 76) (by decide +kernel) (by decide +kernel), by decide +kernel, TX10, 26, rfl⟩
theorem lX10_236 : LkV RX10 236 mX10_valueOf 1 10 := ⟨TB_of (w := Cond.methodLink RX10 236 yX10_valueOf) (i := 1258) (by decide +kernel) (by decide +kernel), TB_of (w := Cond.instanceMethod yX10_valueOf) (i := 1260) (by decide +kernel) (by decide +kernel), TB_of (w := Cond.selects RX10 yX10_valueOf yX10_valueOf) (i := 77) (by decide +kernel) (by decide +kernel), by decide +kernel, TX10, 26, rfl⟩
theorem lL_100 : LkV "SliceSolverLaw" 100 mX10_oneBits 0 10 := ⟨TB_of (w := Cond.methodLink "SliceSolverLaw" 100 yX10_oneBits) (i := 1262) (by decide +kernel) (by decide +kernel), TB_of (w := Cond.instanceMethod yX10_oneBits) (i := 1263) (by decide +kernel) (by decide +kernel), TB_of (w := Cond.selects RX10 yX10_oneBits yX10_oneBits) (i := 1264) (by decide +kernel) (by decide +kernel), by decide +kernel, TX10, 26, rfl⟩
theorem lL_104 : LkV "SliceSolverLaw" 104 mX10_value 1 10 := ⟨TB_of (w := Cond.methodLink "SliceSolverLaw" 104 yX10_value) (i := 1266) (by decide +kernel) (by decide +kernel), TB_of (w := Cond.instanceMethod yX10_value) (i := 1267) (by decide +kernel) (by decide +kernel), TB_of (w := Cond.selects RX10 yX10_value yX10_value) (i := 1268) (by decide +kernel) (by decide +kernel), by decide +kernel, TX10, 26, rfl⟩
theorem lL_108 : LkV "SliceSolverLaw" 108 mX10_isImplied 1 10 := ⟨TB_of (w := Cond.methodLink "SliceSolverLaw" 108 yX10_isImplied) (i := 1270) (by decide +kernel) (by decide +kernel), TB_of (w := Cond.instanceMethod yX10_isImplied) (i := 1271) (by decide +kernel) (by decide +kernel), TB_of (w := Cond.selects RX10 yX10_isImplied yX10_isImplied) (i := 1272) (by decide +kernel) (by decide +kernel), by decide +kernel, TX10, 26, rfl⟩
theorem lL_112 : LkV "SliceSolverLaw" 112 mX10_undo 0 10 := ⟨TB_of (w := Cond.methodLink "SliceSolverLaw" 112 yX10_undo) (i := 1274) (by decide +kernel) (by decide +kernel), TB_of (w := Cond.instanceMethod yX10_undo) (i := 1275) (by decide +kernel) (by decide +kernel), TB_of (w := Cond.selects RX10 yX10_undo yX10_undo) (i := 1276) (by decide +kernel) (by decide +kernel), by decide +kernel, TX10, 26, rfl⟩
theorem lL_116 : LkV "SliceSolverLaw" 116 mX10_undoDepth 0 10 := ⟨TB_of (w := Cond.methodLink "SliceSolverLaw" 116 yX10_undoDepth) (i := 1278) (by decide +kernel) (by decide +kernel), TB_of (w := Cond.instanceMethod yX10_undoDepth) (i := 1279) (by decide +kernel) (by decide +kernel), TB_of (w := Cond.selects RX10 yX10_undoDepth yX10_undoDepth) (i := 1280) (by decide +kernel) (by decide +kernel), by decide +kernel, TX10, 26, rfl⟩
theorem lL_120 : LkV "SliceSolverLaw" 120 mX10_save 1 10 := ⟨TB_of (w := Cond.methodLink "SliceSolverLaw" 120 yX10_save) (i := 1282) (by decide +kernel) (by decide +kernel), TB_of (w := Cond.instanceMethod yX10_save) (i := 1283) (by decide +kernel) (by decide +kernel), TB_of (w := Cond.selects RX10 yX10_save yX10_save) (i := 1284) (by decide +kernel) (by decide +kernel), by decide +kernel, TX10, 26, rfl⟩
theorem lL_124 : LkV "SliceSolverLaw" 124 mX10_restore 1 10 := ⟨TB_of (w := Cond.methodLink "SliceSolverLaw" 124 yX10_restore) (i := 1286) (by decide +kernel) (by decide +kernel), TB_of (w := Cond.instanceMethod yX10_restore) (i := 1287) (by decide +kernel) (by decide +kernel), TB_of (w := Cond.selects RX10 yX10_restore yX10_restore) (i := 1288) (by decide +kernel) (by decide +kernel), by decide +kernel, TX10, 26, rfl⟩
theorem lX9_11 : LkIN RX9 11 mX8_init 0 := ⟨by decide +kernel, TB_of (w := Cond.instanceMethod yX8_init) (i := 109) (by decide +kernel) (by decide +kernel), rfl, by decide +kernel⟩
theorem lX5_11 : LkIN RX5 11 mX7_init 0 := ⟨by decide +kernel, TB_of (w := Cond.instanceMethod yX7_init) (i := 145) (by decide +kernel) (by decide +kernel), rfl, by decide +kernel⟩
theorem lX9_27 : LkIN RX9 27 mX4_init 0 := ⟨by decide +kernel, TB_of (w := Cond.instanceMethod yX4_init) (i := 174) (by decide +kernel) (by decide +kernel), rfl, by decide +kernel⟩
theorem lX2_17 : LkIN RX2 17 mX4_init 0 := ⟨by decide +kernel, TB_of (w := Cond.instanceMethod yX4_init) (i := 174) (by decide +kernel) (by decide +kernel), rfl, by decide +kernel⟩
theorem lX9_50 : LkIN RX9 50 mX1_init 0 := ⟨by decide +kernel, TB_of (w := Cond.instanceMethod yX1_init) (i := 236) (by decide +kernel) (by decide +kernel), rfl, by decide +kernel⟩
theorem lX9_67 : LkIN RX9 67 mX3_init 0 := ⟨by decide +kernel, TB_of (w := Cond.instanceMethod yX3_init) (i := 269) (by decide +kernel) (by decide +kernel), rfl, by decide +kernel⟩
theorem lX4_27 : LkSN RX4 27 mX9_isVariable 1 := ⟨by decide +kernel, TB_of (w := Cond.static yX9_isVariable) (i := 457) (by decide +kernel) (by decide +kernel), by decide +kernel⟩
theorem lX5_111 : LkSN RX5 111 mX9_nodeOf 2 := ⟨by decide +kernel, TB_of (w := Cond.static yX9_nodeOf) (i := 516) (by decide +kernel) (by decide +kernel), by decide +kernel⟩
theorem lX1_54 : LkSN RX1 54 mX9_isConstantNode 1 := ⟨by decide +kernel, TB_of (w := Cond.static yX9_isConstantNode) (i := 608) (by decide +kernel) (by decide +kernel), by decide +kernel⟩
theorem lX1_62 : LkSN RX1 62 mX9_variableOf 1 := ⟨by decide +kernel, TB_of (w := Cond.static yX9_variableOf) (i := 615) (by decide +kernel) (by decide +kernel), by decide +kernel⟩
theorem lX1_65 : LkSN RX1 65 mX9_bitOf 1 := ⟨by decide +kernel, TB_of (w := Cond.static yX9_bitOf) (i := 618) (by decide +kernel) (by decide +kernel), by decide +kernel⟩
theorem lX0_31 : LkSN RX0 31 mX9_isConstantNode 1 := ⟨by decide +kernel, TB_of (w := Cond.static yX9_isConstantNode) (i := 608) (by decide +kernel) (by decide +kernel), by decide +kernel⟩
theorem kL_7 : CLk "SliceSolverLaw" 7 9 13 [.null, .null, .null, .null, .null, .null, .null, .int 0, .null, .null, .null, .null, .int 0] := ⟨RX9, TX9, tyX9, rfl, lay_X9, tyX9_ok, TB_of (w := Cond.classLink "SliceSolverLaw" 7 RX9) (i := 98) (by decide +kernel) (by decide +kernel), TB_of (w := Cond.instantiable RX9 13) (i := 99) (by decide +kernel) (by decide +kernel), ini_X9, by decide +kernel⟩
theorem kL_7w : Cond.classLink "SliceSolverLaw" 7 RX9 ∈ TB := TB_of (w := Cond.classLink "SliceSolverLaw" 7 RX9) (i := 98) (by decide +kernel) (by decide +kernel)
theorem kX9_9 : CLk RX9 9 8 7 [.null, .int 0, .null, .null, .null, .int 0, .int 0] := ⟨RX8, TX8, tyX8, rfl, lay_X8, tyX8_ok, TB_of (w := Cond.classLink RX9 9 RX8) (i := 106) (by decide +kernel) (by decide +kernel), TB_of (w := Cond.instantiable RX8 7) (i := 107) (by decide +kernel) (by decide +kernel), ini_X8, by decide +kernel⟩
theorem kX9_9w : Cond.classLink RX9 9 RX8 ∈ TB := TB_of (w := Cond.classLink RX9 9 RX8) (i := 106) (by decide +kernel) (by decide +kernel)
theorem kX9_16 : CLk RX9 16 5 4 [.null, .null, .int 0, .int 0] := ⟨RX5, TX5, tyX5, rfl, lay_X5, tyX5_ok, TB_of (w := Cond.classLink RX9 16 RX5) (i := 136) (by decide +kernel) (by decide +kernel), TB_of (w := Cond.instantiable RX5 4) (i := 137) (by decide +kernel) (by decide +kernel), ini_X5, by decide +kernel⟩
theorem kX9_16w : Cond.classLink RX9 16 RX5 ∈ TB := TB_of (w := Cond.classLink RX9 16 RX5) (i := 136) (by decide +kernel) (by decide +kernel)
theorem kX5_9 : CLk RX5 9 7 3 [.null, .int 0, .int 0] := ⟨RX7, TX7, tyX7, rfl, lay_X7, tyX7_ok, TB_of (w := Cond.classLink RX5 9 RX7) (i := 142) (by decide +kernel) (by decide +kernel), TB_of (w := Cond.instantiable RX7 3) (i := 143) (by decide +kernel) (by decide +kernel), ini_X7, by decide +kernel⟩
theorem kX5_9w : Cond.classLink RX5 9 RX7 ∈ TB := TB_of (w := Cond.classLink RX5 9 RX7) (i := 142) (by decide +kernel) (by decide +kernel)
theorem kX9_25 : CLk RX9 25 4 3 [.null, .null, .null] := ⟨RX4, TX4, tyX4, rfl, lay_X4, tyX4_ok, TB_of (w := Cond.classLink RX9 25 RX4) (i := 171) (by decide +kernel) (by decide +kernel), TB_of (w := Cond.instantiable RX4 3) (i := 172) (by decide +kernel) (by decide +kernel), ini_X4, by decide +kernel⟩
theorem kX9_25w : Cond.classLink RX9 25 RX4 ∈ TB := TB_of (w := Cond.classLink RX9 25 RX4) (i := 171) (by decide +kernel) (by decide +kernel)
theorem kX4_15 : CLk RX4 15 6 5 [.int 0, .int 0, .null, .null, .null] := ⟨RX6, TX6, tyX6, rfl, lay_X6, tyX6_ok, TB_of (w := Cond.classLink RX4 15 RX6) (i := 177) (by decide +kernel) (by decide +kernel), TB_of (w := Cond.instantiable RX6 5) (i := 178) (by decide +kernel) (by decide +kernel), ini_X6, by decide +kernel⟩
theorem kX4_15w : Cond.classLink RX4 15 RX6 ∈ TB := TB_of (w := Cond.classLink RX4 15 RX6) (i := 177) (by decide +kernel) (by decide +kernel)
theorem kX9_35 : CLk RX9 35 2 2 [.null, .int 0] := ⟨RX2, TX2, tyX2, rfl, lay_X2, tyX2_ok, TB_of (w := Cond.classLink RX9 35 RX2) (i := 217) (by decide +kernel) (by decide +kernel), TB_of (w := Cond.instantiable RX2 2) (i := 218) (by decide +kernel) (by decide +kernel), ini_X2, by decide +kernel⟩
theorem kX9_35w : Cond.classLink RX9 35 RX2 ∈ TB := TB_of (w := Cond.classLink RX9 35 RX2) (i := 217) (by decide +kernel) (by decide +kernel)
theorem kX2_9 : CLk RX2 9 4 3 [.null, .null, .null] := ⟨RX4, TX4, tyX4, rfl, lay_X4, tyX4_ok, TB_of (w := Cond.classLink RX2 9 RX4) (i := 223) (by decide +kernel) (by decide +kernel), TB_of (w := Cond.instantiable RX4 3) (i := 172) (by decide +kernel) (by decide +kernel), ini_X4, by decide +kernel⟩
theorem kX2_9w : Cond.classLink RX2 9 RX4 ∈ TB := TB_of (w := Cond.classLink RX2 9 RX4) (i := 223) (by decide +kernel) (by decide +kernel)
theorem kX9_48 : CLk RX9 48 1 1 [.null] := ⟨RX1, TX1, tyX1, rfl, lay_X1, tyX1_ok, TB_of (w := Cond.classLink RX9 48 RX1) (i := 233) (by decide +kernel) (by decide +kernel), TB_of (w := Cond.instantiable RX1 1) (i := 234) (by decide +kernel) (by decide +kernel), ini_X1, by decide +kernel⟩
theorem kX9_48w : Cond.classLink RX9 48 RX1 ∈ TB := TB_of (w := Cond.classLink RX9 48 RX1) (i := 233) (by decide +kernel) (by decide +kernel)
theorem kX9_55 : CLk RX9 55 0 3 [.null, .null, .int 0] := ⟨RX0, TX0, tyX0, rfl, lay_X0, tyX0_ok, TB_of (w := Cond.classLink RX9 55 RX0) (i := 243) (by decide +kernel) (by decide +kernel), TB_of (w := Cond.instantiable RX0 3) (i := 244) (by decide +kernel) (by decide +kernel), ini_X0, by decide +kernel⟩
theorem kX9_55w : Cond.classLink RX9 55 RX0 ∈ TB := TB_of (w := Cond.classLink RX9 55 RX0) (i := 243) (by decide +kernel) (by decide +kernel)
theorem kX9_65 : CLk RX9 65 3 5 [.null, .null, .int 0, .null, .int 0] := ⟨RX3, TX3, tyX3, rfl, lay_X3, tyX3_ok, TB_of (w := Cond.classLink RX9 65 RX3) (i := 266) (by decide +kernel) (by decide +kernel), TB_of (w := Cond.instantiable RX3 5) (i := 267) (by decide +kernel) (by decide +kernel), ini_X3, by decide +kernel⟩
theorem kX9_65w : Cond.classLink RX9 65 RX3 ∈ TB := TB_of (w := Cond.classLink RX9 65 RX3) (i := 266) (by decide +kernel) (by decide +kernel)
theorem kL_10 : CLk "SliceSolverLaw" 10 10 26 [.int 0, .null, .null, .null, .int 0, .null, .null, .null, .int 0, .int 0, .int 0, .int 0, .int 0, .int 0, .null, .int 0, .int 0, .null, .int 0, .null, .null, .int 0, .null, .int 0, .null, .int 0] := ⟨RX10, TX10, tyX10, rfl, lay_X10, tyX10_ok, TB_of (w := Cond.classLink "SliceSolverLaw" 10 RX10) (i := 893) (by decide +kernel) (by decide +kernel), TB_of (w := Cond.instantiable RX10 26) (i := 894) (by decide +kernel) (by decide +kernel), ini_X10, by decide +kernel⟩
theorem kL_10w : Cond.classLink "SliceSolverLaw" 10 RX10 ∈ TB := TB_of (w := Cond.classLink "SliceSolverLaw" 10 RX10) (i := 893) (by decide +kernel) (by decide +kernel)
theorem arrW_int : Cond.arrayClass .int ∈ TB := TB_of (w := Cond.arrayClass .int) (i := 135) (by decide +kernel) (by decide +kernel)
theorem arrW_long : Cond.arrayClass .long ∈ TB := TB_of (w := Cond.arrayClass .long) (i := 288) (by decide +kernel) (by decide +kernel)
theorem arrW_boolean : Cond.arrayClass .boolean ∈ TB := TB_of (w := Cond.arrayClass .boolean) (i := 978) (by decide +kernel) (by decide +kernel)
theorem arrW_char : Cond.arrayClass .char ∈ TB := TB_of (w := Cond.arrayClass .char) (i := 134) (by decide +kernel) (by decide +kernel)
theorem lX9_3 : Cond.methodLink RX9 3 Lib.objectInit ∈ TB := TB_of (i := 103) (by decide +kernel) (by decide +kernel)
theorem lX8_3 : Cond.methodLink RX8 3 Lib.objectInit ∈ TB := TB_of (i := 111) (by decide +kernel) (by decide +kernel)
theorem lX5_3 : Cond.methodLink RX5 3 Lib.objectInit ∈ TB := TB_of (i := 141) (by decide +kernel) (by decide +kernel)
theorem lX7_3 : Cond.methodLink RX7 3 Lib.objectInit ∈ TB := TB_of (i := 147) (by decide +kernel) (by decide +kernel)
theorem lX4_3 : Cond.methodLink RX4 3 Lib.objectInit ∈ TB := TB_of (i := 176) (by decide +kernel) (by decide +kernel)
theorem lX6_3 : Cond.methodLink RX6 3 Lib.objectInit ∈ TB := TB_of (i := 182) (by decide +kernel) (by decide +kernel)
theorem lX6_9 : Cond.methodLink RX6 9 Lib.Math.max.name ∈ TB := TB_of (i := 183) (by decide +kernel) (by decide +kernel)
theorem lX2_3 : Cond.methodLink RX2 3 Lib.objectInit ∈ TB := TB_of (i := 222) (by decide +kernel) (by decide +kernel)
theorem lX1_3 : Cond.methodLink RX1 3 Lib.objectInit ∈ TB := TB_of (i := 238) (by decide +kernel) (by decide +kernel)
theorem lX0_3 : Cond.methodLink RX0 3 Lib.objectInit ∈ TB := TB_of (i := 248) (by decide +kernel) (by decide +kernel)
theorem lX3_3 : Cond.methodLink RX3 3 Lib.objectInit ∈ TB := TB_of (i := 271) (by decide +kernel) (by decide +kernel)
theorem lX4_44 : Cond.methodLink RX4 44 arraycopyName ∈ TB := TB_of (i := 562) (by decide +kernel) (by decide +kernel)
theorem lX6_55 : Cond.methodLink RX6 55 Lib.Math.min.name ∈ TB := TB_of (i := 569) (by decide +kernel) (by decide +kernel)
theorem lX6_62 : Cond.methodLink RX6 62 arraycopyName ∈ TB := TB_of (i := 576) (by decide +kernel) (by decide +kernel)
theorem lX0_58 : Cond.methodLink RX0 58 Lib.Math.min.name ∈ TB := TB_of (i := 662) (by decide +kernel) (by decide +kernel)
theorem lX0_64 : Cond.methodLink RX0 64 Lib.Math.max.name ∈ TB := TB_of (i := 663) (by decide +kernel) (by decide +kernel)
theorem lX10_1 : Cond.methodLink RX10 1 Lib.objectInit ∈ TB := TB_of (i := 898) (by decide +kernel) (by decide +kernel)
theorem objI1 : Cond.instanceMethod Lib.objectInit ∈ TB := TB_of (i := 104) (by decide +kernel) (by decide +kernel)
set_option maxRecDepth 100000 in
theorem objI2 : Cond.code Lib.objectInit ⟨#[0xb1]⟩ 1 none ∈ TB := TB_of (i := 105) rfl rfl
theorem math_max1 : Cond.static Lib.Math.max.name ∈ TB := TB_of (i := 184) (by decide +kernel) (by decide +kernel)
theorem math_max2 : Cond.code Lib.Math.max.name Lib.Math.max.code 2 (some .int) ∈ TB := TB_of (i := 185) (by decide +kernel) (by decide +kernel)
theorem math_min1 : Cond.static Lib.Math.min.name ∈ TB := TB_of (i := 570) (by decide +kernel) (by decide +kernel)
theorem math_min2 : Cond.code Lib.Math.min.name Lib.Math.min.code 2 (some .int) ∈ TB := TB_of (i := 571) (by decide +kernel) (by decide +kernel)
theorem math_ini : Cond.initialized "java/lang/Math" ∈ TB := TB_of (i := 85) (by decide +kernel) (by decide +kernel)
theorem sys_ini : Cond.initialized "java/lang/System" ∈ TB := TB_of (i := 96) (by decide +kernel) (by decide +kernel)
theorem cpy_nat : Cond.native arraycopyName ∈ TB := TB_of (i := 564) (by decide +kernel) (by decide +kernel)
theorem cpy_sta : Cond.static arraycopyName ∈ TB := TB_of (i := 563) (by decide +kernel) (by decide +kernel)
theorem qJ6_265 : Cond.constant RJ6 265 (1431655765 : Int32) ∈ TB := TB_of (i := 712) (by decide +kernel) (by decide +kernel)
theorem qJ6_266 : Cond.constant RJ6 266 (858993459 : Int32) ∈ TB := TB_of (i := 713) (by decide +kernel) (by decide +kernel)
theorem qJ6_267 : Cond.constant RJ6 267 (252645135 : Int32) ∈ TB := TB_of (i := 714) (by decide +kernel) (by decide +kernel)
theorem qX3_86 : Cond.constantLong RX3 86 (65535 : Int64) ∈ TB := TB_of (i := 823) (by decide +kernel) (by decide +kernel)
theorem qX3_88 : Cond.constantLong RX3 88 (4294901760 : Int64) ∈ TB := TB_of (i := 824) (by decide +kernel) (by decide +kernel)
theorem qX3_90 : Cond.constantLong RX3 90 (281470681743360 : Int64) ∈ TB := TB_of (i := 825) (by decide +kernel) (by decide +kernel)
