set_option maxRecDepth 20000 in
theorem ggX0_cutBackTo_X9_sumOf : GoodIn wsX0_cutBackTo wsX9_sumOf := goodIn_r _ [10] rfl (by decide +kernel)
set_option maxRecDepth 20000 in
theorem gX0_cutBackTo_X9_sumOf_n21 : GoodIn wsX0_cutBackTo (wsX9_sumOf) := ggX0_cutBackTo_X9_sumOf
set_option maxRecDepth 20000 in
theorem ggX0_cutBackTo_X0_giveOneToGreatestRest : GoodIn wsX0_cutBackTo wsX0_giveOneToGreatestRest := goodIn_r _ [15, 7, 6, 16, 17, 18] rfl (by decide +kernel)
set_option maxRecDepth 20000 in
theorem gX0_cutBackTo_X0_giveOneToGreatestRest : GoodIn wsX0_cutBackTo (wsV RX0 31 RX0 yX0_giveOneToGreatestRest wsX0_giveOneToGreatestRest) := goodIn_app (goodIn_of _ (by decide +kernel)) ggX0_cutBackTo_X0_giveOneToGreatestRest
set_option maxRecDepth 20000 in
theorem ggX2_add_X2_shorten : GoodIn wsX2_add wsX2_shorten := goodIn_r _ [7, 1, 2, 8, 9, 6, 10, 11, 12] rfl (by decide +kernel)
set_option maxRecDepth 20000 in
theorem gX2_add_X2_shorten : GoodIn wsX2_add (wsV RX2 16 RX2 yX2_shorten wsX2_shorten) := goodIn_app (goodIn_of _ (by decide +kernel)) ggX2_add_X2_shorten
set_option maxRecDepth 20000 in
theorem ggX2_divideBy_X2_shorten : GoodIn wsX2_divideBy wsX2_shorten := goodIn_r _ [6, 7, 1, 8, 9, 5, 10, 11, 12] rfl (by decide +kernel)
set_option maxRecDepth 20000 in
theorem gX2_divideBy_X2_shorten : GoodIn wsX2_divideBy (wsV RX2 16 RX2 yX2_shorten wsX2_shorten) := goodIn_app (goodIn_of _ (by decide +kernel)) ggX2_divideBy_X2_shorten
set_option maxRecDepth 20000 in
theorem ggX2_shorten_X2_divisorInCommon : GoodIn wsX2_shorten wsX2_divisorInCommon := goodIn_r _ [6] rfl (by decide +kernel)
set_option maxRecDepth 20000 in
theorem gX2_shorten_X2_divisorInCommon : GoodIn wsX2_shorten (va_wsS RX2 19 yX2_divisorInCommon wsX2_divisorInCommon) := goodIn_app (goodIn_of _ (by decide +kernel)) ggX2_shorten_X2_divisorInCommon
set_option maxRecDepth 20000 in
theorem ggX3_init_X1_init : GoodIn wsX3_init wsX1_init := goodIn_r _ [6, 7, 8, 9] rfl (by decide +kernel)
set_option maxRecDepth 20000 in
theorem gX3_init_X1_init_n3 : GoodIn wsX3_init (wsX1_init) := ggX3_init_X1_init
set_option maxRecDepth 20000 in
theorem ggX4_init_X1_init : GoodIn wsX4_init wsX1_init := goodIn_r _ [6, 7, 8, 9] rfl (by decide +kernel)
set_option maxRecDepth 20000 in
theorem gX4_init_X1_init_n3 : GoodIn wsX4_init (wsX1_init) := ggX4_init_X1_init
set_option maxRecDepth 20000 in
theorem ggX6_read_X6_begin : GoodIn wsX6_read wsX6_begin := goodIn_r _ [16, 17, 11, 9, 18, 5, 10, 125, 126, 127, 128, 129, 130, 131] rfl (by decide +kernel)
set_option maxRecDepth 20000 in
theorem gX6_read_X6_begin : GoodIn wsX6_read (wsV RX6 31 RX6 yX6_begin wsX6_begin) := goodIn_app (goodIn_of _ (by decide +kernel)) ggX6_read_X6_begin
set_option maxRecDepth 20000 in
theorem ggX6_read_X7_at : GoodIn wsX6_read wsX7_at := goodIn_r _ [23, 24, 25, 123, 124] rfl (by decide +kernel)
set_option maxRecDepth 20000 in
theorem gX6_read_X7_at : GoodIn wsX6_read (wsV RX6 48 RX7 yX7_at wsX7_at) := goodIn_app (goodIn_of _ (by decide +kernel)) ggX6_read_X7_at
set_option maxRecDepth 20000 in
theorem ggX6_read_X6_isBlank : GoodIn wsX6_read wsX6_isBlank := goodIn_r _ [28] rfl (by decide +kernel)
set_option maxRecDepth 20000 in
theorem gX6_read_X6_isBlank : GoodIn wsX6_read (va_wsS RX6 52 yX6_isBlank wsX6_isBlank) := goodIn_app (goodIn_of _ (by decide +kernel)) ggX6_read_X6_isBlank
set_option maxRecDepth 20000 in
theorem ggX6_read_X6_tokenEnd : GoodIn wsX6_read wsX6_tokenEnd := goodIn_r _ [31, 6, 7, 3, 8, 19, 20, 21, 22, 23, 24, 25, 32, 33, 15, 34, 35, 36, 37, 38, 39, 40, 123, 124] rfl (by decide +kernel)
set_option maxRecDepth 20000 in
theorem gX6_read_X6_tokenEnd : GoodIn wsX6_read (va_wsS RX6 56 yX6_tokenEnd wsX6_tokenEnd) := goodIn_app (goodIn_of _ (by decide +kernel)) ggX6_read_X6_tokenEnd
set_option maxRecDepth 20000 in
theorem ggX6_read_X6_takeToken : GoodIn wsX6_read wsX6_takeToken := goodIn_r _ [44, 9, 45, 46, 15, 47, 19, 20, 21, 22, 23, 24, 25, 35, 36, 37, 38, 39, 40, 48, 49, 50, 51, 5, 10, 52, 53, 54, 55, 18, 17, 56, 57, 58, 59, 60, 61, 62, 63, 64, 65, 66, 67, 68, 69, 70, 71, 72, 73, 74, 75, 76, 77, 78, 79, 80, 81, 82, 83, 84, 85, 86, 87, 88, 89, 90, 91, 92, 93, 94, 95, 96, 97, 98, 99, 100, 101, 102, 103, 104, 105, 106, 107, 108, 109, 110, 111, 112, 113, 114, 11, 115, 116, 117, 125, 126, 127, 128, 129, 130, 131, 123, 124] rfl (by decide +kernel)
set_option maxRecDepth 20000 in
theorem gX6_read_X6_takeToken : GoodIn wsX6_read (wsV RX6 60 RX6 yX6_takeToken wsX6_takeToken) := goodIn_app (goodIn_of _ (by decide +kernel)) ggX6_read_X6_takeToken
set_option maxRecDepth 20000 in
theorem ggX6_read_X6_setFault : GoodIn wsX6_read wsX6_setFault := goodIn_r _ [51, 5, 10, 125, 126, 127, 128, 129, 130, 131] rfl (by decide +kernel)
set_option maxRecDepth 20000 in
theorem gX6_read_X6_setFault : GoodIn wsX6_read (wsV RX6 70 RX6 yX6_setFault wsX6_setFault) := goodIn_app (goodIn_of _ (by decide +kernel)) ggX6_read_X6_setFault
set_option maxRecDepth 20000 in
theorem ggX6_read_X6_putInForce : GoodIn wsX6_read wsX6_putInForce := goodIn_r _ [121, 122, 17, 125, 126, 127, 128, 129, 130, 131] rfl (by decide +kernel)
set_option maxRecDepth 20000 in
theorem gX6_read_X6_putInForce : GoodIn wsX6_read (wsV RX6 77 RX6 yX6_putInForce wsX6_putInForce) := goodIn_app (goodIn_of _ (by decide +kernel)) ggX6_read_X6_putInForce
set_option maxRecDepth 20000 in
theorem ggX6_takeToken_X6_tokenKind : GoodIn wsX6_takeToken wsX6_tokenKind := goodIn_r _ [5, 6, 7, 8, 9, 10, 11, 12, 13, 14, 4, 15, 16, 17, 18, 101, 102] rfl (by decide +kernel)
set_option maxRecDepth 20000 in
theorem gX6_takeToken_X6_tokenKind : GoodIn wsX6_takeToken (va_wsS RX6 87 yX6_tokenKind wsX6_tokenKind) := goodIn_app (goodIn_of _ (by decide +kernel)) ggX6_takeToken_X6_tokenKind
set_option maxRecDepth 20000 in
theorem ggX6_takeToken_X6_setFault : GoodIn wsX6_takeToken wsX6_setFault := goodIn_r _ [22, 23, 24, 94, 95, 96, 97, 98, 99, 100] rfl (by decide +kernel)
set_option maxRecDepth 20000 in
theorem gX6_takeToken_X6_setFault : GoodIn wsX6_takeToken (wsV RX6 70 RX6 yX6_setFault wsX6_setFault) := goodIn_app (goodIn_of _ (by decide +kernel)) ggX6_takeToken_X6_setFault
set_option maxRecDepth 20000 in
theorem ggX6_takeToken_X6_takeWord : GoodIn wsX6_takeToken wsX6_takeWord := goodIn_r _ [28, 29, 30, 1, 31, 32, 4, 33, 34, 35, 36, 37, 38, 39, 40, 41, 42, 43, 44, 45, 46, 47, 48, 6, 7, 8, 9, 10, 11, 12, 49, 50, 51, 52, 53, 54, 55, 56, 57, 58, 59, 60, 61, 62, 63, 64, 65, 66, 67, 68, 69, 70, 71, 72, 73, 74, 75, 76, 77, 78, 79, 80, 81, 82, 83, 84, 85, 19, 20, 21, 22, 23, 24, 94, 95, 96, 97, 98, 99, 100, 101, 102] rfl (by decide +kernel)
set_option maxRecDepth 20000 in
theorem gX6_takeToken_X6_takeWord : GoodIn wsX6_takeToken (wsV RX6 91 RX6 yX6_takeWord wsX6_takeWord) := goodIn_app (goodIn_of _ (by decide +kernel)) ggX6_takeToken_X6_takeWord
set_option maxRecDepth 20000 in
theorem ggX6_takeToken_X6_takeNumber : GoodIn wsX6_takeToken wsX6_takeNumber := goodIn_r _ [89, 29, 30, 90, 1, 6, 7, 8, 9, 10, 11, 12, 91, 92, 93, 19, 20, 21, 4, 22, 23, 24, 94, 95, 96, 97, 98, 99, 100, 101, 102] rfl (by decide +kernel)
set_option maxRecDepth 20000 in
theorem gX6_takeToken_X6_takeNumber : GoodIn wsX6_takeToken (wsV RX6 94 RX6 yX6_takeNumber wsX6_takeNumber) := goodIn_app (goodIn_of _ (by decide +kernel)) ggX6_takeToken_X6_takeNumber
set_option maxRecDepth 20000 in
theorem ggX6_takeWord_X6_ruleOf : GoodIn wsX6_takeWord wsX6_ruleOf := goodIn_r _ [7, 8, 9, 6, 10, 11, 12, 13, 14, 15, 16, 17, 18, 19, 20, 21, 22, 23, 24, 25, 26, 27, 28, 29, 30, 31, 32, 33, 34, 35, 36, 37, 38, 39, 40, 41, 42, 43, 44, 45, 46, 47, 48, 49, 50, 51, 52, 53, 54, 55, 56, 57, 58, 59, 60, 61, 62, 63, 64, 65, 66, 80, 81] rfl (by decide +kernel)
set_option maxRecDepth 20000 in
theorem gX6_takeWord_X6_ruleOf : GoodIn wsX6_takeWord (va_wsS RX6 97 yX6_ruleOf wsX6_ruleOf) := goodIn_app (goodIn_of _ (by decide +kernel)) ggX6_takeWord_X6_ruleOf
set_option maxRecDepth 20000 in
theorem ggX6_takeWord_X6_setFault : GoodIn wsX6_takeWord wsX6_setFault := goodIn_r _ [70, 71, 72, 73, 74, 75, 76, 77, 78, 79] rfl (by decide +kernel)
set_option maxRecDepth 20000 in
theorem gX6_takeWord_X6_setFault : GoodIn wsX6_takeWord (wsV RX6 70 RX6 yX6_setFault wsX6_setFault) := goodIn_app (goodIn_of _ (by decide +kernel)) ggX6_takeWord_X6_setFault
set_option maxRecDepth 20000 in
theorem ggX6_takeNumber_X7_at : GoodIn wsX6_takeNumber wsX7_at := goodIn_r _ [9, 10, 11, 29, 30] rfl (by decide +kernel)
set_option maxRecDepth 20000 in
theorem gX6_takeNumber_X7_at : GoodIn wsX6_takeNumber (wsV RX6 48 RX7 yX7_at wsX7_at) := goodIn_app (goodIn_of _ (by decide +kernel)) ggX6_takeNumber_X7_at
set_option maxRecDepth 20000 in
theorem ggX6_takeNumber_X9_isWithin : GoodIn wsX6_takeNumber wsX9_isWithin := goodIn_r _ [14] rfl (by decide +kernel)
set_option maxRecDepth 20000 in
theorem gX6_takeNumber_X9_isWithin_n107 : GoodIn wsX6_takeNumber (wsX9_isWithin) := ggX6_takeNumber_X9_isWithin
set_option maxRecDepth 20000 in
theorem ggX6_takeNumber_X6_setFault : GoodIn wsX6_takeNumber wsX6_setFault := goodIn_r _ [19, 20, 21, 22, 23, 24, 25, 26, 27, 28] rfl (by decide +kernel)
set_option maxRecDepth 20000 in
theorem gX6_takeNumber_X6_setFault : GoodIn wsX6_takeNumber (wsV RX6 70 RX6 yX6_setFault wsX6_setFault) := goodIn_app (goodIn_of _ (by decide +kernel)) ggX6_takeNumber_X6_setFault
set_option maxRecDepth 20000 in
theorem ggX6_tokenEnd_X7_at : GoodIn wsX6_tokenEnd wsX7_at := goodIn_r _ [9, 10, 11, 22, 23] rfl (by decide +kernel)
set_option maxRecDepth 20000 in
theorem gX6_tokenEnd_X7_at : GoodIn wsX6_tokenEnd (wsV RX6 48 RX7 yX7_at wsX7_at) := goodIn_app (goodIn_of _ (by decide +kernel)) ggX6_tokenEnd_X7_at
set_option maxRecDepth 20000 in
theorem ggX6_tokenEnd_X6_isOfWordOrNumber : GoodIn wsX6_tokenEnd wsX6_isOfWordOrNumber := goodIn_r _ [15, 16, 17, 14, 18, 19, 20, 21] rfl (by decide +kernel)
set_option maxRecDepth 20000 in
theorem gX6_tokenEnd_X6_isOfWordOrNumber : GoodIn wsX6_tokenEnd (va_wsS RX6 111 yX6_isOfWordOrNumber wsX6_isOfWordOrNumber) := goodIn_app (goodIn_of _ (by decide +kernel)) ggX6_tokenEnd_X6_isOfWordOrNumber
set_option maxRecDepth 20000 in
theorem ggX6_tokenKind_X7_at : GoodIn wsX6_tokenKind wsX7_at := goodIn_r _ [5, 6, 7, 15, 16] rfl (by decide +kernel)
set_option maxRecDepth 20000 in
theorem gX6_tokenKind_X7_at : GoodIn wsX6_tokenKind (wsV RX6 48 RX7 yX7_at wsX7_at) := goodIn_app (goodIn_of _ (by decide +kernel)) ggX6_tokenKind_X7_at
set_option maxRecDepth 20000 in
theorem ggX6_tokenKind_X6_isLetter : GoodIn wsX6_tokenKind wsX6_isLetter := goodIn_r _ [11] rfl (by decide +kernel)
set_option maxRecDepth 20000 in
theorem gX6_tokenKind_X6_isLetter : GoodIn wsX6_tokenKind (va_wsS RX6 114 yX6_isLetter wsX6_isLetter) := goodIn_app (goodIn_of _ (by decide +kernel)) ggX6_tokenKind_X6_isLetter
set_option maxRecDepth 20000 in
theorem ggX6_tokenKind_X6_isDigit : GoodIn wsX6_tokenKind wsX6_isDigit := goodIn_r _ [14] rfl (by decide +kernel)
set_option maxRecDepth 20000 in
theorem gX6_tokenKind_X6_isDigit : GoodIn wsX6_tokenKind (va_wsS RX6 117 yX6_isDigit wsX6_isDigit) := goodIn_app (goodIn_of _ (by decide +kernel)) ggX6_tokenKind_X6_isDigit
set_option maxRecDepth 20000 in
theorem ggX6_ruleOf_X6_spells : GoodIn wsX6_ruleOf wsX6_spells := goodIn_r _ [4, 5, 6, 7, 8, 9, 10, 11, 12, 13, 14, 15, 16, 17, 18, 19, 20, 21, 22, 23, 24, 25, 26, 27, 28, 29, 30, 31, 32, 33, 34, 35, 36, 37, 38, 39, 40, 41, 42, 43, 44, 45, 46, 47, 48, 49, 50, 51, 52, 53, 54, 55, 56, 57, 58, 59, 60, 61, 62] rfl (by decide +kernel)
set_option maxRecDepth 20000 in
theorem gX6_ruleOf_X6_spells : GoodIn wsX6_ruleOf (va_wsS RX6 124 yX6_spells wsX6_spells) := goodIn_app (goodIn_of _ (by decide +kernel)) ggX6_ruleOf_X6_spells
set_option maxRecDepth 20000 in
theorem ggX6_spells_J0_length_8abf5 : GoodIn wsX6_spells wsJ0_length_8abf5 := goodIn_r _ [5, 6, 7, 8, 9, 4, 10, 11, 12] rfl (by decide +kernel)
set_option maxRecDepth 20000 in
theorem gX6_spells_J0_length_8abf5 : GoodIn wsX6_spells (wsV RX6 128 RJ0 yJ0_length_8abf5 wsJ0_length_8abf5) := goodIn_app (goodIn_of _ (by decide +kernel)) ggX6_spells_J0_length_8abf5
set_option maxRecDepth 20000 in
theorem ggX6_spells_X7_at : GoodIn wsX6_spells wsX7_at := goodIn_r _ [17, 18, 19, 57, 58] rfl (by decide +kernel)
set_option maxRecDepth 20000 in
theorem gX6_spells_X7_at : GoodIn wsX6_spells (wsV RX6 48 RX7 yX7_at wsX7_at) := goodIn_app (goodIn_of _ (by decide +kernel)) ggX6_spells_X7_at
set_option maxRecDepth 20000 in
theorem ggX6_spells_J0_charAt_5068e : GoodIn wsX6_spells wsJ0_charAt_5068e := goodIn_r _ [23, 6, 24, 25, 26, 4, 27, 11, 12, 28, 29, 30, 31, 32, 33, 34, 35, 36, 37, 38, 39, 40, 41, 42, 43, 44, 45, 46, 47, 48, 49, 50, 51, 52, 53, 54, 55, 56] rfl (by decide +kernel)
set_option maxRecDepth 20000 in
theorem gX6_spells_J0_charAt_5068e : GoodIn wsX6_spells (wsV RX6 133 RJ0 yJ0_charAt_5068e wsJ0_charAt_5068e) := goodIn_app (goodIn_of _ (by decide +kernel)) ggX6_spells_J0_charAt_5068e
set_option maxRecDepth 20000 in
theorem ggX6_isOfWordOrNumber_X6_isLetter : GoodIn wsX6_isOfWordOrNumber wsX6_isLetter := goodIn_r _ [4] rfl (by decide +kernel)
set_option maxRecDepth 20000 in
theorem gX6_isOfWordOrNumber_X6_isLetter : GoodIn wsX6_isOfWordOrNumber (va_wsS RX6 114 yX6_isLetter wsX6_isLetter) := goodIn_app (goodIn_of _ (by decide +kernel)) ggX6_isOfWordOrNumber_X6_isLetter
set_option maxRecDepth 20000 in
theorem ggX6_isOfWordOrNumber_X6_isDigit : GoodIn wsX6_isOfWordOrNumber wsX6_isDigit := goodIn_r _ [7] rfl (by decide +kernel)
set_option maxRecDepth 20000 in
theorem gX6_isOfWordOrNumber_X6_isDigit : GoodIn wsX6_isOfWordOrNumber (va_wsS RX6 117 yX6_isDigit wsX6_isDigit) := goodIn_app (goodIn_of _ (by decide +kernel)) ggX6_isOfWordOrNumber_X6_isDigit
set_option maxRecDepth 20000 in
theorem ggX7_shortenTo_X9_isWithin : GoodIn wsX7_shortenTo wsX9_isWithin := goodIn_r _ [4] rfl (by decide +kernel)
set_option maxRecDepth 20000 in
theorem gX7_shortenTo_X9_isWithin_n19 : GoodIn wsX7_shortenTo (wsX9_isWithin) := ggX7_shortenTo_X9_isWithin
set_option maxRecDepth 20000 in
theorem ggX8_init_X9_isWithin : GoodIn wsX8_init wsX9_isWithin := goodIn_r _ [15] rfl (by decide +kernel)
set_option maxRecDepth 20000 in
theorem gX8_init_X9_isWithin_n37 : GoodIn wsX8_init (wsX9_isWithin) := ggX8_init_X9_isWithin
set_option maxRecDepth 20000 in
theorem ggX8_heldAsOf_X9_isWithin : GoodIn wsX8_heldAsOf wsX9_isWithin := goodIn_r _ [4] rfl (by decide +kernel)
set_option maxRecDepth 20000 in
theorem gX8_heldAsOf_X9_isWithin_n37 : GoodIn wsX8_heldAsOf (wsX9_isWithin) := ggX8_heldAsOf_X9_isWithin
set_option maxRecDepth 20000 in
theorem ggX8_keepFor_X9_isWithin : GoodIn wsX8_keepFor wsX9_isWithin := goodIn_r _ [8] rfl (by decide +kernel)
set_option maxRecDepth 20000 in
theorem gX8_keepFor_X9_isWithin_n37 : GoodIn wsX8_keepFor (wsX9_isWithin) := ggX8_keepFor_X9_isWithin
set_option maxRecDepth 20000 in
theorem ggX9_init_X7_init : GoodIn wsX9_init wsX7_init := goodIn_r _ [23, 24, 2, 3, 25, 26, 40, 41] rfl (by decide +kernel)
set_option maxRecDepth 20000 in
theorem gX9_init_X7_init_n11 : GoodIn wsX9_init (wsX7_init) := ggX9_init_X7_init
set_option maxRecDepth 20000 in
theorem ggX9_init_X6_init : GoodIn wsX9_init wsX6_init := goodIn_r _ [29, 30, 2, 3, 31, 32, 33, 53, 54, 55, 56, 57, 58, 59] rfl (by decide +kernel)
set_option maxRecDepth 20000 in
theorem gX9_init_X6_init : GoodIn wsX9_init (wsX6_init) := ggX9_init_X6_init
set_option maxRecDepth 20000 in
theorem ggX9_init_X0_init : GoodIn wsX9_init wsX0_init := goodIn_r _ [35, 36, 2, 3, 31, 37, 38, 39, 60, 61, 62] rfl (by decide +kernel)
set_option maxRecDepth 20000 in
theorem gX9_init_X0_init_n43 : GoodIn wsX9_init (wsX0_init) := ggX9_init_X0_init
set_option maxRecDepth 20000 in
theorem ggX9_feed_X7_hasRoomFor : GoodIn wsX9_feed wsX7_hasRoomFor := goodIn_r _ [6, 7, 24, 25] rfl (by decide +kernel)
set_option maxRecDepth 20000 in
theorem gX9_feed_X7_hasRoomFor : GoodIn wsX9_feed (wsV RX9 48 RX7 yX7_hasRoomFor wsX7_hasRoomFor) := goodIn_app (goodIn_of _ (by decide +kernel)) ggX9_feed_X7_hasRoomFor
set_option maxRecDepth 20000 in
theorem ggX9_feed_X7_append : GoodIn wsX9_feed wsX7_append := goodIn_r _ [11, 7, 12, 24, 25] rfl (by decide +kernel)
set_option maxRecDepth 20000 in
theorem gX9_feed_X7_append : GoodIn wsX9_feed (wsV RX9 52 RX7 yX7_append wsX7_append) := goodIn_app (goodIn_of _ (by decide +kernel)) ggX9_feed_X7_append
set_option maxRecDepth 20000 in
theorem ggX9_end_X7_shortenTo : GoodIn wsX9_end wsX7_shortenTo := goodIn_r _ [6, 7, 8, 9, 10, 22, 23] rfl (by decide +kernel)
set_option maxRecDepth 20000 in
theorem gX9_end_X7_shortenTo : GoodIn wsX9_end (wsV RX9 60 RX7 yX7_shortenTo wsX7_shortenTo) := goodIn_app (goodIn_of _ (by decide +kernel)) ggX9_end_X7_shortenTo
set_option maxRecDepth 20000 in
theorem ggX9_rules_X6_read : GoodIn wsX9_rules wsX6_read := goodIn_r _ [7, 8, 9, 10, 11, 12, 13, 14, 15, 16, 17, 18, 19, 20, 21, 6, 22, 23, 24, 25, 26, 27, 28, 29, 30, 31, 32, 33, 34, 35, 36, 37, 38, 39, 40, 41, 42, 43, 44, 45, 46, 47, 48, 49, 50, 51, 52, 53, 54, 55, 56, 57, 58, 59, 60, 61, 62, 63, 64, 65, 66, 67, 68, 69, 70, 71, 72, 73, 74, 75, 76, 77, 78, 79, 80, 81, 82, 83, 84, 85, 86, 87, 88, 89, 90, 91, 92, 93, 94, 95, 96, 97, 98, 99, 100, 101, 102, 103, 104, 105, 106, 107, 108, 109, 110, 111, 112, 113, 114, 115, 116, 117, 118, 119, 120, 121, 122, 123, 124, 125, 126, 127, 128, 144, 145, 146, 147, 148, 149, 150, 151, 152] rfl (by decide +kernel)
set_option maxRecDepth 20000 in
theorem gX9_rules_X6_read : GoodIn wsX9_rules (wsV RX9 63 RX6 yX6_read wsX6_read) := goodIn_app (goodIn_of _ (by decide +kernel)) ggX9_rules_X6_read
set_option maxRecDepth 20000 in
theorem ggX9_rules_X7_shortenTo : GoodIn wsX9_rules wsX7_shortenTo := goodIn_r _ [132, 30, 121, 122, 123, 144, 145] rfl (by decide +kernel)
set_option maxRecDepth 20000 in
theorem gX9_rules_X7_shortenTo : GoodIn wsX9_rules (wsV RX9 60 RX7 yX7_shortenTo wsX7_shortenTo) := goodIn_app (goodIn_of _ (by decide +kernel)) ggX9_rules_X7_shortenTo
set_option maxRecDepth 20000 in
theorem ggX9_work_X9_isWithin : GoodIn wsX9_work wsX9_isWithin := goodIn_r _ [10] rfl (by decide +kernel)
set_option maxRecDepth 20000 in
theorem gX9_work_X9_isWithin : GoodIn wsX9_work (va_wsS RX9 77 yX9_isWithin wsX9_isWithin) := goodIn_app (goodIn_of _ (by decide +kernel)) ggX9_work_X9_isWithin
set_option maxRecDepth 20000 in
theorem ggX9_work_X8_init : GoodIn wsX9_work wsX8_init := goodIn_r _ [13, 14, 15, 16, 17, 18, 19, 20, 21, 22, 23, 24, 25, 8, 9, 10, 37, 38, 39, 40, 41, 42, 43, 44] rfl (by decide +kernel)
set_option maxRecDepth 20000 in
theorem gX9_work_X8_init : GoodIn wsX9_work (wsX8_init) := ggX9_work_X8_init
set_option maxRecDepth 20000 in
theorem ggX9_person_X9_workAt : GoodIn wsX9_person wsX9_workAt := goodIn_r _ [10, 11, 12, 25, 26, 27, 28, 29, 30, 31, 32, 33, 34, 35] rfl (by decide +kernel)
set_option maxRecDepth 20000 in
theorem gX9_person_X9_workAt : GoodIn wsX9_person (wsV RX9 90 RX9 yX9_workAt wsX9_workAt) := goodIn_app (goodIn_of _ (by decide +kernel)) ggX9_person_X9_workAt
set_option maxRecDepth 20000 in
theorem ggX9_person_X4_init : GoodIn wsX9_person wsX4_init := goodIn_r _ [15, 16, 17, 18, 19, 20, 21, 22, 23, 24, 36, 37, 38, 39, 40, 41] rfl (by decide +kernel)
set_option maxRecDepth 20000 in
theorem gX9_person_X4_init : GoodIn wsX9_person (wsX4_init) := ggX9_person_X4_init
set_option maxRecDepth 20000 in
theorem ggX9_fund_X9_isWithin : GoodIn wsX9_fund wsX9_isWithin := goodIn_r _ [9] rfl (by decide +kernel)
set_option maxRecDepth 20000 in
theorem gX9_fund_X9_isWithin : GoodIn wsX9_fund (va_wsS RX9 77 yX9_isWithin wsX9_isWithin) := goodIn_app (goodIn_of _ (by decide +kernel)) ggX9_fund_X9_isWithin
set_option maxRecDepth 20000 in
theorem ggX9_fund_X3_init : GoodIn wsX9_fund wsX3_init := goodIn_r _ [12, 13, 14, 15, 16, 17, 18, 19, 20, 21, 33, 34, 35, 36] rfl (by decide +kernel)
set_option maxRecDepth 20000 in
theorem gX9_fund_X3_init : GoodIn wsX9_fund (wsX3_init) := ggX9_fund_X3_init
set_option maxRecDepth 20000 in
theorem ggX9_give_X9_personAt : GoodIn wsX9_give wsX9_personAt := goodIn_r _ [10, 11, 12, 32, 33, 34, 35, 36, 37, 38, 39, 40, 41, 42] rfl (by decide +kernel)
set_option maxRecDepth 20000 in
theorem gX9_give_X9_personAt : GoodIn wsX9_give (wsV RX9 100 RX9 yX9_personAt wsX9_personAt) := goodIn_app (goodIn_of _ (by decide +kernel)) ggX9_give_X9_personAt
set_option maxRecDepth 20000 in
theorem ggX9_give_X9_fundAt : GoodIn wsX9_give wsX9_fundAt := goodIn_r _ [16, 17, 18, 19, 20, 9, 21, 32, 33, 34, 35, 36, 37, 38, 39, 40, 41, 42] rfl (by decide +kernel)
set_option maxRecDepth 20000 in
theorem gX9_give_X9_fundAt : GoodIn wsX9_give (wsV RX9 104 RX9 yX9_fundAt wsX9_fundAt) := goodIn_app (goodIn_of _ (by decide +kernel)) ggX9_give_X9_fundAt
set_option maxRecDepth 20000 in
theorem ggX9_give_X9_costOfBids : GoodIn wsX9_give wsX9_costOfBids := goodIn_r _ [25, 26, 27, 28, 29, 9, 30, 31, 32, 33, 34, 35, 36, 37, 38, 39, 40, 41, 42, 49, 50, 51, 52, 53, 54, 55, 56] rfl (by decide +kernel)
set_option maxRecDepth 20000 in
theorem gX9_give_X9_costOfBids : GoodIn wsX9_give (wsV RX9 111 RX9 yX9_costOfBids wsX9_costOfBids) := goodIn_app (goodIn_of _ (by decide +kernel)) ggX9_give_X9_costOfBids
set_option maxRecDepth 20000 in
theorem ggX9_bid_X9_bidderAt : GoodIn wsX9_bid wsX9_bidderAt := goodIn_r _ [6, 7, 8, 9, 5, 10, 11, 12, 13, 14, 15, 16, 17, 18, 19, 20, 21, 46, 47, 48, 49, 50, 51, 52, 53, 54, 55, 56] rfl (by decide +kernel)
set_option maxRecDepth 20000 in
theorem gX9_bid_X9_bidderAt : GoodIn wsX9_bid (wsV RX9 122 RX9 yX9_bidderAt wsX9_bidderAt) := goodIn_app (goodIn_of _ (by decide +kernel)) ggX9_bid_X9_bidderAt
set_option maxRecDepth 20000 in
theorem ggX9_bid_X9_workAt : GoodIn wsX9_bid wsX9_workAt := goodIn_r _ [25, 26, 27, 46, 47, 48, 49, 50, 51, 52, 53, 54, 55, 56] rfl (by decide +kernel)
set_option maxRecDepth 20000 in
theorem gX9_bid_X9_workAt : GoodIn wsX9_bid (wsV RX9 90 RX9 yX9_workAt wsX9_workAt) := goodIn_app (goodIn_of _ (by decide +kernel)) ggX9_bid_X9_workAt
set_option maxRecDepth 20000 in
theorem ggX9_bid_X9_isWithin : GoodIn wsX9_bid wsX9_isWithin := goodIn_r _ [21] rfl (by decide +kernel)
set_option maxRecDepth 20000 in
theorem gX9_bid_X9_isWithin : GoodIn wsX9_bid (va_wsS RX9 77 yX9_isWithin wsX9_isWithin) := goodIn_app (goodIn_of _ (by decide +kernel)) ggX9_bid_X9_isWithin
set_option maxRecDepth 20000 in
theorem ggX9_bid_X9_costOfBids : GoodIn wsX9_bid wsX9_costOfBids := goodIn_r _ [31, 26, 22, 23, 24, 5, 25, 27, 46, 47, 48, 49, 50, 51, 52, 53, 54, 55, 56, 32, 33, 34, 35, 36, 37, 38, 39] rfl (by decide +kernel)
set_option maxRecDepth 20000 in
theorem gX9_bid_X9_costOfBids : GoodIn wsX9_bid (wsV RX9 111 RX9 yX9_costOfBids wsX9_costOfBids) := goodIn_app (goodIn_of _ (by decide +kernel)) ggX9_bid_X9_costOfBids
set_option maxRecDepth 20000 in
theorem ggX9_close_X9_endRoundOf : GoodIn wsX9_close wsX9_endRoundOf := goodIn_r _ [8, 1, 9, 10, 11, 7, 12, 2, 13, 14, 15, 16, 17, 18, 19, 20, 21, 22, 23, 24, 25, 26, 27, 28, 29, 30, 31, 32, 33, 34, 35, 36, 37, 38, 39, 40, 41, 42, 43, 44, 45, 46, 47, 48, 49, 50, 51, 52, 53, 54, 55, 56, 57, 58, 59, 60, 61, 62, 63, 64, 65, 66, 67, 68, 69, 70, 71, 72, 73, 74, 75, 76, 77, 78, 79, 80, 81, 82, 83, 84, 85, 86, 87, 88, 89, 90, 91, 92, 93, 94, 95, 96, 97, 98, 99, 100, 101, 102, 103, 115, 116, 117, 118, 119, 120, 121, 122, 104, 105, 106, 107, 108, 109, 110, 111, 112, 113, 114, 123, 124, 125, 126, 127, 128, 129, 130, 131, 132, 133, 134, 135, 136, 137, 138] rfl (by decide +kernel)
set_option maxRecDepth 20000 in
theorem gX9_close_X9_endRoundOf : GoodIn wsX9_close (wsV RX9 135 RX9 yX9_endRoundOf wsX9_endRoundOf) := goodIn_app (goodIn_of _ (by decide +kernel)) ggX9_close_X9_endRoundOf
set_option maxRecDepth 20000 in
theorem ggX9_about_X9_workAt : GoodIn wsX9_about wsX9_workAt := goodIn_r _ [5, 6, 7, 19, 20, 21, 22, 23, 24, 25, 26, 27, 28, 29] rfl (by decide +kernel)
set_option maxRecDepth 20000 in
theorem gX9_about_X9_workAt : GoodIn wsX9_about (wsV RX9 90 RX9 yX9_workAt wsX9_workAt) := goodIn_app (goodIn_of _ (by decide +kernel)) ggX9_about_X9_workAt
set_option maxRecDepth 20000 in
theorem ggX9_about_X9_sumOf : GoodIn wsX9_about wsX9_sumOf := goodIn_r _ [10] rfl (by decide +kernel)
set_option maxRecDepth 20000 in
theorem gX9_about_X9_sumOf : GoodIn wsX9_about (va_wsS RX9 147 yX9_sumOf wsX9_sumOf) := goodIn_app (goodIn_of _ (by decide +kernel)) ggX9_about_X9_sumOf
set_option maxRecDepth 20000 in
theorem ggX9_price_X9_workAt : GoodIn wsX9_price wsX9_workAt := goodIn_r _ [6, 7, 8, 20, 21, 22, 23, 24, 25, 26, 27, 28, 29, 30] rfl (by decide +kernel)
set_option maxRecDepth 20000 in
theorem gX9_price_X9_workAt : GoodIn wsX9_price (wsV RX9 90 RX9 yX9_workAt wsX9_workAt) := goodIn_app (goodIn_of _ (by decide +kernel)) ggX9_price_X9_workAt
set_option maxRecDepth 20000 in
theorem ggX9_price_X9_isWithin : GoodIn wsX9_price wsX9_isWithin := goodIn_r _ [11] rfl (by decide +kernel)
set_option maxRecDepth 20000 in
theorem gX9_price_X9_isWithin : GoodIn wsX9_price (va_wsS RX9 77 yX9_isWithin wsX9_isWithin) := goodIn_app (goodIn_of _ (by decide +kernel)) ggX9_price_X9_isWithin
set_option maxRecDepth 20000 in
theorem ggX9_purse_X9_bidderAt : GoodIn wsX9_purse wsX9_bidderAt := goodIn_r _ [8, 9, 10, 11, 7, 12, 13, 14, 15, 16, 17, 18, 19, 20, 21, 22, 23, 55, 56, 57, 58, 59, 60, 61, 62, 63, 64, 65] rfl (by decide +kernel)
set_option maxRecDepth 20000 in
theorem gX9_purse_X9_bidderAt : GoodIn wsX9_purse (wsV RX9 122 RX9 yX9_bidderAt wsX9_bidderAt) := goodIn_app (goodIn_of _ (by decide +kernel)) ggX9_purse_X9_bidderAt
set_option maxRecDepth 20000 in
theorem ggX9_purse_X9_isWithin : GoodIn wsX9_purse wsX9_isWithin := goodIn_r _ [23] rfl (by decide +kernel)
set_option maxRecDepth 20000 in
theorem gX9_purse_X9_isWithin : GoodIn wsX9_purse (va_wsS RX9 77 yX9_isWithin wsX9_isWithin) := goodIn_app (goodIn_of _ (by decide +kernel)) ggX9_purse_X9_isWithin
set_option maxRecDepth 20000 in
theorem ggX9_purse_X9_fundAt : GoodIn wsX9_purse wsX9_fundAt := goodIn_r _ [18, 19, 20, 21, 22, 7, 23, 55, 56, 57, 58, 59, 60, 61, 62, 63, 64, 65] rfl (by decide +kernel)
set_option maxRecDepth 20000 in
theorem gX9_purse_X9_fundAt : GoodIn wsX9_purse (wsV RX9 104 RX9 yX9_fundAt wsX9_fundAt) := goodIn_app (goodIn_of _ (by decide +kernel)) ggX9_purse_X9_fundAt
set_option maxRecDepth 20000 in
theorem ggX9_purse_X9_costOfBids : GoodIn wsX9_purse wsX9_costOfBids := goodIn_r _ [27, 28, 29, 30, 31, 7, 32, 33, 55, 56, 57, 58, 59, 60, 61, 62, 63, 64, 65, 66, 67, 68, 69, 70, 71, 72, 73] rfl (by decide +kernel)
set_option maxRecDepth 20000 in
theorem gX9_purse_X9_costOfBids : GoodIn wsX9_purse (wsV RX9 111 RX9 yX9_costOfBids wsX9_costOfBids) := goodIn_app (goodIn_of _ (by decide +kernel)) ggX9_purse_X9_costOfBids
set_option maxRecDepth 20000 in
theorem ggX9_purse_X9_isKept : GoodIn wsX9_purse wsX9_isKept := goodIn_r _ [37, 38, 39, 40, 41, 42, 43, 7, 44, 28, 29, 30, 31, 32, 33, 49, 50, 51, 52, 53, 54, 55, 56, 57, 58, 59, 60, 61, 62, 63, 64, 65, 66, 67, 68, 69, 70, 71, 72, 73] rfl (by decide +kernel)
set_option maxRecDepth 20000 in
theorem gX9_purse_X9_isKept : GoodIn wsX9_purse (wsV RX9 160 RX9 yX9_isKept wsX9_isKept) := goodIn_app (goodIn_of _ (by decide +kernel)) ggX9_purse_X9_isKept
set_option maxRecDepth 20000 in
theorem ggX9_purse_X9_sharesHeldBy : GoodIn wsX9_purse wsX9_sharesHeldBy := goodIn_r _ [48, 28, 29, 30, 31, 7, 32, 33, 55, 56, 57, 58, 59, 60, 61, 62, 63, 64, 65, 66, 67, 68, 69, 70, 71, 72, 73] rfl (by decide +kernel)
set_option maxRecDepth 20000 in
theorem gX9_purse_X9_sharesHeldBy : GoodIn wsX9_purse (wsV RX9 164 RX9 yX9_sharesHeldBy wsX9_sharesHeldBy) := goodIn_app (goodIn_of _ (by decide +kernel)) ggX9_purse_X9_sharesHeldBy
set_option maxRecDepth 20000 in
theorem ggX9_holds_X9_workAt : GoodIn wsX9_holds wsX9_workAt := goodIn_r _ [6, 7, 8, 34, 35, 36, 37, 38, 39, 40, 41, 42, 43, 44] rfl (by decide +kernel)
set_option maxRecDepth 20000 in
theorem gX9_holds_X9_workAt : GoodIn wsX9_holds (wsV RX9 90 RX9 yX9_workAt wsX9_workAt) := goodIn_app (goodIn_of _ (by decide +kernel)) ggX9_holds_X9_workAt
set_option maxRecDepth 20000 in
theorem ggX9_holds_X9_bidderAt : GoodIn wsX9_holds wsX9_bidderAt := goodIn_r _ [12, 13, 14, 15, 5, 16, 17, 18, 19, 20, 21, 22, 23, 24, 25, 26, 27, 34, 35, 36, 37, 38, 39, 40, 41, 42, 43, 44] rfl (by decide +kernel)
set_option maxRecDepth 20000 in
theorem gX9_holds_X9_bidderAt : GoodIn wsX9_holds (wsV RX9 122 RX9 yX9_bidderAt wsX9_bidderAt) := goodIn_app (goodIn_of _ (by decide +kernel)) ggX9_holds_X9_bidderAt
set_option maxRecDepth 20000 in
theorem ggX9_holds_X9_isWithin : GoodIn wsX9_holds wsX9_isWithin := goodIn_r _ [27] rfl (by decide +kernel)
set_option maxRecDepth 20000 in
theorem gX9_holds_X9_isWithin : GoodIn wsX9_holds (va_wsS RX9 77 yX9_isWithin wsX9_isWithin) := goodIn_app (goodIn_of _ (by decide +kernel)) ggX9_holds_X9_isWithin
set_option maxRecDepth 20000 in
theorem ggX9_holds_X8_heldAsOf : GoodIn wsX9_holds wsX8_heldAsOf := goodIn_r _ [32, 33, 26, 5, 27, 45, 46, 47, 48, 49, 50, 51, 52] rfl (by decide +kernel)
set_option maxRecDepth 20000 in
theorem gX9_holds_X8_heldAsOf : GoodIn wsX9_holds (wsV RX9 167 RX8 yX8_heldAsOf wsX8_heldAsOf) := goodIn_app (goodIn_of _ (by decide +kernel)) ggX9_holds_X8_heldAsOf
set_option maxRecDepth 20000 in
theorem ggX9_asks_X9_workAt : GoodIn wsX9_asks wsX9_workAt := goodIn_r _ [5, 6, 7, 35, 36, 37, 38, 39, 40, 41, 42, 43, 44, 45] rfl (by decide +kernel)
set_option maxRecDepth 20000 in
theorem gX9_asks_X9_workAt : GoodIn wsX9_asks (wsV RX9 90 RX9 yX9_workAt wsX9_workAt) := goodIn_app (goodIn_of _ (by decide +kernel)) ggX9_asks_X9_workAt
set_option maxRecDepth 20000 in
theorem ggX9_asks_X9_bidderAt : GoodIn wsX9_asks wsX9_bidderAt := goodIn_r _ [11, 12, 13, 14, 4, 15, 16, 17, 18, 19, 20, 21, 22, 23, 24, 25, 26, 35, 36, 37, 38, 39, 40, 41, 42, 43, 44, 45] rfl (by decide +kernel)
set_option maxRecDepth 20000 in
theorem gX9_asks_X9_bidderAt : GoodIn wsX9_asks (wsV RX9 122 RX9 yX9_bidderAt wsX9_bidderAt) := goodIn_app (goodIn_of _ (by decide +kernel)) ggX9_asks_X9_bidderAt
set_option maxRecDepth 20000 in
theorem ggX9_owned_X9_workAt : GoodIn wsX9_owned wsX9_workAt := goodIn_r _ [8, 9, 10, 62, 63, 64, 65, 66, 67, 68, 69, 70, 71, 72] rfl (by decide +kernel)
set_option maxRecDepth 20000 in
theorem gX9_owned_X9_workAt : GoodIn wsX9_owned (wsV RX9 90 RX9 yX9_workAt wsX9_workAt) := goodIn_app (goodIn_of _ (by decide +kernel)) ggX9_owned_X9_workAt
set_option maxRecDepth 20000 in
theorem ggX9_owned_X9_personAt : GoodIn wsX9_owned wsX9_personAt := goodIn_r _ [14, 15, 16, 62, 63, 64, 65, 66, 67, 68, 69, 70, 71, 72] rfl (by decide +kernel)
set_option maxRecDepth 20000 in
theorem gX9_owned_X9_personAt : GoodIn wsX9_owned (wsV RX9 100 RX9 yX9_personAt wsX9_personAt) := goodIn_app (goodIn_of _ (by decide +kernel)) ggX9_owned_X9_personAt
set_option maxRecDepth 20000 in
theorem ggX9_owned_X9_isWithin : GoodIn wsX9_owned wsX9_isWithin := goodIn_r _ [19] rfl (by decide +kernel)
set_option maxRecDepth 20000 in
theorem gX9_owned_X9_isWithin : GoodIn wsX9_owned (va_wsS RX9 77 yX9_isWithin wsX9_isWithin) := goodIn_app (goodIn_of _ (by decide +kernel)) ggX9_owned_X9_isWithin
set_option maxRecDepth 20000 in
theorem ggX9_owned_X9_partOwned : GoodIn wsX9_owned wsX9_partOwned := goodIn_r _ [23, 24, 25, 26, 27, 28, 29, 30, 31, 32, 33, 18, 7, 19, 34, 35, 36, 37, 38, 39, 40, 41, 42, 43, 44, 45, 46, 17, 47, 48, 49, 50, 51, 52, 53, 54, 55, 56, 57, 58, 59, 60, 61, 73, 74, 62, 63, 64, 65, 66, 67, 68, 69, 70, 71, 72, 75, 76, 77, 78, 79, 80, 81, 82, 83, 84, 85, 86] rfl (by decide +kernel)
set_option maxRecDepth 20000 in
theorem gX9_owned_X9_partOwned : GoodIn wsX9_owned (wsV RX9 171 RX9 yX9_partOwned wsX9_partOwned) := goodIn_app (goodIn_of _ (by decide +kernel)) ggX9_owned_X9_partOwned
set_option maxRecDepth 20000 in
theorem ggX9_fundAt_X9_isWithin : GoodIn wsX9_fundAt wsX9_isWithin := goodIn_r _ [6] rfl (by decide +kernel)
set_option maxRecDepth 20000 in
theorem gX9_fundAt_X9_isWithin : GoodIn wsX9_fundAt (va_wsS RX9 77 yX9_isWithin wsX9_isWithin) := goodIn_app (goodIn_of _ (by decide +kernel)) ggX9_fundAt_X9_isWithin
set_option maxRecDepth 20000 in
theorem ggX9_bidderAt_X9_personAt : GoodIn wsX9_bidderAt wsX9_personAt := goodIn_r _ [5, 6, 7, 17, 18, 19, 20, 21, 22, 23, 24, 25, 26, 27] rfl (by decide +kernel)
set_option maxRecDepth 20000 in
theorem gX9_bidderAt_X9_personAt : GoodIn wsX9_bidderAt (wsV RX9 100 RX9 yX9_personAt wsX9_personAt) := goodIn_app (goodIn_of _ (by decide +kernel)) ggX9_bidderAt_X9_personAt
set_option maxRecDepth 20000 in
theorem ggX9_bidderAt_X9_fundAt : GoodIn wsX9_bidderAt wsX9_fundAt := goodIn_r _ [11, 12, 13, 14, 15, 4, 16, 17, 18, 19, 20, 21, 22, 23, 24, 25, 26, 27] rfl (by decide +kernel)
set_option maxRecDepth 20000 in
theorem gX9_bidderAt_X9_fundAt : GoodIn wsX9_bidderAt (wsV RX9 104 RX9 yX9_fundAt wsX9_fundAt) := goodIn_app (goodIn_of _ (by decide +kernel)) ggX9_bidderAt_X9_fundAt
set_option maxRecDepth 20000 in
theorem ggX9_costOfBids_X9_workAt : GoodIn wsX9_costOfBids wsX9_workAt := goodIn_r _ [6, 1, 7, 8, 9, 10, 11, 12, 13, 14, 15, 16, 17, 18] rfl (by decide +kernel)
set_option maxRecDepth 20000 in
theorem gX9_costOfBids_X9_workAt : GoodIn wsX9_costOfBids (wsV RX9 90 RX9 yX9_workAt wsX9_workAt) := goodIn_app (goodIn_of _ (by decide +kernel)) ggX9_costOfBids_X9_workAt
set_option maxRecDepth 20000 in
theorem ggX9_sharesHeldBy_X9_workAt : GoodIn wsX9_sharesHeldBy wsX9_workAt := goodIn_r _ [6, 1, 7, 8, 9, 10, 11, 12, 13, 14, 15, 16, 17, 18] rfl (by decide +kernel)
set_option maxRecDepth 20000 in
theorem gX9_sharesHeldBy_X9_workAt : GoodIn wsX9_sharesHeldBy (wsV RX9 90 RX9 yX9_workAt wsX9_workAt) := goodIn_app (goodIn_of _ (by decide +kernel)) ggX9_sharesHeldBy_X9_workAt
set_option maxRecDepth 20000 in
theorem ggX9_worthHeldBy_X9_workAt : GoodIn wsX9_worthHeldBy wsX9_workAt := goodIn_r _ [6, 1, 7, 8, 9, 10, 11, 12, 13, 14, 15, 16, 17, 18] rfl (by decide +kernel)
set_option maxRecDepth 20000 in
theorem gX9_worthHeldBy_X9_workAt : GoodIn wsX9_worthHeldBy (wsV RX9 90 RX9 yX9_workAt wsX9_workAt) := goodIn_app (goodIn_of _ (by decide +kernel)) ggX9_worthHeldBy_X9_workAt
set_option maxRecDepth 20000 in
theorem ggX9_isKept_X9_worthHeldBy : GoodIn wsX9_isKept wsX9_worthHeldBy := goodIn_r _ [8, 9, 10, 11, 12, 7, 13, 14, 21, 22, 23, 24, 25, 26, 27, 28, 29, 30, 31, 32, 33, 34, 35, 36, 37, 38, 39] rfl (by decide +kernel)
set_option maxRecDepth 20000 in
theorem gX9_isKept_X9_worthHeldBy : GoodIn wsX9_isKept (wsV RX9 189 RX9 yX9_worthHeldBy wsX9_worthHeldBy) := goodIn_app (goodIn_of _ (by decide +kernel)) ggX9_isKept_X9_worthHeldBy
set_option maxRecDepth 20000 in
theorem ggX9_partOwned_X8_heldAsOf : GoodIn wsX9_partOwned wsX8_heldAsOf := goodIn_r _ [9, 10, 11, 12, 13, 60, 61, 62, 63, 64, 65, 66, 67] rfl (by decide +kernel)
set_option maxRecDepth 20000 in
theorem gX9_partOwned_X8_heldAsOf : GoodIn wsX9_partOwned (wsV RX9 167 RX8 yX8_heldAsOf wsX8_heldAsOf) := goodIn_app (goodIn_of _ (by decide +kernel)) ggX9_partOwned_X8_heldAsOf
set_option maxRecDepth 20000 in
theorem ggX9_partOwned_X2_init : GoodIn wsX9_partOwned wsX2_init := goodIn_r _ [16, 17, 18, 19, 20, 21, 43, 44] rfl (by decide +kernel)
set_option maxRecDepth 20000 in
theorem gX9_partOwned_X2_init : GoodIn wsX9_partOwned (wsX2_init) := ggX9_partOwned_X2_init
set_option maxRecDepth 20000 in
theorem ggX9_partOwned_X9_fundAt : GoodIn wsX9_partOwned wsX9_fundAt := goodIn_r _ [25, 4, 26, 27, 11, 12, 13, 45, 46, 47, 48, 49, 50, 51, 52, 53, 54, 55] rfl (by decide +kernel)
set_option maxRecDepth 20000 in
theorem gX9_partOwned_X9_fundAt : GoodIn wsX9_partOwned (wsV RX9 104 RX9 yX9_fundAt wsX9_fundAt) := goodIn_app (goodIn_of _ (by decide +kernel)) ggX9_partOwned_X9_fundAt
set_option maxRecDepth 20000 in
theorem ggX9_partOwned_X2_add : GoodIn wsX9_partOwned wsX2_add := goodIn_r _ [31, 21, 20, 32, 33, 34, 3, 35, 36, 37, 38, 43, 44] rfl (by decide +kernel)
set_option maxRecDepth 20000 in
theorem gX9_partOwned_X2_add : GoodIn wsX9_partOwned (wsV RX9 198 RX2 yX2_add wsX2_add) := goodIn_app (goodIn_of _ (by decide +kernel)) ggX9_partOwned_X2_add
set_option maxRecDepth 20000 in
theorem ggX9_partOwned_X2_divideBy : GoodIn wsX9_partOwned wsX2_divideBy := goodIn_r _ [42, 20, 32, 33, 34, 3, 35, 21, 36, 37, 38, 43, 44] rfl (by decide +kernel)
set_option maxRecDepth 20000 in
theorem gX9_partOwned_X2_divideBy : GoodIn wsX9_partOwned (wsV RX9 202 RX2 yX2_divideBy wsX2_divideBy) := goodIn_app (goodIn_of _ (by decide +kernel)) ggX9_partOwned_X2_divideBy
set_option maxRecDepth 20000 in
theorem ggX9_endRoundOf_X9_workAt : GoodIn wsX9_endRoundOf wsX9_workAt := goodIn_r _ [6, 7, 8, 107, 108, 109, 110, 111, 112, 113, 114, 115, 116, 117] rfl (by decide +kernel)
set_option maxRecDepth 20000 in
theorem gX9_endRoundOf_X9_workAt : GoodIn wsX9_endRoundOf (wsV RX9 90 RX9 yX9_workAt wsX9_workAt) := goodIn_app (goodIn_of _ (by decide +kernel)) ggX9_endRoundOf_X9_workAt
set_option maxRecDepth 20000 in
theorem ggX9_endRoundOf_X9_sellToWorkers : GoodIn wsX9_endRoundOf wsX9_sellToWorkers := goodIn_r _ [12, 13, 14, 15, 16, 17, 18, 19, 20, 21, 22, 23, 5, 24, 25, 26, 27, 28, 29, 30, 31, 32, 33, 34, 35, 36, 37, 38, 39, 40, 41, 42, 43, 44, 45, 46, 47, 48, 49, 50, 51, 52, 53, 54, 55, 56, 57, 58, 59, 60, 61, 62, 63, 64, 65, 66, 67, 68, 107, 108, 109, 110, 111, 112, 113, 114, 115, 116, 117, 118, 119, 120, 121, 122, 99, 100, 101, 102, 103, 104, 105, 106, 123, 124, 125, 126, 127, 128, 129, 130, 131, 132, 133] rfl (by decide +kernel)
set_option maxRecDepth 20000 in
theorem gX9_endRoundOf_X9_sellToWorkers : GoodIn wsX9_endRoundOf (wsV RX9 205 RX9 yX9_sellToWorkers wsX9_sellToWorkers) := goodIn_app (goodIn_of _ (by decide +kernel)) ggX9_endRoundOf_X9_sellToWorkers
set_option maxRecDepth 20000 in
theorem ggX9_endRoundOf_X9_sellToAll : GoodIn wsX9_endRoundOf wsX9_sellToAll := goodIn_r _ [72, 13, 73, 74, 75, 76, 14, 77, 78, 42, 5, 43, 27, 28, 29, 30, 31, 32, 33, 34, 35, 36, 37, 38, 39, 17, 18, 19, 40, 41, 44, 45, 46, 47, 51, 52, 53, 54, 55, 56, 57, 58, 59, 21, 22, 23, 24, 25, 26, 60, 61, 62, 63, 64, 65, 66, 67, 68, 79, 80, 81, 82, 83, 16, 84, 85, 86, 87, 88, 48, 49, 50, 99, 100, 101, 102, 103, 104, 105, 106, 107, 108, 109, 110, 111, 112, 113, 114, 115, 116, 117, 118, 119, 120, 123, 124, 125, 126, 127, 128, 129, 130, 131, 132, 133, 121, 122] rfl (by decide +kernel)
set_option maxRecDepth 20000 in
theorem gX9_endRoundOf_X9_sellToAll : GoodIn wsX9_endRoundOf (wsV RX9 209 RX9 yX9_sellToAll wsX9_sellToAll) := goodIn_app (goodIn_of _ (by decide +kernel)) ggX9_endRoundOf_X9_sellToAll
set_option maxRecDepth 20000 in
theorem ggX9_endRoundOf_X8_keepFor : GoodIn wsX9_endRoundOf wsX8_keepFor := goodIn_r _ [93, 94, 95, 96, 97, 98, 67, 5, 68, 99, 100, 101, 102, 103, 104, 105, 106] rfl (by decide +kernel)
set_option maxRecDepth 20000 in
theorem gX9_endRoundOf_X8_keepFor : GoodIn wsX9_endRoundOf (wsV RX9 213 RX8 yX8_keepFor wsX8_keepFor) := goodIn_app (goodIn_of _ (by decide +kernel)) ggX9_endRoundOf_X8_keepFor
set_option maxRecDepth 20000 in
theorem ggX9_sellToWorkers_X9_personAt : GoodIn wsX9_sellToWorkers wsX9_personAt := goodIn_r _ [13, 14, 15, 58, 59, 60, 61, 62, 63, 64, 65, 66, 67, 68] rfl (by decide +kernel)
set_option maxRecDepth 20000 in
theorem gX9_sellToWorkers_X9_personAt : GoodIn wsX9_sellToWorkers (wsV RX9 100 RX9 yX9_personAt wsX9_personAt) := goodIn_app (goodIn_of _ (by decide +kernel)) ggX9_sellToWorkers_X9_personAt
set_option maxRecDepth 20000 in
theorem ggX9_sellToWorkers_X6_valueOf : GoodIn wsX9_sellToWorkers wsX6_valueOf := goodIn_r _ [20, 21, 82, 83, 84, 85, 86, 87, 88] rfl (by decide +kernel)
set_option maxRecDepth 20000 in
theorem gX9_sellToWorkers_X6_valueOf : GoodIn wsX9_sellToWorkers (wsV RX9 228 RX6 yX6_valueOf wsX6_valueOf) := goodIn_app (goodIn_of _ (by decide +kernel)) ggX9_sellToWorkers_X6_valueOf
set_option maxRecDepth 20000 in
theorem ggX9_sellToWorkers_X0_cutBackTo : GoodIn wsX9_sellToWorkers wsX0_cutBackTo := goodIn_r _ [26, 27, 28, 5, 6, 7, 29, 30, 31, 12, 32, 33, 34, 35, 25, 36, 69, 70, 71] rfl (by decide +kernel)
set_option maxRecDepth 20000 in
theorem gX9_sellToWorkers_X0_cutBackTo : GoodIn wsX9_sellToWorkers (wsV RX9 237 RX0 yX0_cutBackTo wsX0_cutBackTo) := goodIn_app (goodIn_of _ (by decide +kernel)) ggX9_sellToWorkers_X0_cutBackTo
set_option maxRecDepth 20000 in
theorem ggX9_sellToWorkers_X9_dividedUp : GoodIn wsX9_sellToWorkers wsX9_dividedUp := goodIn_r _ [39] rfl (by decide +kernel)
set_option maxRecDepth 20000 in
theorem gX9_sellToWorkers_X9_dividedUp : GoodIn wsX9_sellToWorkers (va_wsS RX9 243 yX9_dividedUp wsX9_dividedUp) := goodIn_app (goodIn_of _ (by decide +kernel)) ggX9_sellToWorkers_X9_dividedUp
set_option maxRecDepth 20000 in
theorem ggX9_sellToWorkers_X9_handOver : GoodIn wsX9_sellToWorkers wsX9_handOver := goodIn_r _ [43, 1, 44, 45, 46, 47, 12, 48, 9, 10, 11, 13, 14, 15, 49, 50, 51, 52, 53, 54, 55, 56, 57, 58, 59, 60, 61, 62, 63, 64, 65, 66, 67, 68, 69, 70, 71, 89, 90, 91, 92, 72, 73, 74, 75, 76, 77, 78, 79, 80, 81] rfl (by decide +kernel)
set_option maxRecDepth 20000 in
theorem gX9_sellToWorkers_X9_handOver : GoodIn wsX9_sellToWorkers (wsV RX9 246 RX9 yX9_handOver wsX9_handOver) := goodIn_app (goodIn_of _ (by decide +kernel)) ggX9_sellToWorkers_X9_handOver
set_option maxRecDepth 20000 in
theorem ggX9_sellToAll_X9_sumOf : GoodIn wsX9_sellToAll wsX9_sumOf := goodIn_r _ [11] rfl (by decide +kernel)
set_option maxRecDepth 20000 in
theorem gX9_sellToAll_X9_sumOf : GoodIn wsX9_sellToAll (va_wsS RX9 147 yX9_sumOf wsX9_sumOf) := goodIn_app (goodIn_of _ (by decide +kernel)) ggX9_sellToAll_X9_sumOf
set_option maxRecDepth 20000 in
theorem ggX9_sellToAll_X6_valueOf : GoodIn wsX9_sellToAll wsX6_valueOf := goodIn_r _ [16, 17, 94, 95, 96, 97, 98, 99, 100] rfl (by decide +kernel)
set_option maxRecDepth 20000 in
theorem gX9_sellToAll_X6_valueOf : GoodIn wsX9_sellToAll (wsV RX9 228 RX6 yX6_valueOf wsX6_valueOf) := goodIn_app (goodIn_of _ (by decide +kernel)) ggX9_sellToAll_X6_valueOf
set_option maxRecDepth 20000 in
theorem ggX9_sellToAll_X0_cutBackTo : GoodIn wsX9_sellToAll wsX0_cutBackTo := goodIn_r _ [22, 23, 24, 25, 26, 27, 28, 29, 9, 10, 11, 30, 31, 32, 21, 33, 91, 92, 93] rfl (by decide +kernel)
set_option maxRecDepth 20000 in
theorem gX9_sellToAll_X0_cutBackTo : GoodIn wsX9_sellToAll (wsV RX9 237 RX0 yX0_cutBackTo wsX0_cutBackTo) := goodIn_app (goodIn_of _ (by decide +kernel)) ggX9_sellToAll_X0_cutBackTo
set_option maxRecDepth 20000 in
theorem ggX9_sellToAll_X9_handOver : GoodIn wsX9_sellToAll wsX9_handOver := goodIn_r _ [37, 1, 38, 39, 40, 41, 10, 42, 43, 44, 45, 46, 47, 48, 49, 50, 51, 52, 53, 54, 55, 56, 57, 80, 81, 82, 83, 84, 85, 86, 87, 88, 89, 90, 91, 92, 93, 101, 102, 103, 104, 105, 106, 72, 73, 74, 75, 76, 77, 78, 79] rfl (by decide +kernel)
set_option maxRecDepth 20000 in
theorem gX9_sellToAll_X9_handOver : GoodIn wsX9_sellToAll (wsV RX9 246 RX9 yX9_handOver wsX9_handOver) := goodIn_app (goodIn_of _ (by decide +kernel)) ggX9_sellToAll_X9_handOver
set_option maxRecDepth 20000 in
theorem ggX9_sellToAll_X9_movedPrice : GoodIn wsX9_sellToAll wsX9_movedPrice := goodIn_r _ [61, 6, 62, 63, 25, 26, 27, 64, 65, 66, 67, 68, 69, 70, 10, 71, 12, 13, 14, 15, 16, 17, 80, 81, 82, 83, 84, 85, 86, 87, 88, 89, 90, 94, 95, 96, 97, 98, 99, 100] rfl (by decide +kernel)
set_option maxRecDepth 20000 in
theorem gX9_sellToAll_X9_movedPrice : GoodIn wsX9_sellToAll (wsV RX9 258 RX9 yX9_movedPrice wsX9_movedPrice) := goodIn_app (goodIn_of _ (by decide +kernel)) ggX9_sellToAll_X9_movedPrice
set_option maxRecDepth 20000 in
theorem ggX9_handOver_X9_bidderAt : GoodIn wsX9_handOver wsX9_bidderAt := goodIn_r _ [7, 8, 9, 10, 6, 11, 12, 13, 14, 15, 16, 17, 18, 19, 20, 21, 22, 23, 24, 25, 26, 27, 28, 29, 30, 31, 32, 33] rfl (by decide +kernel)
set_option maxRecDepth 20000 in
theorem gX9_handOver_X9_bidderAt : GoodIn wsX9_handOver (wsV RX9 122 RX9 yX9_bidderAt wsX9_bidderAt) := goodIn_app (goodIn_of _ (by decide +kernel)) ggX9_handOver_X9_bidderAt
set_option maxRecDepth 20000 in
theorem ggX9_movedPrice_X9_dividedUp : GoodIn wsX9_movedPrice wsX9_dividedUp := goodIn_r _ [15] rfl (by decide +kernel)
set_option maxRecDepth 20000 in
theorem gX9_movedPrice_X9_dividedUp : GoodIn wsX9_movedPrice (va_wsS RX9 243 yX9_dividedUp wsX9_dividedUp) := goodIn_app (goodIn_of _ (by decide +kernel)) ggX9_movedPrice_X9_dividedUp
set_option maxRecDepth 20000 in
theorem ggX9_movedPrice_X6_valueOf : GoodIn wsX9_movedPrice wsX6_valueOf := goodIn_r _ [20, 21, 33, 34, 35, 36, 37, 38, 39] rfl (by decide +kernel)
set_option maxRecDepth 20000 in
theorem gX9_movedPrice_X6_valueOf : GoodIn wsX9_movedPrice (wsV RX9 228 RX6 yX6_valueOf wsX6_valueOf) := goodIn_app (goodIn_of _ (by decide +kernel)) ggX9_movedPrice_X6_valueOf
set_option maxRecDepth 20000 in
theorem ggJ0_length_8abf5_J0_coder_7d493 : GoodIn wsJ0_length_8abf5 wsJ0_coder_7d493 := goodIn_r _ [6, 7, 8] rfl (by decide +kernel)
set_option maxRecDepth 20000 in
theorem gJ0_length_8abf5_J0_coder_7d493 : GoodIn wsJ0_length_8abf5 (wsV RJ0 335 RJ0 yJ0_coder_7d493 wsJ0_coder_7d493) := goodIn_app (goodIn_of _ (by decide +kernel)) ggJ0_length_8abf5_J0_coder_7d493
set_option maxRecDepth 20000 in
theorem ggJ0_charAt_5068e_J0_isLatin1_aae02 : GoodIn wsJ0_charAt_5068e wsJ0_isLatin1_aae02 := goodIn_r _ [6, 7, 8] rfl (by decide +kernel)
set_option maxRecDepth 20000 in
theorem gJ0_charAt_5068e_J0_isLatin1_aae02 : GoodIn wsJ0_charAt_5068e (wsV RJ0 492 RJ0 yJ0_isLatin1_aae02 wsJ0_isLatin1_aae02) := goodIn_app (goodIn_of _ (by decide +kernel)) ggJ0_charAt_5068e_J0_isLatin1_aae02
set_option maxRecDepth 20000 in
theorem ggJ0_charAt_5068e_J1_charAt_3b067 : GoodIn wsJ0_charAt_5068e wsJ1_charAt_3b067 := goodIn_r _ [12, 13, 14, 5, 15, 16, 17, 18, 19, 20] rfl (by decide +kernel)
set_option maxRecDepth 20000 in
theorem gJ0_charAt_5068e_J1_charAt_3b067 : GoodIn wsJ0_charAt_5068e (va_wsS RJ0 495 yJ1_charAt_3b067 wsJ1_charAt_3b067) := goodIn_app (goodIn_of _ (by decide +kernel)) ggJ0_charAt_5068e_J1_charAt_3b067
set_option maxRecDepth 20000 in
theorem ggJ0_charAt_5068e_J2_charAt_3b067 : GoodIn wsJ0_charAt_5068e wsJ2_charAt_3b067 := goodIn_r _ [24, 25, 26, 23, 27, 28, 29, 30, 31, 14, 5, 15, 16, 17, 18, 19, 20, 32, 33, 34, 35, 36, 37] rfl (by decide +kernel)
set_option maxRecDepth 20000 in
theorem gJ0_charAt_5068e_J2_charAt_3b067 : GoodIn wsJ0_charAt_5068e (va_wsS RJ0 498 yJ2_charAt_3b067 wsJ2_charAt_3b067) := goodIn_app (goodIn_of _ (by decide +kernel)) ggJ0_charAt_5068e_J2_charAt_3b067
set_option maxRecDepth 20000 in
theorem ggJ0_checkIndex_df160_J3_checkIndex_8e157 : GoodIn wsJ0_checkIndex_df160 wsJ3_checkIndex_8e157 := goodIn_r _ [5] rfl (by decide +kernel)
set_option maxRecDepth 20000 in
theorem gJ0_checkIndex_df160_J3_checkIndex_8e157 : GoodIn wsJ0_checkIndex_df160 (va_wsS RJ0 1059 yJ3_checkIndex_8e157 wsJ3_checkIndex_8e157) := goodIn_app (goodIn_of _ (by decide +kernel)) ggJ0_checkIndex_df160_J3_checkIndex_8e157
set_option maxRecDepth 20000 in
theorem ggJ1_charAt_3b067_J0_checkIndex_df160 : GoodIn wsJ1_charAt_3b067 wsJ0_checkIndex_df160 := goodIn_r _ [4, 5, 6, 7, 8, 9] rfl (by decide +kernel)
set_option maxRecDepth 20000 in
theorem gJ1_charAt_3b067_J0_checkIndex_df160 : GoodIn wsJ1_charAt_3b067 (va_wsS RJ1 9 yJ0_checkIndex_df160 wsJ0_checkIndex_df160) := goodIn_app (goodIn_of _ (by decide +kernel)) ggJ1_charAt_3b067_J0_checkIndex_df160
set_option maxRecDepth 20000 in
theorem ggJ2_getChar_3b067_J2_length_9d52b : GoodIn wsJ2_getChar_3b067 wsJ2_length_9d52b := goodIn_r _ [7] rfl (by decide +kernel)
set_option maxRecDepth 20000 in
theorem gJ2_getChar_3b067_J2_length_9d52b : GoodIn wsJ2_getChar_3b067 (va_wsS RJ2 48 yJ2_length_9d52b wsJ2_length_9d52b) := goodIn_app (goodIn_of _ (by decide +kernel)) ggJ2_getChar_3b067_J2_length_9d52b
set_option maxRecDepth 20000 in
theorem ggJ2_charAt_3b067_J2_checkIndex_2214a : GoodIn wsJ2_charAt_3b067 wsJ2_checkIndex_2214a := goodIn_r _ [4, 5, 6, 3, 7, 8, 9, 10, 11, 12, 13, 14, 15, 16] rfl (by decide +kernel)
set_option maxRecDepth 20000 in
theorem gJ2_charAt_3b067_J2_checkIndex_2214a : GoodIn wsJ2_charAt_3b067 (va_wsS RJ2 67 yJ2_checkIndex_2214a wsJ2_checkIndex_2214a) := goodIn_app (goodIn_of _ (by decide +kernel)) ggJ2_charAt_3b067_J2_checkIndex_2214a
set_option maxRecDepth 20000 in
theorem ggJ2_charAt_3b067_J2_getChar_3b067 : GoodIn wsJ2_charAt_3b067 wsJ2_getChar_3b067 := goodIn_r _ [19, 20, 21, 22, 5, 6, 3, 7] rfl (by decide +kernel)
set_option maxRecDepth 20000 in
theorem gJ2_charAt_3b067_J2_getChar_3b067 : GoodIn wsJ2_charAt_3b067 (va_wsS RJ2 71 yJ2_getChar_3b067 wsJ2_getChar_3b067) := goodIn_app (goodIn_of _ (by decide +kernel)) ggJ2_charAt_3b067_J2_getChar_3b067
set_option maxRecDepth 20000 in
theorem ggJ2_checkIndex_2214a_J2_length_9d52b : GoodIn wsJ2_checkIndex_2214a wsJ2_length_9d52b := goodIn_r _ [4] rfl (by decide +kernel)
set_option maxRecDepth 20000 in
theorem gJ2_checkIndex_2214a_J2_length_9d52b : GoodIn wsJ2_checkIndex_2214a (va_wsS RJ2 48 yJ2_length_9d52b wsJ2_length_9d52b) := goodIn_app (goodIn_of _ (by decide +kernel)) ggJ2_checkIndex_2214a_J2_length_9d52b
set_option maxRecDepth 20000 in
theorem ggJ2_checkIndex_2214a_J0_checkIndex_df160 : GoodIn wsJ2_checkIndex_2214a wsJ0_checkIndex_df160 := goodIn_r _ [8, 9, 10, 11, 12, 13] rfl (by decide +kernel)
set_option maxRecDepth 20000 in
theorem gJ2_checkIndex_2214a_J0_checkIndex_df160 : GoodIn wsJ2_checkIndex_2214a (va_wsS RJ2 414 yJ0_checkIndex_df160 wsJ0_checkIndex_df160) := goodIn_app (goodIn_of _ (by decide +kernel)) ggJ2_checkIndex_2214a_J0_checkIndex_df160
