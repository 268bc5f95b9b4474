set_option maxRecDepth 100000 in
theorem ck_X1_takes : mx_okM (yX1_takes, cX1_takes, 4, (some .int), kk_X1_takes) = true := by decide +kernel
set_option maxRecDepth 100000 in
theorem cw_X1_takes : mx_okW (yX1_takes, cX1_takes, 4, (some .int), kk_X1_takes) = true := by decide +kernel
set_option maxRecDepth 100000 in
theorem ck_X1_loses : mx_okM (yX1_loses, cX1_loses, 4, (some .int), kk_X1_loses) = true := by decide +kernel
set_option maxRecDepth 100000 in
theorem cw_X1_loses : mx_okW (yX1_loses, cX1_loses, 4, (some .int), kk_X1_loses) = true := by decide +kernel
set_option maxRecDepth 100000 in
theorem ck_X1_bags : mx_okM (yX1_bags, cX1_bags, 3, (some .int), kk_X1_bags) = true := by decide +kernel
set_option maxRecDepth 100000 in
theorem cw_X1_bags : mx_okW (yX1_bags, cX1_bags, 3, (some .int), kk_X1_bags) = true := by decide +kernel
set_option maxRecDepth 100000 in
theorem ck_X1_worth : mx_okM (yX1_worth, cX1_worth, 4, (some .int), kk_X1_worth) = true := by decide +kernel
set_option maxRecDepth 100000 in
theorem cw_X1_worth : mx_okW (yX1_worth, cX1_worth, 4, (some .int), kk_X1_worth) = true := by decide +kernel
set_option maxRecDepth 100000 in
theorem ck_X2_init : mx_okM (yX2_init, cX2_init, 1, none, kk_X2_init) = true := by decide +kernel
set_option maxRecDepth 100000 in
theorem cw_X2_init : mx_okW (yX2_init, cX2_init, 1, none, kk_X2_init) = true := by decide +kernel
set_option maxRecDepth 100000 in
theorem ck_X2_faultOf : mx_okM (yX2_faultOf, cX2_faultOf, 5, (some .int), kk_X2_faultOf) = true := by decide +kernel
set_option maxRecDepth 100000 in
theorem cw_X2_faultOf : mx_okW (yX2_faultOf, cX2_faultOf, 5, (some .int), kk_X2_faultOf) = true := by decide +kernel
set_option maxRecDepth 100000 in
theorem ck_X2_textRead : mx_okM (yX2_textRead, cX2_textRead, 1, (some (.object "CreaseLines$Text")), kk_X2_textRead) = true := by decide +kernel
set_option maxRecDepth 100000 in
theorem cw_X2_textRead : mx_okW (yX2_textRead, cX2_textRead, 1, (some (.object "CreaseLines$Text")), kk_X2_textRead) = true := by decide +kernel
set_option maxRecDepth 100000 in
theorem ck_X2_begin : mx_okM (yX2_begin, cX2_begin, 3, none, kk_X2_begin) = true := by decide +kernel
set_option maxRecDepth 100000 in
theorem cw_X2_begin : mx_okW (yX2_begin, cX2_begin, 3, none, kk_X2_begin) = true := by decide +kernel
set_option maxRecDepth 100000 in
theorem ck_X2_isWhole : mx_okM (yX2_isWhole, cX2_isWhole, 1, (some .boolean), kk_X2_isWhole) = true := by decide +kernel
set_option maxRecDepth 100000 in
theorem cw_X2_isWhole : mx_okW (yX2_isWhole, cX2_isWhole, 1, (some .boolean), kk_X2_isWhole) = true := by decide +kernel
set_option maxRecDepth 100000 in
theorem ck_X2_nextWord : mx_okM (yX2_nextWord, cX2_nextWord, 3, none, kk_X2_nextWord) = true := by decide +kernel
set_option maxRecDepth 100000 in
theorem cw_X2_nextWord : mx_okW (yX2_nextWord, cX2_nextWord, 3, none, kk_X2_nextWord) = true := by decide +kernel
set_option maxRecDepth 100000 in
theorem ck_X2_sortOf : mx_okM (yX2_sortOf, cX2_sortOf, 1, (some .int), kk_X2_sortOf) = true := by decide +kernel
set_option maxRecDepth 100000 in
theorem cw_X2_sortOf : mx_okW (yX2_sortOf, cX2_sortOf, 1, (some .int), kk_X2_sortOf) = true := by decide +kernel
set_option maxRecDepth 100000 in
theorem ck_X2_keyOfWord : mx_okM (yX2_keyOfWord, cX2_keyOfWord, 1, (some .int), kk_X2_keyOfWord) = true := by decide +kernel
set_option maxRecDepth 100000 in
theorem cw_X2_keyOfWord : mx_okW (yX2_keyOfWord, cX2_keyOfWord, 1, (some .int), kk_X2_keyOfWord) = true := by decide +kernel
set_option maxRecDepth 100000 in
theorem ck_X2_isWord : mx_okM (yX2_isWord, cX2_isWord, 3, (some .boolean), kk_X2_isWord) = true := by decide +kernel
set_option maxRecDepth 100000 in
theorem cw_X2_isWord : mx_okW (yX2_isWord, cX2_isWord, 3, (some .boolean), kk_X2_isWord) = true := by decide +kernel
set_option maxRecDepth 100000 in
theorem ck_X2_takesPiece : mx_okM (yX2_takesPiece, cX2_takesPiece, 1, (some .boolean), kk_X2_takesPiece) = true := by decide +kernel
set_option maxRecDepth 100000 in
theorem cw_X2_takesPiece : mx_okW (yX2_takesPiece, cX2_takesPiece, 1, (some .boolean), kk_X2_takesPiece) = true := by decide +kernel
set_option maxRecDepth 100000 in
theorem ck_X2_takesNumber : mx_okM (yX2_takesNumber, cX2_takesNumber, 3, (some .boolean), kk_X2_takesNumber) = true := by decide +kernel
set_option maxRecDepth 100000 in
theorem cw_X2_takesNumber : mx_okW (yX2_takesNumber, cX2_takesNumber, 3, (some .boolean), kk_X2_takesNumber) = true := by decide +kernel
set_option maxRecDepth 100000 in
theorem ck_X2_takesName : mx_okM (yX2_takesName, cX2_takesName, 2, (some .boolean), kk_X2_takesName) = true := by decide +kernel
set_option maxRecDepth 100000 in
theorem cw_X2_takesName : mx_okW (yX2_takesName, cX2_takesName, 2, (some .boolean), kk_X2_takesName) = true := by decide +kernel
set_option maxRecDepth 100000 in
theorem ck_X2_namesOfKey : mx_okM (yX2_namesOfKey, cX2_namesOfKey, 1, (some (.object "java/lang/String")), kk_X2_namesOfKey) = true := by decide +kernel
set_option maxRecDepth 100000 in
theorem cw_X2_namesOfKey : mx_okW (yX2_namesOfKey, cX2_namesOfKey, 1, (some (.object "java/lang/String")), kk_X2_namesOfKey) = true := by decide +kernel
set_option maxRecDepth 100000 in
theorem ck_X2_takesOpening : mx_okM (yX2_takesOpening, cX2_takesOpening, 2, (some .boolean), kk_X2_takesOpening) = true := by decide +kernel
set_option maxRecDepth 100000 in
theorem cw_X2_takesOpening : mx_okW (yX2_takesOpening, cX2_takesOpening, 2, (some .boolean), kk_X2_takesOpening) = true := by decide +kernel
set_option maxRecDepth 100000 in
theorem ck_X2_endLeaf : mx_okM (yX2_endLeaf, cX2_endLeaf, 2, none, kk_X2_endLeaf) = true := by decide +kernel
set_option maxRecDepth 100000 in
theorem cw_X2_endLeaf : mx_okW (yX2_endLeaf, cX2_endLeaf, 2, none, kk_X2_endLeaf) = true := by decide +kernel
set_option maxRecDepth 100000 in
theorem ck_X2_endPiece : mx_okM (yX2_endPiece, cX2_endPiece, 1, none, kk_X2_endPiece) = true := by decide +kernel
set_option maxRecDepth 100000 in
theorem cw_X2_endPiece : mx_okW (yX2_endPiece, cX2_endPiece, 1, none, kk_X2_endPiece) = true := by decide +kernel
set_option maxRecDepth 100000 in
theorem ck_X2_takesSign : mx_okM (yX2_takesSign, cX2_takesSign, 3, (some .boolean), kk_X2_takesSign) = true := by decide +kernel
set_option maxRecDepth 100000 in
theorem cw_X2_takesSign : mx_okW (yX2_takesSign, cX2_takesSign, 3, (some .boolean), kk_X2_takesSign) = true := by decide +kernel
set_option maxRecDepth 100000 in
theorem ck_X2_takesClosing : mx_okM (yX2_takesClosing, cX2_takesClosing, 1, (some .boolean), kk_X2_takesClosing) = true := by decide +kernel
set_option maxRecDepth 100000 in
theorem cw_X2_takesClosing : mx_okW (yX2_takesClosing, cX2_takesClosing, 1, (some .boolean), kk_X2_takesClosing) = true := by decide +kernel
set_option maxRecDepth 100000 in
theorem ck_X2_strengthOf : mx_okM (yX2_strengthOf, cX2_strengthOf, 1, (some .int), kk_X2_strengthOf) = true := by decide +kernel
set_option maxRecDepth 100000 in
theorem cw_X2_strengthOf : mx_okW (yX2_strengthOf, cX2_strengthOf, 1, (some .int), kk_X2_strengthOf) = true := by decide +kernel
set_option maxRecDepth 100000 in
theorem ck_X2_unpile : mx_okM (yX2_unpile, cX2_unpile, 2, none, kk_X2_unpile) = true := by decide +kernel
set_option maxRecDepth 100000 in
theorem cw_X2_unpile : mx_okW (yX2_unpile, cX2_unpile, 2, none, kk_X2_unpile) = true := by decide +kernel
set_option maxRecDepth 100000 in
theorem ck_X2_putOnPile : mx_okM (yX2_putOnPile, cX2_putOnPile, 2, none, kk_X2_putOnPile) = true := by decide +kernel
set_option maxRecDepth 100000 in
theorem cw_X2_putOnPile : mx_okW (yX2_putOnPile, cX2_putOnPile, 2, none, kk_X2_putOnPile) = true := by decide +kernel
set_option maxRecDepth 100000 in
theorem ck_X2_addStep : mx_okM (yX2_addStep, cX2_addStep, 2, none, kk_X2_addStep) = true := by decide +kernel
set_option maxRecDepth 100000 in
theorem cw_X2_addStep : mx_okW (yX2_addStep, cX2_addStep, 2, none, kk_X2_addStep) = true := by decide +kernel
set_option maxRecDepth 100000 in
theorem ck_X3_init : mx_okM (yX3_init, cX3_init, 1, none, kk_X3_init) = true := by decide +kernel
set_option maxRecDepth 100000 in
theorem cw_X3_init : mx_okW (yX3_init, cX3_init, 1, none, kk_X3_init) = true := by decide +kernel
set_option maxRecDepth 100000 in
theorem ck_X3_begin : mx_okM (yX3_begin, cX3_begin, 3, none, kk_X3_begin) = true := by decide +kernel
set_option maxRecDepth 100000 in
theorem cw_X3_begin : mx_okW (yX3_begin, cX3_begin, 3, none, kk_X3_begin) = true := by decide +kernel
set_option maxRecDepth 100000 in
theorem ck_X3_takeOver : mx_okM (yX3_takeOver, cX3_takeOver, 2, none, kk_X3_takeOver) = true := by decide +kernel
set_option maxRecDepth 100000 in
theorem cw_X3_takeOver : mx_okW (yX3_takeOver, cX3_takeOver, 2, none, kk_X3_takeOver) = true := by decide +kernel
set_option maxRecDepth 100000 in
theorem ck_X3_isMissing : mx_okM (yX3_isMissing, cX3_isMissing, 1, (some .boolean), kk_X3_isMissing) = true := by decide +kernel
set_option maxRecDepth 100000 in
theorem cw_X3_isMissing : mx_okW (yX3_isMissing, cX3_isMissing, 1, (some .boolean), kk_X3_isMissing) = true := by decide +kernel
set_option maxRecDepth 100000 in
theorem ck_X3_hasPlace : mx_okM (yX3_hasPlace, cX3_hasPlace, 2, (some .boolean), kk_X3_hasPlace) = true := by decide +kernel
set_option maxRecDepth 100000 in
theorem cw_X3_hasPlace : mx_okW (yX3_hasPlace, cX3_hasPlace, 2, (some .boolean), kk_X3_hasPlace) = true := by decide +kernel
set_option maxRecDepth 100000 in
theorem ck_X3_hasPlaces : mx_okM (yX3_hasPlaces, cX3_hasPlaces, 3, (some .boolean), kk_X3_hasPlaces) = true := by decide +kernel
set_option maxRecDepth 100000 in
theorem cw_X3_hasPlaces : mx_okW (yX3_hasPlaces, cX3_hasPlaces, 3, (some .boolean), kk_X3_hasPlaces) = true := by decide +kernel
set_option maxRecDepth 100000 in
theorem ck_X3_isNumber : mx_okM (yX3_isNumber, cX3_isNumber, 2, (some .boolean), kk_X3_isNumber) = true := by decide +kernel
set_option maxRecDepth 100000 in
theorem cw_X3_isNumber : mx_okW (yX3_isNumber, cX3_isNumber, 2, (some .boolean), kk_X3_isNumber) = true := by decide +kernel
set_option maxRecDepth 100000 in
theorem ck_X4_init : mx_okM (yX4_init, cX4_init, 1, none, kk_X4_init) = true := by decide +kernel
set_option maxRecDepth 100000 in
theorem cw_X4_init : mx_okW (yX4_init, cX4_init, 1, none, kk_X4_init) = true := by decide +kernel
set_option maxRecDepth 100000 in
theorem ck_X5_init : mx_okM (yX5_init, cX5_init, 4, none, kk_X5_init) = true := by decide +kernel
set_option maxRecDepth 100000 in
theorem cw_X5_init : mx_okW (yX5_init, cX5_init, 4, none, kk_X5_init) = true := by decide +kernel
set_option maxRecDepth 100000 in
theorem ck_X5_value : mx_okM (yX5_value, cX5_value, 7, (some .int), kk_X5_value) = true := by decide +kernel
set_option maxRecDepth 100000 in
theorem cw_X5_value : mx_okW (yX5_value, cX5_value, 7, (some .int), kk_X5_value) = true := by decide +kernel
set_option maxRecDepth 100000 in
theorem ck_X5_joined : mx_okM (yX5_joined, cX5_joined, 3, (some .int), kk_X5_joined) = true := by decide +kernel
set_option maxRecDepth 100000 in
theorem cw_X5_joined : mx_okW (yX5_joined, cX5_joined, 3, (some .int), kk_X5_joined) = true := by decide +kernel
set_option maxRecDepth 100000 in
theorem ck_X6_init : mx_okM (yX6_init, cX6_init, 2, none, kk_X6_init) = true := by decide +kernel
set_option maxRecDepth 100000 in
theorem cw_X6_init : mx_okW (yX6_init, cX6_init, 2, none, kk_X6_init) = true := by decide +kernel
set_option maxRecDepth 100000 in
theorem ck_X6_leg : mx_okM (yX6_leg, cX6_leg, 4, (some .int), kk_X6_leg) = true := by decide +kernel
set_option maxRecDepth 100000 in
theorem cw_X6_leg : mx_okW (yX6_leg, cX6_leg, 4, (some .int), kk_X6_leg) = true := by decide +kernel
set_option maxRecDepth 100000 in
theorem ck_X6_told : mx_okM (yX6_told, cX6_told, 4, (some .int), kk_X6_told) = true := by decide +kernel
set_option maxRecDepth 100000 in
theorem cw_X6_told : mx_okW (yX6_told, cX6_told, 4, (some .int), kk_X6_told) = true := by decide +kernel
set_option maxRecDepth 100000 in
theorem ck_X6_as : mx_okM (yX6_as, cX6_as, 3, (some .int), kk_X6_as) = true := by decide +kernel
set_option maxRecDepth 100000 in
theorem cw_X6_as : mx_okW (yX6_as, cX6_as, 3, (some .int), kk_X6_as) = true := by decide +kernel
set_option maxRecDepth 100000 in
theorem ck_X6_turns : mx_okM (yX6_turns, cX6_turns, 4, (some .int), kk_X6_turns) = true := by decide +kernel
set_option maxRecDepth 100000 in
theorem cw_X6_turns : mx_okW (yX6_turns, cX6_turns, 4, (some .int), kk_X6_turns) = true := by decide +kernel
set_option maxRecDepth 100000 in
theorem ck_X6_set : mx_okM (yX6_set, cX6_set, 6, (some .int), kk_X6_set) = true := by decide +kernel
set_option maxRecDepth 100000 in
theorem cw_X6_set : mx_okW (yX6_set, cX6_set, 6, (some .int), kk_X6_set) = true := by decide +kernel
set_option maxRecDepth 100000 in
theorem ck_X6_mostOf : mx_okM (yX6_mostOf, cX6_mostOf, 1, (some .int), kk_X6_mostOf) = true := by decide +kernel
set_option maxRecDepth 100000 in
theorem cw_X6_mostOf : mx_okW (yX6_mostOf, cX6_mostOf, 1, (some .int), kk_X6_mostOf) = true := by decide +kernel
set_option maxRecDepth 100000 in
theorem ck_X6_irons : mx_okM (yX6_irons, cX6_irons, 3, (some .int), kk_X6_irons) = true := by decide +kernel
set_option maxRecDepth 100000 in
theorem cw_X6_irons : mx_okW (yX6_irons, cX6_irons, 3, (some .int), kk_X6_irons) = true := by decide +kernel
