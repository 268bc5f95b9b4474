/-! ===== the program's table is checked ===== -/
def mx_wsM (M : mx_M) : List Cond := Cond.code M.1 M.2.1 M.2.2.1 M.2.2.2.1 :: M.2.2.2.2.flatMap (mx_need mx_P M.1.cls)
def mx_okM (M : mx_M) : Bool := plainFor M.1 && M.2.2.2.2.all (mx_ok mx_P M.1 M.2.1 M.2.2.1 M.2.2.2.1)
def mx_okW (M : mx_M) : Bool := (mx_wsM M).all (fun w => decide (w ∈ lw_tbl) && goodWord w)
set_option maxRecDepth 100000 in
theorem ck_J9_floorMod_7cf53 : mx_okM (yJ9_floorMod_7cf53, cJ9_floorMod_7cf53, 3, (some .int), kk_J9_floorMod_7cf53) = true := by decide +kernel
set_option maxRecDepth 100000 in
theorem cw_J9_floorMod_7cf53 : mx_okW (yJ9_floorMod_7cf53, cJ9_floorMod_7cf53, 3, (some .int), kk_J9_floorMod_7cf53) = true := by decide +kernel
set_option maxRecDepth 100000 in
theorem ck_J9_abs_0f7a4 : mx_okM (yJ9_abs_0f7a4, cJ9_abs_0f7a4, 1, (some .int), kk_J9_abs_0f7a4) = true := by decide +kernel
set_option maxRecDepth 100000 in
theorem cw_J9_abs_0f7a4 : mx_okW (yJ9_abs_0f7a4, cJ9_abs_0f7a4, 1, (some .int), kk_J9_abs_0f7a4) = true := by decide +kernel
set_option maxRecDepth 100000 in
theorem ck_J9_max_7cf53 : mx_okM (yJ9_max_7cf53, cJ9_max_7cf53, 2, (some .int), kk_J9_max_7cf53) = true := by decide +kernel
set_option maxRecDepth 100000 in
theorem cw_J9_max_7cf53 : mx_okW (yJ9_max_7cf53, cJ9_max_7cf53, 2, (some .int), kk_J9_max_7cf53) = true := by decide +kernel
set_option maxRecDepth 100000 in
theorem ck_J9_min_7cf53 : mx_okM (yJ9_min_7cf53, cJ9_min_7cf53, 2, (some .int), kk_J9_min_7cf53) = true := by decide +kernel
set_option maxRecDepth 100000 in
theorem cw_J9_min_7cf53 : mx_okW (yJ9_min_7cf53, cJ9_min_7cf53, 2, (some .int), kk_J9_min_7cf53) = true := by decide +kernel
set_option maxRecDepth 100000 in
theorem ck_J6_bitCount_0f7a4 : mx_okM (yJ6_bitCount_0f7a4, cJ6_bitCount_0f7a4, 1, (some .int), kk_J6_bitCount_0f7a4) = true := by decide +kernel
set_option maxRecDepth 100000 in
theorem cw_J6_bitCount_0f7a4 : mx_okW (yJ6_bitCount_0f7a4, cJ6_bitCount_0f7a4, 1, (some .int), kk_J6_bitCount_0f7a4) = true := by decide +kernel
set_option maxRecDepth 100000 in
theorem ck_J7_fill_53178 : mx_okM (yJ7_fill_53178, cJ7_fill_53178, 4, none, kk_J7_fill_53178) = true := by decide +kernel
set_option maxRecDepth 100000 in
theorem cw_J7_fill_53178 : mx_okW (yJ7_fill_53178, cJ7_fill_53178, 4, none, kk_J7_fill_53178) = true := by decide +kernel
set_option maxRecDepth 100000 in
theorem ck_J7_copyOf_59c91 : mx_okM (yJ7_copyOf_59c91, cJ7_copyOf_59c91, 3, (some (.array .int)), kk_J7_copyOf_59c91) = true := by decide +kernel
set_option maxRecDepth 100000 in
theorem cw_J7_copyOf_59c91 : mx_okW (yJ7_copyOf_59c91, cJ7_copyOf_59c91, 3, (some (.array .int)), kk_J7_copyOf_59c91) = true := by decide +kernel
set_option maxRecDepth 100000 in
theorem ck_J0_length_8abf5 : mx_okM (yJ0_length_8abf5, cJ0_length_8abf5, 1, (some .int), kk_J0_length_8abf5) = true := by decide +kernel
set_option maxRecDepth 100000 in
theorem cw_J0_length_8abf5 : mx_okW (yJ0_length_8abf5, cJ0_length_8abf5, 1, (some .int), kk_J0_length_8abf5) = true := by decide +kernel
set_option maxRecDepth 100000 in
theorem ck_J0_charAt_5068e : mx_okM (yJ0_charAt_5068e, cJ0_charAt_5068e, 2, (some .char), kk_J0_charAt_5068e) = true := by decide +kernel
set_option maxRecDepth 100000 in
theorem cw_J0_charAt_5068e : mx_okW (yJ0_charAt_5068e, cJ0_charAt_5068e, 2, (some .char), kk_J0_charAt_5068e) = true := by decide +kernel
set_option maxRecDepth 100000 in
theorem ck_J0_indexOf_0f7a4 : mx_okM (yJ0_indexOf_0f7a4, cJ0_indexOf_0f7a4, 2, (some .int), kk_J0_indexOf_0f7a4) = true := by decide +kernel
set_option maxRecDepth 100000 in
theorem cw_J0_indexOf_0f7a4 : mx_okW (yJ0_indexOf_0f7a4, cJ0_indexOf_0f7a4, 2, (some .int), kk_J0_indexOf_0f7a4) = true := by decide +kernel
set_option maxRecDepth 100000 in
theorem ck_J0_indexOf_7cf53 : mx_okM (yJ0_indexOf_7cf53, cJ0_indexOf_7cf53, 3, (some .int), kk_J0_indexOf_7cf53) = true := by decide +kernel
set_option maxRecDepth 100000 in
theorem cw_J0_indexOf_7cf53 : mx_okW (yJ0_indexOf_7cf53, cJ0_indexOf_7cf53, 3, (some .int), kk_J0_indexOf_7cf53) = true := by decide +kernel
set_option maxRecDepth 100000 in
theorem ck_J0_coder_7d493 : mx_okM (yJ0_coder_7d493, cJ0_coder_7d493, 1, (some .byte), kk_J0_coder_7d493) = true := by decide +kernel
set_option maxRecDepth 100000 in
theorem cw_J0_coder_7d493 : mx_okW (yJ0_coder_7d493, cJ0_coder_7d493, 1, (some .byte), kk_J0_coder_7d493) = true := by decide +kernel
set_option maxRecDepth 100000 in
theorem ck_J0_isLatin1_aae02 : mx_okM (yJ0_isLatin1_aae02, cJ0_isLatin1_aae02, 1, (some .boolean), kk_J0_isLatin1_aae02) = true := by decide +kernel
set_option maxRecDepth 100000 in
theorem cw_J0_isLatin1_aae02 : mx_okW (yJ0_isLatin1_aae02, cJ0_isLatin1_aae02, 1, (some .boolean), kk_J0_isLatin1_aae02) = true := by decide +kernel
set_option maxRecDepth 100000 in
theorem ck_J0_checkIndex_df160 : mx_okM (yJ0_checkIndex_df160, cJ0_checkIndex_df160, 2, none, kk_J0_checkIndex_df160) = true := by decide +kernel
set_option maxRecDepth 100000 in
theorem cw_J0_checkIndex_df160 : mx_okW (yJ0_checkIndex_df160, cJ0_checkIndex_df160, 2, none, kk_J0_checkIndex_df160) = true := by decide +kernel
set_option maxRecDepth 100000 in
theorem ck_J1_charAt_3b067 : mx_okM (yJ1_charAt_3b067, cJ1_charAt_3b067, 2, (some .char), kk_J1_charAt_3b067) = true := by decide +kernel
set_option maxRecDepth 100000 in
theorem cw_J1_charAt_3b067 : mx_okW (yJ1_charAt_3b067, cJ1_charAt_3b067, 2, (some .char), kk_J1_charAt_3b067) = true := by decide +kernel
set_option maxRecDepth 100000 in
theorem ck_J1_canEncode_9a6ad : mx_okM (yJ1_canEncode_9a6ad, cJ1_canEncode_9a6ad, 1, (some .boolean), kk_J1_canEncode_9a6ad) = true := by decide +kernel
set_option maxRecDepth 100000 in
theorem cw_J1_canEncode_9a6ad : mx_okW (yJ1_canEncode_9a6ad, cJ1_canEncode_9a6ad, 1, (some .boolean), kk_J1_canEncode_9a6ad) = true := by decide +kernel
set_option maxRecDepth 100000 in
theorem ck_J1_indexOf_4cfef : mx_okM (yJ1_indexOf_4cfef, cJ1_indexOf_4cfef, 4, (some .int), kk_J1_indexOf_4cfef) = true := by decide +kernel
set_option maxRecDepth 100000 in
theorem cw_J1_indexOf_4cfef : mx_okW (yJ1_indexOf_4cfef, cJ1_indexOf_4cfef, 4, (some .int), kk_J1_indexOf_4cfef) = true := by decide +kernel
set_option maxRecDepth 100000 in
theorem ck_J1_indexOfChar_4cfef : mx_okM (yJ1_indexOfChar_4cfef, cJ1_indexOfChar_4cfef, 6, (some .int), kk_J1_indexOfChar_4cfef) = true := by decide +kernel
set_option maxRecDepth 100000 in
theorem cw_J1_indexOfChar_4cfef : mx_okW (yJ1_indexOfChar_4cfef, cJ1_indexOfChar_4cfef, 6, (some .int), kk_J1_indexOfChar_4cfef) = true := by decide +kernel
set_option maxRecDepth 100000 in
theorem ck_J3_checkIndex_8e157 : mx_okM (yJ3_checkIndex_8e157, cJ3_checkIndex_8e157, 3, (some .int), kk_J3_checkIndex_8e157) = true := by decide +kernel
set_option maxRecDepth 100000 in
theorem cw_J3_checkIndex_8e157 : mx_okW (yJ3_checkIndex_8e157, cJ3_checkIndex_8e157, 3, (some .int), kk_J3_checkIndex_8e157) = true := by decide +kernel
set_option maxRecDepth 100000 in
theorem ck_X0_init : mx_okM (yX0_init, cX0_init, 2, none, kk_X0_init) = true := by decide +kernel
set_option maxRecDepth 100000 in
theorem cw_X0_init : mx_okW (yX0_init, cX0_init, 2, none, kk_X0_init) = true := by decide +kernel
set_option maxRecDepth 100000 in
theorem ck_X0_takeOver : mx_okM (yX0_takeOver, cX0_takeOver, 3, none, kk_X0_takeOver) = true := by decide +kernel
set_option maxRecDepth 100000 in
theorem cw_X0_takeOver : mx_okW (yX0_takeOver, cX0_takeOver, 3, none, kk_X0_takeOver) = true := by decide +kernel
set_option maxRecDepth 100000 in
theorem ck_X0_hasLeg : mx_okM (yX0_hasLeg, cX0_hasLeg, 2, (some .boolean), kk_X0_hasLeg) = true := by decide +kernel
set_option maxRecDepth 100000 in
theorem cw_X0_hasLeg : mx_okW (yX0_hasLeg, cX0_hasLeg, 2, (some .boolean), kk_X0_hasLeg) = true := by decide +kernel
set_option maxRecDepth 100000 in
theorem ck_X0_addLeg : mx_okM (yX0_addLeg, cX0_addLeg, 4, none, kk_X0_addLeg) = true := by decide +kernel
set_option maxRecDepth 100000 in
theorem cw_X0_addLeg : mx_okW (yX0_addLeg, cX0_addLeg, 4, none, kk_X0_addLeg) = true := by decide +kernel
set_option maxRecDepth 100000 in
theorem ck_X0_addText : mx_okM (yX0_addText, cX0_addText, 2, none, kk_X0_addText) = true := by decide +kernel
set_option maxRecDepth 100000 in
theorem cw_X0_addText : mx_okW (yX0_addText, cX0_addText, 2, none, kk_X0_addText) = true := by decide +kernel
set_option maxRecDepth 100000 in
theorem ck_X0_draw : mx_okM (yX0_draw, cX0_draw, 1, (some .int), kk_X0_draw) = true := by decide +kernel
set_option maxRecDepth 100000 in
theorem cw_X0_draw : mx_okW (yX0_draw, cX0_draw, 1, (some .int), kk_X0_draw) = true := by decide +kernel
set_option maxRecDepth 100000 in
theorem ck_X0_daysLeft : mx_okM (yX0_daysLeft, cX0_daysLeft, 2, (some .int), kk_X0_daysLeft) = true := by decide +kernel
set_option maxRecDepth 100000 in
theorem cw_X0_daysLeft : mx_okW (yX0_daysLeft, cX0_daysLeft, 2, (some .int), kk_X0_daysLeft) = true := by decide +kernel
set_option maxRecDepth 100000 in
theorem ck_X0_passDays : mx_okM (yX0_passDays, cX0_passDays, 3, none, kk_X0_passDays) = true := by decide +kernel
set_option maxRecDepth 100000 in
theorem cw_X0_passDays : mx_okW (yX0_passDays, cX0_passDays, 3, none, kk_X0_passDays) = true := by decide +kernel
set_option maxRecDepth 100000 in
theorem ck_X0_passDay : mx_okM (yX0_passDay, cX0_passDay, 3, none, kk_X0_passDay) = true := by decide +kernel
set_option maxRecDepth 100000 in
theorem cw_X0_passDay : mx_okW (yX0_passDay, cX0_passDay, 3, none, kk_X0_passDay) = true := by decide +kernel
set_option maxRecDepth 100000 in
theorem ck_X0_wear : mx_okM (yX0_wear, cX0_wear, 4, none, kk_X0_wear) = true := by decide +kernel
set_option maxRecDepth 100000 in
theorem cw_X0_wear : mx_okW (yX0_wear, cX0_wear, 4, none, kk_X0_wear) = true := by decide +kernel
set_option maxRecDepth 100000 in
theorem ck_X0_soak : mx_okM (yX0_soak, cX0_soak, 2, none, kk_X0_soak) = true := by decide +kernel
set_option maxRecDepth 100000 in
theorem cw_X0_soak : mx_okW (yX0_soak, cX0_soak, 2, none, kk_X0_soak) = true := by decide +kernel
set_option maxRecDepth 100000 in
theorem ck_X0_press : mx_okM (yX0_press, cX0_press, 5, (some .boolean), kk_X0_press) = true := by decide +kernel
set_option maxRecDepth 100000 in
theorem cw_X0_press : mx_okW (yX0_press, cX0_press, 5, (some .boolean), kk_X0_press) = true := by decide +kernel
set_option maxRecDepth 100000 in
theorem ck_X0_takenBy : mx_okM (yX0_takenBy, cX0_takenBy, 4, (some .int), kk_X0_takenBy) = true := by decide +kernel
set_option maxRecDepth 100000 in
theorem cw_X0_takenBy : mx_okW (yX0_takenBy, cX0_takenBy, 4, (some .int), kk_X0_takenBy) = true := by decide +kernel
set_option maxRecDepth 100000 in
theorem ck_X0_feeGiven : mx_okM (yX0_feeGiven, cX0_feeGiven, 2, (some .int), kk_X0_feeGiven) = true := by decide +kernel
set_option maxRecDepth 100000 in
theorem cw_X0_feeGiven : mx_okW (yX0_feeGiven, cX0_feeGiven, 2, (some .int), kk_X0_feeGiven) = true := by decide +kernel
set_option maxRecDepth 100000 in
theorem ck_X0_fineGiven : mx_okM (yX0_fineGiven, cX0_fineGiven, 3, (some .int), kk_X0_fineGiven) = true := by decide +kernel
set_option maxRecDepth 100000 in
theorem cw_X0_fineGiven : mx_okW (yX0_fineGiven, cX0_fineGiven, 3, (some .int), kk_X0_fineGiven) = true := by decide +kernel
set_option maxRecDepth 100000 in
theorem ck_X0_lawOf : mx_okM (yX0_lawOf, cX0_lawOf, 2, (some (.object "CreaseLines$Text")), kk_X0_lawOf) = true := by decide +kernel
set_option maxRecDepth 100000 in
theorem cw_X0_lawOf : mx_okW (yX0_lawOf, cX0_lawOf, 2, (some (.object "CreaseLines$Text")), kk_X0_lawOf) = true := by decide +kernel
set_option maxRecDepth 100000 in
theorem ck_X0_dullest : mx_okM (yX0_dullest, cX0_dullest, 3, (some .int), kk_X0_dullest) = true := by decide +kernel
set_option maxRecDepth 100000 in
theorem cw_X0_dullest : mx_okW (yX0_dullest, cX0_dullest, 3, (some .int), kk_X0_dullest) = true := by decide +kernel
set_option maxRecDepth 100000 in
theorem ck_X0_sharpOfAll : mx_okM (yX0_sharpOfAll, cX0_sharpOfAll, 3, (some .int), kk_X0_sharpOfAll) = true := by decide +kernel
set_option maxRecDepth 100000 in
theorem cw_X0_sharpOfAll : mx_okW (yX0_sharpOfAll, cX0_sharpOfAll, 3, (some .int), kk_X0_sharpOfAll) = true := by decide +kernel
set_option maxRecDepth 100000 in
theorem ck_X0_doubled : mx_okM (yX0_doubled, cX0_doubled, 3, (some .int), kk_X0_doubled) = true := by decide +kernel
set_option maxRecDepth 100000 in
theorem cw_X0_doubled : mx_okW (yX0_doubled, cX0_doubled, 3, (some .int), kk_X0_doubled) = true := by decide +kernel
set_option maxRecDepth 100000 in
theorem ck_X0_waxed : mx_okM (yX0_waxed, cX0_waxed, 3, (some .int), kk_X0_waxed) = true := by decide +kernel
set_option maxRecDepth 100000 in
theorem cw_X0_waxed : mx_okW (yX0_waxed, cX0_waxed, 3, (some .int), kk_X0_waxed) = true := by decide +kernel
set_option maxRecDepth 100000 in
theorem ck_X0_waxThese : mx_okM (yX0_waxThese, cX0_waxThese, 3, none, kk_X0_waxThese) = true := by decide +kernel
set_option maxRecDepth 100000 in
theorem cw_X0_waxThese : mx_okW (yX0_waxThese, cX0_waxThese, 3, none, kk_X0_waxThese) = true := by decide +kernel
set_option maxRecDepth 100000 in
theorem ck_X0_hasDull : mx_okM (yX0_hasDull, cX0_hasDull, 1, (some .boolean), kk_X0_hasDull) = true := by decide +kernel
set_option maxRecDepth 100000 in
theorem cw_X0_hasDull : mx_okW (yX0_hasDull, cX0_hasDull, 1, (some .boolean), kk_X0_hasDull) = true := by decide +kernel
set_option maxRecDepth 100000 in
theorem ck_X1_init : mx_okM (yX1_init, cX1_init, 1, none, kk_X1_init) = true := by decide +kernel
set_option maxRecDepth 100000 in
theorem cw_X1_init : mx_okW (yX1_init, cX1_init, 1, none, kk_X1_init) = true := by decide +kernel
set_option maxRecDepth 100000 in
theorem ck_X1_begin : mx_okM (yX1_begin, cX1_begin, 4, none, kk_X1_begin) = true := by decide +kernel
set_option maxRecDepth 100000 in
theorem cw_X1_begin : mx_okW (yX1_begin, cX1_begin, 4, none, kk_X1_begin) = true := by decide +kernel
set_option maxRecDepth 100000 in
theorem ck_X1_takeOver : mx_okM (yX1_takeOver, cX1_takeOver, 2, none, kk_X1_takeOver) = true := by decide +kernel
set_option maxRecDepth 100000 in
theorem cw_X1_takeOver : mx_okW (yX1_takeOver, cX1_takeOver, 2, none, kk_X1_takeOver) = true := by decide +kernel
set_option maxRecDepth 100000 in
theorem ck_X1_isOf : mx_okM (yX1_isOf, cX1_isOf, 4, (some .boolean), kk_X1_isOf) = true := by decide +kernel
set_option maxRecDepth 100000 in
theorem cw_X1_isOf : mx_okW (yX1_isOf, cX1_isOf, 4, (some .boolean), kk_X1_isOf) = true := by decide +kernel
