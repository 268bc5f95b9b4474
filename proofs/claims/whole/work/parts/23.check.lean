set_option maxRecDepth 100000 in
theorem ck_X6_rule : mx_okM (yX6_rule, cX6_rule, 4, (some .int), kk_X6_rule) = true := by decide +kernel
set_option maxRecDepth 100000 in
theorem cw_X6_rule : mx_okW (yX6_rule, cX6_rule, 4, (some .int), kk_X6_rule) = true := by decide +kernel
set_option maxRecDepth 100000 in
theorem ck_X6_deal : mx_okM (yX6_deal, cX6_deal, 7, (some .int), kk_X6_deal) = true := by decide +kernel
set_option maxRecDepth 100000 in
theorem cw_X6_deal : mx_okW (yX6_deal, cX6_deal, 7, (some .int), kk_X6_deal) = true := by decide +kernel
set_option maxRecDepth 100000 in
theorem ck_X6_seed : mx_okM (yX6_seed, cX6_seed, 3, (some .int), kk_X6_seed) = true := by decide +kernel
set_option maxRecDepth 100000 in
theorem cw_X6_seed : mx_okW (yX6_seed, cX6_seed, 3, (some .int), kk_X6_seed) = true := by decide +kernel
set_option maxRecDepth 100000 in
theorem ck_X6_days : mx_okM (yX6_days, cX6_days, 3, (some .int), kk_X6_days) = true := by decide +kernel
set_option maxRecDepth 100000 in
theorem cw_X6_days : mx_okW (yX6_days, cX6_days, 3, (some .int), kk_X6_days) = true := by decide +kernel
set_option maxRecDepth 100000 in
theorem ck_X6_closet : mx_okM (yX6_closet, cX6_closet, 2, (some .int), kk_X6_closet) = true := by decide +kernel
set_option maxRecDepth 100000 in
theorem cw_X6_closet : mx_okW (yX6_closet, cX6_closet, 2, (some .int), kk_X6_closet) = true := by decide +kernel
set_option maxRecDepth 100000 in
theorem ck_X6_behind : mx_okM (yX6_behind, cX6_behind, 4, (some .int), kk_X6_behind) = true := by decide +kernel
set_option maxRecDepth 100000 in
theorem cw_X6_behind : mx_okW (yX6_behind, cX6_behind, 4, (some .int), kk_X6_behind) = true := by decide +kernel
set_option maxRecDepth 100000 in
theorem ck_X6_dulls : mx_okM (yX6_dulls, cX6_dulls, 5, (some .int), kk_X6_dulls) = true := by decide +kernel
set_option maxRecDepth 100000 in
theorem cw_X6_dulls : mx_okW (yX6_dulls, cX6_dulls, 5, (some .int), kk_X6_dulls) = true := by decide +kernel
set_option maxRecDepth 100000 in
theorem ck_X6_doubles : mx_okM (yX6_doubles, cX6_doubles, 4, (some .int), kk_X6_doubles) = true := by decide +kernel
set_option maxRecDepth 100000 in
theorem cw_X6_doubles : mx_okW (yX6_doubles, cX6_doubles, 4, (some .int), kk_X6_doubles) = true := by decide +kernel
set_option maxRecDepth 100000 in
theorem ck_X6_wax : mx_okM (yX6_wax, cX6_wax, 7, (some .int), kk_X6_wax) = true := by decide +kernel
set_option maxRecDepth 100000 in
theorem cw_X6_wax : mx_okW (yX6_wax, cX6_wax, 7, (some .int), kk_X6_wax) = true := by decide +kernel
set_option maxRecDepth 100000 in
theorem ck_X6_iron : mx_okM (yX6_iron, cX6_iron, 5, (some .int), kk_X6_iron) = true := by decide +kernel
set_option maxRecDepth 100000 in
theorem cw_X6_iron : mx_okW (yX6_iron, cX6_iron, 5, (some .int), kk_X6_iron) = true := by decide +kernel
set_option maxRecDepth 100000 in
theorem ck_X6_first : mx_okM (yX6_first, cX6_first, 8, (some .int), kk_X6_first) = true := by decide +kernel
set_option maxRecDepth 100000 in
theorem cw_X6_first : mx_okW (yX6_first, cX6_first, 8, (some .int), kk_X6_first) = true := by decide +kernel
set_option maxRecDepth 100000 in
theorem ck_X6_becomes : mx_okM (yX6_becomes, cX6_becomes, 9, (some .int), kk_X6_becomes) = true := by decide +kernel
set_option maxRecDepth 100000 in
theorem cw_X6_becomes : mx_okW (yX6_becomes, cX6_becomes, 9, (some .int), kk_X6_becomes) = true := by decide +kernel
set_option maxRecDepth 100000 in
theorem ck_X6_like : mx_okM (yX6_like, cX6_like, 5, (some .int), kk_X6_like) = true := by decide +kernel
set_option maxRecDepth 100000 in
theorem cw_X6_like : mx_okW (yX6_like, cX6_like, 5, (some .int), kk_X6_like) = true := by decide +kernel
set_option maxRecDepth 100000 in
theorem ck_X6_sumDifferences : mx_okM (yX6_sumDifferences, cX6_sumDifferences, 5, none, kk_X6_sumDifferences) = true := by decide +kernel
set_option maxRecDepth 100000 in
theorem cw_X6_sumDifferences : mx_okW (yX6_sumDifferences, cX6_sumDifferences, 5, none, kk_X6_sumDifferences) = true := by decide +kernel
set_option maxRecDepth 100000 in
theorem ck_X6_fee : mx_okM (yX6_fee, cX6_fee, 1, (some .int), kk_X6_fee) = true := by decide +kernel
set_option maxRecDepth 100000 in
theorem cw_X6_fee : mx_okW (yX6_fee, cX6_fee, 1, (some .int), kk_X6_fee) = true := by decide +kernel
set_option maxRecDepth 100000 in
theorem ck_X6_fine : mx_okM (yX6_fine, cX6_fine, 2, (some .int), kk_X6_fine) = true := by decide +kernel
set_option maxRecDepth 100000 in
theorem cw_X6_fine : mx_okW (yX6_fine, cX6_fine, 2, (some .int), kk_X6_fine) = true := by decide +kernel
set_option maxRecDepth 100000 in
theorem ck_X6_feed : mx_okM (yX6_feed, cX6_feed, 4, (some .int), kk_X6_feed) = true := by decide +kernel
set_option maxRecDepth 100000 in
theorem cw_X6_feed : mx_okW (yX6_feed, cX6_feed, 4, (some .int), kk_X6_feed) = true := by decide +kernel
set_option maxRecDepth 100000 in
theorem ck_X6_feedFour : mx_okM (yX6_feedFour, cX6_feedFour, 3, none, kk_X6_feedFour) = true := by decide +kernel
set_option maxRecDepth 100000 in
theorem cw_X6_feedFour : mx_okW (yX6_feedFour, cX6_feedFour, 3, none, kk_X6_feedFour) = true := by decide +kernel
set_option maxRecDepth 100000 in
theorem ck_X6_trim : mx_okM (yX6_trim, cX6_trim, 2, (some .int), kk_X6_trim) = true := by decide +kernel
set_option maxRecDepth 100000 in
theorem cw_X6_trim : mx_okW (yX6_trim, cX6_trim, 2, (some .int), kk_X6_trim) = true := by decide +kernel
set_option maxRecDepth 100000 in
theorem ck_X6_text : mx_okM (yX6_text, cX6_text, 2, (some .int), kk_X6_text) = true := by decide +kernel
set_option maxRecDepth 100000 in
theorem cw_X6_text : mx_okW (yX6_text, cX6_text, 2, (some .int), kk_X6_text) = true := by decide +kernel
set_option maxRecDepth 100000 in
theorem ck_X6_textTold : mx_okM (yX6_textTold, cX6_textTold, 3, (some .int), kk_X6_textTold) = true := by decide +kernel
set_option maxRecDepth 100000 in
theorem cw_X6_textTold : mx_okW (yX6_textTold, cX6_textTold, 3, (some .int), kk_X6_textTold) = true := by decide +kernel
set_option maxRecDepth 100000 in
theorem ck_X6_why : mx_okM (yX6_why, cX6_why, 2, (some .int), kk_X6_why) = true := by decide +kernel
set_option maxRecDepth 100000 in
theorem cw_X6_why : mx_okW (yX6_why, cX6_why, 2, (some .int), kk_X6_why) = true := by decide +kernel
set_option maxRecDepth 100000 in
theorem ck_X6_sheet : mx_okM (yX6_sheet, cX6_sheet, 4, (some .int), kk_X6_sheet) = true := by decide +kernel
set_option maxRecDepth 100000 in
theorem cw_X6_sheet : mx_okW (yX6_sheet, cX6_sheet, 4, (some .int), kk_X6_sheet) = true := by decide +kernel
set_option maxRecDepth 100000 in
theorem ck_X6_mark : mx_okM (yX6_mark, cX6_mark, 5, (some .int), kk_X6_mark) = true := by decide +kernel
set_option maxRecDepth 100000 in
theorem cw_X6_mark : mx_okW (yX6_mark, cX6_mark, 5, (some .int), kk_X6_mark) = true := by decide +kernel
set_option maxRecDepth 100000 in
theorem ck_X6_pour : mx_okM (yX6_pour, cX6_pour, 7, (some .int), kk_X6_pour) = true := by decide +kernel
set_option maxRecDepth 100000 in
theorem cw_X6_pour : mx_okW (yX6_pour, cX6_pour, 7, (some .int), kk_X6_pour) = true := by decide +kernel
set_option maxRecDepth 100000 in
theorem ck_X6_reads : mx_okM (yX6_reads, cX6_reads, 4, (some .int), kk_X6_reads) = true := by decide +kernel
set_option maxRecDepth 100000 in
theorem cw_X6_reads : mx_okW (yX6_reads, cX6_reads, 4, (some .int), kk_X6_reads) = true := by decide +kernel
set_option maxRecDepth 100000 in
theorem ck_X6_copy : mx_okM (yX6_copy, cX6_copy, 8, (some .int), kk_X6_copy) = true := by decide +kernel
set_option maxRecDepth 100000 in
theorem cw_X6_copy : mx_okW (yX6_copy, cX6_copy, 8, (some .int), kk_X6_copy) = true := by decide +kernel
set_option maxRecDepth 100000 in
theorem ck_X6_lay : mx_okM (yX6_lay, cX6_lay, 6, (some .int), kk_X6_lay) = true := by decide +kernel
set_option maxRecDepth 100000 in
theorem cw_X6_lay : mx_okW (yX6_lay, cX6_lay, 6, (some .int), kk_X6_lay) = true := by decide +kernel
set_option maxRecDepth 100000 in
theorem ck_X6_ask : mx_okM (yX6_ask, cX6_ask, 4, (some .int), kk_X6_ask) = true := by decide +kernel
set_option maxRecDepth 100000 in
theorem cw_X6_ask : mx_okW (yX6_ask, cX6_ask, 4, (some .int), kk_X6_ask) = true := by decide +kernel
set_option maxRecDepth 100000 in
theorem ck_X6_item : mx_okM (yX6_item, cX6_item, 4, (some .int), kk_X6_item) = true := by decide +kernel
set_option maxRecDepth 100000 in
theorem cw_X6_item : mx_okW (yX6_item, cX6_item, 4, (some .int), kk_X6_item) = true := by decide +kernel
set_option maxRecDepth 100000 in
theorem ck_X6_rest : mx_okM (yX6_rest, cX6_rest, 4, (some .int), kk_X6_rest) = true := by decide +kernel
set_option maxRecDepth 100000 in
theorem cw_X6_rest : mx_okW (yX6_rest, cX6_rest, 4, (some .int), kk_X6_rest) = true := by decide +kernel
set_option maxRecDepth 100000 in
theorem ck_X6_tell : mx_okM (yX6_tell, cX6_tell, 2, (some .int), kk_X6_tell) = true := by decide +kernel
set_option maxRecDepth 100000 in
theorem cw_X6_tell : mx_okW (yX6_tell, cX6_tell, 2, (some .int), kk_X6_tell) = true := by decide +kernel
set_option maxRecDepth 100000 in
theorem ck_X6_check : mx_okM (yX6_check, cX6_check, 6, (some .int), kk_X6_check) = true := by decide +kernel
set_option maxRecDepth 100000 in
theorem cw_X6_check : mx_okW (yX6_check, cX6_check, 6, (some .int), kk_X6_check) = true := by decide +kernel
set_option maxRecDepth 100000 in
theorem ck_X6_keep : mx_okM (yX6_keep, cX6_keep, 1, (some .int), kk_X6_keep) = true := by decide +kernel
set_option maxRecDepth 100000 in
theorem cw_X6_keep : mx_okW (yX6_keep, cX6_keep, 1, (some .int), kk_X6_keep) = true := by decide +kernel
set_option maxRecDepth 100000 in
theorem ck_X6_back : mx_okM (yX6_back, cX6_back, 1, (some .int), kk_X6_back) = true := by decide +kernel
set_option maxRecDepth 100000 in
theorem cw_X6_back : mx_okW (yX6_back, cX6_back, 1, (some .int), kk_X6_back) = true := by decide +kernel
set_option maxRecDepth 100000 in
theorem ck_X6_count : mx_okM (yX6_count, cX6_count, 2, (some .int), kk_X6_count) = true := by decide +kernel
set_option maxRecDepth 100000 in
theorem cw_X6_count : mx_okW (yX6_count, cX6_count, 2, (some .int), kk_X6_count) = true := by decide +kernel
set_option maxRecDepth 100000 in
theorem ck_X6_beginThought : mx_okM (yX6_beginThought, cX6_beginThought, 1, (some (.object "CreaseLines$Closet")), kk_X6_beginThought) = true := by decide +kernel
set_option maxRecDepth 100000 in
theorem cw_X6_beginThought : mx_okW (yX6_beginThought, cX6_beginThought, 1, (some (.object "CreaseLines$Closet")), kk_X6_beginThought) = true := by decide +kernel
set_option maxRecDepth 100000 in
theorem ck_X6_isWithin : mx_okM (yX6_isWithin, cX6_isWithin, 3, (some .boolean), kk_X6_isWithin) = true := by decide +kernel
set_option maxRecDepth 100000 in
theorem cw_X6_isWithin : mx_okW (yX6_isWithin, cX6_isWithin, 3, (some .boolean), kk_X6_isWithin) = true := by decide +kernel
set_option maxRecDepth 100000 in
theorem ck_X6_isKind : mx_okM (yX6_isKind, cX6_isKind, 1, (some .boolean), kk_X6_isKind) = true := by decide +kernel
set_option maxRecDepth 100000 in
theorem cw_X6_isKind : mx_okW (yX6_isKind, cX6_isKind, 1, (some .boolean), kk_X6_isKind) = true := by decide +kernel
set_option maxRecDepth 100000 in
theorem ck_X6_isSheet : mx_okM (yX6_isSheet, cX6_isSheet, 1, (some .boolean), kk_X6_isSheet) = true := by decide +kernel
set_option maxRecDepth 100000 in
theorem cw_X6_isSheet : mx_okW (yX6_isSheet, cX6_isSheet, 1, (some .boolean), kk_X6_isSheet) = true := by decide +kernel
set_option maxRecDepth 100000 in
theorem ck_X6_isSlot : mx_okM (yX6_isSlot, cX6_isSlot, 1, (some .boolean), kk_X6_isSlot) = true := by decide +kernel
set_option maxRecDepth 100000 in
theorem cw_X6_isSlot : mx_okW (yX6_isSlot, cX6_isSlot, 1, (some .boolean), kk_X6_isSlot) = true := by decide +kernel
set_option maxRecDepth 100000 in
theorem ck_X6_heldWithin : mx_okM (yX6_heldWithin, cX6_heldWithin, 1, (some .int), kk_X6_heldWithin) = true := by decide +kernel
set_option maxRecDepth 100000 in
theorem cw_X6_heldWithin : mx_okW (yX6_heldWithin, cX6_heldWithin, 1, (some .int), kk_X6_heldWithin) = true := by decide +kernel
set_option maxRecDepth 100000 in
theorem ck_X7_init : mx_okM (yX7_init, cX7_init, 1, none, kk_X7_init) = true := by decide +kernel
set_option maxRecDepth 100000 in
theorem cw_X7_init : mx_okW (yX7_init, cX7_init, 1, none, kk_X7_init) = true := by decide +kernel
set_option maxRecDepth 100000 in
theorem ck_X7_in : mx_okM (yX7_in, cX7_in, 3, (some .boolean), kk_X7_in) = true := by decide +kernel
set_option maxRecDepth 100000 in
theorem cw_X7_in : mx_okW (yX7_in, cX7_in, 3, (some .boolean), kk_X7_in) = true := by decide +kernel
set_option maxRecDepth 100000 in
theorem ck_X7_within : mx_okM (yX7_within, cX7_within, 3, (some .int), kk_X7_within) = true := by decide +kernel
set_option maxRecDepth 100000 in
theorem cw_X7_within : mx_okW (yX7_within, cX7_within, 3, (some .int), kk_X7_within) = true := by decide +kernel
