set_option maxRecDepth 100000 in
theorem ck_X7_fee : mx_okM (yX7_fee, cX7_fee, 2, (some .int), kk_X7_fee) = true := by decide +kernel
set_option maxRecDepth 100000 in
theorem cw_X7_fee : mx_okW (yX7_fee, cX7_fee, 2, (some .int), kk_X7_fee) = true := by decide +kernel
set_option maxRecDepth 100000 in
theorem ck_X7_fine : mx_okM (yX7_fine, cX7_fine, 3, (some .int), kk_X7_fine) = true := by decide +kernel
set_option maxRecDepth 100000 in
theorem cw_X7_fine : mx_okW (yX7_fine, cX7_fine, 3, (some .int), kk_X7_fine) = true := by decide +kernel
set_option maxRecDepth 100000 in
theorem ck_X7_feed : mx_okM (yX7_feed, cX7_feed, 6, (some .int), kk_X7_feed) = true := by decide +kernel
set_option maxRecDepth 100000 in
theorem cw_X7_feed : mx_okW (yX7_feed, cX7_feed, 6, (some .int), kk_X7_feed) = true := by decide +kernel
set_option maxRecDepth 100000 in
theorem ck_X7_trim : mx_okM (yX7_trim, cX7_trim, 2, (some .int), kk_X7_trim) = true := by decide +kernel
set_option maxRecDepth 100000 in
theorem cw_X7_trim : mx_okW (yX7_trim, cX7_trim, 2, (some .int), kk_X7_trim) = true := by decide +kernel
set_option maxRecDepth 100000 in
theorem ck_X7_isLetter : mx_okM (yX7_isLetter, cX7_isLetter, 2, (some .boolean), kk_X7_isLetter) = true := by decide +kernel
set_option maxRecDepth 100000 in
theorem cw_X7_isLetter : mx_okW (yX7_isLetter, cX7_isLetter, 2, (some .boolean), kk_X7_isLetter) = true := by decide +kernel
set_option maxRecDepth 100000 in
theorem ck_X7_isFigure : mx_okM (yX7_isFigure, cX7_isFigure, 2, (some .boolean), kk_X7_isFigure) = true := by decide +kernel
set_option maxRecDepth 100000 in
theorem cw_X7_isFigure : mx_okW (yX7_isFigure, cX7_isFigure, 2, (some .boolean), kk_X7_isFigure) = true := by decide +kernel
set_option maxRecDepth 100000 in
theorem ck_X7_go : mx_okM (yX7_go, cX7_go, 2, none, kk_X7_go) = true := by decide +kernel
set_option maxRecDepth 100000 in
theorem cw_X7_go : mx_okW (yX7_go, cX7_go, 2, none, kk_X7_go) = true := by decide +kernel
set_option maxRecDepth 100000 in
theorem ck_X7_takesKey : mx_okM (yX7_takesKey, cX7_takesKey, 5, (some .boolean), kk_X7_takesKey) = true := by decide +kernel
set_option maxRecDepth 100000 in
theorem cw_X7_takesKey : mx_okW (yX7_takesKey, cX7_takesKey, 5, (some .boolean), kk_X7_takesKey) = true := by decide +kernel
set_option maxRecDepth 100000 in
theorem ck_X7_nameOf : mx_okM (yX7_nameOf, cX7_nameOf, 2, (some .int), kk_X7_nameOf) = true := by decide +kernel
set_option maxRecDepth 100000 in
theorem cw_X7_nameOf : mx_okW (yX7_nameOf, cX7_nameOf, 2, (some .int), kk_X7_nameOf) = true := by decide +kernel
set_option maxRecDepth 100000 in
theorem ck_X7_rank : mx_okM (yX7_rank, cX7_rank, 1, (some .int), kk_X7_rank) = true := by decide +kernel
set_option maxRecDepth 100000 in
theorem cw_X7_rank : mx_okW (yX7_rank, cX7_rank, 1, (some .int), kk_X7_rank) = true := by decide +kernel
set_option maxRecDepth 100000 in
theorem ck_X7_settle : mx_okM (yX7_settle, cX7_settle, 2, none, kk_X7_settle) = true := by decide +kernel
set_option maxRecDepth 100000 in
theorem cw_X7_settle : mx_okW (yX7_settle, cX7_settle, 2, none, kk_X7_settle) = true := by decide +kernel
set_option maxRecDepth 100000 in
theorem ck_X7_signHere : mx_okM (yX7_signHere, cX7_signHere, 1, (some .int), kk_X7_signHere) = true := by decide +kernel
set_option maxRecDepth 100000 in
theorem cw_X7_signHere : mx_okW (yX7_signHere, cX7_signHere, 1, (some .int), kk_X7_signHere) = true := by decide +kernel
set_option maxRecDepth 100000 in
theorem ck_X7_takesPart : mx_okM (yX7_takesPart, cX7_takesPart, 2, (some .boolean), kk_X7_takesPart) = true := by decide +kernel
set_option maxRecDepth 100000 in
theorem cw_X7_takesPart : mx_okW (yX7_takesPart, cX7_takesPart, 2, (some .boolean), kk_X7_takesPart) = true := by decide +kernel
set_option maxRecDepth 100000 in
theorem ck_X7_takesE : mx_okM (yX7_takesE, cX7_takesE, 5, (some .boolean), kk_X7_takesE) = true := by decide +kernel
set_option maxRecDepth 100000 in
theorem cw_X7_takesE : mx_okW (yX7_takesE, cX7_takesE, 5, (some .boolean), kk_X7_takesE) = true := by decide +kernel
set_option maxRecDepth 100000 in
theorem ck_X7_notsOpen : mx_okM (yX7_notsOpen, cX7_notsOpen, 3, (some .int), kk_X7_notsOpen) = true := by decide +kernel
set_option maxRecDepth 100000 in
theorem cw_X7_notsOpen : mx_okW (yX7_notsOpen, cX7_notsOpen, 3, (some .int), kk_X7_notsOpen) = true := by decide +kernel
set_option maxRecDepth 100000 in
theorem ck_X7_text : mx_okM (yX7_text, cX7_text, 4, (some .int), kk_X7_text) = true := by decide +kernel
set_option maxRecDepth 100000 in
theorem cw_X7_text : mx_okW (yX7_text, cX7_text, 4, (some .int), kk_X7_text) = true := by decide +kernel
set_option maxRecDepth 100000 in
theorem ck_X7_textTold : mx_okM (yX7_textTold, cX7_textTold, 3, (some .int), kk_X7_textTold) = true := by decide +kernel
set_option maxRecDepth 100000 in
theorem cw_X7_textTold : mx_okW (yX7_textTold, cX7_textTold, 3, (some .int), kk_X7_textTold) = true := by decide +kernel
set_option maxRecDepth 100000 in
theorem ck_X7_counts : mx_okM (yX7_counts, cX7_counts, 3, (some .int), kk_X7_counts) = true := by decide +kernel
set_option maxRecDepth 100000 in
theorem cw_X7_counts : mx_okW (yX7_counts, cX7_counts, 3, (some .int), kk_X7_counts) = true := by decide +kernel
set_option maxRecDepth 100000 in
theorem ck_X7_why : mx_okM (yX7_why, cX7_why, 3, (some .int), kk_X7_why) = true := by decide +kernel
set_option maxRecDepth 100000 in
theorem cw_X7_why : mx_okW (yX7_why, cX7_why, 3, (some .int), kk_X7_why) = true := by decide +kernel
set_option maxRecDepth 100000 in
theorem ck_X7_two : mx_okM (yX7_two, cX7_two, 3, (some .int), kk_X7_two) = true := by decide +kernel
set_option maxRecDepth 100000 in
theorem cw_X7_two : mx_okW (yX7_two, cX7_two, 3, (some .int), kk_X7_two) = true := by decide +kernel
set_option maxRecDepth 100000 in
theorem ck_X7_worksOut : mx_okM (yX7_worksOut, cX7_worksOut, 6, (some .int), kk_X7_worksOut) = true := by decide +kernel
set_option maxRecDepth 100000 in
theorem cw_X7_worksOut : mx_okW (yX7_worksOut, cX7_worksOut, 6, (some .int), kk_X7_worksOut) = true := by decide +kernel
set_option maxRecDepth 100000 in
theorem ck_X7_isSheet : mx_okM (yX7_isSheet, cX7_isSheet, 1, (some .boolean), kk_X7_isSheet) = true := by decide +kernel
set_option maxRecDepth 100000 in
theorem cw_X7_isSheet : mx_okW (yX7_isSheet, cX7_isSheet, 1, (some .boolean), kk_X7_isSheet) = true := by decide +kernel
set_option maxRecDepth 100000 in
theorem ck_X7_isSlot : mx_okM (yX7_isSlot, cX7_isSlot, 1, (some .boolean), kk_X7_isSlot) = true := by decide +kernel
set_option maxRecDepth 100000 in
theorem cw_X7_isSlot : mx_okW (yX7_isSlot, cX7_isSlot, 1, (some .boolean), kk_X7_isSlot) = true := by decide +kernel
set_option maxRecDepth 100000 in
theorem ck_X7_sheet : mx_okM (yX7_sheet, cX7_sheet, 5, (some .int), kk_X7_sheet) = true := by decide +kernel
set_option maxRecDepth 100000 in
theorem cw_X7_sheet : mx_okW (yX7_sheet, cX7_sheet, 5, (some .int), kk_X7_sheet) = true := by decide +kernel
set_option maxRecDepth 100000 in
theorem ck_X7_mark : mx_okM (yX7_mark, cX7_mark, 4, (some .int), kk_X7_mark) = true := by decide +kernel
set_option maxRecDepth 100000 in
theorem cw_X7_mark : mx_okW (yX7_mark, cX7_mark, 4, (some .int), kk_X7_mark) = true := by decide +kernel
set_option maxRecDepth 100000 in
theorem ck_X7_pour : mx_okM (yX7_pour, cX7_pour, 6, (some .int), kk_X7_pour) = true := by decide +kernel
set_option maxRecDepth 100000 in
theorem cw_X7_pour : mx_okW (yX7_pour, cX7_pour, 6, (some .int), kk_X7_pour) = true := by decide +kernel
set_option maxRecDepth 100000 in
theorem ck_X7_reads : mx_okM (yX7_reads, cX7_reads, 4, (some .int), kk_X7_reads) = true := by decide +kernel
set_option maxRecDepth 100000 in
theorem cw_X7_reads : mx_okW (yX7_reads, cX7_reads, 4, (some .int), kk_X7_reads) = true := by decide +kernel
set_option maxRecDepth 100000 in
theorem ck_X7_copy : mx_okM (yX7_copy, cX7_copy, 7, (some .int), kk_X7_copy) = true := by decide +kernel
set_option maxRecDepth 100000 in
theorem cw_X7_copy : mx_okW (yX7_copy, cX7_copy, 7, (some .int), kk_X7_copy) = true := by decide +kernel
set_option maxRecDepth 100000 in
theorem ck_X7_lay : mx_okM (yX7_lay, cX7_lay, 6, (some .int), kk_X7_lay) = true := by decide +kernel
set_option maxRecDepth 100000 in
theorem cw_X7_lay : mx_okW (yX7_lay, cX7_lay, 6, (some .int), kk_X7_lay) = true := by decide +kernel
set_option maxRecDepth 100000 in
theorem ck_X7_ask : mx_okM (yX7_ask, cX7_ask, 3, (some .int), kk_X7_ask) = true := by decide +kernel
set_option maxRecDepth 100000 in
theorem cw_X7_ask : mx_okW (yX7_ask, cX7_ask, 3, (some .int), kk_X7_ask) = true := by decide +kernel
set_option maxRecDepth 100000 in
theorem ck_X7_item : mx_okM (yX7_item, cX7_item, 4, (some .int), kk_X7_item) = true := by decide +kernel
set_option maxRecDepth 100000 in
theorem cw_X7_item : mx_okW (yX7_item, cX7_item, 4, (some .int), kk_X7_item) = true := by decide +kernel
set_option maxRecDepth 100000 in
theorem ck_X7_rest : mx_okM (yX7_rest, cX7_rest, 3, (some .int), kk_X7_rest) = true := by decide +kernel
set_option maxRecDepth 100000 in
theorem cw_X7_rest : mx_okW (yX7_rest, cX7_rest, 3, (some .int), kk_X7_rest) = true := by decide +kernel
set_option maxRecDepth 100000 in
theorem ck_X7_tell : mx_okM (yX7_tell, cX7_tell, 2, (some .int), kk_X7_tell) = true := by decide +kernel
set_option maxRecDepth 100000 in
theorem cw_X7_tell : mx_okW (yX7_tell, cX7_tell, 2, (some .int), kk_X7_tell) = true := by decide +kernel
set_option maxRecDepth 100000 in
theorem ck_X7_check : mx_okM (yX7_check, cX7_check, 6, (some .int), kk_X7_check) = true := by decide +kernel
set_option maxRecDepth 100000 in
theorem cw_X7_check : mx_okW (yX7_check, cX7_check, 6, (some .int), kk_X7_check) = true := by decide +kernel
set_option maxRecDepth 100000 in
theorem ck_X7_keep : mx_okM (yX7_keep, cX7_keep, 1, (some .int), kk_X7_keep) = true := by decide +kernel
set_option maxRecDepth 100000 in
theorem cw_X7_keep : mx_okW (yX7_keep, cX7_keep, 1, (some .int), kk_X7_keep) = true := by decide +kernel
set_option maxRecDepth 100000 in
theorem ck_X7_back : mx_okM (yX7_back, cX7_back, 1, (some .int), kk_X7_back) = true := by decide +kernel
set_option maxRecDepth 100000 in
theorem cw_X7_back : mx_okW (yX7_back, cX7_back, 1, (some .int), kk_X7_back) = true := by decide +kernel
set_option maxRecDepth 100000 in
theorem ck_X7_count : mx_okM (yX7_count, cX7_count, 2, (some .int), kk_X7_count) = true := by decide +kernel
set_option maxRecDepth 100000 in
theorem cw_X7_count : mx_okW (yX7_count, cX7_count, 2, (some .int), kk_X7_count) = true := by decide +kernel
