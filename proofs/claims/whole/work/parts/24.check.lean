set_option maxRecDepth 100000 in
theorem ck_X7_copyAll : mx_okM (yX7_copyAll, cX7_copyAll, 3, none, kk_X7_copyAll) = true := by decide +kernel
set_option maxRecDepth 100000 in
theorem cw_X7_copyAll : mx_okW (yX7_copyAll, cX7_copyAll, 3, none, kk_X7_copyAll) = true := by decide +kernel
set_option maxRecDepth 100000 in
theorem ck_X7_bits : mx_okM (yX7_bits, cX7_bits, 3, (some .int), kk_X7_bits) = true := by decide +kernel
set_option maxRecDepth 100000 in
theorem cw_X7_bits : mx_okW (yX7_bits, cX7_bits, 3, (some .int), kk_X7_bits) = true := by decide +kernel
set_option maxRecDepth 100000 in
theorem ck_X7_isLeg : mx_okM (yX7_isLeg, cX7_isLeg, 2, (some .boolean), kk_X7_isLeg) = true := by decide +kernel
set_option maxRecDepth 100000 in
theorem cw_X7_isLeg : mx_okW (yX7_isLeg, cX7_isLeg, 2, (some .boolean), kk_X7_isLeg) = true := by decide +kernel
set_option maxRecDepth 100000 in
theorem ck_X7_of : mx_okM (yX7_of, cX7_of, 3, (some .int), kk_X7_of) = true := by decide +kernel
set_option maxRecDepth 100000 in
theorem cw_X7_of : mx_okW (yX7_of, cX7_of, 3, (some .int), kk_X7_of) = true := by decide +kernel
set_option maxRecDepth 100000 in
theorem ck_X7_put : mx_okM (yX7_put, cX7_put, 4, none, kk_X7_put) = true := by decide +kernel
set_option maxRecDepth 100000 in
theorem cw_X7_put : mx_okW (yX7_put, cX7_put, 4, none, kk_X7_put) = true := by decide +kernel
set_option maxRecDepth 100000 in
theorem ck_X7_swaps : mx_okM (yX7_swaps, cX7_swaps, 4, (some .int), kk_X7_swaps) = true := by decide +kernel
set_option maxRecDepth 100000 in
theorem cw_X7_swaps : mx_okW (yX7_swaps, cX7_swaps, 4, (some .int), kk_X7_swaps) = true := by decide +kernel
set_option maxRecDepth 100000 in
theorem ck_X7_off : mx_okM (yX7_off, cX7_off, 1, (some .int), kk_X7_off) = true := by decide +kernel
set_option maxRecDepth 100000 in
theorem cw_X7_off : mx_okW (yX7_off, cX7_off, 1, (some .int), kk_X7_off) = true := by decide +kernel
set_option maxRecDepth 100000 in
theorem ck_X7_plainPress : mx_okM (yX7_plainPress, cX7_plainPress, 3, (some .int), kk_X7_plainPress) = true := by decide +kernel
set_option maxRecDepth 100000 in
theorem cw_X7_plainPress : mx_okW (yX7_plainPress, cX7_plainPress, 3, (some .int), kk_X7_plainPress) = true := by decide +kernel
set_option maxRecDepth 100000 in
theorem ck_X7_takesBy : mx_okM (yX7_takesBy, cX7_takesBy, 4, (some .int), kk_X7_takesBy) = true := by decide +kernel
set_option maxRecDepth 100000 in
theorem cw_X7_takesBy : mx_okW (yX7_takesBy, cX7_takesBy, 4, (some .int), kk_X7_takesBy) = true := by decide +kernel
set_option maxRecDepth 100000 in
theorem ck_X7_losesOf : mx_okM (yX7_losesOf, cX7_losesOf, 3, (some .int), kk_X7_losesOf) = true := by decide +kernel
set_option maxRecDepth 100000 in
theorem cw_X7_losesOf : mx_okW (yX7_losesOf, cX7_losesOf, 3, (some .int), kk_X7_losesOf) = true := by decide +kernel
set_option maxRecDepth 100000 in
theorem ck_X7_bagsOf : mx_okM (yX7_bagsOf, cX7_bagsOf, 2, (some .int), kk_X7_bagsOf) = true := by decide +kernel
set_option maxRecDepth 100000 in
theorem cw_X7_bagsOf : mx_okW (yX7_bagsOf, cX7_bagsOf, 2, (some .int), kk_X7_bagsOf) = true := by decide +kernel
set_option maxRecDepth 100000 in
theorem ck_X7_worthOf : mx_okM (yX7_worthOf, cX7_worthOf, 3, (some .int), kk_X7_worthOf) = true := by decide +kernel
set_option maxRecDepth 100000 in
theorem cw_X7_worthOf : mx_okW (yX7_worthOf, cX7_worthOf, 3, (some .int), kk_X7_worthOf) = true := by decide +kernel
set_option maxRecDepth 100000 in
theorem ck_X7_comes : mx_okM (yX7_comes, cX7_comes, 5, (some .int), kk_X7_comes) = true := by decide +kernel
set_option maxRecDepth 100000 in
theorem cw_X7_comes : mx_okW (yX7_comes, cX7_comes, 5, (some .int), kk_X7_comes) = true := by decide +kernel
set_option maxRecDepth 100000 in
theorem ck_X7_leg : mx_okM (yX7_leg, cX7_leg, 4, (some .int), kk_X7_leg) = true := by decide +kernel
set_option maxRecDepth 100000 in
theorem cw_X7_leg : mx_okW (yX7_leg, cX7_leg, 4, (some .int), kk_X7_leg) = true := by decide +kernel
set_option maxRecDepth 100000 in
theorem ck_X7_told : mx_okM (yX7_told, cX7_told, 3, (some .int), kk_X7_told) = true := by decide +kernel
set_option maxRecDepth 100000 in
theorem cw_X7_told : mx_okW (yX7_told, cX7_told, 3, (some .int), kk_X7_told) = true := by decide +kernel
set_option maxRecDepth 100000 in
theorem ck_X7_isUnder : mx_okM (yX7_isUnder, cX7_isUnder, 2, (some .boolean), kk_X7_isUnder) = true := by decide +kernel
set_option maxRecDepth 100000 in
theorem cw_X7_isUnder : mx_okW (yX7_isUnder, cX7_isUnder, 2, (some .boolean), kk_X7_isUnder) = true := by decide +kernel
set_option maxRecDepth 100000 in
theorem ck_X7_as : mx_okM (yX7_as, cX7_as, 3, (some .int), kk_X7_as) = true := by decide +kernel
set_option maxRecDepth 100000 in
theorem cw_X7_as : mx_okW (yX7_as, cX7_as, 3, (some .int), kk_X7_as) = true := by decide +kernel
set_option maxRecDepth 100000 in
theorem ck_X7_turns : mx_okM (yX7_turns, cX7_turns, 3, (some .int), kk_X7_turns) = true := by decide +kernel
set_option maxRecDepth 100000 in
theorem cw_X7_turns : mx_okW (yX7_turns, cX7_turns, 3, (some .int), kk_X7_turns) = true := by decide +kernel
set_option maxRecDepth 100000 in
theorem ck_X7_set : mx_okM (yX7_set, cX7_set, 5, (some .int), kk_X7_set) = true := by decide +kernel
set_option maxRecDepth 100000 in
theorem cw_X7_set : mx_okW (yX7_set, cX7_set, 5, (some .int), kk_X7_set) = true := by decide +kernel
set_option maxRecDepth 100000 in
theorem ck_X7_presses : mx_okM (yX7_presses, cX7_presses, 5, (some .int), kk_X7_presses) = true := by decide +kernel
set_option maxRecDepth 100000 in
theorem cw_X7_presses : mx_okW (yX7_presses, cX7_presses, 5, (some .int), kk_X7_presses) = true := by decide +kernel
set_option maxRecDepth 100000 in
theorem ck_X7_irons : mx_okM (yX7_irons, cX7_irons, 3, (some .int), kk_X7_irons) = true := by decide +kernel
set_option maxRecDepth 100000 in
theorem cw_X7_irons : mx_okW (yX7_irons, cX7_irons, 3, (some .int), kk_X7_irons) = true := by decide +kernel
set_option maxRecDepth 100000 in
theorem ck_X7_rule : mx_okM (yX7_rule, cX7_rule, 4, (some .int), kk_X7_rule) = true := by decide +kernel
set_option maxRecDepth 100000 in
theorem cw_X7_rule : mx_okW (yX7_rule, cX7_rule, 4, (some .int), kk_X7_rule) = true := by decide +kernel
set_option maxRecDepth 100000 in
theorem ck_X7_draw : mx_okM (yX7_draw, cX7_draw, 1, (some .int), kk_X7_draw) = true := by decide +kernel
set_option maxRecDepth 100000 in
theorem cw_X7_draw : mx_okW (yX7_draw, cX7_draw, 1, (some .int), kk_X7_draw) = true := by decide +kernel
set_option maxRecDepth 100000 in
theorem ck_X7_deal : mx_okM (yX7_deal, cX7_deal, 6, (some .int), kk_X7_deal) = true := by decide +kernel
set_option maxRecDepth 100000 in
theorem cw_X7_deal : mx_okW (yX7_deal, cX7_deal, 6, (some .int), kk_X7_deal) = true := by decide +kernel
set_option maxRecDepth 100000 in
theorem ck_X7_seed : mx_okM (yX7_seed, cX7_seed, 2, (some .int), kk_X7_seed) = true := by decide +kernel
set_option maxRecDepth 100000 in
theorem cw_X7_seed : mx_okW (yX7_seed, cX7_seed, 2, (some .int), kk_X7_seed) = true := by decide +kernel
set_option maxRecDepth 100000 in
theorem ck_X7_dullest : mx_okM (yX7_dullest, cX7_dullest, 3, (some .int), kk_X7_dullest) = true := by decide +kernel
set_option maxRecDepth 100000 in
theorem cw_X7_dullest : mx_okW (yX7_dullest, cX7_dullest, 3, (some .int), kk_X7_dullest) = true := by decide +kernel
set_option maxRecDepth 100000 in
theorem ck_X7_isWorn : mx_okM (yX7_isWorn, cX7_isWorn, 5, none, kk_X7_isWorn) = true := by decide +kernel
set_option maxRecDepth 100000 in
theorem cw_X7_isWorn : mx_okW (yX7_isWorn, cX7_isWorn, 5, none, kk_X7_isWorn) = true := by decide +kernel
set_option maxRecDepth 100000 in
theorem ck_X7_day : mx_okM (yX7_day, cX7_day, 6, none, kk_X7_day) = true := by decide +kernel
set_option maxRecDepth 100000 in
theorem cw_X7_day : mx_okW (yX7_day, cX7_day, 6, none, kk_X7_day) = true := by decide +kernel
set_option maxRecDepth 100000 in
theorem ck_X7_goesOn : mx_okM (yX7_goesOn, cX7_goesOn, 3, none, kk_X7_goesOn) = true := by decide +kernel
set_option maxRecDepth 100000 in
theorem cw_X7_goesOn : mx_okW (yX7_goesOn, cX7_goesOn, 3, none, kk_X7_goesOn) = true := by decide +kernel
set_option maxRecDepth 100000 in
theorem ck_X7_days : mx_okM (yX7_days, cX7_days, 3, (some .int), kk_X7_days) = true := by decide +kernel
set_option maxRecDepth 100000 in
theorem cw_X7_days : mx_okW (yX7_days, cX7_days, 3, (some .int), kk_X7_days) = true := by decide +kernel
set_option maxRecDepth 100000 in
theorem ck_X7_allSharp : mx_okM (yX7_allSharp, cX7_allSharp, 3, (some .int), kk_X7_allSharp) = true := by decide +kernel
set_option maxRecDepth 100000 in
theorem cw_X7_allSharp : mx_okW (yX7_allSharp, cX7_allSharp, 3, (some .int), kk_X7_allSharp) = true := by decide +kernel
set_option maxRecDepth 100000 in
theorem ck_X7_doubled : mx_okM (yX7_doubled, cX7_doubled, 3, (some .int), kk_X7_doubled) = true := by decide +kernel
set_option maxRecDepth 100000 in
theorem cw_X7_doubled : mx_okW (yX7_doubled, cX7_doubled, 3, (some .int), kk_X7_doubled) = true := by decide +kernel
set_option maxRecDepth 100000 in
theorem ck_X7_closet : mx_okM (yX7_closet, cX7_closet, 2, (some .int), kk_X7_closet) = true := by decide +kernel
set_option maxRecDepth 100000 in
theorem cw_X7_closet : mx_okW (yX7_closet, cX7_closet, 2, (some .int), kk_X7_closet) = true := by decide +kernel
set_option maxRecDepth 100000 in
theorem ck_X7_thinks : mx_okM (yX7_thinks, cX7_thinks, 1, none, kk_X7_thinks) = true := by decide +kernel
set_option maxRecDepth 100000 in
theorem cw_X7_thinks : mx_okW (yX7_thinks, cX7_thinks, 1, none, kk_X7_thinks) = true := by decide +kernel
set_option maxRecDepth 100000 in
theorem ck_X7_putsBack : mx_okM (yX7_putsBack, cX7_putsBack, 1, none, kk_X7_putsBack) = true := by decide +kernel
set_option maxRecDepth 100000 in
theorem cw_X7_putsBack : mx_okW (yX7_putsBack, cX7_putsBack, 1, none, kk_X7_putsBack) = true := by decide +kernel
set_option maxRecDepth 100000 in
theorem ck_X7_behind : mx_okM (yX7_behind, cX7_behind, 4, (some .int), kk_X7_behind) = true := by decide +kernel
set_option maxRecDepth 100000 in
theorem cw_X7_behind : mx_okW (yX7_behind, cX7_behind, 4, (some .int), kk_X7_behind) = true := by decide +kernel
set_option maxRecDepth 100000 in
theorem ck_X7_dulls : mx_okM (yX7_dulls, cX7_dulls, 4, (some .int), kk_X7_dulls) = true := by decide +kernel
set_option maxRecDepth 100000 in
theorem cw_X7_dulls : mx_okW (yX7_dulls, cX7_dulls, 4, (some .int), kk_X7_dulls) = true := by decide +kernel
set_option maxRecDepth 100000 in
theorem ck_X7_doubles : mx_okM (yX7_doubles, cX7_doubles, 3, (some .int), kk_X7_doubles) = true := by decide +kernel
set_option maxRecDepth 100000 in
theorem cw_X7_doubles : mx_okW (yX7_doubles, cX7_doubles, 3, (some .int), kk_X7_doubles) = true := by decide +kernel
set_option maxRecDepth 100000 in
theorem ck_X7_isCaredFor : mx_okM (yX7_isCaredFor, cX7_isCaredFor, 5, (some .boolean), kk_X7_isCaredFor) = true := by decide +kernel
set_option maxRecDepth 100000 in
theorem cw_X7_isCaredFor : mx_okW (yX7_isCaredFor, cX7_isCaredFor, 5, (some .boolean), kk_X7_isCaredFor) = true := by decide +kernel
set_option maxRecDepth 100000 in
theorem ck_X7_wax : mx_okM (yX7_wax, cX7_wax, 5, (some .int), kk_X7_wax) = true := by decide +kernel
set_option maxRecDepth 100000 in
theorem cw_X7_wax : mx_okW (yX7_wax, cX7_wax, 5, (some .int), kk_X7_wax) = true := by decide +kernel
set_option maxRecDepth 100000 in
theorem ck_X7_sharpOn : mx_okM (yX7_sharpOn, cX7_sharpOn, 3, (some .int), kk_X7_sharpOn) = true := by decide +kernel
set_option maxRecDepth 100000 in
theorem cw_X7_sharpOn : mx_okW (yX7_sharpOn, cX7_sharpOn, 3, (some .int), kk_X7_sharpOn) = true := by decide +kernel
set_option maxRecDepth 100000 in
theorem ck_X7_iron : mx_okM (yX7_iron, cX7_iron, 4, (some .int), kk_X7_iron) = true := by decide +kernel
set_option maxRecDepth 100000 in
theorem cw_X7_iron : mx_okW (yX7_iron, cX7_iron, 4, (some .int), kk_X7_iron) = true := by decide +kernel
set_option maxRecDepth 100000 in
theorem ck_X7_first : mx_okM (yX7_first, cX7_first, 8, (some .int), kk_X7_first) = true := by decide +kernel
set_option maxRecDepth 100000 in
theorem cw_X7_first : mx_okW (yX7_first, cX7_first, 8, (some .int), kk_X7_first) = true := by decide +kernel
set_option maxRecDepth 100000 in
theorem ck_X7_becomes : mx_okM (yX7_becomes, cX7_becomes, 8, (some .int), kk_X7_becomes) = true := by decide +kernel
set_option maxRecDepth 100000 in
theorem cw_X7_becomes : mx_okW (yX7_becomes, cX7_becomes, 8, (some .int), kk_X7_becomes) = true := by decide +kernel
set_option maxRecDepth 100000 in
theorem ck_X7_like : mx_okM (yX7_like, cX7_like, 7, (some .int), kk_X7_like) = true := by decide +kernel
set_option maxRecDepth 100000 in
theorem cw_X7_like : mx_okW (yX7_like, cX7_like, 7, (some .int), kk_X7_like) = true := by decide +kernel
