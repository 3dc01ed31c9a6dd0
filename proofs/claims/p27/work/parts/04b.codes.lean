set_option maxRecDepth 20000 in
theorem wd259 : Cond.code yX9_putBytes cX9_putBytes 3 none ∈ wsL_law := List.mem_filter.mpr ⟨List.mem_append_right _ (List.mem_append_right _ (List.mem_append_left _ (List.mem_of_getElem? (i := 202) rfl))), by decide +kernel⟩
set_option maxRecDepth 20000 in
theorem wd272 : Cond.code yX9_deny cX9_deny 2 (some .boolean) ∈ wsL_law := List.mem_filter.mpr ⟨List.mem_append_right _ (List.mem_append_right _ (List.mem_append_left _ (List.mem_of_getElem? (i := 210) rfl))), by decide +kernel⟩
set_option maxRecDepth 20000 in
theorem wd286 : Cond.code yX9_takeTape cX9_takeTape 2 (some .int) ∈ wsL_law := List.mem_filter.mpr ⟨List.mem_append_right _ (List.mem_append_right _ (List.mem_append_left _ (List.mem_of_getElem? (i := 218) rfl))), by decide +kernel⟩
set_option maxRecDepth 20000 in
theorem wd290 : Cond.code yX5_readCrossing cX5_readCrossing 4 none ∈ wsL_law := List.mem_filter.mpr ⟨List.mem_append_right _ (List.mem_append_right _ (List.mem_append_left _ (List.mem_of_getElem? (i := 222) rfl))), by decide +kernel⟩
set_option maxRecDepth 20000 in
theorem wd296 : Cond.code yX5_begin cX5_begin 3 none ∈ wsL_law := List.mem_filter.mpr ⟨List.mem_append_right _ (List.mem_append_right _ (List.mem_append_left _ (List.mem_of_getElem? (i := 226) rfl))), by decide +kernel⟩
set_option maxRecDepth 20000 in
theorem wd300 : Cond.code Lib.Math.min.name Lib.Math.min.code 2 (some .int) ∈ wsL_law := List.mem_filter.mpr ⟨List.mem_append_right _ (List.mem_append_right _ (List.mem_append_left _ (List.mem_of_getElem? (i := 236) rfl))), by decide +kernel⟩
set_option maxRecDepth 20000 in
theorem wd304 : Cond.code yX4_clear cX4_clear 1 none ∈ wsL_law := List.mem_filter.mpr ⟨List.mem_append_right _ (List.mem_append_right _ (List.mem_append_left _ (List.mem_of_getElem? (i := 230) rfl))), by decide +kernel⟩
set_option maxRecDepth 20000 in
theorem wd314 : Cond.code yJ7_fill_53178 cJ7_fill_53178 4 none ∈ wsL_law := List.mem_filter.mpr ⟨List.mem_append_right _ (List.mem_append_right _ (List.mem_append_left _ (List.mem_of_getElem? (i := 233) rfl))), by decide +kernel⟩
set_option maxRecDepth 20000 in
theorem wd318 : Cond.code yX5_moveTo cX5_moveTo 3 none ∈ wsL_law := List.mem_filter.mpr ⟨List.mem_append_right _ (List.mem_append_right _ (List.mem_append_right _ (List.mem_append_left _ (List.mem_of_getElem? (i := 0) rfl)))), by decide +kernel⟩
set_option maxRecDepth 20000 in
theorem wd322 : Cond.code yX5_sortOf cX5_sortOf 2 (some .int) ∈ wsL_law := List.mem_filter.mpr ⟨List.mem_append_right _ (List.mem_append_right _ (List.mem_append_right _ (List.mem_append_left _ (List.mem_of_getElem? (i := 4) rfl)))), by decide +kernel⟩
set_option maxRecDepth 20000 in
theorem wd334 : Cond.code yX5_numberBehind cX5_numberBehind 4 (some .int) ∈ wsL_law := List.mem_filter.mpr ⟨List.mem_append_right _ (List.mem_append_right _ (List.mem_append_right _ (List.mem_append_left _ (List.mem_of_getElem? (i := 13) rfl)))), by decide +kernel⟩
set_option maxRecDepth 20000 in
theorem wd338 : Cond.code yX5_needWord cX5_needWord 2 none ∈ wsL_law := List.mem_filter.mpr ⟨List.mem_append_right _ (List.mem_append_right _ (List.mem_append_right _ (List.mem_append_left _ (List.mem_of_getElem? (i := 17) rfl)))), by decide +kernel⟩
set_option maxRecDepth 20000 in
theorem wd342 : Cond.code yX5_wordIn cX5_wordIn 6 (some .int) ∈ wsL_law := List.mem_filter.mpr ⟨List.mem_append_right _ (List.mem_append_right _ (List.mem_append_right _ (List.mem_append_left _ (List.mem_of_getElem? (i := 21) rfl)))), by decide +kernel⟩
set_option maxRecDepth 20000 in
theorem wd347 : Cond.code yJ0_length_8abf5 cJ0_length_8abf5 1 (some .int) ∈ wsL_law := List.mem_filter.mpr ⟨List.mem_append_right _ (List.mem_append_right _ (List.mem_append_right _ (List.mem_append_left _ (List.mem_of_getElem? (i := 25) rfl)))), by decide +kernel⟩
set_option maxRecDepth 20000 in
theorem wd395 : Cond.code yX5_fail cX5_fail 3 none ∈ wsL_law := List.mem_filter.mpr ⟨List.mem_append_right _ (List.mem_append_right _ (List.mem_append_right _ (List.mem_append_left _ (List.mem_of_getElem? (i := 73) rfl)))), by decide +kernel⟩
set_option maxRecDepth 20000 in
theorem wd407 : Cond.code yX5_sees cX5_sees 2 (some .boolean) ∈ wsL_law := List.mem_filter.mpr ⟨List.mem_append_right _ (List.mem_append_right _ (List.mem_append_right _ (List.mem_append_left _ (List.mem_of_getElem? (i := 88) rfl)))), by decide +kernel⟩
set_option maxRecDepth 20000 in
theorem wd425 : Cond.code yX5_isName cX5_isName 1 (some .boolean) ∈ wsL_law := List.mem_filter.mpr ⟨List.mem_append_right _ (List.mem_append_right _ (List.mem_append_right _ (List.mem_append_left _ (List.mem_of_getElem? (i := 101) rfl)))), by decide +kernel⟩
set_option maxRecDepth 20000 in
theorem wd437 : Cond.code yX5_nameLetter cX5_nameLetter 2 (some .int) ∈ wsL_law := List.mem_filter.mpr ⟨List.mem_append_right _ (List.mem_append_right _ (List.mem_append_right _ (List.mem_append_left _ (List.mem_of_getElem? (i := 114) rfl)))), by decide +kernel⟩
set_option maxRecDepth 20000 in
theorem wd472 : Cond.code yX5_part cX5_part 2 none ∈ wsL_law := List.mem_filter.mpr ⟨List.mem_append_right _ (List.mem_append_right _ (List.mem_append_right _ (List.mem_append_left _ (List.mem_of_getElem? (i := 143) rfl)))), by decide +kernel⟩
set_option maxRecDepth 20000 in
theorem wd487 : Cond.code yX5_product cX5_product 4 none ∈ wsL_law := List.mem_filter.mpr ⟨List.mem_append_right _ (List.mem_append_right _ (List.mem_append_right _ (List.mem_append_left _ (List.mem_of_getElem? (i := 139) rfl)))), by decide +kernel⟩
set_option maxRecDepth 20000 in
theorem wd495 : Cond.code yX5_both cX5_both 3 none ∈ wsL_law := List.mem_filter.mpr ⟨List.mem_append_right _ (List.mem_append_right _ (List.mem_append_right _ (List.mem_append_left _ (List.mem_of_getElem? (i := 175) rfl)))), by decide +kernel⟩
set_option maxRecDepth 20000 in
theorem wd499 : Cond.code yX5_fact cX5_fact 3 none ∈ wsL_law := List.mem_filter.mpr ⟨List.mem_append_right _ (List.mem_append_right _ (List.mem_append_right _ (List.mem_append_left _ (List.mem_of_getElem? (i := 179) rfl)))), by decide +kernel⟩
set_option maxRecDepth 20000 in
theorem wd530 : Cond.code yX4_uses cX4_uses 4 (some .boolean) ∈ wsL_law := List.mem_filter.mpr ⟨List.mem_append_right _ (List.mem_append_right _ (List.mem_append_right _ (List.mem_append_left _ (List.mem_of_getElem? (i := 211) rfl)))), by decide +kernel⟩
set_option maxRecDepth 20000 in
theorem wd538 : Cond.code yX1_forget cX1_forget 1 none ∈ wsL_law := List.mem_filter.mpr ⟨List.mem_append_right _ (List.mem_append_right _ (List.mem_append_right _ (List.mem_append_left _ (List.mem_of_getElem? (i := 219) rfl)))), by decide +kernel⟩
set_option maxRecDepth 20000 in
theorem wd542 : Cond.code yX0_forget cX0_forget 1 none ∈ wsL_law := List.mem_filter.mpr ⟨List.mem_append_right _ (List.mem_append_right _ (List.mem_append_right _ (List.mem_append_left _ (List.mem_of_getElem? (i := 223) rfl)))), by decide +kernel⟩
set_option maxRecDepth 20000 in
theorem wd546 : Cond.code yX8_forget cX8_forget 1 none ∈ wsL_law := List.mem_filter.mpr ⟨List.mem_append_right _ (List.mem_append_right _ (List.mem_append_right _ (List.mem_append_left _ (List.mem_of_getElem? (i := 227) rfl)))), by decide +kernel⟩
set_option maxRecDepth 20000 in
theorem wd780 : Cond.code yX9_isKind cX9_isKind 2 (some .boolean) ∈ wsL_law := List.mem_filter.mpr ⟨List.mem_append_right _ (List.mem_append_right _ (List.mem_append_right _ (List.mem_append_right _ (List.mem_append_left _ (List.mem_of_getElem? (i := 4) rfl))))), by decide +kernel⟩
set_option maxRecDepth 20000 in
theorem wd784 : Cond.code yX9_isWalker cX9_isWalker 2 (some .boolean) ∈ wsL_law := List.mem_filter.mpr ⟨List.mem_append_right _ (List.mem_append_right _ (List.mem_append_right _ (List.mem_append_right _ (List.mem_append_left _ (List.mem_of_getElem? (i := 8) rfl))))), by decide +kernel⟩
set_option maxRecDepth 20000 in
theorem wd800 : Cond.code yX4_walkersOf cX4_walkersOf 4 (some .int) ∈ wsL_law := List.mem_filter.mpr ⟨List.mem_append_right _ (List.mem_append_right _ (List.mem_append_right _ (List.mem_append_right _ (List.mem_append_left _ (List.mem_of_getElem? (i := 16) rfl))))), by decide +kernel⟩
set_option maxRecDepth 20000 in
theorem wd830 : Cond.code yX9_layToday cX9_layToday 1 none ∈ wsL_law := List.mem_filter.mpr ⟨List.mem_append_right _ (List.mem_append_right _ (List.mem_append_right _ (List.mem_append_right _ (List.mem_append_left _ (List.mem_of_getElem? (i := 24) rfl))))), by decide +kernel⟩
set_option maxRecDepth 20000 in
theorem wd834 : Cond.code yX7_lay cX7_lay 5 none ∈ wsL_law := List.mem_filter.mpr ⟨List.mem_append_right _ (List.mem_append_right _ (List.mem_append_right _ (List.mem_append_right _ (List.mem_append_left _ (List.mem_of_getElem? (i := 28) rfl))))), by decide +kernel⟩
set_option maxRecDepth 20000 in
theorem wd839 : Cond.code yX7_prepare cX7_prepare 5 none ∈ wsL_law := List.mem_filter.mpr ⟨List.mem_append_right _ (List.mem_append_right _ (List.mem_append_right _ (List.mem_append_right _ (List.mem_append_left _ (List.mem_of_getElem? (i := 32) rfl))))), by decide +kernel⟩
set_option maxRecDepth 20000 in
theorem wd846 : Cond.code yX7_drive cX7_drive 4 none ∈ wsL_law := List.mem_filter.mpr ⟨List.mem_append_right _ (List.mem_append_right _ (List.mem_append_right _ (List.mem_append_right _ (List.mem_append_left _ (List.mem_of_getElem? (i := 36) rfl))))), by decide +kernel⟩
set_option maxRecDepth 20000 in
theorem wd854 : Cond.code yX3_value cX3_value 7 (some .int) ∈ wsL_law := List.mem_filter.mpr ⟨List.mem_append_right _ (List.mem_append_right _ (List.mem_append_right _ (List.mem_append_right _ (List.mem_append_left _ (List.mem_of_getElem? (i := 40) rfl))))), by decide +kernel⟩
set_option maxRecDepth 20000 in
theorem wd857 : Cond.code yX3_operate cX3_operate 3 (some .int) ∈ wsL_law := List.mem_filter.mpr ⟨List.mem_append_right _ (List.mem_append_right _ (List.mem_append_right _ (List.mem_append_right _ (List.mem_append_left _ (List.mem_of_getElem? (i := 43) rfl))))), by decide +kernel⟩
set_option maxRecDepth 20000 in
theorem wd860 : Cond.code yX3_within cX3_within 2 (some .int) ∈ wsL_law := List.mem_filter.mpr ⟨List.mem_append_right _ (List.mem_append_right _ (List.mem_append_right _ (List.mem_append_right _ (List.mem_append_left _ (List.mem_of_getElem? (i := 46) rfl))))), by decide +kernel⟩
set_option maxRecDepth 20000 in
theorem wd868 : Cond.code yJ9_floorDiv_7cf53 cJ9_floorDiv_7cf53 3 (some .int) ∈ wsL_law := List.mem_filter.mpr ⟨List.mem_append_right _ (List.mem_append_right _ (List.mem_append_right _ (List.mem_append_right _ (List.mem_append_left _ (List.mem_of_getElem? (i := 53) rfl))))), by decide +kernel⟩
set_option maxRecDepth 20000 in
theorem wd877 : Cond.code Lib.Math.max.name Lib.Math.max.code 2 (some .int) ∈ wsL_law := List.mem_filter.mpr ⟨List.mem_append_right _ (List.mem_append_right _ (List.mem_append_right _ (List.mem_append_right _ (List.mem_append_left _ (List.mem_of_getElem? (i := 70) rfl))))), by decide +kernel⟩
set_option maxRecDepth 20000 in
theorem wd881 : Cond.code yX7_willing cX7_willing 3 (some .int) ∈ wsL_law := List.mem_filter.mpr ⟨List.mem_append_right _ (List.mem_append_right _ (List.mem_append_right _ (List.mem_append_right _ (List.mem_append_left _ (List.mem_of_getElem? (i := 63) rfl))))), by decide +kernel⟩
set_option maxRecDepth 20000 in
theorem wd887 : Cond.code yX4_comersIn cX4_comersIn 2 (some .int) ∈ wsL_law := List.mem_filter.mpr ⟨List.mem_append_right _ (List.mem_append_right _ (List.mem_append_right _ (List.mem_append_right _ (List.mem_append_left _ (List.mem_of_getElem? (i := 67) rfl))))), by decide +kernel⟩
set_option maxRecDepth 20000 in
theorem wd896 : Cond.code yX4_everyone cX4_everyone 1 (some .int) ∈ wsL_law := List.mem_filter.mpr ⟨List.mem_append_right _ (List.mem_append_right _ (List.mem_append_right _ (List.mem_append_right _ (List.mem_append_left _ (List.mem_of_getElem? (i := 78) rfl))))), by decide +kernel⟩
set_option maxRecDepth 20000 in
theorem wd900 : Cond.code yX7_goes cX7_goes 8 (some .boolean) ∈ wsL_law := List.mem_filter.mpr ⟨List.mem_append_right _ (List.mem_append_right _ (List.mem_append_right _ (List.mem_append_right _ (List.mem_append_left _ (List.mem_of_getElem? (i := 82) rfl))))), by decide +kernel⟩
set_option maxRecDepth 20000 in
theorem wd905 : Cond.code yX7_describe cX7_describe 7 none ∈ wsL_law := List.mem_filter.mpr ⟨List.mem_append_right _ (List.mem_append_right _ (List.mem_append_right _ (List.mem_append_right _ (List.mem_append_left _ (List.mem_of_getElem? (i := 86) rfl))))), by decide +kernel⟩
set_option maxRecDepth 20000 in
theorem wd910 : Cond.code yX7_waitedBy cX7_waitedBy 2 (some .int) ∈ wsL_law := List.mem_filter.mpr ⟨List.mem_append_right _ (List.mem_append_right _ (List.mem_append_right _ (List.mem_append_right _ (List.mem_append_left _ (List.mem_of_getElem? (i := 90) rfl))))), by decide +kernel⟩
set_option maxRecDepth 20000 in
theorem wd998 : Cond.code yX9_stands cX9_stands 1 (some .boolean) ∈ wsL_law := List.mem_filter.mpr ⟨List.mem_append_right _ (List.mem_append_right _ (List.mem_append_right _ (List.mem_append_right _ (List.mem_append_left _ (List.mem_of_getElem? (i := 101) rfl))))), by decide +kernel⟩
set_option maxRecDepth 20000 in
theorem wd1021 : Cond.code yX7_told cX7_told 2 (some .int) ∈ wsL_law := List.mem_filter.mpr ⟨List.mem_append_right _ (List.mem_append_right _ (List.mem_append_right _ (List.mem_append_right _ (List.mem_append_left _ (List.mem_of_getElem? (i := 113) rfl))))), by decide +kernel⟩
set_option maxRecDepth 20000 in
theorem wd1025 : Cond.code yX7_waitedByAll cX7_waitedByAll 3 (some .int) ∈ wsL_law := List.mem_filter.mpr ⟨List.mem_append_right _ (List.mem_append_right _ (List.mem_append_right _ (List.mem_append_right _ (List.mem_append_left _ (List.mem_of_getElem? (i := 117) rfl))))), by decide +kernel⟩
set_option maxRecDepth 20000 in
theorem wd1030 : Cond.code yJ6_bitCount_0f7a4 cJ6_bitCount_0f7a4 1 (some .int) ∈ wsL_law := List.mem_filter.mpr ⟨List.mem_append_right _ (List.mem_append_right _ (List.mem_append_right _ (List.mem_append_right _ (List.mem_append_left _ (List.mem_of_getElem? (i := 121) rfl))))), by decide +kernel⟩
set_option maxRecDepth 20000 in
theorem wd1037 : Cond.code yX7_greensForNobody cX7_greensForNobody 5 (some .int) ∈ wsL_law := List.mem_filter.mpr ⟨List.mem_append_right _ (List.mem_append_right _ (List.mem_append_right _ (List.mem_append_right _ (List.mem_append_left _ (List.mem_of_getElem? (i := 128) rfl))))), by decide +kernel⟩
set_option maxRecDepth 20000 in
theorem wd1041 : Cond.code yX7_someoneCrosses cX7_someoneCrosses 3 (some .boolean) ∈ wsL_law := List.mem_filter.mpr ⟨List.mem_append_right _ (List.mem_append_right _ (List.mem_append_right _ (List.mem_append_right _ (List.mem_append_left _ (List.mem_of_getElem? (i := 132) rfl))))), by decide +kernel⟩
set_option maxRecDepth 20000 in
theorem wd1072 : Cond.code yX1_bestOf cX1_bestOf 7 (some .int) ∈ wsL_law := List.mem_filter.mpr ⟨List.mem_append_right _ (List.mem_append_right _ (List.mem_append_right _ (List.mem_append_right _ (List.mem_append_left _ (List.mem_of_getElem? (i := 140) rfl))))), by decide +kernel⟩
set_option maxRecDepth 20000 in
theorem wd1077 : Cond.code yX7_greensUpTo cX7_greensUpTo 2 (some .int) ∈ wsL_law := List.mem_filter.mpr ⟨List.mem_append_right _ (List.mem_append_right _ (List.mem_append_right _ (List.mem_append_right _ (List.mem_append_left _ (List.mem_of_getElem? (i := 145) rfl))))), by decide +kernel⟩
set_option maxRecDepth 20000 in
theorem wd1101 : Cond.code yX1_leastGreen cX1_leastGreen 4 (some .int) ∈ wsL_law := List.mem_filter.mpr ⟨List.mem_append_right _ (List.mem_append_right _ (List.mem_append_right _ (List.mem_append_right _ (List.mem_append_left _ (List.mem_of_getElem? (i := 159) rfl))))), by decide +kernel⟩
set_option maxRecDepth 20000 in
theorem wd1122 : Cond.code yX7_goersByThemselves cX7_goersByThemselves 5 (some .int) ∈ wsL_law := List.mem_filter.mpr ⟨List.mem_append_right _ (List.mem_append_right _ (List.mem_append_right _ (List.mem_append_right _ (List.mem_append_left _ (List.mem_of_getElem? (i := 175) rfl))))), by decide +kernel⟩
set_option maxRecDepth 20000 in
theorem wd1139 : Cond.code yX0_goTo cX0_goTo 4 none ∈ wsL_law := List.mem_filter.mpr ⟨List.mem_append_right _ (List.mem_append_right _ (List.mem_append_right _ (List.mem_append_right _ (List.mem_append_left _ (List.mem_of_getElem? (i := 184) rfl))))), by decide +kernel⟩
set_option maxRecDepth 20000 in
theorem wd1196 : Cond.code yX8_accepts cX8_accepts 6 (some .boolean) ∈ wsL_law := List.mem_filter.mpr ⟨List.mem_append_right _ (List.mem_append_right _ (List.mem_append_right _ (List.mem_append_right _ (List.mem_append_left _ (List.mem_of_getElem? (i := 208) rfl))))), by decide +kernel⟩
set_option maxRecDepth 20000 in
theorem wd1201 : Cond.code yX8_keep cX8_keep 5 (some .int) ∈ wsL_law := List.mem_filter.mpr ⟨List.mem_append_right _ (List.mem_append_right _ (List.mem_append_right _ (List.mem_append_right _ (List.mem_append_left _ (List.mem_of_getElem? (i := 213) rfl))))), by decide +kernel⟩
set_option maxRecDepth 20000 in
theorem wd1221 : Cond.code yX8_compare cX8_compare 5 none ∈ wsL_law := List.mem_filter.mpr ⟨List.mem_append_right _ (List.mem_append_right _ (List.mem_append_right _ (List.mem_append_right _ (List.mem_append_left _ (List.mem_of_getElem? (i := 221) rfl))))), by decide +kernel⟩
set_option maxRecDepth 20000 in
theorem wd1233 : Cond.code yX8_choose cX8_choose 4 none ∈ wsL_law := List.mem_filter.mpr ⟨List.mem_append_right _ (List.mem_append_right _ (List.mem_append_right _ (List.mem_append_right _ (List.mem_append_left _ (List.mem_of_getElem? (i := 232) rfl))))), by decide +kernel⟩
set_option maxRecDepth 20000 in
theorem wd1237 : Cond.code yX7_walkers cX7_walkers 1 (some .int) ∈ wsL_law := List.mem_filter.mpr ⟨List.mem_append_right _ (List.mem_append_right _ (List.mem_append_right _ (List.mem_append_right _ (List.mem_append_left _ (List.mem_of_getElem? (i := 236) rfl))))), by decide +kernel⟩
set_option maxRecDepth 20000 in
theorem wd1241 : Cond.code yX8_mostLeft cX8_mostLeft 6 (some .int) ∈ wsL_law := List.mem_filter.mpr ⟨List.mem_append_right _ (List.mem_append_right _ (List.mem_append_right _ (List.mem_append_right _ (List.mem_append_right _ (List.mem_append_left _ (List.mem_of_getElem? (i := 0) rfl)))))), by decide +kernel⟩
set_option maxRecDepth 20000 in
theorem wd1279 : Cond.code yX9_act cX9_act 1 none ∈ wsL_law := List.mem_filter.mpr ⟨List.mem_append_right _ (List.mem_append_right _ (List.mem_append_right _ (List.mem_append_right _ (List.mem_append_right _ (List.mem_append_left _ (List.mem_of_getElem? (i := 13) rfl)))))), by decide +kernel⟩
set_option maxRecDepth 20000 in
theorem wd1283 : Cond.code yX2_keep cX2_keep 2 none ∈ wsL_law := List.mem_filter.mpr ⟨List.mem_append_right _ (List.mem_append_right _ (List.mem_append_right _ (List.mem_append_right _ (List.mem_append_right _ (List.mem_append_left _ (List.mem_of_getElem? (i := 17) rfl)))))), by decide +kernel⟩
set_option maxRecDepth 20000 in
theorem wd1306 : Cond.code yX4_allowsGreen cX4_allowsGreen 2 (some .boolean) ∈ wsL_law := List.mem_filter.mpr ⟨List.mem_append_right _ (List.mem_append_right _ (List.mem_append_right _ (List.mem_append_right _ (List.mem_append_right _ (List.mem_append_left _ (List.mem_of_getElem? (i := 27) rfl)))))), by decide +kernel⟩
set_option maxRecDepth 20000 in
theorem wd1326 : Cond.code yX9_canLive cX9_canLive 2 (some .boolean) ∈ wsL_law := List.mem_filter.mpr ⟨List.mem_append_right _ (List.mem_append_right _ (List.mem_append_right _ (List.mem_append_right _ (List.mem_append_right _ (List.mem_append_left _ (List.mem_of_getElem? (i := 39) rfl)))))), by decide +kernel⟩
set_option maxRecDepth 20000 in
theorem wd1366 : Cond.code yX2_giveBack cX2_giveBack 2 (some .boolean) ∈ wsL_law := List.mem_filter.mpr ⟨List.mem_append_right _ (List.mem_append_right _ (List.mem_append_right _ (List.mem_append_right _ (List.mem_append_right _ (List.mem_append_left _ (List.mem_of_getElem? (i := 62) rfl)))))), by decide +kernel⟩
set_option maxRecDepth 20000 in
theorem wd1387 : Cond.code yX5_readQuestion cX5_readQuestion 4 (some .int) ∈ wsL_law := List.mem_filter.mpr ⟨List.mem_append_right _ (List.mem_append_right _ (List.mem_append_right _ (List.mem_append_right _ (List.mem_append_right _ (List.mem_append_left _ (List.mem_of_getElem? (i := 75) rfl)))))), by decide +kernel⟩
set_option maxRecDepth 20000 in
theorem wd1398 : Cond.code yX7_describeWhole cX7_describeWhole 4 none ∈ wsL_law := List.mem_filter.mpr ⟨List.mem_append_right _ (List.mem_append_right _ (List.mem_append_right _ (List.mem_append_right _ (List.mem_append_right _ (List.mem_append_left _ (List.mem_of_getElem? (i := 85) rfl)))))), by decide +kernel⟩
set_option maxRecDepth 20000 in
theorem wd1430 : Cond.code yX9_check cX9_check 4 (some .int) ∈ wsL_law := List.mem_filter.mpr ⟨List.mem_append_right _ (List.mem_append_right _ (List.mem_append_right _ (List.mem_append_right _ (List.mem_append_right _ (List.mem_append_left _ (List.mem_of_getElem? (i := 93) rfl)))))), by decide +kernel⟩
set_option maxRecDepth 20000 in
theorem wd1459 : Cond.code yX9_isImage cX9_isImage 3 (some .boolean) ∈ wsL_law := List.mem_filter.mpr ⟨List.mem_append_right _ (List.mem_append_right _ (List.mem_append_right _ (List.mem_append_right _ (List.mem_append_right _ (List.mem_append_left _ (List.mem_of_getElem? (i := 105) rfl)))))), by decide +kernel⟩
