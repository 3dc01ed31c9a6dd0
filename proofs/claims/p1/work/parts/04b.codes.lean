set_option maxRecDepth 20000 in
theorem wd8 : Cond.code yX9_init cX9_init 1 none ∈ wsL_law := List.mem_filter.mpr ⟨List.mem_append_right _ (List.mem_append_left _ (List.mem_of_getElem? (i := 24) rfl)), by decide +kernel⟩
set_option maxRecDepth 20000 in
theorem wd11 : Cond.code objectInit ⟨#[0xb1]⟩ 1 none ∈ wsL_law := List.mem_filter.mpr ⟨List.mem_append_right _ (List.mem_append_left _ (List.mem_of_getElem? (i := 27) rfl)), by decide +kernel⟩
set_option maxRecDepth 20000 in
theorem wd57 : Cond.code yX4_init cX4_init 1 none ∈ wsL_law := List.mem_filter.mpr ⟨List.mem_append_right _ (List.mem_append_left _ (List.mem_of_getElem? (i := 32) rfl)), by decide +kernel⟩
set_option maxRecDepth 20000 in
theorem wd69 : Cond.code yX6_init cX6_init 1 none ∈ wsL_law := List.mem_filter.mpr ⟨List.mem_append_right _ (List.mem_append_left _ (List.mem_of_getElem? (i := 134) rfl)), by decide +kernel⟩
set_option maxRecDepth 20000 in
theorem wd77 : Cond.code yX2_init cX2_init 2 none ∈ wsL_law := List.mem_filter.mpr ⟨List.mem_append_right _ (List.mem_append_left _ (List.mem_of_getElem? (i := 163) rfl)), by decide +kernel⟩
set_option maxRecDepth 20000 in
theorem wd84 : Cond.code yX3_init cX3_init 1 none ∈ wsL_law := List.mem_filter.mpr ⟨List.mem_append_right _ (List.mem_append_left _ (List.mem_of_getElem? (i := 183) rfl)), by decide +kernel⟩
set_option maxRecDepth 20000 in
theorem wd90 : Cond.code yX5_init cX5_init 3 none ∈ wsL_law := List.mem_filter.mpr ⟨List.mem_append_right _ (List.mem_append_left _ (List.mem_of_getElem? (i := 197) rfl)), by decide +kernel⟩
set_option maxRecDepth 20000 in
theorem wd103 : Cond.code yX7_init cX7_init 3 none ∈ wsL_law := List.mem_filter.mpr ⟨List.mem_append_right _ (List.mem_append_left _ (List.mem_of_getElem? (i := 233) rfl)), by decide +kernel⟩
set_option maxRecDepth 20000 in
theorem wd124 : Cond.code yX1_init cX1_init 2 none ∈ wsL_law := List.mem_filter.mpr ⟨List.mem_append_right _ (List.mem_append_right _ (List.mem_append_left _ (List.mem_of_getElem? (i := 58) rfl))), by decide +kernel⟩
set_option maxRecDepth 20000 in
theorem wd131 : Cond.code yX0_init cX0_init 2 none ∈ wsL_law := List.mem_filter.mpr ⟨List.mem_append_right _ (List.mem_append_right _ (List.mem_append_left _ (List.mem_of_getElem? (i := 74) rfl))), by decide +kernel⟩
set_option maxRecDepth 20000 in
theorem wd141 : Cond.code yX8_init cX8_init 2 none ∈ wsL_law := List.mem_filter.mpr ⟨List.mem_append_right _ (List.mem_append_right _ (List.mem_append_left _ (List.mem_of_getElem? (i := 100) rfl))), by decide +kernel⟩
set_option maxRecDepth 20000 in
theorem wd156 : Cond.code yX10_init cX10_init 1 none ∈ wsL_law := List.mem_filter.mpr ⟨List.mem_append_right _ (List.mem_append_right _ (List.mem_append_right _ (List.mem_append_right _ (List.mem_append_right _ (List.mem_append_left _ (List.mem_of_getElem? (i := 115) rfl)))))), by decide +kernel⟩
set_option maxRecDepth 20000 in
theorem wd251 : Cond.code yX9_feed cX9_feed 6 (some .int) ∈ wsL_law := List.mem_filter.mpr ⟨List.mem_append_right _ (List.mem_append_right _ (List.mem_append_left _ (List.mem_of_getElem? (i := 194) rfl))), by decide +kernel⟩
set_option maxRecDepth 20000 in
theorem wd255 : Cond.code yX9_refuse cX9_refuse 2 (some .int) ∈ wsL_law := List.mem_filter.mpr ⟨List.mem_append_right _ (List.mem_append_right _ (List.mem_append_left _ (List.mem_of_getElem? (i := 198) rfl))), by decide +kernel⟩
set_option maxRecDepth 20000 in
theorem wd259 : Cond.code yX9_putBytes cX9_putBytes 3 none ∈ wsL_law := List.mem_filter.mpr ⟨List.mem_append_right _ (List.mem_append_right _ (List.mem_append_left _ (List.mem_of_getElem? (i := 202) rfl))), by decide +kernel⟩
set_option maxRecDepth 20000 in
theorem wd263 : Cond.code yX10_feed cX10_feed 8 (some .int) ∈ wsL_law := List.mem_filter.mpr ⟨List.mem_append_right _ (List.mem_append_right _ (List.mem_append_right _ (List.mem_append_right _ (List.mem_append_right _ (List.mem_append_right _ (List.mem_append_right _ (List.mem_append_left _ (List.mem_of_getElem? (i := 10) rfl)))))))), by decide +kernel⟩
set_option maxRecDepth 20000 in
theorem wd268 : Cond.code yX9_end cX9_end 2 (some .boolean) ∈ wsL_law := List.mem_filter.mpr ⟨List.mem_append_right _ (List.mem_append_right _ (List.mem_append_left _ (List.mem_of_getElem? (i := 206) rfl))), by decide +kernel⟩
set_option maxRecDepth 20000 in
theorem wd272 : Cond.code yX9_deny cX9_deny 2 (some .boolean) ∈ wsL_law := List.mem_filter.mpr ⟨List.mem_append_right _ (List.mem_append_right _ (List.mem_append_left _ (List.mem_of_getElem? (i := 210) rfl))), by decide +kernel⟩
set_option maxRecDepth 20000 in
theorem wd276 : Cond.code yX10_end cX10_end 2 (some .boolean) ∈ wsL_law := List.mem_filter.mpr ⟨List.mem_append_right _ (List.mem_append_right _ (List.mem_append_right _ (List.mem_append_right _ (List.mem_append_right _ (List.mem_append_right _ (List.mem_append_right _ (List.mem_append_left _ (List.mem_of_getElem? (i := 14) rfl)))))))), by decide +kernel⟩
set_option maxRecDepth 20000 in
theorem wd280 : Cond.code yX9_crossing cX9_crossing 2 (some .int) ∈ wsL_law := List.mem_filter.mpr ⟨List.mem_append_right _ (List.mem_append_right _ (List.mem_append_left _ (List.mem_of_getElem? (i := 214) rfl))), by decide +kernel⟩
set_option maxRecDepth 20000 in
theorem wd286 : Cond.code yX9_takeTape cX9_takeTape 2 (some .int) ∈ wsL_law := List.mem_filter.mpr ⟨List.mem_append_right _ (List.mem_append_right _ (List.mem_append_left _ (List.mem_of_getElem? (i := 218) rfl))), by decide +kernel⟩
set_option maxRecDepth 20000 in
theorem wd290 : Cond.code yX5_readCrossing cX5_readCrossing 4 none ∈ wsL_law := List.mem_filter.mpr ⟨List.mem_append_right _ (List.mem_append_right _ (List.mem_append_left _ (List.mem_of_getElem? (i := 222) rfl))), by decide +kernel⟩
set_option maxRecDepth 20000 in
theorem wd296 : Cond.code yX5_begin cX5_begin 3 none ∈ wsL_law := List.mem_filter.mpr ⟨List.mem_append_right _ (List.mem_append_right _ (List.mem_append_left _ (List.mem_of_getElem? (i := 226) rfl))), by decide +kernel⟩
set_option maxRecDepth 20000 in
theorem wd300 : Cond.code Lib.Math.min.name Lib.Math.min.code 2 (some .int) ∈ wsL_law := List.mem_filter.mpr ⟨List.mem_append_right _ (List.mem_append_right _ (List.mem_append_left _ (List.mem_of_getElem? (i := 236) rfl))), by decide +kernel⟩
set_option maxRecDepth 20000 in
theorem wd304 : Cond.code yX4_clear cX4_clear 1 none ∈ wsL_law := List.mem_filter.mpr ⟨List.mem_append_right _ (List.mem_append_right _ (List.mem_append_left _ (List.mem_of_getElem? (i := 230) rfl))), by decide +kernel⟩
set_option maxRecDepth 20000 in
theorem wd314 : Cond.code yJ7_fill_53178 cJ7_fill_53178 4 none ∈ wsL_law := List.mem_filter.mpr ⟨List.mem_append_right _ (List.mem_append_right _ (List.mem_append_left _ (List.mem_of_getElem? (i := 233) rfl))), by decide +kernel⟩
set_option maxRecDepth 20000 in
theorem wd318 : Cond.code yX5_moveTo cX5_moveTo 3 none ∈ wsL_law := List.mem_filter.mpr ⟨List.mem_append_right _ (List.mem_append_right _ (List.mem_append_right _ (List.mem_append_left _ (List.mem_of_getElem? (i := 0) rfl)))), by decide +kernel⟩
set_option maxRecDepth 20000 in
theorem wd322 : Cond.code yX5_sortOf cX5_sortOf 2 (some .int) ∈ wsL_law := List.mem_filter.mpr ⟨List.mem_append_right _ (List.mem_append_right _ (List.mem_append_right _ (List.mem_append_left _ (List.mem_of_getElem? (i := 4) rfl)))), by decide +kernel⟩
set_option maxRecDepth 20000 in
theorem wd326 : Cond.code yX5_firstStatement cX5_firstStatement 1 none ∈ wsL_law := List.mem_filter.mpr ⟨List.mem_append_right _ (List.mem_append_right _ (List.mem_append_right _ (List.mem_append_left _ (List.mem_of_getElem? (i := 8) rfl)))), by decide +kernel⟩
set_option maxRecDepth 20000 in
theorem wd334 : Cond.code yX5_numberBehind cX5_numberBehind 4 (some .int) ∈ wsL_law := List.mem_filter.mpr ⟨List.mem_append_right _ (List.mem_append_right _ (List.mem_append_right _ (List.mem_append_left _ (List.mem_of_getElem? (i := 13) rfl)))), by decide +kernel⟩
set_option maxRecDepth 20000 in
theorem wd338 : Cond.code yX5_needWord cX5_needWord 2 none ∈ wsL_law := List.mem_filter.mpr ⟨List.mem_append_right _ (List.mem_append_right _ (List.mem_append_right _ (List.mem_append_left _ (List.mem_of_getElem? (i := 17) rfl)))), by decide +kernel⟩
set_option maxRecDepth 20000 in
theorem wd342 : Cond.code yX5_wordIn cX5_wordIn 6 (some .int) ∈ wsL_law := List.mem_filter.mpr ⟨List.mem_append_right _ (List.mem_append_right _ (List.mem_append_right _ (List.mem_append_left _ (List.mem_of_getElem? (i := 21) rfl)))), by decide +kernel⟩
set_option maxRecDepth 20000 in
theorem wd395 : Cond.code yX5_fail cX5_fail 3 none ∈ wsL_law := List.mem_filter.mpr ⟨List.mem_append_right _ (List.mem_append_right _ (List.mem_append_right _ (List.mem_append_left _ (List.mem_of_getElem? (i := 73) rfl)))), by decide +kernel⟩
set_option maxRecDepth 20000 in
theorem wd399 : Cond.code yX5_number cX5_number 5 (some .int) ∈ wsL_law := List.mem_filter.mpr ⟨List.mem_append_right _ (List.mem_append_right _ (List.mem_append_right _ (List.mem_append_left _ (List.mem_of_getElem? (i := 77) rfl)))), by decide +kernel⟩
set_option maxRecDepth 20000 in
theorem wd403 : Cond.code yX5_need cX5_need 2 none ∈ wsL_law := List.mem_filter.mpr ⟨List.mem_append_right _ (List.mem_append_right _ (List.mem_append_right _ (List.mem_append_left _ (List.mem_of_getElem? (i := 84) rfl)))), by decide +kernel⟩
set_option maxRecDepth 20000 in
theorem wd407 : Cond.code yX5_sees cX5_sees 2 (some .boolean) ∈ wsL_law := List.mem_filter.mpr ⟨List.mem_append_right _ (List.mem_append_right _ (List.mem_append_right _ (List.mem_append_left _ (List.mem_of_getElem? (i := 88) rfl)))), by decide +kernel⟩
set_option maxRecDepth 20000 in
theorem wd550 : Cond.code yX10_crossing cX10_crossing 2 (some .int) ∈ wsL_law := List.mem_filter.mpr ⟨List.mem_append_right _ (List.mem_append_right _ (List.mem_append_right _ (List.mem_append_right _ (List.mem_append_right _ (List.mem_append_right _ (List.mem_append_right _ (List.mem_append_left _ (List.mem_of_getElem? (i := 18) rfl)))))))), by decide +kernel⟩
set_option maxRecDepth 20000 in
theorem wd563 : Cond.code yX10_barTold cX10_barTold 1 none ∈ wsL_law := List.mem_filter.mpr ⟨List.mem_append_right _ (List.mem_append_right _ (List.mem_append_right _ (List.mem_append_right _ (List.mem_append_right _ (List.mem_append_right _ (List.mem_append_right _ (List.mem_append_left _ (List.mem_of_getElem? (i := 22) rfl)))))))), by decide +kernel⟩
set_option maxRecDepth 20000 in
theorem wd567 : Cond.code yX10_asks cX10_asks 2 none ∈ wsL_law := List.mem_filter.mpr ⟨List.mem_append_right _ (List.mem_append_right _ (List.mem_append_right _ (List.mem_append_right _ (List.mem_append_right _ (List.mem_append_right _ (List.mem_append_right _ (List.mem_append_left _ (List.mem_of_getElem? (i := 26) rfl)))))))), by decide +kernel⟩
set_option maxRecDepth 20000 in
theorem wd571 : Cond.code yX10_takes cX10_takes 2 (some .boolean) ∈ wsL_law := List.mem_filter.mpr ⟨List.mem_append_right _ (List.mem_append_right _ (List.mem_append_right _ (List.mem_append_right _ (List.mem_append_right _ (List.mem_append_right _ (List.mem_append_right _ (List.mem_append_left _ (List.mem_of_getElem? (i := 30) rfl)))))))), by decide +kernel⟩
set_option maxRecDepth 20000 in
theorem wd575 : Cond.code yX10_isHere cX10_isHere 4 (some .boolean) ∈ wsL_law := List.mem_filter.mpr ⟨List.mem_append_right _ (List.mem_append_right _ (List.mem_append_right _ (List.mem_append_right _ (List.mem_append_right _ (List.mem_append_right _ (List.mem_append_right _ (List.mem_append_left _ (List.mem_of_getElem? (i := 34) rfl)))))))), by decide +kernel⟩
set_option maxRecDepth 20000 in
theorem wd579 : Cond.code yX10_look cX10_look 1 (some .int) ∈ wsL_law := List.mem_filter.mpr ⟨List.mem_append_right _ (List.mem_append_right _ (List.mem_append_right _ (List.mem_append_right _ (List.mem_append_right _ (List.mem_append_right _ (List.mem_append_right _ (List.mem_append_left _ (List.mem_of_getElem? (i := 38) rfl)))))))), by decide +kernel⟩
set_option maxRecDepth 20000 in
theorem wd582 : Cond.code yX10_isLetter cX10_isLetter 1 (some .boolean) ∈ wsL_law := List.mem_filter.mpr ⟨List.mem_append_right _ (List.mem_append_right _ (List.mem_append_right _ (List.mem_append_right _ (List.mem_append_right _ (List.mem_append_right _ (List.mem_append_right _ (List.mem_append_left _ (List.mem_of_getElem? (i := 41) rfl)))))))), by decide +kernel⟩
set_option maxRecDepth 20000 in
theorem wd586 : Cond.code yX10_fail cX10_fail 3 none ∈ wsL_law := List.mem_filter.mpr ⟨List.mem_append_right _ (List.mem_append_right _ (List.mem_append_right _ (List.mem_append_right _ (List.mem_append_right _ (List.mem_append_right _ (List.mem_append_right _ (List.mem_append_left _ (List.mem_of_getElem? (i := 45) rfl)))))))), by decide +kernel⟩
set_option maxRecDepth 20000 in
theorem wd590 : Cond.code yX10_number cX10_number 5 (some .int) ∈ wsL_law := List.mem_filter.mpr ⟨List.mem_append_right _ (List.mem_append_right _ (List.mem_append_right _ (List.mem_append_right _ (List.mem_append_right _ (List.mem_append_right _ (List.mem_append_right _ (List.mem_append_left _ (List.mem_of_getElem? (i := 49) rfl)))))))), by decide +kernel⟩
set_option maxRecDepth 20000 in
theorem wd596 : Cond.code yX10_isIn cX10_isIn 6 (some .boolean) ∈ wsL_law := List.mem_filter.mpr ⟨List.mem_append_right _ (List.mem_append_right _ (List.mem_append_right _ (List.mem_append_right _ (List.mem_append_right _ (List.mem_append_right _ (List.mem_append_right _ (List.mem_append_left _ (List.mem_of_getElem? (i := 55) rfl)))))))), by decide +kernel⟩
set_option maxRecDepth 20000 in
theorem wd600 : Cond.code yX10_asksSign cX10_asksSign 2 none ∈ wsL_law := List.mem_filter.mpr ⟨List.mem_append_right _ (List.mem_append_right _ (List.mem_append_right _ (List.mem_append_right _ (List.mem_append_right _ (List.mem_append_right _ (List.mem_append_right _ (List.mem_append_left _ (List.mem_of_getElem? (i := 59) rfl)))))))), by decide +kernel⟩
set_option maxRecDepth 20000 in
theorem wd742 : Cond.code yX9_fault cX9_fault 2 (some .int) ∈ wsL_law := List.mem_filter.mpr ⟨List.mem_append_right _ (List.mem_append_right _ (List.mem_append_right _ (List.mem_append_left _ (List.mem_of_getElem? (i := 232) rfl)))), by decide +kernel⟩
set_option maxRecDepth 20000 in
theorem wd747 : Cond.code yX10_fault cX10_fault 2 (some .int) ∈ wsL_law := List.mem_filter.mpr ⟨List.mem_append_right _ (List.mem_append_right _ (List.mem_append_right _ (List.mem_append_right _ (List.mem_append_right _ (List.mem_append_right _ (List.mem_append_right _ (List.mem_append_left _ (List.mem_of_getElem? (i := 191) rfl)))))))), by decide +kernel⟩
set_option maxRecDepth 20000 in
theorem wd751 : Cond.code yX9_has cX9_has 2 (some .int) ∈ wsL_law := List.mem_filter.mpr ⟨List.mem_append_right _ (List.mem_append_right _ (List.mem_append_right _ (List.mem_append_left _ (List.mem_of_getElem? (i := 236) rfl)))), by decide +kernel⟩
set_option maxRecDepth 20000 in
theorem wd763 : Cond.code yX10_has cX10_has 2 (some .int) ∈ wsL_law := List.mem_filter.mpr ⟨List.mem_append_right _ (List.mem_append_right _ (List.mem_append_right _ (List.mem_append_right _ (List.mem_append_right _ (List.mem_append_right _ (List.mem_append_right _ (List.mem_append_left _ (List.mem_of_getElem? (i := 195) rfl)))))))), by decide +kernel⟩
set_option maxRecDepth 20000 in
theorem wd767 : Cond.code yX10_kindMany cX10_kindMany 1 (some .int) ∈ wsL_law := List.mem_filter.mpr ⟨List.mem_append_right _ (List.mem_append_right _ (List.mem_append_right _ (List.mem_append_right _ (List.mem_append_right _ (List.mem_append_right _ (List.mem_append_right _ (List.mem_append_left _ (List.mem_of_getElem? (i := 199) rfl)))))))), by decide +kernel⟩
set_option maxRecDepth 20000 in
theorem wd771 : Cond.code yX10_walkerMany cX10_walkerMany 1 (some .int) ∈ wsL_law := List.mem_filter.mpr ⟨List.mem_append_right _ (List.mem_append_right _ (List.mem_append_right _ (List.mem_append_right _ (List.mem_append_right _ (List.mem_append_right _ (List.mem_append_right _ (List.mem_append_left _ (List.mem_of_getElem? (i := 203) rfl)))))))), by decide +kernel⟩
set_option maxRecDepth 20000 in
theorem wd775 : Cond.code yX9_letter cX9_letter 6 (some .int) ∈ wsL_law := List.mem_filter.mpr ⟨List.mem_append_right _ (List.mem_append_right _ (List.mem_append_right _ (List.mem_append_right _ (List.mem_append_left _ (List.mem_of_getElem? (i := 0) rfl))))), by decide +kernel⟩
set_option maxRecDepth 20000 in
theorem wd780 : Cond.code yX9_isKind cX9_isKind 2 (some .boolean) ∈ wsL_law := List.mem_filter.mpr ⟨List.mem_append_right _ (List.mem_append_right _ (List.mem_append_right _ (List.mem_append_right _ (List.mem_append_left _ (List.mem_of_getElem? (i := 4) rfl))))), by decide +kernel⟩
set_option maxRecDepth 20000 in
theorem wd784 : Cond.code yX9_isWalker cX9_isWalker 2 (some .boolean) ∈ wsL_law := List.mem_filter.mpr ⟨List.mem_append_right _ (List.mem_append_right _ (List.mem_append_right _ (List.mem_append_right _ (List.mem_append_left _ (List.mem_of_getElem? (i := 8) rfl))))), by decide +kernel⟩
set_option maxRecDepth 20000 in
theorem wd788 : Cond.code yX10_letter cX10_letter 9 (some .int) ∈ wsL_law := List.mem_filter.mpr ⟨List.mem_append_right _ (List.mem_append_right _ (List.mem_append_right _ (List.mem_append_right _ (List.mem_append_right _ (List.mem_append_right _ (List.mem_append_right _ (List.mem_append_left _ (List.mem_of_getElem? (i := 207) rfl)))))))), by decide +kernel⟩
set_option maxRecDepth 20000 in
theorem wd793 : Cond.code yX9_kind cX9_kind 3 (some .int) ∈ wsL_law := List.mem_filter.mpr ⟨List.mem_append_right _ (List.mem_append_right _ (List.mem_append_right _ (List.mem_append_right _ (List.mem_append_left _ (List.mem_of_getElem? (i := 12) rfl))))), by decide +kernel⟩
set_option maxRecDepth 20000 in
theorem wd804 : Cond.code yX10_kind cX10_kind 5 (some .int) ∈ wsL_law := List.mem_filter.mpr ⟨List.mem_append_right _ (List.mem_append_right _ (List.mem_append_right _ (List.mem_append_right _ (List.mem_append_right _ (List.mem_append_right _ (List.mem_append_right _ (List.mem_append_left _ (List.mem_of_getElem? (i := 212) rfl)))))))), by decide +kernel⟩
set_option maxRecDepth 20000 in
theorem wd808 : Cond.code yX10_isKind cX10_isKind 2 (some .boolean) ∈ wsL_law := List.mem_filter.mpr ⟨List.mem_append_right _ (List.mem_append_right _ (List.mem_append_right _ (List.mem_append_right _ (List.mem_append_right _ (List.mem_append_right _ (List.mem_append_right _ (List.mem_append_left _ (List.mem_of_getElem? (i := 216) rfl)))))))), by decide +kernel⟩
set_option maxRecDepth 20000 in
theorem wd820 : Cond.code yX9_walker cX9_walker 3 (some .int) ∈ wsL_law := List.mem_filter.mpr ⟨List.mem_append_right _ (List.mem_append_right _ (List.mem_append_right _ (List.mem_append_right _ (List.mem_append_left _ (List.mem_of_getElem? (i := 20) rfl))))), by decide +kernel⟩
set_option maxRecDepth 20000 in
theorem wd917 : Cond.code yX10_walker cX10_walker 3 (some .int) ∈ wsL_law := List.mem_filter.mpr ⟨List.mem_append_right _ (List.mem_append_right _ (List.mem_append_right _ (List.mem_append_right _ (List.mem_append_right _ (List.mem_append_right _ (List.mem_append_right _ (List.mem_append_left _ (List.mem_of_getElem? (i := 228) rfl)))))))), by decide +kernel⟩
set_option maxRecDepth 20000 in
theorem wd921 : Cond.code yX10_isWalker cX10_isWalker 2 (some .boolean) ∈ wsL_law := List.mem_filter.mpr ⟨List.mem_append_right _ (List.mem_append_right _ (List.mem_append_right _ (List.mem_append_right _ (List.mem_append_right _ (List.mem_append_right _ (List.mem_append_right _ (List.mem_append_left _ (List.mem_of_getElem? (i := 232) rfl)))))))), by decide +kernel⟩
set_option maxRecDepth 20000 in
theorem wd993 : Cond.code yX9_light cX9_light 2 (some .int) ∈ wsL_law := List.mem_filter.mpr ⟨List.mem_append_right _ (List.mem_append_right _ (List.mem_append_right _ (List.mem_append_right _ (List.mem_append_left _ (List.mem_of_getElem? (i := 97) rfl))))), by decide +kernel⟩
set_option maxRecDepth 20000 in
theorem wd998 : Cond.code yX9_stands cX9_stands 1 (some .boolean) ∈ wsL_law := List.mem_filter.mpr ⟨List.mem_append_right _ (List.mem_append_right _ (List.mem_append_right _ (List.mem_append_right _ (List.mem_append_left _ (List.mem_of_getElem? (i := 101) rfl))))), by decide +kernel⟩
set_option maxRecDepth 20000 in
theorem wd1002 : Cond.code yX10_light cX10_light 2 (some .int) ∈ wsL_law := List.mem_filter.mpr ⟨List.mem_append_right _ (List.mem_append_right _ (List.mem_append_right _ (List.mem_append_right _ (List.mem_append_right _ (List.mem_append_right _ (List.mem_append_right _ (List.mem_append_right _ (List.mem_append_left _ (List.mem_of_getElem? (i := 56) rfl))))))))), by decide +kernel⟩
set_option maxRecDepth 20000 in
theorem wd1007 : Cond.code yX9_car cX9_car 2 (some .int) ∈ wsL_law := List.mem_filter.mpr ⟨List.mem_append_right _ (List.mem_append_right _ (List.mem_append_right _ (List.mem_append_right _ (List.mem_append_left _ (List.mem_of_getElem? (i := 105) rfl))))), by decide +kernel⟩
set_option maxRecDepth 20000 in
theorem wd1012 : Cond.code yX10_car cX10_car 2 (some .int) ∈ wsL_law := List.mem_filter.mpr ⟨List.mem_append_right _ (List.mem_append_right _ (List.mem_append_right _ (List.mem_append_right _ (List.mem_append_right _ (List.mem_append_right _ (List.mem_append_right _ (List.mem_append_right _ (List.mem_append_left _ (List.mem_of_getElem? (i := 61) rfl))))))))), by decide +kernel⟩
set_option maxRecDepth 20000 in
theorem wd1017 : Cond.code yX9_day cX9_day 2 (some .int) ∈ wsL_law := List.mem_filter.mpr ⟨List.mem_append_right _ (List.mem_append_right _ (List.mem_append_right _ (List.mem_append_right _ (List.mem_append_left _ (List.mem_of_getElem? (i := 109) rfl))))), by decide +kernel⟩
set_option maxRecDepth 20000 in
theorem wd1045 : Cond.code yX10_day cX10_day 2 (some .int) ∈ wsL_law := List.mem_filter.mpr ⟨List.mem_append_right _ (List.mem_append_right _ (List.mem_append_right _ (List.mem_append_right _ (List.mem_append_right _ (List.mem_append_right _ (List.mem_append_right _ (List.mem_append_right _ (List.mem_append_left _ (List.mem_of_getElem? (i := 66) rfl))))))))), by decide +kernel⟩
set_option maxRecDepth 20000 in
theorem wd1068 : Cond.code yX9_best cX9_best 3 (some .int) ∈ wsL_law := List.mem_filter.mpr ⟨List.mem_append_right _ (List.mem_append_right _ (List.mem_append_right _ (List.mem_append_right _ (List.mem_append_left _ (List.mem_of_getElem? (i := 136) rfl))))), by decide +kernel⟩
set_option maxRecDepth 20000 in
theorem wd1087 : Cond.code yX10_best cX10_best 9 (some .int) ∈ wsL_law := List.mem_filter.mpr ⟨List.mem_append_right _ (List.mem_append_right _ (List.mem_append_right _ (List.mem_append_right _ (List.mem_append_right _ (List.mem_append_right _ (List.mem_append_right _ (List.mem_append_right _ (List.mem_append_left _ (List.mem_of_getElem? (i := 89) rfl))))))))), by decide +kernel⟩
set_option maxRecDepth 20000 in
theorem wd1097 : Cond.code yX9_least cX9_least 1 (some .int) ∈ wsL_law := List.mem_filter.mpr ⟨List.mem_append_right _ (List.mem_append_right _ (List.mem_append_right _ (List.mem_append_right _ (List.mem_append_left _ (List.mem_of_getElem? (i := 155) rfl))))), by decide +kernel⟩
set_option maxRecDepth 20000 in
theorem wd1110 : Cond.code yX10_least cX10_least 2 (some .int) ∈ wsL_law := List.mem_filter.mpr ⟨List.mem_append_right _ (List.mem_append_right _ (List.mem_append_right _ (List.mem_append_right _ (List.mem_append_right _ (List.mem_append_right _ (List.mem_append_right _ (List.mem_append_right _ (List.mem_append_left _ (List.mem_of_getElem? (i := 99) rfl))))))))), by decide +kernel⟩
set_option maxRecDepth 20000 in
theorem wd1114 : Cond.code yX9_hold cX9_hold 1 (some .int) ∈ wsL_law := List.mem_filter.mpr ⟨List.mem_append_right _ (List.mem_append_right _ (List.mem_append_right _ (List.mem_append_right _ (List.mem_append_left _ (List.mem_of_getElem? (i := 167) rfl))))), by decide +kernel⟩
set_option maxRecDepth 20000 in
theorem wd1127 : Cond.code yX10_hold cX10_hold 3 (some .int) ∈ wsL_law := List.mem_filter.mpr ⟨List.mem_append_right _ (List.mem_append_right _ (List.mem_append_right _ (List.mem_append_right _ (List.mem_append_right _ (List.mem_append_right _ (List.mem_append_right _ (List.mem_append_right _ (List.mem_append_left _ (List.mem_of_getElem? (i := 103) rfl))))))))), by decide +kernel⟩
set_option maxRecDepth 20000 in
theorem wd1134 : Cond.code yX9_later cX9_later 3 (some .int) ∈ wsL_law := List.mem_filter.mpr ⟨List.mem_append_right _ (List.mem_append_right _ (List.mem_append_right _ (List.mem_append_right _ (List.mem_append_left _ (List.mem_of_getElem? (i := 180) rfl))))), by decide +kernel⟩
set_option maxRecDepth 20000 in
theorem wd1157 : Cond.code yX10_later cX10_later 4 (some .int) ∈ wsL_law := List.mem_filter.mpr ⟨List.mem_append_right _ (List.mem_append_right _ (List.mem_append_right _ (List.mem_append_right _ (List.mem_append_right _ (List.mem_append_right _ (List.mem_append_right _ (List.mem_append_right _ (List.mem_append_left _ (List.mem_of_getElem? (i := 110) rfl))))))))), by decide +kernel⟩
set_option maxRecDepth 20000 in
theorem wd1161 : Cond.code yX10_isAhead cX10_isAhead 4 (some .boolean) ∈ wsL_law := List.mem_filter.mpr ⟨List.mem_append_right _ (List.mem_append_right _ (List.mem_append_right _ (List.mem_append_right _ (List.mem_append_right _ (List.mem_append_right _ (List.mem_append_right _ (List.mem_append_right _ (List.mem_append_left _ (List.mem_of_getElem? (i := 114) rfl))))))))), by decide +kernel⟩
set_option maxRecDepth 20000 in
theorem wd1182 : Cond.code yX9_doubts cX9_doubts 4 (some .int) ∈ wsL_law := List.mem_filter.mpr ⟨List.mem_append_right _ (List.mem_append_right _ (List.mem_append_right _ (List.mem_append_right _ (List.mem_append_left _ (List.mem_of_getElem? (i := 199) rfl))))), by decide +kernel⟩
set_option maxRecDepth 20000 in
theorem wd1188 : Cond.code yX10_doubts cX10_doubts 4 (some .int) ∈ wsL_law := List.mem_filter.mpr ⟨List.mem_append_right _ (List.mem_append_right _ (List.mem_append_right _ (List.mem_append_right _ (List.mem_append_right _ (List.mem_append_right _ (List.mem_append_right _ (List.mem_append_right _ (List.mem_append_left _ (List.mem_of_getElem? (i := 135) rfl))))))))), by decide +kernel⟩
set_option maxRecDepth 20000 in
theorem wd1192 : Cond.code yX9_see cX9_see 2 (some .int) ∈ wsL_law := List.mem_filter.mpr ⟨List.mem_append_right _ (List.mem_append_right _ (List.mem_append_right _ (List.mem_append_right _ (List.mem_append_left _ (List.mem_of_getElem? (i := 204) rfl))))), by decide +kernel⟩
set_option maxRecDepth 20000 in
theorem wd1196 : Cond.code yX8_accepts cX8_accepts 6 (some .boolean) ∈ wsL_law := List.mem_filter.mpr ⟨List.mem_append_right _ (List.mem_append_right _ (List.mem_append_right _ (List.mem_append_right _ (List.mem_append_left _ (List.mem_of_getElem? (i := 208) rfl))))), by decide +kernel⟩
set_option maxRecDepth 20000 in
theorem wd1205 : Cond.code yX10_see cX10_see 5 (some .int) ∈ wsL_law := List.mem_filter.mpr ⟨List.mem_append_right _ (List.mem_append_right _ (List.mem_append_right _ (List.mem_append_right _ (List.mem_append_right _ (List.mem_append_right _ (List.mem_append_right _ (List.mem_append_right _ (List.mem_append_left _ (List.mem_of_getElem? (i := 139) rfl))))))))), by decide +kernel⟩
set_option maxRecDepth 20000 in
theorem wd1210 : Cond.code yX10_refuses cX10_refuses 2 (some .int) ∈ wsL_law := List.mem_filter.mpr ⟨List.mem_append_right _ (List.mem_append_right _ (List.mem_append_right _ (List.mem_append_right _ (List.mem_append_right _ (List.mem_append_right _ (List.mem_append_right _ (List.mem_append_right _ (List.mem_append_left _ (List.mem_of_getElem? (i := 144) rfl))))))))), by decide +kernel⟩
set_option maxRecDepth 20000 in
theorem wd1214 : Cond.code yX9_fits cX9_fits 2 (some .int) ∈ wsL_law := List.mem_filter.mpr ⟨List.mem_append_right _ (List.mem_append_right _ (List.mem_append_right _ (List.mem_append_right _ (List.mem_append_left _ (List.mem_of_getElem? (i := 217) rfl))))), by decide +kernel⟩
set_option maxRecDepth 20000 in
theorem wd1246 : Cond.code yX10_fits cX10_fits 2 (some .int) ∈ wsL_law := List.mem_filter.mpr ⟨List.mem_append_right _ (List.mem_append_right _ (List.mem_append_right _ (List.mem_append_right _ (List.mem_append_right _ (List.mem_append_right _ (List.mem_append_right _ (List.mem_append_right _ (List.mem_append_left _ (List.mem_of_getElem? (i := 148) rfl))))))))), by decide +kernel⟩
set_option maxRecDepth 20000 in
theorem wd1261 : Cond.code yX9_watched cX9_watched 2 (some .int) ∈ wsL_law := List.mem_filter.mpr ⟨List.mem_append_right _ (List.mem_append_right _ (List.mem_append_right _ (List.mem_append_right _ (List.mem_append_right _ (List.mem_append_left _ (List.mem_of_getElem? (i := 5) rfl)))))), by decide +kernel⟩
set_option maxRecDepth 20000 in
theorem wd1267 : Cond.code yX10_watched cX10_watched 6 (some .int) ∈ wsL_law := List.mem_filter.mpr ⟨List.mem_append_right _ (List.mem_append_right _ (List.mem_append_right _ (List.mem_append_right _ (List.mem_append_right _ (List.mem_append_right _ (List.mem_append_right _ (List.mem_append_right _ (List.mem_append_left _ (List.mem_of_getElem? (i := 160) rfl))))))))), by decide +kernel⟩
set_option maxRecDepth 20000 in
theorem wd1275 : Cond.code yX9_rule cX9_rule 2 (some .boolean) ∈ wsL_law := List.mem_filter.mpr ⟨List.mem_append_right _ (List.mem_append_right _ (List.mem_append_right _ (List.mem_append_right _ (List.mem_append_right _ (List.mem_append_left _ (List.mem_of_getElem? (i := 9) rfl)))))), by decide +kernel⟩
set_option maxRecDepth 20000 in
theorem wd1289 : Cond.code yX10_rule cX10_rule 2 (some .boolean) ∈ wsL_law := List.mem_filter.mpr ⟨List.mem_append_right _ (List.mem_append_right _ (List.mem_append_right _ (List.mem_append_right _ (List.mem_append_right _ (List.mem_append_right _ (List.mem_append_right _ (List.mem_append_right _ (List.mem_append_left _ (List.mem_of_getElem? (i := 172) rfl))))))))), by decide +kernel⟩
set_option maxRecDepth 20000 in
theorem wd1293 : Cond.code yX10_isRefused cX10_isRefused 1 (some .boolean) ∈ wsL_law := List.mem_filter.mpr ⟨List.mem_append_right _ (List.mem_append_right _ (List.mem_append_right _ (List.mem_append_right _ (List.mem_append_right _ (List.mem_append_right _ (List.mem_append_right _ (List.mem_append_right _ (List.mem_append_left _ (List.mem_of_getElem? (i := 176) rfl))))))))), by decide +kernel⟩
set_option maxRecDepth 20000 in
theorem wd1302 : Cond.code yX9_green cX9_green 2 (some .boolean) ∈ wsL_law := List.mem_filter.mpr ⟨List.mem_append_right _ (List.mem_append_right _ (List.mem_append_right _ (List.mem_append_right _ (List.mem_append_right _ (List.mem_append_left _ (List.mem_of_getElem? (i := 23) rfl)))))), by decide +kernel⟩
set_option maxRecDepth 20000 in
theorem wd1306 : Cond.code yX4_allowsGreen cX4_allowsGreen 2 (some .boolean) ∈ wsL_law := List.mem_filter.mpr ⟨List.mem_append_right _ (List.mem_append_right _ (List.mem_append_right _ (List.mem_append_right _ (List.mem_append_right _ (List.mem_append_left _ (List.mem_of_getElem? (i := 27) rfl)))))), by decide +kernel⟩
set_option maxRecDepth 20000 in
theorem wd1310 : Cond.code yX10_green cX10_green 2 (some .boolean) ∈ wsL_law := List.mem_filter.mpr ⟨List.mem_append_right _ (List.mem_append_right _ (List.mem_append_right _ (List.mem_append_right _ (List.mem_append_right _ (List.mem_append_right _ (List.mem_append_right _ (List.mem_append_right _ (List.mem_append_left _ (List.mem_of_getElem? (i := 184) rfl))))))))), by decide +kernel⟩
set_option maxRecDepth 20000 in
theorem wd1314 : Cond.code yX9_trust cX9_trust 3 (some .boolean) ∈ wsL_law := List.mem_filter.mpr ⟨List.mem_append_right _ (List.mem_append_right _ (List.mem_append_right _ (List.mem_append_right _ (List.mem_append_right _ (List.mem_append_left _ (List.mem_of_getElem? (i := 31) rfl)))))), by decide +kernel⟩
set_option maxRecDepth 20000 in
theorem wd1318 : Cond.code yX10_trust cX10_trust 3 (some .boolean) ∈ wsL_law := List.mem_filter.mpr ⟨List.mem_append_right _ (List.mem_append_right _ (List.mem_append_right _ (List.mem_append_right _ (List.mem_append_right _ (List.mem_append_right _ (List.mem_append_right _ (List.mem_append_right _ (List.mem_append_left _ (List.mem_of_getElem? (i := 188) rfl))))))))), by decide +kernel⟩
set_option maxRecDepth 20000 in
theorem wd1322 : Cond.code yX9_days cX9_days 4 (some .int) ∈ wsL_law := List.mem_filter.mpr ⟨List.mem_append_right _ (List.mem_append_right _ (List.mem_append_right _ (List.mem_append_right _ (List.mem_append_right _ (List.mem_append_left _ (List.mem_of_getElem? (i := 35) rfl)))))), by decide +kernel⟩
set_option maxRecDepth 20000 in
theorem wd1326 : Cond.code yX9_canLive cX9_canLive 2 (some .boolean) ∈ wsL_law := List.mem_filter.mpr ⟨List.mem_append_right _ (List.mem_append_right _ (List.mem_append_right _ (List.mem_append_right _ (List.mem_append_right _ (List.mem_append_left _ (List.mem_of_getElem? (i := 39) rfl)))))), by decide +kernel⟩
set_option maxRecDepth 20000 in
theorem wd1331 : Cond.code yX10_days cX10_days 4 (some .int) ∈ wsL_law := List.mem_filter.mpr ⟨List.mem_append_right _ (List.mem_append_right _ (List.mem_append_right _ (List.mem_append_right _ (List.mem_append_right _ (List.mem_append_right _ (List.mem_append_right _ (List.mem_append_right _ (List.mem_append_left _ (List.mem_of_getElem? (i := 192) rfl))))))))), by decide +kernel⟩
set_option maxRecDepth 20000 in
theorem wd1335 : Cond.code yX9_chance cX9_chance 5 (some .int) ∈ wsL_law := List.mem_filter.mpr ⟨List.mem_append_right _ (List.mem_append_right _ (List.mem_append_right _ (List.mem_append_right _ (List.mem_append_right _ (List.mem_append_left _ (List.mem_of_getElem? (i := 44) rfl)))))), by decide +kernel⟩
set_option maxRecDepth 20000 in
theorem wd1350 : Cond.code yX10_chance cX10_chance 6 (some .int) ∈ wsL_law := List.mem_filter.mpr ⟨List.mem_append_right _ (List.mem_append_right _ (List.mem_append_right _ (List.mem_append_right _ (List.mem_append_right _ (List.mem_append_right _ (List.mem_append_right _ (List.mem_append_right _ (List.mem_append_left _ (List.mem_of_getElem? (i := 200) rfl))))))))), by decide +kernel⟩
set_option maxRecDepth 20000 in
theorem wd1362 : Cond.code yX9_undo cX9_undo 1 (some .boolean) ∈ wsL_law := List.mem_filter.mpr ⟨List.mem_append_right _ (List.mem_append_right _ (List.mem_append_right _ (List.mem_append_right _ (List.mem_append_right _ (List.mem_append_left _ (List.mem_of_getElem? (i := 58) rfl)))))), by decide +kernel⟩
set_option maxRecDepth 20000 in
theorem wd1366 : Cond.code yX2_giveBack cX2_giveBack 2 (some .boolean) ∈ wsL_law := List.mem_filter.mpr ⟨List.mem_append_right _ (List.mem_append_right _ (List.mem_append_right _ (List.mem_append_right _ (List.mem_append_right _ (List.mem_append_left _ (List.mem_of_getElem? (i := 62) rfl)))))), by decide +kernel⟩
set_option maxRecDepth 20000 in
theorem wd1370 : Cond.code yX10_undo cX10_undo 2 (some .boolean) ∈ wsL_law := List.mem_filter.mpr ⟨List.mem_append_right _ (List.mem_append_right _ (List.mem_append_right _ (List.mem_append_right _ (List.mem_append_right _ (List.mem_append_right _ (List.mem_append_right _ (List.mem_append_right _ (List.mem_append_left _ (List.mem_of_getElem? (i := 168) rfl))))))))), by decide +kernel⟩
set_option maxRecDepth 20000 in
theorem wd1374 : Cond.code yX9_seed cX9_seed 2 (some .boolean) ∈ wsL_law := List.mem_filter.mpr ⟨List.mem_append_right _ (List.mem_append_right _ (List.mem_append_right _ (List.mem_append_right _ (List.mem_append_right _ (List.mem_append_left _ (List.mem_of_getElem? (i := 66) rfl)))))), by decide +kernel⟩
set_option maxRecDepth 20000 in
theorem wd1378 : Cond.code yX10_seed cX10_seed 2 (some .boolean) ∈ wsL_law := List.mem_filter.mpr ⟨List.mem_append_right _ (List.mem_append_right _ (List.mem_append_right _ (List.mem_append_right _ (List.mem_append_right _ (List.mem_append_right _ (List.mem_append_right _ (List.mem_append_right _ (List.mem_append_left _ (List.mem_of_getElem? (i := 196) rfl))))))))), by decide +kernel⟩
set_option maxRecDepth 20000 in
theorem wd1382 : Cond.code yX9_ask cX9_ask 3 (some .long) ∈ wsL_law := List.mem_filter.mpr ⟨List.mem_append_right _ (List.mem_append_right _ (List.mem_append_right _ (List.mem_append_right _ (List.mem_append_right _ (List.mem_append_left _ (List.mem_of_getElem? (i := 70) rfl)))))), by decide +kernel⟩
set_option maxRecDepth 20000 in
theorem wd1403 : Cond.code yX10_ask cX10_ask 3 (some .long) ∈ wsL_law := List.mem_filter.mpr ⟨List.mem_append_right _ (List.mem_append_right _ (List.mem_append_right _ (List.mem_append_right _ (List.mem_append_right _ (List.mem_append_right _ (List.mem_append_right _ (List.mem_append_right _ (List.mem_append_left _ (List.mem_of_getElem? (i := 212) rfl))))))))), by decide +kernel⟩
set_option maxRecDepth 20000 in
theorem wd1427 : Cond.code yX9_image cX9_image 2 (some .int) ∈ wsL_law := List.mem_filter.mpr ⟨List.mem_append_right _ (List.mem_append_right _ (List.mem_append_right _ (List.mem_append_right _ (List.mem_append_right _ (List.mem_append_left _ (List.mem_of_getElem? (i := 90) rfl)))))), by decide +kernel⟩
set_option maxRecDepth 20000 in
theorem wd1430 : Cond.code yX9_check cX9_check 4 (some .int) ∈ wsL_law := List.mem_filter.mpr ⟨List.mem_append_right _ (List.mem_append_right _ (List.mem_append_right _ (List.mem_append_right _ (List.mem_append_right _ (List.mem_append_left _ (List.mem_of_getElem? (i := 93) rfl)))))), by decide +kernel⟩
set_option maxRecDepth 20000 in
theorem wd1434 : Cond.code yX10_image cX10_image 2 (some .int) ∈ wsL_law := List.mem_filter.mpr ⟨List.mem_append_right _ (List.mem_append_right _ (List.mem_append_right _ (List.mem_append_right _ (List.mem_append_right _ (List.mem_append_right _ (List.mem_append_right _ (List.mem_append_right _ (List.mem_append_left _ (List.mem_of_getElem? (i := 234) rfl))))))))), by decide +kernel⟩
set_option maxRecDepth 20000 in
theorem wd1439 : Cond.code yX10_writes cX10_writes 2 none ∈ wsL_law := List.mem_filter.mpr ⟨List.mem_append_right _ (List.mem_append_right _ (List.mem_append_right _ (List.mem_append_right _ (List.mem_append_right _ (List.mem_append_right _ (List.mem_append_right _ (List.mem_append_right _ (List.mem_append_left _ (List.mem_of_getElem? (i := 238) rfl))))))))), by decide +kernel⟩
set_option maxRecDepth 20000 in
theorem wd1442 : Cond.code yX10_checked cX10_checked 4 (some .int) ∈ wsL_law := List.mem_filter.mpr ⟨List.mem_append_right _ (List.mem_append_right _ (List.mem_append_right _ (List.mem_append_right _ (List.mem_append_right _ (List.mem_append_right _ (List.mem_append_right _ (List.mem_append_right _ (List.mem_append_right _ (List.mem_of_getElem? (i := 1) rfl))))))))), by decide +kernel⟩
set_option maxRecDepth 20000 in
theorem wd1446 : Cond.code yX9_octet cX9_octet 2 (some .int) ∈ wsL_law := List.mem_filter.mpr ⟨List.mem_append_right _ (List.mem_append_right _ (List.mem_append_right _ (List.mem_append_right _ (List.mem_append_right _ (List.mem_append_left _ (List.mem_of_getElem? (i := 97) rfl)))))), by decide +kernel⟩
set_option maxRecDepth 20000 in
theorem wd1450 : Cond.code yX10_octet cX10_octet 2 (some .int) ∈ wsL_law := List.mem_filter.mpr ⟨List.mem_append_right _ (List.mem_append_right _ (List.mem_append_right _ (List.mem_append_right _ (List.mem_append_right _ (List.mem_append_right _ (List.mem_append_right _ (List.mem_append_right _ (List.mem_append_right _ (List.mem_of_getElem? (i := 5) rfl))))))))), by decide +kernel⟩
set_option maxRecDepth 20000 in
theorem wd1454 : Cond.code yX9_on cX9_on 2 (some .boolean) ∈ wsL_law := List.mem_filter.mpr ⟨List.mem_append_right _ (List.mem_append_right _ (List.mem_append_right _ (List.mem_append_right _ (List.mem_append_right _ (List.mem_append_left _ (List.mem_of_getElem? (i := 101) rfl)))))), by decide +kernel⟩
set_option maxRecDepth 20000 in
theorem wd1459 : Cond.code yX9_isImage cX9_isImage 3 (some .boolean) ∈ wsL_law := List.mem_filter.mpr ⟨List.mem_append_right _ (List.mem_append_right _ (List.mem_append_right _ (List.mem_append_right _ (List.mem_append_right _ (List.mem_append_left _ (List.mem_of_getElem? (i := 105) rfl)))))), by decide +kernel⟩
set_option maxRecDepth 20000 in
theorem wd1463 : Cond.code yX10_on cX10_on 3 (some .boolean) ∈ wsL_law := List.mem_filter.mpr ⟨List.mem_append_right _ (List.mem_append_right _ (List.mem_append_right _ (List.mem_append_right _ (List.mem_append_right _ (List.mem_append_right _ (List.mem_append_right _ (List.mem_append_right _ (List.mem_append_right _ (List.mem_of_getElem? (i := 9) rfl))))))))), by decide +kernel⟩
set_option maxRecDepth 20000 in
theorem wd1467 : Cond.code yX10_isImage cX10_isImage 3 (some .boolean) ∈ wsL_law := List.mem_filter.mpr ⟨List.mem_append_right _ (List.mem_append_right _ (List.mem_append_right _ (List.mem_append_right _ (List.mem_append_right _ (List.mem_append_right _ (List.mem_append_right _ (List.mem_append_right _ (List.mem_append_right _ (List.mem_of_getElem? (i := 13) rfl))))))))), by decide +kernel⟩
set_option maxRecDepth 20000 in
theorem wd1471 : Cond.code yX9_status cX9_status 2 (some .int) ∈ wsL_law := List.mem_filter.mpr ⟨List.mem_append_right _ (List.mem_append_right _ (List.mem_append_right _ (List.mem_append_right _ (List.mem_append_right _ (List.mem_append_left _ (List.mem_of_getElem? (i := 110) rfl)))))), by decide +kernel⟩
set_option maxRecDepth 20000 in
theorem wd1475 : Cond.code yX10_status cX10_status 2 (some .int) ∈ wsL_law := List.mem_filter.mpr ⟨List.mem_append_right _ (List.mem_append_right _ (List.mem_append_right _ (List.mem_append_right _ (List.mem_append_right _ (List.mem_append_right _ (List.mem_append_right _ (List.mem_append_right _ (List.mem_append_right _ (List.mem_of_getElem? (i := 17) rfl))))))))), by decide +kernel⟩
