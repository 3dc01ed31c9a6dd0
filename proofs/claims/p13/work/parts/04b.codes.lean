set_option maxRecDepth 20000 in
theorem wd8 : Cond.code yX9_init cX9_init 1 none ∈ wsL_law := List.mem_filter.mpr ⟨List.mem_append_right _ (List.mem_append_left _ (List.mem_of_getElem? (i := 24) rfl)), by decide +kernel⟩
set_option maxRecDepth 20000 in
theorem wd11 : Cond.code objectInit ⟨#[0xb1]⟩ 1 none ∈ wsL_law := List.mem_filter.mpr ⟨List.mem_append_right _ (List.mem_append_left _ (List.mem_of_getElem? (i := 27) rfl)), by decide +kernel⟩
set_option maxRecDepth 20000 in
theorem wd57 : Cond.code yX4_init cX4_init 1 none ∈ wsL_law := List.mem_filter.mpr ⟨List.mem_append_right _ (List.mem_append_left _ (List.mem_of_getElem? (i := 32) rfl)), by decide +kernel⟩
set_option maxRecDepth 20000 in
theorem wd69 : Cond.code yX6_init cX6_init 1 none ∈ wsL_law := List.mem_filter.mpr ⟨List.mem_append_right _ (List.mem_append_left _ (List.mem_of_getElem? (i := 134) rfl)), by decide +kernel⟩
set_option maxRecDepth 20000 in
theorem wd77 : Cond.code yX2_init cX2_init 2 none ∈ wsL_law := List.mem_filter.mpr ⟨List.mem_append_right _ (List.mem_append_left _ (List.mem_of_getElem? (i := 163) rfl)), by decide +kernel⟩
set_option maxRecDepth 20000 in
theorem wd84 : Cond.code yX3_init cX3_init 1 none ∈ wsL_law := List.mem_filter.mpr ⟨List.mem_append_right _ (List.mem_append_left _ (List.mem_of_getElem? (i := 183) rfl)), by decide +kernel⟩
set_option maxRecDepth 20000 in
theorem wd90 : Cond.code yX5_init cX5_init 3 none ∈ wsL_law := List.mem_filter.mpr ⟨List.mem_append_right _ (List.mem_append_left _ (List.mem_of_getElem? (i := 197) rfl)), by decide +kernel⟩
set_option maxRecDepth 20000 in
theorem wd103 : Cond.code yX7_init cX7_init 3 none ∈ wsL_law := List.mem_filter.mpr ⟨List.mem_append_right _ (List.mem_append_left _ (List.mem_of_getElem? (i := 233) rfl)), by decide +kernel⟩
set_option maxRecDepth 20000 in
theorem wd124 : Cond.code yX1_init cX1_init 2 none ∈ wsL_law := List.mem_filter.mpr ⟨List.mem_append_right _ (List.mem_append_right _ (List.mem_append_left _ (List.mem_of_getElem? (i := 58) rfl))), by decide +kernel⟩
set_option maxRecDepth 20000 in
theorem wd131 : Cond.code yX0_init cX0_init 2 none ∈ wsL_law := List.mem_filter.mpr ⟨List.mem_append_right _ (List.mem_append_right _ (List.mem_append_left _ (List.mem_of_getElem? (i := 74) rfl))), by decide +kernel⟩
set_option maxRecDepth 20000 in
theorem wd141 : Cond.code yX8_init cX8_init 2 none ∈ wsL_law := List.mem_filter.mpr ⟨List.mem_append_right _ (List.mem_append_right _ (List.mem_append_left _ (List.mem_of_getElem? (i := 100) rfl))), by decide +kernel⟩
set_option maxRecDepth 20000 in
theorem wd156 : Cond.code yX10_init cX10_init 1 none ∈ wsL_law := List.mem_filter.mpr ⟨List.mem_append_right _ (List.mem_append_right _ (List.mem_append_right _ (List.mem_append_right _ (List.mem_append_right _ (List.mem_append_left _ (List.mem_of_getElem? (i := 115) rfl)))))), by decide +kernel⟩
set_option maxRecDepth 20000 in
theorem wd251 : Cond.code yX9_feed cX9_feed 6 (some .int) ∈ wsL_law := List.mem_filter.mpr ⟨List.mem_append_right _ (List.mem_append_right _ (List.mem_append_left _ (List.mem_of_getElem? (i := 194) rfl))), by decide +kernel⟩
set_option maxRecDepth 20000 in
theorem wd255 : Cond.code yX9_refuse cX9_refuse 2 (some .int) ∈ wsL_law := List.mem_filter.mpr ⟨List.mem_append_right _ (List.mem_append_right _ (List.mem_append_left _ (List.mem_of_getElem? (i := 198) rfl))), by decide +kernel⟩
set_option maxRecDepth 20000 in
theorem wd259 : Cond.code yX9_putBytes cX9_putBytes 3 none ∈ wsL_law := List.mem_filter.mpr ⟨List.mem_append_right _ (List.mem_append_right _ (List.mem_append_left _ (List.mem_of_getElem? (i := 202) rfl))), by decide +kernel⟩
set_option maxRecDepth 20000 in
theorem wd263 : Cond.code yX10_feed cX10_feed 8 (some .int) ∈ wsL_law := List.mem_filter.mpr ⟨List.mem_append_right _ (List.mem_append_right _ (List.mem_append_right _ (List.mem_append_right _ (List.mem_append_right _ (List.mem_append_right _ (List.mem_append_right _ (List.mem_append_left _ (List.mem_of_getElem? (i := 10) rfl)))))))), by decide +kernel⟩
set_option maxRecDepth 20000 in
theorem wd268 : Cond.code yX9_end cX9_end 2 (some .boolean) ∈ wsL_law := List.mem_filter.mpr ⟨List.mem_append_right _ (List.mem_append_right _ (List.mem_append_left _ (List.mem_of_getElem? (i := 206) rfl))), by decide +kernel⟩
set_option maxRecDepth 20000 in
theorem wd272 : Cond.code yX9_deny cX9_deny 2 (some .boolean) ∈ wsL_law := List.mem_filter.mpr ⟨List.mem_append_right _ (List.mem_append_right _ (List.mem_append_left _ (List.mem_of_getElem? (i := 210) rfl))), by decide +kernel⟩
set_option maxRecDepth 20000 in
theorem wd276 : Cond.code yX10_end cX10_end 2 (some .boolean) ∈ wsL_law := List.mem_filter.mpr ⟨List.mem_append_right _ (List.mem_append_right _ (List.mem_append_right _ (List.mem_append_right _ (List.mem_append_right _ (List.mem_append_right _ (List.mem_append_right _ (List.mem_append_left _ (List.mem_of_getElem? (i := 14) rfl)))))))), by decide +kernel⟩
set_option maxRecDepth 20000 in
theorem wd280 : Cond.code yX9_crossing cX9_crossing 2 (some .int) ∈ wsL_law := List.mem_filter.mpr ⟨List.mem_append_right _ (List.mem_append_right _ (List.mem_append_left _ (List.mem_of_getElem? (i := 214) rfl))), by decide +kernel⟩
set_option maxRecDepth 20000 in
theorem wd286 : Cond.code yX9_takeTape cX9_takeTape 2 (some .int) ∈ wsL_law := List.mem_filter.mpr ⟨List.mem_append_right _ (List.mem_append_right _ (List.mem_append_left _ (List.mem_of_getElem? (i := 218) rfl))), by decide +kernel⟩
set_option maxRecDepth 20000 in
theorem wd290 : Cond.code yX5_readCrossing cX5_readCrossing 4 none ∈ wsL_law := List.mem_filter.mpr ⟨List.mem_append_right _ (List.mem_append_right _ (List.mem_append_left _ (List.mem_of_getElem? (i := 222) rfl))), by decide +kernel⟩
set_option maxRecDepth 20000 in
theorem wd296 : Cond.code yX5_begin cX5_begin 3 none ∈ wsL_law := List.mem_filter.mpr ⟨List.mem_append_right _ (List.mem_append_right _ (List.mem_append_left _ (List.mem_of_getElem? (i := 226) rfl))), by decide +kernel⟩
set_option maxRecDepth 20000 in
theorem wd300 : Cond.code Lib.Math.min.name Lib.Math.min.code 2 (some .int) ∈ wsL_law := List.mem_filter.mpr ⟨List.mem_append_right _ (List.mem_append_right _ (List.mem_append_left _ (List.mem_of_getElem? (i := 236) rfl))), by decide +kernel⟩
set_option maxRecDepth 20000 in
theorem wd304 : Cond.code yX4_clear cX4_clear 1 none ∈ wsL_law := List.mem_filter.mpr ⟨List.mem_append_right _ (List.mem_append_right _ (List.mem_append_left _ (List.mem_of_getElem? (i := 230) rfl))), by decide +kernel⟩
set_option maxRecDepth 20000 in
theorem wd314 : Cond.code yJ7_fill_53178 cJ7_fill_53178 4 none ∈ wsL_law := List.mem_filter.mpr ⟨List.mem_append_right _ (List.mem_append_right _ (List.mem_append_left _ (List.mem_of_getElem? (i := 233) rfl))), by decide +kernel⟩
set_option maxRecDepth 20000 in
theorem wd318 : Cond.code yX5_moveTo cX5_moveTo 3 none ∈ wsL_law := List.mem_filter.mpr ⟨List.mem_append_right _ (List.mem_append_right _ (List.mem_append_right _ (List.mem_append_left _ (List.mem_of_getElem? (i := 0) rfl)))), by decide +kernel⟩
set_option maxRecDepth 20000 in
theorem wd322 : Cond.code yX5_sortOf cX5_sortOf 2 (some .int) ∈ wsL_law := List.mem_filter.mpr ⟨List.mem_append_right _ (List.mem_append_right _ (List.mem_append_right _ (List.mem_append_left _ (List.mem_of_getElem? (i := 4) rfl)))), by decide +kernel⟩
set_option maxRecDepth 20000 in
theorem wd326 : Cond.code yX5_firstStatement cX5_firstStatement 1 none ∈ wsL_law := List.mem_filter.mpr ⟨List.mem_append_right _ (List.mem_append_right _ (List.mem_append_right _ (List.mem_append_left _ (List.mem_of_getElem? (i := 8) rfl)))), by decide +kernel⟩
set_option maxRecDepth 20000 in
theorem wd334 : Cond.code yX5_numberBehind cX5_numberBehind 4 (some .int) ∈ wsL_law := List.mem_filter.mpr ⟨List.mem_append_right _ (List.mem_append_right _ (List.mem_append_right _ (List.mem_append_left _ (List.mem_of_getElem? (i := 13) rfl)))), by decide +kernel⟩
set_option maxRecDepth 20000 in
theorem wd338 : Cond.code yX5_needWord cX5_needWord 2 none ∈ wsL_law := List.mem_filter.mpr ⟨List.mem_append_right _ (List.mem_append_right _ (List.mem_append_right _ (List.mem_append_left _ (List.mem_of_getElem? (i := 17) rfl)))), by decide +kernel⟩
set_option maxRecDepth 20000 in
theorem wd342 : Cond.code yX5_wordIn cX5_wordIn 6 (some .int) ∈ wsL_law := List.mem_filter.mpr ⟨List.mem_append_right _ (List.mem_append_right _ (List.mem_append_right _ (List.mem_append_left _ (List.mem_of_getElem? (i := 21) rfl)))), by decide +kernel⟩
set_option maxRecDepth 20000 in
theorem wd347 : Cond.code yJ0_length_8abf5 cJ0_length_8abf5 1 (some .int) ∈ wsL_law := List.mem_filter.mpr ⟨List.mem_append_right _ (List.mem_append_right _ (List.mem_append_right _ (List.mem_append_left _ (List.mem_of_getElem? (i := 25) rfl)))), by decide +kernel⟩
set_option maxRecDepth 20000 in
theorem wd352 : Cond.code yJ0_coder_7d493 cJ0_coder_7d493 1 (some .byte) ∈ wsL_law := List.mem_filter.mpr ⟨List.mem_append_right _ (List.mem_append_right _ (List.mem_append_right _ (List.mem_append_left _ (List.mem_of_getElem? (i := 29) rfl)))), by decide +kernel⟩
set_option maxRecDepth 20000 in
theorem wd358 : Cond.code yJ0_charAt_5068e cJ0_charAt_5068e 2 (some .char) ∈ wsL_law := List.mem_filter.mpr ⟨List.mem_append_right _ (List.mem_append_right _ (List.mem_append_right _ (List.mem_append_left _ (List.mem_of_getElem? (i := 35) rfl)))), by decide +kernel⟩
set_option maxRecDepth 20000 in
theorem wd362 : Cond.code yJ0_isLatin1_aae02 cJ0_isLatin1_aae02 1 (some .boolean) ∈ wsL_law := List.mem_filter.mpr ⟨List.mem_append_right _ (List.mem_append_right _ (List.mem_append_right _ (List.mem_append_left _ (List.mem_of_getElem? (i := 39) rfl)))), by decide +kernel⟩
set_option maxRecDepth 20000 in
theorem wd366 : Cond.code yJ1_charAt_3b067 cJ1_charAt_3b067 2 (some .char) ∈ wsL_law := List.mem_filter.mpr ⟨List.mem_append_right _ (List.mem_append_right _ (List.mem_append_right _ (List.mem_append_left _ (List.mem_of_getElem? (i := 42) rfl)))), by decide +kernel⟩
set_option maxRecDepth 20000 in
theorem wd369 : Cond.code yJ0_checkIndex_df160 cJ0_checkIndex_df160 2 none ∈ wsL_law := List.mem_filter.mpr ⟨List.mem_append_right _ (List.mem_append_right _ (List.mem_append_right _ (List.mem_append_left _ (List.mem_of_getElem? (i := 45) rfl)))), by decide +kernel⟩
set_option maxRecDepth 20000 in
theorem wd374 : Cond.code yJ3_checkIndex_8e157 cJ3_checkIndex_8e157 3 (some .int) ∈ wsL_law := List.mem_filter.mpr ⟨List.mem_append_right _ (List.mem_append_right _ (List.mem_append_right _ (List.mem_append_left _ (List.mem_of_getElem? (i := 50) rfl)))), by decide +kernel⟩
set_option maxRecDepth 20000 in
theorem wd378 : Cond.code yJ2_charAt_3b067 cJ2_charAt_3b067 2 (some .char) ∈ wsL_law := List.mem_filter.mpr ⟨List.mem_append_right _ (List.mem_append_right _ (List.mem_append_right _ (List.mem_append_left _ (List.mem_of_getElem? (i := 53) rfl)))), by decide +kernel⟩
set_option maxRecDepth 20000 in
theorem wd381 : Cond.code yJ2_checkIndex_2214a cJ2_checkIndex_2214a 2 none ∈ wsL_law := List.mem_filter.mpr ⟨List.mem_append_right _ (List.mem_append_right _ (List.mem_append_right _ (List.mem_append_left _ (List.mem_of_getElem? (i := 56) rfl)))), by decide +kernel⟩
set_option maxRecDepth 20000 in
theorem wd384 : Cond.code yJ2_length_9d52b cJ2_length_9d52b 1 (some .int) ∈ wsL_law := List.mem_filter.mpr ⟨List.mem_append_right _ (List.mem_append_right _ (List.mem_append_right _ (List.mem_append_left _ (List.mem_of_getElem? (i := 59) rfl)))), by decide +kernel⟩
set_option maxRecDepth 20000 in
theorem wd388 : Cond.code yJ2_getChar_3b067 cJ2_getChar_3b067 2 (some .char) ∈ wsL_law := List.mem_filter.mpr ⟨List.mem_append_right _ (List.mem_append_right _ (List.mem_append_right _ (List.mem_append_left _ (List.mem_of_getElem? (i := 63) rfl)))), by decide +kernel⟩
set_option maxRecDepth 20000 in
theorem wd395 : Cond.code yX5_fail cX5_fail 3 none ∈ wsL_law := List.mem_filter.mpr ⟨List.mem_append_right _ (List.mem_append_right _ (List.mem_append_right _ (List.mem_append_left _ (List.mem_of_getElem? (i := 73) rfl)))), by decide +kernel⟩
set_option maxRecDepth 20000 in
theorem wd399 : Cond.code yX5_number cX5_number 5 (some .int) ∈ wsL_law := List.mem_filter.mpr ⟨List.mem_append_right _ (List.mem_append_right _ (List.mem_append_right _ (List.mem_append_left _ (List.mem_of_getElem? (i := 77) rfl)))), by decide +kernel⟩
set_option maxRecDepth 20000 in
theorem wd403 : Cond.code yX5_need cX5_need 2 none ∈ wsL_law := List.mem_filter.mpr ⟨List.mem_append_right _ (List.mem_append_right _ (List.mem_append_right _ (List.mem_append_left _ (List.mem_of_getElem? (i := 84) rfl)))), by decide +kernel⟩
set_option maxRecDepth 20000 in
theorem wd407 : Cond.code yX5_sees cX5_sees 2 (some .boolean) ∈ wsL_law := List.mem_filter.mpr ⟨List.mem_append_right _ (List.mem_append_right _ (List.mem_append_right _ (List.mem_append_left _ (List.mem_of_getElem? (i := 88) rfl)))), by decide +kernel⟩
set_option maxRecDepth 20000 in
theorem wd411 : Cond.code yX5_kindStatement cX5_kindStatement 2 none ∈ wsL_law := List.mem_filter.mpr ⟨List.mem_append_right _ (List.mem_append_right _ (List.mem_append_right _ (List.mem_append_left _ (List.mem_of_getElem? (i := 93) rfl)))), by decide +kernel⟩
set_option maxRecDepth 20000 in
theorem wd419 : Cond.code yX5_newName cX5_newName 3 none ∈ wsL_law := List.mem_filter.mpr ⟨List.mem_append_right _ (List.mem_append_right _ (List.mem_append_right _ (List.mem_append_left _ (List.mem_of_getElem? (i := 97) rfl)))), by decide +kernel⟩
set_option maxRecDepth 20000 in
theorem wd425 : Cond.code yX5_isName cX5_isName 1 (some .boolean) ∈ wsL_law := List.mem_filter.mpr ⟨List.mem_append_right _ (List.mem_append_right _ (List.mem_append_right _ (List.mem_append_left _ (List.mem_of_getElem? (i := 101) rfl)))), by decide +kernel⟩
set_option maxRecDepth 20000 in
theorem wd429 : Cond.code yX5_wrongInName cX5_wrongInName 1 (some .int) ∈ wsL_law := List.mem_filter.mpr ⟨List.mem_append_right _ (List.mem_append_right _ (List.mem_append_right _ (List.mem_append_left _ (List.mem_of_getElem? (i := 106) rfl)))), by decide +kernel⟩
set_option maxRecDepth 20000 in
theorem wd433 : Cond.code yX5_slotOf cX5_slotOf 5 (some .int) ∈ wsL_law := List.mem_filter.mpr ⟨List.mem_append_right _ (List.mem_append_right _ (List.mem_append_right _ (List.mem_append_left _ (List.mem_of_getElem? (i := 110) rfl)))), by decide +kernel⟩
set_option maxRecDepth 20000 in
theorem wd437 : Cond.code yX5_nameLetter cX5_nameLetter 2 (some .int) ∈ wsL_law := List.mem_filter.mpr ⟨List.mem_append_right _ (List.mem_append_right _ (List.mem_append_right _ (List.mem_append_left _ (List.mem_of_getElem? (i := 114) rfl)))), by decide +kernel⟩
set_option maxRecDepth 20000 in
theorem wd441 : Cond.code yX5_comesStatement cX5_comesStatement 3 none ∈ wsL_law := List.mem_filter.mpr ⟨List.mem_append_right _ (List.mem_append_right _ (List.mem_append_right _ (List.mem_append_left _ (List.mem_of_getElem? (i := 121) rfl)))), by decide +kernel⟩
set_option maxRecDepth 20000 in
theorem wd448 : Cond.code yX5_knownKind cX5_knownKind 2 (some .int) ∈ wsL_law := List.mem_filter.mpr ⟨List.mem_append_right _ (List.mem_append_right _ (List.mem_append_right _ (List.mem_append_left _ (List.mem_of_getElem? (i := 126) rfl)))), by decide +kernel⟩
set_option maxRecDepth 20000 in
theorem wd452 : Cond.code yX5_codeStatement cX5_codeStatement 3 none ∈ wsL_law := List.mem_filter.mpr ⟨List.mem_append_right _ (List.mem_append_right _ (List.mem_append_right _ (List.mem_append_left _ (List.mem_of_getElem? (i := 131) rfl)))), by decide +kernel⟩
set_option maxRecDepth 20000 in
theorem wd458 : Cond.code yX5_sum cX5_sum 4 none ∈ wsL_law := List.mem_filter.mpr ⟨List.mem_append_right _ (List.mem_append_right _ (List.mem_append_right _ (List.mem_append_left _ (List.mem_of_getElem? (i := 135) rfl)))), by decide +kernel⟩
set_option maxRecDepth 20000 in
theorem wd465 : Cond.code yX5_emit cX5_emit 2 none ∈ wsL_law := List.mem_filter.mpr ⟨List.mem_append_right _ (List.mem_append_right _ (List.mem_append_right _ (List.mem_append_left _ (List.mem_of_getElem? (i := 147) rfl)))), by decide +kernel⟩
set_option maxRecDepth 20000 in
theorem wd467 : Cond.code yX5_pair cX5_pair 3 none ∈ wsL_law := List.mem_filter.mpr ⟨List.mem_append_right _ (List.mem_append_right _ (List.mem_append_right _ (List.mem_append_left _ (List.mem_of_getElem? (i := 160) rfl)))), by decide +kernel⟩
set_option maxRecDepth 20000 in
theorem wd471 : Cond.code yX5_enters cX5_enters 2 (some .boolean) ∈ wsL_law := List.mem_filter.mpr ⟨List.mem_append_right _ (List.mem_append_right _ (List.mem_append_right _ (List.mem_append_left _ (List.mem_of_getElem? (i := 151) rfl)))), by decide +kernel⟩
set_option maxRecDepth 20000 in
theorem wd472 : Cond.code yX5_part cX5_part 2 none ∈ wsL_law := List.mem_filter.mpr ⟨List.mem_append_right _ (List.mem_append_right _ (List.mem_append_right _ (List.mem_append_left _ (List.mem_of_getElem? (i := 143) rfl)))), by decide +kernel⟩
set_option maxRecDepth 20000 in
theorem wd476 : Cond.code yX5_takeWord cX5_takeWord 3 (some .boolean) ∈ wsL_law := List.mem_filter.mpr ⟨List.mem_append_right _ (List.mem_append_right _ (List.mem_append_right _ (List.mem_append_left _ (List.mem_of_getElem? (i := 156) rfl)))), by decide +kernel⟩
set_option maxRecDepth 20000 in
theorem wd486 : Cond.code yX5_partWord cX5_partWord 2 none ∈ wsL_law := List.mem_filter.mpr ⟨List.mem_append_right _ (List.mem_append_right _ (List.mem_append_right _ (List.mem_append_left _ (List.mem_of_getElem? (i := 166) rfl)))), by decide +kernel⟩
set_option maxRecDepth 20000 in
theorem wd487 : Cond.code yX5_product cX5_product 4 none ∈ wsL_law := List.mem_filter.mpr ⟨List.mem_append_right _ (List.mem_append_right _ (List.mem_append_right _ (List.mem_append_left _ (List.mem_of_getElem? (i := 139) rfl)))), by decide +kernel⟩
set_option maxRecDepth 20000 in
theorem wd491 : Cond.code yX5_test cX5_test 3 none ∈ wsL_law := List.mem_filter.mpr ⟨List.mem_append_right _ (List.mem_append_right _ (List.mem_append_right _ (List.mem_append_left _ (List.mem_of_getElem? (i := 171) rfl)))), by decide +kernel⟩
set_option maxRecDepth 20000 in
theorem wd495 : Cond.code yX5_both cX5_both 3 none ∈ wsL_law := List.mem_filter.mpr ⟨List.mem_append_right _ (List.mem_append_right _ (List.mem_append_right _ (List.mem_append_left _ (List.mem_of_getElem? (i := 175) rfl)))), by decide +kernel⟩
set_option maxRecDepth 20000 in
theorem wd499 : Cond.code yX5_fact cX5_fact 3 none ∈ wsL_law := List.mem_filter.mpr ⟨List.mem_append_right _ (List.mem_append_right _ (List.mem_append_right _ (List.mem_append_left _ (List.mem_of_getElem? (i := 179) rfl)))), by decide +kernel⟩
set_option maxRecDepth 20000 in
theorem wd503 : Cond.code yX5_signHere cX5_signHere 1 (some .int) ∈ wsL_law := List.mem_filter.mpr ⟨List.mem_append_right _ (List.mem_append_right _ (List.mem_append_right _ (List.mem_append_left _ (List.mem_of_getElem? (i := 185) rfl)))), by decide +kernel⟩
set_option maxRecDepth 20000 in
theorem wd507 : Cond.code yX6_begin cX6_begin 2 none ∈ wsL_law := List.mem_filter.mpr ⟨List.mem_append_right _ (List.mem_append_right _ (List.mem_append_right _ (List.mem_append_left _ (List.mem_of_getElem? (i := 192) rfl)))), by decide +kernel⟩
set_option maxRecDepth 20000 in
theorem wd518 : Cond.code yX2_clear cX2_clear 1 none ∈ wsL_law := List.mem_filter.mpr ⟨List.mem_append_right _ (List.mem_append_right _ (List.mem_append_right _ (List.mem_append_left _ (List.mem_of_getElem? (i := 199) rfl)))), by decide +kernel⟩
set_option maxRecDepth 20000 in
theorem wd522 : Cond.code yX8_clear cX8_clear 1 none ∈ wsL_law := List.mem_filter.mpr ⟨List.mem_append_right _ (List.mem_append_right _ (List.mem_append_right _ (List.mem_append_left _ (List.mem_of_getElem? (i := 203) rfl)))), by decide +kernel⟩
set_option maxRecDepth 20000 in
theorem wd526 : Cond.code yX7_take cX7_take 2 none ∈ wsL_law := List.mem_filter.mpr ⟨List.mem_append_right _ (List.mem_append_right _ (List.mem_append_right _ (List.mem_append_left _ (List.mem_of_getElem? (i := 207) rfl)))), by decide +kernel⟩
set_option maxRecDepth 20000 in
theorem wd530 : Cond.code yX4_uses cX4_uses 4 (some .boolean) ∈ wsL_law := List.mem_filter.mpr ⟨List.mem_append_right _ (List.mem_append_right _ (List.mem_append_right _ (List.mem_append_left _ (List.mem_of_getElem? (i := 211) rfl)))), by decide +kernel⟩
set_option maxRecDepth 20000 in
theorem wd534 : Cond.code yX9_changed cX9_changed 1 none ∈ wsL_law := List.mem_filter.mpr ⟨List.mem_append_right _ (List.mem_append_right _ (List.mem_append_right _ (List.mem_append_left _ (List.mem_of_getElem? (i := 215) rfl)))), by decide +kernel⟩
set_option maxRecDepth 20000 in
theorem wd538 : Cond.code yX1_forget cX1_forget 1 none ∈ wsL_law := List.mem_filter.mpr ⟨List.mem_append_right _ (List.mem_append_right _ (List.mem_append_right _ (List.mem_append_left _ (List.mem_of_getElem? (i := 219) rfl)))), by decide +kernel⟩
set_option maxRecDepth 20000 in
theorem wd542 : Cond.code yX0_forget cX0_forget 1 none ∈ wsL_law := List.mem_filter.mpr ⟨List.mem_append_right _ (List.mem_append_right _ (List.mem_append_right _ (List.mem_append_left _ (List.mem_of_getElem? (i := 223) rfl)))), by decide +kernel⟩
set_option maxRecDepth 20000 in
theorem wd546 : Cond.code yX8_forget cX8_forget 1 none ∈ wsL_law := List.mem_filter.mpr ⟨List.mem_append_right _ (List.mem_append_right _ (List.mem_append_right _ (List.mem_append_left _ (List.mem_of_getElem? (i := 227) rfl)))), by decide +kernel⟩
set_option maxRecDepth 20000 in
theorem wd550 : Cond.code yX10_crossing cX10_crossing 2 (some .int) ∈ wsL_law := List.mem_filter.mpr ⟨List.mem_append_right _ (List.mem_append_right _ (List.mem_append_right _ (List.mem_append_right _ (List.mem_append_right _ (List.mem_append_right _ (List.mem_append_right _ (List.mem_append_left _ (List.mem_of_getElem? (i := 18) rfl)))))))), by decide +kernel⟩
set_option maxRecDepth 20000 in
theorem wd563 : Cond.code yX10_barTold cX10_barTold 1 none ∈ wsL_law := List.mem_filter.mpr ⟨List.mem_append_right _ (List.mem_append_right _ (List.mem_append_right _ (List.mem_append_right _ (List.mem_append_right _ (List.mem_append_right _ (List.mem_append_right _ (List.mem_append_left _ (List.mem_of_getElem? (i := 22) rfl)))))))), by decide +kernel⟩
set_option maxRecDepth 20000 in
theorem wd567 : Cond.code yX10_asks cX10_asks 2 none ∈ wsL_law := List.mem_filter.mpr ⟨List.mem_append_right _ (List.mem_append_right _ (List.mem_append_right _ (List.mem_append_right _ (List.mem_append_right _ (List.mem_append_right _ (List.mem_append_right _ (List.mem_append_left _ (List.mem_of_getElem? (i := 26) rfl)))))))), by decide +kernel⟩
set_option maxRecDepth 20000 in
theorem wd571 : Cond.code yX10_takes cX10_takes 2 (some .boolean) ∈ wsL_law := List.mem_filter.mpr ⟨List.mem_append_right _ (List.mem_append_right _ (List.mem_append_right _ (List.mem_append_right _ (List.mem_append_right _ (List.mem_append_right _ (List.mem_append_right _ (List.mem_append_left _ (List.mem_of_getElem? (i := 30) rfl)))))))), by decide +kernel⟩
set_option maxRecDepth 20000 in
theorem wd575 : Cond.code yX10_isHere cX10_isHere 4 (some .boolean) ∈ wsL_law := List.mem_filter.mpr ⟨List.mem_append_right _ (List.mem_append_right _ (List.mem_append_right _ (List.mem_append_right _ (List.mem_append_right _ (List.mem_append_right _ (List.mem_append_right _ (List.mem_append_left _ (List.mem_of_getElem? (i := 34) rfl)))))))), by decide +kernel⟩
set_option maxRecDepth 20000 in
theorem wd579 : Cond.code yX10_look cX10_look 1 (some .int) ∈ wsL_law := List.mem_filter.mpr ⟨List.mem_append_right _ (List.mem_append_right _ (List.mem_append_right _ (List.mem_append_right _ (List.mem_append_right _ (List.mem_append_right _ (List.mem_append_right _ (List.mem_append_left _ (List.mem_of_getElem? (i := 38) rfl)))))))), by decide +kernel⟩
set_option maxRecDepth 20000 in
theorem wd582 : Cond.code yX10_isLetter cX10_isLetter 1 (some .boolean) ∈ wsL_law := List.mem_filter.mpr ⟨List.mem_append_right _ (List.mem_append_right _ (List.mem_append_right _ (List.mem_append_right _ (List.mem_append_right _ (List.mem_append_right _ (List.mem_append_right _ (List.mem_append_left _ (List.mem_of_getElem? (i := 41) rfl)))))))), by decide +kernel⟩
set_option maxRecDepth 20000 in
theorem wd586 : Cond.code yX10_fail cX10_fail 3 none ∈ wsL_law := List.mem_filter.mpr ⟨List.mem_append_right _ (List.mem_append_right _ (List.mem_append_right _ (List.mem_append_right _ (List.mem_append_right _ (List.mem_append_right _ (List.mem_append_right _ (List.mem_append_left _ (List.mem_of_getElem? (i := 45) rfl)))))))), by decide +kernel⟩
set_option maxRecDepth 20000 in
theorem wd590 : Cond.code yX10_number cX10_number 5 (some .int) ∈ wsL_law := List.mem_filter.mpr ⟨List.mem_append_right _ (List.mem_append_right _ (List.mem_append_right _ (List.mem_append_right _ (List.mem_append_right _ (List.mem_append_right _ (List.mem_append_right _ (List.mem_append_left _ (List.mem_of_getElem? (i := 49) rfl)))))))), by decide +kernel⟩
set_option maxRecDepth 20000 in
theorem wd593 : Cond.code yX10_isDigit cX10_isDigit 1 (some .boolean) ∈ wsL_law := List.mem_filter.mpr ⟨List.mem_append_right _ (List.mem_append_right _ (List.mem_append_right _ (List.mem_append_right _ (List.mem_append_right _ (List.mem_append_right _ (List.mem_append_right _ (List.mem_append_left _ (List.mem_of_getElem? (i := 52) rfl)))))))), by decide +kernel⟩
set_option maxRecDepth 20000 in
theorem wd596 : Cond.code yX10_isIn cX10_isIn 6 (some .boolean) ∈ wsL_law := List.mem_filter.mpr ⟨List.mem_append_right _ (List.mem_append_right _ (List.mem_append_right _ (List.mem_append_right _ (List.mem_append_right _ (List.mem_append_right _ (List.mem_append_right _ (List.mem_append_left _ (List.mem_of_getElem? (i := 55) rfl)))))))), by decide +kernel⟩
set_option maxRecDepth 20000 in
theorem wd600 : Cond.code yX10_asksSign cX10_asksSign 2 none ∈ wsL_law := List.mem_filter.mpr ⟨List.mem_append_right _ (List.mem_append_right _ (List.mem_append_right _ (List.mem_append_right _ (List.mem_append_right _ (List.mem_append_right _ (List.mem_append_right _ (List.mem_append_left _ (List.mem_of_getElem? (i := 59) rfl)))))))), by decide +kernel⟩
set_option maxRecDepth 20000 in
theorem wd604 : Cond.code yX10_takesSign cX10_takesSign 2 (some .boolean) ∈ wsL_law := List.mem_filter.mpr ⟨List.mem_append_right _ (List.mem_append_right _ (List.mem_append_right _ (List.mem_append_right _ (List.mem_append_right _ (List.mem_append_right _ (List.mem_append_right _ (List.mem_append_left _ (List.mem_of_getElem? (i := 63) rfl)))))))), by decide +kernel⟩
set_option maxRecDepth 20000 in
theorem wd608 : Cond.code yX10_statementTold cX10_statementTold 2 none ∈ wsL_law := List.mem_filter.mpr ⟨List.mem_append_right _ (List.mem_append_right _ (List.mem_append_right _ (List.mem_append_right _ (List.mem_append_right _ (List.mem_append_right _ (List.mem_append_right _ (List.mem_append_left _ (List.mem_of_getElem? (i := 67) rfl)))))))), by decide +kernel⟩
set_option maxRecDepth 20000 in
theorem wd612 : Cond.code yX10_kindTold cX10_kindTold 8 none ∈ wsL_law := List.mem_filter.mpr ⟨List.mem_append_right _ (List.mem_append_right _ (List.mem_append_right _ (List.mem_append_right _ (List.mem_append_right _ (List.mem_append_right _ (List.mem_append_right _ (List.mem_append_left _ (List.mem_of_getElem? (i := 71) rfl)))))))), by decide +kernel⟩
set_option maxRecDepth 20000 in
theorem wd616 : Cond.code yX10_isFull cX10_isFull 4 (some .boolean) ∈ wsL_law := List.mem_filter.mpr ⟨List.mem_append_right _ (List.mem_append_right _ (List.mem_append_right _ (List.mem_append_right _ (List.mem_append_right _ (List.mem_append_right _ (List.mem_append_right _ (List.mem_append_left _ (List.mem_of_getElem? (i := 75) rfl)))))))), by decide +kernel⟩
set_option maxRecDepth 20000 in
theorem wd620 : Cond.code yX10_newName cX10_newName 4 (some .long) ∈ wsL_law := List.mem_filter.mpr ⟨List.mem_append_right _ (List.mem_append_right _ (List.mem_append_right _ (List.mem_append_right _ (List.mem_append_right _ (List.mem_append_right _ (List.mem_append_right _ (List.mem_append_left _ (List.mem_of_getElem? (i := 79) rfl)))))))), by decide +kernel⟩
set_option maxRecDepth 20000 in
theorem wd625 : Cond.code yX10_name cX10_name 3 (some .long) ∈ wsL_law := List.mem_filter.mpr ⟨List.mem_append_right _ (List.mem_append_right _ (List.mem_append_right _ (List.mem_append_right _ (List.mem_append_right _ (List.mem_append_right _ (List.mem_append_right _ (List.mem_append_left _ (List.mem_of_getElem? (i := 83) rfl)))))))), by decide +kernel⟩
set_option maxRecDepth 20000 in
theorem wd631 : Cond.code yX10_isOwnHere cX10_isOwnHere 2 (some .boolean) ∈ wsL_law := List.mem_filter.mpr ⟨List.mem_append_right _ (List.mem_append_right _ (List.mem_append_right _ (List.mem_append_right _ (List.mem_append_right _ (List.mem_append_right _ (List.mem_append_right _ (List.mem_append_left _ (List.mem_of_getElem? (i := 87) rfl)))))))), by decide +kernel⟩
set_option maxRecDepth 20000 in
theorem wd635 : Cond.code yX10_nameOf cX10_nameOf 5 (some .int) ∈ wsL_law := List.mem_filter.mpr ⟨List.mem_append_right _ (List.mem_append_right _ (List.mem_append_right _ (List.mem_append_right _ (List.mem_append_right _ (List.mem_append_right _ (List.mem_append_right _ (List.mem_append_left _ (List.mem_of_getElem? (i := 93) rfl)))))))), by decide +kernel⟩
set_option maxRecDepth 20000 in
theorem wd639 : Cond.code yX10_walkerTold cX10_walkerTold 8 none ∈ wsL_law := List.mem_filter.mpr ⟨List.mem_append_right _ (List.mem_append_right _ (List.mem_append_right _ (List.mem_append_right _ (List.mem_append_right _ (List.mem_append_right _ (List.mem_append_right _ (List.mem_append_left _ (List.mem_of_getElem? (i := 97) rfl)))))))), by decide +kernel⟩
set_option maxRecDepth 20000 in
theorem wd643 : Cond.code yX10_codesTold cX10_codesTold 4 none ∈ wsL_law := List.mem_filter.mpr ⟨List.mem_append_right _ (List.mem_append_right _ (List.mem_append_right _ (List.mem_append_right _ (List.mem_append_right _ (List.mem_append_right _ (List.mem_append_right _ (List.mem_append_left _ (List.mem_of_getElem? (i := 101) rfl)))))))), by decide +kernel⟩
set_option maxRecDepth 20000 in
theorem wd652 : Cond.code yX10_qSums cX10_qSums 3 none ∈ wsL_law := List.mem_filter.mpr ⟨List.mem_append_right _ (List.mem_append_right _ (List.mem_append_right _ (List.mem_append_right _ (List.mem_append_right _ (List.mem_append_right _ (List.mem_append_right _ (List.mem_append_left _ (List.mem_of_getElem? (i := 105) rfl)))))))), by decide +kernel⟩
set_option maxRecDepth 20000 in
theorem wd656 : Cond.code yX10_qPartTold cX10_qPartTold 6 none ∈ wsL_law := List.mem_filter.mpr ⟨List.mem_append_right _ (List.mem_append_right _ (List.mem_append_right _ (List.mem_append_right _ (List.mem_append_right _ (List.mem_append_right _ (List.mem_append_right _ (List.mem_append_left _ (List.mem_of_getElem? (i := 109) rfl)))))))), by decide +kernel⟩
set_option maxRecDepth 20000 in
theorem wd660 : Cond.code yX10_qWordOf cX10_qWordOf 4 (some .int) ∈ wsL_law := List.mem_filter.mpr ⟨List.mem_append_right _ (List.mem_append_right _ (List.mem_append_right _ (List.mem_append_right _ (List.mem_append_right _ (List.mem_append_right _ (List.mem_append_right _ (List.mem_append_left _ (List.mem_of_getElem? (i := 113) rfl)))))))), by decide +kernel⟩
set_option maxRecDepth 20000 in
theorem wd664 : Cond.code yX10_qWordHere cX10_qWordHere 1 (some .int) ∈ wsL_law := List.mem_filter.mpr ⟨List.mem_append_right _ (List.mem_append_right _ (List.mem_append_right _ (List.mem_append_right _ (List.mem_append_right _ (List.mem_append_right _ (List.mem_append_right _ (List.mem_append_left _ (List.mem_of_getElem? (i := 117) rfl)))))))), by decide +kernel⟩
set_option maxRecDepth 20000 in
theorem wd668 : Cond.code yX10_isAllowed cX10_isAllowed 2 (some .boolean) ∈ wsL_law := List.mem_filter.mpr ⟨List.mem_append_right _ (List.mem_append_right _ (List.mem_append_right _ (List.mem_append_right _ (List.mem_append_right _ (List.mem_append_right _ (List.mem_append_right _ (List.mem_append_left _ (List.mem_of_getElem? (i := 121) rfl)))))))), by decide +kernel⟩
set_option maxRecDepth 20000 in
theorem wd675 : Cond.code yX10_qOpens cX10_qOpens 3 none ∈ wsL_law := List.mem_filter.mpr ⟨List.mem_append_right _ (List.mem_append_right _ (List.mem_append_right _ (List.mem_append_right _ (List.mem_append_right _ (List.mem_append_right _ (List.mem_append_right _ (List.mem_append_left _ (List.mem_of_getElem? (i := 128) rfl)))))))), by decide +kernel⟩
set_option maxRecDepth 20000 in
theorem wd679 : Cond.code yX10_qAsksWord cX10_qAsksWord 2 none ∈ wsL_law := List.mem_filter.mpr ⟨List.mem_append_right _ (List.mem_append_right _ (List.mem_append_right _ (List.mem_append_right _ (List.mem_append_right _ (List.mem_append_right _ (List.mem_append_right _ (List.mem_append_left _ (List.mem_of_getElem? (i := 132) rfl)))))))), by decide +kernel⟩
set_option maxRecDepth 20000 in
theorem wd683 : Cond.code yX10_qCode cX10_qCode 2 none ∈ wsL_law := List.mem_filter.mpr ⟨List.mem_append_right _ (List.mem_append_right _ (List.mem_append_right _ (List.mem_append_right _ (List.mem_append_right _ (List.mem_append_right _ (List.mem_append_right _ (List.mem_append_left _ (List.mem_of_getElem? (i := 136) rfl)))))))), by decide +kernel⟩
set_option maxRecDepth 20000 in
theorem wd687 : Cond.code yX10_qEndsPart cX10_qEndsPart 1 none ∈ wsL_law := List.mem_filter.mpr ⟨List.mem_append_right _ (List.mem_append_right _ (List.mem_append_right _ (List.mem_append_right _ (List.mem_append_right _ (List.mem_append_right _ (List.mem_append_right _ (List.mem_append_left _ (List.mem_of_getElem? (i := 140) rfl)))))))), by decide +kernel⟩
set_option maxRecDepth 20000 in
theorem wd691 : Cond.code yX10_qDrops cX10_qDrops 1 none ∈ wsL_law := List.mem_filter.mpr ⟨List.mem_append_right _ (List.mem_append_right _ (List.mem_append_right _ (List.mem_append_right _ (List.mem_append_right _ (List.mem_append_right _ (List.mem_append_right _ (List.mem_append_left _ (List.mem_of_getElem? (i := 144) rfl)))))))), by decide +kernel⟩
set_option maxRecDepth 20000 in
theorem wd695 : Cond.code yX10_qGoesOn cX10_qGoesOn 2 (some .boolean) ∈ wsL_law := List.mem_filter.mpr ⟨List.mem_append_right _ (List.mem_append_right _ (List.mem_append_right _ (List.mem_append_right _ (List.mem_append_right _ (List.mem_append_right _ (List.mem_append_right _ (List.mem_append_left _ (List.mem_of_getElem? (i := 148) rfl)))))))), by decide +kernel⟩
set_option maxRecDepth 20000 in
theorem wd699 : Cond.code yX10_qBracket cX10_qBracket 2 (some .int) ∈ wsL_law := List.mem_filter.mpr ⟨List.mem_append_right _ (List.mem_append_right _ (List.mem_append_right _ (List.mem_append_right _ (List.mem_append_right _ (List.mem_append_right _ (List.mem_append_right _ (List.mem_append_left _ (List.mem_of_getElem? (i := 152) rfl)))))))), by decide +kernel⟩
set_option maxRecDepth 20000 in
theorem wd702 : Cond.code yX10_qIsBracket cX10_qIsBracket 1 (some .boolean) ∈ wsL_law := List.mem_filter.mpr ⟨List.mem_append_right _ (List.mem_append_right _ (List.mem_append_right _ (List.mem_append_right _ (List.mem_append_right _ (List.mem_append_right _ (List.mem_append_right _ (List.mem_append_left _ (List.mem_of_getElem? (i := 155) rfl)))))))), by decide +kernel⟩
set_option maxRecDepth 20000 in
theorem wd706 : Cond.code yX10_qDropsToBracket cX10_qDropsToBracket 1 none ∈ wsL_law := List.mem_filter.mpr ⟨List.mem_append_right _ (List.mem_append_right _ (List.mem_append_right _ (List.mem_append_right _ (List.mem_append_right _ (List.mem_append_right _ (List.mem_append_right _ (List.mem_append_left _ (List.mem_of_getElem? (i := 159) rfl)))))))), by decide +kernel⟩
set_option maxRecDepth 20000 in
theorem wd710 : Cond.code yX10_qIsOn cX10_qIsOn 2 (some .boolean) ∈ wsL_law := List.mem_filter.mpr ⟨List.mem_append_right _ (List.mem_append_right _ (List.mem_append_right _ (List.mem_append_right _ (List.mem_append_right _ (List.mem_append_right _ (List.mem_append_right _ (List.mem_append_left _ (List.mem_of_getElem? (i := 163) rfl)))))))), by decide +kernel⟩
set_option maxRecDepth 20000 in
theorem wd714 : Cond.code yX10_qTest cX10_qTest 3 none ∈ wsL_law := List.mem_filter.mpr ⟨List.mem_append_right _ (List.mem_append_right _ (List.mem_append_right _ (List.mem_append_right _ (List.mem_append_right _ (List.mem_append_right _ (List.mem_append_right _ (List.mem_append_left _ (List.mem_of_getElem? (i := 167) rfl)))))))), by decide +kernel⟩
set_option maxRecDepth 20000 in
theorem wd718 : Cond.code yX10_qFact cX10_qFact 2 none ∈ wsL_law := List.mem_filter.mpr ⟨List.mem_append_right _ (List.mem_append_right _ (List.mem_append_right _ (List.mem_append_right _ (List.mem_append_right _ (List.mem_append_right _ (List.mem_append_right _ (List.mem_append_left _ (List.mem_of_getElem? (i := 171) rfl)))))))), by decide +kernel⟩
set_option maxRecDepth 20000 in
theorem wd722 : Cond.code yX10_qDropsNots cX10_qDropsNots 1 none ∈ wsL_law := List.mem_filter.mpr ⟨List.mem_append_right _ (List.mem_append_right _ (List.mem_append_right _ (List.mem_append_right _ (List.mem_append_right _ (List.mem_append_right _ (List.mem_append_right _ (List.mem_append_left _ (List.mem_of_getElem? (i := 175) rfl)))))))), by decide +kernel⟩
set_option maxRecDepth 20000 in
theorem wd726 : Cond.code yX10_qGoesOnTest cX10_qGoesOnTest 1 (some .boolean) ∈ wsL_law := List.mem_filter.mpr ⟨List.mem_append_right _ (List.mem_append_right _ (List.mem_append_right _ (List.mem_append_right _ (List.mem_append_right _ (List.mem_append_right _ (List.mem_append_right _ (List.mem_append_left _ (List.mem_of_getElem? (i := 179) rfl)))))))), by decide +kernel⟩
set_option maxRecDepth 20000 in
theorem wd730 : Cond.code yX10_qHasSquare cX10_qHasSquare 2 (some .boolean) ∈ wsL_law := List.mem_filter.mpr ⟨List.mem_append_right _ (List.mem_append_right _ (List.mem_append_right _ (List.mem_append_right _ (List.mem_append_right _ (List.mem_append_right _ (List.mem_append_right _ (List.mem_append_left _ (List.mem_of_getElem? (i := 183) rfl)))))))), by decide +kernel⟩
set_option maxRecDepth 20000 in
theorem wd734 : Cond.code yX10_stands cX10_stands 2 none ∈ wsL_law := List.mem_filter.mpr ⟨List.mem_append_right _ (List.mem_append_right _ (List.mem_append_right _ (List.mem_append_right _ (List.mem_append_right _ (List.mem_append_right _ (List.mem_append_right _ (List.mem_append_left _ (List.mem_of_getElem? (i := 187) rfl)))))))), by decide +kernel⟩
set_option maxRecDepth 20000 in
theorem wd742 : Cond.code yX9_fault cX9_fault 2 (some .int) ∈ wsL_law := List.mem_filter.mpr ⟨List.mem_append_right _ (List.mem_append_right _ (List.mem_append_right _ (List.mem_append_left _ (List.mem_of_getElem? (i := 232) rfl)))), by decide +kernel⟩
set_option maxRecDepth 20000 in
theorem wd747 : Cond.code yX10_fault cX10_fault 2 (some .int) ∈ wsL_law := List.mem_filter.mpr ⟨List.mem_append_right _ (List.mem_append_right _ (List.mem_append_right _ (List.mem_append_right _ (List.mem_append_right _ (List.mem_append_right _ (List.mem_append_right _ (List.mem_append_left _ (List.mem_of_getElem? (i := 191) rfl)))))))), by decide +kernel⟩
set_option maxRecDepth 20000 in
theorem wd751 : Cond.code yX9_has cX9_has 2 (some .int) ∈ wsL_law := List.mem_filter.mpr ⟨List.mem_append_right _ (List.mem_append_right _ (List.mem_append_right _ (List.mem_append_left _ (List.mem_of_getElem? (i := 236) rfl)))), by decide +kernel⟩
set_option maxRecDepth 20000 in
theorem wd763 : Cond.code yX10_has cX10_has 2 (some .int) ∈ wsL_law := List.mem_filter.mpr ⟨List.mem_append_right _ (List.mem_append_right _ (List.mem_append_right _ (List.mem_append_right _ (List.mem_append_right _ (List.mem_append_right _ (List.mem_append_right _ (List.mem_append_left _ (List.mem_of_getElem? (i := 195) rfl)))))))), by decide +kernel⟩
set_option maxRecDepth 20000 in
theorem wd767 : Cond.code yX10_kindMany cX10_kindMany 1 (some .int) ∈ wsL_law := List.mem_filter.mpr ⟨List.mem_append_right _ (List.mem_append_right _ (List.mem_append_right _ (List.mem_append_right _ (List.mem_append_right _ (List.mem_append_right _ (List.mem_append_right _ (List.mem_append_left _ (List.mem_of_getElem? (i := 199) rfl)))))))), by decide +kernel⟩
set_option maxRecDepth 20000 in
theorem wd771 : Cond.code yX10_walkerMany cX10_walkerMany 1 (some .int) ∈ wsL_law := List.mem_filter.mpr ⟨List.mem_append_right _ (List.mem_append_right _ (List.mem_append_right _ (List.mem_append_right _ (List.mem_append_right _ (List.mem_append_right _ (List.mem_append_right _ (List.mem_append_left _ (List.mem_of_getElem? (i := 203) rfl)))))))), by decide +kernel⟩
set_option maxRecDepth 20000 in
theorem wd775 : Cond.code yX9_letter cX9_letter 6 (some .int) ∈ wsL_law := List.mem_filter.mpr ⟨List.mem_append_right _ (List.mem_append_right _ (List.mem_append_right _ (List.mem_append_right _ (List.mem_append_left _ (List.mem_of_getElem? (i := 0) rfl))))), by decide +kernel⟩
set_option maxRecDepth 20000 in
theorem wd780 : Cond.code yX9_isKind cX9_isKind 2 (some .boolean) ∈ wsL_law := List.mem_filter.mpr ⟨List.mem_append_right _ (List.mem_append_right _ (List.mem_append_right _ (List.mem_append_right _ (List.mem_append_left _ (List.mem_of_getElem? (i := 4) rfl))))), by decide +kernel⟩
set_option maxRecDepth 20000 in
theorem wd784 : Cond.code yX9_isWalker cX9_isWalker 2 (some .boolean) ∈ wsL_law := List.mem_filter.mpr ⟨List.mem_append_right _ (List.mem_append_right _ (List.mem_append_right _ (List.mem_append_right _ (List.mem_append_left _ (List.mem_of_getElem? (i := 8) rfl))))), by decide +kernel⟩
set_option maxRecDepth 20000 in
theorem wd788 : Cond.code yX10_letter cX10_letter 9 (some .int) ∈ wsL_law := List.mem_filter.mpr ⟨List.mem_append_right _ (List.mem_append_right _ (List.mem_append_right _ (List.mem_append_right _ (List.mem_append_right _ (List.mem_append_right _ (List.mem_append_right _ (List.mem_append_left _ (List.mem_of_getElem? (i := 207) rfl)))))))), by decide +kernel⟩
set_option maxRecDepth 20000 in
theorem wd793 : Cond.code yX9_kind cX9_kind 3 (some .int) ∈ wsL_law := List.mem_filter.mpr ⟨List.mem_append_right _ (List.mem_append_right _ (List.mem_append_right _ (List.mem_append_right _ (List.mem_append_left _ (List.mem_of_getElem? (i := 12) rfl))))), by decide +kernel⟩
set_option maxRecDepth 20000 in
theorem wd800 : Cond.code yX4_walkersOf cX4_walkersOf 4 (some .int) ∈ wsL_law := List.mem_filter.mpr ⟨List.mem_append_right _ (List.mem_append_right _ (List.mem_append_right _ (List.mem_append_right _ (List.mem_append_left _ (List.mem_of_getElem? (i := 16) rfl))))), by decide +kernel⟩
set_option maxRecDepth 20000 in
theorem wd804 : Cond.code yX10_kind cX10_kind 5 (some .int) ∈ wsL_law := List.mem_filter.mpr ⟨List.mem_append_right _ (List.mem_append_right _ (List.mem_append_right _ (List.mem_append_right _ (List.mem_append_right _ (List.mem_append_right _ (List.mem_append_right _ (List.mem_append_left _ (List.mem_of_getElem? (i := 212) rfl)))))))), by decide +kernel⟩
set_option maxRecDepth 20000 in
theorem wd808 : Cond.code yX10_isKind cX10_isKind 2 (some .boolean) ∈ wsL_law := List.mem_filter.mpr ⟨List.mem_append_right _ (List.mem_append_right _ (List.mem_append_right _ (List.mem_append_right _ (List.mem_append_right _ (List.mem_append_right _ (List.mem_append_right _ (List.mem_append_left _ (List.mem_of_getElem? (i := 216) rfl)))))))), by decide +kernel⟩
set_option maxRecDepth 20000 in
theorem wd812 : Cond.code yX10_kindOf cX10_kindOf 2 (some .int) ∈ wsL_law := List.mem_filter.mpr ⟨List.mem_append_right _ (List.mem_append_right _ (List.mem_append_right _ (List.mem_append_right _ (List.mem_append_right _ (List.mem_append_right _ (List.mem_append_right _ (List.mem_append_left _ (List.mem_of_getElem? (i := 220) rfl)))))))), by decide +kernel⟩
set_option maxRecDepth 20000 in
theorem wd816 : Cond.code yX10_trustsOf cX10_trustsOf 2 (some .int) ∈ wsL_law := List.mem_filter.mpr ⟨List.mem_append_right _ (List.mem_append_right _ (List.mem_append_right _ (List.mem_append_right _ (List.mem_append_right _ (List.mem_append_right _ (List.mem_append_right _ (List.mem_append_left _ (List.mem_of_getElem? (i := 224) rfl)))))))), by decide +kernel⟩
set_option maxRecDepth 20000 in
theorem wd820 : Cond.code yX9_walker cX9_walker 3 (some .int) ∈ wsL_law := List.mem_filter.mpr ⟨List.mem_append_right _ (List.mem_append_right _ (List.mem_append_right _ (List.mem_append_right _ (List.mem_append_left _ (List.mem_of_getElem? (i := 20) rfl))))), by decide +kernel⟩
set_option maxRecDepth 20000 in
theorem wd830 : Cond.code yX9_layToday cX9_layToday 1 none ∈ wsL_law := List.mem_filter.mpr ⟨List.mem_append_right _ (List.mem_append_right _ (List.mem_append_right _ (List.mem_append_right _ (List.mem_append_left _ (List.mem_of_getElem? (i := 24) rfl))))), by decide +kernel⟩
set_option maxRecDepth 20000 in
theorem wd834 : Cond.code yX7_lay cX7_lay 5 none ∈ wsL_law := List.mem_filter.mpr ⟨List.mem_append_right _ (List.mem_append_right _ (List.mem_append_right _ (List.mem_append_right _ (List.mem_append_left _ (List.mem_of_getElem? (i := 28) rfl))))), by decide +kernel⟩
set_option maxRecDepth 20000 in
theorem wd839 : Cond.code yX7_prepare cX7_prepare 5 none ∈ wsL_law := List.mem_filter.mpr ⟨List.mem_append_right _ (List.mem_append_right _ (List.mem_append_right _ (List.mem_append_right _ (List.mem_append_left _ (List.mem_of_getElem? (i := 32) rfl))))), by decide +kernel⟩
set_option maxRecDepth 20000 in
theorem wd846 : Cond.code yX7_drive cX7_drive 4 none ∈ wsL_law := List.mem_filter.mpr ⟨List.mem_append_right _ (List.mem_append_right _ (List.mem_append_right _ (List.mem_append_right _ (List.mem_append_left _ (List.mem_of_getElem? (i := 36) rfl))))), by decide +kernel⟩
set_option maxRecDepth 20000 in
theorem wd854 : Cond.code yX3_value cX3_value 7 (some .int) ∈ wsL_law := List.mem_filter.mpr ⟨List.mem_append_right _ (List.mem_append_right _ (List.mem_append_right _ (List.mem_append_right _ (List.mem_append_left _ (List.mem_of_getElem? (i := 40) rfl))))), by decide +kernel⟩
set_option maxRecDepth 20000 in
theorem wd857 : Cond.code yX3_operate cX3_operate 3 (some .int) ∈ wsL_law := List.mem_filter.mpr ⟨List.mem_append_right _ (List.mem_append_right _ (List.mem_append_right _ (List.mem_append_right _ (List.mem_append_left _ (List.mem_of_getElem? (i := 43) rfl))))), by decide +kernel⟩
set_option maxRecDepth 20000 in
theorem wd860 : Cond.code yX3_within cX3_within 2 (some .int) ∈ wsL_law := List.mem_filter.mpr ⟨List.mem_append_right _ (List.mem_append_right _ (List.mem_append_right _ (List.mem_append_right _ (List.mem_append_left _ (List.mem_of_getElem? (i := 46) rfl))))), by decide +kernel⟩
set_option maxRecDepth 20000 in
theorem wd868 : Cond.code yJ9_floorDiv_7cf53 cJ9_floorDiv_7cf53 3 (some .int) ∈ wsL_law := List.mem_filter.mpr ⟨List.mem_append_right _ (List.mem_append_right _ (List.mem_append_right _ (List.mem_append_right _ (List.mem_append_left _ (List.mem_of_getElem? (i := 53) rfl))))), by decide +kernel⟩
set_option maxRecDepth 20000 in
theorem wd873 : Cond.code yX7_shine cX7_shine 9 none ∈ wsL_law := List.mem_filter.mpr ⟨List.mem_append_right _ (List.mem_append_right _ (List.mem_append_right _ (List.mem_append_right _ (List.mem_append_left _ (List.mem_of_getElem? (i := 59) rfl))))), by decide +kernel⟩
set_option maxRecDepth 20000 in
theorem wd877 : Cond.code Lib.Math.max.name Lib.Math.max.code 2 (some .int) ∈ wsL_law := List.mem_filter.mpr ⟨List.mem_append_right _ (List.mem_append_right _ (List.mem_append_right _ (List.mem_append_right _ (List.mem_append_left _ (List.mem_of_getElem? (i := 70) rfl))))), by decide +kernel⟩
set_option maxRecDepth 20000 in
theorem wd881 : Cond.code yX7_willing cX7_willing 3 (some .int) ∈ wsL_law := List.mem_filter.mpr ⟨List.mem_append_right _ (List.mem_append_right _ (List.mem_append_right _ (List.mem_append_right _ (List.mem_append_left _ (List.mem_of_getElem? (i := 63) rfl))))), by decide +kernel⟩
set_option maxRecDepth 20000 in
theorem wd887 : Cond.code yX4_comersIn cX4_comersIn 2 (some .int) ∈ wsL_law := List.mem_filter.mpr ⟨List.mem_append_right _ (List.mem_append_right _ (List.mem_append_right _ (List.mem_append_right _ (List.mem_append_left _ (List.mem_of_getElem? (i := 67) rfl))))), by decide +kernel⟩
set_option maxRecDepth 20000 in
theorem wd891 : Cond.code yX7_walk cX7_walk 9 none ∈ wsL_law := List.mem_filter.mpr ⟨List.mem_append_right _ (List.mem_append_right _ (List.mem_append_right _ (List.mem_append_right _ (List.mem_append_left _ (List.mem_of_getElem? (i := 74) rfl))))), by decide +kernel⟩
set_option maxRecDepth 20000 in
theorem wd896 : Cond.code yX4_everyone cX4_everyone 1 (some .int) ∈ wsL_law := List.mem_filter.mpr ⟨List.mem_append_right _ (List.mem_append_right _ (List.mem_append_right _ (List.mem_append_right _ (List.mem_append_left _ (List.mem_of_getElem? (i := 78) rfl))))), by decide +kernel⟩
set_option maxRecDepth 20000 in
theorem wd900 : Cond.code yX7_goes cX7_goes 8 (some .boolean) ∈ wsL_law := List.mem_filter.mpr ⟨List.mem_append_right _ (List.mem_append_right _ (List.mem_append_right _ (List.mem_append_right _ (List.mem_append_left _ (List.mem_of_getElem? (i := 82) rfl))))), by decide +kernel⟩
set_option maxRecDepth 20000 in
theorem wd905 : Cond.code yX7_describe cX7_describe 7 none ∈ wsL_law := List.mem_filter.mpr ⟨List.mem_append_right _ (List.mem_append_right _ (List.mem_append_right _ (List.mem_append_right _ (List.mem_append_left _ (List.mem_of_getElem? (i := 86) rfl))))), by decide +kernel⟩
set_option maxRecDepth 20000 in
theorem wd910 : Cond.code yX7_waitedBy cX7_waitedBy 2 (some .int) ∈ wsL_law := List.mem_filter.mpr ⟨List.mem_append_right _ (List.mem_append_right _ (List.mem_append_right _ (List.mem_append_right _ (List.mem_append_left _ (List.mem_of_getElem? (i := 90) rfl))))), by decide +kernel⟩
set_option maxRecDepth 20000 in
theorem wd913 : Cond.code yX9_bit cX9_bit 2 (some .int) ∈ wsL_law := List.mem_filter.mpr ⟨List.mem_append_right _ (List.mem_append_right _ (List.mem_append_right _ (List.mem_append_right _ (List.mem_append_left _ (List.mem_of_getElem? (i := 93) rfl))))), by decide +kernel⟩
set_option maxRecDepth 20000 in
theorem wd917 : Cond.code yX10_walker cX10_walker 3 (some .int) ∈ wsL_law := List.mem_filter.mpr ⟨List.mem_append_right _ (List.mem_append_right _ (List.mem_append_right _ (List.mem_append_right _ (List.mem_append_right _ (List.mem_append_right _ (List.mem_append_right _ (List.mem_append_left _ (List.mem_of_getElem? (i := 228) rfl)))))))), by decide +kernel⟩
set_option maxRecDepth 20000 in
theorem wd921 : Cond.code yX10_isWalker cX10_isWalker 2 (some .boolean) ∈ wsL_law := List.mem_filter.mpr ⟨List.mem_append_right _ (List.mem_append_right _ (List.mem_append_right _ (List.mem_append_right _ (List.mem_append_right _ (List.mem_append_right _ (List.mem_append_right _ (List.mem_append_left _ (List.mem_of_getElem? (i := 232) rfl)))))))), by decide +kernel⟩
set_option maxRecDepth 20000 in
theorem wd925 : Cond.code yX10_dayNow cX10_dayNow 1 none ∈ wsL_law := List.mem_filter.mpr ⟨List.mem_append_right _ (List.mem_append_right _ (List.mem_append_right _ (List.mem_append_right _ (List.mem_append_right _ (List.mem_append_right _ (List.mem_append_right _ (List.mem_append_left _ (List.mem_of_getElem? (i := 236) rfl)))))))), by decide +kernel⟩
set_option maxRecDepth 20000 in
theorem wd929 : Cond.code yX10_laysCars cX10_laysCars 2 none ∈ wsL_law := List.mem_filter.mpr ⟨List.mem_append_right _ (List.mem_append_right _ (List.mem_append_right _ (List.mem_append_right _ (List.mem_append_right _ (List.mem_append_right _ (List.mem_append_right _ (List.mem_append_right _ (List.mem_append_left _ (List.mem_of_getElem? (i := 0) rfl))))))))), by decide +kernel⟩
set_option maxRecDepth 20000 in
theorem wd934 : Cond.code yX10_codesTell cX10_codesTell 5 (some .long) ∈ wsL_law := List.mem_filter.mpr ⟨List.mem_append_right _ (List.mem_append_right _ (List.mem_append_right _ (List.mem_append_right _ (List.mem_append_right _ (List.mem_append_right _ (List.mem_append_right _ (List.mem_append_right _ (List.mem_append_left _ (List.mem_of_getElem? (i := 4) rfl))))))))), by decide +kernel⟩
set_option maxRecDepth 20000 in
theorem wd939 : Cond.code yX10_qPuts cX10_qPuts 3 none ∈ wsL_law := List.mem_filter.mpr ⟨List.mem_append_right _ (List.mem_append_right _ (List.mem_append_right _ (List.mem_append_right _ (List.mem_append_right _ (List.mem_append_right _ (List.mem_append_right _ (List.mem_append_right _ (List.mem_append_left _ (List.mem_of_getElem? (i := 8) rfl))))))))), by decide +kernel⟩
set_option maxRecDepth 20000 in
theorem wd943 : Cond.code yX10_qPartOf cX10_qPartOf 3 (some .long) ∈ wsL_law := List.mem_filter.mpr ⟨List.mem_append_right _ (List.mem_append_right _ (List.mem_append_right _ (List.mem_append_right _ (List.mem_append_right _ (List.mem_append_right _ (List.mem_append_right _ (List.mem_append_right _ (List.mem_append_left _ (List.mem_of_getElem? (i := 12) rfl))))))))), by decide +kernel⟩
set_option maxRecDepth 20000 in
theorem wd948 : Cond.code yX10_paceOf cX10_paceOf 2 (some .int) ∈ wsL_law := List.mem_filter.mpr ⟨List.mem_append_right _ (List.mem_append_right _ (List.mem_append_right _ (List.mem_append_right _ (List.mem_append_right _ (List.mem_append_right _ (List.mem_append_right _ (List.mem_append_right _ (List.mem_append_left _ (List.mem_of_getElem? (i := 16) rfl))))))))), by decide +kernel⟩
set_option maxRecDepth 20000 in
theorem wd952 : Cond.code yX10_qJoins cX10_qJoins 6 none ∈ wsL_law := List.mem_filter.mpr ⟨List.mem_append_right _ (List.mem_append_right _ (List.mem_append_right _ (List.mem_append_right _ (List.mem_append_right _ (List.mem_append_right _ (List.mem_append_right _ (List.mem_append_right _ (List.mem_append_left _ (List.mem_of_getElem? (i := 20) rfl))))))))), by decide +kernel⟩
set_option maxRecDepth 20000 in
theorem wd955 : Cond.code yX10_qClip cX10_qClip 2 (some .long) ∈ wsL_law := List.mem_filter.mpr ⟨List.mem_append_right _ (List.mem_append_right _ (List.mem_append_right _ (List.mem_append_right _ (List.mem_append_right _ (List.mem_append_right _ (List.mem_append_right _ (List.mem_append_right _ (List.mem_append_left _ (List.mem_of_getElem? (i := 23) rfl))))))))), by decide +kernel⟩
set_option maxRecDepth 20000 in
theorem wd960 : Cond.code yX10_qFloor cX10_qFloor 6 (some .long) ∈ wsL_law := List.mem_filter.mpr ⟨List.mem_append_right _ (List.mem_append_right _ (List.mem_append_right _ (List.mem_append_right _ (List.mem_append_right _ (List.mem_append_right _ (List.mem_append_right _ (List.mem_append_right _ (List.mem_append_left _ (List.mem_of_getElem? (i := 28) rfl))))))))), by decide +kernel⟩
set_option maxRecDepth 20000 in
theorem wd964 : Cond.code yX10_dayBy cX10_dayBy 7 none ∈ wsL_law := List.mem_filter.mpr ⟨List.mem_append_right _ (List.mem_append_right _ (List.mem_append_right _ (List.mem_append_right _ (List.mem_append_right _ (List.mem_append_right _ (List.mem_append_right _ (List.mem_append_right _ (List.mem_append_left _ (List.mem_of_getElem? (i := 32) rfl))))))))), by decide +kernel⟩
set_option maxRecDepth 20000 in
theorem wd972 : Cond.code yX10_arrive cX10_arrive 4 none ∈ wsL_law := List.mem_filter.mpr ⟨List.mem_append_right _ (List.mem_append_right _ (List.mem_append_right _ (List.mem_append_right _ (List.mem_append_right _ (List.mem_append_right _ (List.mem_append_right _ (List.mem_append_right _ (List.mem_append_left _ (List.mem_of_getElem? (i := 36) rfl))))))))), by decide +kernel⟩
set_option maxRecDepth 20000 in
theorem wd976 : Cond.code yX10_secondOf cX10_secondOf 2 (some .int) ∈ wsL_law := List.mem_filter.mpr ⟨List.mem_append_right _ (List.mem_append_right _ (List.mem_append_right _ (List.mem_append_right _ (List.mem_append_right _ (List.mem_append_right _ (List.mem_append_right _ (List.mem_append_right _ (List.mem_append_left _ (List.mem_of_getElem? (i := 40) rfl))))))))), by decide +kernel⟩
set_option maxRecDepth 20000 in
theorem wd980 : Cond.code yX10_isLit cX10_isLit 5 (some .boolean) ∈ wsL_law := List.mem_filter.mpr ⟨List.mem_append_right _ (List.mem_append_right _ (List.mem_append_right _ (List.mem_append_right _ (List.mem_append_right _ (List.mem_append_right _ (List.mem_append_right _ (List.mem_append_right _ (List.mem_append_left _ (List.mem_of_getElem? (i := 44) rfl))))))))), by decide +kernel⟩
set_option maxRecDepth 20000 in
theorem wd985 : Cond.code yX10_acts cX10_acts 4 none ∈ wsL_law := List.mem_filter.mpr ⟨List.mem_append_right _ (List.mem_append_right _ (List.mem_append_right _ (List.mem_append_right _ (List.mem_append_right _ (List.mem_append_right _ (List.mem_append_right _ (List.mem_append_right _ (List.mem_append_left _ (List.mem_of_getElem? (i := 48) rfl))))))))), by decide +kernel⟩
set_option maxRecDepth 20000 in
theorem wd989 : Cond.code yX10_isHarmed cX10_isHarmed 3 (some .boolean) ∈ wsL_law := List.mem_filter.mpr ⟨List.mem_append_right _ (List.mem_append_right _ (List.mem_append_right _ (List.mem_append_right _ (List.mem_append_right _ (List.mem_append_right _ (List.mem_append_right _ (List.mem_append_right _ (List.mem_append_left _ (List.mem_of_getElem? (i := 52) rfl))))))))), by decide +kernel⟩
set_option maxRecDepth 20000 in
theorem wd993 : Cond.code yX9_light cX9_light 2 (some .int) ∈ wsL_law := List.mem_filter.mpr ⟨List.mem_append_right _ (List.mem_append_right _ (List.mem_append_right _ (List.mem_append_right _ (List.mem_append_left _ (List.mem_of_getElem? (i := 97) rfl))))), by decide +kernel⟩
set_option maxRecDepth 20000 in
theorem wd998 : Cond.code yX9_stands cX9_stands 1 (some .boolean) ∈ wsL_law := List.mem_filter.mpr ⟨List.mem_append_right _ (List.mem_append_right _ (List.mem_append_right _ (List.mem_append_right _ (List.mem_append_left _ (List.mem_of_getElem? (i := 101) rfl))))), by decide +kernel⟩
set_option maxRecDepth 20000 in
theorem wd1002 : Cond.code yX10_light cX10_light 2 (some .int) ∈ wsL_law := List.mem_filter.mpr ⟨List.mem_append_right _ (List.mem_append_right _ (List.mem_append_right _ (List.mem_append_right _ (List.mem_append_right _ (List.mem_append_right _ (List.mem_append_right _ (List.mem_append_right _ (List.mem_append_left _ (List.mem_of_getElem? (i := 56) rfl))))))))), by decide +kernel⟩
set_option maxRecDepth 20000 in
theorem wd1007 : Cond.code yX9_car cX9_car 2 (some .int) ∈ wsL_law := List.mem_filter.mpr ⟨List.mem_append_right _ (List.mem_append_right _ (List.mem_append_right _ (List.mem_append_right _ (List.mem_append_left _ (List.mem_of_getElem? (i := 105) rfl))))), by decide +kernel⟩
set_option maxRecDepth 20000 in
theorem wd1012 : Cond.code yX10_car cX10_car 2 (some .int) ∈ wsL_law := List.mem_filter.mpr ⟨List.mem_append_right _ (List.mem_append_right _ (List.mem_append_right _ (List.mem_append_right _ (List.mem_append_right _ (List.mem_append_right _ (List.mem_append_right _ (List.mem_append_right _ (List.mem_append_left _ (List.mem_of_getElem? (i := 61) rfl))))))))), by decide +kernel⟩
set_option maxRecDepth 20000 in
theorem wd1017 : Cond.code yX9_day cX9_day 2 (some .int) ∈ wsL_law := List.mem_filter.mpr ⟨List.mem_append_right _ (List.mem_append_right _ (List.mem_append_right _ (List.mem_append_right _ (List.mem_append_left _ (List.mem_of_getElem? (i := 109) rfl))))), by decide +kernel⟩
set_option maxRecDepth 20000 in
theorem wd1021 : Cond.code yX7_told cX7_told 2 (some .int) ∈ wsL_law := List.mem_filter.mpr ⟨List.mem_append_right _ (List.mem_append_right _ (List.mem_append_right _ (List.mem_append_right _ (List.mem_append_left _ (List.mem_of_getElem? (i := 113) rfl))))), by decide +kernel⟩
set_option maxRecDepth 20000 in
theorem wd1025 : Cond.code yX7_waitedByAll cX7_waitedByAll 3 (some .int) ∈ wsL_law := List.mem_filter.mpr ⟨List.mem_append_right _ (List.mem_append_right _ (List.mem_append_right _ (List.mem_append_right _ (List.mem_append_left _ (List.mem_of_getElem? (i := 117) rfl))))), by decide +kernel⟩
set_option maxRecDepth 20000 in
theorem wd1030 : Cond.code yJ6_bitCount_0f7a4 cJ6_bitCount_0f7a4 1 (some .int) ∈ wsL_law := List.mem_filter.mpr ⟨List.mem_append_right _ (List.mem_append_right _ (List.mem_append_right _ (List.mem_append_right _ (List.mem_append_left _ (List.mem_of_getElem? (i := 121) rfl))))), by decide +kernel⟩
set_option maxRecDepth 20000 in
theorem wd1037 : Cond.code yX7_greensForNobody cX7_greensForNobody 5 (some .int) ∈ wsL_law := List.mem_filter.mpr ⟨List.mem_append_right _ (List.mem_append_right _ (List.mem_append_right _ (List.mem_append_right _ (List.mem_append_left _ (List.mem_of_getElem? (i := 128) rfl))))), by decide +kernel⟩
set_option maxRecDepth 20000 in
theorem wd1041 : Cond.code yX7_someoneCrosses cX7_someoneCrosses 3 (some .boolean) ∈ wsL_law := List.mem_filter.mpr ⟨List.mem_append_right _ (List.mem_append_right _ (List.mem_append_right _ (List.mem_append_right _ (List.mem_append_left _ (List.mem_of_getElem? (i := 132) rfl))))), by decide +kernel⟩
set_option maxRecDepth 20000 in
theorem wd1045 : Cond.code yX10_day cX10_day 2 (some .int) ∈ wsL_law := List.mem_filter.mpr ⟨List.mem_append_right _ (List.mem_append_right _ (List.mem_append_right _ (List.mem_append_right _ (List.mem_append_right _ (List.mem_append_right _ (List.mem_append_right _ (List.mem_append_right _ (List.mem_append_left _ (List.mem_of_getElem? (i := 66) rfl))))))))), by decide +kernel⟩
set_option maxRecDepth 20000 in
theorem wd1049 : Cond.code yX10_toldOfDay cX10_toldOfDay 2 (some .int) ∈ wsL_law := List.mem_filter.mpr ⟨List.mem_append_right _ (List.mem_append_right _ (List.mem_append_right _ (List.mem_append_right _ (List.mem_append_right _ (List.mem_append_right _ (List.mem_append_right _ (List.mem_append_right _ (List.mem_append_left _ (List.mem_of_getElem? (i := 70) rfl))))))))), by decide +kernel⟩
set_option maxRecDepth 20000 in
theorem wd1053 : Cond.code yX10_waitedAll cX10_waitedAll 3 (some .int) ∈ wsL_law := List.mem_filter.mpr ⟨List.mem_append_right _ (List.mem_append_right _ (List.mem_append_right _ (List.mem_append_right _ (List.mem_append_right _ (List.mem_append_right _ (List.mem_append_right _ (List.mem_append_right _ (List.mem_append_left _ (List.mem_of_getElem? (i := 74) rfl))))))))), by decide +kernel⟩
set_option maxRecDepth 20000 in
theorem wd1056 : Cond.code yX10_counted cX10_counted 4 (some .int) ∈ wsL_law := List.mem_filter.mpr ⟨List.mem_append_right _ (List.mem_append_right _ (List.mem_append_right _ (List.mem_append_right _ (List.mem_append_right _ (List.mem_append_right _ (List.mem_append_right _ (List.mem_append_right _ (List.mem_append_left _ (List.mem_of_getElem? (i := 77) rfl))))))))), by decide +kernel⟩
set_option maxRecDepth 20000 in
theorem wd1060 : Cond.code yX10_notCrossed cX10_notCrossed 3 (some .int) ∈ wsL_law := List.mem_filter.mpr ⟨List.mem_append_right _ (List.mem_append_right _ (List.mem_append_right _ (List.mem_append_right _ (List.mem_append_right _ (List.mem_append_right _ (List.mem_append_right _ (List.mem_append_right _ (List.mem_append_left _ (List.mem_of_getElem? (i := 81) rfl))))))))), by decide +kernel⟩
set_option maxRecDepth 20000 in
theorem wd1064 : Cond.code yX10_forNobody cX10_forNobody 4 (some .int) ∈ wsL_law := List.mem_filter.mpr ⟨List.mem_append_right _ (List.mem_append_right _ (List.mem_append_right _ (List.mem_append_right _ (List.mem_append_right _ (List.mem_append_right _ (List.mem_append_right _ (List.mem_append_right _ (List.mem_append_left _ (List.mem_of_getElem? (i := 85) rfl))))))))), by decide +kernel⟩
set_option maxRecDepth 20000 in
theorem wd1068 : Cond.code yX9_best cX9_best 3 (some .int) ∈ wsL_law := List.mem_filter.mpr ⟨List.mem_append_right _ (List.mem_append_right _ (List.mem_append_right _ (List.mem_append_right _ (List.mem_append_left _ (List.mem_of_getElem? (i := 136) rfl))))), by decide +kernel⟩
set_option maxRecDepth 20000 in
theorem wd1072 : Cond.code yX1_bestOf cX1_bestOf 7 (some .int) ∈ wsL_law := List.mem_filter.mpr ⟨List.mem_append_right _ (List.mem_append_right _ (List.mem_append_right _ (List.mem_append_right _ (List.mem_append_left _ (List.mem_of_getElem? (i := 140) rfl))))), by decide +kernel⟩
set_option maxRecDepth 20000 in
theorem wd1077 : Cond.code yX7_greensUpTo cX7_greensUpTo 2 (some .int) ∈ wsL_law := List.mem_filter.mpr ⟨List.mem_append_right _ (List.mem_append_right _ (List.mem_append_right _ (List.mem_append_right _ (List.mem_append_left _ (List.mem_of_getElem? (i := 145) rfl))))), by decide +kernel⟩
set_option maxRecDepth 20000 in
theorem wd1082 : Cond.code yX1_enter cX1_enter 6 none ∈ wsL_law := List.mem_filter.mpr ⟨List.mem_append_right _ (List.mem_append_right _ (List.mem_append_right _ (List.mem_append_right _ (List.mem_append_left _ (List.mem_of_getElem? (i := 150) rfl))))), by decide +kernel⟩
set_option maxRecDepth 20000 in
theorem wd1087 : Cond.code yX10_best cX10_best 9 (some .int) ∈ wsL_law := List.mem_filter.mpr ⟨List.mem_append_right _ (List.mem_append_right _ (List.mem_append_right _ (List.mem_append_right _ (List.mem_append_right _ (List.mem_append_right _ (List.mem_append_right _ (List.mem_append_right _ (List.mem_append_left _ (List.mem_of_getElem? (i := 89) rfl))))))))), by decide +kernel⟩
set_option maxRecDepth 20000 in
theorem wd1093 : Cond.code yX10_isGreenLong cX10_isGreenLong 3 (some .boolean) ∈ wsL_law := List.mem_filter.mpr ⟨List.mem_append_right _ (List.mem_append_right _ (List.mem_append_right _ (List.mem_append_right _ (List.mem_append_right _ (List.mem_append_right _ (List.mem_append_right _ (List.mem_append_right _ (List.mem_append_left _ (List.mem_of_getElem? (i := 95) rfl))))))))), by decide +kernel⟩
set_option maxRecDepth 20000 in
theorem wd1097 : Cond.code yX9_least cX9_least 1 (some .int) ∈ wsL_law := List.mem_filter.mpr ⟨List.mem_append_right _ (List.mem_append_right _ (List.mem_append_right _ (List.mem_append_right _ (List.mem_append_left _ (List.mem_of_getElem? (i := 155) rfl))))), by decide +kernel⟩
set_option maxRecDepth 20000 in
theorem wd1101 : Cond.code yX1_leastGreen cX1_leastGreen 4 (some .int) ∈ wsL_law := List.mem_filter.mpr ⟨List.mem_append_right _ (List.mem_append_right _ (List.mem_append_right _ (List.mem_append_right _ (List.mem_append_left _ (List.mem_of_getElem? (i := 159) rfl))))), by decide +kernel⟩
set_option maxRecDepth 20000 in
theorem wd1106 : Cond.code yX7_allCross cX7_allCross 1 (some .boolean) ∈ wsL_law := List.mem_filter.mpr ⟨List.mem_append_right _ (List.mem_append_right _ (List.mem_append_right _ (List.mem_append_right _ (List.mem_append_left _ (List.mem_of_getElem? (i := 163) rfl))))), by decide +kernel⟩
set_option maxRecDepth 20000 in
theorem wd1110 : Cond.code yX10_least cX10_least 2 (some .int) ∈ wsL_law := List.mem_filter.mpr ⟨List.mem_append_right _ (List.mem_append_right _ (List.mem_append_right _ (List.mem_append_right _ (List.mem_append_right _ (List.mem_append_right _ (List.mem_append_right _ (List.mem_append_right _ (List.mem_append_left _ (List.mem_of_getElem? (i := 99) rfl))))))))), by decide +kernel⟩
set_option maxRecDepth 20000 in
theorem wd1114 : Cond.code yX9_hold cX9_hold 1 (some .int) ∈ wsL_law := List.mem_filter.mpr ⟨List.mem_append_right _ (List.mem_append_right _ (List.mem_append_right _ (List.mem_append_right _ (List.mem_append_left _ (List.mem_of_getElem? (i := 167) rfl))))), by decide +kernel⟩
set_option maxRecDepth 20000 in
theorem wd1118 : Cond.code yX1_holders cX1_holders 2 (some .int) ∈ wsL_law := List.mem_filter.mpr ⟨List.mem_append_right _ (List.mem_append_right _ (List.mem_append_right _ (List.mem_append_right _ (List.mem_append_left _ (List.mem_of_getElem? (i := 171) rfl))))), by decide +kernel⟩
set_option maxRecDepth 20000 in
theorem wd1122 : Cond.code yX7_goersByThemselves cX7_goersByThemselves 5 (some .int) ∈ wsL_law := List.mem_filter.mpr ⟨List.mem_append_right _ (List.mem_append_right _ (List.mem_append_right _ (List.mem_append_right _ (List.mem_append_left _ (List.mem_of_getElem? (i := 175) rfl))))), by decide +kernel⟩
set_option maxRecDepth 20000 in
theorem wd1127 : Cond.code yX10_hold cX10_hold 3 (some .int) ∈ wsL_law := List.mem_filter.mpr ⟨List.mem_append_right _ (List.mem_append_right _ (List.mem_append_right _ (List.mem_append_right _ (List.mem_append_right _ (List.mem_append_right _ (List.mem_append_right _ (List.mem_append_right _ (List.mem_append_left _ (List.mem_of_getElem? (i := 103) rfl))))))))), by decide +kernel⟩
set_option maxRecDepth 20000 in
theorem wd1130 : Cond.code yX10_bits cX10_bits 3 (some .int) ∈ wsL_law := List.mem_filter.mpr ⟨List.mem_append_right _ (List.mem_append_right _ (List.mem_append_right _ (List.mem_append_right _ (List.mem_append_right _ (List.mem_append_right _ (List.mem_append_right _ (List.mem_append_right _ (List.mem_append_left _ (List.mem_of_getElem? (i := 106) rfl))))))))), by decide +kernel⟩
set_option maxRecDepth 20000 in
theorem wd1134 : Cond.code yX9_later cX9_later 3 (some .int) ∈ wsL_law := List.mem_filter.mpr ⟨List.mem_append_right _ (List.mem_append_right _ (List.mem_append_right _ (List.mem_append_right _ (List.mem_append_left _ (List.mem_of_getElem? (i := 180) rfl))))), by decide +kernel⟩
set_option maxRecDepth 20000 in
theorem wd1139 : Cond.code yX0_goTo cX0_goTo 4 none ∈ wsL_law := List.mem_filter.mpr ⟨List.mem_append_right _ (List.mem_append_right _ (List.mem_append_right _ (List.mem_append_right _ (List.mem_append_left _ (List.mem_of_getElem? (i := 184) rfl))))), by decide +kernel⟩
set_option maxRecDepth 20000 in
theorem wd1147 : Cond.code yX6_copy cX6_copy 2 none ∈ wsL_law := List.mem_filter.mpr ⟨List.mem_append_right _ (List.mem_append_right _ (List.mem_append_right _ (List.mem_append_right _ (List.mem_append_left _ (List.mem_of_getElem? (i := 188) rfl))))), by decide +kernel⟩
set_option maxRecDepth 20000 in
theorem wd1153 : Cond.code yX7_pass cX7_pass 6 none ∈ wsL_law := List.mem_filter.mpr ⟨List.mem_append_right _ (List.mem_append_right _ (List.mem_append_right _ (List.mem_append_right _ (List.mem_append_left _ (List.mem_of_getElem? (i := 194) rfl))))), by decide +kernel⟩
set_option maxRecDepth 20000 in
theorem wd1157 : Cond.code yX10_later cX10_later 4 (some .int) ∈ wsL_law := List.mem_filter.mpr ⟨List.mem_append_right _ (List.mem_append_right _ (List.mem_append_right _ (List.mem_append_right _ (List.mem_append_right _ (List.mem_append_right _ (List.mem_append_right _ (List.mem_append_right _ (List.mem_append_left _ (List.mem_of_getElem? (i := 110) rfl))))))))), by decide +kernel⟩
set_option maxRecDepth 20000 in
theorem wd1161 : Cond.code yX10_isAhead cX10_isAhead 4 (some .boolean) ∈ wsL_law := List.mem_filter.mpr ⟨List.mem_append_right _ (List.mem_append_right _ (List.mem_append_right _ (List.mem_append_right _ (List.mem_append_right _ (List.mem_append_right _ (List.mem_append_right _ (List.mem_append_right _ (List.mem_append_left _ (List.mem_of_getElem? (i := 114) rfl))))))))), by decide +kernel⟩
set_option maxRecDepth 20000 in
theorem wd1165 : Cond.code yX10_putsAside cX10_putsAside 2 none ∈ wsL_law := List.mem_filter.mpr ⟨List.mem_append_right _ (List.mem_append_right _ (List.mem_append_right _ (List.mem_append_right _ (List.mem_append_right _ (List.mem_append_right _ (List.mem_append_right _ (List.mem_append_right _ (List.mem_append_left _ (List.mem_of_getElem? (i := 118) rfl))))))))), by decide +kernel⟩
set_option maxRecDepth 20000 in
theorem wd1169 : Cond.code yX10_dayGoes cX10_dayGoes 3 (some .int) ∈ wsL_law := List.mem_filter.mpr ⟨List.mem_append_right _ (List.mem_append_right _ (List.mem_append_right _ (List.mem_append_right _ (List.mem_append_right _ (List.mem_append_right _ (List.mem_append_right _ (List.mem_append_right _ (List.mem_append_left _ (List.mem_of_getElem? (i := 122) rfl))))))))), by decide +kernel⟩
set_option maxRecDepth 20000 in
theorem wd1173 : Cond.code yX10_learn cX10_learn 6 none ∈ wsL_law := List.mem_filter.mpr ⟨List.mem_append_right _ (List.mem_append_right _ (List.mem_append_right _ (List.mem_append_right _ (List.mem_append_right _ (List.mem_append_right _ (List.mem_append_right _ (List.mem_append_right _ (List.mem_append_left _ (List.mem_of_getElem? (i := 126) rfl))))))))), by decide +kernel⟩
set_option maxRecDepth 20000 in
theorem wd1178 : Cond.code yX10_takesBack cX10_takesBack 2 none ∈ wsL_law := List.mem_filter.mpr ⟨List.mem_append_right _ (List.mem_append_right _ (List.mem_append_right _ (List.mem_append_right _ (List.mem_append_right _ (List.mem_append_right _ (List.mem_append_right _ (List.mem_append_right _ (List.mem_append_left _ (List.mem_of_getElem? (i := 131) rfl))))))))), by decide +kernel⟩
set_option maxRecDepth 20000 in
theorem wd1182 : Cond.code yX9_doubts cX9_doubts 4 (some .int) ∈ wsL_law := List.mem_filter.mpr ⟨List.mem_append_right _ (List.mem_append_right _ (List.mem_append_right _ (List.mem_append_right _ (List.mem_append_left _ (List.mem_of_getElem? (i := 199) rfl))))), by decide +kernel⟩
set_option maxRecDepth 20000 in
theorem wd1188 : Cond.code yX10_doubts cX10_doubts 4 (some .int) ∈ wsL_law := List.mem_filter.mpr ⟨List.mem_append_right _ (List.mem_append_right _ (List.mem_append_right _ (List.mem_append_right _ (List.mem_append_right _ (List.mem_append_right _ (List.mem_append_right _ (List.mem_append_right _ (List.mem_append_left _ (List.mem_of_getElem? (i := 135) rfl))))))))), by decide +kernel⟩
set_option maxRecDepth 20000 in
theorem wd1192 : Cond.code yX9_see cX9_see 2 (some .int) ∈ wsL_law := List.mem_filter.mpr ⟨List.mem_append_right _ (List.mem_append_right _ (List.mem_append_right _ (List.mem_append_right _ (List.mem_append_left _ (List.mem_of_getElem? (i := 204) rfl))))), by decide +kernel⟩
set_option maxRecDepth 20000 in
theorem wd1196 : Cond.code yX8_accepts cX8_accepts 6 (some .boolean) ∈ wsL_law := List.mem_filter.mpr ⟨List.mem_append_right _ (List.mem_append_right _ (List.mem_append_right _ (List.mem_append_right _ (List.mem_append_left _ (List.mem_of_getElem? (i := 208) rfl))))), by decide +kernel⟩
set_option maxRecDepth 20000 in
theorem wd1201 : Cond.code yX8_keep cX8_keep 5 (some .int) ∈ wsL_law := List.mem_filter.mpr ⟨List.mem_append_right _ (List.mem_append_right _ (List.mem_append_right _ (List.mem_append_right _ (List.mem_append_left _ (List.mem_of_getElem? (i := 213) rfl))))), by decide +kernel⟩
set_option maxRecDepth 20000 in
theorem wd1205 : Cond.code yX10_see cX10_see 5 (some .int) ∈ wsL_law := List.mem_filter.mpr ⟨List.mem_append_right _ (List.mem_append_right _ (List.mem_append_right _ (List.mem_append_right _ (List.mem_append_right _ (List.mem_append_right _ (List.mem_append_right _ (List.mem_append_right _ (List.mem_append_left _ (List.mem_of_getElem? (i := 139) rfl))))))))), by decide +kernel⟩
set_option maxRecDepth 20000 in
theorem wd1210 : Cond.code yX10_refuses cX10_refuses 2 (some .int) ∈ wsL_law := List.mem_filter.mpr ⟨List.mem_append_right _ (List.mem_append_right _ (List.mem_append_right _ (List.mem_append_right _ (List.mem_append_right _ (List.mem_append_right _ (List.mem_append_right _ (List.mem_append_right _ (List.mem_append_left _ (List.mem_of_getElem? (i := 144) rfl))))))))), by decide +kernel⟩
set_option maxRecDepth 20000 in
theorem wd1214 : Cond.code yX9_fits cX9_fits 2 (some .int) ∈ wsL_law := List.mem_filter.mpr ⟨List.mem_append_right _ (List.mem_append_right _ (List.mem_append_right _ (List.mem_append_right _ (List.mem_append_left _ (List.mem_of_getElem? (i := 217) rfl))))), by decide +kernel⟩
set_option maxRecDepth 20000 in
theorem wd1221 : Cond.code yX8_compare cX8_compare 5 none ∈ wsL_law := List.mem_filter.mpr ⟨List.mem_append_right _ (List.mem_append_right _ (List.mem_append_right _ (List.mem_append_right _ (List.mem_append_left _ (List.mem_of_getElem? (i := 221) rfl))))), by decide +kernel⟩
set_option maxRecDepth 20000 in
theorem wd1229 : Cond.code yX8_isSo cX8_isSo 2 (some .boolean) ∈ wsL_law := List.mem_filter.mpr ⟨List.mem_append_right _ (List.mem_append_right _ (List.mem_append_right _ (List.mem_append_right _ (List.mem_append_left _ (List.mem_of_getElem? (i := 227) rfl))))), by decide +kernel⟩
set_option maxRecDepth 20000 in
theorem wd1233 : Cond.code yX8_choose cX8_choose 4 none ∈ wsL_law := List.mem_filter.mpr ⟨List.mem_append_right _ (List.mem_append_right _ (List.mem_append_right _ (List.mem_append_right _ (List.mem_append_left _ (List.mem_of_getElem? (i := 232) rfl))))), by decide +kernel⟩
set_option maxRecDepth 20000 in
theorem wd1237 : Cond.code yX7_walkers cX7_walkers 1 (some .int) ∈ wsL_law := List.mem_filter.mpr ⟨List.mem_append_right _ (List.mem_append_right _ (List.mem_append_right _ (List.mem_append_right _ (List.mem_append_left _ (List.mem_of_getElem? (i := 236) rfl))))), by decide +kernel⟩
set_option maxRecDepth 20000 in
theorem wd1241 : Cond.code yX8_mostLeft cX8_mostLeft 6 (some .int) ∈ wsL_law := List.mem_filter.mpr ⟨List.mem_append_right _ (List.mem_append_right _ (List.mem_append_right _ (List.mem_append_right _ (List.mem_append_right _ (List.mem_append_left _ (List.mem_of_getElem? (i := 0) rfl)))))), by decide +kernel⟩
set_option maxRecDepth 20000 in
theorem wd1246 : Cond.code yX10_fits cX10_fits 2 (some .int) ∈ wsL_law := List.mem_filter.mpr ⟨List.mem_append_right _ (List.mem_append_right _ (List.mem_append_right _ (List.mem_append_right _ (List.mem_append_right _ (List.mem_append_right _ (List.mem_append_right _ (List.mem_append_right _ (List.mem_append_left _ (List.mem_of_getElem? (i := 148) rfl))))))))), by decide +kernel⟩
set_option maxRecDepth 20000 in
theorem wd1253 : Cond.code yX10_laysFits cX10_laysFits 4 none ∈ wsL_law := List.mem_filter.mpr ⟨List.mem_append_right _ (List.mem_append_right _ (List.mem_append_right _ (List.mem_append_right _ (List.mem_append_right _ (List.mem_append_right _ (List.mem_append_right _ (List.mem_append_right _ (List.mem_append_left _ (List.mem_of_getElem? (i := 152) rfl))))))))), by decide +kernel⟩
set_option maxRecDepth 20000 in
theorem wd1257 : Cond.code yX10_isAsSeen cX10_isAsSeen 2 (some .boolean) ∈ wsL_law := List.mem_filter.mpr ⟨List.mem_append_right _ (List.mem_append_right _ (List.mem_append_right _ (List.mem_append_right _ (List.mem_append_right _ (List.mem_append_right _ (List.mem_append_right _ (List.mem_append_right _ (List.mem_append_left _ (List.mem_of_getElem? (i := 156) rfl))))))))), by decide +kernel⟩
set_option maxRecDepth 20000 in
theorem wd1261 : Cond.code yX9_watched cX9_watched 2 (some .int) ∈ wsL_law := List.mem_filter.mpr ⟨List.mem_append_right _ (List.mem_append_right _ (List.mem_append_right _ (List.mem_append_right _ (List.mem_append_right _ (List.mem_append_left _ (List.mem_of_getElem? (i := 5) rfl)))))), by decide +kernel⟩
set_option maxRecDepth 20000 in
theorem wd1267 : Cond.code yX10_watched cX10_watched 6 (some .int) ∈ wsL_law := List.mem_filter.mpr ⟨List.mem_append_right _ (List.mem_append_right _ (List.mem_append_right _ (List.mem_append_right _ (List.mem_append_right _ (List.mem_append_right _ (List.mem_append_right _ (List.mem_append_right _ (List.mem_append_left _ (List.mem_of_getElem? (i := 160) rfl))))))))), by decide +kernel⟩
set_option maxRecDepth 20000 in
theorem wd1271 : Cond.code yX10_mostAlike cX10_mostAlike 6 (some .int) ∈ wsL_law := List.mem_filter.mpr ⟨List.mem_append_right _ (List.mem_append_right _ (List.mem_append_right _ (List.mem_append_right _ (List.mem_append_right _ (List.mem_append_right _ (List.mem_append_right _ (List.mem_append_right _ (List.mem_append_left _ (List.mem_of_getElem? (i := 164) rfl))))))))), by decide +kernel⟩
set_option maxRecDepth 20000 in
theorem wd1275 : Cond.code yX9_rule cX9_rule 2 (some .boolean) ∈ wsL_law := List.mem_filter.mpr ⟨List.mem_append_right _ (List.mem_append_right _ (List.mem_append_right _ (List.mem_append_right _ (List.mem_append_right _ (List.mem_append_left _ (List.mem_of_getElem? (i := 9) rfl)))))), by decide +kernel⟩
set_option maxRecDepth 20000 in
theorem wd1279 : Cond.code yX9_act cX9_act 1 none ∈ wsL_law := List.mem_filter.mpr ⟨List.mem_append_right _ (List.mem_append_right _ (List.mem_append_right _ (List.mem_append_right _ (List.mem_append_right _ (List.mem_append_left _ (List.mem_of_getElem? (i := 13) rfl)))))), by decide +kernel⟩
set_option maxRecDepth 20000 in
theorem wd1283 : Cond.code yX2_keep cX2_keep 2 none ∈ wsL_law := List.mem_filter.mpr ⟨List.mem_append_right _ (List.mem_append_right _ (List.mem_append_right _ (List.mem_append_right _ (List.mem_append_right _ (List.mem_append_left _ (List.mem_of_getElem? (i := 17) rfl)))))), by decide +kernel⟩
set_option maxRecDepth 20000 in
theorem wd1289 : Cond.code yX10_rule cX10_rule 2 (some .boolean) ∈ wsL_law := List.mem_filter.mpr ⟨List.mem_append_right _ (List.mem_append_right _ (List.mem_append_right _ (List.mem_append_right _ (List.mem_append_right _ (List.mem_append_right _ (List.mem_append_right _ (List.mem_append_right _ (List.mem_append_left _ (List.mem_of_getElem? (i := 172) rfl))))))))), by decide +kernel⟩
set_option maxRecDepth 20000 in
theorem wd1293 : Cond.code yX10_isRefused cX10_isRefused 1 (some .boolean) ∈ wsL_law := List.mem_filter.mpr ⟨List.mem_append_right _ (List.mem_append_right _ (List.mem_append_right _ (List.mem_append_right _ (List.mem_append_right _ (List.mem_append_right _ (List.mem_append_right _ (List.mem_append_right _ (List.mem_append_left _ (List.mem_of_getElem? (i := 176) rfl))))))))), by decide +kernel⟩
set_option maxRecDepth 20000 in
theorem wd1297 : Cond.code yX10_keeps cX10_keeps 2 none ∈ wsL_law := List.mem_filter.mpr ⟨List.mem_append_right _ (List.mem_append_right _ (List.mem_append_right _ (List.mem_append_right _ (List.mem_append_right _ (List.mem_append_right _ (List.mem_append_right _ (List.mem_append_right _ (List.mem_append_left _ (List.mem_of_getElem? (i := 180) rfl))))))))), by decide +kernel⟩
set_option maxRecDepth 20000 in
theorem wd1302 : Cond.code yX9_green cX9_green 2 (some .boolean) ∈ wsL_law := List.mem_filter.mpr ⟨List.mem_append_right _ (List.mem_append_right _ (List.mem_append_right _ (List.mem_append_right _ (List.mem_append_right _ (List.mem_append_left _ (List.mem_of_getElem? (i := 23) rfl)))))), by decide +kernel⟩
set_option maxRecDepth 20000 in
theorem wd1306 : Cond.code yX4_allowsGreen cX4_allowsGreen 2 (some .boolean) ∈ wsL_law := List.mem_filter.mpr ⟨List.mem_append_right _ (List.mem_append_right _ (List.mem_append_right _ (List.mem_append_right _ (List.mem_append_right _ (List.mem_append_left _ (List.mem_of_getElem? (i := 27) rfl)))))), by decide +kernel⟩
set_option maxRecDepth 20000 in
theorem wd1310 : Cond.code yX10_green cX10_green 2 (some .boolean) ∈ wsL_law := List.mem_filter.mpr ⟨List.mem_append_right _ (List.mem_append_right _ (List.mem_append_right _ (List.mem_append_right _ (List.mem_append_right _ (List.mem_append_right _ (List.mem_append_right _ (List.mem_append_right _ (List.mem_append_left _ (List.mem_of_getElem? (i := 184) rfl))))))))), by decide +kernel⟩
set_option maxRecDepth 20000 in
theorem wd1314 : Cond.code yX9_trust cX9_trust 3 (some .boolean) ∈ wsL_law := List.mem_filter.mpr ⟨List.mem_append_right _ (List.mem_append_right _ (List.mem_append_right _ (List.mem_append_right _ (List.mem_append_right _ (List.mem_append_left _ (List.mem_of_getElem? (i := 31) rfl)))))), by decide +kernel⟩
set_option maxRecDepth 20000 in
theorem wd1318 : Cond.code yX10_trust cX10_trust 3 (some .boolean) ∈ wsL_law := List.mem_filter.mpr ⟨List.mem_append_right _ (List.mem_append_right _ (List.mem_append_right _ (List.mem_append_right _ (List.mem_append_right _ (List.mem_append_right _ (List.mem_append_right _ (List.mem_append_right _ (List.mem_append_left _ (List.mem_of_getElem? (i := 188) rfl))))))))), by decide +kernel⟩
set_option maxRecDepth 20000 in
theorem wd1322 : Cond.code yX9_days cX9_days 4 (some .int) ∈ wsL_law := List.mem_filter.mpr ⟨List.mem_append_right _ (List.mem_append_right _ (List.mem_append_right _ (List.mem_append_right _ (List.mem_append_right _ (List.mem_append_left _ (List.mem_of_getElem? (i := 35) rfl)))))), by decide +kernel⟩
set_option maxRecDepth 20000 in
theorem wd1326 : Cond.code yX9_canLive cX9_canLive 2 (some .boolean) ∈ wsL_law := List.mem_filter.mpr ⟨List.mem_append_right _ (List.mem_append_right _ (List.mem_append_right _ (List.mem_append_right _ (List.mem_append_right _ (List.mem_append_left _ (List.mem_of_getElem? (i := 39) rfl)))))), by decide +kernel⟩
set_option maxRecDepth 20000 in
theorem wd1331 : Cond.code yX10_days cX10_days 4 (some .int) ∈ wsL_law := List.mem_filter.mpr ⟨List.mem_append_right _ (List.mem_append_right _ (List.mem_append_right _ (List.mem_append_right _ (List.mem_append_right _ (List.mem_append_right _ (List.mem_append_right _ (List.mem_append_right _ (List.mem_append_left _ (List.mem_of_getElem? (i := 192) rfl))))))))), by decide +kernel⟩
set_option maxRecDepth 20000 in
theorem wd1335 : Cond.code yX9_chance cX9_chance 5 (some .int) ∈ wsL_law := List.mem_filter.mpr ⟨List.mem_append_right _ (List.mem_append_right _ (List.mem_append_right _ (List.mem_append_right _ (List.mem_append_right _ (List.mem_append_left _ (List.mem_of_getElem? (i := 44) rfl)))))), by decide +kernel⟩
set_option maxRecDepth 20000 in
theorem wd1339 : Cond.code yX9_drawAbsent cX9_drawAbsent 3 (some .int) ∈ wsL_law := List.mem_filter.mpr ⟨List.mem_append_right _ (List.mem_append_right _ (List.mem_append_right _ (List.mem_append_right _ (List.mem_append_right _ (List.mem_append_left _ (List.mem_of_getElem? (i := 48) rfl)))))), by decide +kernel⟩
set_option maxRecDepth 20000 in
theorem wd1350 : Cond.code yX10_chance cX10_chance 6 (some .int) ∈ wsL_law := List.mem_filter.mpr ⟨List.mem_append_right _ (List.mem_append_right _ (List.mem_append_right _ (List.mem_append_right _ (List.mem_append_right _ (List.mem_append_right _ (List.mem_append_right _ (List.mem_append_right _ (List.mem_append_left _ (List.mem_of_getElem? (i := 200) rfl))))))))), by decide +kernel⟩
set_option maxRecDepth 20000 in
theorem wd1354 : Cond.code yX10_drawOf cX10_drawOf 2 (some .int) ∈ wsL_law := List.mem_filter.mpr ⟨List.mem_append_right _ (List.mem_append_right _ (List.mem_append_right _ (List.mem_append_right _ (List.mem_append_right _ (List.mem_append_right _ (List.mem_append_right _ (List.mem_append_right _ (List.mem_append_left _ (List.mem_of_getElem? (i := 204) rfl))))))))), by decide +kernel⟩
set_option maxRecDepth 20000 in
theorem wd1362 : Cond.code yX9_undo cX9_undo 1 (some .boolean) ∈ wsL_law := List.mem_filter.mpr ⟨List.mem_append_right _ (List.mem_append_right _ (List.mem_append_right _ (List.mem_append_right _ (List.mem_append_right _ (List.mem_append_left _ (List.mem_of_getElem? (i := 58) rfl)))))), by decide +kernel⟩
set_option maxRecDepth 20000 in
theorem wd1366 : Cond.code yX2_giveBack cX2_giveBack 2 (some .boolean) ∈ wsL_law := List.mem_filter.mpr ⟨List.mem_append_right _ (List.mem_append_right _ (List.mem_append_right _ (List.mem_append_right _ (List.mem_append_right _ (List.mem_append_left _ (List.mem_of_getElem? (i := 62) rfl)))))), by decide +kernel⟩
set_option maxRecDepth 20000 in
theorem wd1370 : Cond.code yX10_undo cX10_undo 2 (some .boolean) ∈ wsL_law := List.mem_filter.mpr ⟨List.mem_append_right _ (List.mem_append_right _ (List.mem_append_right _ (List.mem_append_right _ (List.mem_append_right _ (List.mem_append_right _ (List.mem_append_right _ (List.mem_append_right _ (List.mem_append_left _ (List.mem_of_getElem? (i := 168) rfl))))))))), by decide +kernel⟩
set_option maxRecDepth 20000 in
theorem wd1374 : Cond.code yX9_seed cX9_seed 2 (some .boolean) ∈ wsL_law := List.mem_filter.mpr ⟨List.mem_append_right _ (List.mem_append_right _ (List.mem_append_right _ (List.mem_append_right _ (List.mem_append_right _ (List.mem_append_left _ (List.mem_of_getElem? (i := 66) rfl)))))), by decide +kernel⟩
set_option maxRecDepth 20000 in
theorem wd1378 : Cond.code yX10_seed cX10_seed 2 (some .boolean) ∈ wsL_law := List.mem_filter.mpr ⟨List.mem_append_right _ (List.mem_append_right _ (List.mem_append_right _ (List.mem_append_right _ (List.mem_append_right _ (List.mem_append_right _ (List.mem_append_right _ (List.mem_append_right _ (List.mem_append_left _ (List.mem_of_getElem? (i := 196) rfl))))))))), by decide +kernel⟩
set_option maxRecDepth 20000 in
theorem wd1382 : Cond.code yX9_ask cX9_ask 3 (some .long) ∈ wsL_law := List.mem_filter.mpr ⟨List.mem_append_right _ (List.mem_append_right _ (List.mem_append_right _ (List.mem_append_right _ (List.mem_append_right _ (List.mem_append_left _ (List.mem_of_getElem? (i := 70) rfl)))))), by decide +kernel⟩
set_option maxRecDepth 20000 in
theorem wd1387 : Cond.code yX5_readQuestion cX5_readQuestion 4 (some .int) ∈ wsL_law := List.mem_filter.mpr ⟨List.mem_append_right _ (List.mem_append_right _ (List.mem_append_right _ (List.mem_append_right _ (List.mem_append_right _ (List.mem_append_left _ (List.mem_of_getElem? (i := 75) rfl)))))), by decide +kernel⟩
set_option maxRecDepth 20000 in
theorem wd1391 : Cond.code yX9_answer cX9_answer 14 (some .long) ∈ wsL_law := List.mem_filter.mpr ⟨List.mem_append_right _ (List.mem_append_right _ (List.mem_append_right _ (List.mem_append_right _ (List.mem_append_right _ (List.mem_append_left _ (List.mem_of_getElem? (i := 80) rfl)))))), by decide +kernel⟩
set_option maxRecDepth 20000 in
theorem wd1398 : Cond.code yX7_describeWhole cX7_describeWhole 4 none ∈ wsL_law := List.mem_filter.mpr ⟨List.mem_append_right _ (List.mem_append_right _ (List.mem_append_right _ (List.mem_append_right _ (List.mem_append_right _ (List.mem_append_left _ (List.mem_of_getElem? (i := 85) rfl)))))), by decide +kernel⟩
set_option maxRecDepth 20000 in
theorem wd1403 : Cond.code yX10_ask cX10_ask 3 (some .long) ∈ wsL_law := List.mem_filter.mpr ⟨List.mem_append_right _ (List.mem_append_right _ (List.mem_append_right _ (List.mem_append_right _ (List.mem_append_right _ (List.mem_append_right _ (List.mem_append_right _ (List.mem_append_right _ (List.mem_append_left _ (List.mem_of_getElem? (i := 212) rfl))))))))), by decide +kernel⟩
set_option maxRecDepth 20000 in
theorem wd1411 : Cond.code yX10_qKind cX10_qKind 2 (some .int) ∈ wsL_law := List.mem_filter.mpr ⟨List.mem_append_right _ (List.mem_append_right _ (List.mem_append_right _ (List.mem_append_right _ (List.mem_append_right _ (List.mem_append_right _ (List.mem_append_right _ (List.mem_append_right _ (List.mem_append_left _ (List.mem_of_getElem? (i := 217) rfl))))))))), by decide +kernel⟩
set_option maxRecDepth 20000 in
theorem wd1415 : Cond.code yX10_qTold cX10_qTold 4 (some .long) ∈ wsL_law := List.mem_filter.mpr ⟨List.mem_append_right _ (List.mem_append_right _ (List.mem_append_right _ (List.mem_append_right _ (List.mem_append_right _ (List.mem_append_right _ (List.mem_append_right _ (List.mem_append_right _ (List.mem_append_left _ (List.mem_of_getElem? (i := 222) rfl))))))))), by decide +kernel⟩
set_option maxRecDepth 20000 in
theorem wd1419 : Cond.code yX10_qOf cX10_qOf 5 (some .long) ∈ wsL_law := List.mem_filter.mpr ⟨List.mem_append_right _ (List.mem_append_right _ (List.mem_append_right _ (List.mem_append_right _ (List.mem_append_right _ (List.mem_append_right _ (List.mem_append_right _ (List.mem_append_right _ (List.mem_append_left _ (List.mem_of_getElem? (i := 226) rfl))))))))), by decide +kernel⟩
set_option maxRecDepth 20000 in
theorem wd1423 : Cond.code yX10_qTakes cX10_qTakes 6 none ∈ wsL_law := List.mem_filter.mpr ⟨List.mem_append_right _ (List.mem_append_right _ (List.mem_append_right _ (List.mem_append_right _ (List.mem_append_right _ (List.mem_append_right _ (List.mem_append_right _ (List.mem_append_right _ (List.mem_append_left _ (List.mem_of_getElem? (i := 230) rfl))))))))), by decide +kernel⟩
set_option maxRecDepth 20000 in
theorem wd1427 : Cond.code yX9_image cX9_image 2 (some .int) ∈ wsL_law := List.mem_filter.mpr ⟨List.mem_append_right _ (List.mem_append_right _ (List.mem_append_right _ (List.mem_append_right _ (List.mem_append_right _ (List.mem_append_left _ (List.mem_of_getElem? (i := 90) rfl)))))), by decide +kernel⟩
set_option maxRecDepth 20000 in
theorem wd1430 : Cond.code yX9_check cX9_check 4 (some .int) ∈ wsL_law := List.mem_filter.mpr ⟨List.mem_append_right _ (List.mem_append_right _ (List.mem_append_right _ (List.mem_append_right _ (List.mem_append_right _ (List.mem_append_left _ (List.mem_of_getElem? (i := 93) rfl)))))), by decide +kernel⟩
set_option maxRecDepth 20000 in
theorem wd1434 : Cond.code yX10_image cX10_image 2 (some .int) ∈ wsL_law := List.mem_filter.mpr ⟨List.mem_append_right _ (List.mem_append_right _ (List.mem_append_right _ (List.mem_append_right _ (List.mem_append_right _ (List.mem_append_right _ (List.mem_append_right _ (List.mem_append_right _ (List.mem_append_left _ (List.mem_of_getElem? (i := 234) rfl))))))))), by decide +kernel⟩
set_option maxRecDepth 20000 in
theorem wd1439 : Cond.code yX10_writes cX10_writes 2 none ∈ wsL_law := List.mem_filter.mpr ⟨List.mem_append_right _ (List.mem_append_right _ (List.mem_append_right _ (List.mem_append_right _ (List.mem_append_right _ (List.mem_append_right _ (List.mem_append_right _ (List.mem_append_right _ (List.mem_append_left _ (List.mem_of_getElem? (i := 238) rfl))))))))), by decide +kernel⟩
set_option maxRecDepth 20000 in
theorem wd1442 : Cond.code yX10_checked cX10_checked 4 (some .int) ∈ wsL_law := List.mem_filter.mpr ⟨List.mem_append_right _ (List.mem_append_right _ (List.mem_append_right _ (List.mem_append_right _ (List.mem_append_right _ (List.mem_append_right _ (List.mem_append_right _ (List.mem_append_right _ (List.mem_append_right _ (List.mem_of_getElem? (i := 1) rfl))))))))), by decide +kernel⟩
set_option maxRecDepth 20000 in
theorem wd1446 : Cond.code yX9_octet cX9_octet 2 (some .int) ∈ wsL_law := List.mem_filter.mpr ⟨List.mem_append_right _ (List.mem_append_right _ (List.mem_append_right _ (List.mem_append_right _ (List.mem_append_right _ (List.mem_append_left _ (List.mem_of_getElem? (i := 97) rfl)))))), by decide +kernel⟩
set_option maxRecDepth 20000 in
theorem wd1450 : Cond.code yX10_octet cX10_octet 2 (some .int) ∈ wsL_law := List.mem_filter.mpr ⟨List.mem_append_right _ (List.mem_append_right _ (List.mem_append_right _ (List.mem_append_right _ (List.mem_append_right _ (List.mem_append_right _ (List.mem_append_right _ (List.mem_append_right _ (List.mem_append_right _ (List.mem_of_getElem? (i := 5) rfl))))))))), by decide +kernel⟩
set_option maxRecDepth 20000 in
theorem wd1454 : Cond.code yX9_on cX9_on 2 (some .boolean) ∈ wsL_law := List.mem_filter.mpr ⟨List.mem_append_right _ (List.mem_append_right _ (List.mem_append_right _ (List.mem_append_right _ (List.mem_append_right _ (List.mem_append_left _ (List.mem_of_getElem? (i := 101) rfl)))))), by decide +kernel⟩
set_option maxRecDepth 20000 in
theorem wd1459 : Cond.code yX9_isImage cX9_isImage 3 (some .boolean) ∈ wsL_law := List.mem_filter.mpr ⟨List.mem_append_right _ (List.mem_append_right _ (List.mem_append_right _ (List.mem_append_right _ (List.mem_append_right _ (List.mem_append_left _ (List.mem_of_getElem? (i := 105) rfl)))))), by decide +kernel⟩
set_option maxRecDepth 20000 in
theorem wd1463 : Cond.code yX10_on cX10_on 3 (some .boolean) ∈ wsL_law := List.mem_filter.mpr ⟨List.mem_append_right _ (List.mem_append_right _ (List.mem_append_right _ (List.mem_append_right _ (List.mem_append_right _ (List.mem_append_right _ (List.mem_append_right _ (List.mem_append_right _ (List.mem_append_right _ (List.mem_of_getElem? (i := 9) rfl))))))))), by decide +kernel⟩
set_option maxRecDepth 20000 in
theorem wd1467 : Cond.code yX10_isImage cX10_isImage 3 (some .boolean) ∈ wsL_law := List.mem_filter.mpr ⟨List.mem_append_right _ (List.mem_append_right _ (List.mem_append_right _ (List.mem_append_right _ (List.mem_append_right _ (List.mem_append_right _ (List.mem_append_right _ (List.mem_append_right _ (List.mem_append_right _ (List.mem_of_getElem? (i := 13) rfl))))))))), by decide +kernel⟩
set_option maxRecDepth 20000 in
theorem wd1471 : Cond.code yX9_status cX9_status 2 (some .int) ∈ wsL_law := List.mem_filter.mpr ⟨List.mem_append_right _ (List.mem_append_right _ (List.mem_append_right _ (List.mem_append_right _ (List.mem_append_right _ (List.mem_append_left _ (List.mem_of_getElem? (i := 110) rfl)))))), by decide +kernel⟩
set_option maxRecDepth 20000 in
theorem wd1475 : Cond.code yX10_status cX10_status 2 (some .int) ∈ wsL_law := List.mem_filter.mpr ⟨List.mem_append_right _ (List.mem_append_right _ (List.mem_append_right _ (List.mem_append_right _ (List.mem_append_right _ (List.mem_append_right _ (List.mem_append_right _ (List.mem_append_right _ (List.mem_append_right _ (List.mem_of_getElem? (i := 17) rfl))))))))), by decide +kernel⟩
