theorem cl_X0 : k_cl 0 RX0 TX0 5 tyX0 := ⟨rfl, inlX0, tyX0_ok, nmX0⟩
theorem cl_X1 : k_cl 1 RX1 TX1 3 tyX1 := ⟨rfl, inlX1, tyX1_ok, nmX1⟩
theorem cl_X2 : k_cl 2 RX2 TX2 3 tyX2 := ⟨rfl, inlX2, tyX2_ok, nmX2⟩
theorem cl_X3 : k_cl 3 RX3 TX3 2 tyX3 := ⟨rfl, inlX3, tyX3_ok, nmX3⟩
theorem cl_X4 : k_cl 4 RX4 TX4 18 tyX4 := ⟨rfl, inlX4, tyX4_ok, nmX4⟩
theorem cl_X5 : k_cl 5 RX5 TX5 9 tyX5 := ⟨rfl, inlX5, tyX5_ok, nmX5⟩
theorem cl_X6 : k_cl 6 RX6 TX6 4 tyX6 := ⟨rfl, inlX6, tyX6_ok, nmX6⟩
theorem cl_X7 : k_cl 7 RX7 TX7 17 tyX7 := ⟨rfl, inlX7, tyX7_ok, nmX7⟩
theorem cl_X8 : k_cl 8 RX8 TX8 11 tyX8 := ⟨rfl, inlX8, tyX8_ok, nmX8⟩
theorem cl_X9 : k_cl 9 RX9 TX9 16 tyX9 := ⟨rfl, inlX9, tyX9_ok, nmX9⟩
theorem cl_X10 : k_cl 10 RX10 TX10 122 tyX10 := ⟨rfl, inlX10, tyX10_ok, nmX10⟩
theorem fg_X4_39 : k_fg RX4 39 4 0 := ⟨RX4, TX4, 18, tyX4, cl_X4, by decide, wd305⟩
theorem fg_X4_27 : k_fg RX4 27 4 13 := ⟨RX4, TX4, 18, tyX4, cl_X4, by decide, wd64⟩
theorem fg_X4_52 : k_fg RX4 52 4 10 := ⟨RX4, TX4, 18, tyX4, cl_X4, by decide, wd309⟩
theorem fg_X9_20 : k_fg RX9 20 9 2 := ⟨RX9, TX9, 16, tyX9, cl_X9, by decide, wd18⟩
theorem fg_X9_145 : k_fg RX9 145 4 0 := ⟨RX4, TX4, 18, tyX4, cl_X4, by decide, wd752⟩
theorem fg_X9_148 : k_fg RX9 148 4 6 := ⟨RX4, TX4, 18, tyX4, cl_X4, by decide, wd753⟩
theorem fg_X9_151 : k_fg RX9 151 4 10 := ⟨RX4, TX4, 18, tyX4, cl_X4, by decide, wd754⟩
theorem mV_X9_218 : k_mv RX9 218 RX9 yX9_stands cX9_stands 1 (some .boolean) 0 := ⟨wd995, wd996, wd997, wd2, wd998, by decide +kernel⟩
theorem fg_X9_30 : k_fg RX9 30 9 4 := ⟨RX9, TX9, 16, tyX9, cl_X9, by decide, wd23⟩
theorem fg_X9_154 : k_fg RX9 154 6 0 := ⟨RX6, TX6, 4, tyX6, cl_X6, by decide, wd755⟩
theorem fg_X9_92 : k_fg RX9 92 9 13 := ⟨RX9, TX9, 16, tyX9, cl_X9, by decide, wd53⟩
theorem fg_X9_89 : k_fg RX9 89 9 12 := ⟨RX9, TX9, 16, tyX9, cl_X9, by decide, wd52⟩
theorem fg_X9_95 : k_fg RX9 95 9 14 := ⟨RX9, TX9, 16, tyX9, cl_X9, by decide, wd54⟩
theorem fg_X9_13 : k_fg RX9 13 9 1 := ⟨RX9, TX9, 16, tyX9, cl_X9, by decide, wd14⟩
theorem fp_X9_13 : k_fl RX9 13 9 1 false .int := ⟨RX9, TX9, 16, tyX9, cl_X9, by decide, wd14, rfl, tyX9_ok 1 (by decide), fun h => by cases h⟩
theorem fg_X9_157 : k_fg RX9 157 6 1 := ⟨RX6, TX6, 4, tyX6, cl_X6, by decide, wd756⟩
theorem fg_X9_160 : k_fg RX9 160 6 2 := ⟨RX6, TX6, 4, tyX6, cl_X6, by decide, wd757⟩
theorem fg_X9_85 : k_fg RX9 85 9 11 := ⟨RX9, TX9, 16, tyX9, cl_X9, by decide, wd51⟩
theorem fg_X9_163 : k_fg RX9 163 8 3 := ⟨RX8, TX8, 11, tyX8, cl_X8, by decide, wd758⟩
theorem fg_X9_37 : k_fg RX9 37 9 5 := ⟨RX9, TX9, 16, tyX9, cl_X9, by decide, wd27⟩
theorem fg_X9_166 : k_fg RX9 166 2 2 := ⟨RX2, TX2, 3, tyX2, cl_X2, by decide, wd759⟩
theorem fg_X9_71 : k_fg RX9 71 9 9 := ⟨RX9, TX9, 16, tyX9, cl_X9, by decide, wd43⟩
theorem mV_X9_333 : k_mv RX9 333 RX1 yX1_forget cX1_forget 1 none 0 := ⟨wd535, wd536, wd537, wd42, wd538, by decide +kernel⟩
theorem fp_X1_15 : k_fl RX1 15 1 2 false .boolean := ⟨RX1, TX1, 3, tyX1, cl_X1, by decide, wd127, rfl, tyX1_ok 2 (by decide), fun h => by cases h⟩
theorem fg_X9_78 : k_fg RX9 78 9 10 := ⟨RX9, TX9, 16, tyX9, cl_X9, by decide, wd47⟩
theorem mV_X9_336 : k_mv RX9 336 RX0 yX0_forget cX0_forget 1 none 0 := ⟨wd539, wd540, wd541, wd46, wd542, by decide +kernel⟩
theorem fp_X0_25 : k_fl RX0 25 0 4 false .int := ⟨RX0, TX0, 5, tyX0, cl_X0, by decide, wd137, rfl, tyX0_ok 4 (by decide), fun h => by cases h⟩
theorem mV_X9_337 : k_mv RX9 337 RX8 yX8_forget cX8_forget 1 none 0 := ⟨wd543, wd544, wd545, wd50, wd546, by decide +kernel⟩
theorem fp_X8_22 : k_fl RX8 22 8 4 false .boolean := ⟨RX8, TX8, 11, tyX8, cl_X8, by decide, wd146, rfl, tyX8_ok 4 (by decide), fun h => by cases h⟩
theorem fg_X7_63 : k_fg RX7 63 7 1 := ⟨RX7, TX7, 17, tyX7, cl_X7, by decide, wd121⟩
theorem fg_X7_137 : k_fg RX7 137 4 10 := ⟨RX4, TX4, 18, tyX4, cl_X4, by decide, wd882⟩
theorem fg_X7_50 : k_fg RX7 50 7 14 := ⟨RX7, TX7, 17, tyX7, cl_X7, by decide, wd117⟩
theorem mV_X7_143 : k_mv RX7 143 RX4 yX4_everyone cX4_everyone 1 (some .int) 0 := ⟨wd893, wd894, wd895, wd17, wd896, by decide +kernel⟩
theorem fg_X5_27 : k_fg RX5 27 5 7 := ⟨RX5, TX5, 9, tyX5, cl_X5, by decide, wd97⟩
theorem fg_X5_11 : k_fg RX5 11 5 1 := ⟨RX5, TX5, 9, tyX5, cl_X5, by decide, wd92⟩
theorem fp_X5_15 : k_fl RX5 15 5 2 false .int := ⟨RX5, TX5, 9, tyX5, cl_X5, by decide, wd93, rfl, tyX5_ok 2 (by decide), fun h => by cases h⟩
theorem fp_X5_18 : k_fl RX5 18 5 3 false .int := ⟨RX5, TX5, 9, tyX5, cl_X5, by decide, wd94, rfl, tyX5_ok 3 (by decide), fun h => by cases h⟩
theorem fp_X5_21 : k_fl RX5 21 5 4 false .int := ⟨RX5, TX5, 9, tyX5, cl_X5, by decide, wd95, rfl, tyX5_ok 4 (by decide), fun h => by cases h⟩
theorem fp_X5_27 : k_fl RX5 27 5 7 false .int := ⟨RX5, TX5, 9, tyX5, cl_X5, by decide, wd97, rfl, tyX5_ok 7 (by decide), fun h => by cases h⟩
theorem fp_X5_30 : k_fl RX5 30 5 8 false .int := ⟨RX5, TX5, 9, tyX5, cl_X5, by decide, wd98, rfl, tyX5_ok 8 (by decide), fun h => by cases h⟩
theorem fg_X5_33 : k_fg RX5 33 5 0 := ⟨RX5, TX5, 9, tyX5, cl_X5, by decide, wd99⟩
theorem fg_X5_37 : k_fg RX5 37 5 6 := ⟨RX5, TX5, 9, tyX5, cl_X5, by decide, wd100⟩
theorem fg_X5_165 : k_fg RX5 165 4 16 := ⟨RX4, TX4, 18, tyX4, cl_X4, by decide, wd454⟩
theorem fg_X5_241 : k_fg RX5 241 4 15 := ⟨RX4, TX4, 18, tyX4, cl_X4, by decide, wd466⟩
theorem fp_X5_165 : k_fl RX5 165 4 16 false .int := ⟨RX4, TX4, 18, tyX4, cl_X4, by decide, wd454, rfl, tyX4_ok 16 (by decide), fun h => by cases h⟩
theorem fg_X9_53 : k_fg RX9 53 9 7 := ⟨RX9, TX9, 16, tyX9, cl_X9, by decide, wd35⟩
theorem fg_X9_122 : k_fg RX9 122 5 7 := ⟨RX5, TX5, 9, tyX5, cl_X5, by decide, wd281⟩
theorem fg_X9_142 : k_fg RX9 142 5 8 := ⟨RX5, TX5, 9, tyX5, cl_X5, by decide, wd743⟩
theorem fg_X4_21 : k_fg RX4 21 4 11 := ⟨RX4, TX4, 18, tyX4, cl_X4, by decide, wd62⟩
theorem fg_X7_25 : k_fg RX7 25 7 6 := ⟨RX7, TX7, 17, tyX7, cl_X7, by decide, wd109⟩
theorem fg_X7_15 : k_fg RX7 15 7 3 := ⟨RX7, TX7, 17, tyX7, cl_X7, by decide, wd106⟩
theorem fg_X7_140 : k_fg RX7 140 4 11 := ⟨RX4, TX4, 18, tyX4, cl_X4, by decide, wd883⟩
theorem fg_X8_18 : k_fg RX8 18 8 3 := ⟨RX8, TX8, 11, tyX8, cl_X8, by decide, wd145⟩
theorem fg_X8_44 : k_fg RX8 44 8 0 := ⟨RX8, TX8, 11, tyX8, cl_X8, by decide, wd153⟩
theorem fg_X8_63 : k_fg RX8 63 7 12 := ⟨RX7, TX7, 17, tyX7, cl_X7, by decide, wd1222⟩
theorem fg_X8_9 : k_fg RX8 9 8 1 := ⟨RX8, TX8, 11, tyX8, cl_X8, by decide, wd143⟩
theorem fg_X8_15 : k_fg RX8 15 8 2 := ⟨RX8, TX8, 11, tyX8, cl_X8, by decide, wd144⟩
theorem fg_X7_44 : k_fg RX7 44 7 12 := ⟨RX7, TX7, 17, tyX7, cl_X7, by decide, wd115⟩
theorem fg_X7_153 : k_fg RX7 153 4 12 := ⟨RX4, TX4, 18, tyX4, cl_X4, by decide, wd901⟩
theorem mV_X7_163 : k_mv RX7 163 RX7 yX7_waitedBy cX7_waitedBy 2 (some .int) 1 := ⟨wd1026, wd908, wd909, wd38, wd910, by decide +kernel⟩
