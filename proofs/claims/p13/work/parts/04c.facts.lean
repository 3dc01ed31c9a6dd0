theorem cl_X0 : k_cl 0 RX0 TX0 5 tyX0 := ⟨rfl, inlX0, tyX0_ok, nmX0⟩
theorem cl_X1 : k_cl 1 RX1 TX1 3 tyX1 := ⟨rfl, inlX1, tyX1_ok, nmX1⟩
theorem cl_X2 : k_cl 2 RX2 TX2 3 tyX2 := ⟨rfl, inlX2, tyX2_ok, nmX2⟩
theorem cl_X3 : k_cl 3 RX3 TX3 2 tyX3 := ⟨rfl, inlX3, tyX3_ok, nmX3⟩
theorem cl_X4 : k_cl 4 RX4 TX4 18 tyX4 := ⟨rfl, inlX4, tyX4_ok, nmX4⟩
theorem cl_X5 : k_cl 5 RX5 TX5 9 tyX5 := ⟨rfl, inlX5, tyX5_ok, nmX5⟩
theorem cl_X6 : k_cl 6 RX6 TX6 4 tyX6 := ⟨rfl, inlX6, tyX6_ok, nmX6⟩
theorem cl_X7 : k_cl 7 RX7 TX7 17 tyX7 := ⟨rfl, inlX7, tyX7_ok, nmX7⟩
theorem cl_X8 : k_cl 8 RX8 TX8 11 tyX8 := ⟨rfl, inlX8, tyX8_ok, nmX8⟩
theorem cl_X9 : k_cl 9 RX9 TX9 16 tyX9 := ⟨rfl, inlX9, tyX9_ok, nmX9⟩
theorem cl_X10 : k_cl 10 RX10 TX10 122 tyX10 := ⟨rfl, inlX10, tyX10_ok, nmX10⟩
theorem z_X6 : ∀ j, j < 4 → defaultValue (tyX6 j) = vp_V [.int 0, .int 0, .int 0, .null] j := by decide +kernel
theorem n_X0_9 : k_nw RX0 9 6 4 [.int 0, .int 0, .int 0, .null] := ⟨RX6, TX6, tyX6, cl_X6, wd133, wd21, wd22, z_X6⟩
theorem fp_X0_12 : k_fl RX0 12 0 1 true (.object "PressAndWait$State") := ⟨RX0, TX0, 5, tyX0, cl_X0, by decide, wd134, rfl, tyX0_ok 1 (by decide), fun h => rfl⟩
theorem fp_X0_18 : k_fl RX0 18 0 2 true (.array .int) := ⟨RX0, TX0, 5, tyX0, cl_X0, by decide, wd135, rfl, tyX0_ok 2 (by decide), fun h => rfl⟩
theorem fp_X0_22 : k_fl RX0 22 0 3 true (.array .int) := ⟨RX0, TX0, 5, tyX0, cl_X0, by decide, wd136, rfl, tyX0_ok 3 (by decide), fun h => rfl⟩
theorem fp_X0_25 : k_fl RX0 25 0 4 false .int := ⟨RX0, TX0, 5, tyX0, cl_X0, by decide, wd137, rfl, tyX0_ok 4 (by decide), fun h => by cases h⟩
theorem fp_X0_29 : k_fl RX0 29 0 0 true (.object "PressAndWait$Street") := ⟨RX0, TX0, 5, tyX0, cl_X0, by decide, wd138, rfl, tyX0_ok 0 (by decide), fun h => rfl⟩
theorem fg_X0_25 : k_fg RX0 25 0 4 := ⟨RX0, TX0, 5, tyX0, cl_X0, by decide, wd137⟩
theorem fg_X0_12 : k_fg RX0 12 0 1 := ⟨RX0, TX0, 5, tyX0, cl_X0, by decide, wd134⟩
theorem mV_X0_33 : k_mv RX0 33 RX6 yX6_copy cX6_copy 2 none 1 := ⟨wd1144, wd1145, wd1146, wd22, wd1147, by decide +kernel⟩
theorem fg_X0_29 : k_fg RX0 29 0 0 := ⟨RX0, TX0, 5, tyX0, cl_X0, by decide, wd138⟩
theorem fg_X0_37 : k_fg RX0 37 6 1 := ⟨RX6, TX6, 4, tyX6, cl_X6, by decide, wd1140⟩
theorem fg_X0_40 : k_fg RX0 40 6 2 := ⟨RX6, TX6, 4, tyX6, cl_X6, by decide, wd1141⟩
theorem mV_X0_43 : k_mv RX0 43 RX7 yX7_lay cX7_lay 5 none 4 := ⟨wd1148, wd832, wd833, wd38, wd834, by decide +kernel⟩
theorem fg_X0_18 : k_fg RX0 18 0 2 := ⟨RX0, TX0, 5, tyX0, cl_X0, by decide, wd135⟩
theorem mV_X0_49 : k_mv RX0 49 RX7 yX7_told cX7_told 2 (some .int) 1 := ⟨wd1149, wd1019, wd1020, wd38, wd1021, by decide +kernel⟩
theorem mV_X0_52 : k_mv RX0 52 RX7 yX7_pass cX7_pass 6 none 1 := ⟨wd1150, wd1151, wd1152, wd38, wd1153, by decide +kernel⟩
theorem fg_X0_55 : k_fg RX0 55 6 3 := ⟨RX6, TX6, 4, tyX6, cl_X6, by decide, wd1142⟩
theorem fg_X0_22 : k_fg RX0 22 0 3 := ⟨RX0, TX0, 5, tyX0, cl_X0, by decide, wd136⟩
theorem fp_X1_11 : k_fl RX1 11 1 1 true (.array .int) := ⟨RX1, TX1, 3, tyX1, cl_X1, by decide, wd126, rfl, tyX1_ok 1 (by decide), fun h => rfl⟩
theorem fp_X1_15 : k_fl RX1 15 1 2 false .boolean := ⟨RX1, TX1, 3, tyX1, cl_X1, by decide, wd127, rfl, tyX1_ok 2 (by decide), fun h => by cases h⟩
theorem fp_X1_19 : k_fl RX1 19 1 0 true (.object "PressAndWait$Street") := ⟨RX1, TX1, 3, tyX1, cl_X1, by decide, wd128, rfl, tyX1_ok 0 (by decide), fun h => rfl⟩
theorem fg_X1_15 : k_fg RX1 15 1 2 := ⟨RX1, TX1, 3, tyX1, cl_X1, by decide, wd127⟩
theorem fg_X1_11 : k_fg RX1 11 1 1 := ⟨RX1, TX1, 3, tyX1, cl_X1, by decide, wd126⟩
theorem mS_X1_23 : k_ms RX1 23 yJ7_fill_53178 cJ7_fill_53178 4 none 2 := ⟨wd1073, wd312, wd313, wd314, by decide +kernel⟩
theorem fg_X1_19 : k_fg RX1 19 1 0 := ⟨RX1, TX1, 3, tyX1, cl_X1, by decide, wd128⟩
theorem mV_X1_29 : k_mv RX1 29 RX7 yX7_greensUpTo cX7_greensUpTo 2 (some .int) 1 := ⟨wd1074, wd1075, wd1076, wd38, wd1077, by decide +kernel⟩
theorem mV_X1_35 : k_mv RX1 35 RX7 yX7_lay cX7_lay 5 none 4 := ⟨wd1078, wd832, wd833, wd38, wd834, by decide +kernel⟩
theorem mV_X1_39 : k_mv RX1 39 RX1 yX1_enter cX1_enter 6 none 2 := ⟨wd1079, wd1080, wd1081, wd42, wd1082, by decide +kernel⟩
theorem mV_X1_43 : k_mv RX1 43 RX7 yX7_told cX7_told 2 (some .int) 1 := ⟨wd1083, wd1019, wd1020, wd38, wd1021, by decide +kernel⟩
theorem fg_X1_46 : k_fg RX1 46 6 1 := ⟨RX6, TX6, 4, tyX6, cl_X6, by decide, wd1102⟩
theorem mV_X1_52 : k_mv RX1 52 RX7 yX7_allCross cX7_allCross 1 (some .boolean) 0 := ⟨wd1103, wd1104, wd1105, wd38, wd1106, by decide +kernel⟩
theorem mV_X1_56 : k_mv RX1 56 RX7 yX7_goersByThemselves cX7_goersByThemselves 5 (some .int) 0 := ⟨wd1119, wd1120, wd1121, wd38, wd1122, by decide +kernel⟩
theorem mS_X1_60 : k_ms RX1 60 yJ6_bitCount_0f7a4 cJ6_bitCount_0f7a4 1 (some .int) 1 := ⟨wd1123, wd1028, wd1029, wd1030, by decide +kernel⟩
theorem fp_X2_11 : k_fl RX2 11 2 0 true (.array (.object "PressAndWait$State")) := ⟨RX2, TX2, 3, tyX2, cl_X2, by decide, wd80, rfl, tyX2_ok 0 (by decide), fun h => rfl⟩
theorem fp_X2_17 : k_fl RX2 17 2 1 false .int := ⟨RX2, TX2, 3, tyX2, cl_X2, by decide, wd81, rfl, tyX2_ok 1 (by decide), fun h => by cases h⟩
theorem fp_X2_21 : k_fl RX2 21 2 2 false .int := ⟨RX2, TX2, 3, tyX2, cl_X2, by decide, wd82, rfl, tyX2_ok 2 (by decide), fun h => by cases h⟩
theorem fg_X2_11 : k_fg RX2 11 2 0 := ⟨RX2, TX2, 3, tyX2, cl_X2, by decide, wd80⟩
theorem n_X2_9 : k_nw RX2 9 6 4 [.int 0, .int 0, .int 0, .null] := ⟨RX6, TX6, tyX6, cl_X6, wd79, wd21, wd22, z_X6⟩
theorem fg_X2_17 : k_fg RX2 17 2 1 := ⟨RX2, TX2, 3, tyX2, cl_X2, by decide, wd81⟩
theorem mV_X2_25 : k_mv RX2 25 RX6 yX6_copy cX6_copy 2 none 1 := ⟨wd1285, wd1145, wd1146, wd22, wd1147, by decide +kernel⟩
theorem fg_X2_21 : k_fg RX2 21 2 2 := ⟨RX2, TX2, 3, tyX2, cl_X2, by decide, wd82⟩
theorem fp_X3_9 : k_fl RX3 9 3 0 true (.array .int) := ⟨RX3, TX3, 2, tyX3, cl_X3, by decide, wd86, rfl, tyX3_ok 0 (by decide), fun h => rfl⟩
theorem fp_X3_15 : k_fl RX3 15 3 1 true (.array .int) := ⟨RX3, TX3, 2, tyX3, cl_X3, by decide, wd87, rfl, tyX3_ok 1 (by decide), fun h => rfl⟩
theorem fg_X3_15 : k_fg RX3 15 3 1 := ⟨RX3, TX3, 2, tyX3, cl_X3, by decide, wd87⟩
theorem fg_X3_9 : k_fg RX3 9 3 0 := ⟨RX3, TX3, 2, tyX3, cl_X3, by decide, wd86⟩
theorem mS_X3_18 : k_ms RX3 18 yX3_operate cX3_operate 3 (some .int) 3 := ⟨wd855, wd856, wd30, wd857, by decide +kernel⟩
theorem mS_X3_22 : k_ms RX3 22 yX3_within cX3_within 2 (some .int) 1 := ⟨wd858, wd859, wd30, wd860, by decide +kernel⟩
theorem mS_X3_26 : k_ms RX3 26 yJ9_floorDiv_7cf53 cJ9_floorDiv_7cf53 3 (some .int) 2 := ⟨wd865, wd866, wd867, wd868, by decide +kernel⟩
theorem fp_X4_9 : k_fl RX4 9 4 7 true (.array .int) := ⟨RX4, TX4, 18, tyX4, cl_X4, by decide, wd59, rfl, tyX4_ok 7 (by decide), fun h => rfl⟩
theorem fp_X4_15 : k_fl RX4 15 4 8 true (.array .int) := ⟨RX4, TX4, 18, tyX4, cl_X4, by decide, wd60, rfl, tyX4_ok 8 (by decide), fun h => rfl⟩
theorem fp_X4_18 : k_fl RX4 18 4 9 true (.array .int) := ⟨RX4, TX4, 18, tyX4, cl_X4, by decide, wd61, rfl, tyX4_ok 9 (by decide), fun h => rfl⟩
theorem fp_X4_21 : k_fl RX4 21 4 11 true (.array .int) := ⟨RX4, TX4, 18, tyX4, cl_X4, by decide, wd62, rfl, tyX4_ok 11 (by decide), fun h => rfl⟩
theorem fp_X4_24 : k_fl RX4 24 4 12 true (.array .int) := ⟨RX4, TX4, 18, tyX4, cl_X4, by decide, wd63, rfl, tyX4_ok 12 (by decide), fun h => rfl⟩
theorem fp_X4_27 : k_fl RX4 27 4 13 true (.array .int) := ⟨RX4, TX4, 18, tyX4, cl_X4, by decide, wd64, rfl, tyX4_ok 13 (by decide), fun h => rfl⟩
theorem fp_X4_30 : k_fl RX4 30 4 14 true (.array .int) := ⟨RX4, TX4, 18, tyX4, cl_X4, by decide, wd65, rfl, tyX4_ok 14 (by decide), fun h => rfl⟩
theorem fp_X4_33 : k_fl RX4 33 4 15 true (.array .int) := ⟨RX4, TX4, 18, tyX4, cl_X4, by decide, wd66, rfl, tyX4_ok 15 (by decide), fun h => rfl⟩
theorem fp_X4_36 : k_fl RX4 36 4 17 true (.array .int) := ⟨RX4, TX4, 18, tyX4, cl_X4, by decide, wd67, rfl, tyX4_ok 17 (by decide), fun h => rfl⟩
theorem fp_X4_39 : k_fl RX4 39 4 0 false .int := ⟨RX4, TX4, 18, tyX4, cl_X4, by decide, wd305, rfl, tyX4_ok 0 (by decide), fun h => by cases h⟩
theorem fp_X4_43 : k_fl RX4 43 4 4 false .int := ⟨RX4, TX4, 18, tyX4, cl_X4, by decide, wd306, rfl, tyX4_ok 4 (by decide), fun h => by cases h⟩
theorem fp_X4_46 : k_fl RX4 46 4 5 false .int := ⟨RX4, TX4, 18, tyX4, cl_X4, by decide, wd307, rfl, tyX4_ok 5 (by decide), fun h => by cases h⟩
theorem fp_X4_49 : k_fl RX4 49 4 6 false .int := ⟨RX4, TX4, 18, tyX4, cl_X4, by decide, wd308, rfl, tyX4_ok 6 (by decide), fun h => by cases h⟩
theorem fp_X4_52 : k_fl RX4 52 4 10 false .int := ⟨RX4, TX4, 18, tyX4, cl_X4, by decide, wd309, rfl, tyX4_ok 10 (by decide), fun h => by cases h⟩
theorem fp_X4_55 : k_fl RX4 55 4 16 false .int := ⟨RX4, TX4, 18, tyX4, cl_X4, by decide, wd310, rfl, tyX4_ok 16 (by decide), fun h => by cases h⟩
theorem fg_X4_27 : k_fg RX4 27 4 13 := ⟨RX4, TX4, 18, tyX4, cl_X4, by decide, wd64⟩
theorem mS_X4_58 : k_ms RX4 58 yJ7_fill_53178 cJ7_fill_53178 4 none 2 := ⟨wd311, wd312, wd313, wd314, by decide +kernel⟩
theorem fg_X4_36 : k_fg RX4 36 4 17 := ⟨RX4, TX4, 18, tyX4, cl_X4, by decide, wd67⟩
theorem fg_X4_52 : k_fg RX4 52 4 10 := ⟨RX4, TX4, 18, tyX4, cl_X4, by decide, wd309⟩
theorem fg_X4_21 : k_fg RX4 21 4 11 := ⟨RX4, TX4, 18, tyX4, cl_X4, by decide, wd62⟩
theorem fg_X4_39 : k_fg RX4 39 4 0 := ⟨RX4, TX4, 18, tyX4, cl_X4, by decide, wd305⟩
theorem fg_X4_33 : k_fg RX4 33 4 15 := ⟨RX4, TX4, 18, tyX4, cl_X4, by decide, wd66⟩
theorem fp_X5_11 : k_fl RX5 11 5 1 false .int := ⟨RX5, TX5, 9, tyX5, cl_X5, by decide, wd92, rfl, tyX5_ok 1 (by decide), fun h => by cases h⟩
theorem fp_X5_15 : k_fl RX5 15 5 2 false .int := ⟨RX5, TX5, 9, tyX5, cl_X5, by decide, wd93, rfl, tyX5_ok 2 (by decide), fun h => by cases h⟩
theorem fp_X5_18 : k_fl RX5 18 5 3 false .int := ⟨RX5, TX5, 9, tyX5, cl_X5, by decide, wd94, rfl, tyX5_ok 3 (by decide), fun h => by cases h⟩
theorem fp_X5_21 : k_fl RX5 21 5 4 false .int := ⟨RX5, TX5, 9, tyX5, cl_X5, by decide, wd95, rfl, tyX5_ok 4 (by decide), fun h => by cases h⟩
theorem fp_X5_24 : k_fl RX5 24 5 5 false .int := ⟨RX5, TX5, 9, tyX5, cl_X5, by decide, wd96, rfl, tyX5_ok 5 (by decide), fun h => by cases h⟩
theorem fp_X5_27 : k_fl RX5 27 5 7 false .int := ⟨RX5, TX5, 9, tyX5, cl_X5, by decide, wd97, rfl, tyX5_ok 7 (by decide), fun h => by cases h⟩
theorem fp_X5_30 : k_fl RX5 30 5 8 false .int := ⟨RX5, TX5, 9, tyX5, cl_X5, by decide, wd98, rfl, tyX5_ok 8 (by decide), fun h => by cases h⟩
theorem fp_X5_33 : k_fl RX5 33 5 0 true (.array .int) := ⟨RX5, TX5, 9, tyX5, cl_X5, by decide, wd99, rfl, tyX5_ok 0 (by decide), fun h => rfl⟩
theorem fp_X5_37 : k_fl RX5 37 5 6 false (.object "PressAndWait$Plan") := ⟨RX5, TX5, 9, tyX5, cl_X5, by decide, wd100, rfl, tyX5_ok 6 (by decide), fun h => by cases h⟩
theorem mV_X5_41 : k_mv RX5 41 RX5 yX5_begin cX5_begin 3 none 2 := ⟨wd293, wd294, wd295, wd34, wd296, by decide +kernel⟩
theorem mV_X5_45 : k_mv RX5 45 RX5 yX5_firstStatement cX5_firstStatement 1 none 0 := ⟨wd323, wd324, wd325, wd34, wd326, by decide +kernel⟩
theorem mV_X5_48 : k_mv RX5 48 RX5 yX5_need cX5_need 2 none 1 := ⟨wd400, wd401, wd402, wd34, wd403, by decide +kernel⟩
theorem fg_X5_21 : k_fg RX5 21 5 4 := ⟨RX5, TX5, 9, tyX5, cl_X5, by decide, wd95⟩
theorem mV_X5_54 : k_mv RX5 54 RX5 yX5_wordIn cX5_wordIn 6 (some .int) 1 := ⟨wd339, wd340, wd341, wd34, wd342, by decide +kernel⟩
theorem mV_X5_58 : k_mv RX5 58 RX5 yX5_kindStatement cX5_kindStatement 2 none 0 := ⟨wd408, wd409, wd410, wd34, wd411, by decide +kernel⟩
theorem mV_X5_61 : k_mv RX5 61 RX5 yX5_comesStatement cX5_comesStatement 3 none 0 := ⟨wd438, wd439, wd440, wd34, wd441, by decide +kernel⟩
theorem mV_X5_64 : k_mv RX5 64 RX5 yX5_codeStatement cX5_codeStatement 3 none 2 := ⟨wd449, wd450, wd451, wd34, wd452, by decide +kernel⟩
theorem mV_X5_70 : k_mv RX5 70 RX5 yX5_numberBehind cX5_numberBehind 4 (some .int) 3 := ⟨wd331, wd332, wd333, wd34, wd334, by decide +kernel⟩
theorem fp_X5_74 : k_fl RX5 74 4 4 false .int := ⟨RX4, TX4, 18, tyX4, cl_X4, by decide, wd291, rfl, tyX4_ok 4 (by decide), fun h => by cases h⟩
theorem fg_X5_15 : k_fg RX5 15 5 2 := ⟨RX5, TX5, 9, tyX5, cl_X5, by decide, wd93⟩
theorem mV_X5_78 : k_mv RX5 78 RX5 yX5_fail cX5_fail 3 none 2 := ⟨wd392, wd393, wd394, wd34, wd395, by decide +kernel⟩
theorem fp_X5_81 : k_fl RX5 81 4 5 false .int := ⟨RX4, TX4, 18, tyX4, cl_X4, by decide, wd292, rfl, tyX4_ok 5 (by decide), fun h => by cases h⟩
theorem fg_X5_18 : k_fg RX5 18 5 3 := ⟨RX5, TX5, 9, tyX5, cl_X5, by decide, wd94⟩
theorem mV_X5_86 : k_mv RX5 86 RX5 yX5_moveTo cX5_moveTo 3 none 1 := ⟨wd315, wd316, wd317, wd34, wd318, by decide +kernel⟩
theorem mV_X5_90 : k_mv RX5 90 RX5 yX5_test cX5_test 3 none 1 := ⟨wd488, wd489, wd490, wd34, wd491, by decide +kernel⟩
theorem mV_X5_93 : k_mv RX5 93 RX5 yX5_sum cX5_sum 4 none 1 := ⟨wd455, wd456, wd457, wd34, wd458, by decide +kernel⟩
theorem mV_X5_96 : k_mv RX5 96 RX4 yX4_clear cX4_clear 1 none 0 := ⟨wd301, wd302, wd303, wd17, wd304, by decide +kernel⟩
theorem fg_X5_33 : k_fg RX5 33 5 0 := ⟨RX5, TX5, 9, tyX5, cl_X5, by decide, wd99⟩
theorem fg_X5_27 : k_fg RX5 27 5 7 := ⟨RX5, TX5, 9, tyX5, cl_X5, by decide, wd97⟩
theorem fg_X5_11 : k_fg RX5 11 5 1 := ⟨RX5, TX5, 9, tyX5, cl_X5, by decide, wd92⟩
theorem fg_X5_37 : k_fg RX5 37 5 6 := ⟨RX5, TX5, 9, tyX5, cl_X5, by decide, wd100⟩
theorem fp_X5_107 : k_fl RX5 107 4 0 false .int := ⟨RX4, TX4, 18, tyX4, cl_X4, by decide, wd327, rfl, tyX4_ok 0 (by decide), fun h => by cases h⟩
theorem fg_X5_107 : k_fg RX5 107 4 0 := ⟨RX4, TX4, 18, tyX4, cl_X4, by decide, wd327⟩
theorem fp_X5_111 : k_fl RX5 111 4 1 false .int := ⟨RX4, TX4, 18, tyX4, cl_X4, by decide, wd328, rfl, tyX4_ok 1 (by decide), fun h => by cases h⟩
theorem fp_X5_115 : k_fl RX5 115 4 2 false .int := ⟨RX4, TX4, 18, tyX4, cl_X4, by decide, wd329, rfl, tyX4_ok 2 (by decide), fun h => by cases h⟩
theorem fp_X5_119 : k_fl RX5 119 4 3 false .int := ⟨RX4, TX4, 18, tyX4, cl_X4, by decide, wd330, rfl, tyX4_ok 3 (by decide), fun h => by cases h⟩
theorem fg_X5_121 : k_fg RX5 121 4 6 := ⟨RX4, TX4, 18, tyX4, cl_X4, by decide, wd412⟩
theorem mV_X5_124 : k_mv RX5 124 RX5 yX5_newName cX5_newName 3 none 1 := ⟨wd416, wd417, wd418, wd34, wd419, by decide +kernel⟩
theorem fg_X5_127 : k_fg RX5 127 4 7 := ⟨RX4, TX4, 18, tyX4, cl_X4, by decide, wd413⟩
theorem fg_X5_131 : k_fg RX5 131 4 8 := ⟨RX4, TX4, 18, tyX4, cl_X4, by decide, wd414⟩
theorem fg_X5_135 : k_fg RX5 135 4 9 := ⟨RX4, TX4, 18, tyX4, cl_X4, by decide, wd415⟩
theorem fp_X5_121 : k_fl RX5 121 4 6 false .int := ⟨RX4, TX4, 18, tyX4, cl_X4, by decide, wd412, rfl, tyX4_ok 6 (by decide), fun h => by cases h⟩
theorem fg_X5_139 : k_fg RX5 139 4 10 := ⟨RX4, TX4, 18, tyX4, cl_X4, by decide, wd420⟩
theorem mV_X5_144 : k_mv RX5 144 RX5 yX5_needWord cX5_needWord 2 none 1 := ⟨wd335, wd336, wd337, wd34, wd338, by decide +kernel⟩
theorem fg_X5_148 : k_fg RX5 148 4 11 := ⟨RX4, TX4, 18, tyX4, cl_X4, by decide, wd442⟩
theorem mV_X5_151 : k_mv RX5 151 RX5 yX5_knownKind cX5_knownKind 2 (some .int) 0 := ⟨wd445, wd446, wd447, wd34, wd448, by decide +kernel⟩
theorem fg_X5_156 : k_fg RX5 156 4 12 := ⟨RX4, TX4, 18, tyX4, cl_X4, by decide, wd443⟩
theorem fg_X5_159 : k_fg RX5 159 4 13 := ⟨RX4, TX4, 18, tyX4, cl_X4, by decide, wd444⟩
theorem fp_X5_139 : k_fl RX5 139 4 10 false .int := ⟨RX4, TX4, 18, tyX4, cl_X4, by decide, wd420, rfl, tyX4_ok 10 (by decide), fun h => by cases h⟩
theorem fg_X5_162 : k_fg RX5 162 4 17 := ⟨RX4, TX4, 18, tyX4, cl_X4, by decide, wd453⟩
theorem fg_X5_165 : k_fg RX5 165 4 16 := ⟨RX4, TX4, 18, tyX4, cl_X4, by decide, wd454⟩
theorem mV_X5_168 : k_mv RX5 168 RX5 yX5_number cX5_number 5 (some .int) 2 := ⟨wd396, wd397, wd398, wd34, wd399, by decide +kernel⟩
theorem mV_X5_171 : k_mv RX5 171 RX5 yX5_isName cX5_isName 1 (some .boolean) 0 := ⟨wd422, wd423, wd424, wd34, wd425, by decide +kernel⟩
theorem mV_X5_175 : k_mv RX5 175 RX5 yX5_wrongInName cX5_wrongInName 1 (some .int) 0 := ⟨wd426, wd427, wd428, wd34, wd429, by decide +kernel⟩
theorem mV_X5_178 : k_mv RX5 178 RX5 yX5_slotOf cX5_slotOf 5 (some .int) 2 := ⟨wd430, wd431, wd432, wd34, wd433, by decide +kernel⟩
theorem fg_X5_181 : k_fg RX5 181 4 14 := ⟨RX4, TX4, 18, tyX4, cl_X4, by decide, wd421⟩
theorem mV_X5_184 : k_mv RX5 184 RX5 yX5_nameLetter cX5_nameLetter 2 (some .int) 1 := ⟨wd434, wd435, wd436, wd34, wd437, by decide +kernel⟩
theorem mV_X5_190 : k_mv RX5 190 RX5 yX5_both cX5_both 3 none 1 := ⟨wd492, wd493, wd494, wd34, wd495, by decide +kernel⟩
theorem mV_X5_195 : k_mv RX5 195 RX5 yX5_takeWord cX5_takeWord 3 (some .boolean) 1 := ⟨wd473, wd474, wd475, wd34, wd476, by decide +kernel⟩
theorem mV_X5_199 : k_mv RX5 199 RX5 yX5_emit cX5_emit 2 none 1 := ⟨wd462, wd463, wd464, wd34, wd465, by decide +kernel⟩
theorem mV_X5_202 : k_mv RX5 202 RX5 yX5_fact cX5_fact 3 none 1 := ⟨wd496, wd497, wd498, wd34, wd499, by decide +kernel⟩
theorem mV_X5_209 : k_mv RX5 209 RX5 yX5_enters cX5_enters 2 (some .boolean) 1 := ⟨wd468, wd469, wd470, wd34, wd471, by decide +kernel⟩
theorem mV_X5_213 : k_mv RX5 213 RX5 yX5_sees cX5_sees 2 (some .boolean) 1 := ⟨wd404, wd405, wd406, wd34, wd407, by decide +kernel⟩
theorem mV_X5_219 : k_mv RX5 219 RX5 yX5_signHere cX5_signHere 1 (some .int) 0 := ⟨wd500, wd501, wd502, wd34, wd503, by decide +kernel⟩
theorem mV_X5_222 : k_mv RX5 222 RX5 yX5_product cX5_product 4 none 1 := ⟨wd459, wd460, wd461, wd34, wd487, by decide +kernel⟩
theorem mV_X5_225 : k_mv RX5 225 RX5 yX5_part cX5_part 2 none 1 := ⟨wd480, wd481, wd482, wd34, wd472, by decide +kernel⟩
theorem mV_X5_229 : k_mv RX5 229 RX5 yX5_pair cX5_pair 3 none 2 := ⟨wd477, wd478, wd479, wd34, wd467, by decide +kernel⟩
theorem fg_X5_24 : k_fg RX5 24 5 5 := ⟨RX5, TX5, 9, tyX5, cl_X5, by decide, wd96⟩
theorem mV_X5_236 : k_mv RX5 236 RX5 yX5_partWord cX5_partWord 2 none 0 := ⟨wd483, wd484, wd485, wd34, wd486, by decide +kernel⟩
theorem fg_X5_241 : k_fg RX5 241 4 15 := ⟨RX4, TX4, 18, tyX4, cl_X4, by decide, wd466⟩
theorem fp_X5_165 : k_fl RX5 165 4 16 false .int := ⟨RX4, TX4, 18, tyX4, cl_X4, by decide, wd454, rfl, tyX4_ok 16 (by decide), fun h => by cases h⟩
theorem mV_X5_244 : k_mv RX5 244 RJ0 yJ0_length_8abf5 cJ0_length_8abf5 1 (some .int) 0 := ⟨wd343, wd344, wd345, wd346, wd347, by decide +kernel⟩
theorem mV_X5_248 : k_mv RX5 248 RJ0 yJ0_charAt_5068e cJ0_charAt_5068e 2 (some .char) 1 := ⟨wd355, wd356, wd357, wd346, wd358, by decide +kernel⟩
theorem mV_X5_252 : k_mv RX5 252 RX5 yX5_sortOf cX5_sortOf 2 (some .int) 1 := ⟨wd319, wd320, wd321, wd34, wd322, by decide +kernel⟩
theorem fp_X6_9 : k_fl RX6 9 6 0 false .int := ⟨RX6, TX6, 4, tyX6, cl_X6, by decide, wd71, rfl, tyX6_ok 0 (by decide), fun h => by cases h⟩
theorem fp_X6_15 : k_fl RX6 15 6 1 false .int := ⟨RX6, TX6, 4, tyX6, cl_X6, by decide, wd72, rfl, tyX6_ok 1 (by decide), fun h => by cases h⟩
theorem fp_X6_18 : k_fl RX6 18 6 2 false .int := ⟨RX6, TX6, 4, tyX6, cl_X6, by decide, wd73, rfl, tyX6_ok 2 (by decide), fun h => by cases h⟩
theorem fp_X6_21 : k_fl RX6 21 6 3 true (.array .int) := ⟨RX6, TX6, 4, tyX6, cl_X6, by decide, wd74, rfl, tyX6_ok 3 (by decide), fun h => rfl⟩
theorem fg_X6_25 : k_fg RX6 25 4 2 := ⟨RX4, TX4, 18, tyX4, cl_X4, by decide, wd508⟩
theorem fg_X6_28 : k_fg RX6 28 4 1 := ⟨RX4, TX4, 18, tyX4, cl_X4, by decide, wd509⟩
theorem fg_X6_29 : k_fg RX6 29 4 9 := ⟨RX4, TX4, 18, tyX4, cl_X4, by decide, wd510⟩
theorem fg_X6_21 : k_fg RX6 21 6 3 := ⟨RX6, TX6, 4, tyX6, cl_X6, by decide, wd74⟩
theorem fg_X6_9 : k_fg RX6 9 6 0 := ⟨RX6, TX6, 4, tyX6, cl_X6, by decide, wd71⟩
theorem fg_X6_15 : k_fg RX6 15 6 1 := ⟨RX6, TX6, 4, tyX6, cl_X6, by decide, wd72⟩
theorem fg_X6_18 : k_fg RX6 18 6 2 := ⟨RX6, TX6, 4, tyX6, cl_X6, by decide, wd73⟩
theorem fp_X7_9 : k_fl RX7 9 7 2 false .int := ⟨RX7, TX7, 17, tyX7, cl_X7, by decide, wd105, rfl, tyX7_ok 2 (by decide), fun h => by cases h⟩
theorem fp_X7_15 : k_fl RX7 15 7 3 true (.array .int) := ⟨RX7, TX7, 17, tyX7, cl_X7, by decide, wd106, rfl, tyX7_ok 3 (by decide), fun h => rfl⟩
theorem fp_X7_19 : k_fl RX7 19 7 4 false .int := ⟨RX7, TX7, 17, tyX7, cl_X7, by decide, wd107, rfl, tyX7_ok 4 (by decide), fun h => by cases h⟩
theorem fp_X7_22 : k_fl RX7 22 7 5 false .int := ⟨RX7, TX7, 17, tyX7, cl_X7, by decide, wd108, rfl, tyX7_ok 5 (by decide), fun h => by cases h⟩
theorem fp_X7_25 : k_fl RX7 25 7 6 false .int := ⟨RX7, TX7, 17, tyX7, cl_X7, by decide, wd109, rfl, tyX7_ok 6 (by decide), fun h => by cases h⟩
theorem fp_X7_28 : k_fl RX7 28 7 7 false .boolean := ⟨RX7, TX7, 17, tyX7, cl_X7, by decide, wd110, rfl, tyX7_ok 7 (by decide), fun h => by cases h⟩
theorem fp_X7_32 : k_fl RX7 32 7 8 true (.array .int) := ⟨RX7, TX7, 17, tyX7, cl_X7, by decide, wd111, rfl, tyX7_ok 8 (by decide), fun h => rfl⟩
theorem fp_X7_35 : k_fl RX7 35 7 9 true (.array .int) := ⟨RX7, TX7, 17, tyX7, cl_X7, by decide, wd112, rfl, tyX7_ok 9 (by decide), fun h => rfl⟩
theorem fp_X7_38 : k_fl RX7 38 7 10 true (.array .int) := ⟨RX7, TX7, 17, tyX7, cl_X7, by decide, wd113, rfl, tyX7_ok 10 (by decide), fun h => rfl⟩
theorem fp_X7_41 : k_fl RX7 41 7 11 true (.array .int) := ⟨RX7, TX7, 17, tyX7, cl_X7, by decide, wd114, rfl, tyX7_ok 11 (by decide), fun h => rfl⟩
theorem fp_X7_44 : k_fl RX7 44 7 12 true (.array .int) := ⟨RX7, TX7, 17, tyX7, cl_X7, by decide, wd115, rfl, tyX7_ok 12 (by decide), fun h => rfl⟩
theorem fp_X7_47 : k_fl RX7 47 7 13 false .int := ⟨RX7, TX7, 17, tyX7, cl_X7, by decide, wd116, rfl, tyX7_ok 13 (by decide), fun h => by cases h⟩
theorem fp_X7_50 : k_fl RX7 50 7 14 false .int := ⟨RX7, TX7, 17, tyX7, cl_X7, by decide, wd117, rfl, tyX7_ok 14 (by decide), fun h => by cases h⟩
theorem fp_X7_53 : k_fl RX7 53 7 15 false .int := ⟨RX7, TX7, 17, tyX7, cl_X7, by decide, wd118, rfl, tyX7_ok 15 (by decide), fun h => by cases h⟩
theorem fp_X7_56 : k_fl RX7 56 7 16 false .int := ⟨RX7, TX7, 17, tyX7, cl_X7, by decide, wd119, rfl, tyX7_ok 16 (by decide), fun h => by cases h⟩
theorem fp_X7_59 : k_fl RX7 59 7 0 true (.object "PressAndWait$Machine") := ⟨RX7, TX7, 17, tyX7, cl_X7, by decide, wd120, rfl, tyX7_ok 0 (by decide), fun h => rfl⟩
theorem fp_X7_63 : k_fl RX7 63 7 1 false (.object "PressAndWait$Plan") := ⟨RX7, TX7, 17, tyX7, cl_X7, by decide, wd121, rfl, tyX7_ok 1 (by decide), fun h => by cases h⟩
theorem mV_X7_67 : k_mv RX7 67 RX4 yX4_uses cX4_uses 4 (some .boolean) 2 := ⟨wd527, wd528, wd529, wd17, wd530, by decide +kernel⟩
theorem fg_X7_63 : k_fg RX7 63 7 1 := ⟨RX7, TX7, 17, tyX7, cl_X7, by decide, wd121⟩
theorem fg_X7_73 : k_fg RX7 73 4 0 := ⟨RX4, TX4, 18, tyX4, cl_X4, by decide, wd835⟩
theorem mV_X7_76 : k_mv RX7 76 RX7 yX7_prepare cX7_prepare 5 none 1 := ⟨wd836, wd837, wd838, wd38, wd839, by decide +kernel⟩
theorem fg_X7_19 : k_fg RX7 19 7 4 := ⟨RX7, TX7, 17, tyX7, cl_X7, by decide, wd107⟩
theorem fg_X7_22 : k_fg RX7 22 7 5 := ⟨RX7, TX7, 17, tyX7, cl_X7, by decide, wd108⟩
theorem fg_X7_25 : k_fg RX7 25 7 6 := ⟨RX7, TX7, 17, tyX7, cl_X7, by decide, wd109⟩
theorem mV_X7_80 : k_mv RX7 80 RX7 yX7_shine cX7_shine 9 none 0 := ⟨wd870, wd871, wd872, wd38, wd873, by decide +kernel⟩
theorem mV_X7_83 : k_mv RX7 83 RX7 yX7_walk cX7_walk 9 none 0 := ⟨wd888, wd889, wd890, wd38, wd891, by decide +kernel⟩
theorem fg_X7_9 : k_fg RX7 9 7 2 := ⟨RX7, TX7, 17, tyX7, cl_X7, by decide, wd105⟩
theorem fg_X7_86 : k_fg RX7 86 6 0 := ⟨RX6, TX6, 4, tyX6, cl_X6, by decide, wd840⟩
theorem fg_X7_89 : k_fg RX7 89 4 6 := ⟨RX4, TX4, 18, tyX4, cl_X4, by decide, wd841⟩
theorem fg_X7_15 : k_fg RX7 15 7 3 := ⟨RX7, TX7, 17, tyX7, cl_X7, by decide, wd106⟩
theorem fg_X7_92 : k_fg RX7 92 6 3 := ⟨RX6, TX6, 4, tyX6, cl_X6, by decide, wd842⟩
theorem mV_X7_93 : k_mv RX7 93 RX7 yX7_drive cX7_drive 4 none 0 := ⟨wd843, wd844, wd845, wd38, wd846, by decide +kernel⟩
theorem fg_X7_38 : k_fg RX7 38 7 10 := ⟨RX7, TX7, 17, tyX7, cl_X7, by decide, wd113⟩
theorem mS_X7_96 : k_ms RX7 96 yJ7_fill_53178 cJ7_fill_53178 4 none 2 := ⟨wd869, wd312, wd313, wd314, by decide +kernel⟩
theorem fg_X7_59 : k_fg RX7 59 7 0 := ⟨RX7, TX7, 17, tyX7, cl_X7, by decide, wd120⟩
theorem fg_X7_102 : k_fg RX7 102 3 0 := ⟨RX3, TX3, 2, tyX3, cl_X3, by decide, wd847⟩
theorem fg_X7_32 : k_fg RX7 32 7 8 := ⟨RX7, TX7, 17, tyX7, cl_X7, by decide, wd111⟩
theorem fg_X7_107 : k_fg RX7 107 4 15 := ⟨RX4, TX4, 18, tyX4, cl_X4, by decide, wd848⟩
theorem fg_X7_110 : k_fg RX7 110 4 17 := ⟨RX4, TX4, 18, tyX4, cl_X4, by decide, wd849⟩
theorem mV_X7_113 : k_mv RX7 113 RX3 yX3_value cX3_value 7 (some .int) 3 := ⟨wd851, wd852, wd853, wd30, wd854, by decide +kernel⟩
theorem fg_X7_35 : k_fg RX7 35 7 9 := ⟨RX7, TX7, 17, tyX7, cl_X7, by decide, wd112⟩
theorem mV_X7_123 : k_mv RX7 123 RX7 yX7_willing cX7_willing 3 (some .int) 0 := ⟨wd878, wd879, wd880, wd38, wd881, by decide +kernel⟩
theorem fg_X7_41 : k_fg RX7 41 7 11 := ⟨RX7, TX7, 17, tyX7, cl_X7, by decide, wd114⟩
theorem mV_X7_127 : k_mv RX7 127 RX4 yX4_comersIn cX4_comersIn 2 (some .int) 1 := ⟨wd884, wd885, wd886, wd17, wd887, by decide +kernel⟩
theorem fg_X7_47 : k_fg RX7 47 7 13 := ⟨RX7, TX7, 17, tyX7, cl_X7, by decide, wd116⟩
theorem fg_X7_131 : k_fg RX7 131 4 3 := ⟨RX4, TX4, 18, tyX4, cl_X4, by decide, wd874⟩
theorem fg_X7_137 : k_fg RX7 137 4 10 := ⟨RX4, TX4, 18, tyX4, cl_X4, by decide, wd882⟩
theorem fg_X7_140 : k_fg RX7 140 4 11 := ⟨RX4, TX4, 18, tyX4, cl_X4, by decide, wd883⟩
theorem fg_X7_44 : k_fg RX7 44 7 12 := ⟨RX7, TX7, 17, tyX7, cl_X7, by decide, wd115⟩
theorem mV_X7_143 : k_mv RX7 143 RX4 yX4_everyone cX4_everyone 1 (some .int) 0 := ⟨wd893, wd894, wd895, wd17, wd896, by decide +kernel⟩
theorem fg_X7_146 : k_fg RX7 146 4 8 := ⟨RX4, TX4, 18, tyX4, cl_X4, by decide, wd892⟩
theorem fg_X7_50 : k_fg RX7 50 7 14 := ⟨RX7, TX7, 17, tyX7, cl_X7, by decide, wd117⟩
theorem mV_X7_149 : k_mv RX7 149 RX7 yX7_goes cX7_goes 8 (some .boolean) 3 := ⟨wd897, wd898, wd899, wd38, wd900, by decide +kernel⟩
theorem fg_X7_53 : k_fg RX7 53 7 15 := ⟨RX7, TX7, 17, tyX7, cl_X7, by decide, wd118⟩
theorem fg_X7_56 : k_fg RX7 56 7 16 := ⟨RX7, TX7, 17, tyX7, cl_X7, by decide, wd119⟩
theorem fg_X7_28 : k_fg RX7 28 7 7 := ⟨RX7, TX7, 17, tyX7, cl_X7, by decide, wd110⟩
theorem fg_X7_153 : k_fg RX7 153 4 12 := ⟨RX4, TX4, 18, tyX4, cl_X4, by decide, wd901⟩
theorem mV_X7_156 : k_mv RX7 156 RX7 yX7_describe cX7_describe 7 none 4 := ⟨wd902, wd903, wd904, wd38, wd905, by decide +kernel⟩
theorem fg_X7_160 : k_fg RX7 160 4 7 := ⟨RX4, TX4, 18, tyX4, cl_X4, by decide, wd906⟩
theorem mV_X7_163 : k_mv RX7 163 RX7 yX7_waitedBy cX7_waitedBy 2 (some .int) 1 := ⟨wd1026, wd908, wd909, wd38, wd910, by decide +kernel⟩
theorem fp_X7_86 : k_fl RX7 86 6 0 false .int := ⟨RX6, TX6, 4, tyX6, cl_X6, by decide, wd840, rfl, tyX6_ok 0 (by decide), fun h => by cases h⟩
theorem mV_X7_166 : k_mv RX7 166 RX7 yX7_waitedByAll cX7_waitedByAll 3 (some .int) 0 := ⟨wd1022, wd1023, wd1024, wd38, wd1025, by decide +kernel⟩
theorem mS_X7_169 : k_ms RX7 169 yJ6_bitCount_0f7a4 cJ6_bitCount_0f7a4 1 (some .int) 1 := ⟨wd1027, wd1028, wd1029, wd1030, by decide +kernel⟩
theorem mV_X7_174 : k_mv RX7 174 RX7 yX7_greensForNobody cX7_greensForNobody 5 (some .int) 0 := ⟨wd1034, wd1035, wd1036, wd38, wd1037, by decide +kernel⟩
theorem mV_X7_177 : k_mv RX7 177 RX7 yX7_someoneCrosses cX7_someoneCrosses 3 (some .boolean) 1 := ⟨wd1038, wd1039, wd1040, wd38, wd1041, by decide +kernel⟩
theorem fp_X8_9 : k_fl RX8 9 8 1 true (.array .int) := ⟨RX8, TX8, 11, tyX8, cl_X8, by decide, wd143, rfl, tyX8_ok 1 (by decide), fun h => rfl⟩
theorem fp_X8_15 : k_fl RX8 15 8 2 true (.array .int) := ⟨RX8, TX8, 11, tyX8, cl_X8, by decide, wd144, rfl, tyX8_ok 2 (by decide), fun h => rfl⟩
theorem fp_X8_18 : k_fl RX8 18 8 3 false .int := ⟨RX8, TX8, 11, tyX8, cl_X8, by decide, wd145, rfl, tyX8_ok 3 (by decide), fun h => by cases h⟩
theorem fp_X8_22 : k_fl RX8 22 8 4 false .boolean := ⟨RX8, TX8, 11, tyX8, cl_X8, by decide, wd146, rfl, tyX8_ok 4 (by decide), fun h => by cases h⟩
theorem fp_X8_26 : k_fl RX8 26 8 5 true (.array .int) := ⟨RX8, TX8, 11, tyX8, cl_X8, by decide, wd147, rfl, tyX8_ok 5 (by decide), fun h => rfl⟩
theorem fp_X8_29 : k_fl RX8 29 8 6 false .int := ⟨RX8, TX8, 11, tyX8, cl_X8, by decide, wd148, rfl, tyX8_ok 6 (by decide), fun h => by cases h⟩
theorem fp_X8_32 : k_fl RX8 32 8 7 false .int := ⟨RX8, TX8, 11, tyX8, cl_X8, by decide, wd149, rfl, tyX8_ok 7 (by decide), fun h => by cases h⟩
theorem fp_X8_35 : k_fl RX8 35 8 8 false .int := ⟨RX8, TX8, 11, tyX8, cl_X8, by decide, wd150, rfl, tyX8_ok 8 (by decide), fun h => by cases h⟩
theorem fp_X8_38 : k_fl RX8 38 8 9 false .int := ⟨RX8, TX8, 11, tyX8, cl_X8, by decide, wd151, rfl, tyX8_ok 9 (by decide), fun h => by cases h⟩
theorem fp_X8_41 : k_fl RX8 41 8 10 false .int := ⟨RX8, TX8, 11, tyX8, cl_X8, by decide, wd152, rfl, tyX8_ok 10 (by decide), fun h => by cases h⟩
theorem fp_X8_44 : k_fl RX8 44 8 0 true (.object "PressAndWait$Street") := ⟨RX8, TX8, 11, tyX8, cl_X8, by decide, wd153, rfl, tyX8_ok 0 (by decide), fun h => rfl⟩
theorem fg_X8_18 : k_fg RX8 18 8 3 := ⟨RX8, TX8, 11, tyX8, cl_X8, by decide, wd145⟩
theorem fg_X8_9 : k_fg RX8 9 8 1 := ⟨RX8, TX8, 11, tyX8, cl_X8, by decide, wd143⟩
theorem fg_X8_15 : k_fg RX8 15 8 2 := ⟨RX8, TX8, 11, tyX8, cl_X8, by decide, wd144⟩
theorem fg_X8_22 : k_fg RX8 22 8 4 := ⟨RX8, TX8, 11, tyX8, cl_X8, by decide, wd146⟩
theorem fg_X8_44 : k_fg RX8 44 8 0 := ⟨RX8, TX8, 11, tyX8, cl_X8, by decide, wd153⟩
theorem mV_X8_49 : k_mv RX8 49 RX7 yX7_greensUpTo cX7_greensUpTo 2 (some .int) 1 := ⟨wd1224, wd1075, wd1076, wd38, wd1077, by decide +kernel⟩
theorem mV_X8_55 : k_mv RX8 55 RX7 yX7_lay cX7_lay 5 none 4 := ⟨wd1225, wd832, wd833, wd38, wd834, by decide +kernel⟩
theorem mV_X8_59 : k_mv RX8 59 RX8 yX8_isSo cX8_isSo 2 (some .boolean) 0 := ⟨wd1226, wd1227, wd1228, wd50, wd1229, by decide +kernel⟩
theorem fg_X8_63 : k_fg RX8 63 7 12 := ⟨RX7, TX7, 17, tyX7, cl_X7, by decide, wd1222⟩
theorem fg_X8_26 : k_fg RX8 26 8 5 := ⟨RX8, TX8, 11, tyX8, cl_X8, by decide, wd147⟩
theorem fg_X8_29 : k_fg RX8 29 8 6 := ⟨RX8, TX8, 11, tyX8, cl_X8, by decide, wd148⟩
theorem fg_X8_32 : k_fg RX8 32 8 7 := ⟨RX8, TX8, 11, tyX8, cl_X8, by decide, wd149⟩
theorem fg_X8_35 : k_fg RX8 35 8 8 := ⟨RX8, TX8, 11, tyX8, cl_X8, by decide, wd150⟩
theorem mV_X8_72 : k_mv RX8 72 RX8 yX8_choose cX8_choose 4 none 0 := ⟨wd1230, wd1231, wd1232, wd50, wd1233, by decide +kernel⟩
theorem mV_X8_75 : k_mv RX8 75 RX7 yX7_walkers cX7_walkers 1 (some .int) 0 := ⟨wd1234, wd1235, wd1236, wd38, wd1237, by decide +kernel⟩
theorem mV_X8_79 : k_mv RX8 79 RX8 yX8_mostLeft cX8_mostLeft 6 (some .int) 1 := ⟨wd1238, wd1239, wd1240, wd50, wd1241, by decide +kernel⟩
theorem fg_X8_38 : k_fg RX8 38 8 9 := ⟨RX8, TX8, 11, tyX8, cl_X8, by decide, wd151⟩
theorem fg_X8_41 : k_fg RX8 41 8 10 := ⟨RX8, TX8, 11, tyX8, cl_X8, by decide, wd152⟩
theorem fp_X9_9 : k_fl RX9 9 9 0 true (.array .int) := ⟨RX9, TX9, 16, tyX9, cl_X9, by decide, wd13, rfl, tyX9_ok 0 (by decide), fun h => rfl⟩
theorem fp_X9_13 : k_fl RX9 13 9 1 false .int := ⟨RX9, TX9, 16, tyX9, cl_X9, by decide, wd14, rfl, tyX9_ok 1 (by decide), fun h => by cases h⟩
theorem z_X4 : ∀ j, j < 18 → defaultValue (tyX4 j) = vp_V [.int 0, .int 0, .int 0, .int 0, .int 0, .int 0, .int 0, .null, .null, .null, .int 0, .null, .null, .null, .null, .null, .int 0, .null] j := by decide +kernel
theorem n_X9_17 : k_nw RX9 17 4 18 [.int 0, .int 0, .int 0, .int 0, .int 0, .int 0, .int 0, .null, .null, .null, .int 0, .null, .null, .null, .null, .null, .int 0, .null] := ⟨RX4, TX4, tyX4, cl_X4, wd15, wd16, wd17, z_X4⟩
theorem fp_X9_20 : k_fl RX9 20 9 2 false (.object "PressAndWait$Plan") := ⟨RX9, TX9, 16, tyX9, cl_X9, by decide, wd18, rfl, tyX9_ok 2 (by decide), fun h => by cases h⟩
theorem fp_X9_24 : k_fl RX9 24 9 3 false (.object "PressAndWait$Plan") := ⟨RX9, TX9, 16, tyX9, cl_X9, by decide, wd19, rfl, tyX9_ok 3 (by decide), fun h => by cases h⟩
theorem n_X9_27 : k_nw RX9 27 6 4 [.int 0, .int 0, .int 0, .null] := ⟨RX6, TX6, tyX6, cl_X6, wd20, wd21, wd22, z_X6⟩
theorem fp_X9_30 : k_fl RX9 30 9 4 true (.object "PressAndWait$State") := ⟨RX9, TX9, 16, tyX9, cl_X9, by decide, wd23, rfl, tyX9_ok 4 (by decide), fun h => rfl⟩
theorem z_X2 : ∀ j, j < 3 → defaultValue (tyX2 j) = vp_V [.null, .int 0, .int 0] j := by decide +kernel
theorem n_X9_34 : k_nw RX9 34 2 3 [.null, .int 0, .int 0] := ⟨RX2, TX2, tyX2, cl_X2, wd24, wd25, wd26, z_X2⟩
theorem mI_X9_36 : k_mi RX9 36 yX2_init cX2_init 2 0 := ⟨wd75, wd76, wd26, wd77, rfl, by decide +kernel⟩
theorem fp_X9_37 : k_fl RX9 37 9 5 true (.object "PressAndWait$History") := ⟨RX9, TX9, 16, tyX9, cl_X9, by decide, wd27, rfl, tyX9_ok 5 (by decide), fun h => rfl⟩
theorem z_X3 : ∀ j, j < 2 → defaultValue (tyX3 j) = vp_V [.null, .null] j := by decide +kernel
theorem n_X9_41 : k_nw RX9 41 3 2 [.null, .null] := ⟨RX3, TX3, tyX3, cl_X3, wd28, wd29, wd30, z_X3⟩
theorem fp_X9_44 : k_fl RX9 44 9 6 true (.object "PressAndWait$Machine") := ⟨RX9, TX9, 16, tyX9, cl_X9, by decide, wd31, rfl, tyX9_ok 6 (by decide), fun h => rfl⟩
theorem z_X5 : ∀ j, j < 9 → defaultValue (tyX5 j) = vp_V [.null, .int 0, .int 0, .int 0, .int 0, .int 0, .null, .int 0, .int 0] j := by decide +kernel
theorem n_X9_48 : k_nw RX9 48 5 9 [.null, .int 0, .int 0, .int 0, .int 0, .int 0, .null, .int 0, .int 0] := ⟨RX5, TX5, tyX5, cl_X5, wd32, wd33, wd34, z_X5⟩
theorem fg_X9_9 : k_fg RX9 9 9 0 := ⟨RX9, TX9, 16, tyX9, cl_X9, by decide, wd13⟩
theorem fg_X9_24 : k_fg RX9 24 9 3 := ⟨RX9, TX9, 16, tyX9, cl_X9, by decide, wd19⟩
theorem mI_X9_50 : k_mi RX9 50 yX5_init cX5_init 3 2 := ⟨wd88, wd89, wd34, wd90, rfl, by decide +kernel⟩
theorem fp_X9_53 : k_fl RX9 53 9 7 true (.object "PressAndWait$Reader") := ⟨RX9, TX9, 16, tyX9, cl_X9, by decide, wd35, rfl, tyX9_ok 7 (by decide), fun h => rfl⟩
theorem z_X7 : ∀ j, j < 17 → defaultValue (tyX7 j) = vp_V [.null, .null, .int 0, .null, .int 0, .int 0, .int 0, .int 0, .null, .null, .null, .null, .null, .int 0, .int 0, .int 0, .int 0] j := by decide +kernel
theorem n_X9_57 : k_nw RX9 57 7 17 [.null, .null, .int 0, .null, .int 0, .int 0, .int 0, .int 0, .null, .null, .null, .null, .null, .int 0, .int 0, .int 0, .int 0] := ⟨RX7, TX7, tyX7, cl_X7, wd36, wd37, wd38, z_X7⟩
theorem fg_X9_44 : k_fg RX9 44 9 6 := ⟨RX9, TX9, 16, tyX9, cl_X9, by decide, wd31⟩
theorem fg_X9_20 : k_fg RX9 20 9 2 := ⟨RX9, TX9, 16, tyX9, cl_X9, by decide, wd18⟩
theorem mI_X9_59 : k_mi RX9 59 yX7_init cX7_init 3 2 := ⟨wd101, wd102, wd38, wd103, rfl, by decide +kernel⟩
theorem fp_X9_62 : k_fl RX9 62 9 8 true (.object "PressAndWait$Street") := ⟨RX9, TX9, 16, tyX9, cl_X9, by decide, wd39, rfl, tyX9_ok 8 (by decide), fun h => rfl⟩
theorem z_X1 : ∀ j, j < 3 → defaultValue (tyX1 j) = vp_V [.null, .null, .int 0] j := by decide +kernel
theorem n_X9_66 : k_nw RX9 66 1 3 [.null, .null, .int 0] := ⟨RX1, TX1, tyX1, cl_X1, wd40, wd41, wd42, z_X1⟩
theorem fg_X9_62 : k_fg RX9 62 9 8 := ⟨RX9, TX9, 16, tyX9, cl_X9, by decide, wd39⟩
theorem mI_X9_68 : k_mi RX9 68 yX1_init cX1_init 2 1 := ⟨wd122, wd123, wd42, wd124, rfl, by decide +kernel⟩
theorem fp_X9_71 : k_fl RX9 71 9 9 true (.object "PressAndWait$Choice") := ⟨RX9, TX9, 16, tyX9, cl_X9, by decide, wd43, rfl, tyX9_ok 9 (by decide), fun h => rfl⟩
theorem z_X0 : ∀ j, j < 5 → defaultValue (tyX0 j) = vp_V [.null, .null, .null, .null, .int 0] j := by decide +kernel
theorem n_X9_75 : k_nw RX9 75 0 5 [.null, .null, .null, .null, .int 0] := ⟨RX0, TX0, tyX0, cl_X0, wd44, wd45, wd46, z_X0⟩
theorem mI_X9_77 : k_mi RX9 77 yX0_init cX0_init 2 1 := ⟨wd129, wd130, wd46, wd131, rfl, by decide +kernel⟩
theorem fp_X9_78 : k_fl RX9 78 9 10 true (.object "PressAndWait$Ahead") := ⟨RX9, TX9, 16, tyX9, cl_X9, by decide, wd47, rfl, tyX9_ok 10 (by decide), fun h => rfl⟩
theorem z_X8 : ∀ j, j < 11 → defaultValue (tyX8 j) = vp_V [.null, .null, .null, .int 0, .int 0, .null, .int 0, .int 0, .int 0, .int 0, .int 0] j := by decide +kernel
theorem n_X9_82 : k_nw RX9 82 8 11 [.null, .null, .null, .int 0, .int 0, .null, .int 0, .int 0, .int 0, .int 0, .int 0] := ⟨RX8, TX8, tyX8, cl_X8, wd48, wd49, wd50, z_X8⟩
theorem mI_X9_84 : k_mi RX9 84 yX8_init cX8_init 2 1 := ⟨wd139, wd140, wd50, wd141, rfl, by decide +kernel⟩
theorem fp_X9_85 : k_fl RX9 85 9 11 true (.object "PressAndWait$Watch") := ⟨RX9, TX9, 16, tyX9, cl_X9, by decide, wd51, rfl, tyX9_ok 11 (by decide), fun h => rfl⟩
theorem fp_X9_89 : k_fl RX9 89 9 12 true (.array .int) := ⟨RX9, TX9, 16, tyX9, cl_X9, by decide, wd52, rfl, tyX9_ok 12 (by decide), fun h => rfl⟩
theorem fp_X9_92 : k_fl RX9 92 9 13 false .int := ⟨RX9, TX9, 16, tyX9, cl_X9, by decide, wd53, rfl, tyX9_ok 13 (by decide), fun h => by cases h⟩
theorem fp_X9_95 : k_fl RX9 95 9 14 true (.array .int) := ⟨RX9, TX9, 16, tyX9, cl_X9, by decide, wd54, rfl, tyX9_ok 14 (by decide), fun h => rfl⟩
theorem fp_X9_98 : k_fl RX9 98 9 15 false .long := ⟨RX9, TX9, 16, tyX9, cl_X9, by decide, wd55, rfl, tyX9_ok 15 (by decide), fun h => by cases h⟩
theorem fg_X9_13 : k_fg RX9 13 9 1 := ⟨RX9, TX9, 16, tyX9, cl_X9, by decide, wd14⟩
theorem mV_X9_102 : k_mv RX9 102 RX9 yX9_refuse cX9_refuse 2 (some .int) 1 := ⟨wd252, wd253, wd254, wd2, wd255, by decide +kernel⟩
theorem mV_X9_106 : k_mv RX9 106 RX9 yX9_putBytes cX9_putBytes 3 none 1 := ⟨wd256, wd257, wd258, wd2, wd259, by decide +kernel⟩
theorem mV_X9_110 : k_mv RX9 110 RX9 yX9_deny cX9_deny 2 (some .boolean) 1 := ⟨wd269, wd270, wd271, wd2, wd272, by decide +kernel⟩
theorem fg_X9_53 : k_fg RX9 53 9 7 := ⟨RX9, TX9, 16, tyX9, cl_X9, by decide, wd35⟩
theorem mV_X9_114 : k_mv RX9 114 RX9 yX9_takeTape cX9_takeTape 2 (some .int) 0 := ⟨wd283, wd284, wd285, wd2, wd286, by decide +kernel⟩
theorem mV_X9_118 : k_mv RX9 118 RX5 yX5_readCrossing cX5_readCrossing 4 none 2 := ⟨wd287, wd288, wd289, wd34, wd290, by decide +kernel⟩
theorem fg_X9_122 : k_fg RX9 122 5 7 := ⟨RX5, TX5, 9, tyX5, cl_X5, by decide, wd281⟩
theorem fg_X9_30 : k_fg RX9 30 9 4 := ⟨RX9, TX9, 16, tyX9, cl_X9, by decide, wd23⟩
theorem mV_X9_125 : k_mv RX9 125 RX6 yX6_begin cX6_begin 2 none 1 := ⟨wd504, wd505, wd506, wd22, wd507, by decide +kernel⟩
theorem fg_X9_37 : k_fg RX9 37 9 5 := ⟨RX9, TX9, 16, tyX9, cl_X9, by decide, wd27⟩
theorem mV_X9_129 : k_mv RX9 129 RX2 yX2_clear cX2_clear 1 none 0 := ⟨wd515, wd516, wd517, wd26, wd518, by decide +kernel⟩
theorem fg_X9_85 : k_fg RX9 85 9 11 := ⟨RX9, TX9, 16, tyX9, cl_X9, by decide, wd51⟩
theorem mV_X9_132 : k_mv RX9 132 RX8 yX8_clear cX8_clear 1 none 0 := ⟨wd519, wd520, wd521, wd50, wd522, by decide +kernel⟩
theorem mV_X9_133 : k_mv RX9 133 RX7 yX7_take cX7_take 2 none 1 := ⟨wd523, wd524, wd525, wd38, wd526, by decide +kernel⟩
theorem mV_X9_136 : k_mv RX9 136 RX9 yX9_changed cX9_changed 1 none 0 := ⟨wd531, wd532, wd533, wd2, wd534, by decide +kernel⟩
theorem fg_X9_139 : k_fg RX9 139 4 5 := ⟨RX4, TX4, 18, tyX4, cl_X4, by decide, wd282⟩
theorem fg_X9_142 : k_fg RX9 142 5 8 := ⟨RX5, TX5, 9, tyX5, cl_X5, by decide, wd743⟩
theorem fg_X9_145 : k_fg RX9 145 4 0 := ⟨RX4, TX4, 18, tyX4, cl_X4, by decide, wd752⟩
theorem fg_X9_148 : k_fg RX9 148 4 6 := ⟨RX4, TX4, 18, tyX4, cl_X4, by decide, wd753⟩
theorem fg_X9_151 : k_fg RX9 151 4 10 := ⟨RX4, TX4, 18, tyX4, cl_X4, by decide, wd754⟩
theorem fg_X9_154 : k_fg RX9 154 6 0 := ⟨RX6, TX6, 4, tyX6, cl_X6, by decide, wd755⟩
theorem fg_X9_157 : k_fg RX9 157 6 1 := ⟨RX6, TX6, 4, tyX6, cl_X6, by decide, wd756⟩
theorem fg_X9_160 : k_fg RX9 160 6 2 := ⟨RX6, TX6, 4, tyX6, cl_X6, by decide, wd757⟩
theorem fg_X9_163 : k_fg RX9 163 8 3 := ⟨RX8, TX8, 11, tyX8, cl_X8, by decide, wd758⟩
theorem fg_X9_166 : k_fg RX9 166 2 2 := ⟨RX2, TX2, 3, tyX2, cl_X2, by decide, wd759⟩
theorem mV_X9_169 : k_mv RX9 169 RX9 yX9_isKind cX9_isKind 2 (some .boolean) 1 := ⟨wd777, wd778, wd779, wd2, wd780, by decide +kernel⟩
theorem mV_X9_172 : k_mv RX9 172 RX9 yX9_isWalker cX9_isWalker 2 (some .boolean) 1 := ⟨wd781, wd782, wd783, wd2, wd784, by decide +kernel⟩
theorem fg_X9_175 : k_fg RX9 175 4 14 := ⟨RX4, TX4, 18, tyX4, cl_X4, by decide, wd776⟩
theorem fg_X9_178 : k_fg RX9 178 4 7 := ⟨RX4, TX4, 18, tyX4, cl_X4, by decide, wd794⟩
theorem fg_X9_181 : k_fg RX9 181 4 8 := ⟨RX4, TX4, 18, tyX4, cl_X4, by decide, wd795⟩
theorem fg_X9_184 : k_fg RX9 184 6 3 := ⟨RX6, TX6, 4, tyX6, cl_X6, by decide, wd796⟩
theorem mV_X9_187 : k_mv RX9 187 RX4 yX4_walkersOf cX4_walkersOf 4 (some .int) 1 := ⟨wd797, wd798, wd799, wd17, wd800, by decide +kernel⟩
theorem mV_X9_190 : k_mv RX9 190 RX9 yX9_layToday cX9_layToday 1 none 0 := ⟨wd827, wd828, wd829, wd2, wd830, by decide +kernel⟩
theorem fg_X9_193 : k_fg RX9 193 4 11 := ⟨RX4, TX4, 18, tyX4, cl_X4, by decide, wd821⟩
theorem fg_X9_196 : k_fg RX9 196 4 12 := ⟨RX4, TX4, 18, tyX4, cl_X4, by decide, wd822⟩
theorem fg_X9_199 : k_fg RX9 199 7 12 := ⟨RX7, TX7, 17, tyX7, cl_X7, by decide, wd823⟩
theorem mV_X9_202 : k_mv RX9 202 RX7 yX7_waitedBy cX7_waitedBy 2 (some .int) 1 := ⟨wd907, wd908, wd909, wd38, wd910, by decide +kernel⟩
theorem fg_X9_205 : k_fg RX9 205 7 15 := ⟨RX7, TX7, 17, tyX7, cl_X7, by decide, wd824⟩
theorem mS_X9_208 : k_ms RX9 208 yX9_bit cX9_bit 2 (some .int) 2 := ⟨wd911, wd912, wd2, wd913, by decide +kernel⟩
theorem fg_X9_212 : k_fg RX9 212 7 16 := ⟨RX7, TX7, 17, tyX7, cl_X7, by decide, wd825⟩
theorem fg_X9_215 : k_fg RX9 215 7 13 := ⟨RX7, TX7, 17, tyX7, cl_X7, by decide, wd826⟩
theorem mV_X9_218 : k_mv RX9 218 RX9 yX9_stands cX9_stands 1 (some .boolean) 0 := ⟨wd995, wd996, wd997, wd2, wd998, by decide +kernel⟩
theorem fg_X9_222 : k_fg RX9 222 7 11 := ⟨RX7, TX7, 17, tyX7, cl_X7, by decide, wd994⟩
theorem fg_X9_225 : k_fg RX9 225 7 8 := ⟨RX7, TX7, 17, tyX7, cl_X7, by decide, wd1008⟩
theorem mV_X9_228 : k_mv RX9 228 RX7 yX7_told cX7_told 2 (some .int) 1 := ⟨wd1018, wd1019, wd1020, wd38, wd1021, by decide +kernel⟩
theorem fg_X9_71 : k_fg RX9 71 9 9 := ⟨RX9, TX9, 16, tyX9, cl_X9, by decide, wd43⟩
theorem mV_X9_231 : k_mv RX9 231 RX1 yX1_bestOf cX1_bestOf 7 (some .int) 3 := ⟨wd1069, wd1070, wd1071, wd42, wd1072, by decide +kernel⟩
theorem mV_X9_235 : k_mv RX9 235 RX1 yX1_leastGreen cX1_leastGreen 4 (some .int) 1 := ⟨wd1098, wd1099, wd1100, wd42, wd1101, by decide +kernel⟩
theorem mV_X9_239 : k_mv RX9 239 RX1 yX1_holders cX1_holders 2 (some .int) 0 := ⟨wd1115, wd1116, wd1117, wd42, wd1118, by decide +kernel⟩
theorem fg_X9_78 : k_fg RX9 78 9 10 := ⟨RX9, TX9, 16, tyX9, cl_X9, by decide, wd47⟩
theorem mV_X9_242 : k_mv RX9 242 RX0 yX0_goTo cX0_goTo 4 none 2 := ⟨wd1136, wd1137, wd1138, wd46, wd1139, by decide +kernel⟩
theorem fg_X9_246 : k_fg RX9 246 0 2 := ⟨RX0, TX0, 5, tyX0, cl_X0, by decide, wd1135⟩
theorem fg_X9_253 : k_fg RX9 253 0 3 := ⟨RX0, TX0, 5, tyX0, cl_X0, by decide, wd1184⟩
theorem mV_X9_254 : k_mv RX9 254 RX8 yX8_accepts cX8_accepts 6 (some .boolean) 3 := ⟨wd1193, wd1194, wd1195, wd50, wd1196, by decide +kernel⟩
theorem mV_X9_258 : k_mv RX9 258 RX8 yX8_keep cX8_keep 5 (some .int) 2 := ⟨wd1198, wd1199, wd1200, wd50, wd1201, by decide +kernel⟩
theorem mV_X9_262 : k_mv RX9 262 RX8 yX8_compare cX8_compare 5 none 1 := ⟨wd1218, wd1219, wd1220, wd50, wd1221, by decide +kernel⟩
theorem fg_X9_266 : k_fg RX9 266 8 6 := ⟨RX8, TX8, 11, tyX8, cl_X8, by decide, wd1215⟩
theorem fg_X9_269 : k_fg RX9 269 8 7 := ⟨RX8, TX8, 11, tyX8, cl_X8, by decide, wd1216⟩
theorem fg_X9_272 : k_fg RX9 272 8 8 := ⟨RX8, TX8, 11, tyX8, cl_X8, by decide, wd1217⟩
theorem fg_X9_275 : k_fg RX9 275 8 9 := ⟨RX8, TX8, 11, tyX8, cl_X8, by decide, wd1262⟩
theorem fg_X9_278 : k_fg RX9 278 8 10 := ⟨RX8, TX8, 11, tyX8, cl_X8, by decide, wd1263⟩
theorem mV_X9_281 : k_mv RX9 281 RX9 yX9_act cX9_act 1 none 0 := ⟨wd1276, wd1277, wd1278, wd2, wd1279, by decide +kernel⟩
theorem fp_X9_157 : k_fl RX9 157 6 1 false .int := ⟨RX6, TX6, 4, tyX6, cl_X6, by decide, wd756, rfl, tyX6_ok 1 (by decide), fun h => by cases h⟩
theorem mV_X9_284 : k_mv RX9 284 RX4 yX4_allowsGreen cX4_allowsGreen 2 (some .boolean) 1 := ⟨wd1303, wd1304, wd1305, wd17, wd1306, by decide +kernel⟩
theorem fp_X9_160 : k_fl RX9 160 6 2 false .int := ⟨RX6, TX6, 4, tyX6, cl_X6, by decide, wd757, rfl, tyX6_ok 2 (by decide), fun h => by cases h⟩
theorem mV_X9_287 : k_mv RX9 287 RX9 yX9_canLive cX9_canLive 2 (some .boolean) 1 := ⟨wd1323, wd1324, wd1325, wd2, wd1326, by decide +kernel⟩
theorem mV_X9_290 : k_mv RX9 290 RX7 yX7_pass cX7_pass 6 none 1 := ⟨wd1327, wd1151, wd1152, wd38, wd1153, by decide +kernel⟩
theorem mV_X9_293 : k_mv RX9 293 RX9 yX9_drawAbsent cX9_drawAbsent 3 (some .int) 0 := ⟨wd1336, wd1337, wd1338, wd2, wd1339, by decide +kernel⟩
theorem mS_X9_296 : k_ms RX9 296 yJ6_bitCount_0f7a4 cJ6_bitCount_0f7a4 1 (some .int) 1 := ⟨wd1346, wd1028, wd1029, wd1030, by decide +kernel⟩
theorem mV_X9_301 : k_mv RX9 301 RX7 yX7_lay cX7_lay 5 none 4 := ⟨wd831, wd832, wd833, wd38, wd834, by decide +kernel⟩
theorem mV_X9_305 : k_mv RX9 305 RX2 yX2_giveBack cX2_giveBack 2 (some .boolean) 1 := ⟨wd1363, wd1364, wd1365, wd26, wd1366, by decide +kernel⟩
theorem mV_X9_311 : k_mv RX9 311 RX5 yX5_readQuestion cX5_readQuestion 4 (some .int) 2 := ⟨wd1384, wd1385, wd1386, wd34, wd1387, by decide +kernel⟩
theorem mV_X9_315 : k_mv RX9 315 RX9 yX9_answer cX9_answer 14 (some .long) 1 := ⟨wd1388, wd1389, wd1390, wd2, wd1391, by decide +kernel⟩
theorem fg_X9_89 : k_fg RX9 89 9 12 := ⟨RX9, TX9, 16, tyX9, cl_X9, by decide, wd52⟩
theorem mS_X9_319 : k_ms RX9 319 yX9_check cX9_check 4 (some .int) 2 := ⟨wd1428, wd1429, wd2, wd1430, by decide +kernel⟩
theorem fg_X9_92 : k_fg RX9 92 9 13 := ⟨RX9, TX9, 16, tyX9, cl_X9, by decide, wd53⟩
theorem mV_X9_322 : k_mv RX9 322 RX9 yX9_isImage cX9_isImage 3 (some .boolean) 1 := ⟨wd1456, wd1457, wd1458, wd2, wd1459, by decide +kernel⟩
theorem fp_X9_154 : k_fl RX9 154 6 0 false .int := ⟨RX6, TX6, 4, tyX6, cl_X6, by decide, wd755, rfl, tyX6_ok 0 (by decide), fun h => by cases h⟩
theorem fg_X9_95 : k_fg RX9 95 9 14 := ⟨RX9, TX9, 16, tyX9, cl_X9, by decide, wd54⟩
theorem mV_X9_331 : k_mv RX9 331 RX2 yX2_keep cX2_keep 2 none 1 := ⟨wd1280, wd1281, wd1282, wd26, wd1283, by decide +kernel⟩
theorem mV_X9_333 : k_mv RX9 333 RX1 yX1_forget cX1_forget 1 none 0 := ⟨wd535, wd536, wd537, wd42, wd538, by decide +kernel⟩
theorem mV_X9_336 : k_mv RX9 336 RX0 yX0_forget cX0_forget 1 none 0 := ⟨wd539, wd540, wd541, wd46, wd542, by decide +kernel⟩
theorem mV_X9_337 : k_mv RX9 337 RX8 yX8_forget cX8_forget 1 none 0 := ⟨wd543, wd544, wd545, wd50, wd546, by decide +kernel⟩
theorem fg_X9_98 : k_fg RX9 98 9 15 := ⟨RX9, TX9, 16, tyX9, cl_X9, by decide, wd55⟩
theorem fg_X9_348 : k_fg RX9 348 4 4 := ⟨RX4, TX4, 18, tyX4, cl_X4, by decide, wd1345⟩
theorem mV_X9_353 : k_mv RX9 353 RX7 yX7_describeWhole cX7_describeWhole 4 none 1 := ⟨wd1395, wd1396, wd1397, wd38, wd1398, by decide +kernel⟩
theorem fg_X9_356 : k_fg RX9 356 4 15 := ⟨RX4, TX4, 18, tyX4, cl_X4, by decide, wd1393⟩
theorem fg_X9_359 : k_fg RX9 359 4 16 := ⟨RX4, TX4, 18, tyX4, cl_X4, by decide, wd1394⟩
theorem mV_X9_362 : k_mv RX9 362 RX3 yX3_value cX3_value 7 (some .int) 3 := ⟨wd1399, wd852, wd853, wd30, wd854, by decide +kernel⟩
theorem mV_J0_335 : k_mv RJ0 335 RJ0 yJ0_coder_7d493 cJ0_coder_7d493 1 (some .byte) 0 := ⟨wd349, wd350, wd351, wd346, wd352, by decide +kernel⟩
theorem mV_J0_492 : k_mv RJ0 492 RJ0 yJ0_isLatin1_aae02 cJ0_isLatin1_aae02 1 (some .boolean) 0 := ⟨wd359, wd360, wd361, wd346, wd362, by decide +kernel⟩
theorem mS_J0_495 : k_ms RJ0 495 yJ1_charAt_3b067 cJ1_charAt_3b067 2 (some .char) 2 := ⟨wd363, wd364, wd365, wd366, by decide +kernel⟩
theorem mS_J0_498 : k_ms RJ0 498 yJ2_charAt_3b067 cJ2_charAt_3b067 2 (some .char) 2 := ⟨wd375, wd376, wd377, wd378, by decide +kernel⟩
theorem mS_J0_1059 : k_ms RJ0 1059 yJ3_checkIndex_8e157 cJ3_checkIndex_8e157 3 (some .int) 3 := ⟨wd371, wd372, wd373, wd374, by decide +kernel⟩
theorem mS_J1_9 : k_ms RJ1 9 yJ0_checkIndex_df160 cJ0_checkIndex_df160 2 none 2 := ⟨wd367, wd368, wd346, wd369, by decide +kernel⟩
theorem mS_J2_48 : k_ms RJ2 48 yJ2_length_9d52b cJ2_length_9d52b 1 (some .int) 1 := ⟨wd382, wd383, wd377, wd384, by decide +kernel⟩
theorem mS_J2_67 : k_ms RJ2 67 yJ2_checkIndex_2214a cJ2_checkIndex_2214a 2 none 2 := ⟨wd379, wd380, wd377, wd381, by decide +kernel⟩
theorem mS_J2_71 : k_ms RJ2 71 yJ2_getChar_3b067 cJ2_getChar_3b067 2 (some .char) 2 := ⟨wd386, wd387, wd377, wd388, by decide +kernel⟩
theorem mS_J2_414 : k_ms RJ2 414 yJ0_checkIndex_df160 cJ0_checkIndex_df160 2 none 2 := ⟨wd385, wd368, wd346, wd369, by decide +kernel⟩
