theorem mV_L_13 : k_mv RL 13 RX9 yX9_feed cX9_feed 6 (some .int) 5 := ⟨wd248, wd249, wd250, wd2, wd251, by decide +kernel⟩
theorem mV_L_17 : k_mv RL 17 RX10 yX10_feed cX10_feed 8 (some .int) 5 := ⟨wd260, wd261, wd262, wd5, wd263, by decide +kernel⟩
theorem mV_L_18 : k_mv RL 18 RX9 yX9_end cX9_end 2 (some .boolean) 1 := ⟨wd265, wd266, wd267, wd2, wd268, by decide +kernel⟩
theorem mV_L_22 : k_mv RL 22 RX10 yX10_end cX10_end 2 (some .boolean) 1 := ⟨wd273, wd274, wd275, wd5, wd276, by decide +kernel⟩
theorem mV_L_23 : k_mv RL 23 RX9 yX9_crossing cX9_crossing 2 (some .int) 0 := ⟨wd277, wd278, wd279, wd2, wd280, by decide +kernel⟩
theorem mV_L_27 : k_mv RL 27 RX10 yX10_crossing cX10_crossing 2 (some .int) 0 := ⟨wd547, wd548, wd549, wd5, wd550, by decide +kernel⟩
theorem mV_L_28 : k_mv RL 28 RX9 yX9_fault cX9_fault 2 (some .int) 1 := ⟨wd739, wd740, wd741, wd2, wd742, by decide +kernel⟩
theorem mV_L_32 : k_mv RL 32 RX10 yX10_fault cX10_fault 2 (some .int) 1 := ⟨wd744, wd745, wd746, wd5, wd747, by decide +kernel⟩
theorem mV_L_33 : k_mv RL 33 RX9 yX9_has cX9_has 2 (some .int) 1 := ⟨wd748, wd749, wd750, wd2, wd751, by decide +kernel⟩
theorem mV_L_36 : k_mv RL 36 RX10 yX10_has cX10_has 2 (some .int) 1 := ⟨wd760, wd761, wd762, wd5, wd763, by decide +kernel⟩
theorem mV_L_37 : k_mv RL 37 RX9 yX9_letter cX9_letter 6 (some .int) 3 := ⟨wd772, wd773, wd774, wd2, wd775, by decide +kernel⟩
theorem mV_L_41 : k_mv RL 41 RX10 yX10_letter cX10_letter 9 (some .int) 3 := ⟨wd785, wd786, wd787, wd5, wd788, by decide +kernel⟩
theorem mV_L_42 : k_mv RL 42 RX9 yX9_kind cX9_kind 3 (some .int) 2 := ⟨wd790, wd791, wd792, wd2, wd793, by decide +kernel⟩
theorem mV_L_46 : k_mv RL 46 RX10 yX10_kind cX10_kind 5 (some .int) 2 := ⟨wd801, wd802, wd803, wd5, wd804, by decide +kernel⟩
theorem mV_L_47 : k_mv RL 47 RX9 yX9_walker cX9_walker 3 (some .int) 2 := ⟨wd817, wd818, wd819, wd2, wd820, by decide +kernel⟩
theorem mV_L_50 : k_mv RL 50 RX10 yX10_walker cX10_walker 3 (some .int) 2 := ⟨wd914, wd915, wd916, wd5, wd917, by decide +kernel⟩
theorem mV_L_51 : k_mv RL 51 RX9 yX9_light cX9_light 2 (some .int) 1 := ⟨wd990, wd991, wd992, wd2, wd993, by decide +kernel⟩
theorem mV_L_54 : k_mv RL 54 RX10 yX10_light cX10_light 2 (some .int) 1 := ⟨wd999, wd1000, wd1001, wd5, wd1002, by decide +kernel⟩
theorem mV_L_55 : k_mv RL 55 RX9 yX9_car cX9_car 2 (some .int) 1 := ⟨wd1004, wd1005, wd1006, wd2, wd1007, by decide +kernel⟩
theorem mV_L_58 : k_mv RL 58 RX10 yX10_car cX10_car 2 (some .int) 1 := ⟨wd1009, wd1010, wd1011, wd5, wd1012, by decide +kernel⟩
theorem mV_L_59 : k_mv RL 59 RX9 yX9_day cX9_day 2 (some .int) 1 := ⟨wd1014, wd1015, wd1016, wd2, wd1017, by decide +kernel⟩
theorem mV_L_62 : k_mv RL 62 RX10 yX10_day cX10_day 2 (some .int) 1 := ⟨wd1042, wd1043, wd1044, wd5, wd1045, by decide +kernel⟩
theorem mV_L_63 : k_mv RL 63 RX9 yX9_best cX9_best 3 (some .int) 2 := ⟨wd1065, wd1066, wd1067, wd2, wd1068, by decide +kernel⟩
theorem mV_L_66 : k_mv RL 66 RX10 yX10_best cX10_best 9 (some .int) 2 := ⟨wd1084, wd1085, wd1086, wd5, wd1087, by decide +kernel⟩
theorem mV_L_67 : k_mv RL 67 RX9 yX9_least cX9_least 1 (some .int) 0 := ⟨wd1094, wd1095, wd1096, wd2, wd1097, by decide +kernel⟩
theorem mV_L_70 : k_mv RL 70 RX10 yX10_least cX10_least 2 (some .int) 0 := ⟨wd1107, wd1108, wd1109, wd5, wd1110, by decide +kernel⟩
theorem mV_L_71 : k_mv RL 71 RX9 yX9_hold cX9_hold 1 (some .int) 0 := ⟨wd1111, wd1112, wd1113, wd2, wd1114, by decide +kernel⟩
theorem mV_L_74 : k_mv RL 74 RX10 yX10_hold cX10_hold 3 (some .int) 0 := ⟨wd1124, wd1125, wd1126, wd5, wd1127, by decide +kernel⟩
theorem mV_L_75 : k_mv RL 75 RX9 yX9_later cX9_later 3 (some .int) 2 := ⟨wd1131, wd1132, wd1133, wd2, wd1134, by decide +kernel⟩
theorem mV_L_78 : k_mv RL 78 RX10 yX10_later cX10_later 4 (some .int) 2 := ⟨wd1154, wd1155, wd1156, wd5, wd1157, by decide +kernel⟩
theorem mV_L_79 : k_mv RL 79 RX9 yX9_doubts cX9_doubts 4 (some .int) 1 := ⟨wd1179, wd1180, wd1181, wd2, wd1182, by decide +kernel⟩
theorem mV_L_82 : k_mv RL 82 RX10 yX10_doubts cX10_doubts 4 (some .int) 1 := ⟨wd1185, wd1186, wd1187, wd5, wd1188, by decide +kernel⟩
theorem mV_L_83 : k_mv RL 83 RX9 yX9_see cX9_see 2 (some .int) 0 := ⟨wd1189, wd1190, wd1191, wd2, wd1192, by decide +kernel⟩
theorem mV_L_86 : k_mv RL 86 RX10 yX10_see cX10_see 5 (some .int) 0 := ⟨wd1202, wd1203, wd1204, wd5, wd1205, by decide +kernel⟩
theorem mV_L_87 : k_mv RL 87 RX9 yX9_fits cX9_fits 2 (some .int) 1 := ⟨wd1211, wd1212, wd1213, wd2, wd1214, by decide +kernel⟩
theorem mV_L_90 : k_mv RL 90 RX10 yX10_fits cX10_fits 2 (some .int) 1 := ⟨wd1243, wd1244, wd1245, wd5, wd1246, by decide +kernel⟩
theorem mV_L_91 : k_mv RL 91 RX9 yX9_watched cX9_watched 2 (some .int) 1 := ⟨wd1258, wd1259, wd1260, wd2, wd1261, by decide +kernel⟩
theorem mV_L_94 : k_mv RL 94 RX10 yX10_watched cX10_watched 6 (some .int) 1 := ⟨wd1264, wd1265, wd1266, wd5, wd1267, by decide +kernel⟩
theorem mV_L_95 : k_mv RL 95 RX9 yX9_rule cX9_rule 2 (some .boolean) 1 := ⟨wd1272, wd1273, wd1274, wd2, wd1275, by decide +kernel⟩
theorem mV_L_98 : k_mv RL 98 RX10 yX10_rule cX10_rule 2 (some .boolean) 1 := ⟨wd1286, wd1287, wd1288, wd5, wd1289, by decide +kernel⟩
theorem mV_L_99 : k_mv RL 99 RX9 yX9_green cX9_green 2 (some .boolean) 1 := ⟨wd1299, wd1300, wd1301, wd2, wd1302, by decide +kernel⟩
theorem mV_L_102 : k_mv RL 102 RX10 yX10_green cX10_green 2 (some .boolean) 1 := ⟨wd1307, wd1308, wd1309, wd5, wd1310, by decide +kernel⟩
theorem mV_L_103 : k_mv RL 103 RX9 yX9_trust cX9_trust 3 (some .boolean) 2 := ⟨wd1311, wd1312, wd1313, wd2, wd1314, by decide +kernel⟩
theorem mV_L_107 : k_mv RL 107 RX10 yX10_trust cX10_trust 3 (some .boolean) 2 := ⟨wd1315, wd1316, wd1317, wd5, wd1318, by decide +kernel⟩
theorem mV_L_108 : k_mv RL 108 RX9 yX9_days cX9_days 4 (some .int) 1 := ⟨wd1319, wd1320, wd1321, wd2, wd1322, by decide +kernel⟩
theorem mV_L_111 : k_mv RL 111 RX10 yX10_days cX10_days 4 (some .int) 1 := ⟨wd1328, wd1329, wd1330, wd5, wd1331, by decide +kernel⟩
theorem mV_L_112 : k_mv RL 112 RX9 yX9_chance cX9_chance 5 (some .int) 1 := ⟨wd1332, wd1333, wd1334, wd2, wd1335, by decide +kernel⟩
theorem mV_L_115 : k_mv RL 115 RX10 yX10_chance cX10_chance 6 (some .int) 1 := ⟨wd1347, wd1348, wd1349, wd5, wd1350, by decide +kernel⟩
theorem mV_L_116 : k_mv RL 116 RX9 yX9_undo cX9_undo 1 (some .boolean) 0 := ⟨wd1359, wd1360, wd1361, wd2, wd1362, by decide +kernel⟩
theorem mV_L_120 : k_mv RL 120 RX10 yX10_undo cX10_undo 2 (some .boolean) 0 := ⟨wd1367, wd1368, wd1369, wd5, wd1370, by decide +kernel⟩
theorem mV_L_121 : k_mv RL 121 RX9 yX9_seed cX9_seed 2 (some .boolean) 1 := ⟨wd1371, wd1372, wd1373, wd2, wd1374, by decide +kernel⟩
theorem mV_L_124 : k_mv RL 124 RX10 yX10_seed cX10_seed 2 (some .boolean) 1 := ⟨wd1375, wd1376, wd1377, wd5, wd1378, by decide +kernel⟩
theorem mV_L_125 : k_mv RL 125 RX9 yX9_ask cX9_ask 3 (some .long) 0 := ⟨wd1379, wd1380, wd1381, wd2, wd1382, by decide +kernel⟩
theorem mV_L_129 : k_mv RL 129 RX10 yX10_ask cX10_ask 3 (some .long) 0 := ⟨wd1400, wd1401, wd1402, wd5, wd1403, by decide +kernel⟩
theorem mV_L_130 : k_mv RL 130 RX9 yX9_image cX9_image 2 (some .int) 0 := ⟨wd1424, wd1425, wd1426, wd2, wd1427, by decide +kernel⟩
theorem mV_L_133 : k_mv RL 133 RX10 yX10_image cX10_image 2 (some .int) 0 := ⟨wd1431, wd1432, wd1433, wd5, wd1434, by decide +kernel⟩
theorem mV_L_134 : k_mv RL 134 RX9 yX9_octet cX9_octet 2 (some .int) 1 := ⟨wd1443, wd1444, wd1445, wd2, wd1446, by decide +kernel⟩
theorem mV_L_137 : k_mv RL 137 RX10 yX10_octet cX10_octet 2 (some .int) 1 := ⟨wd1447, wd1448, wd1449, wd5, wd1450, by decide +kernel⟩
theorem mV_L_138 : k_mv RL 138 RX9 yX9_on cX9_on 2 (some .boolean) 0 := ⟨wd1451, wd1452, wd1453, wd2, wd1454, by decide +kernel⟩
theorem mV_L_141 : k_mv RL 141 RX10 yX10_on cX10_on 3 (some .boolean) 0 := ⟨wd1460, wd1461, wd1462, wd5, wd1463, by decide +kernel⟩
theorem mV_L_142 : k_mv RL 142 RX9 yX9_status cX9_status 2 (some .int) 1 := ⟨wd1468, wd1469, wd1470, wd2, wd1471, by decide +kernel⟩
theorem mV_L_145 : k_mv RL 145 RX10 yX10_status cX10_status 2 (some .int) 1 := ⟨wd1472, wd1473, wd1474, wd5, wd1475, by decide +kernel⟩
theorem z_X9 : ∀ j, j < 16 → defaultValue (tyX9 j) = vp_V [.null, .int 0, .null, .null, .null, .null, .null, .null, .null, .null, .null, .null, .null, .int 0, .null, .long 0] j := by decide +kernel
theorem n_L_7 : k_nw RL 7 9 16 [.null, .int 0, .null, .null, .null, .null, .null, .null, .null, .null, .null, .null, .null, .int 0, .null, .long 0] := ⟨RX9, TX9, tyX9, cl_X9, wd0, wd1, wd2, z_X9⟩
theorem z_X10 : ∀ j, j < 122 → defaultValue (tyX10 j) = vp_V (.null :: .int 0 :: .int 0 :: .int 0 :: .int 0 :: .int 0 :: .int 0 :: .int 0 :: .int 0 :: .null :: .null :: .null :: .null :: .null :: .null :: .null :: .null :: .null :: .null :: .null :: .null :: .null :: .null :: .null :: .null :: .null :: .null :: .null :: .null :: .null :: .null :: .null :: .null :: .null :: .null :: .null :: .null :: .null :: .null :: .null :: .int 0 :: .null :: .null :: .null :: .null :: .null :: .null :: .int 0 :: .int 0 :: .null :: .null :: .null :: .int 0 :: .int 0 :: .int 0 :: .int 0 :: .null :: .null :: .int 0 :: .int 0 :: .null :: .null :: .null :: .null :: .null :: .null :: .null :: .null :: .null :: .null :: .int 0 :: .int 0 :: .int 0 :: .int 0 :: .int 0 :: .int 0 :: .null :: .null :: .int 0 :: .int 0 :: .int 0 :: .null :: .int 0 :: .int 0 :: .long 0 :: .null :: .null :: .null :: .null :: .null :: .null :: .null :: .null :: .null :: .null :: .null :: .null :: .null :: .null :: .null :: .null :: .null :: .null :: .null :: .null :: .null :: .null :: .null :: .null :: .null :: .null :: .int 0 :: .null :: .int 0 :: .int 0 :: .int 0 :: .null :: .int 0 :: .long 0 :: .int 0 :: .null :: .int 0 :: []) j := by decide +kernel
theorem n_L_10 : k_nw RL 10 10 122 (.null :: .int 0 :: .int 0 :: .int 0 :: .int 0 :: .int 0 :: .int 0 :: .int 0 :: .int 0 :: .null :: .null :: .null :: .null :: .null :: .null :: .null :: .null :: .null :: .null :: .null :: .null :: .null :: .null :: .null :: .null :: .null :: .null :: .null :: .null :: .null :: .null :: .null :: .null :: .null :: .null :: .null :: .null :: .null :: .null :: .null :: .int 0 :: .null :: .null :: .null :: .null :: .null :: .null :: .int 0 :: .int 0 :: .null :: .null :: .null :: .int 0 :: .int 0 :: .int 0 :: .int 0 :: .null :: .null :: .int 0 :: .int 0 :: .null :: .null :: .null :: .null :: .null :: .null :: .null :: .null :: .null :: .null :: .int 0 :: .int 0 :: .int 0 :: .int 0 :: .int 0 :: .int 0 :: .null :: .null :: .int 0 :: .int 0 :: .int 0 :: .null :: .int 0 :: .int 0 :: .long 0 :: .null :: .null :: .null :: .null :: .null :: .null :: .null :: .null :: .null :: .null :: .null :: .null :: .null :: .null :: .null :: .null :: .null :: .null :: .null :: .null :: .null :: .null :: .null :: .null :: .null :: .null :: .int 0 :: .null :: .int 0 :: .int 0 :: .int 0 :: .null :: .int 0 :: .long 0 :: .int 0 :: .null :: .int 0 :: []) := ⟨RX10, TX10, tyX10, cl_X10, wd3, wd4, wd5, z_X10⟩
theorem mI_L_9 : k_mi RL 9 yX9_init cX9_init 1 0 := ⟨wd6, wd7, wd2, wd8, rfl, by decide +kernel⟩
theorem mI_L_12 : k_mi RL 12 yX10_init cX10_init 1 0 := ⟨wd154, wd155, wd5, wd156, rfl, by decide +kernel⟩
theorem dk_dL_law_0 : dz_C code [(0, .new 7, 3), (3, .dup, 1), (4, .invokespecial 9, 3), (7, .astore_n 1, 1), (8, .new 10, 3), (11, .dup, 1), (12, .invokespecial 12, 3), (15, .astore_n 2, 1), (16, .iconst 0, 1), (17, .istore_n 3, 1), (18, .iload_n 3, 1), (19, .aload_n 0, 1), (20, .arraylength, 1), (21, .bipush 6, 2), (23, .isub, 1), (24, .if_icmp .gt 898, 3)] := dz_of (by decide +kernel)
theorem dL_law_0 : decode code 0 = .ok (.new 7, 3) := dk_dL_law_0.1
theorem dL_law_3 : decode code 3 = .ok (.dup, 1) := dk_dL_law_0.2.1
theorem dL_law_4 : decode code 4 = .ok (.invokespecial 9, 3) := dk_dL_law_0.2.2.1
theorem dL_law_7 : decode code 7 = .ok (.astore_n 1, 1) := dk_dL_law_0.2.2.2.1
theorem dL_law_8 : decode code 8 = .ok (.new 10, 3) := dk_dL_law_0.2.2.2.2.1
theorem dL_law_11 : decode code 11 = .ok (.dup, 1) := dk_dL_law_0.2.2.2.2.2.1
theorem dL_law_12 : decode code 12 = .ok (.invokespecial 12, 3) := dk_dL_law_0.2.2.2.2.2.2.1
theorem dL_law_15 : decode code 15 = .ok (.astore_n 2, 1) := dk_dL_law_0.2.2.2.2.2.2.2.1
theorem dk_dL_law_0_8 : dz_C code [(16, .iconst 0, 1), (17, .istore_n 3, 1), (18, .iload_n 3, 1), (19, .aload_n 0, 1), (20, .arraylength, 1), (21, .bipush 6, 2), (23, .isub, 1), (24, .if_icmp .gt 898, 3)] := dk_dL_law_0.2.2.2.2.2.2.2.2
theorem dL_law_16 : decode code 16 = .ok (.iconst 0, 1) := dk_dL_law_0_8.1
theorem dL_law_17 : decode code 17 = .ok (.istore_n 3, 1) := dk_dL_law_0_8.2.1
theorem dL_law_18 : decode code 18 = .ok (.iload_n 3, 1) := dk_dL_law_0_8.2.2.1
theorem dL_law_19 : decode code 19 = .ok (.aload_n 0, 1) := dk_dL_law_0_8.2.2.2.1
theorem dL_law_20 : decode code 20 = .ok (.arraylength, 1) := dk_dL_law_0_8.2.2.2.2.1
theorem dL_law_21 : decode code 21 = .ok (.bipush 6, 2) := dk_dL_law_0_8.2.2.2.2.2.1
theorem dL_law_23 : decode code 23 = .ok (.isub, 1) := dk_dL_law_0_8.2.2.2.2.2.2.1
theorem dL_law_24 : decode code 24 = .ok (.if_icmp .gt 898, 3) := dk_dL_law_0_8.2.2.2.2.2.2.2.1
theorem dk_dL_law_27 : dz_C code [(27, .aload_n 0, 1), (28, .iload_n 3, 1), (29, .iaload, 1), (30, .bipush 31, 2), (32, .iand, 1), (172, .aload_n 1, 1), (173, .aload_n 0, 1), (174, .iload_n 3, 1), (175, .iconst 1, 1), (176, .iadd, 1), (177, .iaload, 1), (178, .aload_n 0, 1), (179, .iload_n 3, 1), (180, .iconst 2, 1), (181, .iadd, 1), (182, .iaload, 1)] := dz_of (by decide +kernel)
theorem dL_law_27 : decode code 27 = .ok (.aload_n 0, 1) := dk_dL_law_27.1
theorem dL_law_28 : decode code 28 = .ok (.iload_n 3, 1) := dk_dL_law_27.2.1
theorem dL_law_29 : decode code 29 = .ok (.iaload, 1) := dk_dL_law_27.2.2.1
theorem dL_law_30 : decode code 30 = .ok (.bipush 31, 2) := dk_dL_law_27.2.2.2.1
theorem dL_law_32 : decode code 32 = .ok (.iand, 1) := dk_dL_law_27.2.2.2.2.1
theorem dL_law_172 : decode code 172 = .ok (.aload_n 1, 1) := dk_dL_law_27.2.2.2.2.2.1
theorem dL_law_173 : decode code 173 = .ok (.aload_n 0, 1) := dk_dL_law_27.2.2.2.2.2.2.1
theorem dL_law_174 : decode code 174 = .ok (.iload_n 3, 1) := dk_dL_law_27.2.2.2.2.2.2.2.1
theorem dk_dL_law_27_8 : dz_C code [(175, .iconst 1, 1), (176, .iadd, 1), (177, .iaload, 1), (178, .aload_n 0, 1), (179, .iload_n 3, 1), (180, .iconst 2, 1), (181, .iadd, 1), (182, .iaload, 1)] := dk_dL_law_27.2.2.2.2.2.2.2.2
theorem dL_law_175 : decode code 175 = .ok (.iconst 1, 1) := dk_dL_law_27_8.1
theorem dL_law_176 : decode code 176 = .ok (.iadd, 1) := dk_dL_law_27_8.2.1
theorem dL_law_177 : decode code 177 = .ok (.iaload, 1) := dk_dL_law_27_8.2.2.1
theorem dL_law_178 : decode code 178 = .ok (.aload_n 0, 1) := dk_dL_law_27_8.2.2.2.1
theorem dL_law_179 : decode code 179 = .ok (.iload_n 3, 1) := dk_dL_law_27_8.2.2.2.2.1
theorem dL_law_180 : decode code 180 = .ok (.iconst 2, 1) := dk_dL_law_27_8.2.2.2.2.2.1
theorem dL_law_181 : decode code 181 = .ok (.iadd, 1) := dk_dL_law_27_8.2.2.2.2.2.2.1
theorem dL_law_182 : decode code 182 = .ok (.iaload, 1) := dk_dL_law_27_8.2.2.2.2.2.2.2.1
theorem dL_law_33 : decode code 33 = .ok (.tableswitch 883 0 30 #[139, 202, 225, 238, 261, 284, 327, 360, 393, 416, 439, 462, 495, 508, 521, 554, 577, 590, 613, 636, 659, 682, 715, 738, 761, 774, 797, 811, 824, 847, 860], 139) := by decide +kernel
theorem dk_dL_law_183 : dz_C code [(183, .aload_n 0, 1), (184, .iload_n 3, 1), (185, .iconst 3, 1), (186, .iadd, 1), (187, .iaload, 1), (188, .aload_n 0, 1), (189, .iload_n 3, 1), (190, .iconst 4, 1), (191, .iadd, 1), (192, .iaload, 1), (193, .aload_n 0, 1), (194, .iload_n 3, 1), (195, .iconst 5, 1), (196, .iadd, 1), (197, .iaload, 1), (198, .invokevirtual 13, 3)] := dz_of (by decide +kernel)
theorem dL_law_183 : decode code 183 = .ok (.aload_n 0, 1) := dk_dL_law_183.1
theorem dL_law_184 : decode code 184 = .ok (.iload_n 3, 1) := dk_dL_law_183.2.1
theorem dL_law_185 : decode code 185 = .ok (.iconst 3, 1) := dk_dL_law_183.2.2.1
theorem dL_law_186 : decode code 186 = .ok (.iadd, 1) := dk_dL_law_183.2.2.2.1
theorem dL_law_187 : decode code 187 = .ok (.iaload, 1) := dk_dL_law_183.2.2.2.2.1
theorem dL_law_188 : decode code 188 = .ok (.aload_n 0, 1) := dk_dL_law_183.2.2.2.2.2.1
theorem dL_law_189 : decode code 189 = .ok (.iload_n 3, 1) := dk_dL_law_183.2.2.2.2.2.2.1
theorem dL_law_190 : decode code 190 = .ok (.iconst 4, 1) := dk_dL_law_183.2.2.2.2.2.2.2.1
theorem dk_dL_law_183_8 : dz_C code [(191, .iadd, 1), (192, .iaload, 1), (193, .aload_n 0, 1), (194, .iload_n 3, 1), (195, .iconst 5, 1), (196, .iadd, 1), (197, .iaload, 1), (198, .invokevirtual 13, 3)] := dk_dL_law_183.2.2.2.2.2.2.2.2
theorem dL_law_191 : decode code 191 = .ok (.iadd, 1) := dk_dL_law_183_8.1
theorem dL_law_192 : decode code 192 = .ok (.iaload, 1) := dk_dL_law_183_8.2.1
theorem dL_law_193 : decode code 193 = .ok (.aload_n 0, 1) := dk_dL_law_183_8.2.2.1
theorem dL_law_194 : decode code 194 = .ok (.iload_n 3, 1) := dk_dL_law_183_8.2.2.2.1
theorem dL_law_195 : decode code 195 = .ok (.iconst 5, 1) := dk_dL_law_183_8.2.2.2.2.1
theorem dL_law_196 : decode code 196 = .ok (.iadd, 1) := dk_dL_law_183_8.2.2.2.2.2.1
theorem dL_law_197 : decode code 197 = .ok (.iaload, 1) := dk_dL_law_183_8.2.2.2.2.2.2.1
theorem dL_law_198 : decode code 198 = .ok (.invokevirtual 13, 3) := dk_dL_law_183_8.2.2.2.2.2.2.2.1
theorem dk_dL_law_201 : dz_C code [(201, .pop, 1), (202, .aload_n 2, 1), (203, .aload_n 0, 1), (204, .iload_n 3, 1), (205, .iconst 1, 1), (206, .iadd, 1), (207, .iaload, 1), (208, .aload_n 0, 1), (209, .iload_n 3, 1), (210, .iconst 2, 1), (211, .iadd, 1), (212, .iaload, 1), (213, .aload_n 0, 1), (214, .iload_n 3, 1), (215, .iconst 3, 1), (216, .iadd, 1)] := dz_of (by decide +kernel)
theorem dL_law_201 : decode code 201 = .ok (.pop, 1) := dk_dL_law_201.1
theorem dL_law_202 : decode code 202 = .ok (.aload_n 2, 1) := dk_dL_law_201.2.1
theorem dL_law_203 : decode code 203 = .ok (.aload_n 0, 1) := dk_dL_law_201.2.2.1
theorem dL_law_204 : decode code 204 = .ok (.iload_n 3, 1) := dk_dL_law_201.2.2.2.1
theorem dL_law_205 : decode code 205 = .ok (.iconst 1, 1) := dk_dL_law_201.2.2.2.2.1
theorem dL_law_206 : decode code 206 = .ok (.iadd, 1) := dk_dL_law_201.2.2.2.2.2.1
theorem dL_law_207 : decode code 207 = .ok (.iaload, 1) := dk_dL_law_201.2.2.2.2.2.2.1
theorem dL_law_208 : decode code 208 = .ok (.aload_n 0, 1) := dk_dL_law_201.2.2.2.2.2.2.2.1
theorem dk_dL_law_201_8 : dz_C code [(209, .iload_n 3, 1), (210, .iconst 2, 1), (211, .iadd, 1), (212, .iaload, 1), (213, .aload_n 0, 1), (214, .iload_n 3, 1), (215, .iconst 3, 1), (216, .iadd, 1)] := dk_dL_law_201.2.2.2.2.2.2.2.2
theorem dL_law_209 : decode code 209 = .ok (.iload_n 3, 1) := dk_dL_law_201_8.1
theorem dL_law_210 : decode code 210 = .ok (.iconst 2, 1) := dk_dL_law_201_8.2.1
theorem dL_law_211 : decode code 211 = .ok (.iadd, 1) := dk_dL_law_201_8.2.2.1
theorem dL_law_212 : decode code 212 = .ok (.iaload, 1) := dk_dL_law_201_8.2.2.2.1
theorem dL_law_213 : decode code 213 = .ok (.aload_n 0, 1) := dk_dL_law_201_8.2.2.2.2.1
theorem dL_law_214 : decode code 214 = .ok (.iload_n 3, 1) := dk_dL_law_201_8.2.2.2.2.2.1
theorem dL_law_215 : decode code 215 = .ok (.iconst 3, 1) := dk_dL_law_201_8.2.2.2.2.2.2.1
theorem dL_law_216 : decode code 216 = .ok (.iadd, 1) := dk_dL_law_201_8.2.2.2.2.2.2.2.1
theorem dk_dL_law_217 : dz_C code [(217, .iaload, 1), (218, .aload_n 0, 1), (219, .iload_n 3, 1), (220, .iconst 4, 1), (221, .iadd, 1), (222, .iaload, 1), (223, .aload_n 0, 1), (224, .iload_n 3, 1), (225, .iconst 5, 1), (226, .iadd, 1), (227, .iaload, 1), (228, .invokevirtual 17, 3), (231, .pop, 1), (232, .goto 684, 3), (235, .aload_n 1, 1), (236, .aload_n 0, 1)] := dz_of (by decide +kernel)
theorem dL_law_217 : decode code 217 = .ok (.iaload, 1) := dk_dL_law_217.1
theorem dL_law_218 : decode code 218 = .ok (.aload_n 0, 1) := dk_dL_law_217.2.1
theorem dL_law_219 : decode code 219 = .ok (.iload_n 3, 1) := dk_dL_law_217.2.2.1
theorem dL_law_220 : decode code 220 = .ok (.iconst 4, 1) := dk_dL_law_217.2.2.2.1
theorem dL_law_221 : decode code 221 = .ok (.iadd, 1) := dk_dL_law_217.2.2.2.2.1
theorem dL_law_222 : decode code 222 = .ok (.iaload, 1) := dk_dL_law_217.2.2.2.2.2.1
theorem dL_law_223 : decode code 223 = .ok (.aload_n 0, 1) := dk_dL_law_217.2.2.2.2.2.2.1
theorem dL_law_224 : decode code 224 = .ok (.iload_n 3, 1) := dk_dL_law_217.2.2.2.2.2.2.2.1
theorem dk_dL_law_217_8 : dz_C code [(225, .iconst 5, 1), (226, .iadd, 1), (227, .iaload, 1), (228, .invokevirtual 17, 3), (231, .pop, 1), (232, .goto 684, 3), (235, .aload_n 1, 1), (236, .aload_n 0, 1)] := dk_dL_law_217.2.2.2.2.2.2.2.2
theorem dL_law_225 : decode code 225 = .ok (.iconst 5, 1) := dk_dL_law_217_8.1
theorem dL_law_226 : decode code 226 = .ok (.iadd, 1) := dk_dL_law_217_8.2.1
theorem dL_law_227 : decode code 227 = .ok (.iaload, 1) := dk_dL_law_217_8.2.2.1
theorem dL_law_228 : decode code 228 = .ok (.invokevirtual 17, 3) := dk_dL_law_217_8.2.2.2.1
theorem dL_law_231 : decode code 231 = .ok (.pop, 1) := dk_dL_law_217_8.2.2.2.2.1
theorem dL_law_232 : decode code 232 = .ok (.goto 684, 3) := dk_dL_law_217_8.2.2.2.2.2.1
theorem dL_law_235 : decode code 235 = .ok (.aload_n 1, 1) := dk_dL_law_217_8.2.2.2.2.2.2.1
theorem dL_law_236 : decode code 236 = .ok (.aload_n 0, 1) := dk_dL_law_217_8.2.2.2.2.2.2.2.1
theorem dk_dL_law_237 : dz_C code [(237, .iload_n 3, 1), (238, .iconst 1, 1), (239, .iadd, 1), (240, .iaload, 1), (241, .invokevirtual 18, 3), (244, .pop, 1), (245, .aload_n 2, 1), (246, .aload_n 0, 1), (247, .iload_n 3, 1), (248, .iconst 1, 1), (249, .iadd, 1), (250, .iaload, 1), (251, .invokevirtual 22, 3), (254, .pop, 1), (255, .goto 661, 3), (258, .aload_n 1, 1)] := dz_of (by decide +kernel)
theorem dL_law_237 : decode code 237 = .ok (.iload_n 3, 1) := dk_dL_law_237.1
theorem dL_law_238 : decode code 238 = .ok (.iconst 1, 1) := dk_dL_law_237.2.1
theorem dL_law_239 : decode code 239 = .ok (.iadd, 1) := dk_dL_law_237.2.2.1
theorem dL_law_240 : decode code 240 = .ok (.iaload, 1) := dk_dL_law_237.2.2.2.1
theorem dL_law_241 : decode code 241 = .ok (.invokevirtual 18, 3) := dk_dL_law_237.2.2.2.2.1
theorem dL_law_244 : decode code 244 = .ok (.pop, 1) := dk_dL_law_237.2.2.2.2.2.1
theorem dL_law_245 : decode code 245 = .ok (.aload_n 2, 1) := dk_dL_law_237.2.2.2.2.2.2.1
theorem dL_law_246 : decode code 246 = .ok (.aload_n 0, 1) := dk_dL_law_237.2.2.2.2.2.2.2.1
theorem dk_dL_law_237_8 : dz_C code [(247, .iload_n 3, 1), (248, .iconst 1, 1), (249, .iadd, 1), (250, .iaload, 1), (251, .invokevirtual 22, 3), (254, .pop, 1), (255, .goto 661, 3), (258, .aload_n 1, 1)] := dk_dL_law_237.2.2.2.2.2.2.2.2
theorem dL_law_247 : decode code 247 = .ok (.iload_n 3, 1) := dk_dL_law_237_8.1
theorem dL_law_248 : decode code 248 = .ok (.iconst 1, 1) := dk_dL_law_237_8.2.1
theorem dL_law_249 : decode code 249 = .ok (.iadd, 1) := dk_dL_law_237_8.2.2.1
theorem dL_law_250 : decode code 250 = .ok (.iaload, 1) := dk_dL_law_237_8.2.2.2.1
theorem dL_law_251 : decode code 251 = .ok (.invokevirtual 22, 3) := dk_dL_law_237_8.2.2.2.2.1
theorem dL_law_254 : decode code 254 = .ok (.pop, 1) := dk_dL_law_237_8.2.2.2.2.2.1
theorem dL_law_255 : decode code 255 = .ok (.goto 661, 3) := dk_dL_law_237_8.2.2.2.2.2.2.1
theorem dL_law_258 : decode code 258 = .ok (.aload_n 1, 1) := dk_dL_law_237_8.2.2.2.2.2.2.2.1
theorem dk_dL_law_259 : dz_C code [(259, .invokevirtual 23, 3), (262, .pop, 1), (263, .aload_n 2, 1), (264, .invokevirtual 27, 3), (267, .pop, 1), (268, .goto 648, 3), (271, .aload_n 1, 1), (272, .aload_n 0, 1), (273, .iload_n 3, 1), (274, .iconst 1, 1), (275, .iadd, 1), (276, .iaload, 1), (277, .invokevirtual 28, 3), (280, .pop, 1), (281, .aload_n 2, 1), (282, .aload_n 0, 1)] := dz_of (by decide +kernel)
theorem dL_law_259 : decode code 259 = .ok (.invokevirtual 23, 3) := dk_dL_law_259.1
theorem dL_law_262 : decode code 262 = .ok (.pop, 1) := dk_dL_law_259.2.1
theorem dL_law_263 : decode code 263 = .ok (.aload_n 2, 1) := dk_dL_law_259.2.2.1
theorem dL_law_264 : decode code 264 = .ok (.invokevirtual 27, 3) := dk_dL_law_259.2.2.2.1
theorem dL_law_267 : decode code 267 = .ok (.pop, 1) := dk_dL_law_259.2.2.2.2.1
theorem dL_law_268 : decode code 268 = .ok (.goto 648, 3) := dk_dL_law_259.2.2.2.2.2.1
theorem dL_law_271 : decode code 271 = .ok (.aload_n 1, 1) := dk_dL_law_259.2.2.2.2.2.2.1
theorem dL_law_272 : decode code 272 = .ok (.aload_n 0, 1) := dk_dL_law_259.2.2.2.2.2.2.2.1
theorem dk_dL_law_259_8 : dz_C code [(273, .iload_n 3, 1), (274, .iconst 1, 1), (275, .iadd, 1), (276, .iaload, 1), (277, .invokevirtual 28, 3), (280, .pop, 1), (281, .aload_n 2, 1), (282, .aload_n 0, 1)] := dk_dL_law_259.2.2.2.2.2.2.2.2
theorem dL_law_273 : decode code 273 = .ok (.iload_n 3, 1) := dk_dL_law_259_8.1
theorem dL_law_274 : decode code 274 = .ok (.iconst 1, 1) := dk_dL_law_259_8.2.1
theorem dL_law_275 : decode code 275 = .ok (.iadd, 1) := dk_dL_law_259_8.2.2.1
theorem dL_law_276 : decode code 276 = .ok (.iaload, 1) := dk_dL_law_259_8.2.2.2.1
theorem dL_law_277 : decode code 277 = .ok (.invokevirtual 28, 3) := dk_dL_law_259_8.2.2.2.2.1
theorem dL_law_280 : decode code 280 = .ok (.pop, 1) := dk_dL_law_259_8.2.2.2.2.2.1
theorem dL_law_281 : decode code 281 = .ok (.aload_n 2, 1) := dk_dL_law_259_8.2.2.2.2.2.2.1
theorem dL_law_282 : decode code 282 = .ok (.aload_n 0, 1) := dk_dL_law_259_8.2.2.2.2.2.2.2.1
theorem dk_dL_law_283 : dz_C code [(283, .iload_n 3, 1), (284, .iconst 1, 1), (285, .iadd, 1), (286, .iaload, 1), (287, .invokevirtual 32, 3), (290, .pop, 1), (291, .goto 625, 3), (294, .aload_n 1, 1), (295, .aload_n 0, 1), (296, .iload_n 3, 1), (297, .iconst 1, 1), (298, .iadd, 1), (299, .iaload, 1), (300, .invokevirtual 33, 3), (303, .pop, 1), (304, .aload_n 2, 1)] := dz_of (by decide +kernel)
theorem dL_law_283 : decode code 283 = .ok (.iload_n 3, 1) := dk_dL_law_283.1
theorem dL_law_284 : decode code 284 = .ok (.iconst 1, 1) := dk_dL_law_283.2.1
theorem dL_law_285 : decode code 285 = .ok (.iadd, 1) := dk_dL_law_283.2.2.1
theorem dL_law_286 : decode code 286 = .ok (.iaload, 1) := dk_dL_law_283.2.2.2.1
theorem dL_law_287 : decode code 287 = .ok (.invokevirtual 32, 3) := dk_dL_law_283.2.2.2.2.1
theorem dL_law_290 : decode code 290 = .ok (.pop, 1) := dk_dL_law_283.2.2.2.2.2.1
theorem dL_law_291 : decode code 291 = .ok (.goto 625, 3) := dk_dL_law_283.2.2.2.2.2.2.1
theorem dL_law_294 : decode code 294 = .ok (.aload_n 1, 1) := dk_dL_law_283.2.2.2.2.2.2.2.1
theorem dk_dL_law_283_8 : dz_C code [(295, .aload_n 0, 1), (296, .iload_n 3, 1), (297, .iconst 1, 1), (298, .iadd, 1), (299, .iaload, 1), (300, .invokevirtual 33, 3), (303, .pop, 1), (304, .aload_n 2, 1)] := dk_dL_law_283.2.2.2.2.2.2.2.2
theorem dL_law_295 : decode code 295 = .ok (.aload_n 0, 1) := dk_dL_law_283_8.1
theorem dL_law_296 : decode code 296 = .ok (.iload_n 3, 1) := dk_dL_law_283_8.2.1
theorem dL_law_297 : decode code 297 = .ok (.iconst 1, 1) := dk_dL_law_283_8.2.2.1
theorem dL_law_298 : decode code 298 = .ok (.iadd, 1) := dk_dL_law_283_8.2.2.2.1
theorem dL_law_299 : decode code 299 = .ok (.iaload, 1) := dk_dL_law_283_8.2.2.2.2.1
theorem dL_law_300 : decode code 300 = .ok (.invokevirtual 33, 3) := dk_dL_law_283_8.2.2.2.2.2.1
theorem dL_law_303 : decode code 303 = .ok (.pop, 1) := dk_dL_law_283_8.2.2.2.2.2.2.1
theorem dL_law_304 : decode code 304 = .ok (.aload_n 2, 1) := dk_dL_law_283_8.2.2.2.2.2.2.2.1
theorem dk_dL_law_305 : dz_C code [(305, .aload_n 0, 1), (306, .iload_n 3, 1), (307, .iconst 1, 1), (308, .iadd, 1), (309, .iaload, 1), (310, .invokevirtual 36, 3), (313, .pop, 1), (314, .goto 602, 3), (317, .aload_n 1, 1), (318, .aload_n 0, 1), (319, .iload_n 3, 1), (320, .iconst 1, 1), (321, .iadd, 1), (322, .iaload, 1), (323, .aload_n 0, 1), (324, .iload_n 3, 1)] := dz_of (by decide +kernel)
theorem dL_law_305 : decode code 305 = .ok (.aload_n 0, 1) := dk_dL_law_305.1
theorem dL_law_306 : decode code 306 = .ok (.iload_n 3, 1) := dk_dL_law_305.2.1
theorem dL_law_307 : decode code 307 = .ok (.iconst 1, 1) := dk_dL_law_305.2.2.1
theorem dL_law_308 : decode code 308 = .ok (.iadd, 1) := dk_dL_law_305.2.2.2.1
theorem dL_law_309 : decode code 309 = .ok (.iaload, 1) := dk_dL_law_305.2.2.2.2.1
theorem dL_law_310 : decode code 310 = .ok (.invokevirtual 36, 3) := dk_dL_law_305.2.2.2.2.2.1
theorem dL_law_313 : decode code 313 = .ok (.pop, 1) := dk_dL_law_305.2.2.2.2.2.2.1
theorem dL_law_314 : decode code 314 = .ok (.goto 602, 3) := dk_dL_law_305.2.2.2.2.2.2.2.1
theorem dk_dL_law_305_8 : dz_C code [(317, .aload_n 1, 1), (318, .aload_n 0, 1), (319, .iload_n 3, 1), (320, .iconst 1, 1), (321, .iadd, 1), (322, .iaload, 1), (323, .aload_n 0, 1), (324, .iload_n 3, 1)] := dk_dL_law_305.2.2.2.2.2.2.2.2
theorem dL_law_317 : decode code 317 = .ok (.aload_n 1, 1) := dk_dL_law_305_8.1
theorem dL_law_318 : decode code 318 = .ok (.aload_n 0, 1) := dk_dL_law_305_8.2.1
theorem dL_law_319 : decode code 319 = .ok (.iload_n 3, 1) := dk_dL_law_305_8.2.2.1
theorem dL_law_320 : decode code 320 = .ok (.iconst 1, 1) := dk_dL_law_305_8.2.2.2.1
theorem dL_law_321 : decode code 321 = .ok (.iadd, 1) := dk_dL_law_305_8.2.2.2.2.1
theorem dL_law_322 : decode code 322 = .ok (.iaload, 1) := dk_dL_law_305_8.2.2.2.2.2.1
theorem dL_law_323 : decode code 323 = .ok (.aload_n 0, 1) := dk_dL_law_305_8.2.2.2.2.2.2.1
theorem dL_law_324 : decode code 324 = .ok (.iload_n 3, 1) := dk_dL_law_305_8.2.2.2.2.2.2.2.1
theorem dk_dL_law_325 : dz_C code [(325, .iconst 2, 1), (326, .iadd, 1), (327, .iaload, 1), (328, .aload_n 0, 1), (329, .iload_n 3, 1), (330, .iconst 3, 1), (331, .iadd, 1), (332, .iaload, 1), (333, .invokevirtual 37, 3), (336, .pop, 1), (337, .aload_n 2, 1), (338, .aload_n 0, 1), (339, .iload_n 3, 1), (340, .iconst 1, 1), (341, .iadd, 1), (342, .iaload, 1)] := dz_of (by decide +kernel)
theorem dL_law_325 : decode code 325 = .ok (.iconst 2, 1) := dk_dL_law_325.1
theorem dL_law_326 : decode code 326 = .ok (.iadd, 1) := dk_dL_law_325.2.1
theorem dL_law_327 : decode code 327 = .ok (.iaload, 1) := dk_dL_law_325.2.2.1
theorem dL_law_328 : decode code 328 = .ok (.aload_n 0, 1) := dk_dL_law_325.2.2.2.1
theorem dL_law_329 : decode code 329 = .ok (.iload_n 3, 1) := dk_dL_law_325.2.2.2.2.1
theorem dL_law_330 : decode code 330 = .ok (.iconst 3, 1) := dk_dL_law_325.2.2.2.2.2.1
theorem dL_law_331 : decode code 331 = .ok (.iadd, 1) := dk_dL_law_325.2.2.2.2.2.2.1
theorem dL_law_332 : decode code 332 = .ok (.iaload, 1) := dk_dL_law_325.2.2.2.2.2.2.2.1
theorem dk_dL_law_325_8 : dz_C code [(333, .invokevirtual 37, 3), (336, .pop, 1), (337, .aload_n 2, 1), (338, .aload_n 0, 1), (339, .iload_n 3, 1), (340, .iconst 1, 1), (341, .iadd, 1), (342, .iaload, 1)] := dk_dL_law_325.2.2.2.2.2.2.2.2
theorem dL_law_333 : decode code 333 = .ok (.invokevirtual 37, 3) := dk_dL_law_325_8.1
theorem dL_law_336 : decode code 336 = .ok (.pop, 1) := dk_dL_law_325_8.2.1
theorem dL_law_337 : decode code 337 = .ok (.aload_n 2, 1) := dk_dL_law_325_8.2.2.1
theorem dL_law_338 : decode code 338 = .ok (.aload_n 0, 1) := dk_dL_law_325_8.2.2.2.1
theorem dL_law_339 : decode code 339 = .ok (.iload_n 3, 1) := dk_dL_law_325_8.2.2.2.2.1
theorem dL_law_340 : decode code 340 = .ok (.iconst 1, 1) := dk_dL_law_325_8.2.2.2.2.2.1
theorem dL_law_341 : decode code 341 = .ok (.iadd, 1) := dk_dL_law_325_8.2.2.2.2.2.2.1
theorem dL_law_342 : decode code 342 = .ok (.iaload, 1) := dk_dL_law_325_8.2.2.2.2.2.2.2.1
theorem dk_dL_law_343 : dz_C code [(343, .aload_n 0, 1), (344, .iload_n 3, 1), (345, .iconst 2, 1), (346, .iadd, 1), (347, .iaload, 1), (348, .aload_n 0, 1), (349, .iload_n 3, 1), (350, .iconst 3, 1), (351, .iadd, 1), (352, .iaload, 1), (353, .invokevirtual 41, 3), (356, .pop, 1), (357, .goto 559, 3), (360, .aload_n 1, 1), (361, .aload_n 0, 1), (362, .iload_n 3, 1)] := dz_of (by decide +kernel)
theorem dL_law_343 : decode code 343 = .ok (.aload_n 0, 1) := dk_dL_law_343.1
theorem dL_law_344 : decode code 344 = .ok (.iload_n 3, 1) := dk_dL_law_343.2.1
theorem dL_law_345 : decode code 345 = .ok (.iconst 2, 1) := dk_dL_law_343.2.2.1
theorem dL_law_346 : decode code 346 = .ok (.iadd, 1) := dk_dL_law_343.2.2.2.1
theorem dL_law_347 : decode code 347 = .ok (.iaload, 1) := dk_dL_law_343.2.2.2.2.1
theorem dL_law_348 : decode code 348 = .ok (.aload_n 0, 1) := dk_dL_law_343.2.2.2.2.2.1
theorem dL_law_349 : decode code 349 = .ok (.iload_n 3, 1) := dk_dL_law_343.2.2.2.2.2.2.1
theorem dL_law_350 : decode code 350 = .ok (.iconst 3, 1) := dk_dL_law_343.2.2.2.2.2.2.2.1
theorem dk_dL_law_343_8 : dz_C code [(351, .iadd, 1), (352, .iaload, 1), (353, .invokevirtual 41, 3), (356, .pop, 1), (357, .goto 559, 3), (360, .aload_n 1, 1), (361, .aload_n 0, 1), (362, .iload_n 3, 1)] := dk_dL_law_343.2.2.2.2.2.2.2.2
theorem dL_law_351 : decode code 351 = .ok (.iadd, 1) := dk_dL_law_343_8.1
theorem dL_law_352 : decode code 352 = .ok (.iaload, 1) := dk_dL_law_343_8.2.1
theorem dL_law_353 : decode code 353 = .ok (.invokevirtual 41, 3) := dk_dL_law_343_8.2.2.1
theorem dL_law_356 : decode code 356 = .ok (.pop, 1) := dk_dL_law_343_8.2.2.2.1
theorem dL_law_357 : decode code 357 = .ok (.goto 559, 3) := dk_dL_law_343_8.2.2.2.2.1
theorem dL_law_360 : decode code 360 = .ok (.aload_n 1, 1) := dk_dL_law_343_8.2.2.2.2.2.1
theorem dL_law_361 : decode code 361 = .ok (.aload_n 0, 1) := dk_dL_law_343_8.2.2.2.2.2.2.1
theorem dL_law_362 : decode code 362 = .ok (.iload_n 3, 1) := dk_dL_law_343_8.2.2.2.2.2.2.2.1
theorem dk_dL_law_363 : dz_C code [(363, .iconst 1, 1), (364, .iadd, 1), (365, .iaload, 1), (366, .aload_n 0, 1), (367, .iload_n 3, 1), (368, .iconst 2, 1), (369, .iadd, 1), (370, .iaload, 1), (371, .invokevirtual 42, 3), (374, .pop, 1), (375, .aload_n 2, 1), (376, .aload_n 0, 1), (377, .iload_n 3, 1), (378, .iconst 1, 1), (379, .iadd, 1), (380, .iaload, 1)] := dz_of (by decide +kernel)
theorem dL_law_363 : decode code 363 = .ok (.iconst 1, 1) := dk_dL_law_363.1
theorem dL_law_364 : decode code 364 = .ok (.iadd, 1) := dk_dL_law_363.2.1
theorem dL_law_365 : decode code 365 = .ok (.iaload, 1) := dk_dL_law_363.2.2.1
theorem dL_law_366 : decode code 366 = .ok (.aload_n 0, 1) := dk_dL_law_363.2.2.2.1
theorem dL_law_367 : decode code 367 = .ok (.iload_n 3, 1) := dk_dL_law_363.2.2.2.2.1
theorem dL_law_368 : decode code 368 = .ok (.iconst 2, 1) := dk_dL_law_363.2.2.2.2.2.1
theorem dL_law_369 : decode code 369 = .ok (.iadd, 1) := dk_dL_law_363.2.2.2.2.2.2.1
theorem dL_law_370 : decode code 370 = .ok (.iaload, 1) := dk_dL_law_363.2.2.2.2.2.2.2.1
theorem dk_dL_law_363_8 : dz_C code [(371, .invokevirtual 42, 3), (374, .pop, 1), (375, .aload_n 2, 1), (376, .aload_n 0, 1), (377, .iload_n 3, 1), (378, .iconst 1, 1), (379, .iadd, 1), (380, .iaload, 1)] := dk_dL_law_363.2.2.2.2.2.2.2.2
theorem dL_law_371 : decode code 371 = .ok (.invokevirtual 42, 3) := dk_dL_law_363_8.1
theorem dL_law_374 : decode code 374 = .ok (.pop, 1) := dk_dL_law_363_8.2.1
theorem dL_law_375 : decode code 375 = .ok (.aload_n 2, 1) := dk_dL_law_363_8.2.2.1
theorem dL_law_376 : decode code 376 = .ok (.aload_n 0, 1) := dk_dL_law_363_8.2.2.2.1
theorem dL_law_377 : decode code 377 = .ok (.iload_n 3, 1) := dk_dL_law_363_8.2.2.2.2.1
theorem dL_law_378 : decode code 378 = .ok (.iconst 1, 1) := dk_dL_law_363_8.2.2.2.2.2.1
theorem dL_law_379 : decode code 379 = .ok (.iadd, 1) := dk_dL_law_363_8.2.2.2.2.2.2.1
theorem dL_law_380 : decode code 380 = .ok (.iaload, 1) := dk_dL_law_363_8.2.2.2.2.2.2.2.1
theorem dk_dL_law_381 : dz_C code [(381, .aload_n 0, 1), (382, .iload_n 3, 1), (383, .iconst 2, 1), (384, .iadd, 1), (385, .iaload, 1), (386, .invokevirtual 46, 3), (389, .pop, 1), (390, .goto 526, 3), (393, .aload_n 1, 1), (394, .aload_n 0, 1), (395, .iload_n 3, 1), (396, .iconst 1, 1), (397, .iadd, 1), (398, .iaload, 1), (399, .aload_n 0, 1), (400, .iload_n 3, 1)] := dz_of (by decide +kernel)
theorem dL_law_381 : decode code 381 = .ok (.aload_n 0, 1) := dk_dL_law_381.1
theorem dL_law_382 : decode code 382 = .ok (.iload_n 3, 1) := dk_dL_law_381.2.1
theorem dL_law_383 : decode code 383 = .ok (.iconst 2, 1) := dk_dL_law_381.2.2.1
theorem dL_law_384 : decode code 384 = .ok (.iadd, 1) := dk_dL_law_381.2.2.2.1
theorem dL_law_385 : decode code 385 = .ok (.iaload, 1) := dk_dL_law_381.2.2.2.2.1
theorem dL_law_386 : decode code 386 = .ok (.invokevirtual 46, 3) := dk_dL_law_381.2.2.2.2.2.1
theorem dL_law_389 : decode code 389 = .ok (.pop, 1) := dk_dL_law_381.2.2.2.2.2.2.1
theorem dL_law_390 : decode code 390 = .ok (.goto 526, 3) := dk_dL_law_381.2.2.2.2.2.2.2.1
theorem dk_dL_law_381_8 : dz_C code [(393, .aload_n 1, 1), (394, .aload_n 0, 1), (395, .iload_n 3, 1), (396, .iconst 1, 1), (397, .iadd, 1), (398, .iaload, 1), (399, .aload_n 0, 1), (400, .iload_n 3, 1)] := dk_dL_law_381.2.2.2.2.2.2.2.2
theorem dL_law_393 : decode code 393 = .ok (.aload_n 1, 1) := dk_dL_law_381_8.1
theorem dL_law_394 : decode code 394 = .ok (.aload_n 0, 1) := dk_dL_law_381_8.2.1
theorem dL_law_395 : decode code 395 = .ok (.iload_n 3, 1) := dk_dL_law_381_8.2.2.1
theorem dL_law_396 : decode code 396 = .ok (.iconst 1, 1) := dk_dL_law_381_8.2.2.2.1
theorem dL_law_397 : decode code 397 = .ok (.iadd, 1) := dk_dL_law_381_8.2.2.2.2.1
theorem dL_law_398 : decode code 398 = .ok (.iaload, 1) := dk_dL_law_381_8.2.2.2.2.2.1
theorem dL_law_399 : decode code 399 = .ok (.aload_n 0, 1) := dk_dL_law_381_8.2.2.2.2.2.2.1
theorem dL_law_400 : decode code 400 = .ok (.iload_n 3, 1) := dk_dL_law_381_8.2.2.2.2.2.2.2.1
theorem dk_dL_law_401 : dz_C code [(401, .iconst 2, 1), (402, .iadd, 1), (403, .iaload, 1), (404, .invokevirtual 47, 3), (407, .pop, 1), (408, .aload_n 2, 1), (409, .aload_n 0, 1), (410, .iload_n 3, 1), (411, .iconst 1, 1), (412, .iadd, 1), (413, .iaload, 1), (414, .aload_n 0, 1), (415, .iload_n 3, 1), (416, .iconst 2, 1), (417, .iadd, 1), (418, .iaload, 1)] := dz_of (by decide +kernel)
theorem dL_law_401 : decode code 401 = .ok (.iconst 2, 1) := dk_dL_law_401.1
theorem dL_law_402 : decode code 402 = .ok (.iadd, 1) := dk_dL_law_401.2.1
theorem dL_law_403 : decode code 403 = .ok (.iaload, 1) := dk_dL_law_401.2.2.1
theorem dL_law_404 : decode code 404 = .ok (.invokevirtual 47, 3) := dk_dL_law_401.2.2.2.1
theorem dL_law_407 : decode code 407 = .ok (.pop, 1) := dk_dL_law_401.2.2.2.2.1
theorem dL_law_408 : decode code 408 = .ok (.aload_n 2, 1) := dk_dL_law_401.2.2.2.2.2.1
theorem dL_law_409 : decode code 409 = .ok (.aload_n 0, 1) := dk_dL_law_401.2.2.2.2.2.2.1
theorem dL_law_410 : decode code 410 = .ok (.iload_n 3, 1) := dk_dL_law_401.2.2.2.2.2.2.2.1
theorem dk_dL_law_401_8 : dz_C code [(411, .iconst 1, 1), (412, .iadd, 1), (413, .iaload, 1), (414, .aload_n 0, 1), (415, .iload_n 3, 1), (416, .iconst 2, 1), (417, .iadd, 1), (418, .iaload, 1)] := dk_dL_law_401.2.2.2.2.2.2.2.2
theorem dL_law_411 : decode code 411 = .ok (.iconst 1, 1) := dk_dL_law_401_8.1
theorem dL_law_412 : decode code 412 = .ok (.iadd, 1) := dk_dL_law_401_8.2.1
theorem dL_law_413 : decode code 413 = .ok (.iaload, 1) := dk_dL_law_401_8.2.2.1
theorem dL_law_414 : decode code 414 = .ok (.aload_n 0, 1) := dk_dL_law_401_8.2.2.2.1
theorem dL_law_415 : decode code 415 = .ok (.iload_n 3, 1) := dk_dL_law_401_8.2.2.2.2.1
theorem dL_law_416 : decode code 416 = .ok (.iconst 2, 1) := dk_dL_law_401_8.2.2.2.2.2.1
theorem dL_law_417 : decode code 417 = .ok (.iadd, 1) := dk_dL_law_401_8.2.2.2.2.2.2.1
theorem dL_law_418 : decode code 418 = .ok (.iaload, 1) := dk_dL_law_401_8.2.2.2.2.2.2.2.1
theorem dk_dL_law_419 : dz_C code [(419, .invokevirtual 50, 3), (422, .pop, 1), (423, .goto 493, 3), (426, .aload_n 1, 1), (427, .aload_n 0, 1), (428, .iload_n 3, 1), (429, .iconst 1, 1), (430, .iadd, 1), (431, .iaload, 1), (432, .invokevirtual 51, 3), (435, .pop, 1), (436, .aload_n 2, 1), (437, .aload_n 0, 1), (438, .iload_n 3, 1), (439, .iconst 1, 1), (440, .iadd, 1)] := dz_of (by decide +kernel)
theorem dL_law_419 : decode code 419 = .ok (.invokevirtual 50, 3) := dk_dL_law_419.1
theorem dL_law_422 : decode code 422 = .ok (.pop, 1) := dk_dL_law_419.2.1
theorem dL_law_423 : decode code 423 = .ok (.goto 493, 3) := dk_dL_law_419.2.2.1
theorem dL_law_426 : decode code 426 = .ok (.aload_n 1, 1) := dk_dL_law_419.2.2.2.1
theorem dL_law_427 : decode code 427 = .ok (.aload_n 0, 1) := dk_dL_law_419.2.2.2.2.1
theorem dL_law_428 : decode code 428 = .ok (.iload_n 3, 1) := dk_dL_law_419.2.2.2.2.2.1
theorem dL_law_429 : decode code 429 = .ok (.iconst 1, 1) := dk_dL_law_419.2.2.2.2.2.2.1
theorem dL_law_430 : decode code 430 = .ok (.iadd, 1) := dk_dL_law_419.2.2.2.2.2.2.2.1
theorem dk_dL_law_419_8 : dz_C code [(431, .iaload, 1), (432, .invokevirtual 51, 3), (435, .pop, 1), (436, .aload_n 2, 1), (437, .aload_n 0, 1), (438, .iload_n 3, 1), (439, .iconst 1, 1), (440, .iadd, 1)] := dk_dL_law_419.2.2.2.2.2.2.2.2
theorem dL_law_431 : decode code 431 = .ok (.iaload, 1) := dk_dL_law_419_8.1
theorem dL_law_432 : decode code 432 = .ok (.invokevirtual 51, 3) := dk_dL_law_419_8.2.1
theorem dL_law_435 : decode code 435 = .ok (.pop, 1) := dk_dL_law_419_8.2.2.1
theorem dL_law_436 : decode code 436 = .ok (.aload_n 2, 1) := dk_dL_law_419_8.2.2.2.1
theorem dL_law_437 : decode code 437 = .ok (.aload_n 0, 1) := dk_dL_law_419_8.2.2.2.2.1
theorem dL_law_438 : decode code 438 = .ok (.iload_n 3, 1) := dk_dL_law_419_8.2.2.2.2.2.1
theorem dL_law_439 : decode code 439 = .ok (.iconst 1, 1) := dk_dL_law_419_8.2.2.2.2.2.2.1
theorem dL_law_440 : decode code 440 = .ok (.iadd, 1) := dk_dL_law_419_8.2.2.2.2.2.2.2.1
theorem dk_dL_law_441 : dz_C code [(441, .iaload, 1), (442, .invokevirtual 54, 3), (445, .pop, 1), (446, .goto 470, 3), (449, .aload_n 1, 1), (450, .aload_n 0, 1), (451, .iload_n 3, 1), (452, .iconst 1, 1), (453, .iadd, 1), (454, .iaload, 1), (455, .invokevirtual 55, 3), (458, .pop, 1), (459, .aload_n 2, 1), (460, .aload_n 0, 1), (461, .iload_n 3, 1), (462, .iconst 1, 1)] := dz_of (by decide +kernel)
theorem dL_law_441 : decode code 441 = .ok (.iaload, 1) := dk_dL_law_441.1
theorem dL_law_442 : decode code 442 = .ok (.invokevirtual 54, 3) := dk_dL_law_441.2.1
theorem dL_law_445 : decode code 445 = .ok (.pop, 1) := dk_dL_law_441.2.2.1
theorem dL_law_446 : decode code 446 = .ok (.goto 470, 3) := dk_dL_law_441.2.2.2.1
theorem dL_law_449 : decode code 449 = .ok (.aload_n 1, 1) := dk_dL_law_441.2.2.2.2.1
theorem dL_law_450 : decode code 450 = .ok (.aload_n 0, 1) := dk_dL_law_441.2.2.2.2.2.1
theorem dL_law_451 : decode code 451 = .ok (.iload_n 3, 1) := dk_dL_law_441.2.2.2.2.2.2.1
theorem dL_law_452 : decode code 452 = .ok (.iconst 1, 1) := dk_dL_law_441.2.2.2.2.2.2.2.1
theorem dk_dL_law_441_8 : dz_C code [(453, .iadd, 1), (454, .iaload, 1), (455, .invokevirtual 55, 3), (458, .pop, 1), (459, .aload_n 2, 1), (460, .aload_n 0, 1), (461, .iload_n 3, 1), (462, .iconst 1, 1)] := dk_dL_law_441.2.2.2.2.2.2.2.2
theorem dL_law_453 : decode code 453 = .ok (.iadd, 1) := dk_dL_law_441_8.1
theorem dL_law_454 : decode code 454 = .ok (.iaload, 1) := dk_dL_law_441_8.2.1
theorem dL_law_455 : decode code 455 = .ok (.invokevirtual 55, 3) := dk_dL_law_441_8.2.2.1
theorem dL_law_458 : decode code 458 = .ok (.pop, 1) := dk_dL_law_441_8.2.2.2.1
theorem dL_law_459 : decode code 459 = .ok (.aload_n 2, 1) := dk_dL_law_441_8.2.2.2.2.1
theorem dL_law_460 : decode code 460 = .ok (.aload_n 0, 1) := dk_dL_law_441_8.2.2.2.2.2.1
theorem dL_law_461 : decode code 461 = .ok (.iload_n 3, 1) := dk_dL_law_441_8.2.2.2.2.2.2.1
theorem dL_law_462 : decode code 462 = .ok (.iconst 1, 1) := dk_dL_law_441_8.2.2.2.2.2.2.2.1
theorem dk_dL_law_463 : dz_C code [(463, .iadd, 1), (464, .iaload, 1), (465, .invokevirtual 58, 3), (468, .pop, 1), (469, .goto 447, 3), (472, .aload_n 1, 1), (473, .aload_n 0, 1), (474, .iload_n 3, 1), (475, .iconst 1, 1), (476, .iadd, 1), (477, .iaload, 1), (478, .invokevirtual 59, 3), (481, .pop, 1), (482, .aload_n 2, 1), (483, .aload_n 0, 1), (484, .iload_n 3, 1)] := dz_of (by decide +kernel)
theorem dL_law_463 : decode code 463 = .ok (.iadd, 1) := dk_dL_law_463.1
theorem dL_law_464 : decode code 464 = .ok (.iaload, 1) := dk_dL_law_463.2.1
theorem dL_law_465 : decode code 465 = .ok (.invokevirtual 58, 3) := dk_dL_law_463.2.2.1
theorem dL_law_468 : decode code 468 = .ok (.pop, 1) := dk_dL_law_463.2.2.2.1
theorem dL_law_469 : decode code 469 = .ok (.goto 447, 3) := dk_dL_law_463.2.2.2.2.1
theorem dL_law_472 : decode code 472 = .ok (.aload_n 1, 1) := dk_dL_law_463.2.2.2.2.2.1
theorem dL_law_473 : decode code 473 = .ok (.aload_n 0, 1) := dk_dL_law_463.2.2.2.2.2.2.1
theorem dL_law_474 : decode code 474 = .ok (.iload_n 3, 1) := dk_dL_law_463.2.2.2.2.2.2.2.1
theorem dk_dL_law_463_8 : dz_C code [(475, .iconst 1, 1), (476, .iadd, 1), (477, .iaload, 1), (478, .invokevirtual 59, 3), (481, .pop, 1), (482, .aload_n 2, 1), (483, .aload_n 0, 1), (484, .iload_n 3, 1)] := dk_dL_law_463.2.2.2.2.2.2.2.2
theorem dL_law_475 : decode code 475 = .ok (.iconst 1, 1) := dk_dL_law_463_8.1
theorem dL_law_476 : decode code 476 = .ok (.iadd, 1) := dk_dL_law_463_8.2.1
theorem dL_law_477 : decode code 477 = .ok (.iaload, 1) := dk_dL_law_463_8.2.2.1
theorem dL_law_478 : decode code 478 = .ok (.invokevirtual 59, 3) := dk_dL_law_463_8.2.2.2.1
theorem dL_law_481 : decode code 481 = .ok (.pop, 1) := dk_dL_law_463_8.2.2.2.2.1
theorem dL_law_482 : decode code 482 = .ok (.aload_n 2, 1) := dk_dL_law_463_8.2.2.2.2.2.1
theorem dL_law_483 : decode code 483 = .ok (.aload_n 0, 1) := dk_dL_law_463_8.2.2.2.2.2.2.1
theorem dL_law_484 : decode code 484 = .ok (.iload_n 3, 1) := dk_dL_law_463_8.2.2.2.2.2.2.2.1
theorem dk_dL_law_485 : dz_C code [(485, .iconst 1, 1), (486, .iadd, 1), (487, .iaload, 1), (488, .invokevirtual 62, 3), (491, .pop, 1), (492, .goto 424, 3), (495, .aload_n 1, 1), (496, .aload_n 0, 1), (497, .iload_n 3, 1), (498, .iconst 1, 1), (499, .iadd, 1), (500, .iaload, 1), (501, .aload_n 0, 1), (502, .iload_n 3, 1), (503, .iconst 2, 1), (504, .iadd, 1)] := dz_of (by decide +kernel)
theorem dL_law_485 : decode code 485 = .ok (.iconst 1, 1) := dk_dL_law_485.1
theorem dL_law_486 : decode code 486 = .ok (.iadd, 1) := dk_dL_law_485.2.1
theorem dL_law_487 : decode code 487 = .ok (.iaload, 1) := dk_dL_law_485.2.2.1
theorem dL_law_488 : decode code 488 = .ok (.invokevirtual 62, 3) := dk_dL_law_485.2.2.2.1
theorem dL_law_491 : decode code 491 = .ok (.pop, 1) := dk_dL_law_485.2.2.2.2.1
theorem dL_law_492 : decode code 492 = .ok (.goto 424, 3) := dk_dL_law_485.2.2.2.2.2.1
theorem dL_law_495 : decode code 495 = .ok (.aload_n 1, 1) := dk_dL_law_485.2.2.2.2.2.2.1
theorem dL_law_496 : decode code 496 = .ok (.aload_n 0, 1) := dk_dL_law_485.2.2.2.2.2.2.2.1
theorem dk_dL_law_485_8 : dz_C code [(497, .iload_n 3, 1), (498, .iconst 1, 1), (499, .iadd, 1), (500, .iaload, 1), (501, .aload_n 0, 1), (502, .iload_n 3, 1), (503, .iconst 2, 1), (504, .iadd, 1)] := dk_dL_law_485.2.2.2.2.2.2.2.2
theorem dL_law_497 : decode code 497 = .ok (.iload_n 3, 1) := dk_dL_law_485_8.1
theorem dL_law_498 : decode code 498 = .ok (.iconst 1, 1) := dk_dL_law_485_8.2.1
theorem dL_law_499 : decode code 499 = .ok (.iadd, 1) := dk_dL_law_485_8.2.2.1
theorem dL_law_500 : decode code 500 = .ok (.iaload, 1) := dk_dL_law_485_8.2.2.2.1
theorem dL_law_501 : decode code 501 = .ok (.aload_n 0, 1) := dk_dL_law_485_8.2.2.2.2.1
theorem dL_law_502 : decode code 502 = .ok (.iload_n 3, 1) := dk_dL_law_485_8.2.2.2.2.2.1
theorem dL_law_503 : decode code 503 = .ok (.iconst 2, 1) := dk_dL_law_485_8.2.2.2.2.2.2.1
theorem dL_law_504 : decode code 504 = .ok (.iadd, 1) := dk_dL_law_485_8.2.2.2.2.2.2.2.1
theorem dk_dL_law_505 : dz_C code [(505, .iaload, 1), (506, .invokevirtual 63, 3), (509, .pop, 1), (510, .aload_n 2, 1), (511, .aload_n 0, 1), (512, .iload_n 3, 1), (513, .iconst 1, 1), (514, .iadd, 1), (515, .iaload, 1), (516, .aload_n 0, 1), (517, .iload_n 3, 1), (518, .iconst 2, 1), (519, .iadd, 1), (520, .iaload, 1), (521, .invokevirtual 66, 3), (524, .pop, 1)] := dz_of (by decide +kernel)
theorem dL_law_505 : decode code 505 = .ok (.iaload, 1) := dk_dL_law_505.1
theorem dL_law_506 : decode code 506 = .ok (.invokevirtual 63, 3) := dk_dL_law_505.2.1
theorem dL_law_509 : decode code 509 = .ok (.pop, 1) := dk_dL_law_505.2.2.1
theorem dL_law_510 : decode code 510 = .ok (.aload_n 2, 1) := dk_dL_law_505.2.2.2.1
theorem dL_law_511 : decode code 511 = .ok (.aload_n 0, 1) := dk_dL_law_505.2.2.2.2.1
theorem dL_law_512 : decode code 512 = .ok (.iload_n 3, 1) := dk_dL_law_505.2.2.2.2.2.1
theorem dL_law_513 : decode code 513 = .ok (.iconst 1, 1) := dk_dL_law_505.2.2.2.2.2.2.1
theorem dL_law_514 : decode code 514 = .ok (.iadd, 1) := dk_dL_law_505.2.2.2.2.2.2.2.1
theorem dk_dL_law_505_8 : dz_C code [(515, .iaload, 1), (516, .aload_n 0, 1), (517, .iload_n 3, 1), (518, .iconst 2, 1), (519, .iadd, 1), (520, .iaload, 1), (521, .invokevirtual 66, 3), (524, .pop, 1)] := dk_dL_law_505.2.2.2.2.2.2.2.2
theorem dL_law_515 : decode code 515 = .ok (.iaload, 1) := dk_dL_law_505_8.1
theorem dL_law_516 : decode code 516 = .ok (.aload_n 0, 1) := dk_dL_law_505_8.2.1
theorem dL_law_517 : decode code 517 = .ok (.iload_n 3, 1) := dk_dL_law_505_8.2.2.1
theorem dL_law_518 : decode code 518 = .ok (.iconst 2, 1) := dk_dL_law_505_8.2.2.2.1
theorem dL_law_519 : decode code 519 = .ok (.iadd, 1) := dk_dL_law_505_8.2.2.2.2.1
theorem dL_law_520 : decode code 520 = .ok (.iaload, 1) := dk_dL_law_505_8.2.2.2.2.2.1
theorem dL_law_521 : decode code 521 = .ok (.invokevirtual 66, 3) := dk_dL_law_505_8.2.2.2.2.2.2.1
theorem dL_law_524 : decode code 524 = .ok (.pop, 1) := dk_dL_law_505_8.2.2.2.2.2.2.2.1
theorem dk_dL_law_525 : dz_C code [(525, .goto 391, 3), (528, .aload_n 1, 1), (529, .invokevirtual 67, 3), (532, .pop, 1), (533, .aload_n 2, 1), (534, .invokevirtual 70, 3), (537, .pop, 1), (538, .goto 378, 3), (541, .aload_n 1, 1), (542, .invokevirtual 71, 3), (545, .pop, 1), (546, .aload_n 2, 1), (547, .invokevirtual 74, 3), (550, .pop, 1), (551, .goto 365, 3), (554, .aload_n 1, 1)] := dz_of (by decide +kernel)
theorem dL_law_525 : decode code 525 = .ok (.goto 391, 3) := dk_dL_law_525.1
theorem dL_law_528 : decode code 528 = .ok (.aload_n 1, 1) := dk_dL_law_525.2.1
theorem dL_law_529 : decode code 529 = .ok (.invokevirtual 67, 3) := dk_dL_law_525.2.2.1
theorem dL_law_532 : decode code 532 = .ok (.pop, 1) := dk_dL_law_525.2.2.2.1
theorem dL_law_533 : decode code 533 = .ok (.aload_n 2, 1) := dk_dL_law_525.2.2.2.2.1
theorem dL_law_534 : decode code 534 = .ok (.invokevirtual 70, 3) := dk_dL_law_525.2.2.2.2.2.1
theorem dL_law_537 : decode code 537 = .ok (.pop, 1) := dk_dL_law_525.2.2.2.2.2.2.1
theorem dL_law_538 : decode code 538 = .ok (.goto 378, 3) := dk_dL_law_525.2.2.2.2.2.2.2.1
theorem dk_dL_law_525_8 : dz_C code [(541, .aload_n 1, 1), (542, .invokevirtual 71, 3), (545, .pop, 1), (546, .aload_n 2, 1), (547, .invokevirtual 74, 3), (550, .pop, 1), (551, .goto 365, 3), (554, .aload_n 1, 1)] := dk_dL_law_525.2.2.2.2.2.2.2.2
theorem dL_law_541 : decode code 541 = .ok (.aload_n 1, 1) := dk_dL_law_525_8.1
theorem dL_law_542 : decode code 542 = .ok (.invokevirtual 71, 3) := dk_dL_law_525_8.2.1
theorem dL_law_545 : decode code 545 = .ok (.pop, 1) := dk_dL_law_525_8.2.2.1
theorem dL_law_546 : decode code 546 = .ok (.aload_n 2, 1) := dk_dL_law_525_8.2.2.2.1
theorem dL_law_547 : decode code 547 = .ok (.invokevirtual 74, 3) := dk_dL_law_525_8.2.2.2.2.1
theorem dL_law_550 : decode code 550 = .ok (.pop, 1) := dk_dL_law_525_8.2.2.2.2.2.1
theorem dL_law_551 : decode code 551 = .ok (.goto 365, 3) := dk_dL_law_525_8.2.2.2.2.2.2.1
theorem dL_law_554 : decode code 554 = .ok (.aload_n 1, 1) := dk_dL_law_525_8.2.2.2.2.2.2.2.1
theorem dk_dL_law_555 : dz_C code [(555, .aload_n 0, 1), (556, .iload_n 3, 1), (557, .iconst 1, 1), (558, .iadd, 1), (559, .iaload, 1), (560, .aload_n 0, 1), (561, .iload_n 3, 1), (562, .iconst 2, 1), (563, .iadd, 1), (564, .iaload, 1), (565, .invokevirtual 75, 3), (568, .pop, 1), (569, .aload_n 2, 1), (570, .aload_n 0, 1), (571, .iload_n 3, 1), (572, .iconst 1, 1)] := dz_of (by decide +kernel)
theorem dL_law_555 : decode code 555 = .ok (.aload_n 0, 1) := dk_dL_law_555.1
theorem dL_law_556 : decode code 556 = .ok (.iload_n 3, 1) := dk_dL_law_555.2.1
theorem dL_law_557 : decode code 557 = .ok (.iconst 1, 1) := dk_dL_law_555.2.2.1
theorem dL_law_558 : decode code 558 = .ok (.iadd, 1) := dk_dL_law_555.2.2.2.1
theorem dL_law_559 : decode code 559 = .ok (.iaload, 1) := dk_dL_law_555.2.2.2.2.1
theorem dL_law_560 : decode code 560 = .ok (.aload_n 0, 1) := dk_dL_law_555.2.2.2.2.2.1
theorem dL_law_561 : decode code 561 = .ok (.iload_n 3, 1) := dk_dL_law_555.2.2.2.2.2.2.1
theorem dL_law_562 : decode code 562 = .ok (.iconst 2, 1) := dk_dL_law_555.2.2.2.2.2.2.2.1
theorem dk_dL_law_555_8 : dz_C code [(563, .iadd, 1), (564, .iaload, 1), (565, .invokevirtual 75, 3), (568, .pop, 1), (569, .aload_n 2, 1), (570, .aload_n 0, 1), (571, .iload_n 3, 1), (572, .iconst 1, 1)] := dk_dL_law_555.2.2.2.2.2.2.2.2
theorem dL_law_563 : decode code 563 = .ok (.iadd, 1) := dk_dL_law_555_8.1
theorem dL_law_564 : decode code 564 = .ok (.iaload, 1) := dk_dL_law_555_8.2.1
theorem dL_law_565 : decode code 565 = .ok (.invokevirtual 75, 3) := dk_dL_law_555_8.2.2.1
theorem dL_law_568 : decode code 568 = .ok (.pop, 1) := dk_dL_law_555_8.2.2.2.1
theorem dL_law_569 : decode code 569 = .ok (.aload_n 2, 1) := dk_dL_law_555_8.2.2.2.2.1
theorem dL_law_570 : decode code 570 = .ok (.aload_n 0, 1) := dk_dL_law_555_8.2.2.2.2.2.1
theorem dL_law_571 : decode code 571 = .ok (.iload_n 3, 1) := dk_dL_law_555_8.2.2.2.2.2.2.1
theorem dL_law_572 : decode code 572 = .ok (.iconst 1, 1) := dk_dL_law_555_8.2.2.2.2.2.2.2.1
theorem dk_dL_law_573 : dz_C code [(573, .iadd, 1), (574, .iaload, 1), (575, .aload_n 0, 1), (576, .iload_n 3, 1), (577, .iconst 2, 1), (578, .iadd, 1), (579, .iaload, 1), (580, .invokevirtual 78, 3), (583, .pop, 1), (584, .goto 332, 3), (587, .aload_n 1, 1), (588, .aload_n 0, 1), (589, .iload_n 3, 1), (590, .iconst 1, 1), (591, .iadd, 1), (592, .iaload, 1)] := dz_of (by decide +kernel)
theorem dL_law_573 : decode code 573 = .ok (.iadd, 1) := dk_dL_law_573.1
theorem dL_law_574 : decode code 574 = .ok (.iaload, 1) := dk_dL_law_573.2.1
theorem dL_law_575 : decode code 575 = .ok (.aload_n 0, 1) := dk_dL_law_573.2.2.1
theorem dL_law_576 : decode code 576 = .ok (.iload_n 3, 1) := dk_dL_law_573.2.2.2.1
theorem dL_law_577 : decode code 577 = .ok (.iconst 2, 1) := dk_dL_law_573.2.2.2.2.1
theorem dL_law_578 : decode code 578 = .ok (.iadd, 1) := dk_dL_law_573.2.2.2.2.2.1
theorem dL_law_579 : decode code 579 = .ok (.iaload, 1) := dk_dL_law_573.2.2.2.2.2.2.1
theorem dL_law_580 : decode code 580 = .ok (.invokevirtual 78, 3) := dk_dL_law_573.2.2.2.2.2.2.2.1
theorem dk_dL_law_573_8 : dz_C code [(583, .pop, 1), (584, .goto 332, 3), (587, .aload_n 1, 1), (588, .aload_n 0, 1), (589, .iload_n 3, 1), (590, .iconst 1, 1), (591, .iadd, 1), (592, .iaload, 1)] := dk_dL_law_573.2.2.2.2.2.2.2.2
theorem dL_law_583 : decode code 583 = .ok (.pop, 1) := dk_dL_law_573_8.1
theorem dL_law_584 : decode code 584 = .ok (.goto 332, 3) := dk_dL_law_573_8.2.1
theorem dL_law_587 : decode code 587 = .ok (.aload_n 1, 1) := dk_dL_law_573_8.2.2.1
theorem dL_law_588 : decode code 588 = .ok (.aload_n 0, 1) := dk_dL_law_573_8.2.2.2.1
theorem dL_law_589 : decode code 589 = .ok (.iload_n 3, 1) := dk_dL_law_573_8.2.2.2.2.1
theorem dL_law_590 : decode code 590 = .ok (.iconst 1, 1) := dk_dL_law_573_8.2.2.2.2.2.1
theorem dL_law_591 : decode code 591 = .ok (.iadd, 1) := dk_dL_law_573_8.2.2.2.2.2.2.1
theorem dL_law_592 : decode code 592 = .ok (.iaload, 1) := dk_dL_law_573_8.2.2.2.2.2.2.2.1
theorem dk_dL_law_593 : dz_C code [(593, .invokevirtual 79, 3), (596, .pop, 1), (597, .aload_n 2, 1), (598, .aload_n 0, 1), (599, .iload_n 3, 1), (600, .iconst 1, 1), (601, .iadd, 1), (602, .iaload, 1), (603, .invokevirtual 82, 3), (606, .pop, 1), (607, .goto 309, 3), (610, .aload_n 1, 1), (611, .invokevirtual 83, 3), (614, .pop, 1), (615, .aload_n 2, 1), (616, .invokevirtual 86, 3)] := dz_of (by decide +kernel)
theorem dL_law_593 : decode code 593 = .ok (.invokevirtual 79, 3) := dk_dL_law_593.1
theorem dL_law_596 : decode code 596 = .ok (.pop, 1) := dk_dL_law_593.2.1
theorem dL_law_597 : decode code 597 = .ok (.aload_n 2, 1) := dk_dL_law_593.2.2.1
theorem dL_law_598 : decode code 598 = .ok (.aload_n 0, 1) := dk_dL_law_593.2.2.2.1
theorem dL_law_599 : decode code 599 = .ok (.iload_n 3, 1) := dk_dL_law_593.2.2.2.2.1
theorem dL_law_600 : decode code 600 = .ok (.iconst 1, 1) := dk_dL_law_593.2.2.2.2.2.1
theorem dL_law_601 : decode code 601 = .ok (.iadd, 1) := dk_dL_law_593.2.2.2.2.2.2.1
theorem dL_law_602 : decode code 602 = .ok (.iaload, 1) := dk_dL_law_593.2.2.2.2.2.2.2.1
theorem dk_dL_law_593_8 : dz_C code [(603, .invokevirtual 82, 3), (606, .pop, 1), (607, .goto 309, 3), (610, .aload_n 1, 1), (611, .invokevirtual 83, 3), (614, .pop, 1), (615, .aload_n 2, 1), (616, .invokevirtual 86, 3)] := dk_dL_law_593.2.2.2.2.2.2.2.2
theorem dL_law_603 : decode code 603 = .ok (.invokevirtual 82, 3) := dk_dL_law_593_8.1
theorem dL_law_606 : decode code 606 = .ok (.pop, 1) := dk_dL_law_593_8.2.1
theorem dL_law_607 : decode code 607 = .ok (.goto 309, 3) := dk_dL_law_593_8.2.2.1
theorem dL_law_610 : decode code 610 = .ok (.aload_n 1, 1) := dk_dL_law_593_8.2.2.2.1
theorem dL_law_611 : decode code 611 = .ok (.invokevirtual 83, 3) := dk_dL_law_593_8.2.2.2.2.1
theorem dL_law_614 : decode code 614 = .ok (.pop, 1) := dk_dL_law_593_8.2.2.2.2.2.1
theorem dL_law_615 : decode code 615 = .ok (.aload_n 2, 1) := dk_dL_law_593_8.2.2.2.2.2.2.1
theorem dL_law_616 : decode code 616 = .ok (.invokevirtual 86, 3) := dk_dL_law_593_8.2.2.2.2.2.2.2.1
theorem dk_dL_law_619 : dz_C code [(619, .pop, 1), (620, .goto 296, 3), (623, .aload_n 1, 1), (624, .aload_n 0, 1), (625, .iload_n 3, 1), (626, .iconst 1, 1), (627, .iadd, 1), (628, .iaload, 1), (629, .invokevirtual 87, 3), (632, .pop, 1), (633, .aload_n 2, 1), (634, .aload_n 0, 1), (635, .iload_n 3, 1), (636, .iconst 1, 1), (637, .iadd, 1), (638, .iaload, 1)] := dz_of (by decide +kernel)
theorem dL_law_619 : decode code 619 = .ok (.pop, 1) := dk_dL_law_619.1
theorem dL_law_620 : decode code 620 = .ok (.goto 296, 3) := dk_dL_law_619.2.1
theorem dL_law_623 : decode code 623 = .ok (.aload_n 1, 1) := dk_dL_law_619.2.2.1
theorem dL_law_624 : decode code 624 = .ok (.aload_n 0, 1) := dk_dL_law_619.2.2.2.1
theorem dL_law_625 : decode code 625 = .ok (.iload_n 3, 1) := dk_dL_law_619.2.2.2.2.1
theorem dL_law_626 : decode code 626 = .ok (.iconst 1, 1) := dk_dL_law_619.2.2.2.2.2.1
theorem dL_law_627 : decode code 627 = .ok (.iadd, 1) := dk_dL_law_619.2.2.2.2.2.2.1
theorem dL_law_628 : decode code 628 = .ok (.iaload, 1) := dk_dL_law_619.2.2.2.2.2.2.2.1
theorem dk_dL_law_619_8 : dz_C code [(629, .invokevirtual 87, 3), (632, .pop, 1), (633, .aload_n 2, 1), (634, .aload_n 0, 1), (635, .iload_n 3, 1), (636, .iconst 1, 1), (637, .iadd, 1), (638, .iaload, 1)] := dk_dL_law_619.2.2.2.2.2.2.2.2
theorem dL_law_629 : decode code 629 = .ok (.invokevirtual 87, 3) := dk_dL_law_619_8.1
theorem dL_law_632 : decode code 632 = .ok (.pop, 1) := dk_dL_law_619_8.2.1
theorem dL_law_633 : decode code 633 = .ok (.aload_n 2, 1) := dk_dL_law_619_8.2.2.1
theorem dL_law_634 : decode code 634 = .ok (.aload_n 0, 1) := dk_dL_law_619_8.2.2.2.1
theorem dL_law_635 : decode code 635 = .ok (.iload_n 3, 1) := dk_dL_law_619_8.2.2.2.2.1
theorem dL_law_636 : decode code 636 = .ok (.iconst 1, 1) := dk_dL_law_619_8.2.2.2.2.2.1
theorem dL_law_637 : decode code 637 = .ok (.iadd, 1) := dk_dL_law_619_8.2.2.2.2.2.2.1
theorem dL_law_638 : decode code 638 = .ok (.iaload, 1) := dk_dL_law_619_8.2.2.2.2.2.2.2.1
theorem dk_dL_law_639 : dz_C code [(639, .invokevirtual 90, 3), (642, .pop, 1), (643, .goto 273, 3), (646, .aload_n 1, 1), (647, .aload_n 0, 1), (648, .iload_n 3, 1), (649, .iconst 1, 1), (650, .iadd, 1), (651, .iaload, 1), (652, .invokevirtual 91, 3), (655, .pop, 1), (656, .aload_n 2, 1), (657, .aload_n 0, 1), (658, .iload_n 3, 1), (659, .iconst 1, 1), (660, .iadd, 1)] := dz_of (by decide +kernel)
theorem dL_law_639 : decode code 639 = .ok (.invokevirtual 90, 3) := dk_dL_law_639.1
theorem dL_law_642 : decode code 642 = .ok (.pop, 1) := dk_dL_law_639.2.1
theorem dL_law_643 : decode code 643 = .ok (.goto 273, 3) := dk_dL_law_639.2.2.1
theorem dL_law_646 : decode code 646 = .ok (.aload_n 1, 1) := dk_dL_law_639.2.2.2.1
theorem dL_law_647 : decode code 647 = .ok (.aload_n 0, 1) := dk_dL_law_639.2.2.2.2.1
theorem dL_law_648 : decode code 648 = .ok (.iload_n 3, 1) := dk_dL_law_639.2.2.2.2.2.1
theorem dL_law_649 : decode code 649 = .ok (.iconst 1, 1) := dk_dL_law_639.2.2.2.2.2.2.1
theorem dL_law_650 : decode code 650 = .ok (.iadd, 1) := dk_dL_law_639.2.2.2.2.2.2.2.1
theorem dk_dL_law_639_8 : dz_C code [(651, .iaload, 1), (652, .invokevirtual 91, 3), (655, .pop, 1), (656, .aload_n 2, 1), (657, .aload_n 0, 1), (658, .iload_n 3, 1), (659, .iconst 1, 1), (660, .iadd, 1)] := dk_dL_law_639.2.2.2.2.2.2.2.2
theorem dL_law_651 : decode code 651 = .ok (.iaload, 1) := dk_dL_law_639_8.1
theorem dL_law_652 : decode code 652 = .ok (.invokevirtual 91, 3) := dk_dL_law_639_8.2.1
theorem dL_law_655 : decode code 655 = .ok (.pop, 1) := dk_dL_law_639_8.2.2.1
theorem dL_law_656 : decode code 656 = .ok (.aload_n 2, 1) := dk_dL_law_639_8.2.2.2.1
theorem dL_law_657 : decode code 657 = .ok (.aload_n 0, 1) := dk_dL_law_639_8.2.2.2.2.1
theorem dL_law_658 : decode code 658 = .ok (.iload_n 3, 1) := dk_dL_law_639_8.2.2.2.2.2.1
theorem dL_law_659 : decode code 659 = .ok (.iconst 1, 1) := dk_dL_law_639_8.2.2.2.2.2.2.1
theorem dL_law_660 : decode code 660 = .ok (.iadd, 1) := dk_dL_law_639_8.2.2.2.2.2.2.2.1
theorem dk_dL_law_661 : dz_C code [(661, .iaload, 1), (662, .invokevirtual 94, 3), (665, .pop, 1), (666, .goto 250, 3), (669, .aload_n 1, 1), (670, .aload_n 0, 1), (671, .iload_n 3, 1), (672, .iconst 1, 1), (673, .iadd, 1), (674, .iaload, 1), (675, .invokevirtual 95, 3), (678, .pop, 1), (679, .aload_n 2, 1), (680, .aload_n 0, 1), (681, .iload_n 3, 1), (682, .iconst 1, 1)] := dz_of (by decide +kernel)
theorem dL_law_661 : decode code 661 = .ok (.iaload, 1) := dk_dL_law_661.1
theorem dL_law_662 : decode code 662 = .ok (.invokevirtual 94, 3) := dk_dL_law_661.2.1
theorem dL_law_665 : decode code 665 = .ok (.pop, 1) := dk_dL_law_661.2.2.1
theorem dL_law_666 : decode code 666 = .ok (.goto 250, 3) := dk_dL_law_661.2.2.2.1
theorem dL_law_669 : decode code 669 = .ok (.aload_n 1, 1) := dk_dL_law_661.2.2.2.2.1
theorem dL_law_670 : decode code 670 = .ok (.aload_n 0, 1) := dk_dL_law_661.2.2.2.2.2.1
theorem dL_law_671 : decode code 671 = .ok (.iload_n 3, 1) := dk_dL_law_661.2.2.2.2.2.2.1
theorem dL_law_672 : decode code 672 = .ok (.iconst 1, 1) := dk_dL_law_661.2.2.2.2.2.2.2.1
theorem dk_dL_law_661_8 : dz_C code [(673, .iadd, 1), (674, .iaload, 1), (675, .invokevirtual 95, 3), (678, .pop, 1), (679, .aload_n 2, 1), (680, .aload_n 0, 1), (681, .iload_n 3, 1), (682, .iconst 1, 1)] := dk_dL_law_661.2.2.2.2.2.2.2.2
theorem dL_law_673 : decode code 673 = .ok (.iadd, 1) := dk_dL_law_661_8.1
theorem dL_law_674 : decode code 674 = .ok (.iaload, 1) := dk_dL_law_661_8.2.1
theorem dL_law_675 : decode code 675 = .ok (.invokevirtual 95, 3) := dk_dL_law_661_8.2.2.1
theorem dL_law_678 : decode code 678 = .ok (.pop, 1) := dk_dL_law_661_8.2.2.2.1
theorem dL_law_679 : decode code 679 = .ok (.aload_n 2, 1) := dk_dL_law_661_8.2.2.2.2.1
theorem dL_law_680 : decode code 680 = .ok (.aload_n 0, 1) := dk_dL_law_661_8.2.2.2.2.2.1
theorem dL_law_681 : decode code 681 = .ok (.iload_n 3, 1) := dk_dL_law_661_8.2.2.2.2.2.2.1
theorem dL_law_682 : decode code 682 = .ok (.iconst 1, 1) := dk_dL_law_661_8.2.2.2.2.2.2.2.1
theorem dk_dL_law_683 : dz_C code [(683, .iadd, 1), (684, .iaload, 1), (685, .invokevirtual 98, 3), (688, .pop, 1), (689, .goto 227, 3), (692, .aload_n 1, 1), (693, .aload_n 0, 1), (694, .iload_n 3, 1), (695, .iconst 1, 1), (696, .iadd, 1), (697, .iaload, 1), (698, .invokevirtual 99, 3), (701, .pop, 1), (702, .aload_n 2, 1), (703, .aload_n 0, 1), (704, .iload_n 3, 1)] := dz_of (by decide +kernel)
theorem dL_law_683 : decode code 683 = .ok (.iadd, 1) := dk_dL_law_683.1
theorem dL_law_684 : decode code 684 = .ok (.iaload, 1) := dk_dL_law_683.2.1
theorem dL_law_685 : decode code 685 = .ok (.invokevirtual 98, 3) := dk_dL_law_683.2.2.1
theorem dL_law_688 : decode code 688 = .ok (.pop, 1) := dk_dL_law_683.2.2.2.1
theorem dL_law_689 : decode code 689 = .ok (.goto 227, 3) := dk_dL_law_683.2.2.2.2.1
theorem dL_law_692 : decode code 692 = .ok (.aload_n 1, 1) := dk_dL_law_683.2.2.2.2.2.1
theorem dL_law_693 : decode code 693 = .ok (.aload_n 0, 1) := dk_dL_law_683.2.2.2.2.2.2.1
theorem dL_law_694 : decode code 694 = .ok (.iload_n 3, 1) := dk_dL_law_683.2.2.2.2.2.2.2.1
theorem dk_dL_law_683_8 : dz_C code [(695, .iconst 1, 1), (696, .iadd, 1), (697, .iaload, 1), (698, .invokevirtual 99, 3), (701, .pop, 1), (702, .aload_n 2, 1), (703, .aload_n 0, 1), (704, .iload_n 3, 1)] := dk_dL_law_683.2.2.2.2.2.2.2.2
theorem dL_law_695 : decode code 695 = .ok (.iconst 1, 1) := dk_dL_law_683_8.1
theorem dL_law_696 : decode code 696 = .ok (.iadd, 1) := dk_dL_law_683_8.2.1
theorem dL_law_697 : decode code 697 = .ok (.iaload, 1) := dk_dL_law_683_8.2.2.1
theorem dL_law_698 : decode code 698 = .ok (.invokevirtual 99, 3) := dk_dL_law_683_8.2.2.2.1
theorem dL_law_701 : decode code 701 = .ok (.pop, 1) := dk_dL_law_683_8.2.2.2.2.1
theorem dL_law_702 : decode code 702 = .ok (.aload_n 2, 1) := dk_dL_law_683_8.2.2.2.2.2.1
theorem dL_law_703 : decode code 703 = .ok (.aload_n 0, 1) := dk_dL_law_683_8.2.2.2.2.2.2.1
theorem dL_law_704 : decode code 704 = .ok (.iload_n 3, 1) := dk_dL_law_683_8.2.2.2.2.2.2.2.1
theorem dk_dL_law_705 : dz_C code [(705, .iconst 1, 1), (706, .iadd, 1), (707, .iaload, 1), (708, .invokevirtual 102, 3), (711, .pop, 1), (712, .goto 204, 3), (715, .aload_n 1, 1), (716, .aload_n 0, 1), (717, .iload_n 3, 1), (718, .iconst 1, 1), (719, .iadd, 1), (720, .iaload, 1), (721, .aload_n 0, 1), (722, .iload_n 3, 1), (723, .iconst 2, 1), (724, .iadd, 1)] := dz_of (by decide +kernel)
theorem dL_law_705 : decode code 705 = .ok (.iconst 1, 1) := dk_dL_law_705.1
theorem dL_law_706 : decode code 706 = .ok (.iadd, 1) := dk_dL_law_705.2.1
theorem dL_law_707 : decode code 707 = .ok (.iaload, 1) := dk_dL_law_705.2.2.1
theorem dL_law_708 : decode code 708 = .ok (.invokevirtual 102, 3) := dk_dL_law_705.2.2.2.1
theorem dL_law_711 : decode code 711 = .ok (.pop, 1) := dk_dL_law_705.2.2.2.2.1
theorem dL_law_712 : decode code 712 = .ok (.goto 204, 3) := dk_dL_law_705.2.2.2.2.2.1
theorem dL_law_715 : decode code 715 = .ok (.aload_n 1, 1) := dk_dL_law_705.2.2.2.2.2.2.1
theorem dL_law_716 : decode code 716 = .ok (.aload_n 0, 1) := dk_dL_law_705.2.2.2.2.2.2.2.1
theorem dk_dL_law_705_8 : dz_C code [(717, .iload_n 3, 1), (718, .iconst 1, 1), (719, .iadd, 1), (720, .iaload, 1), (721, .aload_n 0, 1), (722, .iload_n 3, 1), (723, .iconst 2, 1), (724, .iadd, 1)] := dk_dL_law_705.2.2.2.2.2.2.2.2
theorem dL_law_717 : decode code 717 = .ok (.iload_n 3, 1) := dk_dL_law_705_8.1
theorem dL_law_718 : decode code 718 = .ok (.iconst 1, 1) := dk_dL_law_705_8.2.1
theorem dL_law_719 : decode code 719 = .ok (.iadd, 1) := dk_dL_law_705_8.2.2.1
theorem dL_law_720 : decode code 720 = .ok (.iaload, 1) := dk_dL_law_705_8.2.2.2.1
theorem dL_law_721 : decode code 721 = .ok (.aload_n 0, 1) := dk_dL_law_705_8.2.2.2.2.1
theorem dL_law_722 : decode code 722 = .ok (.iload_n 3, 1) := dk_dL_law_705_8.2.2.2.2.2.1
theorem dL_law_723 : decode code 723 = .ok (.iconst 2, 1) := dk_dL_law_705_8.2.2.2.2.2.2.1
theorem dL_law_724 : decode code 724 = .ok (.iadd, 1) := dk_dL_law_705_8.2.2.2.2.2.2.2.1
theorem dk_dL_law_725 : dz_C code [(725, .iaload, 1), (726, .invokevirtual 103, 3), (729, .pop, 1), (730, .aload_n 2, 1), (731, .aload_n 0, 1), (732, .iload_n 3, 1), (733, .iconst 1, 1), (734, .iadd, 1), (735, .iaload, 1), (736, .aload_n 0, 1), (737, .iload_n 3, 1), (738, .iconst 2, 1), (739, .iadd, 1), (740, .iaload, 1), (741, .invokevirtual 107, 3), (744, .pop, 1)] := dz_of (by decide +kernel)
theorem dL_law_725 : decode code 725 = .ok (.iaload, 1) := dk_dL_law_725.1
theorem dL_law_726 : decode code 726 = .ok (.invokevirtual 103, 3) := dk_dL_law_725.2.1
theorem dL_law_729 : decode code 729 = .ok (.pop, 1) := dk_dL_law_725.2.2.1
theorem dL_law_730 : decode code 730 = .ok (.aload_n 2, 1) := dk_dL_law_725.2.2.2.1
theorem dL_law_731 : decode code 731 = .ok (.aload_n 0, 1) := dk_dL_law_725.2.2.2.2.1
theorem dL_law_732 : decode code 732 = .ok (.iload_n 3, 1) := dk_dL_law_725.2.2.2.2.2.1
theorem dL_law_733 : decode code 733 = .ok (.iconst 1, 1) := dk_dL_law_725.2.2.2.2.2.2.1
theorem dL_law_734 : decode code 734 = .ok (.iadd, 1) := dk_dL_law_725.2.2.2.2.2.2.2.1
theorem dk_dL_law_725_8 : dz_C code [(735, .iaload, 1), (736, .aload_n 0, 1), (737, .iload_n 3, 1), (738, .iconst 2, 1), (739, .iadd, 1), (740, .iaload, 1), (741, .invokevirtual 107, 3), (744, .pop, 1)] := dk_dL_law_725.2.2.2.2.2.2.2.2
theorem dL_law_735 : decode code 735 = .ok (.iaload, 1) := dk_dL_law_725_8.1
theorem dL_law_736 : decode code 736 = .ok (.aload_n 0, 1) := dk_dL_law_725_8.2.1
theorem dL_law_737 : decode code 737 = .ok (.iload_n 3, 1) := dk_dL_law_725_8.2.2.1
theorem dL_law_738 : decode code 738 = .ok (.iconst 2, 1) := dk_dL_law_725_8.2.2.2.1
theorem dL_law_739 : decode code 739 = .ok (.iadd, 1) := dk_dL_law_725_8.2.2.2.2.1
theorem dL_law_740 : decode code 740 = .ok (.iaload, 1) := dk_dL_law_725_8.2.2.2.2.2.1
theorem dL_law_741 : decode code 741 = .ok (.invokevirtual 107, 3) := dk_dL_law_725_8.2.2.2.2.2.2.1
theorem dL_law_744 : decode code 744 = .ok (.pop, 1) := dk_dL_law_725_8.2.2.2.2.2.2.2.1
theorem dk_dL_law_745 : dz_C code [(745, .goto 171, 3), (748, .aload_n 1, 1), (749, .aload_n 0, 1), (750, .iload_n 3, 1), (751, .iconst 1, 1), (752, .iadd, 1), (753, .iaload, 1), (754, .invokevirtual 108, 3), (757, .pop, 1), (758, .aload_n 2, 1), (759, .aload_n 0, 1), (760, .iload_n 3, 1), (761, .iconst 1, 1), (762, .iadd, 1), (763, .iaload, 1), (764, .invokevirtual 111, 3)] := dz_of (by decide +kernel)
theorem dL_law_745 : decode code 745 = .ok (.goto 171, 3) := dk_dL_law_745.1
theorem dL_law_748 : decode code 748 = .ok (.aload_n 1, 1) := dk_dL_law_745.2.1
theorem dL_law_749 : decode code 749 = .ok (.aload_n 0, 1) := dk_dL_law_745.2.2.1
theorem dL_law_750 : decode code 750 = .ok (.iload_n 3, 1) := dk_dL_law_745.2.2.2.1
theorem dL_law_751 : decode code 751 = .ok (.iconst 1, 1) := dk_dL_law_745.2.2.2.2.1
theorem dL_law_752 : decode code 752 = .ok (.iadd, 1) := dk_dL_law_745.2.2.2.2.2.1
theorem dL_law_753 : decode code 753 = .ok (.iaload, 1) := dk_dL_law_745.2.2.2.2.2.2.1
theorem dL_law_754 : decode code 754 = .ok (.invokevirtual 108, 3) := dk_dL_law_745.2.2.2.2.2.2.2.1
theorem dk_dL_law_745_8 : dz_C code [(757, .pop, 1), (758, .aload_n 2, 1), (759, .aload_n 0, 1), (760, .iload_n 3, 1), (761, .iconst 1, 1), (762, .iadd, 1), (763, .iaload, 1), (764, .invokevirtual 111, 3)] := dk_dL_law_745.2.2.2.2.2.2.2.2
theorem dL_law_757 : decode code 757 = .ok (.pop, 1) := dk_dL_law_745_8.1
theorem dL_law_758 : decode code 758 = .ok (.aload_n 2, 1) := dk_dL_law_745_8.2.1
theorem dL_law_759 : decode code 759 = .ok (.aload_n 0, 1) := dk_dL_law_745_8.2.2.1
theorem dL_law_760 : decode code 760 = .ok (.iload_n 3, 1) := dk_dL_law_745_8.2.2.2.1
theorem dL_law_761 : decode code 761 = .ok (.iconst 1, 1) := dk_dL_law_745_8.2.2.2.2.1
theorem dL_law_762 : decode code 762 = .ok (.iadd, 1) := dk_dL_law_745_8.2.2.2.2.2.1
theorem dL_law_763 : decode code 763 = .ok (.iaload, 1) := dk_dL_law_745_8.2.2.2.2.2.2.1
theorem dL_law_764 : decode code 764 = .ok (.invokevirtual 111, 3) := dk_dL_law_745_8.2.2.2.2.2.2.2.1
theorem dk_dL_law_767 : dz_C code [(767, .pop, 1), (768, .goto 148, 3), (771, .aload_n 1, 1), (772, .aload_n 0, 1), (773, .iload_n 3, 1), (774, .iconst 1, 1), (775, .iadd, 1), (776, .iaload, 1), (777, .invokevirtual 112, 3), (780, .pop, 1), (781, .aload_n 2, 1), (782, .aload_n 0, 1), (783, .iload_n 3, 1), (784, .iconst 1, 1), (785, .iadd, 1), (786, .iaload, 1)] := dz_of (by decide +kernel)
theorem dL_law_767 : decode code 767 = .ok (.pop, 1) := dk_dL_law_767.1
theorem dL_law_768 : decode code 768 = .ok (.goto 148, 3) := dk_dL_law_767.2.1
theorem dL_law_771 : decode code 771 = .ok (.aload_n 1, 1) := dk_dL_law_767.2.2.1
theorem dL_law_772 : decode code 772 = .ok (.aload_n 0, 1) := dk_dL_law_767.2.2.2.1
theorem dL_law_773 : decode code 773 = .ok (.iload_n 3, 1) := dk_dL_law_767.2.2.2.2.1
theorem dL_law_774 : decode code 774 = .ok (.iconst 1, 1) := dk_dL_law_767.2.2.2.2.2.1
theorem dL_law_775 : decode code 775 = .ok (.iadd, 1) := dk_dL_law_767.2.2.2.2.2.2.1
theorem dL_law_776 : decode code 776 = .ok (.iaload, 1) := dk_dL_law_767.2.2.2.2.2.2.2.1
theorem dk_dL_law_767_8 : dz_C code [(777, .invokevirtual 112, 3), (780, .pop, 1), (781, .aload_n 2, 1), (782, .aload_n 0, 1), (783, .iload_n 3, 1), (784, .iconst 1, 1), (785, .iadd, 1), (786, .iaload, 1)] := dk_dL_law_767.2.2.2.2.2.2.2.2
theorem dL_law_777 : decode code 777 = .ok (.invokevirtual 112, 3) := dk_dL_law_767_8.1
theorem dL_law_780 : decode code 780 = .ok (.pop, 1) := dk_dL_law_767_8.2.1
theorem dL_law_781 : decode code 781 = .ok (.aload_n 2, 1) := dk_dL_law_767_8.2.2.1
theorem dL_law_782 : decode code 782 = .ok (.aload_n 0, 1) := dk_dL_law_767_8.2.2.2.1
theorem dL_law_783 : decode code 783 = .ok (.iload_n 3, 1) := dk_dL_law_767_8.2.2.2.2.1
theorem dL_law_784 : decode code 784 = .ok (.iconst 1, 1) := dk_dL_law_767_8.2.2.2.2.2.1
theorem dL_law_785 : decode code 785 = .ok (.iadd, 1) := dk_dL_law_767_8.2.2.2.2.2.2.1
theorem dL_law_786 : decode code 786 = .ok (.iaload, 1) := dk_dL_law_767_8.2.2.2.2.2.2.2.1
theorem dk_dL_law_787 : dz_C code [(787, .invokevirtual 115, 3), (790, .pop, 1), (791, .goto 125, 3), (794, .aload_n 1, 1), (795, .invokevirtual 116, 3), (798, .pop, 1), (799, .aload_n 2, 1), (800, .invokevirtual 120, 3), (803, .pop, 1), (804, .goto 112, 3), (807, .aload_n 1, 1), (808, .aload_n 0, 1), (809, .iload_n 3, 1), (810, .iconst 1, 1), (811, .iadd, 1), (812, .iaload, 1)] := dz_of (by decide +kernel)
theorem dL_law_787 : decode code 787 = .ok (.invokevirtual 115, 3) := dk_dL_law_787.1
theorem dL_law_790 : decode code 790 = .ok (.pop, 1) := dk_dL_law_787.2.1
theorem dL_law_791 : decode code 791 = .ok (.goto 125, 3) := dk_dL_law_787.2.2.1
theorem dL_law_794 : decode code 794 = .ok (.aload_n 1, 1) := dk_dL_law_787.2.2.2.1
theorem dL_law_795 : decode code 795 = .ok (.invokevirtual 116, 3) := dk_dL_law_787.2.2.2.2.1
theorem dL_law_798 : decode code 798 = .ok (.pop, 1) := dk_dL_law_787.2.2.2.2.2.1
theorem dL_law_799 : decode code 799 = .ok (.aload_n 2, 1) := dk_dL_law_787.2.2.2.2.2.2.1
theorem dL_law_800 : decode code 800 = .ok (.invokevirtual 120, 3) := dk_dL_law_787.2.2.2.2.2.2.2.1
theorem dk_dL_law_787_8 : dz_C code [(803, .pop, 1), (804, .goto 112, 3), (807, .aload_n 1, 1), (808, .aload_n 0, 1), (809, .iload_n 3, 1), (810, .iconst 1, 1), (811, .iadd, 1), (812, .iaload, 1)] := dk_dL_law_787.2.2.2.2.2.2.2.2
theorem dL_law_803 : decode code 803 = .ok (.pop, 1) := dk_dL_law_787_8.1
theorem dL_law_804 : decode code 804 = .ok (.goto 112, 3) := dk_dL_law_787_8.2.1
theorem dL_law_807 : decode code 807 = .ok (.aload_n 1, 1) := dk_dL_law_787_8.2.2.1
theorem dL_law_808 : decode code 808 = .ok (.aload_n 0, 1) := dk_dL_law_787_8.2.2.2.1
theorem dL_law_809 : decode code 809 = .ok (.iload_n 3, 1) := dk_dL_law_787_8.2.2.2.2.1
theorem dL_law_810 : decode code 810 = .ok (.iconst 1, 1) := dk_dL_law_787_8.2.2.2.2.2.1
theorem dL_law_811 : decode code 811 = .ok (.iadd, 1) := dk_dL_law_787_8.2.2.2.2.2.2.1
theorem dL_law_812 : decode code 812 = .ok (.iaload, 1) := dk_dL_law_787_8.2.2.2.2.2.2.2.1
theorem dk_dL_law_813 : dz_C code [(813, .invokevirtual 121, 3), (816, .pop, 1), (817, .aload_n 2, 1), (818, .aload_n 0, 1), (819, .iload_n 3, 1), (820, .iconst 1, 1), (821, .iadd, 1), (822, .iaload, 1), (823, .invokevirtual 124, 3), (826, .pop, 1), (827, .goto 89, 3), (830, .aload_n 1, 1), (831, .invokevirtual 125, 3), (834, .aload_n 2, 1), (835, .invokevirtual 129, 3), (838, .lcmp, 1)] := dz_of (by decide +kernel)
theorem dL_law_813 : decode code 813 = .ok (.invokevirtual 121, 3) := dk_dL_law_813.1
theorem dL_law_816 : decode code 816 = .ok (.pop, 1) := dk_dL_law_813.2.1
theorem dL_law_817 : decode code 817 = .ok (.aload_n 2, 1) := dk_dL_law_813.2.2.1
theorem dL_law_818 : decode code 818 = .ok (.aload_n 0, 1) := dk_dL_law_813.2.2.2.1
theorem dL_law_819 : decode code 819 = .ok (.iload_n 3, 1) := dk_dL_law_813.2.2.2.2.1
theorem dL_law_820 : decode code 820 = .ok (.iconst 1, 1) := dk_dL_law_813.2.2.2.2.2.1
theorem dL_law_821 : decode code 821 = .ok (.iadd, 1) := dk_dL_law_813.2.2.2.2.2.2.1
theorem dL_law_822 : decode code 822 = .ok (.iaload, 1) := dk_dL_law_813.2.2.2.2.2.2.2.1
theorem dk_dL_law_813_8 : dz_C code [(823, .invokevirtual 124, 3), (826, .pop, 1), (827, .goto 89, 3), (830, .aload_n 1, 1), (831, .invokevirtual 125, 3), (834, .aload_n 2, 1), (835, .invokevirtual 129, 3), (838, .lcmp, 1)] := dk_dL_law_813.2.2.2.2.2.2.2.2
theorem dL_law_823 : decode code 823 = .ok (.invokevirtual 124, 3) := dk_dL_law_813_8.1
theorem dL_law_826 : decode code 826 = .ok (.pop, 1) := dk_dL_law_813_8.2.1
theorem dL_law_827 : decode code 827 = .ok (.goto 89, 3) := dk_dL_law_813_8.2.2.1
theorem dL_law_830 : decode code 830 = .ok (.aload_n 1, 1) := dk_dL_law_813_8.2.2.2.1
theorem dL_law_831 : decode code 831 = .ok (.invokevirtual 125, 3) := dk_dL_law_813_8.2.2.2.2.1
theorem dL_law_834 : decode code 834 = .ok (.aload_n 2, 1) := dk_dL_law_813_8.2.2.2.2.2.1
theorem dL_law_835 : decode code 835 = .ok (.invokevirtual 129, 3) := dk_dL_law_813_8.2.2.2.2.2.2.1
theorem dL_law_838 : decode code 838 = .ok (.lcmp, 1) := dk_dL_law_813_8.2.2.2.2.2.2.2.1
theorem dk_dL_law_839 : dz_C code [(839, .ifCond .eq 77, 3), (842, .iconst 0, 1), (843, .ireturn, 1), (844, .aload_n 1, 1), (845, .invokevirtual 130, 3), (848, .pop, 1), (849, .aload_n 2, 1), (850, .invokevirtual 133, 3), (853, .pop, 1), (854, .goto 62, 3), (857, .aload_n 1, 1), (858, .aload_n 0, 1), (859, .iload_n 3, 1), (860, .iconst 1, 1), (861, .iadd, 1), (862, .iaload, 1)] := dz_of (by decide +kernel)
theorem dL_law_839 : decode code 839 = .ok (.ifCond .eq 77, 3) := dk_dL_law_839.1
theorem dL_law_842 : decode code 842 = .ok (.iconst 0, 1) := dk_dL_law_839.2.1
theorem dL_law_843 : decode code 843 = .ok (.ireturn, 1) := dk_dL_law_839.2.2.1
theorem dL_law_844 : decode code 844 = .ok (.aload_n 1, 1) := dk_dL_law_839.2.2.2.1
theorem dL_law_845 : decode code 845 = .ok (.invokevirtual 130, 3) := dk_dL_law_839.2.2.2.2.1
theorem dL_law_848 : decode code 848 = .ok (.pop, 1) := dk_dL_law_839.2.2.2.2.2.1
theorem dL_law_849 : decode code 849 = .ok (.aload_n 2, 1) := dk_dL_law_839.2.2.2.2.2.2.1
theorem dL_law_850 : decode code 850 = .ok (.invokevirtual 133, 3) := dk_dL_law_839.2.2.2.2.2.2.2.1
theorem dk_dL_law_839_8 : dz_C code [(853, .pop, 1), (854, .goto 62, 3), (857, .aload_n 1, 1), (858, .aload_n 0, 1), (859, .iload_n 3, 1), (860, .iconst 1, 1), (861, .iadd, 1), (862, .iaload, 1)] := dk_dL_law_839.2.2.2.2.2.2.2.2
theorem dL_law_853 : decode code 853 = .ok (.pop, 1) := dk_dL_law_839_8.1
theorem dL_law_854 : decode code 854 = .ok (.goto 62, 3) := dk_dL_law_839_8.2.1
theorem dL_law_857 : decode code 857 = .ok (.aload_n 1, 1) := dk_dL_law_839_8.2.2.1
theorem dL_law_858 : decode code 858 = .ok (.aload_n 0, 1) := dk_dL_law_839_8.2.2.2.1
theorem dL_law_859 : decode code 859 = .ok (.iload_n 3, 1) := dk_dL_law_839_8.2.2.2.2.1
theorem dL_law_860 : decode code 860 = .ok (.iconst 1, 1) := dk_dL_law_839_8.2.2.2.2.2.1
theorem dL_law_861 : decode code 861 = .ok (.iadd, 1) := dk_dL_law_839_8.2.2.2.2.2.2.1
theorem dL_law_862 : decode code 862 = .ok (.iaload, 1) := dk_dL_law_839_8.2.2.2.2.2.2.2.1
theorem dk_dL_law_863 : dz_C code [(863, .invokevirtual 134, 3), (866, .pop, 1), (867, .aload_n 2, 1), (868, .aload_n 0, 1), (869, .iload_n 3, 1), (870, .iconst 1, 1), (871, .iadd, 1), (872, .iaload, 1), (873, .invokevirtual 137, 3), (876, .pop, 1), (877, .goto 39, 3), (880, .aload_n 1, 1), (881, .invokevirtual 138, 3), (884, .pop, 1), (885, .aload_n 2, 1), (886, .invokevirtual 141, 3)] := dz_of (by decide +kernel)
theorem dL_law_863 : decode code 863 = .ok (.invokevirtual 134, 3) := dk_dL_law_863.1
theorem dL_law_866 : decode code 866 = .ok (.pop, 1) := dk_dL_law_863.2.1
theorem dL_law_867 : decode code 867 = .ok (.aload_n 2, 1) := dk_dL_law_863.2.2.1
theorem dL_law_868 : decode code 868 = .ok (.aload_n 0, 1) := dk_dL_law_863.2.2.2.1
theorem dL_law_869 : decode code 869 = .ok (.iload_n 3, 1) := dk_dL_law_863.2.2.2.2.1
theorem dL_law_870 : decode code 870 = .ok (.iconst 1, 1) := dk_dL_law_863.2.2.2.2.2.1
theorem dL_law_871 : decode code 871 = .ok (.iadd, 1) := dk_dL_law_863.2.2.2.2.2.2.1
theorem dL_law_872 : decode code 872 = .ok (.iaload, 1) := dk_dL_law_863.2.2.2.2.2.2.2.1
theorem dk_dL_law_863_8 : dz_C code [(873, .invokevirtual 137, 3), (876, .pop, 1), (877, .goto 39, 3), (880, .aload_n 1, 1), (881, .invokevirtual 138, 3), (884, .pop, 1), (885, .aload_n 2, 1), (886, .invokevirtual 141, 3)] := dk_dL_law_863.2.2.2.2.2.2.2.2
theorem dL_law_873 : decode code 873 = .ok (.invokevirtual 137, 3) := dk_dL_law_863_8.1
theorem dL_law_876 : decode code 876 = .ok (.pop, 1) := dk_dL_law_863_8.2.1
theorem dL_law_877 : decode code 877 = .ok (.goto 39, 3) := dk_dL_law_863_8.2.2.1
theorem dL_law_880 : decode code 880 = .ok (.aload_n 1, 1) := dk_dL_law_863_8.2.2.2.1
theorem dL_law_881 : decode code 881 = .ok (.invokevirtual 138, 3) := dk_dL_law_863_8.2.2.2.2.1
theorem dL_law_884 : decode code 884 = .ok (.pop, 1) := dk_dL_law_863_8.2.2.2.2.2.1
theorem dL_law_885 : decode code 885 = .ok (.aload_n 2, 1) := dk_dL_law_863_8.2.2.2.2.2.2.1
theorem dL_law_886 : decode code 886 = .ok (.invokevirtual 141, 3) := dk_dL_law_863_8.2.2.2.2.2.2.2.1
theorem dk_dL_law_889 : dz_C code [(889, .pop, 1), (890, .goto 26, 3), (893, .aload_n 1, 1), (894, .aload_n 0, 1), (895, .iload_n 3, 1), (896, .iconst 1, 1), (897, .iadd, 1), (898, .iaload, 1), (899, .invokevirtual 142, 3), (902, .pop, 1), (903, .aload_n 2, 1), (904, .aload_n 0, 1), (905, .iload_n 3, 1), (906, .iconst 1, 1), (907, .iadd, 1), (908, .iaload, 1)] := dz_of (by decide +kernel)
theorem dL_law_889 : decode code 889 = .ok (.pop, 1) := dk_dL_law_889.1
theorem dL_law_890 : decode code 890 = .ok (.goto 26, 3) := dk_dL_law_889.2.1
theorem dL_law_893 : decode code 893 = .ok (.aload_n 1, 1) := dk_dL_law_889.2.2.1
theorem dL_law_894 : decode code 894 = .ok (.aload_n 0, 1) := dk_dL_law_889.2.2.2.1
theorem dL_law_895 : decode code 895 = .ok (.iload_n 3, 1) := dk_dL_law_889.2.2.2.2.1
theorem dL_law_896 : decode code 896 = .ok (.iconst 1, 1) := dk_dL_law_889.2.2.2.2.2.1
theorem dL_law_897 : decode code 897 = .ok (.iadd, 1) := dk_dL_law_889.2.2.2.2.2.2.1
theorem dL_law_898 : decode code 898 = .ok (.iaload, 1) := dk_dL_law_889.2.2.2.2.2.2.2.1
theorem dk_dL_law_889_8 : dz_C code [(899, .invokevirtual 142, 3), (902, .pop, 1), (903, .aload_n 2, 1), (904, .aload_n 0, 1), (905, .iload_n 3, 1), (906, .iconst 1, 1), (907, .iadd, 1), (908, .iaload, 1)] := dk_dL_law_889.2.2.2.2.2.2.2.2
theorem dL_law_899 : decode code 899 = .ok (.invokevirtual 142, 3) := dk_dL_law_889_8.1
theorem dL_law_902 : decode code 902 = .ok (.pop, 1) := dk_dL_law_889_8.2.1
theorem dL_law_903 : decode code 903 = .ok (.aload_n 2, 1) := dk_dL_law_889_8.2.2.1
theorem dL_law_904 : decode code 904 = .ok (.aload_n 0, 1) := dk_dL_law_889_8.2.2.2.1
theorem dL_law_905 : decode code 905 = .ok (.iload_n 3, 1) := dk_dL_law_889_8.2.2.2.2.1
theorem dL_law_906 : decode code 906 = .ok (.iconst 1, 1) := dk_dL_law_889_8.2.2.2.2.2.1
theorem dL_law_907 : decode code 907 = .ok (.iadd, 1) := dk_dL_law_889_8.2.2.2.2.2.2.1
theorem dL_law_908 : decode code 908 = .ok (.iaload, 1) := dk_dL_law_889_8.2.2.2.2.2.2.2.1
theorem dk_dL_law_909 : dz_C code [(909, .invokevirtual 145, 3), (912, .pop, 1), (913, .goto 3, 3), (916, .iinc 3 6, 3), (919, .goto (-901), 3), (922, .iconst 1, 1), (923, .ireturn, 1)] := dz_of (by decide +kernel)
theorem dL_law_909 : decode code 909 = .ok (.invokevirtual 145, 3) := dk_dL_law_909.1
theorem dL_law_912 : decode code 912 = .ok (.pop, 1) := dk_dL_law_909.2.1
theorem dL_law_913 : decode code 913 = .ok (.goto 3, 3) := dk_dL_law_909.2.2.1
theorem dL_law_916 : decode code 916 = .ok (.iinc 3 6, 3) := dk_dL_law_909.2.2.2.1
theorem dL_law_919 : decode code 919 = .ok (.goto (-901), 3) := dk_dL_law_909.2.2.2.2.1
theorem dL_law_922 : decode code 922 = .ok (.iconst 1, 1) := dk_dL_law_909.2.2.2.2.2.1
theorem dL_law_923 : decode code 923 = .ok (.ireturn, 1) := dk_dL_law_909.2.2.2.2.2.2.1
