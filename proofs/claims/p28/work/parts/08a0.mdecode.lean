theorem dk_dX10_acts_0 : dz_C cX10_acts [(0, .aload_n 0, 1), (1, .getfield 152, 3), (4, .iload_n 2, 1), (5, .baload, 1), (6, .ifCond .eq 37, 3), (9, .aload_n 0, 1), (10, .getfield 469, 3), (13, .aload_n 0, 1), (14, .iload_n 1, 1), (15, .invokevirtual 481, 3), (18, .if_icmp .lt 25, 3), (21, .aload_n 0, 1), (22, .getfield 158, 3), (25, .iload_n 1, 1), (26, .iload_n 2, 1), (27, .iastore, 1)] := dz_of (by decide +kernel)
theorem dX10_acts_0 : decode cX10_acts 0 = .ok (.aload_n 0, 1) := dk_dX10_acts_0.1
theorem dX10_acts_1 : decode cX10_acts 1 = .ok (.getfield 152, 3) := dk_dX10_acts_0.2.1
theorem dX10_acts_4 : decode cX10_acts 4 = .ok (.iload_n 2, 1) := dk_dX10_acts_0.2.2.1
theorem dX10_acts_5 : decode cX10_acts 5 = .ok (.baload, 1) := dk_dX10_acts_0.2.2.2.1
theorem dX10_acts_6 : decode cX10_acts 6 = .ok (.ifCond .eq 37, 3) := dk_dX10_acts_0.2.2.2.2.1
theorem dX10_acts_9 : decode cX10_acts 9 = .ok (.aload_n 0, 1) := dk_dX10_acts_0.2.2.2.2.2.1
theorem dX10_acts_10 : decode cX10_acts 10 = .ok (.getfield 469, 3) := dk_dX10_acts_0.2.2.2.2.2.2.1
theorem dX10_acts_13 : decode cX10_acts 13 = .ok (.aload_n 0, 1) := dk_dX10_acts_0.2.2.2.2.2.2.2.1
theorem dk_dX10_acts_0_8 : dz_C cX10_acts [(14, .iload_n 1, 1), (15, .invokevirtual 481, 3), (18, .if_icmp .lt 25, 3), (21, .aload_n 0, 1), (22, .getfield 158, 3), (25, .iload_n 1, 1), (26, .iload_n 2, 1), (27, .iastore, 1)] := dk_dX10_acts_0.2.2.2.2.2.2.2.2
theorem dX10_acts_14 : decode cX10_acts 14 = .ok (.iload_n 1, 1) := dk_dX10_acts_0_8.1
theorem dX10_acts_15 : decode cX10_acts 15 = .ok (.invokevirtual 481, 3) := dk_dX10_acts_0_8.2.1
theorem dX10_acts_18 : decode cX10_acts 18 = .ok (.if_icmp .lt 25, 3) := dk_dX10_acts_0_8.2.2.1
theorem dX10_acts_21 : decode cX10_acts 21 = .ok (.aload_n 0, 1) := dk_dX10_acts_0_8.2.2.2.1
theorem dX10_acts_22 : decode cX10_acts 22 = .ok (.getfield 158, 3) := dk_dX10_acts_0_8.2.2.2.2.1
theorem dX10_acts_25 : decode cX10_acts 25 = .ok (.iload_n 1, 1) := dk_dX10_acts_0_8.2.2.2.2.2.1
theorem dX10_acts_26 : decode cX10_acts 26 = .ok (.iload_n 2, 1) := dk_dX10_acts_0_8.2.2.2.2.2.2.1
theorem dX10_acts_27 : decode cX10_acts 27 = .ok (.iastore, 1) := dk_dX10_acts_0_8.2.2.2.2.2.2.2.1
theorem dk_dX10_acts_28 : dz_C cX10_acts [(28, .aload_n 0, 1), (29, .getfield 155, 3), (32, .iload_n 1, 1), (33, .iconst 0, 1), (34, .bastore, 1), (35, .aload_n 0, 1), (36, .getfield 173, 3), (39, .iload_n 2, 1), (40, .iconst 1, 1), (41, .bastore, 1), (42, .return_, 1), (43, .aload_n 0, 1), (44, .iload_n 2, 1), (45, .putfield 454, 3), (48, .iload_n 3, 1), (49, .iload_n 1, 1)] := dz_of (by decide +kernel)
theorem dX10_acts_28 : decode cX10_acts 28 = .ok (.aload_n 0, 1) := dk_dX10_acts_28.1
theorem dX10_acts_29 : decode cX10_acts 29 = .ok (.getfield 155, 3) := dk_dX10_acts_28.2.1
theorem dX10_acts_32 : decode cX10_acts 32 = .ok (.iload_n 1, 1) := dk_dX10_acts_28.2.2.1
theorem dX10_acts_33 : decode cX10_acts 33 = .ok (.iconst 0, 1) := dk_dX10_acts_28.2.2.2.1
theorem dX10_acts_34 : decode cX10_acts 34 = .ok (.bastore, 1) := dk_dX10_acts_28.2.2.2.2.1
theorem dX10_acts_35 : decode cX10_acts 35 = .ok (.aload_n 0, 1) := dk_dX10_acts_28.2.2.2.2.2.1
theorem dX10_acts_36 : decode cX10_acts 36 = .ok (.getfield 173, 3) := dk_dX10_acts_28.2.2.2.2.2.2.1
theorem dX10_acts_39 : decode cX10_acts 39 = .ok (.iload_n 2, 1) := dk_dX10_acts_28.2.2.2.2.2.2.2.1
theorem dk_dX10_acts_28_8 : dz_C cX10_acts [(40, .iconst 1, 1), (41, .bastore, 1), (42, .return_, 1), (43, .aload_n 0, 1), (44, .iload_n 2, 1), (45, .putfield 454, 3), (48, .iload_n 3, 1), (49, .iload_n 1, 1)] := dk_dX10_acts_28.2.2.2.2.2.2.2.2
theorem dX10_acts_40 : decode cX10_acts 40 = .ok (.iconst 1, 1) := dk_dX10_acts_28_8.1
theorem dX10_acts_41 : decode cX10_acts 41 = .ok (.bastore, 1) := dk_dX10_acts_28_8.2.1
theorem dX10_acts_42 : decode cX10_acts 42 = .ok (.return_, 1) := dk_dX10_acts_28_8.2.2.1
theorem dX10_acts_43 : decode cX10_acts 43 = .ok (.aload_n 0, 1) := dk_dX10_acts_28_8.2.2.2.1
theorem dX10_acts_44 : decode cX10_acts 44 = .ok (.iload_n 2, 1) := dk_dX10_acts_28_8.2.2.2.2.1
theorem dX10_acts_45 : decode cX10_acts 45 = .ok (.putfield 454, 3) := dk_dX10_acts_28_8.2.2.2.2.2.1
theorem dX10_acts_48 : decode cX10_acts 48 = .ok (.iload_n 3, 1) := dk_dX10_acts_28_8.2.2.2.2.2.2.1
theorem dX10_acts_49 : decode cX10_acts 49 = .ok (.iload_n 1, 1) := dk_dX10_acts_28_8.2.2.2.2.2.2.2.1
theorem dk_dX10_acts_50 : dz_C cX10_acts [(50, .ishr, 1), (51, .iconst 1, 1), (52, .iand, 1), (53, .iconst 1, 1), (54, .if_icmp .eq 24, 3), (57, .aload_n 0, 1), (58, .getfield 130, 3), (61, .iconst 4, 1), (62, .iaload, 1), (63, .iconst (-1), 1), (64, .if_icmp .eq 14, 3), (67, .aload_n 0, 1), (68, .iconst 1, 1), (69, .iload_n 1, 1), (70, .invokevirtual 457, 3), (73, .lconst 1, 1)] := dz_of (by decide +kernel)
theorem dX10_acts_50 : decode cX10_acts 50 = .ok (.ishr, 1) := dk_dX10_acts_50.1
theorem dX10_acts_51 : decode cX10_acts 51 = .ok (.iconst 1, 1) := dk_dX10_acts_50.2.1
theorem dX10_acts_52 : decode cX10_acts 52 = .ok (.iand, 1) := dk_dX10_acts_50.2.2.1
theorem dX10_acts_53 : decode cX10_acts 53 = .ok (.iconst 1, 1) := dk_dX10_acts_50.2.2.2.1
theorem dX10_acts_54 : decode cX10_acts 54 = .ok (.if_icmp .eq 24, 3) := dk_dX10_acts_50.2.2.2.2.1
theorem dX10_acts_57 : decode cX10_acts 57 = .ok (.aload_n 0, 1) := dk_dX10_acts_50.2.2.2.2.2.1
theorem dX10_acts_58 : decode cX10_acts 58 = .ok (.getfield 130, 3) := dk_dX10_acts_50.2.2.2.2.2.2.1
theorem dX10_acts_61 : decode cX10_acts 61 = .ok (.iconst 4, 1) := dk_dX10_acts_50.2.2.2.2.2.2.2.1
theorem dk_dX10_acts_50_8 : dz_C cX10_acts [(62, .iaload, 1), (63, .iconst (-1), 1), (64, .if_icmp .eq 14, 3), (67, .aload_n 0, 1), (68, .iconst 1, 1), (69, .iload_n 1, 1), (70, .invokevirtual 457, 3), (73, .lconst 1, 1)] := dk_dX10_acts_50.2.2.2.2.2.2.2.2
theorem dX10_acts_62 : decode cX10_acts 62 = .ok (.iaload, 1) := dk_dX10_acts_50_8.1
theorem dX10_acts_63 : decode cX10_acts 63 = .ok (.iconst (-1), 1) := dk_dX10_acts_50_8.2.1
theorem dX10_acts_64 : decode cX10_acts 64 = .ok (.if_icmp .eq 14, 3) := dk_dX10_acts_50_8.2.2.1
theorem dX10_acts_67 : decode cX10_acts 67 = .ok (.aload_n 0, 1) := dk_dX10_acts_50_8.2.2.2.1
theorem dX10_acts_68 : decode cX10_acts 68 = .ok (.iconst 1, 1) := dk_dX10_acts_50_8.2.2.2.2.1
theorem dX10_acts_69 : decode cX10_acts 69 = .ok (.iload_n 1, 1) := dk_dX10_acts_50_8.2.2.2.2.2.1
theorem dX10_acts_70 : decode cX10_acts 70 = .ok (.invokevirtual 457, 3) := dk_dX10_acts_50_8.2.2.2.2.2.2.1
theorem dX10_acts_73 : decode cX10_acts 73 = .ok (.lconst 1, 1) := dk_dX10_acts_50_8.2.2.2.2.2.2.2.1
theorem dk_dX10_acts_74 : dz_C cX10_acts [(74, .lcmp, 1), (75, .ifCond .eq 14, 3), (78, .aload_n 0, 1), (79, .getfield 161, 3), (82, .iload_n 1, 1), (83, .dup2, 1), (84, .iaload, 1), (85, .iconst 1, 1), (86, .iadd, 1), (87, .iastore, 1), (88, .return_, 1), (89, .aload_n 0, 1), (90, .getfield 158, 3), (93, .iload_n 1, 1), (94, .iload_n 2, 1), (95, .iastore, 1)] := dz_of (by decide +kernel)
theorem dX10_acts_74 : decode cX10_acts 74 = .ok (.lcmp, 1) := dk_dX10_acts_74.1
theorem dX10_acts_75 : decode cX10_acts 75 = .ok (.ifCond .eq 14, 3) := dk_dX10_acts_74.2.1
theorem dX10_acts_78 : decode cX10_acts 78 = .ok (.aload_n 0, 1) := dk_dX10_acts_74.2.2.1
theorem dX10_acts_79 : decode cX10_acts 79 = .ok (.getfield 161, 3) := dk_dX10_acts_74.2.2.2.1
theorem dX10_acts_82 : decode cX10_acts 82 = .ok (.iload_n 1, 1) := dk_dX10_acts_74.2.2.2.2.1
theorem dX10_acts_83 : decode cX10_acts 83 = .ok (.dup2, 1) := dk_dX10_acts_74.2.2.2.2.2.1
theorem dX10_acts_84 : decode cX10_acts 84 = .ok (.iaload, 1) := dk_dX10_acts_74.2.2.2.2.2.2.1
theorem dX10_acts_85 : decode cX10_acts 85 = .ok (.iconst 1, 1) := dk_dX10_acts_74.2.2.2.2.2.2.2.1
theorem dk_dX10_acts_74_8 : dz_C cX10_acts [(86, .iadd, 1), (87, .iastore, 1), (88, .return_, 1), (89, .aload_n 0, 1), (90, .getfield 158, 3), (93, .iload_n 1, 1), (94, .iload_n 2, 1), (95, .iastore, 1)] := dk_dX10_acts_74.2.2.2.2.2.2.2.2
theorem dX10_acts_86 : decode cX10_acts 86 = .ok (.iadd, 1) := dk_dX10_acts_74_8.1
theorem dX10_acts_87 : decode cX10_acts 87 = .ok (.iastore, 1) := dk_dX10_acts_74_8.2.1
theorem dX10_acts_88 : decode cX10_acts 88 = .ok (.return_, 1) := dk_dX10_acts_74_8.2.2.1
theorem dX10_acts_89 : decode cX10_acts 89 = .ok (.aload_n 0, 1) := dk_dX10_acts_74_8.2.2.2.1
theorem dX10_acts_90 : decode cX10_acts 90 = .ok (.getfield 158, 3) := dk_dX10_acts_74_8.2.2.2.2.1
theorem dX10_acts_93 : decode cX10_acts 93 = .ok (.iload_n 1, 1) := dk_dX10_acts_74_8.2.2.2.2.2.1
theorem dX10_acts_94 : decode cX10_acts 94 = .ok (.iload_n 2, 1) := dk_dX10_acts_74_8.2.2.2.2.2.2.1
theorem dX10_acts_95 : decode cX10_acts 95 = .ok (.iastore, 1) := dk_dX10_acts_74_8.2.2.2.2.2.2.2.1
theorem dk_dX10_acts_96 : dz_C cX10_acts [(96, .aload_n 0, 1), (97, .getfield 155, 3), (100, .iload_n 1, 1), (101, .iconst 0, 1), (102, .bastore, 1), (103, .aload_n 0, 1), (104, .getfield 164, 3), (107, .iload_n 1, 1), (108, .iconst 1, 1), (109, .bastore, 1), (110, .aload_n 0, 1), (111, .getfield 167, 3), (114, .iload_n 1, 1), (115, .aload_n 0, 1), (116, .iload_n 1, 1), (117, .iload_n 2, 1)] := dz_of (by decide +kernel)
theorem dX10_acts_96 : decode cX10_acts 96 = .ok (.aload_n 0, 1) := dk_dX10_acts_96.1
theorem dX10_acts_97 : decode cX10_acts 97 = .ok (.getfield 155, 3) := dk_dX10_acts_96.2.1
theorem dX10_acts_100 : decode cX10_acts 100 = .ok (.iload_n 1, 1) := dk_dX10_acts_96.2.2.1
theorem dX10_acts_101 : decode cX10_acts 101 = .ok (.iconst 0, 1) := dk_dX10_acts_96.2.2.2.1
theorem dX10_acts_102 : decode cX10_acts 102 = .ok (.bastore, 1) := dk_dX10_acts_96.2.2.2.2.1
theorem dX10_acts_103 : decode cX10_acts 103 = .ok (.aload_n 0, 1) := dk_dX10_acts_96.2.2.2.2.2.1
theorem dX10_acts_104 : decode cX10_acts 104 = .ok (.getfield 164, 3) := dk_dX10_acts_96.2.2.2.2.2.2.1
theorem dX10_acts_107 : decode cX10_acts 107 = .ok (.iload_n 1, 1) := dk_dX10_acts_96.2.2.2.2.2.2.2.1
theorem dk_dX10_acts_96_8 : dz_C cX10_acts [(108, .iconst 1, 1), (109, .bastore, 1), (110, .aload_n 0, 1), (111, .getfield 167, 3), (114, .iload_n 1, 1), (115, .aload_n 0, 1), (116, .iload_n 1, 1), (117, .iload_n 2, 1)] := dk_dX10_acts_96.2.2.2.2.2.2.2.2
theorem dX10_acts_108 : decode cX10_acts 108 = .ok (.iconst 1, 1) := dk_dX10_acts_96_8.1
theorem dX10_acts_109 : decode cX10_acts 109 = .ok (.bastore, 1) := dk_dX10_acts_96_8.2.1
theorem dX10_acts_110 : decode cX10_acts 110 = .ok (.aload_n 0, 1) := dk_dX10_acts_96_8.2.2.1
theorem dX10_acts_111 : decode cX10_acts 111 = .ok (.getfield 167, 3) := dk_dX10_acts_96_8.2.2.2.1
theorem dX10_acts_114 : decode cX10_acts 114 = .ok (.iload_n 1, 1) := dk_dX10_acts_96_8.2.2.2.2.1
theorem dX10_acts_115 : decode cX10_acts 115 = .ok (.aload_n 0, 1) := dk_dX10_acts_96_8.2.2.2.2.2.1
theorem dX10_acts_116 : decode cX10_acts 116 = .ok (.iload_n 1, 1) := dk_dX10_acts_96_8.2.2.2.2.2.2.1
theorem dX10_acts_117 : decode cX10_acts 117 = .ok (.iload_n 2, 1) := dk_dX10_acts_96_8.2.2.2.2.2.2.2.1
theorem dk_dX10_acts_118 : dz_C cX10_acts [(118, .invokevirtual 484, 3), (121, .bastore, 1), (122, .aload_n 0, 1), (123, .dup, 1), (124, .getfield 488, 3), (127, .iconst 1, 1), (128, .iadd, 1), (129, .putfield 488, 3), (132, .return_, 1)] := dz_of (by decide +kernel)
theorem dX10_acts_118 : decode cX10_acts 118 = .ok (.invokevirtual 484, 3) := dk_dX10_acts_118.1
theorem dX10_acts_121 : decode cX10_acts 121 = .ok (.bastore, 1) := dk_dX10_acts_118.2.1
theorem dX10_acts_122 : decode cX10_acts 122 = .ok (.aload_n 0, 1) := dk_dX10_acts_118.2.2.1
theorem dX10_acts_123 : decode cX10_acts 123 = .ok (.dup, 1) := dk_dX10_acts_118.2.2.2.1
theorem dX10_acts_124 : decode cX10_acts 124 = .ok (.getfield 488, 3) := dk_dX10_acts_118.2.2.2.2.1
theorem dX10_acts_127 : decode cX10_acts 127 = .ok (.iconst 1, 1) := dk_dX10_acts_118.2.2.2.2.2.1
theorem dX10_acts_128 : decode cX10_acts 128 = .ok (.iadd, 1) := dk_dX10_acts_118.2.2.2.2.2.2.1
theorem dX10_acts_129 : decode cX10_acts 129 = .ok (.putfield 488, 3) := dk_dX10_acts_118.2.2.2.2.2.2.2.1
theorem dk_dX10_acts_118_8 : dz_C cX10_acts [(132, .return_, 1)] := dk_dX10_acts_118.2.2.2.2.2.2.2.2
theorem dX10_acts_132 : decode cX10_acts 132 = .ok (.return_, 1) := dk_dX10_acts_118_8.1
theorem dk_dX10_arrive_0 : dz_C cX10_arrive [(0, .iconst 0, 1), (1, .istore_n 3, 1), (2, .iload_n 3, 1), (3, .aload_n 0, 1), (4, .invokevirtual 433, 3), (7, .if_icmp .ge 79, 3), (10, .aload_n 0, 1), (11, .iload_n 3, 1), (12, .invokevirtual 460, 3), (15, .iload_n 1, 1), (16, .if_icmp .ne 64, 3), (19, .iload_n 2, 1), (20, .iload_n 3, 1), (21, .ishr, 1), (22, .iconst 1, 1), (23, .iand, 1)] := dz_of (by decide +kernel)
theorem dX10_arrive_0 : decode cX10_arrive 0 = .ok (.iconst 0, 1) := dk_dX10_arrive_0.1
theorem dX10_arrive_1 : decode cX10_arrive 1 = .ok (.istore_n 3, 1) := dk_dX10_arrive_0.2.1
theorem dX10_arrive_2 : decode cX10_arrive 2 = .ok (.iload_n 3, 1) := dk_dX10_arrive_0.2.2.1
theorem dX10_arrive_3 : decode cX10_arrive 3 = .ok (.aload_n 0, 1) := dk_dX10_arrive_0.2.2.2.1
theorem dX10_arrive_4 : decode cX10_arrive 4 = .ok (.invokevirtual 433, 3) := dk_dX10_arrive_0.2.2.2.2.1
theorem dX10_arrive_7 : decode cX10_arrive 7 = .ok (.if_icmp .ge 79, 3) := dk_dX10_arrive_0.2.2.2.2.2.1
theorem dX10_arrive_10 : decode cX10_arrive 10 = .ok (.aload_n 0, 1) := dk_dX10_arrive_0.2.2.2.2.2.2.1
theorem dX10_arrive_11 : decode cX10_arrive 11 = .ok (.iload_n 3, 1) := dk_dX10_arrive_0.2.2.2.2.2.2.2.1
theorem dk_dX10_arrive_0_8 : dz_C cX10_arrive [(12, .invokevirtual 460, 3), (15, .iload_n 1, 1), (16, .if_icmp .ne 64, 3), (19, .iload_n 2, 1), (20, .iload_n 3, 1), (21, .ishr, 1), (22, .iconst 1, 1), (23, .iand, 1)] := dk_dX10_arrive_0.2.2.2.2.2.2.2.2
theorem dX10_arrive_12 : decode cX10_arrive 12 = .ok (.invokevirtual 460, 3) := dk_dX10_arrive_0_8.1
theorem dX10_arrive_15 : decode cX10_arrive 15 = .ok (.iload_n 1, 1) := dk_dX10_arrive_0_8.2.1
theorem dX10_arrive_16 : decode cX10_arrive 16 = .ok (.if_icmp .ne 64, 3) := dk_dX10_arrive_0_8.2.2.1
theorem dX10_arrive_19 : decode cX10_arrive 19 = .ok (.iload_n 2, 1) := dk_dX10_arrive_0_8.2.2.2.1
theorem dX10_arrive_20 : decode cX10_arrive 20 = .ok (.iload_n 3, 1) := dk_dX10_arrive_0_8.2.2.2.2.1
theorem dX10_arrive_21 : decode cX10_arrive 21 = .ok (.ishr, 1) := dk_dX10_arrive_0_8.2.2.2.2.2.1
theorem dX10_arrive_22 : decode cX10_arrive 22 = .ok (.iconst 1, 1) := dk_dX10_arrive_0_8.2.2.2.2.2.2.1
theorem dX10_arrive_23 : decode cX10_arrive 23 = .ok (.iand, 1) := dk_dX10_arrive_0_8.2.2.2.2.2.2.2.1
theorem dk_dX10_arrive_24 : dz_C cX10_arrive [(24, .iconst 1, 1), (25, .if_icmp .ne 6, 3), (28, .goto 52, 3), (31, .aload_n 0, 1), (32, .getfield 155, 3), (35, .iload_n 3, 1), (36, .iconst 1, 1), (37, .bastore, 1), (38, .aload_n 0, 1), (39, .aload_n 0, 1), (40, .iload_n 3, 1), (41, .invokevirtual 436, 3), (44, .invokevirtual 463, 3), (47, .ifCond .eq 33, 3), (50, .iload_n 1, 1), (51, .ifCond .le 17, 3)] := dz_of (by decide +kernel)
theorem dX10_arrive_24 : decode cX10_arrive 24 = .ok (.iconst 1, 1) := dk_dX10_arrive_24.1
theorem dX10_arrive_25 : decode cX10_arrive 25 = .ok (.if_icmp .ne 6, 3) := dk_dX10_arrive_24.2.1
theorem dX10_arrive_28 : decode cX10_arrive 28 = .ok (.goto 52, 3) := dk_dX10_arrive_24.2.2.1
theorem dX10_arrive_31 : decode cX10_arrive 31 = .ok (.aload_n 0, 1) := dk_dX10_arrive_24.2.2.2.1
theorem dX10_arrive_32 : decode cX10_arrive 32 = .ok (.getfield 155, 3) := dk_dX10_arrive_24.2.2.2.2.1
theorem dX10_arrive_35 : decode cX10_arrive 35 = .ok (.iload_n 3, 1) := dk_dX10_arrive_24.2.2.2.2.2.1
theorem dX10_arrive_36 : decode cX10_arrive 36 = .ok (.iconst 1, 1) := dk_dX10_arrive_24.2.2.2.2.2.2.1
theorem dX10_arrive_37 : decode cX10_arrive 37 = .ok (.bastore, 1) := dk_dX10_arrive_24.2.2.2.2.2.2.2.1
theorem dk_dX10_arrive_24_8 : dz_C cX10_arrive [(38, .aload_n 0, 1), (39, .aload_n 0, 1), (40, .iload_n 3, 1), (41, .invokevirtual 436, 3), (44, .invokevirtual 463, 3), (47, .ifCond .eq 33, 3), (50, .iload_n 1, 1), (51, .ifCond .le 17, 3)] := dk_dX10_arrive_24.2.2.2.2.2.2.2.2
theorem dX10_arrive_38 : decode cX10_arrive 38 = .ok (.aload_n 0, 1) := dk_dX10_arrive_24_8.1
theorem dX10_arrive_39 : decode cX10_arrive 39 = .ok (.aload_n 0, 1) := dk_dX10_arrive_24_8.2.1
theorem dX10_arrive_40 : decode cX10_arrive 40 = .ok (.iload_n 3, 1) := dk_dX10_arrive_24_8.2.2.1
theorem dX10_arrive_41 : decode cX10_arrive 41 = .ok (.invokevirtual 436, 3) := dk_dX10_arrive_24_8.2.2.2.1
theorem dX10_arrive_44 : decode cX10_arrive 44 = .ok (.invokevirtual 463, 3) := dk_dX10_arrive_24_8.2.2.2.2.1
theorem dX10_arrive_47 : decode cX10_arrive 47 = .ok (.ifCond .eq 33, 3) := dk_dX10_arrive_24_8.2.2.2.2.2.1
theorem dX10_arrive_50 : decode cX10_arrive 50 = .ok (.iload_n 1, 1) := dk_dX10_arrive_24_8.2.2.2.2.2.2.1
theorem dX10_arrive_51 : decode cX10_arrive 51 = .ok (.ifCond .le 17, 3) := dk_dX10_arrive_24_8.2.2.2.2.2.2.2.1
theorem dk_dX10_arrive_54 : dz_C cX10_arrive [(54, .aload_n 0, 1), (55, .getfield 152, 3), (58, .iload_n 1, 1), (59, .iconst 1, 1), (60, .isub, 1), (61, .baload, 1), (62, .ifCond .eq 6, 3), (65, .goto 15, 3), (68, .aload_n 0, 1), (69, .iconst 1, 1), (70, .putfield 466, 3), (73, .aload_n 0, 1), (74, .getfield 170, 3), (77, .iload_n 3, 1), (78, .iconst 1, 1), (79, .bastore, 1)] := dz_of (by decide +kernel)
theorem dX10_arrive_54 : decode cX10_arrive 54 = .ok (.aload_n 0, 1) := dk_dX10_arrive_54.1
theorem dX10_arrive_55 : decode cX10_arrive 55 = .ok (.getfield 152, 3) := dk_dX10_arrive_54.2.1
theorem dX10_arrive_58 : decode cX10_arrive 58 = .ok (.iload_n 1, 1) := dk_dX10_arrive_54.2.2.1
theorem dX10_arrive_59 : decode cX10_arrive 59 = .ok (.iconst 1, 1) := dk_dX10_arrive_54.2.2.2.1
theorem dX10_arrive_60 : decode cX10_arrive 60 = .ok (.isub, 1) := dk_dX10_arrive_54.2.2.2.2.1
theorem dX10_arrive_61 : decode cX10_arrive 61 = .ok (.baload, 1) := dk_dX10_arrive_54.2.2.2.2.2.1
theorem dX10_arrive_62 : decode cX10_arrive 62 = .ok (.ifCond .eq 6, 3) := dk_dX10_arrive_54.2.2.2.2.2.2.1
theorem dX10_arrive_65 : decode cX10_arrive 65 = .ok (.goto 15, 3) := dk_dX10_arrive_54.2.2.2.2.2.2.2.1
theorem dk_dX10_arrive_54_8 : dz_C cX10_arrive [(68, .aload_n 0, 1), (69, .iconst 1, 1), (70, .putfield 466, 3), (73, .aload_n 0, 1), (74, .getfield 170, 3), (77, .iload_n 3, 1), (78, .iconst 1, 1), (79, .bastore, 1)] := dk_dX10_arrive_54.2.2.2.2.2.2.2.2
theorem dX10_arrive_68 : decode cX10_arrive 68 = .ok (.aload_n 0, 1) := dk_dX10_arrive_54_8.1
theorem dX10_arrive_69 : decode cX10_arrive 69 = .ok (.iconst 1, 1) := dk_dX10_arrive_54_8.2.1
theorem dX10_arrive_70 : decode cX10_arrive 70 = .ok (.putfield 466, 3) := dk_dX10_arrive_54_8.2.2.1
theorem dX10_arrive_73 : decode cX10_arrive 73 = .ok (.aload_n 0, 1) := dk_dX10_arrive_54_8.2.2.2.1
theorem dX10_arrive_74 : decode cX10_arrive 74 = .ok (.getfield 170, 3) := dk_dX10_arrive_54_8.2.2.2.2.1
theorem dX10_arrive_77 : decode cX10_arrive 77 = .ok (.iload_n 3, 1) := dk_dX10_arrive_54_8.2.2.2.2.2.1
theorem dX10_arrive_78 : decode cX10_arrive 78 = .ok (.iconst 1, 1) := dk_dX10_arrive_54_8.2.2.2.2.2.2.1
theorem dX10_arrive_79 : decode cX10_arrive 79 = .ok (.bastore, 1) := dk_dX10_arrive_54_8.2.2.2.2.2.2.2.1
theorem dk_dX10_arrive_80 : dz_C cX10_arrive [(80, .iinc 3 1, 3), (83, .goto (-81), 3), (86, .return_, 1)] := dz_of (by decide +kernel)
theorem dX10_arrive_80 : decode cX10_arrive 80 = .ok (.iinc 3 1, 3) := dk_dX10_arrive_80.1
theorem dX10_arrive_83 : decode cX10_arrive 83 = .ok (.goto (-81), 3) := dk_dX10_arrive_80.2.1
theorem dX10_arrive_86 : decode cX10_arrive 86 = .ok (.return_, 1) := dk_dX10_arrive_80.2.2.1
theorem dk_dX10_ask_0 : dz_C cX10_ask [(0, .aload_n 0, 1), (1, .getfield 417, 3), (4, .ifCond .ne 12, 3), (7, .aload_n 0, 1), (8, .iconst 0, 1), (9, .putfield 276, 3), (12, .ldc2_w 686, 3), (15, .lreturn, 1), (16, .aload_n 0, 1), (17, .aload_n 0, 1), (18, .getfield 276, 3), (21, .putfield 288, 3), (24, .aload_n 0, 1), (25, .iconst 0, 1), (26, .putfield 276, 3), (29, .aload_n 0, 1)] := dz_of (by decide +kernel)
theorem dX10_ask_0 : decode cX10_ask 0 = .ok (.aload_n 0, 1) := dk_dX10_ask_0.1
theorem dX10_ask_1 : decode cX10_ask 1 = .ok (.getfield 417, 3) := dk_dX10_ask_0.2.1
theorem dX10_ask_4 : decode cX10_ask 4 = .ok (.ifCond .ne 12, 3) := dk_dX10_ask_0.2.2.1
theorem dX10_ask_7 : decode cX10_ask 7 = .ok (.aload_n 0, 1) := dk_dX10_ask_0.2.2.2.1
theorem dX10_ask_8 : decode cX10_ask 8 = .ok (.iconst 0, 1) := dk_dX10_ask_0.2.2.2.2.1
theorem dX10_ask_9 : decode cX10_ask 9 = .ok (.putfield 276, 3) := dk_dX10_ask_0.2.2.2.2.2.1
theorem dX10_ask_12 : decode cX10_ask 12 = .ok (.ldc2_w 686, 3) := dk_dX10_ask_0.2.2.2.2.2.2.1
theorem dX10_ask_15 : decode cX10_ask 15 = .ok (.lreturn, 1) := dk_dX10_ask_0.2.2.2.2.2.2.2.1
theorem dk_dX10_ask_0_8 : dz_C cX10_ask [(16, .aload_n 0, 1), (17, .aload_n 0, 1), (18, .getfield 276, 3), (21, .putfield 288, 3), (24, .aload_n 0, 1), (25, .iconst 0, 1), (26, .putfield 276, 3), (29, .aload_n 0, 1)] := dk_dX10_ask_0.2.2.2.2.2.2.2.2
theorem dX10_ask_16 : decode cX10_ask 16 = .ok (.aload_n 0, 1) := dk_dX10_ask_0_8.1
theorem dX10_ask_17 : decode cX10_ask 17 = .ok (.aload_n 0, 1) := dk_dX10_ask_0_8.2.1
theorem dX10_ask_18 : decode cX10_ask 18 = .ok (.getfield 276, 3) := dk_dX10_ask_0_8.2.2.1
theorem dX10_ask_21 : decode cX10_ask 21 = .ok (.putfield 288, 3) := dk_dX10_ask_0_8.2.2.2.1
theorem dX10_ask_24 : decode cX10_ask 24 = .ok (.aload_n 0, 1) := dk_dX10_ask_0_8.2.2.2.2.1
theorem dX10_ask_25 : decode cX10_ask 25 = .ok (.iconst 0, 1) := dk_dX10_ask_0_8.2.2.2.2.2.1
theorem dX10_ask_26 : decode cX10_ask 26 = .ok (.putfield 276, 3) := dk_dX10_ask_0_8.2.2.2.2.2.2.1
theorem dX10_ask_29 : decode cX10_ask 29 = .ok (.aload_n 0, 1) := dk_dX10_ask_0_8.2.2.2.2.2.2.2.1
theorem dk_dX10_ask_30 : dz_C cX10_ask [(30, .iconst 0, 1), (31, .putfield 285, 3), (34, .aload_n 0, 1), (35, .iconst (-1), 1), (36, .putfield 299, 3), (39, .aload_n 0, 1), (40, .iconst 0, 1), (41, .putfield 279, 3), (44, .aload_n 0, 1), (45, .iconst (-1), 1), (46, .putfield 282, 3), (49, .aload_n 0, 1), (50, .iconst 3, 1), (51, .putfield 333, 3), (54, .aload_n 0, 1), (55, .iconst 0, 1)] := dz_of (by decide +kernel)
theorem dX10_ask_30 : decode cX10_ask 30 = .ok (.iconst 0, 1) := dk_dX10_ask_30.1
theorem dX10_ask_31 : decode cX10_ask 31 = .ok (.putfield 285, 3) := dk_dX10_ask_30.2.1
theorem dX10_ask_34 : decode cX10_ask 34 = .ok (.aload_n 0, 1) := dk_dX10_ask_30.2.2.1
theorem dX10_ask_35 : decode cX10_ask 35 = .ok (.iconst (-1), 1) := dk_dX10_ask_30.2.2.2.1
theorem dX10_ask_36 : decode cX10_ask 36 = .ok (.putfield 299, 3) := dk_dX10_ask_30.2.2.2.2.1
theorem dX10_ask_39 : decode cX10_ask 39 = .ok (.aload_n 0, 1) := dk_dX10_ask_30.2.2.2.2.2.1
theorem dX10_ask_40 : decode cX10_ask 40 = .ok (.iconst 0, 1) := dk_dX10_ask_30.2.2.2.2.2.2.1
theorem dX10_ask_41 : decode cX10_ask 41 = .ok (.putfield 279, 3) := dk_dX10_ask_30.2.2.2.2.2.2.2.1
theorem dk_dX10_ask_30_8 : dz_C cX10_ask [(44, .aload_n 0, 1), (45, .iconst (-1), 1), (46, .putfield 282, 3), (49, .aload_n 0, 1), (50, .iconst 3, 1), (51, .putfield 333, 3), (54, .aload_n 0, 1), (55, .iconst 0, 1)] := dk_dX10_ask_30.2.2.2.2.2.2.2.2
theorem dX10_ask_44 : decode cX10_ask 44 = .ok (.aload_n 0, 1) := dk_dX10_ask_30_8.1
theorem dX10_ask_45 : decode cX10_ask 45 = .ok (.iconst (-1), 1) := dk_dX10_ask_30_8.2.1
theorem dX10_ask_46 : decode cX10_ask 46 = .ok (.putfield 282, 3) := dk_dX10_ask_30_8.2.2.1
theorem dX10_ask_49 : decode cX10_ask 49 = .ok (.aload_n 0, 1) := dk_dX10_ask_30_8.2.2.2.1
theorem dX10_ask_50 : decode cX10_ask 50 = .ok (.iconst 3, 1) := dk_dX10_ask_30_8.2.2.2.2.1
theorem dX10_ask_51 : decode cX10_ask 51 = .ok (.putfield 333, 3) := dk_dX10_ask_30_8.2.2.2.2.2.1
theorem dX10_ask_54 : decode cX10_ask 54 = .ok (.aload_n 0, 1) := dk_dX10_ask_30_8.2.2.2.2.2.2.1
theorem dX10_ask_55 : decode cX10_ask 55 = .ok (.iconst 0, 1) := dk_dX10_ask_30_8.2.2.2.2.2.2.2.1
theorem dk_dX10_ask_56 : dz_C cX10_ask [(56, .putfield 369, 3), (59, .aload_n 0, 1), (60, .iconst 0, 1), (61, .putfield 372, 3), (64, .aload_n 0, 1), (65, .iconst 0, 1), (66, .putfield 375, 3), (69, .aload_n 0, 1), (70, .iconst 0, 1), (71, .putfield 378, 3), (74, .aload_n 0, 1), (75, .invokevirtual 688, 3), (78, .istore_n 1, 1), (79, .aload_n 0, 1), (80, .getfield 279, 3), (83, .ifCond .ne 15, 3)] := dz_of (by decide +kernel)
theorem dX10_ask_56 : decode cX10_ask 56 = .ok (.putfield 369, 3) := dk_dX10_ask_56.1
theorem dX10_ask_59 : decode cX10_ask 59 = .ok (.aload_n 0, 1) := dk_dX10_ask_56.2.1
theorem dX10_ask_60 : decode cX10_ask 60 = .ok (.iconst 0, 1) := dk_dX10_ask_56.2.2.1
theorem dX10_ask_61 : decode cX10_ask 61 = .ok (.putfield 372, 3) := dk_dX10_ask_56.2.2.2.1
theorem dX10_ask_64 : decode cX10_ask 64 = .ok (.aload_n 0, 1) := dk_dX10_ask_56.2.2.2.2.1
theorem dX10_ask_65 : decode cX10_ask 65 = .ok (.iconst 0, 1) := dk_dX10_ask_56.2.2.2.2.2.1
theorem dX10_ask_66 : decode cX10_ask 66 = .ok (.putfield 375, 3) := dk_dX10_ask_56.2.2.2.2.2.2.1
theorem dX10_ask_69 : decode cX10_ask 69 = .ok (.aload_n 0, 1) := dk_dX10_ask_56.2.2.2.2.2.2.2.1
theorem dk_dX10_ask_56_8 : dz_C cX10_ask [(70, .iconst 0, 1), (71, .putfield 378, 3), (74, .aload_n 0, 1), (75, .invokevirtual 688, 3), (78, .istore_n 1, 1), (79, .aload_n 0, 1), (80, .getfield 279, 3), (83, .ifCond .ne 15, 3)] := dk_dX10_ask_56.2.2.2.2.2.2.2.2
theorem dX10_ask_70 : decode cX10_ask 70 = .ok (.iconst 0, 1) := dk_dX10_ask_56_8.1
theorem dX10_ask_71 : decode cX10_ask 71 = .ok (.putfield 378, 3) := dk_dX10_ask_56_8.2.1
theorem dX10_ask_74 : decode cX10_ask 74 = .ok (.aload_n 0, 1) := dk_dX10_ask_56_8.2.2.1
theorem dX10_ask_75 : decode cX10_ask 75 = .ok (.invokevirtual 688, 3) := dk_dX10_ask_56_8.2.2.2.1
theorem dX10_ask_78 : decode cX10_ask 78 = .ok (.istore_n 1, 1) := dk_dX10_ask_56_8.2.2.2.2.1
theorem dX10_ask_79 : decode cX10_ask 79 = .ok (.aload_n 0, 1) := dk_dX10_ask_56_8.2.2.2.2.2.1
theorem dX10_ask_80 : decode cX10_ask 80 = .ok (.getfield 279, 3) := dk_dX10_ask_56_8.2.2.2.2.2.2.1
theorem dX10_ask_83 : decode cX10_ask 83 = .ok (.ifCond .ne 15, 3) := dk_dX10_ask_56_8.2.2.2.2.2.2.2.1
theorem dk_dX10_ask_86 : dz_C cX10_ask [(86, .iload_n 1, 1), (87, .iconst 3, 1), (88, .if_icmp .ge 10, 3), (91, .aload_n 0, 1), (92, .invokevirtual 384, 3), (95, .goto 14, 3), (98, .aload_n 0, 1), (99, .getfield 279, 3), (102, .ifCond .ne 7, 3), (105, .aload_n 0, 1), (106, .invokevirtual 381, 3), (109, .aload_n 0, 1), (110, .getfield 279, 3), (113, .ifCond .ne 20, 3), (116, .aload_n 0, 1), (117, .invokevirtual 291, 3)] := dz_of (by decide +kernel)
theorem dX10_ask_86 : decode cX10_ask 86 = .ok (.iload_n 1, 1) := dk_dX10_ask_86.1
theorem dX10_ask_87 : decode cX10_ask 87 = .ok (.iconst 3, 1) := dk_dX10_ask_86.2.1
theorem dX10_ask_88 : decode cX10_ask 88 = .ok (.if_icmp .ge 10, 3) := dk_dX10_ask_86.2.2.1
theorem dX10_ask_91 : decode cX10_ask 91 = .ok (.aload_n 0, 1) := dk_dX10_ask_86.2.2.2.1
theorem dX10_ask_92 : decode cX10_ask 92 = .ok (.invokevirtual 384, 3) := dk_dX10_ask_86.2.2.2.2.1
theorem dX10_ask_95 : decode cX10_ask 95 = .ok (.goto 14, 3) := dk_dX10_ask_86.2.2.2.2.2.1
theorem dX10_ask_98 : decode cX10_ask 98 = .ok (.aload_n 0, 1) := dk_dX10_ask_86.2.2.2.2.2.2.1
theorem dX10_ask_99 : decode cX10_ask 99 = .ok (.getfield 279, 3) := dk_dX10_ask_86.2.2.2.2.2.2.2.1
theorem dk_dX10_ask_86_8 : dz_C cX10_ask [(102, .ifCond .ne 7, 3), (105, .aload_n 0, 1), (106, .invokevirtual 381, 3), (109, .aload_n 0, 1), (110, .getfield 279, 3), (113, .ifCond .ne 20, 3), (116, .aload_n 0, 1), (117, .invokevirtual 291, 3)] := dk_dX10_ask_86.2.2.2.2.2.2.2.2
theorem dX10_ask_102 : decode cX10_ask 102 = .ok (.ifCond .ne 7, 3) := dk_dX10_ask_86_8.1
theorem dX10_ask_105 : decode cX10_ask 105 = .ok (.aload_n 0, 1) := dk_dX10_ask_86_8.2.1
theorem dX10_ask_106 : decode cX10_ask 106 = .ok (.invokevirtual 381, 3) := dk_dX10_ask_86_8.2.2.1
theorem dX10_ask_109 : decode cX10_ask 109 = .ok (.aload_n 0, 1) := dk_dX10_ask_86_8.2.2.2.1
theorem dX10_ask_110 : decode cX10_ask 110 = .ok (.getfield 279, 3) := dk_dX10_ask_86_8.2.2.2.2.1
theorem dX10_ask_113 : decode cX10_ask 113 = .ok (.ifCond .ne 20, 3) := dk_dX10_ask_86_8.2.2.2.2.2.1
theorem dX10_ask_116 : decode cX10_ask 116 = .ok (.aload_n 0, 1) := dk_dX10_ask_86_8.2.2.2.2.2.2.1
theorem dX10_ask_117 : decode cX10_ask 117 = .ok (.invokevirtual 291, 3) := dk_dX10_ask_86_8.2.2.2.2.2.2.2.1
theorem dk_dX10_ask_120 : dz_C cX10_ask [(120, .iconst (-1), 1), (121, .if_icmp .eq 12, 3), (124, .aload_n 0, 1), (125, .iconst 1, 1), (126, .aload_n 0, 1), (127, .getfield 285, 3), (130, .invokevirtual 308, 3), (133, .aload_n 0, 1), (134, .aload_n 0, 1), (135, .getfield 279, 3), (138, .putfield 411, 3), (141, .aload_n 0, 1), (142, .aload_n 0, 1), (143, .getfield 282, 3), (146, .putfield 13, 3), (149, .aload_n 0, 1)] := dz_of (by decide +kernel)
theorem dX10_ask_120 : decode cX10_ask 120 = .ok (.iconst (-1), 1) := dk_dX10_ask_120.1
theorem dX10_ask_121 : decode cX10_ask 121 = .ok (.if_icmp .eq 12, 3) := dk_dX10_ask_120.2.1
theorem dX10_ask_124 : decode cX10_ask 124 = .ok (.aload_n 0, 1) := dk_dX10_ask_120.2.2.1
theorem dX10_ask_125 : decode cX10_ask 125 = .ok (.iconst 1, 1) := dk_dX10_ask_120.2.2.2.1
theorem dX10_ask_126 : decode cX10_ask 126 = .ok (.aload_n 0, 1) := dk_dX10_ask_120.2.2.2.2.1
theorem dX10_ask_127 : decode cX10_ask 127 = .ok (.getfield 285, 3) := dk_dX10_ask_120.2.2.2.2.2.1
theorem dX10_ask_130 : decode cX10_ask 130 = .ok (.invokevirtual 308, 3) := dk_dX10_ask_120.2.2.2.2.2.2.1
theorem dX10_ask_133 : decode cX10_ask 133 = .ok (.aload_n 0, 1) := dk_dX10_ask_120.2.2.2.2.2.2.2.1
theorem dk_dX10_ask_120_8 : dz_C cX10_ask [(134, .aload_n 0, 1), (135, .getfield 279, 3), (138, .putfield 411, 3), (141, .aload_n 0, 1), (142, .aload_n 0, 1), (143, .getfield 282, 3), (146, .putfield 13, 3), (149, .aload_n 0, 1)] := dk_dX10_ask_120.2.2.2.2.2.2.2.2
theorem dX10_ask_134 : decode cX10_ask 134 = .ok (.aload_n 0, 1) := dk_dX10_ask_120_8.1
theorem dX10_ask_135 : decode cX10_ask 135 = .ok (.getfield 279, 3) := dk_dX10_ask_120_8.2.1
theorem dX10_ask_138 : decode cX10_ask 138 = .ok (.putfield 411, 3) := dk_dX10_ask_120_8.2.2.1
theorem dX10_ask_141 : decode cX10_ask 141 = .ok (.aload_n 0, 1) := dk_dX10_ask_120_8.2.2.2.1
theorem dX10_ask_142 : decode cX10_ask 142 = .ok (.aload_n 0, 1) := dk_dX10_ask_120_8.2.2.2.2.1
theorem dX10_ask_143 : decode cX10_ask 143 = .ok (.getfield 282, 3) := dk_dX10_ask_120_8.2.2.2.2.2.1
theorem dX10_ask_146 : decode cX10_ask 146 = .ok (.putfield 13, 3) := dk_dX10_ask_120_8.2.2.2.2.2.2.1
theorem dX10_ask_149 : decode cX10_ask 149 = .ok (.aload_n 0, 1) := dk_dX10_ask_120_8.2.2.2.2.2.2.2.1
theorem dk_dX10_ask_150 : dz_C cX10_ask [(150, .getfield 279, 3), (153, .ifCond .eq 7, 3), (156, .ldc2_w 686, 3), (159, .lreturn, 1), (160, .aload_n 0, 1), (161, .iload_n 1, 1), (162, .iconst 2, 1), (163, .if_icmp .ge 9, 3), (166, .ldc2_w 681, 3), (169, .goto 4, 3), (172, .lconst 0, 1), (173, .putfield 678, 3), (176, .aload_n 0, 1), (177, .iconst 1, 1), (178, .putfield 683, 3), (181, .aload_n 0, 1)] := dz_of (by decide +kernel)
theorem dX10_ask_150 : decode cX10_ask 150 = .ok (.getfield 279, 3) := dk_dX10_ask_150.1
theorem dX10_ask_153 : decode cX10_ask 153 = .ok (.ifCond .eq 7, 3) := dk_dX10_ask_150.2.1
theorem dX10_ask_156 : decode cX10_ask 156 = .ok (.ldc2_w 686, 3) := dk_dX10_ask_150.2.2.1
theorem dX10_ask_159 : decode cX10_ask 159 = .ok (.lreturn, 1) := dk_dX10_ask_150.2.2.2.1
theorem dX10_ask_160 : decode cX10_ask 160 = .ok (.aload_n 0, 1) := dk_dX10_ask_150.2.2.2.2.1
theorem dX10_ask_161 : decode cX10_ask 161 = .ok (.iload_n 1, 1) := dk_dX10_ask_150.2.2.2.2.2.1
theorem dX10_ask_162 : decode cX10_ask 162 = .ok (.iconst 2, 1) := dk_dX10_ask_150.2.2.2.2.2.2.1
theorem dX10_ask_163 : decode cX10_ask 163 = .ok (.if_icmp .ge 9, 3) := dk_dX10_ask_150.2.2.2.2.2.2.2.1
theorem dk_dX10_ask_150_8 : dz_C cX10_ask [(166, .ldc2_w 681, 3), (169, .goto 4, 3), (172, .lconst 0, 1), (173, .putfield 678, 3), (176, .aload_n 0, 1), (177, .iconst 1, 1), (178, .putfield 683, 3), (181, .aload_n 0, 1)] := dk_dX10_ask_150.2.2.2.2.2.2.2.2
theorem dX10_ask_166 : decode cX10_ask 166 = .ok (.ldc2_w 681, 3) := dk_dX10_ask_150_8.1
theorem dX10_ask_169 : decode cX10_ask 169 = .ok (.goto 4, 3) := dk_dX10_ask_150_8.2.1
theorem dX10_ask_172 : decode cX10_ask 172 = .ok (.lconst 0, 1) := dk_dX10_ask_150_8.2.2.1
theorem dX10_ask_173 : decode cX10_ask 173 = .ok (.putfield 678, 3) := dk_dX10_ask_150_8.2.2.2.1
theorem dX10_ask_176 : decode cX10_ask 176 = .ok (.aload_n 0, 1) := dk_dX10_ask_150_8.2.2.2.2.1
theorem dX10_ask_177 : decode cX10_ask 177 = .ok (.iconst 1, 1) := dk_dX10_ask_150_8.2.2.2.2.2.1
theorem dX10_ask_178 : decode cX10_ask 178 = .ok (.putfield 683, 3) := dk_dX10_ask_150_8.2.2.2.2.2.2.1
theorem dX10_ask_181 : decode cX10_ask 181 = .ok (.aload_n 0, 1) := dk_dX10_ask_150_8.2.2.2.2.2.2.2.1
theorem dk_dX10_ask_182 : dz_C cX10_ask [(182, .invokevirtual 534, 3), (185, .aload_n 0, 1), (186, .iconst 3, 1), (187, .putfield 333, 3), (190, .iconst 0, 1), (191, .istore_n 2, 1), (192, .iload_n 2, 1), (193, .aload_n 0, 1), (194, .invokevirtual 433, 3), (197, .if_icmp .ge 20, 3), (200, .aload_n 0, 1), (201, .iload_n 1, 1), (202, .aload_n 0, 1), (203, .iload_n 2, 1), (204, .invokevirtual 691, 3), (207, .iload_n 2, 1)] := dz_of (by decide +kernel)
theorem dX10_ask_182 : decode cX10_ask 182 = .ok (.invokevirtual 534, 3) := dk_dX10_ask_182.1
theorem dX10_ask_185 : decode cX10_ask 185 = .ok (.aload_n 0, 1) := dk_dX10_ask_182.2.1
theorem dX10_ask_186 : decode cX10_ask 186 = .ok (.iconst 3, 1) := dk_dX10_ask_182.2.2.1
theorem dX10_ask_187 : decode cX10_ask 187 = .ok (.putfield 333, 3) := dk_dX10_ask_182.2.2.2.1
theorem dX10_ask_190 : decode cX10_ask 190 = .ok (.iconst 0, 1) := dk_dX10_ask_182.2.2.2.2.1
theorem dX10_ask_191 : decode cX10_ask 191 = .ok (.istore_n 2, 1) := dk_dX10_ask_182.2.2.2.2.2.1
theorem dX10_ask_192 : decode cX10_ask 192 = .ok (.iload_n 2, 1) := dk_dX10_ask_182.2.2.2.2.2.2.1
theorem dX10_ask_193 : decode cX10_ask 193 = .ok (.aload_n 0, 1) := dk_dX10_ask_182.2.2.2.2.2.2.2.1
theorem dk_dX10_ask_182_8 : dz_C cX10_ask [(194, .invokevirtual 433, 3), (197, .if_icmp .ge 20, 3), (200, .aload_n 0, 1), (201, .iload_n 1, 1), (202, .aload_n 0, 1), (203, .iload_n 2, 1), (204, .invokevirtual 691, 3), (207, .iload_n 2, 1)] := dk_dX10_ask_182.2.2.2.2.2.2.2.2
theorem dX10_ask_194 : decode cX10_ask 194 = .ok (.invokevirtual 433, 3) := dk_dX10_ask_182_8.1
theorem dX10_ask_197 : decode cX10_ask 197 = .ok (.if_icmp .ge 20, 3) := dk_dX10_ask_182_8.2.1
theorem dX10_ask_200 : decode cX10_ask 200 = .ok (.aload_n 0, 1) := dk_dX10_ask_182_8.2.2.1
theorem dX10_ask_201 : decode cX10_ask 201 = .ok (.iload_n 1, 1) := dk_dX10_ask_182_8.2.2.2.1
theorem dX10_ask_202 : decode cX10_ask 202 = .ok (.aload_n 0, 1) := dk_dX10_ask_182_8.2.2.2.2.1
theorem dX10_ask_203 : decode cX10_ask 203 = .ok (.iload_n 2, 1) := dk_dX10_ask_182_8.2.2.2.2.2.1
theorem dX10_ask_204 : decode cX10_ask 204 = .ok (.invokevirtual 691, 3) := dk_dX10_ask_182_8.2.2.2.2.2.2.1
theorem dX10_ask_207 : decode cX10_ask 207 = .ok (.iload_n 2, 1) := dk_dX10_ask_182_8.2.2.2.2.2.2.2.1
theorem dk_dX10_ask_208 : dz_C cX10_ask [(208, .invokevirtual 695, 3), (211, .iinc 2 1, 3), (214, .goto (-22), 3), (217, .aload_n 0, 1), (218, .getfield 678, 3), (221, .lreturn, 1)] := dz_of (by decide +kernel)
theorem dX10_ask_208 : decode cX10_ask 208 = .ok (.invokevirtual 695, 3) := dk_dX10_ask_208.1
theorem dX10_ask_211 : decode cX10_ask 211 = .ok (.iinc 2 1, 3) := dk_dX10_ask_208.2.1
theorem dX10_ask_214 : decode cX10_ask 214 = .ok (.goto (-22), 3) := dk_dX10_ask_208.2.2.1
theorem dX10_ask_217 : decode cX10_ask 217 = .ok (.aload_n 0, 1) := dk_dX10_ask_208.2.2.2.1
theorem dX10_ask_218 : decode cX10_ask 218 = .ok (.getfield 678, 3) := dk_dX10_ask_208.2.2.2.2.1
theorem dX10_ask_221 : decode cX10_ask 221 = .ok (.lreturn, 1) := dk_dX10_ask_208.2.2.2.2.2.1
theorem dk_dX10_asks_0 : dz_C cX10_asks [(0, .aload_n 0, 1), (1, .getfield 279, 3), (4, .ifCond .ne 20, 3), (7, .aload_n 0, 1), (8, .aload_n 1, 1), (9, .invokevirtual 305, 3), (12, .ifCond .ne 12, 3), (15, .aload_n 0, 1), (16, .iconst 1, 1), (17, .aload_n 0, 1), (18, .getfield 285, 3), (21, .invokevirtual 308, 3), (24, .return_, 1)] := dz_of (by decide +kernel)
theorem dX10_asks_0 : decode cX10_asks 0 = .ok (.aload_n 0, 1) := dk_dX10_asks_0.1
theorem dX10_asks_1 : decode cX10_asks 1 = .ok (.getfield 279, 3) := dk_dX10_asks_0.2.1
theorem dX10_asks_4 : decode cX10_asks 4 = .ok (.ifCond .ne 20, 3) := dk_dX10_asks_0.2.2.1
theorem dX10_asks_7 : decode cX10_asks 7 = .ok (.aload_n 0, 1) := dk_dX10_asks_0.2.2.2.1
theorem dX10_asks_8 : decode cX10_asks 8 = .ok (.aload_n 1, 1) := dk_dX10_asks_0.2.2.2.2.1
theorem dX10_asks_9 : decode cX10_asks 9 = .ok (.invokevirtual 305, 3) := dk_dX10_asks_0.2.2.2.2.2.1
theorem dX10_asks_12 : decode cX10_asks 12 = .ok (.ifCond .ne 12, 3) := dk_dX10_asks_0.2.2.2.2.2.2.1
theorem dX10_asks_15 : decode cX10_asks 15 = .ok (.aload_n 0, 1) := dk_dX10_asks_0.2.2.2.2.2.2.2.1
theorem dk_dX10_asks_0_8 : dz_C cX10_asks [(16, .iconst 1, 1), (17, .aload_n 0, 1), (18, .getfield 285, 3), (21, .invokevirtual 308, 3), (24, .return_, 1)] := dk_dX10_asks_0.2.2.2.2.2.2.2.2
theorem dX10_asks_16 : decode cX10_asks 16 = .ok (.iconst 1, 1) := dk_dX10_asks_0_8.1
theorem dX10_asks_17 : decode cX10_asks 17 = .ok (.aload_n 0, 1) := dk_dX10_asks_0_8.2.1
theorem dX10_asks_18 : decode cX10_asks 18 = .ok (.getfield 285, 3) := dk_dX10_asks_0_8.2.2.1
theorem dX10_asks_21 : decode cX10_asks 21 = .ok (.invokevirtual 308, 3) := dk_dX10_asks_0_8.2.2.2.1
theorem dX10_asks_24 : decode cX10_asks 24 = .ok (.return_, 1) := dk_dX10_asks_0_8.2.2.2.2.1
theorem dk_dX10_asksSign_0 : dz_C cX10_asksSign [(0, .aload_n 0, 1), (1, .getfield 279, 3), (4, .ifCond .ne 20, 3), (7, .aload_n 0, 1), (8, .iload_n 1, 1), (9, .invokevirtual 312, 3), (12, .ifCond .ne 12, 3), (15, .aload_n 0, 1), (16, .iconst 1, 1), (17, .aload_n 0, 1), (18, .getfield 285, 3), (21, .invokevirtual 308, 3), (24, .return_, 1)] := dz_of (by decide +kernel)
theorem dX10_asksSign_0 : decode cX10_asksSign 0 = .ok (.aload_n 0, 1) := dk_dX10_asksSign_0.1
theorem dX10_asksSign_1 : decode cX10_asksSign 1 = .ok (.getfield 279, 3) := dk_dX10_asksSign_0.2.1
theorem dX10_asksSign_4 : decode cX10_asksSign 4 = .ok (.ifCond .ne 20, 3) := dk_dX10_asksSign_0.2.2.1
theorem dX10_asksSign_7 : decode cX10_asksSign 7 = .ok (.aload_n 0, 1) := dk_dX10_asksSign_0.2.2.2.1
theorem dX10_asksSign_8 : decode cX10_asksSign 8 = .ok (.iload_n 1, 1) := dk_dX10_asksSign_0.2.2.2.2.1
theorem dX10_asksSign_9 : decode cX10_asksSign 9 = .ok (.invokevirtual 312, 3) := dk_dX10_asksSign_0.2.2.2.2.2.1
theorem dX10_asksSign_12 : decode cX10_asksSign 12 = .ok (.ifCond .ne 12, 3) := dk_dX10_asksSign_0.2.2.2.2.2.2.1
theorem dX10_asksSign_15 : decode cX10_asksSign 15 = .ok (.aload_n 0, 1) := dk_dX10_asksSign_0.2.2.2.2.2.2.2.1
theorem dk_dX10_asksSign_0_8 : dz_C cX10_asksSign [(16, .iconst 1, 1), (17, .aload_n 0, 1), (18, .getfield 285, 3), (21, .invokevirtual 308, 3), (24, .return_, 1)] := dk_dX10_asksSign_0.2.2.2.2.2.2.2.2
theorem dX10_asksSign_16 : decode cX10_asksSign 16 = .ok (.iconst 1, 1) := dk_dX10_asksSign_0_8.1
theorem dX10_asksSign_17 : decode cX10_asksSign 17 = .ok (.aload_n 0, 1) := dk_dX10_asksSign_0_8.2.1
theorem dX10_asksSign_18 : decode cX10_asksSign 18 = .ok (.getfield 285, 3) := dk_dX10_asksSign_0_8.2.2.1
theorem dX10_asksSign_21 : decode cX10_asksSign 21 = .ok (.invokevirtual 308, 3) := dk_dX10_asksSign_0_8.2.2.2.1
theorem dX10_asksSign_24 : decode cX10_asksSign 24 = .ok (.return_, 1) := dk_dX10_asksSign_0_8.2.2.2.2.1
theorem dk_dX10_barTold_0 : dz_C cX10_barTold [(0, .aload_n 0, 1), (1, .aload_n 0, 1), (2, .getfield 20, 3), (5, .invokevirtual 350, 3), (8, .aload_n 0, 1), (9, .getfield 118, 3), (12, .iconst 0, 1), (13, .aload_n 0, 1), (14, .bipush 10, 2), (16, .bipush 120, 2), (18, .invokevirtual 354, 3), (21, .iastore, 1), (22, .aload_n 0, 1), (23, .aload_n 0, 1), (24, .getfield 24, 3), (27, .invokevirtual 350, 3)] := dz_of (by decide +kernel)
theorem dX10_barTold_0 : decode cX10_barTold 0 = .ok (.aload_n 0, 1) := dk_dX10_barTold_0.1
theorem dX10_barTold_1 : decode cX10_barTold 1 = .ok (.aload_n 0, 1) := dk_dX10_barTold_0.2.1
theorem dX10_barTold_2 : decode cX10_barTold 2 = .ok (.getfield 20, 3) := dk_dX10_barTold_0.2.2.1
theorem dX10_barTold_5 : decode cX10_barTold 5 = .ok (.invokevirtual 350, 3) := dk_dX10_barTold_0.2.2.2.1
theorem dX10_barTold_8 : decode cX10_barTold 8 = .ok (.aload_n 0, 1) := dk_dX10_barTold_0.2.2.2.2.1
theorem dX10_barTold_9 : decode cX10_barTold 9 = .ok (.getfield 118, 3) := dk_dX10_barTold_0.2.2.2.2.2.1
theorem dX10_barTold_12 : decode cX10_barTold 12 = .ok (.iconst 0, 1) := dk_dX10_barTold_0.2.2.2.2.2.2.1
theorem dX10_barTold_13 : decode cX10_barTold 13 = .ok (.aload_n 0, 1) := dk_dX10_barTold_0.2.2.2.2.2.2.2.1
theorem dk_dX10_barTold_0_8 : dz_C cX10_barTold [(14, .bipush 10, 2), (16, .bipush 120, 2), (18, .invokevirtual 354, 3), (21, .iastore, 1), (22, .aload_n 0, 1), (23, .aload_n 0, 1), (24, .getfield 24, 3), (27, .invokevirtual 350, 3)] := dk_dX10_barTold_0.2.2.2.2.2.2.2.2
theorem dX10_barTold_14 : decode cX10_barTold 14 = .ok (.bipush 10, 2) := dk_dX10_barTold_0_8.1
theorem dX10_barTold_16 : decode cX10_barTold 16 = .ok (.bipush 120, 2) := dk_dX10_barTold_0_8.2.1
theorem dX10_barTold_18 : decode cX10_barTold 18 = .ok (.invokevirtual 354, 3) := dk_dX10_barTold_0_8.2.2.1
theorem dX10_barTold_21 : decode cX10_barTold 21 = .ok (.iastore, 1) := dk_dX10_barTold_0_8.2.2.2.1
theorem dX10_barTold_22 : decode cX10_barTold 22 = .ok (.aload_n 0, 1) := dk_dX10_barTold_0_8.2.2.2.2.1
theorem dX10_barTold_23 : decode cX10_barTold 23 = .ok (.aload_n 0, 1) := dk_dX10_barTold_0_8.2.2.2.2.2.1
theorem dX10_barTold_24 : decode cX10_barTold 24 = .ok (.getfield 24, 3) := dk_dX10_barTold_0_8.2.2.2.2.2.2.1
theorem dX10_barTold_27 : decode cX10_barTold 27 = .ok (.invokevirtual 350, 3) := dk_dX10_barTold_0_8.2.2.2.2.2.2.2.1
theorem dk_dX10_barTold_30 : dz_C cX10_barTold [(30, .aload_n 0, 1), (31, .getfield 118, 3), (34, .iconst 1, 1), (35, .aload_n 0, 1), (36, .iconst 1, 1), (37, .aload_n 0, 1), (38, .getfield 118, 3), (41, .iconst 0, 1), (42, .iaload, 1), (43, .bipush 60, 2), (45, .if_icmp .le 8, 3), (48, .bipush 60, 2), (50, .goto 11, 3), (53, .aload_n 0, 1), (54, .getfield 118, 3), (57, .iconst 0, 1)] := dz_of (by decide +kernel)
theorem dX10_barTold_30 : decode cX10_barTold 30 = .ok (.aload_n 0, 1) := dk_dX10_barTold_30.1
theorem dX10_barTold_31 : decode cX10_barTold 31 = .ok (.getfield 118, 3) := dk_dX10_barTold_30.2.1
theorem dX10_barTold_34 : decode cX10_barTold 34 = .ok (.iconst 1, 1) := dk_dX10_barTold_30.2.2.1
theorem dX10_barTold_35 : decode cX10_barTold 35 = .ok (.aload_n 0, 1) := dk_dX10_barTold_30.2.2.2.1
theorem dX10_barTold_36 : decode cX10_barTold 36 = .ok (.iconst 1, 1) := dk_dX10_barTold_30.2.2.2.2.1
theorem dX10_barTold_37 : decode cX10_barTold 37 = .ok (.aload_n 0, 1) := dk_dX10_barTold_30.2.2.2.2.2.1
theorem dX10_barTold_38 : decode cX10_barTold 38 = .ok (.getfield 118, 3) := dk_dX10_barTold_30.2.2.2.2.2.2.1
theorem dX10_barTold_41 : decode cX10_barTold 41 = .ok (.iconst 0, 1) := dk_dX10_barTold_30.2.2.2.2.2.2.2.1
theorem dk_dX10_barTold_30_8 : dz_C cX10_barTold [(42, .iaload, 1), (43, .bipush 60, 2), (45, .if_icmp .le 8, 3), (48, .bipush 60, 2), (50, .goto 11, 3), (53, .aload_n 0, 1), (54, .getfield 118, 3), (57, .iconst 0, 1)] := dk_dX10_barTold_30.2.2.2.2.2.2.2.2
theorem dX10_barTold_42 : decode cX10_barTold 42 = .ok (.iaload, 1) := dk_dX10_barTold_30_8.1
theorem dX10_barTold_43 : decode cX10_barTold 43 = .ok (.bipush 60, 2) := dk_dX10_barTold_30_8.2.1
theorem dX10_barTold_45 : decode cX10_barTold 45 = .ok (.if_icmp .le 8, 3) := dk_dX10_barTold_30_8.2.2.1
theorem dX10_barTold_48 : decode cX10_barTold 48 = .ok (.bipush 60, 2) := dk_dX10_barTold_30_8.2.2.2.1
theorem dX10_barTold_50 : decode cX10_barTold 50 = .ok (.goto 11, 3) := dk_dX10_barTold_30_8.2.2.2.2.1
theorem dX10_barTold_53 : decode cX10_barTold 53 = .ok (.aload_n 0, 1) := dk_dX10_barTold_30_8.2.2.2.2.2.1
theorem dX10_barTold_54 : decode cX10_barTold 54 = .ok (.getfield 118, 3) := dk_dX10_barTold_30_8.2.2.2.2.2.2.1
theorem dX10_barTold_57 : decode cX10_barTold 57 = .ok (.iconst 0, 1) := dk_dX10_barTold_30_8.2.2.2.2.2.2.2.1
theorem dk_dX10_barTold_58 : dz_C cX10_barTold [(58, .iaload, 1), (59, .iconst 1, 1), (60, .isub, 1), (61, .invokevirtual 354, 3), (64, .iastore, 1), (65, .aload_n 0, 1), (66, .aload_n 0, 1), (67, .getfield 27, 3), (70, .invokevirtual 350, 3), (73, .aload_n 0, 1), (74, .getfield 118, 3), (77, .iconst 2, 1), (78, .aload_n 0, 1), (79, .iconst 0, 1), (80, .iconst 2, 1), (81, .invokevirtual 354, 3)] := dz_of (by decide +kernel)
theorem dX10_barTold_58 : decode cX10_barTold 58 = .ok (.iaload, 1) := dk_dX10_barTold_58.1
theorem dX10_barTold_59 : decode cX10_barTold 59 = .ok (.iconst 1, 1) := dk_dX10_barTold_58.2.1
theorem dX10_barTold_60 : decode cX10_barTold 60 = .ok (.isub, 1) := dk_dX10_barTold_58.2.2.1
theorem dX10_barTold_61 : decode cX10_barTold 61 = .ok (.invokevirtual 354, 3) := dk_dX10_barTold_58.2.2.2.1
theorem dX10_barTold_64 : decode cX10_barTold 64 = .ok (.iastore, 1) := dk_dX10_barTold_58.2.2.2.2.1
theorem dX10_barTold_65 : decode cX10_barTold 65 = .ok (.aload_n 0, 1) := dk_dX10_barTold_58.2.2.2.2.2.1
theorem dX10_barTold_66 : decode cX10_barTold 66 = .ok (.aload_n 0, 1) := dk_dX10_barTold_58.2.2.2.2.2.2.1
theorem dX10_barTold_67 : decode cX10_barTold 67 = .ok (.getfield 27, 3) := dk_dX10_barTold_58.2.2.2.2.2.2.2.1
theorem dk_dX10_barTold_58_8 : dz_C cX10_barTold [(70, .invokevirtual 350, 3), (73, .aload_n 0, 1), (74, .getfield 118, 3), (77, .iconst 2, 1), (78, .aload_n 0, 1), (79, .iconst 0, 1), (80, .iconst 2, 1), (81, .invokevirtual 354, 3)] := dk_dX10_barTold_58.2.2.2.2.2.2.2.2
theorem dX10_barTold_70 : decode cX10_barTold 70 = .ok (.invokevirtual 350, 3) := dk_dX10_barTold_58_8.1
theorem dX10_barTold_73 : decode cX10_barTold 73 = .ok (.aload_n 0, 1) := dk_dX10_barTold_58_8.2.1
theorem dX10_barTold_74 : decode cX10_barTold 74 = .ok (.getfield 118, 3) := dk_dX10_barTold_58_8.2.2.1
theorem dX10_barTold_77 : decode cX10_barTold 77 = .ok (.iconst 2, 1) := dk_dX10_barTold_58_8.2.2.2.1
theorem dX10_barTold_78 : decode cX10_barTold 78 = .ok (.aload_n 0, 1) := dk_dX10_barTold_58_8.2.2.2.2.1
theorem dX10_barTold_79 : decode cX10_barTold 79 = .ok (.iconst 0, 1) := dk_dX10_barTold_58_8.2.2.2.2.2.1
theorem dX10_barTold_80 : decode cX10_barTold 80 = .ok (.iconst 2, 1) := dk_dX10_barTold_58_8.2.2.2.2.2.2.1
theorem dX10_barTold_81 : decode cX10_barTold 81 = .ok (.invokevirtual 354, 3) := dk_dX10_barTold_58_8.2.2.2.2.2.2.2.1
theorem dk_dX10_barTold_84 : dz_C cX10_barTold [(84, .iastore, 1), (85, .aload_n 0, 1), (86, .aload_n 0, 1), (87, .getfield 30, 3), (90, .invokevirtual 350, 3), (93, .aload_n 0, 1), (94, .getfield 118, 3), (97, .iconst 3, 1), (98, .aload_n 0, 1), (99, .iconst 0, 1), (100, .bipush 99, 2), (102, .invokevirtual 354, 3), (105, .iastore, 1), (106, .aload_n 0, 1), (107, .bipush 59, 2), (109, .invokevirtual 358, 3)] := dz_of (by decide +kernel)
theorem dX10_barTold_84 : decode cX10_barTold 84 = .ok (.iastore, 1) := dk_dX10_barTold_84.1
theorem dX10_barTold_85 : decode cX10_barTold 85 = .ok (.aload_n 0, 1) := dk_dX10_barTold_84.2.1
theorem dX10_barTold_86 : decode cX10_barTold 86 = .ok (.aload_n 0, 1) := dk_dX10_barTold_84.2.2.1
theorem dX10_barTold_87 : decode cX10_barTold 87 = .ok (.getfield 30, 3) := dk_dX10_barTold_84.2.2.2.1
theorem dX10_barTold_90 : decode cX10_barTold 90 = .ok (.invokevirtual 350, 3) := dk_dX10_barTold_84.2.2.2.2.1
theorem dX10_barTold_93 : decode cX10_barTold 93 = .ok (.aload_n 0, 1) := dk_dX10_barTold_84.2.2.2.2.2.1
theorem dX10_barTold_94 : decode cX10_barTold 94 = .ok (.getfield 118, 3) := dk_dX10_barTold_84.2.2.2.2.2.2.1
theorem dX10_barTold_97 : decode cX10_barTold 97 = .ok (.iconst 3, 1) := dk_dX10_barTold_84.2.2.2.2.2.2.2.1
theorem dk_dX10_barTold_84_8 : dz_C cX10_barTold [(98, .aload_n 0, 1), (99, .iconst 0, 1), (100, .bipush 99, 2), (102, .invokevirtual 354, 3), (105, .iastore, 1), (106, .aload_n 0, 1), (107, .bipush 59, 2), (109, .invokevirtual 358, 3)] := dk_dX10_barTold_84.2.2.2.2.2.2.2.2
theorem dX10_barTold_98 : decode cX10_barTold 98 = .ok (.aload_n 0, 1) := dk_dX10_barTold_84_8.1
theorem dX10_barTold_99 : decode cX10_barTold 99 = .ok (.iconst 0, 1) := dk_dX10_barTold_84_8.2.1
theorem dX10_barTold_100 : decode cX10_barTold 100 = .ok (.bipush 99, 2) := dk_dX10_barTold_84_8.2.2.1
theorem dX10_barTold_102 : decode cX10_barTold 102 = .ok (.invokevirtual 354, 3) := dk_dX10_barTold_84_8.2.2.2.1
theorem dX10_barTold_105 : decode cX10_barTold 105 = .ok (.iastore, 1) := dk_dX10_barTold_84_8.2.2.2.2.1
theorem dX10_barTold_106 : decode cX10_barTold 106 = .ok (.aload_n 0, 1) := dk_dX10_barTold_84_8.2.2.2.2.2.1
theorem dX10_barTold_107 : decode cX10_barTold 107 = .ok (.bipush 59, 2) := dk_dX10_barTold_84_8.2.2.2.2.2.2.1
theorem dX10_barTold_109 : decode cX10_barTold 109 = .ok (.invokevirtual 358, 3) := dk_dX10_barTold_84_8.2.2.2.2.2.2.2.1
theorem dk_dX10_barTold_112 : dz_C cX10_barTold [(112, .return_, 1)] := dz_of (by decide +kernel)
theorem dX10_barTold_112 : decode cX10_barTold 112 = .ok (.return_, 1) := dk_dX10_barTold_112.1
theorem dk_dX10_best_0 : dz_C cX10_best [(0, .aload_n 0, 1), (1, .getfield 417, 3), (4, .ifCond .eq 27, 3), (7, .iload_n 1, 1), (8, .i2l, 1), (9, .lconst 0, 1), (10, .ldc2_w 544, 3), (13, .invokestatic 318, 3), (16, .ifCond .eq 15, 3), (19, .iload_n 2, 1), (20, .i2l, 1), (21, .lconst 0, 1), (22, .ldc2_w 546, 3), (25, .invokestatic 318, 3), (28, .ifCond .ne 5, 3), (31, .iconst (-1), 1)] := dz_of (by decide +kernel)
theorem dX10_best_0 : decode cX10_best 0 = .ok (.aload_n 0, 1) := dk_dX10_best_0.1
theorem dX10_best_1 : decode cX10_best 1 = .ok (.getfield 417, 3) := dk_dX10_best_0.2.1
theorem dX10_best_4 : decode cX10_best 4 = .ok (.ifCond .eq 27, 3) := dk_dX10_best_0.2.2.1
theorem dX10_best_7 : decode cX10_best 7 = .ok (.iload_n 1, 1) := dk_dX10_best_0.2.2.2.1
theorem dX10_best_8 : decode cX10_best 8 = .ok (.i2l, 1) := dk_dX10_best_0.2.2.2.2.1
theorem dX10_best_9 : decode cX10_best 9 = .ok (.lconst 0, 1) := dk_dX10_best_0.2.2.2.2.2.1
theorem dX10_best_10 : decode cX10_best 10 = .ok (.ldc2_w 544, 3) := dk_dX10_best_0.2.2.2.2.2.2.1
theorem dX10_best_13 : decode cX10_best 13 = .ok (.invokestatic 318, 3) := dk_dX10_best_0.2.2.2.2.2.2.2.1
theorem dk_dX10_best_0_8 : dz_C cX10_best [(16, .ifCond .eq 15, 3), (19, .iload_n 2, 1), (20, .i2l, 1), (21, .lconst 0, 1), (22, .ldc2_w 546, 3), (25, .invokestatic 318, 3), (28, .ifCond .ne 5, 3), (31, .iconst (-1), 1)] := dk_dX10_best_0.2.2.2.2.2.2.2.2
theorem dX10_best_16 : decode cX10_best 16 = .ok (.ifCond .eq 15, 3) := dk_dX10_best_0_8.1
theorem dX10_best_19 : decode cX10_best 19 = .ok (.iload_n 2, 1) := dk_dX10_best_0_8.2.1
theorem dX10_best_20 : decode cX10_best 20 = .ok (.i2l, 1) := dk_dX10_best_0_8.2.2.1
theorem dX10_best_21 : decode cX10_best 21 = .ok (.lconst 0, 1) := dk_dX10_best_0_8.2.2.2.1
theorem dX10_best_22 : decode cX10_best 22 = .ok (.ldc2_w 546, 3) := dk_dX10_best_0_8.2.2.2.2.1
theorem dX10_best_25 : decode cX10_best 25 = .ok (.invokestatic 318, 3) := dk_dX10_best_0_8.2.2.2.2.2.1
theorem dX10_best_28 : decode cX10_best 28 = .ok (.ifCond .ne 5, 3) := dk_dX10_best_0_8.2.2.2.2.2.2.1
theorem dX10_best_31 : decode cX10_best 31 = .ok (.iconst (-1), 1) := dk_dX10_best_0_8.2.2.2.2.2.2.2.1
theorem dk_dX10_best_32 : dz_C cX10_best [(32, .ireturn, 1), (33, .aload_n 0, 1), (34, .invokevirtual 501, 3), (37, .iconst (-1), 1), (38, .istore_n 3, 1), (39, .iconst (-1), 1), (40, .istore 4, 2), (42, .iconst (-1), 1), (43, .istore 5, 2), (45, .iconst 1, 1), (46, .istore 6, 2), (48, .aload_n 0, 1), (49, .iload 6, 2), (51, .bipush 40, 2), (53, .invokevirtual 548, 3), (56, .ifCond .eq 76, 3)] := dz_of (by decide +kernel)
theorem dX10_best_32 : decode cX10_best 32 = .ok (.ireturn, 1) := dk_dX10_best_32.1
theorem dX10_best_33 : decode cX10_best 33 = .ok (.aload_n 0, 1) := dk_dX10_best_32.2.1
theorem dX10_best_34 : decode cX10_best 34 = .ok (.invokevirtual 501, 3) := dk_dX10_best_32.2.2.1
theorem dX10_best_37 : decode cX10_best 37 = .ok (.iconst (-1), 1) := dk_dX10_best_32.2.2.2.1
theorem dX10_best_38 : decode cX10_best 38 = .ok (.istore_n 3, 1) := dk_dX10_best_32.2.2.2.2.1
theorem dX10_best_39 : decode cX10_best 39 = .ok (.iconst (-1), 1) := dk_dX10_best_32.2.2.2.2.2.1
theorem dX10_best_40 : decode cX10_best 40 = .ok (.istore 4, 2) := dk_dX10_best_32.2.2.2.2.2.2.1
theorem dX10_best_42 : decode cX10_best 42 = .ok (.iconst (-1), 1) := dk_dX10_best_32.2.2.2.2.2.2.2.1
theorem dk_dX10_best_32_8 : dz_C cX10_best [(43, .istore 5, 2), (45, .iconst 1, 1), (46, .istore 6, 2), (48, .aload_n 0, 1), (49, .iload 6, 2), (51, .bipush 40, 2), (53, .invokevirtual 548, 3), (56, .ifCond .eq 76, 3)] := dk_dX10_best_32.2.2.2.2.2.2.2.2
theorem dX10_best_43 : decode cX10_best 43 = .ok (.istore 5, 2) := dk_dX10_best_32_8.1
theorem dX10_best_45 : decode cX10_best 45 = .ok (.iconst 1, 1) := dk_dX10_best_32_8.2.1
theorem dX10_best_46 : decode cX10_best 46 = .ok (.istore 6, 2) := dk_dX10_best_32_8.2.2.1
theorem dX10_best_48 : decode cX10_best 48 = .ok (.aload_n 0, 1) := dk_dX10_best_32_8.2.2.2.1
theorem dX10_best_49 : decode cX10_best 49 = .ok (.iload 6, 2) := dk_dX10_best_32_8.2.2.2.2.1
theorem dX10_best_51 : decode cX10_best 51 = .ok (.bipush 40, 2) := dk_dX10_best_32_8.2.2.2.2.2.1
theorem dX10_best_53 : decode cX10_best 53 = .ok (.invokevirtual 548, 3) := dk_dX10_best_32_8.2.2.2.2.2.2.1
theorem dX10_best_56 : decode cX10_best 56 = .ok (.ifCond .eq 76, 3) := dk_dX10_best_32_8.2.2.2.2.2.2.2.1
theorem dk_dX10_best_59 : dz_C cX10_best [(59, .iconst 0, 1), (60, .istore 7, 2), (62, .iload 7, 2), (64, .iconst 3, 1), (65, .if_icmp .ge 61, 3), (68, .aload_n 0, 1), (69, .iload 7, 2), (71, .iload 6, 2), (73, .iconst 0, 1), (74, .iconst 0, 1), (75, .invokevirtual 504, 3), (78, .aload_n 0, 1), (79, .invokevirtual 508, 3), (82, .istore 8, 2), (84, .aload_n 0, 1), (85, .iconst 2, 1)] := dz_of (by decide +kernel)
theorem dX10_best_59 : decode cX10_best 59 = .ok (.iconst 0, 1) := dk_dX10_best_59.1
theorem dX10_best_60 : decode cX10_best 60 = .ok (.istore 7, 2) := dk_dX10_best_59.2.1
theorem dX10_best_62 : decode cX10_best 62 = .ok (.iload 7, 2) := dk_dX10_best_59.2.2.1
theorem dX10_best_64 : decode cX10_best 64 = .ok (.iconst 3, 1) := dk_dX10_best_59.2.2.2.1
theorem dX10_best_65 : decode cX10_best 65 = .ok (.if_icmp .ge 61, 3) := dk_dX10_best_59.2.2.2.2.1
theorem dX10_best_68 : decode cX10_best 68 = .ok (.aload_n 0, 1) := dk_dX10_best_59.2.2.2.2.2.1
theorem dX10_best_69 : decode cX10_best 69 = .ok (.iload 7, 2) := dk_dX10_best_59.2.2.2.2.2.2.1
theorem dX10_best_71 : decode cX10_best 71 = .ok (.iload 6, 2) := dk_dX10_best_59.2.2.2.2.2.2.2.1
theorem dk_dX10_best_59_8 : dz_C cX10_best [(73, .iconst 0, 1), (74, .iconst 0, 1), (75, .invokevirtual 504, 3), (78, .aload_n 0, 1), (79, .invokevirtual 508, 3), (82, .istore 8, 2), (84, .aload_n 0, 1), (85, .iconst 2, 1)] := dk_dX10_best_59.2.2.2.2.2.2.2.2
theorem dX10_best_73 : decode cX10_best 73 = .ok (.iconst 0, 1) := dk_dX10_best_59_8.1
theorem dX10_best_74 : decode cX10_best 74 = .ok (.iconst 0, 1) := dk_dX10_best_59_8.2.1
theorem dX10_best_75 : decode cX10_best 75 = .ok (.invokevirtual 504, 3) := dk_dX10_best_59_8.2.2.1
theorem dX10_best_78 : decode cX10_best 78 = .ok (.aload_n 0, 1) := dk_dX10_best_59_8.2.2.2.1
theorem dX10_best_79 : decode cX10_best 79 = .ok (.invokevirtual 508, 3) := dk_dX10_best_59_8.2.2.2.2.1
theorem dX10_best_82 : decode cX10_best 82 = .ok (.istore 8, 2) := dk_dX10_best_59_8.2.2.2.2.2.1
theorem dX10_best_84 : decode cX10_best 84 = .ok (.aload_n 0, 1) := dk_dX10_best_59_8.2.2.2.2.2.2.1
theorem dX10_best_85 : decode cX10_best 85 = .ok (.iconst 2, 1) := dk_dX10_best_59_8.2.2.2.2.2.2.2.1
theorem dk_dX10_best_86 : dz_C cX10_best [(86, .invokevirtual 541, 3), (89, .iload_n 1, 1), (90, .if_icmp .gt 30, 3), (93, .iload 5, 2), (95, .iconst (-1), 1), (96, .if_icmp .eq 13, 3), (99, .iload 8, 2), (101, .iload 5, 2), (103, .if_icmp .lt 6, 3), (106, .goto 14, 3), (109, .iload 7, 2), (111, .istore_n 3, 1), (112, .iload 6, 2), (114, .istore 4, 2), (116, .iload 8, 2), (118, .istore 5, 2)] := dz_of (by decide +kernel)
theorem dX10_best_86 : decode cX10_best 86 = .ok (.invokevirtual 541, 3) := dk_dX10_best_86.1
theorem dX10_best_89 : decode cX10_best 89 = .ok (.iload_n 1, 1) := dk_dX10_best_86.2.1
theorem dX10_best_90 : decode cX10_best 90 = .ok (.if_icmp .gt 30, 3) := dk_dX10_best_86.2.2.1
theorem dX10_best_93 : decode cX10_best 93 = .ok (.iload 5, 2) := dk_dX10_best_86.2.2.2.1
theorem dX10_best_95 : decode cX10_best 95 = .ok (.iconst (-1), 1) := dk_dX10_best_86.2.2.2.2.1
theorem dX10_best_96 : decode cX10_best 96 = .ok (.if_icmp .eq 13, 3) := dk_dX10_best_86.2.2.2.2.2.1
theorem dX10_best_99 : decode cX10_best 99 = .ok (.iload 8, 2) := dk_dX10_best_86.2.2.2.2.2.2.1
theorem dX10_best_101 : decode cX10_best 101 = .ok (.iload 5, 2) := dk_dX10_best_86.2.2.2.2.2.2.2.1
theorem dk_dX10_best_86_8 : dz_C cX10_best [(103, .if_icmp .lt 6, 3), (106, .goto 14, 3), (109, .iload 7, 2), (111, .istore_n 3, 1), (112, .iload 6, 2), (114, .istore 4, 2), (116, .iload 8, 2), (118, .istore 5, 2)] := dk_dX10_best_86.2.2.2.2.2.2.2.2
theorem dX10_best_103 : decode cX10_best 103 = .ok (.if_icmp .lt 6, 3) := dk_dX10_best_86_8.1
theorem dX10_best_106 : decode cX10_best 106 = .ok (.goto 14, 3) := dk_dX10_best_86_8.2.1
theorem dX10_best_109 : decode cX10_best 109 = .ok (.iload 7, 2) := dk_dX10_best_86_8.2.2.1
theorem dX10_best_111 : decode cX10_best 111 = .ok (.istore_n 3, 1) := dk_dX10_best_86_8.2.2.2.1
theorem dX10_best_112 : decode cX10_best 112 = .ok (.iload 6, 2) := dk_dX10_best_86_8.2.2.2.2.1
theorem dX10_best_114 : decode cX10_best 114 = .ok (.istore 4, 2) := dk_dX10_best_86_8.2.2.2.2.2.1
theorem dX10_best_116 : decode cX10_best 116 = .ok (.iload 8, 2) := dk_dX10_best_86_8.2.2.2.2.2.2.1
theorem dX10_best_118 : decode cX10_best 118 = .ok (.istore 5, 2) := dk_dX10_best_86_8.2.2.2.2.2.2.2.1
theorem dk_dX10_best_120 : dz_C cX10_best [(120, .iinc 7 1, 3), (123, .goto (-61), 3), (126, .iinc 6 1, 3), (129, .goto (-81), 3), (132, .iload_n 2, 1), (133, .ifCond .ne 7, 3), (136, .iload_n 3, 1), (137, .goto 15, 3), (140, .iload_n 2, 1), (141, .iconst 1, 1), (142, .if_icmp .ne 8, 3), (145, .iload 4, 2), (147, .goto 5, 3), (150, .iload 5, 2), (152, .ireturn, 1)] := dz_of (by decide +kernel)
theorem dX10_best_120 : decode cX10_best 120 = .ok (.iinc 7 1, 3) := dk_dX10_best_120.1
theorem dX10_best_123 : decode cX10_best 123 = .ok (.goto (-61), 3) := dk_dX10_best_120.2.1
theorem dX10_best_126 : decode cX10_best 126 = .ok (.iinc 6 1, 3) := dk_dX10_best_120.2.2.1
theorem dX10_best_129 : decode cX10_best 129 = .ok (.goto (-81), 3) := dk_dX10_best_120.2.2.2.1
theorem dX10_best_132 : decode cX10_best 132 = .ok (.iload_n 2, 1) := dk_dX10_best_120.2.2.2.2.1
theorem dX10_best_133 : decode cX10_best 133 = .ok (.ifCond .ne 7, 3) := dk_dX10_best_120.2.2.2.2.2.1
theorem dX10_best_136 : decode cX10_best 136 = .ok (.iload_n 3, 1) := dk_dX10_best_120.2.2.2.2.2.2.1
theorem dX10_best_137 : decode cX10_best 137 = .ok (.goto 15, 3) := dk_dX10_best_120.2.2.2.2.2.2.2.1
theorem dk_dX10_best_120_8 : dz_C cX10_best [(140, .iload_n 2, 1), (141, .iconst 1, 1), (142, .if_icmp .ne 8, 3), (145, .iload 4, 2), (147, .goto 5, 3), (150, .iload 5, 2), (152, .ireturn, 1)] := dk_dX10_best_120.2.2.2.2.2.2.2.2
theorem dX10_best_140 : decode cX10_best 140 = .ok (.iload_n 2, 1) := dk_dX10_best_120_8.1
theorem dX10_best_141 : decode cX10_best 141 = .ok (.iconst 1, 1) := dk_dX10_best_120_8.2.1
theorem dX10_best_142 : decode cX10_best 142 = .ok (.if_icmp .ne 8, 3) := dk_dX10_best_120_8.2.2.1
theorem dX10_best_145 : decode cX10_best 145 = .ok (.iload 4, 2) := dk_dX10_best_120_8.2.2.2.1
theorem dX10_best_147 : decode cX10_best 147 = .ok (.goto 5, 3) := dk_dX10_best_120_8.2.2.2.2.1
theorem dX10_best_150 : decode cX10_best 150 = .ok (.iload 5, 2) := dk_dX10_best_120_8.2.2.2.2.2.1
theorem dX10_best_152 : decode cX10_best 152 = .ok (.ireturn, 1) := dk_dX10_best_120_8.2.2.2.2.2.2.1
theorem dk_dX10_bits_0 : dz_C cX10_bits [(0, .iconst 0, 1), (1, .istore_n 1, 1), (2, .iload_n 0, 1), (3, .istore_n 2, 1), (4, .iload_n 2, 1), (5, .ifCond .eq 15, 3), (8, .iinc 1 1, 3), (11, .iload_n 2, 1), (12, .iload_n 2, 1), (13, .iconst 1, 1), (14, .isub, 1), (15, .iand, 1), (16, .istore_n 2, 1), (17, .goto (-13), 3), (20, .iload_n 1, 1), (21, .ireturn, 1)] := dz_of (by decide +kernel)
theorem dX10_bits_0 : decode cX10_bits 0 = .ok (.iconst 0, 1) := dk_dX10_bits_0.1
theorem dX10_bits_1 : decode cX10_bits 1 = .ok (.istore_n 1, 1) := dk_dX10_bits_0.2.1
theorem dX10_bits_2 : decode cX10_bits 2 = .ok (.iload_n 0, 1) := dk_dX10_bits_0.2.2.1
theorem dX10_bits_3 : decode cX10_bits 3 = .ok (.istore_n 2, 1) := dk_dX10_bits_0.2.2.2.1
theorem dX10_bits_4 : decode cX10_bits 4 = .ok (.iload_n 2, 1) := dk_dX10_bits_0.2.2.2.2.1
theorem dX10_bits_5 : decode cX10_bits 5 = .ok (.ifCond .eq 15, 3) := dk_dX10_bits_0.2.2.2.2.2.1
theorem dX10_bits_8 : decode cX10_bits 8 = .ok (.iinc 1 1, 3) := dk_dX10_bits_0.2.2.2.2.2.2.1
theorem dX10_bits_11 : decode cX10_bits 11 = .ok (.iload_n 2, 1) := dk_dX10_bits_0.2.2.2.2.2.2.2.1
theorem dk_dX10_bits_0_8 : dz_C cX10_bits [(12, .iload_n 2, 1), (13, .iconst 1, 1), (14, .isub, 1), (15, .iand, 1), (16, .istore_n 2, 1), (17, .goto (-13), 3), (20, .iload_n 1, 1), (21, .ireturn, 1)] := dk_dX10_bits_0.2.2.2.2.2.2.2.2
theorem dX10_bits_12 : decode cX10_bits 12 = .ok (.iload_n 2, 1) := dk_dX10_bits_0_8.1
theorem dX10_bits_13 : decode cX10_bits 13 = .ok (.iconst 1, 1) := dk_dX10_bits_0_8.2.1
theorem dX10_bits_14 : decode cX10_bits 14 = .ok (.isub, 1) := dk_dX10_bits_0_8.2.2.1
theorem dX10_bits_15 : decode cX10_bits 15 = .ok (.iand, 1) := dk_dX10_bits_0_8.2.2.2.1
theorem dX10_bits_16 : decode cX10_bits 16 = .ok (.istore_n 2, 1) := dk_dX10_bits_0_8.2.2.2.2.1
theorem dX10_bits_17 : decode cX10_bits 17 = .ok (.goto (-13), 3) := dk_dX10_bits_0_8.2.2.2.2.2.1
theorem dX10_bits_20 : decode cX10_bits 20 = .ok (.iload_n 1, 1) := dk_dX10_bits_0_8.2.2.2.2.2.2.1
theorem dX10_bits_21 : decode cX10_bits 21 = .ok (.ireturn, 1) := dk_dX10_bits_0_8.2.2.2.2.2.2.2.1
theorem dk_dX10_car_0 : dz_C cX10_car [(0, .aload_n 0, 1), (1, .getfield 417, 3), (4, .ifCond .eq 15, 3), (7, .iload_n 1, 1), (8, .i2l, 1), (9, .lconst 0, 1), (10, .ldc2_w 539, 3), (13, .invokestatic 318, 3), (16, .ifCond .ne 5, 3), (19, .iconst (-1), 1), (20, .ireturn, 1), (21, .aload_n 0, 1), (22, .invokevirtual 501, 3), (25, .aload_n 0, 1), (26, .getfield 145, 3), (29, .iload_n 1, 1)] := dz_of (by decide +kernel)
theorem dX10_car_0 : decode cX10_car 0 = .ok (.aload_n 0, 1) := dk_dX10_car_0.1
theorem dX10_car_1 : decode cX10_car 1 = .ok (.getfield 417, 3) := dk_dX10_car_0.2.1
theorem dX10_car_4 : decode cX10_car 4 = .ok (.ifCond .eq 15, 3) := dk_dX10_car_0.2.2.1
theorem dX10_car_7 : decode cX10_car 7 = .ok (.iload_n 1, 1) := dk_dX10_car_0.2.2.2.1
theorem dX10_car_8 : decode cX10_car 8 = .ok (.i2l, 1) := dk_dX10_car_0.2.2.2.2.1
theorem dX10_car_9 : decode cX10_car 9 = .ok (.lconst 0, 1) := dk_dX10_car_0.2.2.2.2.2.1
theorem dX10_car_10 : decode cX10_car 10 = .ok (.ldc2_w 539, 3) := dk_dX10_car_0.2.2.2.2.2.2.1
theorem dX10_car_13 : decode cX10_car 13 = .ok (.invokestatic 318, 3) := dk_dX10_car_0.2.2.2.2.2.2.2.1
theorem dk_dX10_car_0_8 : dz_C cX10_car [(16, .ifCond .ne 5, 3), (19, .iconst (-1), 1), (20, .ireturn, 1), (21, .aload_n 0, 1), (22, .invokevirtual 501, 3), (25, .aload_n 0, 1), (26, .getfield 145, 3), (29, .iload_n 1, 1)] := dk_dX10_car_0.2.2.2.2.2.2.2.2
theorem dX10_car_16 : decode cX10_car 16 = .ok (.ifCond .ne 5, 3) := dk_dX10_car_0_8.1
theorem dX10_car_19 : decode cX10_car 19 = .ok (.iconst (-1), 1) := dk_dX10_car_0_8.2.1
theorem dX10_car_20 : decode cX10_car 20 = .ok (.ireturn, 1) := dk_dX10_car_0_8.2.2.1
theorem dX10_car_21 : decode cX10_car 21 = .ok (.aload_n 0, 1) := dk_dX10_car_0_8.2.2.2.1
theorem dX10_car_22 : decode cX10_car 22 = .ok (.invokevirtual 501, 3) := dk_dX10_car_0_8.2.2.2.2.1
theorem dX10_car_25 : decode cX10_car 25 = .ok (.aload_n 0, 1) := dk_dX10_car_0_8.2.2.2.2.2.1
theorem dX10_car_26 : decode cX10_car 26 = .ok (.getfield 145, 3) := dk_dX10_car_0_8.2.2.2.2.2.2.1
theorem dX10_car_29 : decode cX10_car 29 = .ok (.iload_n 1, 1) := dk_dX10_car_0_8.2.2.2.2.2.2.2.1
theorem dk_dX10_car_30 : dz_C cX10_car [(30, .baload, 1), (31, .ifCond .eq 7, 3), (34, .iconst 1, 1), (35, .goto 4, 3), (38, .iconst 0, 1), (39, .ireturn, 1)] := dz_of (by decide +kernel)
theorem dX10_car_30 : decode cX10_car 30 = .ok (.baload, 1) := dk_dX10_car_30.1
theorem dX10_car_31 : decode cX10_car 31 = .ok (.ifCond .eq 7, 3) := dk_dX10_car_30.2.1
theorem dX10_car_34 : decode cX10_car 34 = .ok (.iconst 1, 1) := dk_dX10_car_30.2.2.1
theorem dX10_car_35 : decode cX10_car 35 = .ok (.goto 4, 3) := dk_dX10_car_30.2.2.2.1
theorem dX10_car_38 : decode cX10_car 38 = .ok (.iconst 0, 1) := dk_dX10_car_30.2.2.2.2.1
theorem dX10_car_39 : decode cX10_car 39 = .ok (.ireturn, 1) := dk_dX10_car_30.2.2.2.2.2.1
theorem dk_dX10_chance_0 : dz_C cX10_chance [(0, .aload_n 0, 1), (1, .iload_n 1, 1), (2, .iconst 1, 1), (3, .bipush 30, 2), (5, .invokevirtual 554, 3), (8, .ifCond .ne 9, 3), (11, .aload_n 0, 1), (12, .iconst 3, 1), (13, .invokevirtual 567, 3), (16, .ireturn, 1), (17, .aload_n 0, 1), (18, .invokevirtual 594, 3), (21, .iconst 0, 1), (22, .istore_n 2, 1), (23, .iconst 0, 1), (24, .istore_n 3, 1)] := dz_of (by decide +kernel)
theorem dX10_chance_0 : decode cX10_chance 0 = .ok (.aload_n 0, 1) := dk_dX10_chance_0.1
theorem dX10_chance_1 : decode cX10_chance 1 = .ok (.iload_n 1, 1) := dk_dX10_chance_0.2.1
theorem dX10_chance_2 : decode cX10_chance 2 = .ok (.iconst 1, 1) := dk_dX10_chance_0.2.2.1
theorem dX10_chance_3 : decode cX10_chance 3 = .ok (.bipush 30, 2) := dk_dX10_chance_0.2.2.2.1
theorem dX10_chance_5 : decode cX10_chance 5 = .ok (.invokevirtual 554, 3) := dk_dX10_chance_0.2.2.2.2.1
theorem dX10_chance_8 : decode cX10_chance 8 = .ok (.ifCond .ne 9, 3) := dk_dX10_chance_0.2.2.2.2.2.1
theorem dX10_chance_11 : decode cX10_chance 11 = .ok (.aload_n 0, 1) := dk_dX10_chance_0.2.2.2.2.2.2.1
theorem dX10_chance_12 : decode cX10_chance 12 = .ok (.iconst 3, 1) := dk_dX10_chance_0.2.2.2.2.2.2.2.1
theorem dk_dX10_chance_0_8 : dz_C cX10_chance [(13, .invokevirtual 567, 3), (16, .ireturn, 1), (17, .aload_n 0, 1), (18, .invokevirtual 594, 3), (21, .iconst 0, 1), (22, .istore_n 2, 1), (23, .iconst 0, 1), (24, .istore_n 3, 1)] := dk_dX10_chance_0.2.2.2.2.2.2.2.2
theorem dX10_chance_13 : decode cX10_chance 13 = .ok (.invokevirtual 567, 3) := dk_dX10_chance_0_8.1
theorem dX10_chance_16 : decode cX10_chance 16 = .ok (.ireturn, 1) := dk_dX10_chance_0_8.2.1
theorem dX10_chance_17 : decode cX10_chance 17 = .ok (.aload_n 0, 1) := dk_dX10_chance_0_8.2.2.1
theorem dX10_chance_18 : decode cX10_chance 18 = .ok (.invokevirtual 594, 3) := dk_dX10_chance_0_8.2.2.2.1
theorem dX10_chance_21 : decode cX10_chance 21 = .ok (.iconst 0, 1) := dk_dX10_chance_0_8.2.2.2.2.1
theorem dX10_chance_22 : decode cX10_chance 22 = .ok (.istore_n 2, 1) := dk_dX10_chance_0_8.2.2.2.2.2.1
theorem dX10_chance_23 : decode cX10_chance 23 = .ok (.iconst 0, 1) := dk_dX10_chance_0_8.2.2.2.2.2.2.1
theorem dX10_chance_24 : decode cX10_chance 24 = .ok (.istore_n 3, 1) := dk_dX10_chance_0_8.2.2.2.2.2.2.2.1
theorem dk_dX10_chance_25 : dz_C cX10_chance [(25, .iload_n 3, 1), (26, .iload_n 1, 1), (27, .if_icmp .ge 62, 3), (30, .iconst 0, 1), (31, .istore 4, 2), (33, .iconst 0, 1), (34, .istore 5, 2), (36, .iload 5, 2), (38, .aload_n 0, 1), (39, .invokevirtual 433, 3), (42, .if_icmp .ge 34, 3), (45, .aload_n 0, 1), (46, .bipush 100, 2), (48, .invokevirtual 605, 3), (51, .aload_n 0, 1), (52, .getfield 421, 3)] := dz_of (by decide +kernel)
theorem dX10_chance_25 : decode cX10_chance 25 = .ok (.iload_n 3, 1) := dk_dX10_chance_25.1
theorem dX10_chance_26 : decode cX10_chance 26 = .ok (.iload_n 1, 1) := dk_dX10_chance_25.2.1
theorem dX10_chance_27 : decode cX10_chance 27 = .ok (.if_icmp .ge 62, 3) := dk_dX10_chance_25.2.2.1
theorem dX10_chance_30 : decode cX10_chance 30 = .ok (.iconst 0, 1) := dk_dX10_chance_25.2.2.2.1
theorem dX10_chance_31 : decode cX10_chance 31 = .ok (.istore 4, 2) := dk_dX10_chance_25.2.2.2.2.1
theorem dX10_chance_33 : decode cX10_chance 33 = .ok (.iconst 0, 1) := dk_dX10_chance_25.2.2.2.2.2.1
theorem dX10_chance_34 : decode cX10_chance 34 = .ok (.istore 5, 2) := dk_dX10_chance_25.2.2.2.2.2.2.1
theorem dX10_chance_36 : decode cX10_chance 36 = .ok (.iload 5, 2) := dk_dX10_chance_25.2.2.2.2.2.2.2.1
theorem dk_dX10_chance_25_8 : dz_C cX10_chance [(38, .aload_n 0, 1), (39, .invokevirtual 433, 3), (42, .if_icmp .ge 34, 3), (45, .aload_n 0, 1), (46, .bipush 100, 2), (48, .invokevirtual 605, 3), (51, .aload_n 0, 1), (52, .getfield 421, 3)] := dk_dX10_chance_25.2.2.2.2.2.2.2.2
theorem dX10_chance_38 : decode cX10_chance 38 = .ok (.aload_n 0, 1) := dk_dX10_chance_25_8.1
theorem dX10_chance_39 : decode cX10_chance 39 = .ok (.invokevirtual 433, 3) := dk_dX10_chance_25_8.2.1
theorem dX10_chance_42 : decode cX10_chance 42 = .ok (.if_icmp .ge 34, 3) := dk_dX10_chance_25_8.2.2.1
theorem dX10_chance_45 : decode cX10_chance 45 = .ok (.aload_n 0, 1) := dk_dX10_chance_25_8.2.2.2.1
theorem dX10_chance_46 : decode cX10_chance 46 = .ok (.bipush 100, 2) := dk_dX10_chance_25_8.2.2.2.2.1
theorem dX10_chance_48 : decode cX10_chance 48 = .ok (.invokevirtual 605, 3) := dk_dX10_chance_25_8.2.2.2.2.2.1
theorem dX10_chance_51 : decode cX10_chance 51 = .ok (.aload_n 0, 1) := dk_dX10_chance_25_8.2.2.2.2.2.2.1
theorem dX10_chance_52 : decode cX10_chance 52 = .ok (.getfield 421, 3) := dk_dX10_chance_25_8.2.2.2.2.2.2.2.1
theorem dk_dX10_chance_55 : dz_C cX10_chance [(55, .if_icmp .ge 15, 3), (58, .iload 4, 2), (60, .iconst 1, 1), (61, .iload 5, 2), (63, .ishl, 1), (64, .ior, 1), (65, .istore 4, 2), (67, .iinc 2 1, 3), (70, .iinc 5 1, 3), (73, .goto (-37), 3), (76, .aload_n 0, 1), (77, .iload 4, 2), (79, .invokevirtual 560, 3), (82, .pop, 1), (83, .iinc 3 1, 3), (86, .goto (-61), 3)] := dz_of (by decide +kernel)
theorem dX10_chance_55 : decode cX10_chance 55 = .ok (.if_icmp .ge 15, 3) := dk_dX10_chance_55.1
theorem dX10_chance_58 : decode cX10_chance 58 = .ok (.iload 4, 2) := dk_dX10_chance_55.2.1
theorem dX10_chance_60 : decode cX10_chance 60 = .ok (.iconst 1, 1) := dk_dX10_chance_55.2.2.1
theorem dX10_chance_61 : decode cX10_chance 61 = .ok (.iload 5, 2) := dk_dX10_chance_55.2.2.2.1
theorem dX10_chance_63 : decode cX10_chance 63 = .ok (.ishl, 1) := dk_dX10_chance_55.2.2.2.2.1
theorem dX10_chance_64 : decode cX10_chance 64 = .ok (.ior, 1) := dk_dX10_chance_55.2.2.2.2.2.1
theorem dX10_chance_65 : decode cX10_chance 65 = .ok (.istore 4, 2) := dk_dX10_chance_55.2.2.2.2.2.2.1
theorem dX10_chance_67 : decode cX10_chance 67 = .ok (.iinc 2 1, 3) := dk_dX10_chance_55.2.2.2.2.2.2.2.1
theorem dk_dX10_chance_55_8 : dz_C cX10_chance [(70, .iinc 5 1, 3), (73, .goto (-37), 3), (76, .aload_n 0, 1), (77, .iload 4, 2), (79, .invokevirtual 560, 3), (82, .pop, 1), (83, .iinc 3 1, 3), (86, .goto (-61), 3)] := dk_dX10_chance_55.2.2.2.2.2.2.2.2
theorem dX10_chance_70 : decode cX10_chance 70 = .ok (.iinc 5 1, 3) := dk_dX10_chance_55_8.1
theorem dX10_chance_73 : decode cX10_chance 73 = .ok (.goto (-37), 3) := dk_dX10_chance_55_8.2.1
theorem dX10_chance_76 : decode cX10_chance 76 = .ok (.aload_n 0, 1) := dk_dX10_chance_55_8.2.2.1
theorem dX10_chance_77 : decode cX10_chance 77 = .ok (.iload 4, 2) := dk_dX10_chance_55_8.2.2.2.1
theorem dX10_chance_79 : decode cX10_chance 79 = .ok (.invokevirtual 560, 3) := dk_dX10_chance_55_8.2.2.2.2.1
theorem dX10_chance_82 : decode cX10_chance 82 = .ok (.pop, 1) := dk_dX10_chance_55_8.2.2.2.2.2.1
theorem dX10_chance_83 : decode cX10_chance 83 = .ok (.iinc 3 1, 3) := dk_dX10_chance_55_8.2.2.2.2.2.2.1
theorem dX10_chance_86 : decode cX10_chance 86 = .ok (.goto (-61), 3) := dk_dX10_chance_55_8.2.2.2.2.2.2.2.1
theorem dk_dX10_chance_89 : dz_C cX10_chance [(89, .iload_n 2, 1), (90, .ireturn, 1)] := dz_of (by decide +kernel)
theorem dX10_chance_89 : decode cX10_chance 89 = .ok (.iload_n 2, 1) := dk_dX10_chance_89.1
theorem dX10_chance_90 : decode cX10_chance 90 = .ok (.ireturn, 1) := dk_dX10_chance_89.2.1
theorem dk_dX10_checked_0 : dz_C cX10_checked [(0, .bipush 101, 2), (2, .istore_n 2, 1), (3, .iconst 0, 1), (4, .istore_n 3, 1), (5, .iload_n 3, 1), (6, .iload_n 1, 1), (7, .if_icmp .ge 21, 3), (10, .iconst 3, 1), (11, .iload_n 2, 1), (12, .imul, 1), (13, .aload_n 0, 1), (14, .iload_n 3, 1), (15, .iaload, 1), (16, .iadd, 1), (17, .sipush 251, 3), (20, .irem, 1)] := dz_of (by decide +kernel)
theorem dX10_checked_0 : decode cX10_checked 0 = .ok (.bipush 101, 2) := dk_dX10_checked_0.1
theorem dX10_checked_2 : decode cX10_checked 2 = .ok (.istore_n 2, 1) := dk_dX10_checked_0.2.1
theorem dX10_checked_3 : decode cX10_checked 3 = .ok (.iconst 0, 1) := dk_dX10_checked_0.2.2.1
theorem dX10_checked_4 : decode cX10_checked 4 = .ok (.istore_n 3, 1) := dk_dX10_checked_0.2.2.2.1
theorem dX10_checked_5 : decode cX10_checked 5 = .ok (.iload_n 3, 1) := dk_dX10_checked_0.2.2.2.2.1
theorem dX10_checked_6 : decode cX10_checked 6 = .ok (.iload_n 1, 1) := dk_dX10_checked_0.2.2.2.2.2.1
theorem dX10_checked_7 : decode cX10_checked 7 = .ok (.if_icmp .ge 21, 3) := dk_dX10_checked_0.2.2.2.2.2.2.1
theorem dX10_checked_10 : decode cX10_checked 10 = .ok (.iconst 3, 1) := dk_dX10_checked_0.2.2.2.2.2.2.2.1
theorem dk_dX10_checked_0_8 : dz_C cX10_checked [(11, .iload_n 2, 1), (12, .imul, 1), (13, .aload_n 0, 1), (14, .iload_n 3, 1), (15, .iaload, 1), (16, .iadd, 1), (17, .sipush 251, 3), (20, .irem, 1)] := dk_dX10_checked_0.2.2.2.2.2.2.2.2
theorem dX10_checked_11 : decode cX10_checked 11 = .ok (.iload_n 2, 1) := dk_dX10_checked_0_8.1
theorem dX10_checked_12 : decode cX10_checked 12 = .ok (.imul, 1) := dk_dX10_checked_0_8.2.1
theorem dX10_checked_13 : decode cX10_checked 13 = .ok (.aload_n 0, 1) := dk_dX10_checked_0_8.2.2.1
theorem dX10_checked_14 : decode cX10_checked 14 = .ok (.iload_n 3, 1) := dk_dX10_checked_0_8.2.2.2.1
theorem dX10_checked_15 : decode cX10_checked 15 = .ok (.iaload, 1) := dk_dX10_checked_0_8.2.2.2.2.1
theorem dX10_checked_16 : decode cX10_checked 16 = .ok (.iadd, 1) := dk_dX10_checked_0_8.2.2.2.2.2.1
theorem dX10_checked_17 : decode cX10_checked 17 = .ok (.sipush 251, 3) := dk_dX10_checked_0_8.2.2.2.2.2.2.1
theorem dX10_checked_20 : decode cX10_checked 20 = .ok (.irem, 1) := dk_dX10_checked_0_8.2.2.2.2.2.2.2.1
theorem dk_dX10_checked_21 : dz_C cX10_checked [(21, .istore_n 2, 1), (22, .iinc 3 1, 3), (25, .goto (-20), 3), (28, .iload_n 2, 1), (29, .ireturn, 1)] := dz_of (by decide +kernel)
theorem dX10_checked_21 : decode cX10_checked 21 = .ok (.istore_n 2, 1) := dk_dX10_checked_21.1
theorem dX10_checked_22 : decode cX10_checked 22 = .ok (.iinc 3 1, 3) := dk_dX10_checked_21.2.1
theorem dX10_checked_25 : decode cX10_checked 25 = .ok (.goto (-20), 3) := dk_dX10_checked_21.2.2.1
theorem dX10_checked_28 : decode cX10_checked 28 = .ok (.iload_n 2, 1) := dk_dX10_checked_21.2.2.2.1
theorem dX10_checked_29 : decode cX10_checked 29 = .ok (.ireturn, 1) := dk_dX10_checked_21.2.2.2.2.1
theorem dk_dX10_codesTell_0 : dz_C cX10_codesTell [(0, .aload_n 0, 1), (1, .iload_n 1, 1), (2, .putfield 333, 3), (5, .aload_n 0, 1), (6, .iconst 0, 1), (7, .putfield 440, 3), (10, .aload_n 0, 1), (11, .getfield 130, 3), (14, .iconst 3, 1), (15, .iload_n 1, 1), (16, .iadd, 1), (17, .iaload, 1), (18, .istore_n 3, 1), (19, .iload_n 3, 1), (20, .aload_n 0, 1), (21, .getfield 133, 3)] := dz_of (by decide +kernel)
theorem dX10_codesTell_0 : decode cX10_codesTell 0 = .ok (.aload_n 0, 1) := dk_dX10_codesTell_0.1
theorem dX10_codesTell_1 : decode cX10_codesTell 1 = .ok (.iload_n 1, 1) := dk_dX10_codesTell_0.2.1
theorem dX10_codesTell_2 : decode cX10_codesTell 2 = .ok (.putfield 333, 3) := dk_dX10_codesTell_0.2.2.1
theorem dX10_codesTell_5 : decode cX10_codesTell 5 = .ok (.aload_n 0, 1) := dk_dX10_codesTell_0.2.2.2.1
theorem dX10_codesTell_6 : decode cX10_codesTell 6 = .ok (.iconst 0, 1) := dk_dX10_codesTell_0.2.2.2.2.1
theorem dX10_codesTell_7 : decode cX10_codesTell 7 = .ok (.putfield 440, 3) := dk_dX10_codesTell_0.2.2.2.2.2.1
theorem dX10_codesTell_10 : decode cX10_codesTell 10 = .ok (.aload_n 0, 1) := dk_dX10_codesTell_0.2.2.2.2.2.2.1
theorem dX10_codesTell_11 : decode cX10_codesTell 11 = .ok (.getfield 130, 3) := dk_dX10_codesTell_0.2.2.2.2.2.2.2.1
theorem dk_dX10_codesTell_0_8 : dz_C cX10_codesTell [(14, .iconst 3, 1), (15, .iload_n 1, 1), (16, .iadd, 1), (17, .iaload, 1), (18, .istore_n 3, 1), (19, .iload_n 3, 1), (20, .aload_n 0, 1), (21, .getfield 133, 3)] := dk_dX10_codesTell_0.2.2.2.2.2.2.2.2
theorem dX10_codesTell_14 : decode cX10_codesTell 14 = .ok (.iconst 3, 1) := dk_dX10_codesTell_0_8.1
theorem dX10_codesTell_15 : decode cX10_codesTell 15 = .ok (.iload_n 1, 1) := dk_dX10_codesTell_0_8.2.1
theorem dX10_codesTell_16 : decode cX10_codesTell 16 = .ok (.iadd, 1) := dk_dX10_codesTell_0_8.2.2.1
theorem dX10_codesTell_17 : decode cX10_codesTell 17 = .ok (.iaload, 1) := dk_dX10_codesTell_0_8.2.2.2.1
theorem dX10_codesTell_18 : decode cX10_codesTell 18 = .ok (.istore_n 3, 1) := dk_dX10_codesTell_0_8.2.2.2.2.1
theorem dX10_codesTell_19 : decode cX10_codesTell 19 = .ok (.iload_n 3, 1) := dk_dX10_codesTell_0_8.2.2.2.2.2.1
theorem dX10_codesTell_20 : decode cX10_codesTell 20 = .ok (.aload_n 0, 1) := dk_dX10_codesTell_0_8.2.2.2.2.2.2.1
theorem dX10_codesTell_21 : decode cX10_codesTell 21 = .ok (.getfield 133, 3) := dk_dX10_codesTell_0_8.2.2.2.2.2.2.2.1
theorem dk_dX10_codesTell_24 : dz_C cX10_codesTell [(24, .iconst 3, 1), (25, .iload_n 1, 1), (26, .iadd, 1), (27, .iaload, 1), (28, .if_icmp .ge 122, 3), (31, .aload_n 0, 1), (32, .getfield 136, 3), (35, .sipush 1600, 3), (38, .iload_n 3, 1), (39, .iadd, 1), (40, .iaload, 1), (41, .istore 4, 2), (43, .iload 4, 2), (45, .sipush 1000, 3), (48, .if_icmp .lt 17, 3), (51, .aload_n 0, 1)] := dz_of (by decide +kernel)
theorem dX10_codesTell_24 : decode cX10_codesTell 24 = .ok (.iconst 3, 1) := dk_dX10_codesTell_24.1
theorem dX10_codesTell_25 : decode cX10_codesTell 25 = .ok (.iload_n 1, 1) := dk_dX10_codesTell_24.2.1
theorem dX10_codesTell_26 : decode cX10_codesTell 26 = .ok (.iadd, 1) := dk_dX10_codesTell_24.2.2.1
theorem dX10_codesTell_27 : decode cX10_codesTell 27 = .ok (.iaload, 1) := dk_dX10_codesTell_24.2.2.2.1
theorem dX10_codesTell_28 : decode cX10_codesTell 28 = .ok (.if_icmp .ge 122, 3) := dk_dX10_codesTell_24.2.2.2.2.1
theorem dX10_codesTell_31 : decode cX10_codesTell 31 = .ok (.aload_n 0, 1) := dk_dX10_codesTell_24.2.2.2.2.2.1
theorem dX10_codesTell_32 : decode cX10_codesTell 32 = .ok (.getfield 136, 3) := dk_dX10_codesTell_24.2.2.2.2.2.2.1
theorem dX10_codesTell_35 : decode cX10_codesTell 35 = .ok (.sipush 1600, 3) := dk_dX10_codesTell_24.2.2.2.2.2.2.2.1
theorem dk_dX10_codesTell_24_8 : dz_C cX10_codesTell [(38, .iload_n 3, 1), (39, .iadd, 1), (40, .iaload, 1), (41, .istore 4, 2), (43, .iload 4, 2), (45, .sipush 1000, 3), (48, .if_icmp .lt 17, 3), (51, .aload_n 0, 1)] := dk_dX10_codesTell_24.2.2.2.2.2.2.2.2
theorem dX10_codesTell_38 : decode cX10_codesTell 38 = .ok (.iload_n 3, 1) := dk_dX10_codesTell_24_8.1
theorem dX10_codesTell_39 : decode cX10_codesTell 39 = .ok (.iadd, 1) := dk_dX10_codesTell_24_8.2.1
theorem dX10_codesTell_40 : decode cX10_codesTell 40 = .ok (.iaload, 1) := dk_dX10_codesTell_24_8.2.2.1
theorem dX10_codesTell_41 : decode cX10_codesTell 41 = .ok (.istore 4, 2) := dk_dX10_codesTell_24_8.2.2.2.1
theorem dX10_codesTell_43 : decode cX10_codesTell 43 = .ok (.iload 4, 2) := dk_dX10_codesTell_24_8.2.2.2.2.1
theorem dX10_codesTell_45 : decode cX10_codesTell 45 = .ok (.sipush 1000, 3) := dk_dX10_codesTell_24_8.2.2.2.2.2.1
theorem dX10_codesTell_48 : decode cX10_codesTell 48 = .ok (.if_icmp .lt 17, 3) := dk_dX10_codesTell_24_8.2.2.2.2.2.2.1
theorem dX10_codesTell_51 : decode cX10_codesTell 51 = .ok (.aload_n 0, 1) := dk_dX10_codesTell_24_8.2.2.2.2.2.2.2.1
theorem dk_dX10_codesTell_52 : dz_C cX10_codesTell [(52, .iload 4, 2), (54, .sipush 1000, 3), (57, .isub, 1), (58, .i2l, 1), (59, .invokevirtual 443, 3), (62, .goto 82, 3), (65, .iload 4, 2), (67, .bipush 40, 2), (69, .if_icmp .lt 20, 3), (72, .aload_n 0, 1), (73, .aload_n 0, 1), (74, .iload 4, 2), (76, .bipush 40, 2), (78, .isub, 1), (79, .iload_n 2, 1), (80, .invokevirtual 447, 3)] := dz_of (by decide +kernel)
theorem dX10_codesTell_52 : decode cX10_codesTell 52 = .ok (.iload 4, 2) := dk_dX10_codesTell_52.1
theorem dX10_codesTell_54 : decode cX10_codesTell 54 = .ok (.sipush 1000, 3) := dk_dX10_codesTell_52.2.1
theorem dX10_codesTell_57 : decode cX10_codesTell 57 = .ok (.isub, 1) := dk_dX10_codesTell_52.2.2.1
theorem dX10_codesTell_58 : decode cX10_codesTell 58 = .ok (.i2l, 1) := dk_dX10_codesTell_52.2.2.2.1
theorem dX10_codesTell_59 : decode cX10_codesTell 59 = .ok (.invokevirtual 443, 3) := dk_dX10_codesTell_52.2.2.2.2.1
theorem dX10_codesTell_62 : decode cX10_codesTell 62 = .ok (.goto 82, 3) := dk_dX10_codesTell_52.2.2.2.2.2.1
theorem dX10_codesTell_65 : decode cX10_codesTell 65 = .ok (.iload 4, 2) := dk_dX10_codesTell_52.2.2.2.2.2.2.1
theorem dX10_codesTell_67 : decode cX10_codesTell 67 = .ok (.bipush 40, 2) := dk_dX10_codesTell_52.2.2.2.2.2.2.2.1
theorem dk_dX10_codesTell_52_8 : dz_C cX10_codesTell [(69, .if_icmp .lt 20, 3), (72, .aload_n 0, 1), (73, .aload_n 0, 1), (74, .iload 4, 2), (76, .bipush 40, 2), (78, .isub, 1), (79, .iload_n 2, 1), (80, .invokevirtual 447, 3)] := dk_dX10_codesTell_52.2.2.2.2.2.2.2.2
theorem dX10_codesTell_69 : decode cX10_codesTell 69 = .ok (.if_icmp .lt 20, 3) := dk_dX10_codesTell_52_8.1
theorem dX10_codesTell_72 : decode cX10_codesTell 72 = .ok (.aload_n 0, 1) := dk_dX10_codesTell_52_8.2.1
theorem dX10_codesTell_73 : decode cX10_codesTell 73 = .ok (.aload_n 0, 1) := dk_dX10_codesTell_52_8.2.2.1
theorem dX10_codesTell_74 : decode cX10_codesTell 74 = .ok (.iload 4, 2) := dk_dX10_codesTell_52_8.2.2.2.1
theorem dX10_codesTell_76 : decode cX10_codesTell 76 = .ok (.bipush 40, 2) := dk_dX10_codesTell_52_8.2.2.2.2.1
theorem dX10_codesTell_78 : decode cX10_codesTell 78 = .ok (.isub, 1) := dk_dX10_codesTell_52_8.2.2.2.2.2.1
theorem dX10_codesTell_79 : decode cX10_codesTell 79 = .ok (.iload_n 2, 1) := dk_dX10_codesTell_52_8.2.2.2.2.2.2.1
theorem dX10_codesTell_80 : decode cX10_codesTell 80 = .ok (.invokevirtual 447, 3) := dk_dX10_codesTell_52_8.2.2.2.2.2.2.2.1
theorem dk_dX10_codesTell_83 : dz_C cX10_codesTell [(83, .invokevirtual 443, 3), (86, .goto 58, 3), (89, .iload 4, 2), (91, .bipush 13, 2), (93, .if_icmp .ne 11, 3), (96, .aload_n 0, 1), (97, .lconst 1, 1), (98, .invokevirtual 443, 3), (101, .goto 43, 3), (104, .iload 4, 2), (106, .bipush 12, 2), (108, .if_icmp .ne 30, 3), (111, .aload_n 0, 1), (112, .getfield 270, 3), (115, .aload_n 0, 1), (116, .getfield 440, 3)] := dz_of (by decide +kernel)
theorem dX10_codesTell_83 : decode cX10_codesTell 83 = .ok (.invokevirtual 443, 3) := dk_dX10_codesTell_83.1
theorem dX10_codesTell_86 : decode cX10_codesTell 86 = .ok (.goto 58, 3) := dk_dX10_codesTell_83.2.1
theorem dX10_codesTell_89 : decode cX10_codesTell 89 = .ok (.iload 4, 2) := dk_dX10_codesTell_83.2.2.1
theorem dX10_codesTell_91 : decode cX10_codesTell 91 = .ok (.bipush 13, 2) := dk_dX10_codesTell_83.2.2.2.1
theorem dX10_codesTell_93 : decode cX10_codesTell 93 = .ok (.if_icmp .ne 11, 3) := dk_dX10_codesTell_83.2.2.2.2.1
theorem dX10_codesTell_96 : decode cX10_codesTell 96 = .ok (.aload_n 0, 1) := dk_dX10_codesTell_83.2.2.2.2.2.1
theorem dX10_codesTell_97 : decode cX10_codesTell 97 = .ok (.lconst 1, 1) := dk_dX10_codesTell_83.2.2.2.2.2.2.1
theorem dX10_codesTell_98 : decode cX10_codesTell 98 = .ok (.invokevirtual 443, 3) := dk_dX10_codesTell_83.2.2.2.2.2.2.2.1
theorem dk_dX10_codesTell_83_8 : dz_C cX10_codesTell [(101, .goto 43, 3), (104, .iload 4, 2), (106, .bipush 12, 2), (108, .if_icmp .ne 30, 3), (111, .aload_n 0, 1), (112, .getfield 270, 3), (115, .aload_n 0, 1), (116, .getfield 440, 3)] := dk_dX10_codesTell_83.2.2.2.2.2.2.2.2
theorem dX10_codesTell_101 : decode cX10_codesTell 101 = .ok (.goto 43, 3) := dk_dX10_codesTell_83_8.1
theorem dX10_codesTell_104 : decode cX10_codesTell 104 = .ok (.iload 4, 2) := dk_dX10_codesTell_83_8.2.1
theorem dX10_codesTell_106 : decode cX10_codesTell 106 = .ok (.bipush 12, 2) := dk_dX10_codesTell_83_8.2.2.1
theorem dX10_codesTell_108 : decode cX10_codesTell 108 = .ok (.if_icmp .ne 30, 3) := dk_dX10_codesTell_83_8.2.2.2.1
theorem dX10_codesTell_111 : decode cX10_codesTell 111 = .ok (.aload_n 0, 1) := dk_dX10_codesTell_83_8.2.2.2.2.1
theorem dX10_codesTell_112 : decode cX10_codesTell 112 = .ok (.getfield 270, 3) := dk_dX10_codesTell_83_8.2.2.2.2.2.1
theorem dX10_codesTell_115 : decode cX10_codesTell 115 = .ok (.aload_n 0, 1) := dk_dX10_codesTell_83_8.2.2.2.2.2.2.1
theorem dX10_codesTell_116 : decode cX10_codesTell 116 = .ok (.getfield 440, 3) := dk_dX10_codesTell_83_8.2.2.2.2.2.2.2.1
theorem dk_dX10_codesTell_119 : dz_C cX10_codesTell [(119, .iconst 1, 1), (120, .isub, 1), (121, .lconst 1, 1), (122, .aload_n 0, 1), (123, .getfield 270, 3), (126, .aload_n 0, 1), (127, .getfield 440, 3), (130, .iconst 1, 1), (131, .isub, 1), (132, .laload, 1), (133, .lsub, 1), (134, .lastore, 1), (135, .goto 9, 3), (138, .aload_n 0, 1), (139, .iload 4, 2), (141, .invokevirtual 451, 3)] := dz_of (by decide +kernel)
theorem dX10_codesTell_119 : decode cX10_codesTell 119 = .ok (.iconst 1, 1) := dk_dX10_codesTell_119.1
theorem dX10_codesTell_120 : decode cX10_codesTell 120 = .ok (.isub, 1) := dk_dX10_codesTell_119.2.1
theorem dX10_codesTell_121 : decode cX10_codesTell 121 = .ok (.lconst 1, 1) := dk_dX10_codesTell_119.2.2.1
theorem dX10_codesTell_122 : decode cX10_codesTell 122 = .ok (.aload_n 0, 1) := dk_dX10_codesTell_119.2.2.2.1
theorem dX10_codesTell_123 : decode cX10_codesTell 123 = .ok (.getfield 270, 3) := dk_dX10_codesTell_119.2.2.2.2.1
theorem dX10_codesTell_126 : decode cX10_codesTell 126 = .ok (.aload_n 0, 1) := dk_dX10_codesTell_119.2.2.2.2.2.1
theorem dX10_codesTell_127 : decode cX10_codesTell 127 = .ok (.getfield 440, 3) := dk_dX10_codesTell_119.2.2.2.2.2.2.1
theorem dX10_codesTell_130 : decode cX10_codesTell 130 = .ok (.iconst 1, 1) := dk_dX10_codesTell_119.2.2.2.2.2.2.2.1
theorem dk_dX10_codesTell_119_8 : dz_C cX10_codesTell [(131, .isub, 1), (132, .laload, 1), (133, .lsub, 1), (134, .lastore, 1), (135, .goto 9, 3), (138, .aload_n 0, 1), (139, .iload 4, 2), (141, .invokevirtual 451, 3)] := dk_dX10_codesTell_119.2.2.2.2.2.2.2.2
theorem dX10_codesTell_131 : decode cX10_codesTell 131 = .ok (.isub, 1) := dk_dX10_codesTell_119_8.1
theorem dX10_codesTell_132 : decode cX10_codesTell 132 = .ok (.laload, 1) := dk_dX10_codesTell_119_8.2.1
theorem dX10_codesTell_133 : decode cX10_codesTell 133 = .ok (.lsub, 1) := dk_dX10_codesTell_119_8.2.2.1
theorem dX10_codesTell_134 : decode cX10_codesTell 134 = .ok (.lastore, 1) := dk_dX10_codesTell_119_8.2.2.2.1
theorem dX10_codesTell_135 : decode cX10_codesTell 135 = .ok (.goto 9, 3) := dk_dX10_codesTell_119_8.2.2.2.2.1
theorem dX10_codesTell_138 : decode cX10_codesTell 138 = .ok (.aload_n 0, 1) := dk_dX10_codesTell_119_8.2.2.2.2.2.1
theorem dX10_codesTell_139 : decode cX10_codesTell 139 = .ok (.iload 4, 2) := dk_dX10_codesTell_119_8.2.2.2.2.2.2.1
theorem dX10_codesTell_141 : decode cX10_codesTell 141 = .ok (.invokevirtual 451, 3) := dk_dX10_codesTell_119_8.2.2.2.2.2.2.2.1
theorem dk_dX10_codesTell_144 : dz_C cX10_codesTell [(144, .iinc 3 1, 3), (147, .goto (-128), 3), (150, .aload_n 0, 1), (151, .getfield 270, 3), (154, .iconst 0, 1), (155, .laload, 1), (156, .lreturn, 1)] := dz_of (by decide +kernel)
theorem dX10_codesTell_144 : decode cX10_codesTell 144 = .ok (.iinc 3 1, 3) := dk_dX10_codesTell_144.1
theorem dX10_codesTell_147 : decode cX10_codesTell 147 = .ok (.goto (-128), 3) := dk_dX10_codesTell_144.2.1
theorem dX10_codesTell_150 : decode cX10_codesTell 150 = .ok (.aload_n 0, 1) := dk_dX10_codesTell_144.2.2.1
theorem dX10_codesTell_151 : decode cX10_codesTell 151 = .ok (.getfield 270, 3) := dk_dX10_codesTell_144.2.2.2.1
theorem dX10_codesTell_154 : decode cX10_codesTell 154 = .ok (.iconst 0, 1) := dk_dX10_codesTell_144.2.2.2.2.1
theorem dX10_codesTell_155 : decode cX10_codesTell 155 = .ok (.laload, 1) := dk_dX10_codesTell_144.2.2.2.2.2.1
theorem dX10_codesTell_156 : decode cX10_codesTell 156 = .ok (.lreturn, 1) := dk_dX10_codesTell_144.2.2.2.2.2.2.1
theorem dk_dX10_codesTold_0 : dz_C cX10_codesTold [(0, .aload_n 0, 1), (1, .getfield 279, 3), (4, .ifCond .ne 19, 3), (7, .aload_n 0, 1), (8, .getfield 130, 3), (11, .iload_n 1, 1), (12, .iaload, 1), (13, .iconst (-1), 1), (14, .if_icmp .eq 9, 3), (17, .aload_n 0, 1), (18, .iconst 5, 1), (19, .iload_n 2, 1), (20, .invokevirtual 308, 3), (23, .aload_n 0, 1), (24, .getfield 279, 3), (27, .ifCond .eq 4, 3)] := dz_of (by decide +kernel)
theorem dX10_codesTold_0 : decode cX10_codesTold 0 = .ok (.aload_n 0, 1) := dk_dX10_codesTold_0.1
theorem dX10_codesTold_1 : decode cX10_codesTold 1 = .ok (.getfield 279, 3) := dk_dX10_codesTold_0.2.1
theorem dX10_codesTold_4 : decode cX10_codesTold 4 = .ok (.ifCond .ne 19, 3) := dk_dX10_codesTold_0.2.2.1
theorem dX10_codesTold_7 : decode cX10_codesTold 7 = .ok (.aload_n 0, 1) := dk_dX10_codesTold_0.2.2.2.1
theorem dX10_codesTold_8 : decode cX10_codesTold 8 = .ok (.getfield 130, 3) := dk_dX10_codesTold_0.2.2.2.2.1
theorem dX10_codesTold_11 : decode cX10_codesTold 11 = .ok (.iload_n 1, 1) := dk_dX10_codesTold_0.2.2.2.2.2.1
theorem dX10_codesTold_12 : decode cX10_codesTold 12 = .ok (.iaload, 1) := dk_dX10_codesTold_0.2.2.2.2.2.2.1
theorem dX10_codesTold_13 : decode cX10_codesTold 13 = .ok (.iconst (-1), 1) := dk_dX10_codesTold_0.2.2.2.2.2.2.2.1
theorem dk_dX10_codesTold_0_8 : dz_C cX10_codesTold [(14, .if_icmp .eq 9, 3), (17, .aload_n 0, 1), (18, .iconst 5, 1), (19, .iload_n 2, 1), (20, .invokevirtual 308, 3), (23, .aload_n 0, 1), (24, .getfield 279, 3), (27, .ifCond .eq 4, 3)] := dk_dX10_codesTold_0.2.2.2.2.2.2.2.2
theorem dX10_codesTold_14 : decode cX10_codesTold 14 = .ok (.if_icmp .eq 9, 3) := dk_dX10_codesTold_0_8.1
theorem dX10_codesTold_17 : decode cX10_codesTold 17 = .ok (.aload_n 0, 1) := dk_dX10_codesTold_0_8.2.1
theorem dX10_codesTold_18 : decode cX10_codesTold 18 = .ok (.iconst 5, 1) := dk_dX10_codesTold_0_8.2.2.1
theorem dX10_codesTold_19 : decode cX10_codesTold 19 = .ok (.iload_n 2, 1) := dk_dX10_codesTold_0_8.2.2.2.1
theorem dX10_codesTold_20 : decode cX10_codesTold 20 = .ok (.invokevirtual 308, 3) := dk_dX10_codesTold_0_8.2.2.2.2.1
theorem dX10_codesTold_23 : decode cX10_codesTold 23 = .ok (.aload_n 0, 1) := dk_dX10_codesTold_0_8.2.2.2.2.2.1
theorem dX10_codesTold_24 : decode cX10_codesTold 24 = .ok (.getfield 279, 3) := dk_dX10_codesTold_0_8.2.2.2.2.2.2.1
theorem dX10_codesTold_27 : decode cX10_codesTold 27 = .ok (.ifCond .eq 4, 3) := dk_dX10_codesTold_0_8.2.2.2.2.2.2.2.1
theorem dk_dX10_codesTold_30 : dz_C cX10_codesTold [(30, .return_, 1), (31, .aload_n 0, 1), (32, .iload_n 1, 1), (33, .putfield 333, 3), (36, .aload_n 0, 1), (37, .iconst 0, 1), (38, .putfield 369, 3), (41, .aload_n 0, 1), (42, .iconst 0, 1), (43, .putfield 372, 3), (46, .aload_n 0, 1), (47, .iconst 0, 1), (48, .putfield 375, 3), (51, .aload_n 0, 1), (52, .iconst 0, 1), (53, .putfield 378, 3)] := dz_of (by decide +kernel)
theorem dX10_codesTold_30 : decode cX10_codesTold 30 = .ok (.return_, 1) := dk_dX10_codesTold_30.1
theorem dX10_codesTold_31 : decode cX10_codesTold 31 = .ok (.aload_n 0, 1) := dk_dX10_codesTold_30.2.1
theorem dX10_codesTold_32 : decode cX10_codesTold 32 = .ok (.iload_n 1, 1) := dk_dX10_codesTold_30.2.2.1
theorem dX10_codesTold_33 : decode cX10_codesTold 33 = .ok (.putfield 333, 3) := dk_dX10_codesTold_30.2.2.2.1
theorem dX10_codesTold_36 : decode cX10_codesTold 36 = .ok (.aload_n 0, 1) := dk_dX10_codesTold_30.2.2.2.2.1
theorem dX10_codesTold_37 : decode cX10_codesTold 37 = .ok (.iconst 0, 1) := dk_dX10_codesTold_30.2.2.2.2.2.1
theorem dX10_codesTold_38 : decode cX10_codesTold 38 = .ok (.putfield 369, 3) := dk_dX10_codesTold_30.2.2.2.2.2.2.1
theorem dX10_codesTold_41 : decode cX10_codesTold 41 = .ok (.aload_n 0, 1) := dk_dX10_codesTold_30.2.2.2.2.2.2.2.1
theorem dk_dX10_codesTold_30_8 : dz_C cX10_codesTold [(42, .iconst 0, 1), (43, .putfield 372, 3), (46, .aload_n 0, 1), (47, .iconst 0, 1), (48, .putfield 375, 3), (51, .aload_n 0, 1), (52, .iconst 0, 1), (53, .putfield 378, 3)] := dk_dX10_codesTold_30.2.2.2.2.2.2.2.2
theorem dX10_codesTold_42 : decode cX10_codesTold 42 = .ok (.iconst 0, 1) := dk_dX10_codesTold_30_8.1
theorem dX10_codesTold_43 : decode cX10_codesTold 43 = .ok (.putfield 372, 3) := dk_dX10_codesTold_30_8.2.1
theorem dX10_codesTold_46 : decode cX10_codesTold 46 = .ok (.aload_n 0, 1) := dk_dX10_codesTold_30_8.2.2.1
theorem dX10_codesTold_47 : decode cX10_codesTold 47 = .ok (.iconst 0, 1) := dk_dX10_codesTold_30_8.2.2.2.1
theorem dX10_codesTold_48 : decode cX10_codesTold 48 = .ok (.putfield 375, 3) := dk_dX10_codesTold_30_8.2.2.2.2.1
theorem dX10_codesTold_51 : decode cX10_codesTold 51 = .ok (.aload_n 0, 1) := dk_dX10_codesTold_30_8.2.2.2.2.2.1
theorem dX10_codesTold_52 : decode cX10_codesTold 52 = .ok (.iconst 0, 1) := dk_dX10_codesTold_30_8.2.2.2.2.2.2.1
theorem dX10_codesTold_53 : decode cX10_codesTold 53 = .ok (.putfield 378, 3) := dk_dX10_codesTold_30_8.2.2.2.2.2.2.2.1
theorem dk_dX10_codesTold_56 : dz_C cX10_codesTold [(56, .iload_n 1, 1), (57, .iconst 2, 1), (58, .if_icmp .ne 10, 3), (61, .aload_n 0, 1), (62, .invokevirtual 381, 3), (65, .goto 7, 3), (68, .aload_n 0, 1), (69, .invokevirtual 384, 3), (72, .aload_n 0, 1), (73, .getfield 279, 3), (76, .ifCond .eq 4, 3), (79, .return_, 1), (80, .aload_n 0, 1), (81, .getfield 130, 3), (84, .iload_n 1, 1), (85, .aload_n 0, 1)] := dz_of (by decide +kernel)
theorem dX10_codesTold_56 : decode cX10_codesTold 56 = .ok (.iload_n 1, 1) := dk_dX10_codesTold_56.1
theorem dX10_codesTold_57 : decode cX10_codesTold 57 = .ok (.iconst 2, 1) := dk_dX10_codesTold_56.2.1
theorem dX10_codesTold_58 : decode cX10_codesTold 58 = .ok (.if_icmp .ne 10, 3) := dk_dX10_codesTold_56.2.2.1
theorem dX10_codesTold_61 : decode cX10_codesTold 61 = .ok (.aload_n 0, 1) := dk_dX10_codesTold_56.2.2.2.1
theorem dX10_codesTold_62 : decode cX10_codesTold 62 = .ok (.invokevirtual 381, 3) := dk_dX10_codesTold_56.2.2.2.2.1
theorem dX10_codesTold_65 : decode cX10_codesTold 65 = .ok (.goto 7, 3) := dk_dX10_codesTold_56.2.2.2.2.2.1
theorem dX10_codesTold_68 : decode cX10_codesTold 68 = .ok (.aload_n 0, 1) := dk_dX10_codesTold_56.2.2.2.2.2.2.1
theorem dX10_codesTold_69 : decode cX10_codesTold 69 = .ok (.invokevirtual 384, 3) := dk_dX10_codesTold_56.2.2.2.2.2.2.2.1
theorem dk_dX10_codesTold_56_8 : dz_C cX10_codesTold [(72, .aload_n 0, 1), (73, .getfield 279, 3), (76, .ifCond .eq 4, 3), (79, .return_, 1), (80, .aload_n 0, 1), (81, .getfield 130, 3), (84, .iload_n 1, 1), (85, .aload_n 0, 1)] := dk_dX10_codesTold_56.2.2.2.2.2.2.2.2
theorem dX10_codesTold_72 : decode cX10_codesTold 72 = .ok (.aload_n 0, 1) := dk_dX10_codesTold_56_8.1
theorem dX10_codesTold_73 : decode cX10_codesTold 73 = .ok (.getfield 279, 3) := dk_dX10_codesTold_56_8.2.1
theorem dX10_codesTold_76 : decode cX10_codesTold 76 = .ok (.ifCond .eq 4, 3) := dk_dX10_codesTold_56_8.2.2.1
theorem dX10_codesTold_79 : decode cX10_codesTold 79 = .ok (.return_, 1) := dk_dX10_codesTold_56_8.2.2.2.1
theorem dX10_codesTold_80 : decode cX10_codesTold 80 = .ok (.aload_n 0, 1) := dk_dX10_codesTold_56_8.2.2.2.2.1
theorem dX10_codesTold_81 : decode cX10_codesTold 81 = .ok (.getfield 130, 3) := dk_dX10_codesTold_56_8.2.2.2.2.2.1
theorem dX10_codesTold_84 : decode cX10_codesTold 84 = .ok (.iload_n 1, 1) := dk_dX10_codesTold_56_8.2.2.2.2.2.2.1
theorem dX10_codesTold_85 : decode cX10_codesTold 85 = .ok (.aload_n 0, 1) := dk_dX10_codesTold_56_8.2.2.2.2.2.2.2.1
theorem dk_dX10_codesTold_86 : dz_C cX10_codesTold [(86, .getfield 387, 3), (89, .iastore, 1), (90, .iconst 0, 1), (91, .istore_n 3, 1), (92, .iload_n 3, 1), (93, .aload_n 0, 1), (94, .getfield 369, 3), (97, .if_icmp .ge 34, 3), (100, .aload_n 0, 1), (101, .getfield 136, 3), (104, .aload_n 0, 1), (105, .getfield 387, 3), (108, .aload_n 0, 1), (109, .getfield 264, 3), (112, .iload_n 3, 1), (113, .iaload, 1)] := dz_of (by decide +kernel)
theorem dX10_codesTold_86 : decode cX10_codesTold 86 = .ok (.getfield 387, 3) := dk_dX10_codesTold_86.1
theorem dX10_codesTold_89 : decode cX10_codesTold 89 = .ok (.iastore, 1) := dk_dX10_codesTold_86.2.1
theorem dX10_codesTold_90 : decode cX10_codesTold 90 = .ok (.iconst 0, 1) := dk_dX10_codesTold_86.2.2.1
theorem dX10_codesTold_91 : decode cX10_codesTold 91 = .ok (.istore_n 3, 1) := dk_dX10_codesTold_86.2.2.2.1
theorem dX10_codesTold_92 : decode cX10_codesTold 92 = .ok (.iload_n 3, 1) := dk_dX10_codesTold_86.2.2.2.2.1
theorem dX10_codesTold_93 : decode cX10_codesTold 93 = .ok (.aload_n 0, 1) := dk_dX10_codesTold_86.2.2.2.2.2.1
theorem dX10_codesTold_94 : decode cX10_codesTold 94 = .ok (.getfield 369, 3) := dk_dX10_codesTold_86.2.2.2.2.2.2.1
theorem dX10_codesTold_97 : decode cX10_codesTold 97 = .ok (.if_icmp .ge 34, 3) := dk_dX10_codesTold_86.2.2.2.2.2.2.2.1
theorem dk_dX10_codesTold_86_8 : dz_C cX10_codesTold [(100, .aload_n 0, 1), (101, .getfield 136, 3), (104, .aload_n 0, 1), (105, .getfield 387, 3), (108, .aload_n 0, 1), (109, .getfield 264, 3), (112, .iload_n 3, 1), (113, .iaload, 1)] := dk_dX10_codesTold_86.2.2.2.2.2.2.2.2
theorem dX10_codesTold_100 : decode cX10_codesTold 100 = .ok (.aload_n 0, 1) := dk_dX10_codesTold_86_8.1
theorem dX10_codesTold_101 : decode cX10_codesTold 101 = .ok (.getfield 136, 3) := dk_dX10_codesTold_86_8.2.1
theorem dX10_codesTold_104 : decode cX10_codesTold 104 = .ok (.aload_n 0, 1) := dk_dX10_codesTold_86_8.2.2.1
theorem dX10_codesTold_105 : decode cX10_codesTold 105 = .ok (.getfield 387, 3) := dk_dX10_codesTold_86_8.2.2.2.1
theorem dX10_codesTold_108 : decode cX10_codesTold 108 = .ok (.aload_n 0, 1) := dk_dX10_codesTold_86_8.2.2.2.2.1
theorem dX10_codesTold_109 : decode cX10_codesTold 109 = .ok (.getfield 264, 3) := dk_dX10_codesTold_86_8.2.2.2.2.2.1
theorem dX10_codesTold_112 : decode cX10_codesTold 112 = .ok (.iload_n 3, 1) := dk_dX10_codesTold_86_8.2.2.2.2.2.2.1
theorem dX10_codesTold_113 : decode cX10_codesTold 113 = .ok (.iaload, 1) := dk_dX10_codesTold_86_8.2.2.2.2.2.2.2.1
theorem dk_dX10_codesTold_114 : dz_C cX10_codesTold [(114, .iastore, 1), (115, .aload_n 0, 1), (116, .dup, 1), (117, .getfield 387, 3), (120, .iconst 1, 1), (121, .iadd, 1), (122, .putfield 387, 3), (125, .iinc 3 1, 3), (128, .goto (-36), 3), (131, .aload_n 0, 1), (132, .getfield 133, 3), (135, .iload_n 1, 1), (136, .aload_n 0, 1), (137, .getfield 387, 3), (140, .iastore, 1), (141, .return_, 1)] := dz_of (by decide +kernel)
theorem dX10_codesTold_114 : decode cX10_codesTold 114 = .ok (.iastore, 1) := dk_dX10_codesTold_114.1
theorem dX10_codesTold_115 : decode cX10_codesTold 115 = .ok (.aload_n 0, 1) := dk_dX10_codesTold_114.2.1
theorem dX10_codesTold_116 : decode cX10_codesTold 116 = .ok (.dup, 1) := dk_dX10_codesTold_114.2.2.1
theorem dX10_codesTold_117 : decode cX10_codesTold 117 = .ok (.getfield 387, 3) := dk_dX10_codesTold_114.2.2.2.1
theorem dX10_codesTold_120 : decode cX10_codesTold 120 = .ok (.iconst 1, 1) := dk_dX10_codesTold_114.2.2.2.2.1
theorem dX10_codesTold_121 : decode cX10_codesTold 121 = .ok (.iadd, 1) := dk_dX10_codesTold_114.2.2.2.2.2.1
theorem dX10_codesTold_122 : decode cX10_codesTold 122 = .ok (.putfield 387, 3) := dk_dX10_codesTold_114.2.2.2.2.2.2.1
theorem dX10_codesTold_125 : decode cX10_codesTold 125 = .ok (.iinc 3 1, 3) := dk_dX10_codesTold_114.2.2.2.2.2.2.2.1
theorem dk_dX10_codesTold_114_8 : dz_C cX10_codesTold [(128, .goto (-36), 3), (131, .aload_n 0, 1), (132, .getfield 133, 3), (135, .iload_n 1, 1), (136, .aload_n 0, 1), (137, .getfield 387, 3), (140, .iastore, 1), (141, .return_, 1)] := dk_dX10_codesTold_114.2.2.2.2.2.2.2.2
theorem dX10_codesTold_128 : decode cX10_codesTold 128 = .ok (.goto (-36), 3) := dk_dX10_codesTold_114_8.1
theorem dX10_codesTold_131 : decode cX10_codesTold 131 = .ok (.aload_n 0, 1) := dk_dX10_codesTold_114_8.2.1
theorem dX10_codesTold_132 : decode cX10_codesTold 132 = .ok (.getfield 133, 3) := dk_dX10_codesTold_114_8.2.2.1
theorem dX10_codesTold_135 : decode cX10_codesTold 135 = .ok (.iload_n 1, 1) := dk_dX10_codesTold_114_8.2.2.2.1
theorem dX10_codesTold_136 : decode cX10_codesTold 136 = .ok (.aload_n 0, 1) := dk_dX10_codesTold_114_8.2.2.2.2.1
theorem dX10_codesTold_137 : decode cX10_codesTold 137 = .ok (.getfield 387, 3) := dk_dX10_codesTold_114_8.2.2.2.2.2.1
theorem dX10_codesTold_140 : decode cX10_codesTold 140 = .ok (.iastore, 1) := dk_dX10_codesTold_114_8.2.2.2.2.2.2.1
theorem dX10_codesTold_141 : decode cX10_codesTold 141 = .ok (.return_, 1) := dk_dX10_codesTold_114_8.2.2.2.2.2.2.2.1
theorem dk_dX10_counted_0 : dz_C cX10_counted [(0, .iconst 0, 1), (1, .istore_n 2, 1), (2, .iconst 0, 1), (3, .istore_n 3, 1), (4, .iload_n 3, 1), (5, .iload_n 1, 1), (6, .if_icmp .ge 18, 3), (9, .aload_n 0, 1), (10, .iload_n 3, 1), (11, .baload, 1), (12, .ifCond .eq 6, 3), (15, .iinc 2 1, 3), (18, .iinc 3 1, 3), (21, .goto (-17), 3), (24, .iload_n 2, 1), (25, .ireturn, 1)] := dz_of (by decide +kernel)
theorem dX10_counted_0 : decode cX10_counted 0 = .ok (.iconst 0, 1) := dk_dX10_counted_0.1
theorem dX10_counted_1 : decode cX10_counted 1 = .ok (.istore_n 2, 1) := dk_dX10_counted_0.2.1
theorem dX10_counted_2 : decode cX10_counted 2 = .ok (.iconst 0, 1) := dk_dX10_counted_0.2.2.1
theorem dX10_counted_3 : decode cX10_counted 3 = .ok (.istore_n 3, 1) := dk_dX10_counted_0.2.2.2.1
theorem dX10_counted_4 : decode cX10_counted 4 = .ok (.iload_n 3, 1) := dk_dX10_counted_0.2.2.2.2.1
theorem dX10_counted_5 : decode cX10_counted 5 = .ok (.iload_n 1, 1) := dk_dX10_counted_0.2.2.2.2.2.1
theorem dX10_counted_6 : decode cX10_counted 6 = .ok (.if_icmp .ge 18, 3) := dk_dX10_counted_0.2.2.2.2.2.2.1
theorem dX10_counted_9 : decode cX10_counted 9 = .ok (.aload_n 0, 1) := dk_dX10_counted_0.2.2.2.2.2.2.2.1
theorem dk_dX10_counted_0_8 : dz_C cX10_counted [(10, .iload_n 3, 1), (11, .baload, 1), (12, .ifCond .eq 6, 3), (15, .iinc 2 1, 3), (18, .iinc 3 1, 3), (21, .goto (-17), 3), (24, .iload_n 2, 1), (25, .ireturn, 1)] := dk_dX10_counted_0.2.2.2.2.2.2.2.2
theorem dX10_counted_10 : decode cX10_counted 10 = .ok (.iload_n 3, 1) := dk_dX10_counted_0_8.1
theorem dX10_counted_11 : decode cX10_counted 11 = .ok (.baload, 1) := dk_dX10_counted_0_8.2.1
theorem dX10_counted_12 : decode cX10_counted 12 = .ok (.ifCond .eq 6, 3) := dk_dX10_counted_0_8.2.2.1
theorem dX10_counted_15 : decode cX10_counted 15 = .ok (.iinc 2 1, 3) := dk_dX10_counted_0_8.2.2.2.1
theorem dX10_counted_18 : decode cX10_counted 18 = .ok (.iinc 3 1, 3) := dk_dX10_counted_0_8.2.2.2.2.1
theorem dX10_counted_21 : decode cX10_counted 21 = .ok (.goto (-17), 3) := dk_dX10_counted_0_8.2.2.2.2.2.1
theorem dX10_counted_24 : decode cX10_counted 24 = .ok (.iload_n 2, 1) := dk_dX10_counted_0_8.2.2.2.2.2.2.1
theorem dX10_counted_25 : decode cX10_counted 25 = .ok (.ireturn, 1) := dk_dX10_counted_0_8.2.2.2.2.2.2.2.1
theorem dk_dX10_crossing_0 : dz_C cX10_crossing [(0, .aload_n 0, 1), (1, .aload_n 0, 1), (2, .getfield 276, 3), (5, .putfield 288, 3), (8, .aload_n 0, 1), (9, .iconst 0, 1), (10, .putfield 276, 3), (13, .aload_n 0, 1), (14, .iconst 0, 1), (15, .putfield 285, 3), (18, .aload_n 0, 1), (19, .iconst (-1), 1), (20, .putfield 299, 3), (23, .aload_n 0, 1), (24, .iconst 0, 1), (25, .putfield 279, 3)] := dz_of (by decide +kernel)
theorem dX10_crossing_0 : decode cX10_crossing 0 = .ok (.aload_n 0, 1) := dk_dX10_crossing_0.1
theorem dX10_crossing_1 : decode cX10_crossing 1 = .ok (.aload_n 0, 1) := dk_dX10_crossing_0.2.1
theorem dX10_crossing_2 : decode cX10_crossing 2 = .ok (.getfield 276, 3) := dk_dX10_crossing_0.2.2.1
theorem dX10_crossing_5 : decode cX10_crossing 5 = .ok (.putfield 288, 3) := dk_dX10_crossing_0.2.2.2.1
theorem dX10_crossing_8 : decode cX10_crossing 8 = .ok (.aload_n 0, 1) := dk_dX10_crossing_0.2.2.2.2.1
theorem dX10_crossing_9 : decode cX10_crossing 9 = .ok (.iconst 0, 1) := dk_dX10_crossing_0.2.2.2.2.2.1
theorem dX10_crossing_10 : decode cX10_crossing 10 = .ok (.putfield 276, 3) := dk_dX10_crossing_0.2.2.2.2.2.2.1
theorem dX10_crossing_13 : decode cX10_crossing 13 = .ok (.aload_n 0, 1) := dk_dX10_crossing_0.2.2.2.2.2.2.2.1
theorem dk_dX10_crossing_0_8 : dz_C cX10_crossing [(14, .iconst 0, 1), (15, .putfield 285, 3), (18, .aload_n 0, 1), (19, .iconst (-1), 1), (20, .putfield 299, 3), (23, .aload_n 0, 1), (24, .iconst 0, 1), (25, .putfield 279, 3)] := dk_dX10_crossing_0.2.2.2.2.2.2.2.2
theorem dX10_crossing_14 : decode cX10_crossing 14 = .ok (.iconst 0, 1) := dk_dX10_crossing_0_8.1
theorem dX10_crossing_15 : decode cX10_crossing 15 = .ok (.putfield 285, 3) := dk_dX10_crossing_0_8.2.1
theorem dX10_crossing_18 : decode cX10_crossing 18 = .ok (.aload_n 0, 1) := dk_dX10_crossing_0_8.2.2.1
theorem dX10_crossing_19 : decode cX10_crossing 19 = .ok (.iconst (-1), 1) := dk_dX10_crossing_0_8.2.2.2.1
theorem dX10_crossing_20 : decode cX10_crossing 20 = .ok (.putfield 299, 3) := dk_dX10_crossing_0_8.2.2.2.2.1
theorem dX10_crossing_23 : decode cX10_crossing 23 = .ok (.aload_n 0, 1) := dk_dX10_crossing_0_8.2.2.2.2.2.1
theorem dX10_crossing_24 : decode cX10_crossing 24 = .ok (.iconst 0, 1) := dk_dX10_crossing_0_8.2.2.2.2.2.2.1
theorem dX10_crossing_25 : decode cX10_crossing 25 = .ok (.putfield 279, 3) := dk_dX10_crossing_0_8.2.2.2.2.2.2.2.1
theorem dk_dX10_crossing_28 : dz_C cX10_crossing [(28, .aload_n 0, 1), (29, .iconst (-1), 1), (30, .putfield 282, 3), (33, .aload_n 0, 1), (34, .iconst 0, 1), (35, .putfield 387, 3), (38, .aload_n 0, 1), (39, .getfield 111, 3), (42, .iconst 0, 1), (43, .iconst 0, 1), (44, .iastore, 1), (45, .aload_n 0, 1), (46, .getfield 111, 3), (49, .iconst 1, 1), (50, .iconst 0, 1), (51, .iastore, 1)] := dz_of (by decide +kernel)
theorem dX10_crossing_28 : decode cX10_crossing 28 = .ok (.aload_n 0, 1) := dk_dX10_crossing_28.1
theorem dX10_crossing_29 : decode cX10_crossing 29 = .ok (.iconst (-1), 1) := dk_dX10_crossing_28.2.1
theorem dX10_crossing_30 : decode cX10_crossing 30 = .ok (.putfield 282, 3) := dk_dX10_crossing_28.2.2.1
theorem dX10_crossing_33 : decode cX10_crossing 33 = .ok (.aload_n 0, 1) := dk_dX10_crossing_28.2.2.2.1
theorem dX10_crossing_34 : decode cX10_crossing 34 = .ok (.iconst 0, 1) := dk_dX10_crossing_28.2.2.2.2.1
theorem dX10_crossing_35 : decode cX10_crossing 35 = .ok (.putfield 387, 3) := dk_dX10_crossing_28.2.2.2.2.2.1
theorem dX10_crossing_38 : decode cX10_crossing 38 = .ok (.aload_n 0, 1) := dk_dX10_crossing_28.2.2.2.2.2.2.1
theorem dX10_crossing_39 : decode cX10_crossing 39 = .ok (.getfield 111, 3) := dk_dX10_crossing_28.2.2.2.2.2.2.2.1
theorem dk_dX10_crossing_28_8 : dz_C cX10_crossing [(42, .iconst 0, 1), (43, .iconst 0, 1), (44, .iastore, 1), (45, .aload_n 0, 1), (46, .getfield 111, 3), (49, .iconst 1, 1), (50, .iconst 0, 1), (51, .iastore, 1)] := dk_dX10_crossing_28.2.2.2.2.2.2.2.2
theorem dX10_crossing_42 : decode cX10_crossing 42 = .ok (.iconst 0, 1) := dk_dX10_crossing_28_8.1
theorem dX10_crossing_43 : decode cX10_crossing 43 = .ok (.iconst 0, 1) := dk_dX10_crossing_28_8.2.1
theorem dX10_crossing_44 : decode cX10_crossing 44 = .ok (.iastore, 1) := dk_dX10_crossing_28_8.2.2.1
theorem dX10_crossing_45 : decode cX10_crossing 45 = .ok (.aload_n 0, 1) := dk_dX10_crossing_28_8.2.2.2.1
theorem dX10_crossing_46 : decode cX10_crossing 46 = .ok (.getfield 111, 3) := dk_dX10_crossing_28_8.2.2.2.2.1
theorem dX10_crossing_49 : decode cX10_crossing 49 = .ok (.iconst 1, 1) := dk_dX10_crossing_28_8.2.2.2.2.2.1
theorem dX10_crossing_50 : decode cX10_crossing 50 = .ok (.iconst 0, 1) := dk_dX10_crossing_28_8.2.2.2.2.2.2.1
theorem dX10_crossing_51 : decode cX10_crossing 51 = .ok (.iastore, 1) := dk_dX10_crossing_28_8.2.2.2.2.2.2.2.1
theorem dk_dX10_crossing_52 : dz_C cX10_crossing [(52, .iconst 0, 1), (53, .istore_n 1, 1), (54, .iload_n 1, 1), (55, .iconst 3, 1), (56, .if_icmp .ge 16, 3), (59, .aload_n 0, 1), (60, .getfield 130, 3), (63, .iload_n 1, 1), (64, .iconst (-1), 1), (65, .iastore, 1), (66, .iinc 1 1, 3), (69, .goto (-15), 3), (72, .aload_n 0, 1), (73, .iconst 0, 1), (74, .putfield 402, 3), (77, .aload_n 0, 1)] := dz_of (by decide +kernel)
theorem dX10_crossing_52 : decode cX10_crossing 52 = .ok (.iconst 0, 1) := dk_dX10_crossing_52.1
theorem dX10_crossing_53 : decode cX10_crossing 53 = .ok (.istore_n 1, 1) := dk_dX10_crossing_52.2.1
theorem dX10_crossing_54 : decode cX10_crossing 54 = .ok (.iload_n 1, 1) := dk_dX10_crossing_52.2.2.1
theorem dX10_crossing_55 : decode cX10_crossing 55 = .ok (.iconst 3, 1) := dk_dX10_crossing_52.2.2.2.1
theorem dX10_crossing_56 : decode cX10_crossing 56 = .ok (.if_icmp .ge 16, 3) := dk_dX10_crossing_52.2.2.2.2.1
theorem dX10_crossing_59 : decode cX10_crossing 59 = .ok (.aload_n 0, 1) := dk_dX10_crossing_52.2.2.2.2.2.1
theorem dX10_crossing_60 : decode cX10_crossing 60 = .ok (.getfield 130, 3) := dk_dX10_crossing_52.2.2.2.2.2.2.1
theorem dX10_crossing_63 : decode cX10_crossing 63 = .ok (.iload_n 1, 1) := dk_dX10_crossing_52.2.2.2.2.2.2.2.1
theorem dk_dX10_crossing_52_8 : dz_C cX10_crossing [(64, .iconst (-1), 1), (65, .iastore, 1), (66, .iinc 1 1, 3), (69, .goto (-15), 3), (72, .aload_n 0, 1), (73, .iconst 0, 1), (74, .putfield 402, 3), (77, .aload_n 0, 1)] := dk_dX10_crossing_52.2.2.2.2.2.2.2.2
theorem dX10_crossing_64 : decode cX10_crossing 64 = .ok (.iconst (-1), 1) := dk_dX10_crossing_52_8.1
theorem dX10_crossing_65 : decode cX10_crossing 65 = .ok (.iastore, 1) := dk_dX10_crossing_52_8.2.1
theorem dX10_crossing_66 : decode cX10_crossing 66 = .ok (.iinc 1 1, 3) := dk_dX10_crossing_52_8.2.2.1
theorem dX10_crossing_69 : decode cX10_crossing 69 = .ok (.goto (-15), 3) := dk_dX10_crossing_52_8.2.2.2.1
theorem dX10_crossing_72 : decode cX10_crossing 72 = .ok (.aload_n 0, 1) := dk_dX10_crossing_52_8.2.2.2.2.1
theorem dX10_crossing_73 : decode cX10_crossing 73 = .ok (.iconst 0, 1) := dk_dX10_crossing_52_8.2.2.2.2.2.1
theorem dX10_crossing_74 : decode cX10_crossing 74 = .ok (.putfield 402, 3) := dk_dX10_crossing_52_8.2.2.2.2.2.2.1
theorem dX10_crossing_77 : decode cX10_crossing 77 = .ok (.aload_n 0, 1) := dk_dX10_crossing_52_8.2.2.2.2.2.2.2.1
theorem dk_dX10_crossing_78 : dz_C cX10_crossing [(78, .invokevirtual 405, 3), (81, .aload_n 0, 1), (82, .iconst 1, 1), (83, .putfield 390, 3), (86, .aload_n 0, 1), (87, .getfield 279, 3), (90, .ifCond .ne 18, 3), (93, .aload_n 0, 1), (94, .invokevirtual 291, 3), (97, .iconst (-1), 1), (98, .if_icmp .eq 10, 3), (101, .aload_n 0, 1), (102, .invokevirtual 408, 3), (105, .goto (-19), 3), (108, .aload_n 0, 1), (109, .aload_n 0, 1)] := dz_of (by decide +kernel)
theorem dX10_crossing_78 : decode cX10_crossing 78 = .ok (.invokevirtual 405, 3) := dk_dX10_crossing_78.1
theorem dX10_crossing_81 : decode cX10_crossing 81 = .ok (.aload_n 0, 1) := dk_dX10_crossing_78.2.1
theorem dX10_crossing_82 : decode cX10_crossing 82 = .ok (.iconst 1, 1) := dk_dX10_crossing_78.2.2.1
theorem dX10_crossing_83 : decode cX10_crossing 83 = .ok (.putfield 390, 3) := dk_dX10_crossing_78.2.2.2.1
theorem dX10_crossing_86 : decode cX10_crossing 86 = .ok (.aload_n 0, 1) := dk_dX10_crossing_78.2.2.2.2.1
theorem dX10_crossing_87 : decode cX10_crossing 87 = .ok (.getfield 279, 3) := dk_dX10_crossing_78.2.2.2.2.2.1
theorem dX10_crossing_90 : decode cX10_crossing 90 = .ok (.ifCond .ne 18, 3) := dk_dX10_crossing_78.2.2.2.2.2.2.1
theorem dX10_crossing_93 : decode cX10_crossing 93 = .ok (.aload_n 0, 1) := dk_dX10_crossing_78.2.2.2.2.2.2.2.1
theorem dk_dX10_crossing_78_8 : dz_C cX10_crossing [(94, .invokevirtual 291, 3), (97, .iconst (-1), 1), (98, .if_icmp .eq 10, 3), (101, .aload_n 0, 1), (102, .invokevirtual 408, 3), (105, .goto (-19), 3), (108, .aload_n 0, 1), (109, .aload_n 0, 1)] := dk_dX10_crossing_78.2.2.2.2.2.2.2.2
theorem dX10_crossing_94 : decode cX10_crossing 94 = .ok (.invokevirtual 291, 3) := dk_dX10_crossing_78_8.1
theorem dX10_crossing_97 : decode cX10_crossing 97 = .ok (.iconst (-1), 1) := dk_dX10_crossing_78_8.2.1
theorem dX10_crossing_98 : decode cX10_crossing 98 = .ok (.if_icmp .eq 10, 3) := dk_dX10_crossing_78_8.2.2.1
theorem dX10_crossing_101 : decode cX10_crossing 101 = .ok (.aload_n 0, 1) := dk_dX10_crossing_78_8.2.2.2.1
theorem dX10_crossing_102 : decode cX10_crossing 102 = .ok (.invokevirtual 408, 3) := dk_dX10_crossing_78_8.2.2.2.2.1
theorem dX10_crossing_105 : decode cX10_crossing 105 = .ok (.goto (-19), 3) := dk_dX10_crossing_78_8.2.2.2.2.2.1
theorem dX10_crossing_108 : decode cX10_crossing 108 = .ok (.aload_n 0, 1) := dk_dX10_crossing_78_8.2.2.2.2.2.2.1
theorem dX10_crossing_109 : decode cX10_crossing 109 = .ok (.aload_n 0, 1) := dk_dX10_crossing_78_8.2.2.2.2.2.2.2.1
theorem dk_dX10_crossing_110 : dz_C cX10_crossing [(110, .getfield 279, 3), (113, .putfield 411, 3), (116, .aload_n 0, 1), (117, .aload_n 0, 1), (118, .getfield 282, 3), (121, .putfield 13, 3), (124, .aload_n 0, 1), (125, .getfield 279, 3), (128, .ifCond .eq 15, 3), (131, .aload_n 0, 1), (132, .getfield 17, 3), (135, .iconst 1, 1), (136, .dup2, 1), (137, .iaload, 1), (138, .iconst 1, 1), (139, .iadd, 1)] := dz_of (by decide +kernel)
theorem dX10_crossing_110 : decode cX10_crossing 110 = .ok (.getfield 279, 3) := dk_dX10_crossing_110.1
theorem dX10_crossing_113 : decode cX10_crossing 113 = .ok (.putfield 411, 3) := dk_dX10_crossing_110.2.1
theorem dX10_crossing_116 : decode cX10_crossing 116 = .ok (.aload_n 0, 1) := dk_dX10_crossing_110.2.2.1
theorem dX10_crossing_117 : decode cX10_crossing 117 = .ok (.aload_n 0, 1) := dk_dX10_crossing_110.2.2.2.1
theorem dX10_crossing_118 : decode cX10_crossing 118 = .ok (.getfield 282, 3) := dk_dX10_crossing_110.2.2.2.2.1
theorem dX10_crossing_121 : decode cX10_crossing 121 = .ok (.putfield 13, 3) := dk_dX10_crossing_110.2.2.2.2.2.1
theorem dX10_crossing_124 : decode cX10_crossing 124 = .ok (.aload_n 0, 1) := dk_dX10_crossing_110.2.2.2.2.2.2.1
theorem dX10_crossing_125 : decode cX10_crossing 125 = .ok (.getfield 279, 3) := dk_dX10_crossing_110.2.2.2.2.2.2.2.1
theorem dk_dX10_crossing_110_8 : dz_C cX10_crossing [(128, .ifCond .eq 15, 3), (131, .aload_n 0, 1), (132, .getfield 17, 3), (135, .iconst 1, 1), (136, .dup2, 1), (137, .iaload, 1), (138, .iconst 1, 1), (139, .iadd, 1)] := dk_dX10_crossing_110.2.2.2.2.2.2.2.2
theorem dX10_crossing_128 : decode cX10_crossing 128 = .ok (.ifCond .eq 15, 3) := dk_dX10_crossing_110_8.1
theorem dX10_crossing_131 : decode cX10_crossing 131 = .ok (.aload_n 0, 1) := dk_dX10_crossing_110_8.2.1
theorem dX10_crossing_132 : decode cX10_crossing 132 = .ok (.getfield 17, 3) := dk_dX10_crossing_110_8.2.2.1
theorem dX10_crossing_135 : decode cX10_crossing 135 = .ok (.iconst 1, 1) := dk_dX10_crossing_110_8.2.2.2.1
theorem dX10_crossing_136 : decode cX10_crossing 136 = .ok (.dup2, 1) := dk_dX10_crossing_110_8.2.2.2.2.1
theorem dX10_crossing_137 : decode cX10_crossing 137 = .ok (.iaload, 1) := dk_dX10_crossing_110_8.2.2.2.2.2.1
theorem dX10_crossing_138 : decode cX10_crossing 138 = .ok (.iconst 1, 1) := dk_dX10_crossing_110_8.2.2.2.2.2.2.1
theorem dX10_crossing_139 : decode cX10_crossing 139 = .ok (.iadd, 1) := dk_dX10_crossing_110_8.2.2.2.2.2.2.2.1
theorem dk_dX10_crossing_140 : dz_C cX10_crossing [(140, .iastore, 1), (141, .iconst (-1), 1), (142, .ireturn, 1), (143, .aload_n 0, 1), (144, .invokevirtual 414, 3), (147, .aload_n 0, 1), (148, .getfield 390, 3), (151, .ireturn, 1)] := dz_of (by decide +kernel)
theorem dX10_crossing_140 : decode cX10_crossing 140 = .ok (.iastore, 1) := dk_dX10_crossing_140.1
theorem dX10_crossing_141 : decode cX10_crossing 141 = .ok (.iconst (-1), 1) := dk_dX10_crossing_140.2.1
theorem dX10_crossing_142 : decode cX10_crossing 142 = .ok (.ireturn, 1) := dk_dX10_crossing_140.2.2.1
theorem dX10_crossing_143 : decode cX10_crossing 143 = .ok (.aload_n 0, 1) := dk_dX10_crossing_140.2.2.2.1
theorem dX10_crossing_144 : decode cX10_crossing 144 = .ok (.invokevirtual 414, 3) := dk_dX10_crossing_140.2.2.2.2.1
theorem dX10_crossing_147 : decode cX10_crossing 147 = .ok (.aload_n 0, 1) := dk_dX10_crossing_140.2.2.2.2.2.1
theorem dX10_crossing_148 : decode cX10_crossing 148 = .ok (.getfield 390, 3) := dk_dX10_crossing_140.2.2.2.2.2.2.1
theorem dX10_crossing_151 : decode cX10_crossing 151 = .ok (.ireturn, 1) := dk_dX10_crossing_140.2.2.2.2.2.2.2.1
theorem dk_dX10_day_0 : dz_C cX10_day [(0, .aload_n 0, 1), (1, .getfield 417, 3), (4, .ifCond .eq 15, 3), (7, .iload_n 1, 1), (8, .i2l, 1), (9, .lconst 0, 1), (10, .ldc2_w 526, 3), (13, .invokestatic 318, 3), (16, .ifCond .ne 5, 3), (19, .iconst (-1), 1), (20, .ireturn, 1), (21, .aload_n 0, 1), (22, .invokevirtual 534, 3), (25, .aload_n 0, 1), (26, .iload_n 1, 1), (27, .invokevirtual 541, 3)] := dz_of (by decide +kernel)
theorem dX10_day_0 : decode cX10_day 0 = .ok (.aload_n 0, 1) := dk_dX10_day_0.1
theorem dX10_day_1 : decode cX10_day 1 = .ok (.getfield 417, 3) := dk_dX10_day_0.2.1
theorem dX10_day_4 : decode cX10_day 4 = .ok (.ifCond .eq 15, 3) := dk_dX10_day_0.2.2.1
theorem dX10_day_7 : decode cX10_day 7 = .ok (.iload_n 1, 1) := dk_dX10_day_0.2.2.2.1
theorem dX10_day_8 : decode cX10_day 8 = .ok (.i2l, 1) := dk_dX10_day_0.2.2.2.2.1
theorem dX10_day_9 : decode cX10_day 9 = .ok (.lconst 0, 1) := dk_dX10_day_0.2.2.2.2.2.1
theorem dX10_day_10 : decode cX10_day 10 = .ok (.ldc2_w 526, 3) := dk_dX10_day_0.2.2.2.2.2.2.1
theorem dX10_day_13 : decode cX10_day 13 = .ok (.invokestatic 318, 3) := dk_dX10_day_0.2.2.2.2.2.2.2.1
theorem dk_dX10_day_0_8 : dz_C cX10_day [(16, .ifCond .ne 5, 3), (19, .iconst (-1), 1), (20, .ireturn, 1), (21, .aload_n 0, 1), (22, .invokevirtual 534, 3), (25, .aload_n 0, 1), (26, .iload_n 1, 1), (27, .invokevirtual 541, 3)] := dk_dX10_day_0.2.2.2.2.2.2.2.2
theorem dX10_day_16 : decode cX10_day 16 = .ok (.ifCond .ne 5, 3) := dk_dX10_day_0_8.1
theorem dX10_day_19 : decode cX10_day 19 = .ok (.iconst (-1), 1) := dk_dX10_day_0_8.2.1
theorem dX10_day_20 : decode cX10_day 20 = .ok (.ireturn, 1) := dk_dX10_day_0_8.2.2.1
theorem dX10_day_21 : decode cX10_day 21 = .ok (.aload_n 0, 1) := dk_dX10_day_0_8.2.2.2.1
theorem dX10_day_22 : decode cX10_day 22 = .ok (.invokevirtual 534, 3) := dk_dX10_day_0_8.2.2.2.2.1
theorem dX10_day_25 : decode cX10_day 25 = .ok (.aload_n 0, 1) := dk_dX10_day_0_8.2.2.2.2.2.1
theorem dX10_day_26 : decode cX10_day 26 = .ok (.iload_n 1, 1) := dk_dX10_day_0_8.2.2.2.2.2.2.1
theorem dX10_day_27 : decode cX10_day 27 = .ok (.invokevirtual 541, 3) := dk_dX10_day_0_8.2.2.2.2.2.2.2.1
theorem dk_dX10_day_30 : dz_C cX10_day [(30, .ireturn, 1)] := dz_of (by decide +kernel)
theorem dX10_day_30 : decode cX10_day 30 = .ok (.ireturn, 1) := dk_dX10_day_30.1
theorem dk_dX10_dayBy_0 : dz_C cX10_dayBy [(0, .iconst 0, 1), (1, .istore 5, 2), (3, .iload 5, 2), (5, .bipush 12, 2), (7, .if_icmp .ge 57, 3), (10, .aload_n 0, 1), (11, .getfield 155, 3), (14, .iload 5, 2), (16, .iconst 0, 1), (17, .bastore, 1), (18, .aload_n 0, 1), (19, .getfield 158, 3), (22, .iload 5, 2), (24, .iconst (-1), 1), (25, .iastore, 1), (26, .aload_n 0, 1)] := dz_of (by decide +kernel)
theorem dX10_dayBy_0 : decode cX10_dayBy 0 = .ok (.iconst 0, 1) := dk_dX10_dayBy_0.1
theorem dX10_dayBy_1 : decode cX10_dayBy 1 = .ok (.istore 5, 2) := dk_dX10_dayBy_0.2.1
theorem dX10_dayBy_3 : decode cX10_dayBy 3 = .ok (.iload 5, 2) := dk_dX10_dayBy_0.2.2.1
theorem dX10_dayBy_5 : decode cX10_dayBy 5 = .ok (.bipush 12, 2) := dk_dX10_dayBy_0.2.2.2.1
theorem dX10_dayBy_7 : decode cX10_dayBy 7 = .ok (.if_icmp .ge 57, 3) := dk_dX10_dayBy_0.2.2.2.2.1
theorem dX10_dayBy_10 : decode cX10_dayBy 10 = .ok (.aload_n 0, 1) := dk_dX10_dayBy_0.2.2.2.2.2.1
theorem dX10_dayBy_11 : decode cX10_dayBy 11 = .ok (.getfield 155, 3) := dk_dX10_dayBy_0.2.2.2.2.2.2.1
theorem dX10_dayBy_14 : decode cX10_dayBy 14 = .ok (.iload 5, 2) := dk_dX10_dayBy_0.2.2.2.2.2.2.2.1
theorem dk_dX10_dayBy_0_8 : dz_C cX10_dayBy [(16, .iconst 0, 1), (17, .bastore, 1), (18, .aload_n 0, 1), (19, .getfield 158, 3), (22, .iload 5, 2), (24, .iconst (-1), 1), (25, .iastore, 1), (26, .aload_n 0, 1)] := dk_dX10_dayBy_0.2.2.2.2.2.2.2.2
theorem dX10_dayBy_16 : decode cX10_dayBy 16 = .ok (.iconst 0, 1) := dk_dX10_dayBy_0_8.1
theorem dX10_dayBy_17 : decode cX10_dayBy 17 = .ok (.bastore, 1) := dk_dX10_dayBy_0_8.2.1
theorem dX10_dayBy_18 : decode cX10_dayBy 18 = .ok (.aload_n 0, 1) := dk_dX10_dayBy_0_8.2.2.1
theorem dX10_dayBy_19 : decode cX10_dayBy 19 = .ok (.getfield 158, 3) := dk_dX10_dayBy_0_8.2.2.2.1
theorem dX10_dayBy_22 : decode cX10_dayBy 22 = .ok (.iload 5, 2) := dk_dX10_dayBy_0_8.2.2.2.2.1
theorem dX10_dayBy_24 : decode cX10_dayBy 24 = .ok (.iconst (-1), 1) := dk_dX10_dayBy_0_8.2.2.2.2.2.1
theorem dX10_dayBy_25 : decode cX10_dayBy 25 = .ok (.iastore, 1) := dk_dX10_dayBy_0_8.2.2.2.2.2.2.1
theorem dX10_dayBy_26 : decode cX10_dayBy 26 = .ok (.aload_n 0, 1) := dk_dX10_dayBy_0_8.2.2.2.2.2.2.2.1
theorem dk_dX10_dayBy_27 : dz_C cX10_dayBy [(27, .getfield 161, 3), (30, .iload 5, 2), (32, .iconst 0, 1), (33, .iastore, 1), (34, .aload_n 0, 1), (35, .getfield 164, 3), (38, .iload 5, 2), (40, .iconst 0, 1), (41, .bastore, 1), (42, .aload_n 0, 1), (43, .getfield 167, 3), (46, .iload 5, 2), (48, .iconst 0, 1), (49, .bastore, 1), (50, .aload_n 0, 1), (51, .getfield 170, 3)] := dz_of (by decide +kernel)
theorem dX10_dayBy_27 : decode cX10_dayBy 27 = .ok (.getfield 161, 3) := dk_dX10_dayBy_27.1
theorem dX10_dayBy_30 : decode cX10_dayBy 30 = .ok (.iload 5, 2) := dk_dX10_dayBy_27.2.1
theorem dX10_dayBy_32 : decode cX10_dayBy 32 = .ok (.iconst 0, 1) := dk_dX10_dayBy_27.2.2.1
theorem dX10_dayBy_33 : decode cX10_dayBy 33 = .ok (.iastore, 1) := dk_dX10_dayBy_27.2.2.2.1
theorem dX10_dayBy_34 : decode cX10_dayBy 34 = .ok (.aload_n 0, 1) := dk_dX10_dayBy_27.2.2.2.2.1
theorem dX10_dayBy_35 : decode cX10_dayBy 35 = .ok (.getfield 164, 3) := dk_dX10_dayBy_27.2.2.2.2.2.1
theorem dX10_dayBy_38 : decode cX10_dayBy 38 = .ok (.iload 5, 2) := dk_dX10_dayBy_27.2.2.2.2.2.2.1
theorem dX10_dayBy_40 : decode cX10_dayBy 40 = .ok (.iconst 0, 1) := dk_dX10_dayBy_27.2.2.2.2.2.2.2.1
theorem dk_dX10_dayBy_27_8 : dz_C cX10_dayBy [(41, .bastore, 1), (42, .aload_n 0, 1), (43, .getfield 167, 3), (46, .iload 5, 2), (48, .iconst 0, 1), (49, .bastore, 1), (50, .aload_n 0, 1), (51, .getfield 170, 3)] := dk_dX10_dayBy_27.2.2.2.2.2.2.2.2
theorem dX10_dayBy_41 : decode cX10_dayBy 41 = .ok (.bastore, 1) := dk_dX10_dayBy_27_8.1
theorem dX10_dayBy_42 : decode cX10_dayBy 42 = .ok (.aload_n 0, 1) := dk_dX10_dayBy_27_8.2.1
theorem dX10_dayBy_43 : decode cX10_dayBy 43 = .ok (.getfield 167, 3) := dk_dX10_dayBy_27_8.2.2.1
theorem dX10_dayBy_46 : decode cX10_dayBy 46 = .ok (.iload 5, 2) := dk_dX10_dayBy_27_8.2.2.2.1
theorem dX10_dayBy_48 : decode cX10_dayBy 48 = .ok (.iconst 0, 1) := dk_dX10_dayBy_27_8.2.2.2.2.1
theorem dX10_dayBy_49 : decode cX10_dayBy 49 = .ok (.bastore, 1) := dk_dX10_dayBy_27_8.2.2.2.2.2.1
theorem dX10_dayBy_50 : decode cX10_dayBy 50 = .ok (.aload_n 0, 1) := dk_dX10_dayBy_27_8.2.2.2.2.2.2.1
theorem dX10_dayBy_51 : decode cX10_dayBy 51 = .ok (.getfield 170, 3) := dk_dX10_dayBy_27_8.2.2.2.2.2.2.2.1
theorem dk_dX10_dayBy_54 : dz_C cX10_dayBy [(54, .iload 5, 2), (56, .iconst 0, 1), (57, .bastore, 1), (58, .iinc 5 1, 3), (61, .goto (-58), 3), (64, .aload_n 0, 1), (65, .iconst 0, 1), (66, .putfield 466, 3), (69, .aload_n 0, 1), (70, .iconst (-1), 1), (71, .putfield 478, 3), (74, .aload_n 0, 1), (75, .iconst (-1), 1), (76, .putfield 475, 3), (79, .aload_n 0, 1), (80, .iconst 0, 1)] := dz_of (by decide +kernel)
theorem dX10_dayBy_54 : decode cX10_dayBy 54 = .ok (.iload 5, 2) := dk_dX10_dayBy_54.1
theorem dX10_dayBy_56 : decode cX10_dayBy 56 = .ok (.iconst 0, 1) := dk_dX10_dayBy_54.2.1
theorem dX10_dayBy_57 : decode cX10_dayBy 57 = .ok (.bastore, 1) := dk_dX10_dayBy_54.2.2.1
theorem dX10_dayBy_58 : decode cX10_dayBy 58 = .ok (.iinc 5 1, 3) := dk_dX10_dayBy_54.2.2.2.1
theorem dX10_dayBy_61 : decode cX10_dayBy 61 = .ok (.goto (-58), 3) := dk_dX10_dayBy_54.2.2.2.2.1
theorem dX10_dayBy_64 : decode cX10_dayBy 64 = .ok (.aload_n 0, 1) := dk_dX10_dayBy_54.2.2.2.2.2.1
theorem dX10_dayBy_65 : decode cX10_dayBy 65 = .ok (.iconst 0, 1) := dk_dX10_dayBy_54.2.2.2.2.2.2.1
theorem dX10_dayBy_66 : decode cX10_dayBy 66 = .ok (.putfield 466, 3) := dk_dX10_dayBy_54.2.2.2.2.2.2.2.1
theorem dk_dX10_dayBy_54_8 : dz_C cX10_dayBy [(69, .aload_n 0, 1), (70, .iconst (-1), 1), (71, .putfield 478, 3), (74, .aload_n 0, 1), (75, .iconst (-1), 1), (76, .putfield 475, 3), (79, .aload_n 0, 1), (80, .iconst 0, 1)] := dk_dX10_dayBy_54.2.2.2.2.2.2.2.2
theorem dX10_dayBy_69 : decode cX10_dayBy 69 = .ok (.aload_n 0, 1) := dk_dX10_dayBy_54_8.1
theorem dX10_dayBy_70 : decode cX10_dayBy 70 = .ok (.iconst (-1), 1) := dk_dX10_dayBy_54_8.2.1
theorem dX10_dayBy_71 : decode cX10_dayBy 71 = .ok (.putfield 478, 3) := dk_dX10_dayBy_54_8.2.2.1
theorem dX10_dayBy_74 : decode cX10_dayBy 74 = .ok (.aload_n 0, 1) := dk_dX10_dayBy_54_8.2.2.2.1
theorem dX10_dayBy_75 : decode cX10_dayBy 75 = .ok (.iconst (-1), 1) := dk_dX10_dayBy_54_8.2.2.2.2.1
theorem dX10_dayBy_76 : decode cX10_dayBy 76 = .ok (.putfield 475, 3) := dk_dX10_dayBy_54_8.2.2.2.2.2.1
theorem dX10_dayBy_79 : decode cX10_dayBy 79 = .ok (.aload_n 0, 1) := dk_dX10_dayBy_54_8.2.2.2.2.2.2.1
theorem dX10_dayBy_80 : decode cX10_dayBy 80 = .ok (.iconst 0, 1) := dk_dX10_dayBy_54_8.2.2.2.2.2.2.2.1
theorem dk_dX10_dayBy_81 : dz_C cX10_dayBy [(81, .putfield 472, 3), (84, .aload_n 0, 1), (85, .iconst 0, 1), (86, .putfield 488, 3), (89, .iconst 0, 1), (90, .istore 5, 2), (92, .iload 5, 2), (94, .sipush 300, 3), (97, .if_icmp .ge 77, 3), (100, .aload_n 0, 1), (101, .getfield 173, 3), (104, .iload 5, 2), (106, .iconst 0, 1), (107, .bastore, 1), (108, .aload_n 0, 1), (109, .iload 5, 2)] := dz_of (by decide +kernel)
theorem dX10_dayBy_81 : decode cX10_dayBy 81 = .ok (.putfield 472, 3) := dk_dX10_dayBy_81.1
theorem dX10_dayBy_84 : decode cX10_dayBy 84 = .ok (.aload_n 0, 1) := dk_dX10_dayBy_81.2.1
theorem dX10_dayBy_85 : decode cX10_dayBy 85 = .ok (.iconst 0, 1) := dk_dX10_dayBy_81.2.2.1
theorem dX10_dayBy_86 : decode cX10_dayBy 86 = .ok (.putfield 488, 3) := dk_dX10_dayBy_81.2.2.2.1
theorem dX10_dayBy_89 : decode cX10_dayBy 89 = .ok (.iconst 0, 1) := dk_dX10_dayBy_81.2.2.2.2.1
theorem dX10_dayBy_90 : decode cX10_dayBy 90 = .ok (.istore 5, 2) := dk_dX10_dayBy_81.2.2.2.2.2.1
theorem dX10_dayBy_92 : decode cX10_dayBy 92 = .ok (.iload 5, 2) := dk_dX10_dayBy_81.2.2.2.2.2.2.1
theorem dX10_dayBy_94 : decode cX10_dayBy 94 = .ok (.sipush 300, 3) := dk_dX10_dayBy_81.2.2.2.2.2.2.2.1
theorem dk_dX10_dayBy_81_8 : dz_C cX10_dayBy [(97, .if_icmp .ge 77, 3), (100, .aload_n 0, 1), (101, .getfield 173, 3), (104, .iload 5, 2), (106, .iconst 0, 1), (107, .bastore, 1), (108, .aload_n 0, 1), (109, .iload 5, 2)] := dk_dX10_dayBy_81.2.2.2.2.2.2.2.2
theorem dX10_dayBy_97 : decode cX10_dayBy 97 = .ok (.if_icmp .ge 77, 3) := dk_dX10_dayBy_81_8.1
theorem dX10_dayBy_100 : decode cX10_dayBy 100 = .ok (.aload_n 0, 1) := dk_dX10_dayBy_81_8.2.1
theorem dX10_dayBy_101 : decode cX10_dayBy 101 = .ok (.getfield 173, 3) := dk_dX10_dayBy_81_8.2.2.1
theorem dX10_dayBy_104 : decode cX10_dayBy 104 = .ok (.iload 5, 2) := dk_dX10_dayBy_81_8.2.2.2.1
theorem dX10_dayBy_106 : decode cX10_dayBy 106 = .ok (.iconst 0, 1) := dk_dX10_dayBy_81_8.2.2.2.2.1
theorem dX10_dayBy_107 : decode cX10_dayBy 107 = .ok (.bastore, 1) := dk_dX10_dayBy_81_8.2.2.2.2.2.1
theorem dX10_dayBy_108 : decode cX10_dayBy 108 = .ok (.aload_n 0, 1) := dk_dX10_dayBy_81_8.2.2.2.2.2.2.1
theorem dX10_dayBy_109 : decode cX10_dayBy 109 = .ok (.iload 5, 2) := dk_dX10_dayBy_81_8.2.2.2.2.2.2.2.1
theorem dk_dX10_dayBy_111 : dz_C cX10_dayBy [(111, .iload_n 3, 1), (112, .invokevirtual 491, 3), (115, .aload_n 0, 1), (116, .getfield 152, 3), (119, .iload 5, 2), (121, .aload_n 0, 1), (122, .iload 5, 2), (124, .iload_n 1, 1), (125, .iload_n 2, 1), (126, .invokevirtual 494, 3), (129, .bastore, 1), (130, .iconst 0, 1), (131, .istore 6, 2), (133, .iload 6, 2), (135, .aload_n 0, 1), (136, .invokevirtual 433, 3)] := dz_of (by decide +kernel)
theorem dX10_dayBy_111 : decode cX10_dayBy 111 = .ok (.iload_n 3, 1) := dk_dX10_dayBy_111.1
theorem dX10_dayBy_112 : decode cX10_dayBy 112 = .ok (.invokevirtual 491, 3) := dk_dX10_dayBy_111.2.1
theorem dX10_dayBy_115 : decode cX10_dayBy 115 = .ok (.aload_n 0, 1) := dk_dX10_dayBy_111.2.2.1
theorem dX10_dayBy_116 : decode cX10_dayBy 116 = .ok (.getfield 152, 3) := dk_dX10_dayBy_111.2.2.2.1
theorem dX10_dayBy_119 : decode cX10_dayBy 119 = .ok (.iload 5, 2) := dk_dX10_dayBy_111.2.2.2.2.1
theorem dX10_dayBy_121 : decode cX10_dayBy 121 = .ok (.aload_n 0, 1) := dk_dX10_dayBy_111.2.2.2.2.2.1
theorem dX10_dayBy_122 : decode cX10_dayBy 122 = .ok (.iload 5, 2) := dk_dX10_dayBy_111.2.2.2.2.2.2.1
theorem dX10_dayBy_124 : decode cX10_dayBy 124 = .ok (.iload_n 1, 1) := dk_dX10_dayBy_111.2.2.2.2.2.2.2.1
theorem dk_dX10_dayBy_111_8 : dz_C cX10_dayBy [(125, .iload_n 2, 1), (126, .invokevirtual 494, 3), (129, .bastore, 1), (130, .iconst 0, 1), (131, .istore 6, 2), (133, .iload 6, 2), (135, .aload_n 0, 1), (136, .invokevirtual 433, 3)] := dk_dX10_dayBy_111.2.2.2.2.2.2.2.2
theorem dX10_dayBy_125 : decode cX10_dayBy 125 = .ok (.iload_n 2, 1) := dk_dX10_dayBy_111_8.1
theorem dX10_dayBy_126 : decode cX10_dayBy 126 = .ok (.invokevirtual 494, 3) := dk_dX10_dayBy_111_8.2.1
theorem dX10_dayBy_129 : decode cX10_dayBy 129 = .ok (.bastore, 1) := dk_dX10_dayBy_111_8.2.2.1
theorem dX10_dayBy_130 : decode cX10_dayBy 130 = .ok (.iconst 0, 1) := dk_dX10_dayBy_111_8.2.2.2.1
theorem dX10_dayBy_131 : decode cX10_dayBy 131 = .ok (.istore 6, 2) := dk_dX10_dayBy_111_8.2.2.2.2.1
theorem dX10_dayBy_133 : decode cX10_dayBy 133 = .ok (.iload 6, 2) := dk_dX10_dayBy_111_8.2.2.2.2.2.1
theorem dX10_dayBy_135 : decode cX10_dayBy 135 = .ok (.aload_n 0, 1) := dk_dX10_dayBy_111_8.2.2.2.2.2.2.1
theorem dX10_dayBy_136 : decode cX10_dayBy 136 = .ok (.invokevirtual 433, 3) := dk_dX10_dayBy_111_8.2.2.2.2.2.2.2.1
theorem dk_dX10_dayBy_139 : dz_C cX10_dayBy [(139, .if_icmp .ge 29, 3), (142, .aload_n 0, 1), (143, .getfield 155, 3), (146, .iload 6, 2), (148, .baload, 1), (149, .ifCond .eq 13, 3), (152, .aload_n 0, 1), (153, .iload 6, 2), (155, .iload 5, 2), (157, .iload 4, 2), (159, .invokevirtual 497, 3), (162, .iinc 6 1, 3), (165, .goto (-32), 3), (168, .iinc 5 1, 3), (171, .goto (-79), 3), (174, .return_, 1)] := dz_of (by decide +kernel)
theorem dX10_dayBy_139 : decode cX10_dayBy 139 = .ok (.if_icmp .ge 29, 3) := dk_dX10_dayBy_139.1
theorem dX10_dayBy_142 : decode cX10_dayBy 142 = .ok (.aload_n 0, 1) := dk_dX10_dayBy_139.2.1
theorem dX10_dayBy_143 : decode cX10_dayBy 143 = .ok (.getfield 155, 3) := dk_dX10_dayBy_139.2.2.1
theorem dX10_dayBy_146 : decode cX10_dayBy 146 = .ok (.iload 6, 2) := dk_dX10_dayBy_139.2.2.2.1
theorem dX10_dayBy_148 : decode cX10_dayBy 148 = .ok (.baload, 1) := dk_dX10_dayBy_139.2.2.2.2.1
theorem dX10_dayBy_149 : decode cX10_dayBy 149 = .ok (.ifCond .eq 13, 3) := dk_dX10_dayBy_139.2.2.2.2.2.1
theorem dX10_dayBy_152 : decode cX10_dayBy 152 = .ok (.aload_n 0, 1) := dk_dX10_dayBy_139.2.2.2.2.2.2.1
theorem dX10_dayBy_153 : decode cX10_dayBy 153 = .ok (.iload 6, 2) := dk_dX10_dayBy_139.2.2.2.2.2.2.2.1
theorem dk_dX10_dayBy_139_8 : dz_C cX10_dayBy [(155, .iload 5, 2), (157, .iload 4, 2), (159, .invokevirtual 497, 3), (162, .iinc 6 1, 3), (165, .goto (-32), 3), (168, .iinc 5 1, 3), (171, .goto (-79), 3), (174, .return_, 1)] := dk_dX10_dayBy_139.2.2.2.2.2.2.2.2
theorem dX10_dayBy_155 : decode cX10_dayBy 155 = .ok (.iload 5, 2) := dk_dX10_dayBy_139_8.1
theorem dX10_dayBy_157 : decode cX10_dayBy 157 = .ok (.iload 4, 2) := dk_dX10_dayBy_139_8.2.1
theorem dX10_dayBy_159 : decode cX10_dayBy 159 = .ok (.invokevirtual 497, 3) := dk_dX10_dayBy_139_8.2.2.1
theorem dX10_dayBy_162 : decode cX10_dayBy 162 = .ok (.iinc 6 1, 3) := dk_dX10_dayBy_139_8.2.2.2.1
theorem dX10_dayBy_165 : decode cX10_dayBy 165 = .ok (.goto (-32), 3) := dk_dX10_dayBy_139_8.2.2.2.2.1
theorem dX10_dayBy_168 : decode cX10_dayBy 168 = .ok (.iinc 5 1, 3) := dk_dX10_dayBy_139_8.2.2.2.2.2.1
theorem dX10_dayBy_171 : decode cX10_dayBy 171 = .ok (.goto (-79), 3) := dk_dX10_dayBy_139_8.2.2.2.2.2.2.1
theorem dX10_dayBy_174 : decode cX10_dayBy 174 = .ok (.return_, 1) := dk_dX10_dayBy_139_8.2.2.2.2.2.2.2.1
theorem dk_dX10_dayGoes_0 : dz_C cX10_dayGoes [(0, .aload_n 0, 1), (1, .invokevirtual 501, 3), (4, .aload_n 0, 1), (5, .aload_n 0, 1), (6, .getfield 139, 3), (9, .iconst 1, 1), (10, .iaload, 1), (11, .aload_n 0, 1), (12, .getfield 139, 3), (15, .iconst 2, 1), (16, .iaload, 1), (17, .iload_n 1, 1), (18, .iconst 0, 1), (19, .invokevirtual 504, 3), (22, .aload_n 0, 1), (23, .invokevirtual 508, 3)] := dz_of (by decide +kernel)
theorem dX10_dayGoes_0 : decode cX10_dayGoes 0 = .ok (.aload_n 0, 1) := dk_dX10_dayGoes_0.1
theorem dX10_dayGoes_1 : decode cX10_dayGoes 1 = .ok (.invokevirtual 501, 3) := dk_dX10_dayGoes_0.2.1
theorem dX10_dayGoes_4 : decode cX10_dayGoes 4 = .ok (.aload_n 0, 1) := dk_dX10_dayGoes_0.2.2.1
theorem dX10_dayGoes_5 : decode cX10_dayGoes 5 = .ok (.aload_n 0, 1) := dk_dX10_dayGoes_0.2.2.2.1
theorem dX10_dayGoes_6 : decode cX10_dayGoes 6 = .ok (.getfield 139, 3) := dk_dX10_dayGoes_0.2.2.2.2.1
theorem dX10_dayGoes_9 : decode cX10_dayGoes 9 = .ok (.iconst 1, 1) := dk_dX10_dayGoes_0.2.2.2.2.2.1
theorem dX10_dayGoes_10 : decode cX10_dayGoes 10 = .ok (.iaload, 1) := dk_dX10_dayGoes_0.2.2.2.2.2.2.1
theorem dX10_dayGoes_11 : decode cX10_dayGoes 11 = .ok (.aload_n 0, 1) := dk_dX10_dayGoes_0.2.2.2.2.2.2.2.1
theorem dk_dX10_dayGoes_0_8 : dz_C cX10_dayGoes [(12, .getfield 139, 3), (15, .iconst 2, 1), (16, .iaload, 1), (17, .iload_n 1, 1), (18, .iconst 0, 1), (19, .invokevirtual 504, 3), (22, .aload_n 0, 1), (23, .invokevirtual 508, 3)] := dk_dX10_dayGoes_0.2.2.2.2.2.2.2.2
theorem dX10_dayGoes_12 : decode cX10_dayGoes 12 = .ok (.getfield 139, 3) := dk_dX10_dayGoes_0_8.1
theorem dX10_dayGoes_15 : decode cX10_dayGoes 15 = .ok (.iconst 2, 1) := dk_dX10_dayGoes_0_8.2.1
theorem dX10_dayGoes_16 : decode cX10_dayGoes 16 = .ok (.iaload, 1) := dk_dX10_dayGoes_0_8.2.2.1
theorem dX10_dayGoes_17 : decode cX10_dayGoes 17 = .ok (.iload_n 1, 1) := dk_dX10_dayGoes_0_8.2.2.2.1
theorem dX10_dayGoes_18 : decode cX10_dayGoes 18 = .ok (.iconst 0, 1) := dk_dX10_dayGoes_0_8.2.2.2.2.1
theorem dX10_dayGoes_19 : decode cX10_dayGoes 19 = .ok (.invokevirtual 504, 3) := dk_dX10_dayGoes_0_8.2.2.2.2.2.1
theorem dX10_dayGoes_22 : decode cX10_dayGoes 22 = .ok (.aload_n 0, 1) := dk_dX10_dayGoes_0_8.2.2.2.2.2.2.1
theorem dX10_dayGoes_23 : decode cX10_dayGoes 23 = .ok (.invokevirtual 508, 3) := dk_dX10_dayGoes_0_8.2.2.2.2.2.2.2.1
theorem dk_dX10_dayGoes_26 : dz_C cX10_dayGoes [(26, .istore_n 2, 1), (27, .aload_n 0, 1), (28, .iload_n 1, 1), (29, .invokevirtual 523, 3), (32, .aload_n 0, 1), (33, .getfield 139, 3), (36, .iconst 0, 1), (37, .dup2, 1), (38, .iaload, 1), (39, .iconst 1, 1), (40, .iadd, 1), (41, .iastore, 1), (42, .iload_n 2, 1), (43, .ireturn, 1)] := dz_of (by decide +kernel)
theorem dX10_dayGoes_26 : decode cX10_dayGoes 26 = .ok (.istore_n 2, 1) := dk_dX10_dayGoes_26.1
theorem dX10_dayGoes_27 : decode cX10_dayGoes 27 = .ok (.aload_n 0, 1) := dk_dX10_dayGoes_26.2.1
theorem dX10_dayGoes_28 : decode cX10_dayGoes 28 = .ok (.iload_n 1, 1) := dk_dX10_dayGoes_26.2.2.1
theorem dX10_dayGoes_29 : decode cX10_dayGoes 29 = .ok (.invokevirtual 523, 3) := dk_dX10_dayGoes_26.2.2.2.1
theorem dX10_dayGoes_32 : decode cX10_dayGoes 32 = .ok (.aload_n 0, 1) := dk_dX10_dayGoes_26.2.2.2.2.1
theorem dX10_dayGoes_33 : decode cX10_dayGoes 33 = .ok (.getfield 139, 3) := dk_dX10_dayGoes_26.2.2.2.2.2.1
theorem dX10_dayGoes_36 : decode cX10_dayGoes 36 = .ok (.iconst 0, 1) := dk_dX10_dayGoes_26.2.2.2.2.2.2.1
theorem dX10_dayGoes_37 : decode cX10_dayGoes 37 = .ok (.dup2, 1) := dk_dX10_dayGoes_26.2.2.2.2.2.2.2.1
theorem dk_dX10_dayGoes_26_8 : dz_C cX10_dayGoes [(38, .iaload, 1), (39, .iconst 1, 1), (40, .iadd, 1), (41, .iastore, 1), (42, .iload_n 2, 1), (43, .ireturn, 1)] := dk_dX10_dayGoes_26.2.2.2.2.2.2.2.2
theorem dX10_dayGoes_38 : decode cX10_dayGoes 38 = .ok (.iaload, 1) := dk_dX10_dayGoes_26_8.1
theorem dX10_dayGoes_39 : decode cX10_dayGoes 39 = .ok (.iconst 1, 1) := dk_dX10_dayGoes_26_8.2.1
theorem dX10_dayGoes_40 : decode cX10_dayGoes 40 = .ok (.iadd, 1) := dk_dX10_dayGoes_26_8.2.2.1
theorem dX10_dayGoes_41 : decode cX10_dayGoes 41 = .ok (.iastore, 1) := dk_dX10_dayGoes_26_8.2.2.2.1
theorem dX10_dayGoes_42 : decode cX10_dayGoes 42 = .ok (.iload_n 2, 1) := dk_dX10_dayGoes_26_8.2.2.2.2.1
theorem dX10_dayGoes_43 : decode cX10_dayGoes 43 = .ok (.ireturn, 1) := dk_dX10_dayGoes_26_8.2.2.2.2.2.1
theorem dk_dX10_dayNow_0 : dz_C cX10_dayNow [(0, .aload_n 0, 1), (1, .invokevirtual 501, 3), (4, .aload_n 0, 1), (5, .aload_n 0, 1), (6, .getfield 139, 3), (9, .iconst 1, 1), (10, .iaload, 1), (11, .aload_n 0, 1), (12, .getfield 139, 3), (15, .iconst 2, 1), (16, .iaload, 1), (17, .iconst 0, 1), (18, .iconst 0, 1), (19, .invokevirtual 504, 3), (22, .return_, 1)] := dz_of (by decide +kernel)
theorem dX10_dayNow_0 : decode cX10_dayNow 0 = .ok (.aload_n 0, 1) := dk_dX10_dayNow_0.1
theorem dX10_dayNow_1 : decode cX10_dayNow 1 = .ok (.invokevirtual 501, 3) := dk_dX10_dayNow_0.2.1
theorem dX10_dayNow_4 : decode cX10_dayNow 4 = .ok (.aload_n 0, 1) := dk_dX10_dayNow_0.2.2.1
theorem dX10_dayNow_5 : decode cX10_dayNow 5 = .ok (.aload_n 0, 1) := dk_dX10_dayNow_0.2.2.2.1
theorem dX10_dayNow_6 : decode cX10_dayNow 6 = .ok (.getfield 139, 3) := dk_dX10_dayNow_0.2.2.2.2.1
theorem dX10_dayNow_9 : decode cX10_dayNow 9 = .ok (.iconst 1, 1) := dk_dX10_dayNow_0.2.2.2.2.2.1
theorem dX10_dayNow_10 : decode cX10_dayNow 10 = .ok (.iaload, 1) := dk_dX10_dayNow_0.2.2.2.2.2.2.1
theorem dX10_dayNow_11 : decode cX10_dayNow 11 = .ok (.aload_n 0, 1) := dk_dX10_dayNow_0.2.2.2.2.2.2.2.1
theorem dk_dX10_dayNow_0_8 : dz_C cX10_dayNow [(12, .getfield 139, 3), (15, .iconst 2, 1), (16, .iaload, 1), (17, .iconst 0, 1), (18, .iconst 0, 1), (19, .invokevirtual 504, 3), (22, .return_, 1)] := dk_dX10_dayNow_0.2.2.2.2.2.2.2.2
theorem dX10_dayNow_12 : decode cX10_dayNow 12 = .ok (.getfield 139, 3) := dk_dX10_dayNow_0_8.1
theorem dX10_dayNow_15 : decode cX10_dayNow 15 = .ok (.iconst 2, 1) := dk_dX10_dayNow_0_8.2.1
theorem dX10_dayNow_16 : decode cX10_dayNow 16 = .ok (.iaload, 1) := dk_dX10_dayNow_0_8.2.2.1
theorem dX10_dayNow_17 : decode cX10_dayNow 17 = .ok (.iconst 0, 1) := dk_dX10_dayNow_0_8.2.2.2.1
theorem dX10_dayNow_18 : decode cX10_dayNow 18 = .ok (.iconst 0, 1) := dk_dX10_dayNow_0_8.2.2.2.2.1
theorem dX10_dayNow_19 : decode cX10_dayNow 19 = .ok (.invokevirtual 504, 3) := dk_dX10_dayNow_0_8.2.2.2.2.2.1
theorem dX10_dayNow_22 : decode cX10_dayNow 22 = .ok (.return_, 1) := dk_dX10_dayNow_0_8.2.2.2.2.2.2.1
theorem dk_dX10_days_0 : dz_C cX10_days [(0, .aload_n 0, 1), (1, .iload_n 1, 1), (2, .iconst 1, 1), (3, .bipush 30, 2), (5, .invokevirtual 554, 3), (8, .ifCond .ne 9, 3), (11, .aload_n 0, 1), (12, .iconst 3, 1), (13, .invokevirtual 567, 3), (16, .ireturn, 1), (17, .aload_n 0, 1), (18, .invokevirtual 594, 3), (21, .iconst 0, 1), (22, .istore_n 2, 1), (23, .iconst 0, 1), (24, .istore_n 3, 1)] := dz_of (by decide +kernel)
theorem dX10_days_0 : decode cX10_days 0 = .ok (.aload_n 0, 1) := dk_dX10_days_0.1
theorem dX10_days_1 : decode cX10_days 1 = .ok (.iload_n 1, 1) := dk_dX10_days_0.2.1
theorem dX10_days_2 : decode cX10_days 2 = .ok (.iconst 1, 1) := dk_dX10_days_0.2.2.1
theorem dX10_days_3 : decode cX10_days 3 = .ok (.bipush 30, 2) := dk_dX10_days_0.2.2.2.1
theorem dX10_days_5 : decode cX10_days 5 = .ok (.invokevirtual 554, 3) := dk_dX10_days_0.2.2.2.2.1
theorem dX10_days_8 : decode cX10_days 8 = .ok (.ifCond .ne 9, 3) := dk_dX10_days_0.2.2.2.2.2.1
theorem dX10_days_11 : decode cX10_days 11 = .ok (.aload_n 0, 1) := dk_dX10_days_0.2.2.2.2.2.2.1
theorem dX10_days_12 : decode cX10_days 12 = .ok (.iconst 3, 1) := dk_dX10_days_0.2.2.2.2.2.2.2.1
theorem dk_dX10_days_0_8 : dz_C cX10_days [(13, .invokevirtual 567, 3), (16, .ireturn, 1), (17, .aload_n 0, 1), (18, .invokevirtual 594, 3), (21, .iconst 0, 1), (22, .istore_n 2, 1), (23, .iconst 0, 1), (24, .istore_n 3, 1)] := dk_dX10_days_0.2.2.2.2.2.2.2.2
theorem dX10_days_13 : decode cX10_days 13 = .ok (.invokevirtual 567, 3) := dk_dX10_days_0_8.1
theorem dX10_days_16 : decode cX10_days 16 = .ok (.ireturn, 1) := dk_dX10_days_0_8.2.1
theorem dX10_days_17 : decode cX10_days 17 = .ok (.aload_n 0, 1) := dk_dX10_days_0_8.2.2.1
theorem dX10_days_18 : decode cX10_days 18 = .ok (.invokevirtual 594, 3) := dk_dX10_days_0_8.2.2.2.1
theorem dX10_days_21 : decode cX10_days 21 = .ok (.iconst 0, 1) := dk_dX10_days_0_8.2.2.2.2.1
theorem dX10_days_22 : decode cX10_days 22 = .ok (.istore_n 2, 1) := dk_dX10_days_0_8.2.2.2.2.2.1
theorem dX10_days_23 : decode cX10_days 23 = .ok (.iconst 0, 1) := dk_dX10_days_0_8.2.2.2.2.2.2.1
theorem dX10_days_24 : decode cX10_days 24 = .ok (.istore_n 3, 1) := dk_dX10_days_0_8.2.2.2.2.2.2.2.1
theorem dk_dX10_days_25 : dz_C cX10_days [(25, .iload_n 3, 1), (26, .iload_n 1, 1), (27, .if_icmp .ge 17, 3), (30, .iload_n 2, 1), (31, .aload_n 0, 1), (32, .iconst 0, 1), (33, .invokevirtual 560, 3), (36, .iadd, 1), (37, .istore_n 2, 1), (38, .iinc 3 1, 3), (41, .goto (-16), 3), (44, .iload_n 2, 1), (45, .ireturn, 1)] := dz_of (by decide +kernel)
theorem dX10_days_25 : decode cX10_days 25 = .ok (.iload_n 3, 1) := dk_dX10_days_25.1
theorem dX10_days_26 : decode cX10_days 26 = .ok (.iload_n 1, 1) := dk_dX10_days_25.2.1
theorem dX10_days_27 : decode cX10_days 27 = .ok (.if_icmp .ge 17, 3) := dk_dX10_days_25.2.2.1
theorem dX10_days_30 : decode cX10_days 30 = .ok (.iload_n 2, 1) := dk_dX10_days_25.2.2.2.1
theorem dX10_days_31 : decode cX10_days 31 = .ok (.aload_n 0, 1) := dk_dX10_days_25.2.2.2.2.1
theorem dX10_days_32 : decode cX10_days 32 = .ok (.iconst 0, 1) := dk_dX10_days_25.2.2.2.2.2.1
theorem dX10_days_33 : decode cX10_days 33 = .ok (.invokevirtual 560, 3) := dk_dX10_days_25.2.2.2.2.2.2.1
theorem dX10_days_36 : decode cX10_days 36 = .ok (.iadd, 1) := dk_dX10_days_25.2.2.2.2.2.2.2.1
theorem dk_dX10_days_25_8 : dz_C cX10_days [(37, .istore_n 2, 1), (38, .iinc 3 1, 3), (41, .goto (-16), 3), (44, .iload_n 2, 1), (45, .ireturn, 1)] := dk_dX10_days_25.2.2.2.2.2.2.2.2
theorem dX10_days_37 : decode cX10_days 37 = .ok (.istore_n 2, 1) := dk_dX10_days_25_8.1
theorem dX10_days_38 : decode cX10_days 38 = .ok (.iinc 3 1, 3) := dk_dX10_days_25_8.2.1
theorem dX10_days_41 : decode cX10_days 41 = .ok (.goto (-16), 3) := dk_dX10_days_25_8.2.2.1
theorem dX10_days_44 : decode cX10_days 44 = .ok (.iload_n 2, 1) := dk_dX10_days_25_8.2.2.2.1
theorem dX10_days_45 : decode cX10_days 45 = .ok (.ireturn, 1) := dk_dX10_days_25_8.2.2.2.2.1
theorem dk_dX10_doubts_0 : dz_C cX10_doubts [(0, .aload_n 0, 1), (1, .iload_n 1, 1), (2, .invokevirtual 528, 3), (5, .ifCond .ne 5, 3), (8, .iconst (-1), 1), (9, .ireturn, 1), (10, .iconst 0, 1), (11, .istore_n 2, 1), (12, .aload_n 0, 1), (13, .invokevirtual 557, 3), (16, .aload_n 0, 1), (17, .iload_n 1, 1), (18, .invokevirtual 463, 3), (21, .ifCond .le 33, 3), (24, .iload_n 2, 1), (25, .bipush 30, 2)] := dz_of (by decide +kernel)
theorem dX10_doubts_0 : decode cX10_doubts 0 = .ok (.aload_n 0, 1) := dk_dX10_doubts_0.1
theorem dX10_doubts_1 : decode cX10_doubts 1 = .ok (.iload_n 1, 1) := dk_dX10_doubts_0.2.1
theorem dX10_doubts_2 : decode cX10_doubts 2 = .ok (.invokevirtual 528, 3) := dk_dX10_doubts_0.2.2.1
theorem dX10_doubts_5 : decode cX10_doubts 5 = .ok (.ifCond .ne 5, 3) := dk_dX10_doubts_0.2.2.2.1
theorem dX10_doubts_8 : decode cX10_doubts 8 = .ok (.iconst (-1), 1) := dk_dX10_doubts_0.2.2.2.2.1
theorem dX10_doubts_9 : decode cX10_doubts 9 = .ok (.ireturn, 1) := dk_dX10_doubts_0.2.2.2.2.2.1
theorem dX10_doubts_10 : decode cX10_doubts 10 = .ok (.iconst 0, 1) := dk_dX10_doubts_0.2.2.2.2.2.2.1
theorem dX10_doubts_11 : decode cX10_doubts 11 = .ok (.istore_n 2, 1) := dk_dX10_doubts_0.2.2.2.2.2.2.2.1
theorem dk_dX10_doubts_0_8 : dz_C cX10_doubts [(12, .aload_n 0, 1), (13, .invokevirtual 557, 3), (16, .aload_n 0, 1), (17, .iload_n 1, 1), (18, .invokevirtual 463, 3), (21, .ifCond .le 33, 3), (24, .iload_n 2, 1), (25, .bipush 30, 2)] := dk_dX10_doubts_0.2.2.2.2.2.2.2.2
theorem dX10_doubts_12 : decode cX10_doubts 12 = .ok (.aload_n 0, 1) := dk_dX10_doubts_0_8.1
theorem dX10_doubts_13 : decode cX10_doubts 13 = .ok (.invokevirtual 557, 3) := dk_dX10_doubts_0_8.2.1
theorem dX10_doubts_16 : decode cX10_doubts 16 = .ok (.aload_n 0, 1) := dk_dX10_doubts_0_8.2.2.1
theorem dX10_doubts_17 : decode cX10_doubts 17 = .ok (.iload_n 1, 1) := dk_dX10_doubts_0_8.2.2.2.1
theorem dX10_doubts_18 : decode cX10_doubts 18 = .ok (.invokevirtual 463, 3) := dk_dX10_doubts_0_8.2.2.2.2.1
theorem dX10_doubts_21 : decode cX10_doubts 21 = .ok (.ifCond .le 33, 3) := dk_dX10_doubts_0_8.2.2.2.2.2.1
theorem dX10_doubts_24 : decode cX10_doubts 24 = .ok (.iload_n 2, 1) := dk_dX10_doubts_0_8.2.2.2.2.2.2.1
theorem dX10_doubts_25 : decode cX10_doubts 25 = .ok (.bipush 30, 2) := dk_dX10_doubts_0_8.2.2.2.2.2.2.2.1
theorem dk_dX10_doubts_27 : dz_C cX10_doubts [(27, .if_icmp .ge 27, 3), (30, .aload_n 0, 1), (31, .getfield 139, 3), (34, .iconst 0, 1), (35, .iaload, 1), (36, .sipush 999, 3), (39, .if_icmp .ge 15, 3), (42, .aload_n 0, 1), (43, .iconst 0, 1), (44, .invokevirtual 560, 3), (47, .pop, 1), (48, .iinc 2 1, 3), (51, .goto (-35), 3), (54, .aload_n 0, 1), (55, .iload_n 1, 1), (56, .invokevirtual 463, 3)] := dz_of (by decide +kernel)
theorem dX10_doubts_27 : decode cX10_doubts 27 = .ok (.if_icmp .ge 27, 3) := dk_dX10_doubts_27.1
theorem dX10_doubts_30 : decode cX10_doubts 30 = .ok (.aload_n 0, 1) := dk_dX10_doubts_27.2.1
theorem dX10_doubts_31 : decode cX10_doubts 31 = .ok (.getfield 139, 3) := dk_dX10_doubts_27.2.2.1
theorem dX10_doubts_34 : decode cX10_doubts 34 = .ok (.iconst 0, 1) := dk_dX10_doubts_27.2.2.2.1
theorem dX10_doubts_35 : decode cX10_doubts 35 = .ok (.iaload, 1) := dk_dX10_doubts_27.2.2.2.2.1
theorem dX10_doubts_36 : decode cX10_doubts 36 = .ok (.sipush 999, 3) := dk_dX10_doubts_27.2.2.2.2.2.1
theorem dX10_doubts_39 : decode cX10_doubts 39 = .ok (.if_icmp .ge 15, 3) := dk_dX10_doubts_27.2.2.2.2.2.2.1
theorem dX10_doubts_42 : decode cX10_doubts 42 = .ok (.aload_n 0, 1) := dk_dX10_doubts_27.2.2.2.2.2.2.2.1
theorem dk_dX10_doubts_27_8 : dz_C cX10_doubts [(43, .iconst 0, 1), (44, .invokevirtual 560, 3), (47, .pop, 1), (48, .iinc 2 1, 3), (51, .goto (-35), 3), (54, .aload_n 0, 1), (55, .iload_n 1, 1), (56, .invokevirtual 463, 3)] := dk_dX10_doubts_27.2.2.2.2.2.2.2.2
theorem dX10_doubts_43 : decode cX10_doubts 43 = .ok (.iconst 0, 1) := dk_dX10_doubts_27_8.1
theorem dX10_doubts_44 : decode cX10_doubts 44 = .ok (.invokevirtual 560, 3) := dk_dX10_doubts_27_8.2.1
theorem dX10_doubts_47 : decode cX10_doubts 47 = .ok (.pop, 1) := dk_dX10_doubts_27_8.2.2.1
theorem dX10_doubts_48 : decode cX10_doubts 48 = .ok (.iinc 2 1, 3) := dk_dX10_doubts_27_8.2.2.2.1
theorem dX10_doubts_51 : decode cX10_doubts 51 = .ok (.goto (-35), 3) := dk_dX10_doubts_27_8.2.2.2.2.1
theorem dX10_doubts_54 : decode cX10_doubts 54 = .ok (.aload_n 0, 1) := dk_dX10_doubts_27_8.2.2.2.2.2.1
theorem dX10_doubts_55 : decode cX10_doubts 55 = .ok (.iload_n 1, 1) := dk_dX10_doubts_27_8.2.2.2.2.2.2.1
theorem dX10_doubts_56 : decode cX10_doubts 56 = .ok (.invokevirtual 463, 3) := dk_dX10_doubts_27_8.2.2.2.2.2.2.2.1
theorem dk_dX10_doubts_59 : dz_C cX10_doubts [(59, .ifCond .ne 7, 3), (62, .iconst 1, 1), (63, .goto 4, 3), (66, .iconst 0, 1), (67, .istore_n 3, 1), (68, .aload_n 0, 1), (69, .invokevirtual 563, 3), (72, .iload_n 3, 1), (73, .ifCond .eq 7, 3), (76, .iload_n 2, 1), (77, .goto 4, 3), (80, .iconst (-1), 1), (81, .ireturn, 1)] := dz_of (by decide +kernel)
theorem dX10_doubts_59 : decode cX10_doubts 59 = .ok (.ifCond .ne 7, 3) := dk_dX10_doubts_59.1
theorem dX10_doubts_62 : decode cX10_doubts 62 = .ok (.iconst 1, 1) := dk_dX10_doubts_59.2.1
theorem dX10_doubts_63 : decode cX10_doubts 63 = .ok (.goto 4, 3) := dk_dX10_doubts_59.2.2.1
theorem dX10_doubts_66 : decode cX10_doubts 66 = .ok (.iconst 0, 1) := dk_dX10_doubts_59.2.2.2.1
theorem dX10_doubts_67 : decode cX10_doubts 67 = .ok (.istore_n 3, 1) := dk_dX10_doubts_59.2.2.2.2.1
theorem dX10_doubts_68 : decode cX10_doubts 68 = .ok (.aload_n 0, 1) := dk_dX10_doubts_59.2.2.2.2.2.1
theorem dX10_doubts_69 : decode cX10_doubts 69 = .ok (.invokevirtual 563, 3) := dk_dX10_doubts_59.2.2.2.2.2.2.1
theorem dX10_doubts_72 : decode cX10_doubts 72 = .ok (.iload_n 3, 1) := dk_dX10_doubts_59.2.2.2.2.2.2.2.1
theorem dk_dX10_doubts_59_8 : dz_C cX10_doubts [(73, .ifCond .eq 7, 3), (76, .iload_n 2, 1), (77, .goto 4, 3), (80, .iconst (-1), 1), (81, .ireturn, 1)] := dk_dX10_doubts_59.2.2.2.2.2.2.2.2
theorem dX10_doubts_73 : decode cX10_doubts 73 = .ok (.ifCond .eq 7, 3) := dk_dX10_doubts_59_8.1
theorem dX10_doubts_76 : decode cX10_doubts 76 = .ok (.iload_n 2, 1) := dk_dX10_doubts_59_8.2.1
theorem dX10_doubts_77 : decode cX10_doubts 77 = .ok (.goto 4, 3) := dk_dX10_doubts_59_8.2.2.1
theorem dX10_doubts_80 : decode cX10_doubts 80 = .ok (.iconst (-1), 1) := dk_dX10_doubts_59_8.2.2.2.1
theorem dX10_doubts_81 : decode cX10_doubts 81 = .ok (.ireturn, 1) := dk_dX10_doubts_59_8.2.2.2.2.1
theorem dk_dX10_drawOf_0 : dz_C cX10_drawOf [(0, .aload_n 0, 1), (1, .ldc2_w 597, 3), (4, .aload_n 0, 1), (5, .getfield 185, 3), (8, .lmul, 1), (9, .ldc2_w 599, 3), (12, .ladd, 1), (13, .ldc2_w 601, 3), (16, .lrem, 1), (17, .putfield 185, 3), (20, .aload_n 0, 1), (21, .getfield 185, 3), (24, .ldc2_w 603, 3), (27, .ldiv, 1), (28, .iload_n 1, 1), (29, .i2l, 1)] := dz_of (by decide +kernel)
theorem dX10_drawOf_0 : decode cX10_drawOf 0 = .ok (.aload_n 0, 1) := dk_dX10_drawOf_0.1
theorem dX10_drawOf_1 : decode cX10_drawOf 1 = .ok (.ldc2_w 597, 3) := dk_dX10_drawOf_0.2.1
theorem dX10_drawOf_4 : decode cX10_drawOf 4 = .ok (.aload_n 0, 1) := dk_dX10_drawOf_0.2.2.1
theorem dX10_drawOf_5 : decode cX10_drawOf 5 = .ok (.getfield 185, 3) := dk_dX10_drawOf_0.2.2.2.1
theorem dX10_drawOf_8 : decode cX10_drawOf 8 = .ok (.lmul, 1) := dk_dX10_drawOf_0.2.2.2.2.1
theorem dX10_drawOf_9 : decode cX10_drawOf 9 = .ok (.ldc2_w 599, 3) := dk_dX10_drawOf_0.2.2.2.2.2.1
theorem dX10_drawOf_12 : decode cX10_drawOf 12 = .ok (.ladd, 1) := dk_dX10_drawOf_0.2.2.2.2.2.2.1
theorem dX10_drawOf_13 : decode cX10_drawOf 13 = .ok (.ldc2_w 601, 3) := dk_dX10_drawOf_0.2.2.2.2.2.2.2.1
theorem dk_dX10_drawOf_0_8 : dz_C cX10_drawOf [(16, .lrem, 1), (17, .putfield 185, 3), (20, .aload_n 0, 1), (21, .getfield 185, 3), (24, .ldc2_w 603, 3), (27, .ldiv, 1), (28, .iload_n 1, 1), (29, .i2l, 1)] := dk_dX10_drawOf_0.2.2.2.2.2.2.2.2
theorem dX10_drawOf_16 : decode cX10_drawOf 16 = .ok (.lrem, 1) := dk_dX10_drawOf_0_8.1
theorem dX10_drawOf_17 : decode cX10_drawOf 17 = .ok (.putfield 185, 3) := dk_dX10_drawOf_0_8.2.1
theorem dX10_drawOf_20 : decode cX10_drawOf 20 = .ok (.aload_n 0, 1) := dk_dX10_drawOf_0_8.2.2.1
theorem dX10_drawOf_21 : decode cX10_drawOf 21 = .ok (.getfield 185, 3) := dk_dX10_drawOf_0_8.2.2.2.1
theorem dX10_drawOf_24 : decode cX10_drawOf 24 = .ok (.ldc2_w 603, 3) := dk_dX10_drawOf_0_8.2.2.2.2.1
theorem dX10_drawOf_27 : decode cX10_drawOf 27 = .ok (.ldiv, 1) := dk_dX10_drawOf_0_8.2.2.2.2.2.1
theorem dX10_drawOf_28 : decode cX10_drawOf 28 = .ok (.iload_n 1, 1) := dk_dX10_drawOf_0_8.2.2.2.2.2.2.1
theorem dX10_drawOf_29 : decode cX10_drawOf 29 = .ok (.i2l, 1) := dk_dX10_drawOf_0_8.2.2.2.2.2.2.2.1
theorem dk_dX10_drawOf_30 : dz_C cX10_drawOf [(30, .lrem, 1), (31, .l2i, 1), (32, .ireturn, 1)] := dz_of (by decide +kernel)
theorem dX10_drawOf_30 : decode cX10_drawOf 30 = .ok (.lrem, 1) := dk_dX10_drawOf_30.1
theorem dX10_drawOf_31 : decode cX10_drawOf 31 = .ok (.l2i, 1) := dk_dX10_drawOf_30.2.1
theorem dX10_drawOf_32 : decode cX10_drawOf 32 = .ok (.ireturn, 1) := dk_dX10_drawOf_30.2.2.1
theorem dk_dX10_end_0 : dz_C cX10_end [(0, .iload_n 1, 1), (1, .ifCond .lt 11, 3), (4, .iload_n 1, 1), (5, .aload_n 0, 1), (6, .getfield 276, 3), (9, .if_icmp .le 15, 3), (12, .aload_n 0, 1), (13, .getfield 17, 3), (16, .iconst 0, 1), (17, .dup2, 1), (18, .iaload, 1), (19, .iconst 1, 1), (20, .iadd, 1), (21, .iastore, 1), (22, .iconst 0, 1), (23, .ireturn, 1)] := dz_of (by decide +kernel)
theorem dX10_end_0 : decode cX10_end 0 = .ok (.iload_n 1, 1) := dk_dX10_end_0.1
theorem dX10_end_1 : decode cX10_end 1 = .ok (.ifCond .lt 11, 3) := dk_dX10_end_0.2.1
theorem dX10_end_4 : decode cX10_end 4 = .ok (.iload_n 1, 1) := dk_dX10_end_0.2.2.1
theorem dX10_end_5 : decode cX10_end 5 = .ok (.aload_n 0, 1) := dk_dX10_end_0.2.2.2.1
theorem dX10_end_6 : decode cX10_end 6 = .ok (.getfield 276, 3) := dk_dX10_end_0.2.2.2.2.1
theorem dX10_end_9 : decode cX10_end 9 = .ok (.if_icmp .le 15, 3) := dk_dX10_end_0.2.2.2.2.2.1
theorem dX10_end_12 : decode cX10_end 12 = .ok (.aload_n 0, 1) := dk_dX10_end_0.2.2.2.2.2.2.1
theorem dX10_end_13 : decode cX10_end 13 = .ok (.getfield 17, 3) := dk_dX10_end_0.2.2.2.2.2.2.2.1
theorem dk_dX10_end_0_8 : dz_C cX10_end [(16, .iconst 0, 1), (17, .dup2, 1), (18, .iaload, 1), (19, .iconst 1, 1), (20, .iadd, 1), (21, .iastore, 1), (22, .iconst 0, 1), (23, .ireturn, 1)] := dk_dX10_end_0.2.2.2.2.2.2.2.2
theorem dX10_end_16 : decode cX10_end 16 = .ok (.iconst 0, 1) := dk_dX10_end_0_8.1
theorem dX10_end_17 : decode cX10_end 17 = .ok (.dup2, 1) := dk_dX10_end_0_8.2.1
theorem dX10_end_18 : decode cX10_end 18 = .ok (.iaload, 1) := dk_dX10_end_0_8.2.2.1
theorem dX10_end_19 : decode cX10_end 19 = .ok (.iconst 1, 1) := dk_dX10_end_0_8.2.2.2.1
theorem dX10_end_20 : decode cX10_end 20 = .ok (.iadd, 1) := dk_dX10_end_0_8.2.2.2.2.1
theorem dX10_end_21 : decode cX10_end 21 = .ok (.iastore, 1) := dk_dX10_end_0_8.2.2.2.2.2.1
theorem dX10_end_22 : decode cX10_end 22 = .ok (.iconst 0, 1) := dk_dX10_end_0_8.2.2.2.2.2.2.1
theorem dX10_end_23 : decode cX10_end 23 = .ok (.ireturn, 1) := dk_dX10_end_0_8.2.2.2.2.2.2.2.1
theorem dk_dX10_end_24 : dz_C cX10_end [(24, .aload_n 0, 1), (25, .iload_n 1, 1), (26, .putfield 276, 3), (29, .iconst 1, 1), (30, .ireturn, 1)] := dz_of (by decide +kernel)
theorem dX10_end_24 : decode cX10_end 24 = .ok (.aload_n 0, 1) := dk_dX10_end_24.1
theorem dX10_end_25 : decode cX10_end 25 = .ok (.iload_n 1, 1) := dk_dX10_end_24.2.1
theorem dX10_end_26 : decode cX10_end 26 = .ok (.putfield 276, 3) := dk_dX10_end_24.2.2.1
theorem dX10_end_29 : decode cX10_end 29 = .ok (.iconst 1, 1) := dk_dX10_end_24.2.2.2.1
theorem dX10_end_30 : decode cX10_end 30 = .ok (.ireturn, 1) := dk_dX10_end_24.2.2.2.2.1
theorem dk_dX10_fail_0 : dz_C cX10_fail [(0, .aload_n 0, 1), (1, .getfield 279, 3), (4, .ifCond .eq 4, 3), (7, .return_, 1), (8, .aload_n 0, 1), (9, .iload_n 1, 1), (10, .putfield 279, 3), (13, .aload_n 0, 1), (14, .iload_n 2, 1), (15, .putfield 282, 3), (18, .return_, 1)] := dz_of (by decide +kernel)
theorem dX10_fail_0 : decode cX10_fail 0 = .ok (.aload_n 0, 1) := dk_dX10_fail_0.1
theorem dX10_fail_1 : decode cX10_fail 1 = .ok (.getfield 279, 3) := dk_dX10_fail_0.2.1
theorem dX10_fail_4 : decode cX10_fail 4 = .ok (.ifCond .eq 4, 3) := dk_dX10_fail_0.2.2.1
theorem dX10_fail_7 : decode cX10_fail 7 = .ok (.return_, 1) := dk_dX10_fail_0.2.2.2.1
theorem dX10_fail_8 : decode cX10_fail 8 = .ok (.aload_n 0, 1) := dk_dX10_fail_0.2.2.2.2.1
theorem dX10_fail_9 : decode cX10_fail 9 = .ok (.iload_n 1, 1) := dk_dX10_fail_0.2.2.2.2.2.1
theorem dX10_fail_10 : decode cX10_fail 10 = .ok (.putfield 279, 3) := dk_dX10_fail_0.2.2.2.2.2.2.1
theorem dX10_fail_13 : decode cX10_fail 13 = .ok (.aload_n 0, 1) := dk_dX10_fail_0.2.2.2.2.2.2.2.1
theorem dk_dX10_fail_0_8 : dz_C cX10_fail [(14, .iload_n 2, 1), (15, .putfield 282, 3), (18, .return_, 1)] := dk_dX10_fail_0.2.2.2.2.2.2.2.2
theorem dX10_fail_14 : decode cX10_fail 14 = .ok (.iload_n 2, 1) := dk_dX10_fail_0_8.1
theorem dX10_fail_15 : decode cX10_fail 15 = .ok (.putfield 282, 3) := dk_dX10_fail_0_8.2.1
theorem dX10_fail_18 : decode cX10_fail 18 = .ok (.return_, 1) := dk_dX10_fail_0_8.2.2.1
theorem dk_dX10_fault_0 : dz_C cX10_fault [(0, .iload_n 1, 1), (1, .ifCond .ne 10, 3), (4, .aload_n 0, 1), (5, .getfield 411, 3), (8, .goto 16, 3), (11, .iload_n 1, 1), (12, .iconst 1, 1), (13, .if_icmp .ne 10, 3), (16, .aload_n 0, 1), (17, .getfield 13, 3), (20, .goto 4, 3), (23, .iconst (-1), 1), (24, .ireturn, 1)] := dz_of (by decide +kernel)
theorem dX10_fault_0 : decode cX10_fault 0 = .ok (.iload_n 1, 1) := dk_dX10_fault_0.1
theorem dX10_fault_1 : decode cX10_fault 1 = .ok (.ifCond .ne 10, 3) := dk_dX10_fault_0.2.1
theorem dX10_fault_4 : decode cX10_fault 4 = .ok (.aload_n 0, 1) := dk_dX10_fault_0.2.2.1
theorem dX10_fault_5 : decode cX10_fault 5 = .ok (.getfield 411, 3) := dk_dX10_fault_0.2.2.2.1
theorem dX10_fault_8 : decode cX10_fault 8 = .ok (.goto 16, 3) := dk_dX10_fault_0.2.2.2.2.1
theorem dX10_fault_11 : decode cX10_fault 11 = .ok (.iload_n 1, 1) := dk_dX10_fault_0.2.2.2.2.2.1
theorem dX10_fault_12 : decode cX10_fault 12 = .ok (.iconst 1, 1) := dk_dX10_fault_0.2.2.2.2.2.2.1
theorem dX10_fault_13 : decode cX10_fault 13 = .ok (.if_icmp .ne 10, 3) := dk_dX10_fault_0.2.2.2.2.2.2.2.1
theorem dk_dX10_fault_0_8 : dz_C cX10_fault [(16, .aload_n 0, 1), (17, .getfield 13, 3), (20, .goto 4, 3), (23, .iconst (-1), 1), (24, .ireturn, 1)] := dk_dX10_fault_0.2.2.2.2.2.2.2.2
theorem dX10_fault_16 : decode cX10_fault 16 = .ok (.aload_n 0, 1) := dk_dX10_fault_0_8.1
theorem dX10_fault_17 : decode cX10_fault 17 = .ok (.getfield 13, 3) := dk_dX10_fault_0_8.2.1
theorem dX10_fault_20 : decode cX10_fault 20 = .ok (.goto 4, 3) := dk_dX10_fault_0_8.2.2.1
theorem dX10_fault_23 : decode cX10_fault 23 = .ok (.iconst (-1), 1) := dk_dX10_fault_0_8.2.2.2.1
theorem dX10_fault_24 : decode cX10_fault 24 = .ok (.ireturn, 1) := dk_dX10_fault_0_8.2.2.2.2.1
theorem dk_dX10_feed_0 : dz_C cX10_feed [(0, .aload_n 0, 1), (1, .getfield 276, 3), (4, .bipush 20, 2), (6, .iadd, 1), (7, .sipush 1600, 3), (10, .if_icmp .le 15, 3), (13, .aload_n 0, 1), (14, .getfield 17, 3), (17, .iconst 0, 1), (18, .dup2, 1), (19, .iaload, 1), (20, .iconst 1, 1), (21, .iadd, 1), (22, .iastore, 1), (23, .iconst (-1), 1), (24, .ireturn, 1)] := dz_of (by decide +kernel)
theorem dX10_feed_0 : decode cX10_feed 0 = .ok (.aload_n 0, 1) := dk_dX10_feed_0.1
theorem dX10_feed_1 : decode cX10_feed 1 = .ok (.getfield 276, 3) := dk_dX10_feed_0.2.1
theorem dX10_feed_4 : decode cX10_feed 4 = .ok (.bipush 20, 2) := dk_dX10_feed_0.2.2.1
theorem dX10_feed_6 : decode cX10_feed 6 = .ok (.iadd, 1) := dk_dX10_feed_0.2.2.2.1
theorem dX10_feed_7 : decode cX10_feed 7 = .ok (.sipush 1600, 3) := dk_dX10_feed_0.2.2.2.2.1
theorem dX10_feed_10 : decode cX10_feed 10 = .ok (.if_icmp .le 15, 3) := dk_dX10_feed_0.2.2.2.2.2.1
theorem dX10_feed_13 : decode cX10_feed 13 = .ok (.aload_n 0, 1) := dk_dX10_feed_0.2.2.2.2.2.2.1
theorem dX10_feed_14 : decode cX10_feed 14 = .ok (.getfield 17, 3) := dk_dX10_feed_0.2.2.2.2.2.2.2.1
theorem dk_dX10_feed_0_8 : dz_C cX10_feed [(17, .iconst 0, 1), (18, .dup2, 1), (19, .iaload, 1), (20, .iconst 1, 1), (21, .iadd, 1), (22, .iastore, 1), (23, .iconst (-1), 1), (24, .ireturn, 1)] := dk_dX10_feed_0.2.2.2.2.2.2.2.2
theorem dX10_feed_17 : decode cX10_feed 17 = .ok (.iconst 0, 1) := dk_dX10_feed_0_8.1
theorem dX10_feed_18 : decode cX10_feed 18 = .ok (.dup2, 1) := dk_dX10_feed_0_8.2.1
theorem dX10_feed_19 : decode cX10_feed 19 = .ok (.iaload, 1) := dk_dX10_feed_0_8.2.2.1
theorem dX10_feed_20 : decode cX10_feed 20 = .ok (.iconst 1, 1) := dk_dX10_feed_0_8.2.2.2.1
theorem dX10_feed_21 : decode cX10_feed 21 = .ok (.iadd, 1) := dk_dX10_feed_0_8.2.2.2.2.1
theorem dX10_feed_22 : decode cX10_feed 22 = .ok (.iastore, 1) := dk_dX10_feed_0_8.2.2.2.2.2.1
theorem dX10_feed_23 : decode cX10_feed 23 = .ok (.iconst (-1), 1) := dk_dX10_feed_0_8.2.2.2.2.2.2.1
theorem dX10_feed_24 : decode cX10_feed 24 = .ok (.ireturn, 1) := dk_dX10_feed_0_8.2.2.2.2.2.2.2.1
theorem dk_dX10_feed_25 : dz_C cX10_feed [(25, .iconst 0, 1), (26, .istore 6, 2), (28, .iload 6, 2), (30, .bipush 20, 2), (32, .if_icmp .ge 92, 3), (35, .iload 6, 2), (37, .iconst 4, 1), (38, .if_icmp .ge 7, 3), (41, .iload_n 1, 1), (42, .goto 39, 3), (45, .iload 6, 2), (47, .bipush 8, 2), (49, .if_icmp .ge 7, 3), (52, .iload_n 2, 1), (53, .goto 28, 3), (56, .iload 6, 2)] := dz_of (by decide +kernel)
theorem dX10_feed_25 : decode cX10_feed 25 = .ok (.iconst 0, 1) := dk_dX10_feed_25.1
theorem dX10_feed_26 : decode cX10_feed 26 = .ok (.istore 6, 2) := dk_dX10_feed_25.2.1
theorem dX10_feed_28 : decode cX10_feed 28 = .ok (.iload 6, 2) := dk_dX10_feed_25.2.2.1
theorem dX10_feed_30 : decode cX10_feed 30 = .ok (.bipush 20, 2) := dk_dX10_feed_25.2.2.2.1
theorem dX10_feed_32 : decode cX10_feed 32 = .ok (.if_icmp .ge 92, 3) := dk_dX10_feed_25.2.2.2.2.1
theorem dX10_feed_35 : decode cX10_feed 35 = .ok (.iload 6, 2) := dk_dX10_feed_25.2.2.2.2.2.1
theorem dX10_feed_37 : decode cX10_feed 37 = .ok (.iconst 4, 1) := dk_dX10_feed_25.2.2.2.2.2.2.1
theorem dX10_feed_38 : decode cX10_feed 38 = .ok (.if_icmp .ge 7, 3) := dk_dX10_feed_25.2.2.2.2.2.2.2.1
theorem dk_dX10_feed_25_8 : dz_C cX10_feed [(41, .iload_n 1, 1), (42, .goto 39, 3), (45, .iload 6, 2), (47, .bipush 8, 2), (49, .if_icmp .ge 7, 3), (52, .iload_n 2, 1), (53, .goto 28, 3), (56, .iload 6, 2)] := dk_dX10_feed_25.2.2.2.2.2.2.2.2
theorem dX10_feed_41 : decode cX10_feed 41 = .ok (.iload_n 1, 1) := dk_dX10_feed_25_8.1
theorem dX10_feed_42 : decode cX10_feed 42 = .ok (.goto 39, 3) := dk_dX10_feed_25_8.2.1
theorem dX10_feed_45 : decode cX10_feed 45 = .ok (.iload 6, 2) := dk_dX10_feed_25_8.2.2.1
theorem dX10_feed_47 : decode cX10_feed 47 = .ok (.bipush 8, 2) := dk_dX10_feed_25_8.2.2.2.1
theorem dX10_feed_49 : decode cX10_feed 49 = .ok (.if_icmp .ge 7, 3) := dk_dX10_feed_25_8.2.2.2.2.1
theorem dX10_feed_52 : decode cX10_feed 52 = .ok (.iload_n 2, 1) := dk_dX10_feed_25_8.2.2.2.2.2.1
theorem dX10_feed_53 : decode cX10_feed 53 = .ok (.goto 28, 3) := dk_dX10_feed_25_8.2.2.2.2.2.2.1
theorem dX10_feed_56 : decode cX10_feed 56 = .ok (.iload 6, 2) := dk_dX10_feed_25_8.2.2.2.2.2.2.2.1
theorem dk_dX10_feed_58 : dz_C cX10_feed [(58, .bipush 12, 2), (60, .if_icmp .ge 7, 3), (63, .iload_n 3, 1), (64, .goto 17, 3), (67, .iload 6, 2), (69, .bipush 16, 2), (71, .if_icmp .ge 8, 3), (74, .iload 4, 2), (76, .goto 5, 3), (79, .iload 5, 2), (81, .istore 7, 2), (83, .aload_n 0, 1), (84, .getfield 7, 3), (87, .aload_n 0, 1), (88, .getfield 276, 3), (91, .iload 7, 2)] := dz_of (by decide +kernel)
theorem dX10_feed_58 : decode cX10_feed 58 = .ok (.bipush 12, 2) := dk_dX10_feed_58.1
theorem dX10_feed_60 : decode cX10_feed 60 = .ok (.if_icmp .ge 7, 3) := dk_dX10_feed_58.2.1
theorem dX10_feed_63 : decode cX10_feed 63 = .ok (.iload_n 3, 1) := dk_dX10_feed_58.2.2.1
theorem dX10_feed_64 : decode cX10_feed 64 = .ok (.goto 17, 3) := dk_dX10_feed_58.2.2.2.1
theorem dX10_feed_67 : decode cX10_feed 67 = .ok (.iload 6, 2) := dk_dX10_feed_58.2.2.2.2.1
theorem dX10_feed_69 : decode cX10_feed 69 = .ok (.bipush 16, 2) := dk_dX10_feed_58.2.2.2.2.2.1
theorem dX10_feed_71 : decode cX10_feed 71 = .ok (.if_icmp .ge 8, 3) := dk_dX10_feed_58.2.2.2.2.2.2.1
theorem dX10_feed_74 : decode cX10_feed 74 = .ok (.iload 4, 2) := dk_dX10_feed_58.2.2.2.2.2.2.2.1
theorem dk_dX10_feed_58_8 : dz_C cX10_feed [(76, .goto 5, 3), (79, .iload 5, 2), (81, .istore 7, 2), (83, .aload_n 0, 1), (84, .getfield 7, 3), (87, .aload_n 0, 1), (88, .getfield 276, 3), (91, .iload 7, 2)] := dk_dX10_feed_58.2.2.2.2.2.2.2.2
theorem dX10_feed_76 : decode cX10_feed 76 = .ok (.goto 5, 3) := dk_dX10_feed_58_8.1
theorem dX10_feed_79 : decode cX10_feed 79 = .ok (.iload 5, 2) := dk_dX10_feed_58_8.2.1
theorem dX10_feed_81 : decode cX10_feed 81 = .ok (.istore 7, 2) := dk_dX10_feed_58_8.2.2.1
theorem dX10_feed_83 : decode cX10_feed 83 = .ok (.aload_n 0, 1) := dk_dX10_feed_58_8.2.2.2.1
theorem dX10_feed_84 : decode cX10_feed 84 = .ok (.getfield 7, 3) := dk_dX10_feed_58_8.2.2.2.2.1
theorem dX10_feed_87 : decode cX10_feed 87 = .ok (.aload_n 0, 1) := dk_dX10_feed_58_8.2.2.2.2.2.1
theorem dX10_feed_88 : decode cX10_feed 88 = .ok (.getfield 276, 3) := dk_dX10_feed_58_8.2.2.2.2.2.2.1
theorem dX10_feed_91 : decode cX10_feed 91 = .ok (.iload 7, 2) := dk_dX10_feed_58_8.2.2.2.2.2.2.2.1
theorem dk_dX10_feed_93 : dz_C cX10_feed [(93, .bipush 8, 2), (95, .iconst 3, 1), (96, .iload 6, 2), (98, .iconst 4, 1), (99, .irem, 1), (100, .isub, 1), (101, .imul, 1), (102, .ishr, 1), (103, .sipush 255, 3), (106, .iand, 1), (107, .iastore, 1), (108, .aload_n 0, 1), (109, .dup, 1), (110, .getfield 276, 3), (113, .iconst 1, 1), (114, .iadd, 1)] := dz_of (by decide +kernel)
theorem dX10_feed_93 : decode cX10_feed 93 = .ok (.bipush 8, 2) := dk_dX10_feed_93.1
theorem dX10_feed_95 : decode cX10_feed 95 = .ok (.iconst 3, 1) := dk_dX10_feed_93.2.1
theorem dX10_feed_96 : decode cX10_feed 96 = .ok (.iload 6, 2) := dk_dX10_feed_93.2.2.1
theorem dX10_feed_98 : decode cX10_feed 98 = .ok (.iconst 4, 1) := dk_dX10_feed_93.2.2.2.1
theorem dX10_feed_99 : decode cX10_feed 99 = .ok (.irem, 1) := dk_dX10_feed_93.2.2.2.2.1
theorem dX10_feed_100 : decode cX10_feed 100 = .ok (.isub, 1) := dk_dX10_feed_93.2.2.2.2.2.1
theorem dX10_feed_101 : decode cX10_feed 101 = .ok (.imul, 1) := dk_dX10_feed_93.2.2.2.2.2.2.1
theorem dX10_feed_102 : decode cX10_feed 102 = .ok (.ishr, 1) := dk_dX10_feed_93.2.2.2.2.2.2.2.1
theorem dk_dX10_feed_93_8 : dz_C cX10_feed [(103, .sipush 255, 3), (106, .iand, 1), (107, .iastore, 1), (108, .aload_n 0, 1), (109, .dup, 1), (110, .getfield 276, 3), (113, .iconst 1, 1), (114, .iadd, 1)] := dk_dX10_feed_93.2.2.2.2.2.2.2.2
theorem dX10_feed_103 : decode cX10_feed 103 = .ok (.sipush 255, 3) := dk_dX10_feed_93_8.1
theorem dX10_feed_106 : decode cX10_feed 106 = .ok (.iand, 1) := dk_dX10_feed_93_8.2.1
theorem dX10_feed_107 : decode cX10_feed 107 = .ok (.iastore, 1) := dk_dX10_feed_93_8.2.2.1
theorem dX10_feed_108 : decode cX10_feed 108 = .ok (.aload_n 0, 1) := dk_dX10_feed_93_8.2.2.2.1
theorem dX10_feed_109 : decode cX10_feed 109 = .ok (.dup, 1) := dk_dX10_feed_93_8.2.2.2.2.1
theorem dX10_feed_110 : decode cX10_feed 110 = .ok (.getfield 276, 3) := dk_dX10_feed_93_8.2.2.2.2.2.1
theorem dX10_feed_113 : decode cX10_feed 113 = .ok (.iconst 1, 1) := dk_dX10_feed_93_8.2.2.2.2.2.2.1
theorem dX10_feed_114 : decode cX10_feed 114 = .ok (.iadd, 1) := dk_dX10_feed_93_8.2.2.2.2.2.2.2.1
theorem dk_dX10_feed_115 : dz_C cX10_feed [(115, .putfield 276, 3), (118, .iinc 6 1, 3), (121, .goto (-93), 3), (124, .aload_n 0, 1), (125, .getfield 276, 3), (128, .ireturn, 1)] := dz_of (by decide +kernel)
theorem dX10_feed_115 : decode cX10_feed 115 = .ok (.putfield 276, 3) := dk_dX10_feed_115.1
theorem dX10_feed_118 : decode cX10_feed 118 = .ok (.iinc 6 1, 3) := dk_dX10_feed_115.2.1
theorem dX10_feed_121 : decode cX10_feed 121 = .ok (.goto (-93), 3) := dk_dX10_feed_115.2.2.1
theorem dX10_feed_124 : decode cX10_feed 124 = .ok (.aload_n 0, 1) := dk_dX10_feed_115.2.2.2.1
theorem dX10_feed_125 : decode cX10_feed 125 = .ok (.getfield 276, 3) := dk_dX10_feed_115.2.2.2.2.1
theorem dX10_feed_128 : decode cX10_feed 128 = .ok (.ireturn, 1) := dk_dX10_feed_115.2.2.2.2.2.1
theorem dk_dX10_fits_0 : dz_C cX10_fits [(0, .aload_n 0, 1), (1, .getfield 417, 3), (4, .ifCond .eq 15, 3), (7, .iload_n 1, 1), (8, .i2l, 1), (9, .lconst 0, 1), (10, .ldc2_w 546, 3), (13, .invokestatic 318, 3), (16, .ifCond .ne 5, 3), (19, .iconst (-1), 1), (20, .ireturn, 1), (21, .aload_n 0, 1), (22, .invokevirtual 582, 3), (25, .iload_n 1, 1), (26, .ifCond .ne 10, 3), (29, .aload_n 0, 1)] := dz_of (by decide +kernel)
theorem dX10_fits_0 : decode cX10_fits 0 = .ok (.aload_n 0, 1) := dk_dX10_fits_0.1
theorem dX10_fits_1 : decode cX10_fits 1 = .ok (.getfield 417, 3) := dk_dX10_fits_0.2.1
theorem dX10_fits_4 : decode cX10_fits 4 = .ok (.ifCond .eq 15, 3) := dk_dX10_fits_0.2.2.1
theorem dX10_fits_7 : decode cX10_fits 7 = .ok (.iload_n 1, 1) := dk_dX10_fits_0.2.2.2.1
theorem dX10_fits_8 : decode cX10_fits 8 = .ok (.i2l, 1) := dk_dX10_fits_0.2.2.2.2.1
theorem dX10_fits_9 : decode cX10_fits 9 = .ok (.lconst 0, 1) := dk_dX10_fits_0.2.2.2.2.2.1
theorem dX10_fits_10 : decode cX10_fits 10 = .ok (.ldc2_w 546, 3) := dk_dX10_fits_0.2.2.2.2.2.2.1
theorem dX10_fits_13 : decode cX10_fits 13 = .ok (.invokestatic 318, 3) := dk_dX10_fits_0.2.2.2.2.2.2.2.1
theorem dk_dX10_fits_0_8 : dz_C cX10_fits [(16, .ifCond .ne 5, 3), (19, .iconst (-1), 1), (20, .ireturn, 1), (21, .aload_n 0, 1), (22, .invokevirtual 582, 3), (25, .iload_n 1, 1), (26, .ifCond .ne 10, 3), (29, .aload_n 0, 1)] := dk_dX10_fits_0.2.2.2.2.2.2.2.2
theorem dX10_fits_16 : decode cX10_fits 16 = .ok (.ifCond .ne 5, 3) := dk_dX10_fits_0_8.1
theorem dX10_fits_19 : decode cX10_fits 19 = .ok (.iconst (-1), 1) := dk_dX10_fits_0_8.2.1
theorem dX10_fits_20 : decode cX10_fits 20 = .ok (.ireturn, 1) := dk_dX10_fits_0_8.2.2.1
theorem dX10_fits_21 : decode cX10_fits 21 = .ok (.aload_n 0, 1) := dk_dX10_fits_0_8.2.2.2.1
theorem dX10_fits_22 : decode cX10_fits 22 = .ok (.invokevirtual 582, 3) := dk_dX10_fits_0_8.2.2.2.2.1
theorem dX10_fits_25 : decode cX10_fits 25 = .ok (.iload_n 1, 1) := dk_dX10_fits_0_8.2.2.2.2.2.1
theorem dX10_fits_26 : decode cX10_fits 26 = .ok (.ifCond .ne 10, 3) := dk_dX10_fits_0_8.2.2.2.2.2.2.1
theorem dX10_fits_29 : decode cX10_fits 29 = .ok (.aload_n 0, 1) := dk_dX10_fits_0_8.2.2.2.2.2.2.2.1
theorem dk_dX10_fits_30 : dz_C cX10_fits [(30, .getfield 570, 3), (33, .goto 19, 3), (36, .iload_n 1, 1), (37, .iconst 1, 1), (38, .if_icmp .ne 10, 3), (41, .aload_n 0, 1), (42, .getfield 573, 3), (45, .goto 7, 3), (48, .aload_n 0, 1), (49, .getfield 576, 3), (52, .ireturn, 1)] := dz_of (by decide +kernel)
theorem dX10_fits_30 : decode cX10_fits 30 = .ok (.getfield 570, 3) := dk_dX10_fits_30.1
theorem dX10_fits_33 : decode cX10_fits 33 = .ok (.goto 19, 3) := dk_dX10_fits_30.2.1
theorem dX10_fits_36 : decode cX10_fits 36 = .ok (.iload_n 1, 1) := dk_dX10_fits_30.2.2.1
theorem dX10_fits_37 : decode cX10_fits 37 = .ok (.iconst 1, 1) := dk_dX10_fits_30.2.2.2.1
theorem dX10_fits_38 : decode cX10_fits 38 = .ok (.if_icmp .ne 10, 3) := dk_dX10_fits_30.2.2.2.2.1
theorem dX10_fits_41 : decode cX10_fits 41 = .ok (.aload_n 0, 1) := dk_dX10_fits_30.2.2.2.2.2.1
theorem dX10_fits_42 : decode cX10_fits 42 = .ok (.getfield 573, 3) := dk_dX10_fits_30.2.2.2.2.2.2.1
theorem dX10_fits_45 : decode cX10_fits 45 = .ok (.goto 7, 3) := dk_dX10_fits_30.2.2.2.2.2.2.2.1
theorem dk_dX10_fits_30_8 : dz_C cX10_fits [(48, .aload_n 0, 1), (49, .getfield 576, 3), (52, .ireturn, 1)] := dk_dX10_fits_30.2.2.2.2.2.2.2.2
theorem dX10_fits_48 : decode cX10_fits 48 = .ok (.aload_n 0, 1) := dk_dX10_fits_30_8.1
theorem dX10_fits_49 : decode cX10_fits 49 = .ok (.getfield 576, 3) := dk_dX10_fits_30_8.2.1
theorem dX10_fits_52 : decode cX10_fits 52 = .ok (.ireturn, 1) := dk_dX10_fits_30_8.2.2.1
theorem dk_dX10_forNobody_0 : dz_C cX10_forNobody [(0, .iconst 0, 1), (1, .istore_n 1, 1), (2, .iconst 1, 1), (3, .istore_n 2, 1), (4, .iconst 0, 1), (5, .istore_n 3, 1), (6, .iload_n 3, 1), (7, .sipush 300, 3), (10, .if_icmp .ge 84, 3), (13, .aload_n 0, 1), (14, .getfield 152, 3), (17, .iload_n 3, 1), (18, .baload, 1), (19, .ifCond .ne 6, 3), (22, .goto 66, 3), (25, .iload_n 3, 1)] := dz_of (by decide +kernel)
theorem dX10_forNobody_0 : decode cX10_forNobody 0 = .ok (.iconst 0, 1) := dk_dX10_forNobody_0.1
theorem dX10_forNobody_1 : decode cX10_forNobody 1 = .ok (.istore_n 1, 1) := dk_dX10_forNobody_0.2.1
theorem dX10_forNobody_2 : decode cX10_forNobody 2 = .ok (.iconst 1, 1) := dk_dX10_forNobody_0.2.2.1
theorem dX10_forNobody_3 : decode cX10_forNobody 3 = .ok (.istore_n 2, 1) := dk_dX10_forNobody_0.2.2.2.1
theorem dX10_forNobody_4 : decode cX10_forNobody 4 = .ok (.iconst 0, 1) := dk_dX10_forNobody_0.2.2.2.2.1
theorem dX10_forNobody_5 : decode cX10_forNobody 5 = .ok (.istore_n 3, 1) := dk_dX10_forNobody_0.2.2.2.2.2.1
theorem dX10_forNobody_6 : decode cX10_forNobody 6 = .ok (.iload_n 3, 1) := dk_dX10_forNobody_0.2.2.2.2.2.2.1
theorem dX10_forNobody_7 : decode cX10_forNobody 7 = .ok (.sipush 300, 3) := dk_dX10_forNobody_0.2.2.2.2.2.2.2.1
theorem dk_dX10_forNobody_0_8 : dz_C cX10_forNobody [(10, .if_icmp .ge 84, 3), (13, .aload_n 0, 1), (14, .getfield 152, 3), (17, .iload_n 3, 1), (18, .baload, 1), (19, .ifCond .ne 6, 3), (22, .goto 66, 3), (25, .iload_n 3, 1)] := dk_dX10_forNobody_0.2.2.2.2.2.2.2.2
theorem dX10_forNobody_10 : decode cX10_forNobody 10 = .ok (.if_icmp .ge 84, 3) := dk_dX10_forNobody_0_8.1
theorem dX10_forNobody_13 : decode cX10_forNobody 13 = .ok (.aload_n 0, 1) := dk_dX10_forNobody_0_8.2.1
theorem dX10_forNobody_14 : decode cX10_forNobody 14 = .ok (.getfield 152, 3) := dk_dX10_forNobody_0_8.2.2.1
theorem dX10_forNobody_17 : decode cX10_forNobody 17 = .ok (.iload_n 3, 1) := dk_dX10_forNobody_0_8.2.2.2.1
theorem dX10_forNobody_18 : decode cX10_forNobody 18 = .ok (.baload, 1) := dk_dX10_forNobody_0_8.2.2.2.2.1
theorem dX10_forNobody_19 : decode cX10_forNobody 19 = .ok (.ifCond .ne 6, 3) := dk_dX10_forNobody_0_8.2.2.2.2.2.1
theorem dX10_forNobody_22 : decode cX10_forNobody 22 = .ok (.goto 66, 3) := dk_dX10_forNobody_0_8.2.2.2.2.2.2.1
theorem dX10_forNobody_25 : decode cX10_forNobody 25 = .ok (.iload_n 3, 1) := dk_dX10_forNobody_0_8.2.2.2.2.2.2.2.1
theorem dk_dX10_forNobody_26 : dz_C cX10_forNobody [(26, .ifCond .eq 14, 3), (29, .aload_n 0, 1), (30, .getfield 152, 3), (33, .iload_n 3, 1), (34, .iconst 1, 1), (35, .isub, 1), (36, .baload, 1), (37, .ifCond .ne 5, 3), (40, .iconst 0, 1), (41, .istore_n 2, 1), (42, .iload_n 2, 1), (43, .ifCond .ne 12, 3), (46, .aload_n 0, 1), (47, .getfield 173, 3), (50, .iload_n 3, 1), (51, .baload, 1)] := dz_of (by decide +kernel)
theorem dX10_forNobody_26 : decode cX10_forNobody 26 = .ok (.ifCond .eq 14, 3) := dk_dX10_forNobody_26.1
theorem dX10_forNobody_29 : decode cX10_forNobody 29 = .ok (.aload_n 0, 1) := dk_dX10_forNobody_26.2.1
theorem dX10_forNobody_30 : decode cX10_forNobody 30 = .ok (.getfield 152, 3) := dk_dX10_forNobody_26.2.2.1
theorem dX10_forNobody_33 : decode cX10_forNobody 33 = .ok (.iload_n 3, 1) := dk_dX10_forNobody_26.2.2.2.1
theorem dX10_forNobody_34 : decode cX10_forNobody 34 = .ok (.iconst 1, 1) := dk_dX10_forNobody_26.2.2.2.2.1
theorem dX10_forNobody_35 : decode cX10_forNobody 35 = .ok (.isub, 1) := dk_dX10_forNobody_26.2.2.2.2.2.1
theorem dX10_forNobody_36 : decode cX10_forNobody 36 = .ok (.baload, 1) := dk_dX10_forNobody_26.2.2.2.2.2.2.1
theorem dX10_forNobody_37 : decode cX10_forNobody 37 = .ok (.ifCond .ne 5, 3) := dk_dX10_forNobody_26.2.2.2.2.2.2.2.1
theorem dk_dX10_forNobody_26_8 : dz_C cX10_forNobody [(40, .iconst 0, 1), (41, .istore_n 2, 1), (42, .iload_n 2, 1), (43, .ifCond .ne 12, 3), (46, .aload_n 0, 1), (47, .getfield 173, 3), (50, .iload_n 3, 1), (51, .baload, 1)] := dk_dX10_forNobody_26.2.2.2.2.2.2.2.2
theorem dX10_forNobody_40 : decode cX10_forNobody 40 = .ok (.iconst 0, 1) := dk_dX10_forNobody_26_8.1
theorem dX10_forNobody_41 : decode cX10_forNobody 41 = .ok (.istore_n 2, 1) := dk_dX10_forNobody_26_8.2.1
theorem dX10_forNobody_42 : decode cX10_forNobody 42 = .ok (.iload_n 2, 1) := dk_dX10_forNobody_26_8.2.2.1
theorem dX10_forNobody_43 : decode cX10_forNobody 43 = .ok (.ifCond .ne 12, 3) := dk_dX10_forNobody_26_8.2.2.2.1
theorem dX10_forNobody_46 : decode cX10_forNobody 46 = .ok (.aload_n 0, 1) := dk_dX10_forNobody_26_8.2.2.2.2.1
theorem dX10_forNobody_47 : decode cX10_forNobody 47 = .ok (.getfield 173, 3) := dk_dX10_forNobody_26_8.2.2.2.2.2.1
theorem dX10_forNobody_50 : decode cX10_forNobody 50 = .ok (.iload_n 3, 1) := dk_dX10_forNobody_26_8.2.2.2.2.2.2.1
theorem dX10_forNobody_51 : decode cX10_forNobody 51 = .ok (.baload, 1) := dk_dX10_forNobody_26_8.2.2.2.2.2.2.2.1
theorem dk_dX10_forNobody_52 : dz_C cX10_forNobody [(52, .ifCond .eq 7, 3), (55, .iconst 1, 1), (56, .goto 4, 3), (59, .iconst 0, 1), (60, .istore_n 2, 1), (61, .iload_n 2, 1), (62, .ifCond .ne 26, 3), (65, .iload_n 3, 1), (66, .iconst 1, 1), (67, .iadd, 1), (68, .sipush 300, 3), (71, .if_icmp .eq 14, 3), (74, .aload_n 0, 1), (75, .getfield 152, 3), (78, .iload_n 3, 1), (79, .iconst 1, 1)] := dz_of (by decide +kernel)
theorem dX10_forNobody_52 : decode cX10_forNobody 52 = .ok (.ifCond .eq 7, 3) := dk_dX10_forNobody_52.1
theorem dX10_forNobody_55 : decode cX10_forNobody 55 = .ok (.iconst 1, 1) := dk_dX10_forNobody_52.2.1
theorem dX10_forNobody_56 : decode cX10_forNobody 56 = .ok (.goto 4, 3) := dk_dX10_forNobody_52.2.2.1
theorem dX10_forNobody_59 : decode cX10_forNobody 59 = .ok (.iconst 0, 1) := dk_dX10_forNobody_52.2.2.2.1
theorem dX10_forNobody_60 : decode cX10_forNobody 60 = .ok (.istore_n 2, 1) := dk_dX10_forNobody_52.2.2.2.2.1
theorem dX10_forNobody_61 : decode cX10_forNobody 61 = .ok (.iload_n 2, 1) := dk_dX10_forNobody_52.2.2.2.2.2.1
theorem dX10_forNobody_62 : decode cX10_forNobody 62 = .ok (.ifCond .ne 26, 3) := dk_dX10_forNobody_52.2.2.2.2.2.2.1
theorem dX10_forNobody_65 : decode cX10_forNobody 65 = .ok (.iload_n 3, 1) := dk_dX10_forNobody_52.2.2.2.2.2.2.2.1
theorem dk_dX10_forNobody_52_8 : dz_C cX10_forNobody [(66, .iconst 1, 1), (67, .iadd, 1), (68, .sipush 300, 3), (71, .if_icmp .eq 14, 3), (74, .aload_n 0, 1), (75, .getfield 152, 3), (78, .iload_n 3, 1), (79, .iconst 1, 1)] := dk_dX10_forNobody_52.2.2.2.2.2.2.2.2
theorem dX10_forNobody_66 : decode cX10_forNobody 66 = .ok (.iconst 1, 1) := dk_dX10_forNobody_52_8.1
theorem dX10_forNobody_67 : decode cX10_forNobody 67 = .ok (.iadd, 1) := dk_dX10_forNobody_52_8.2.1
theorem dX10_forNobody_68 : decode cX10_forNobody 68 = .ok (.sipush 300, 3) := dk_dX10_forNobody_52_8.2.2.1
theorem dX10_forNobody_71 : decode cX10_forNobody 71 = .ok (.if_icmp .eq 14, 3) := dk_dX10_forNobody_52_8.2.2.2.1
theorem dX10_forNobody_74 : decode cX10_forNobody 74 = .ok (.aload_n 0, 1) := dk_dX10_forNobody_52_8.2.2.2.2.1
theorem dX10_forNobody_75 : decode cX10_forNobody 75 = .ok (.getfield 152, 3) := dk_dX10_forNobody_52_8.2.2.2.2.2.1
theorem dX10_forNobody_78 : decode cX10_forNobody 78 = .ok (.iload_n 3, 1) := dk_dX10_forNobody_52_8.2.2.2.2.2.2.1
theorem dX10_forNobody_79 : decode cX10_forNobody 79 = .ok (.iconst 1, 1) := dk_dX10_forNobody_52_8.2.2.2.2.2.2.2.1
theorem dk_dX10_forNobody_80 : dz_C cX10_forNobody [(80, .iadd, 1), (81, .baload, 1), (82, .ifCond .ne 6, 3), (85, .iinc 1 1, 3), (88, .iinc 3 1, 3), (91, .goto (-85), 3), (94, .iload_n 1, 1), (95, .ireturn, 1)] := dz_of (by decide +kernel)
theorem dX10_forNobody_80 : decode cX10_forNobody 80 = .ok (.iadd, 1) := dk_dX10_forNobody_80.1
theorem dX10_forNobody_81 : decode cX10_forNobody 81 = .ok (.baload, 1) := dk_dX10_forNobody_80.2.1
theorem dX10_forNobody_82 : decode cX10_forNobody 82 = .ok (.ifCond .ne 6, 3) := dk_dX10_forNobody_80.2.2.1
theorem dX10_forNobody_85 : decode cX10_forNobody 85 = .ok (.iinc 1 1, 3) := dk_dX10_forNobody_80.2.2.2.1
theorem dX10_forNobody_88 : decode cX10_forNobody 88 = .ok (.iinc 3 1, 3) := dk_dX10_forNobody_80.2.2.2.2.1
theorem dX10_forNobody_91 : decode cX10_forNobody 91 = .ok (.goto (-85), 3) := dk_dX10_forNobody_80.2.2.2.2.2.1
theorem dX10_forNobody_94 : decode cX10_forNobody 94 = .ok (.iload_n 1, 1) := dk_dX10_forNobody_80.2.2.2.2.2.2.1
theorem dX10_forNobody_95 : decode cX10_forNobody 95 = .ok (.ireturn, 1) := dk_dX10_forNobody_80.2.2.2.2.2.2.2.1
theorem dk_dX10_green_0 : dz_C cX10_green [(0, .aload_n 0, 1), (1, .getfield 417, 3), (4, .ifCond .eq 23, 3), (7, .aload_n 0, 1), (8, .iload_n 1, 1), (9, .bipush 60, 2), (11, .invokevirtual 548, 3), (14, .ifCond .eq 13, 3), (17, .aload_n 0, 1), (18, .getfield 139, 3), (21, .iconst 2, 1), (22, .iaload, 1), (23, .iload_n 1, 1), (24, .if_icmp .ne 8, 3), (27, .aload_n 0, 1), (28, .invokevirtual 591, 3)] := dz_of (by decide +kernel)
theorem dX10_green_0 : decode cX10_green 0 = .ok (.aload_n 0, 1) := dk_dX10_green_0.1
theorem dX10_green_1 : decode cX10_green 1 = .ok (.getfield 417, 3) := dk_dX10_green_0.2.1
theorem dX10_green_4 : decode cX10_green 4 = .ok (.ifCond .eq 23, 3) := dk_dX10_green_0.2.2.1
theorem dX10_green_7 : decode cX10_green 7 = .ok (.aload_n 0, 1) := dk_dX10_green_0.2.2.2.1
theorem dX10_green_8 : decode cX10_green 8 = .ok (.iload_n 1, 1) := dk_dX10_green_0.2.2.2.2.1
theorem dX10_green_9 : decode cX10_green 9 = .ok (.bipush 60, 2) := dk_dX10_green_0.2.2.2.2.2.1
theorem dX10_green_11 : decode cX10_green 11 = .ok (.invokevirtual 548, 3) := dk_dX10_green_0.2.2.2.2.2.2.1
theorem dX10_green_14 : decode cX10_green 14 = .ok (.ifCond .eq 13, 3) := dk_dX10_green_0.2.2.2.2.2.2.2.1
theorem dk_dX10_green_0_8 : dz_C cX10_green [(17, .aload_n 0, 1), (18, .getfield 139, 3), (21, .iconst 2, 1), (22, .iaload, 1), (23, .iload_n 1, 1), (24, .if_icmp .ne 8, 3), (27, .aload_n 0, 1), (28, .invokevirtual 591, 3)] := dk_dX10_green_0.2.2.2.2.2.2.2.2
theorem dX10_green_17 : decode cX10_green 17 = .ok (.aload_n 0, 1) := dk_dX10_green_0_8.1
theorem dX10_green_18 : decode cX10_green 18 = .ok (.getfield 139, 3) := dk_dX10_green_0_8.2.1
theorem dX10_green_21 : decode cX10_green 21 = .ok (.iconst 2, 1) := dk_dX10_green_0_8.2.2.1
theorem dX10_green_22 : decode cX10_green 22 = .ok (.iaload, 1) := dk_dX10_green_0_8.2.2.2.1
theorem dX10_green_23 : decode cX10_green 23 = .ok (.iload_n 1, 1) := dk_dX10_green_0_8.2.2.2.2.1
theorem dX10_green_24 : decode cX10_green 24 = .ok (.if_icmp .ne 8, 3) := dk_dX10_green_0_8.2.2.2.2.2.1
theorem dX10_green_27 : decode cX10_green 27 = .ok (.aload_n 0, 1) := dk_dX10_green_0_8.2.2.2.2.2.2.1
theorem dX10_green_28 : decode cX10_green 28 = .ok (.invokevirtual 591, 3) := dk_dX10_green_0_8.2.2.2.2.2.2.2.1
theorem dk_dX10_green_31 : dz_C cX10_green [(31, .ireturn, 1), (32, .aload_n 0, 1), (33, .invokevirtual 594, 3), (36, .aload_n 0, 1), (37, .getfield 139, 3), (40, .iconst 2, 1), (41, .iload_n 1, 1), (42, .iastore, 1), (43, .iconst 1, 1), (44, .ireturn, 1)] := dz_of (by decide +kernel)
theorem dX10_green_31 : decode cX10_green 31 = .ok (.ireturn, 1) := dk_dX10_green_31.1
theorem dX10_green_32 : decode cX10_green 32 = .ok (.aload_n 0, 1) := dk_dX10_green_31.2.1
theorem dX10_green_33 : decode cX10_green 33 = .ok (.invokevirtual 594, 3) := dk_dX10_green_31.2.2.1
theorem dX10_green_36 : decode cX10_green 36 = .ok (.aload_n 0, 1) := dk_dX10_green_31.2.2.2.1
theorem dX10_green_37 : decode cX10_green 37 = .ok (.getfield 139, 3) := dk_dX10_green_31.2.2.2.2.1
theorem dX10_green_40 : decode cX10_green 40 = .ok (.iconst 2, 1) := dk_dX10_green_31.2.2.2.2.2.1
theorem dX10_green_41 : decode cX10_green 41 = .ok (.iload_n 1, 1) := dk_dX10_green_31.2.2.2.2.2.2.1
theorem dX10_green_42 : decode cX10_green 42 = .ok (.iastore, 1) := dk_dX10_green_31.2.2.2.2.2.2.2.1
theorem dk_dX10_green_31_8 : dz_C cX10_green [(43, .iconst 1, 1), (44, .ireturn, 1)] := dk_dX10_green_31.2.2.2.2.2.2.2.2
theorem dX10_green_43 : decode cX10_green 43 = .ok (.iconst 1, 1) := dk_dX10_green_31_8.1
theorem dX10_green_44 : decode cX10_green 44 = .ok (.ireturn, 1) := dk_dX10_green_31_8.2.1
theorem dk_dX10_has_0 : dz_C cX10_has [(0, .iload_n 1, 1), (48, .aload_n 0, 1), (49, .getfield 118, 3), (52, .iconst 4, 1), (53, .iaload, 1), (54, .ireturn, 1), (55, .aload_n 0, 1), (56, .invokevirtual 430, 3), (59, .ireturn, 1), (60, .aload_n 0, 1), (61, .invokevirtual 433, 3), (64, .ireturn, 1), (65, .aload_n 0, 1), (66, .getfield 139, 3), (69, .iload_n 1, 1), (70, .iconst 3, 1)] := dz_of (by decide +kernel)
theorem dX10_has_0 : decode cX10_has 0 = .ok (.iload_n 1, 1) := dk_dX10_has_0.1
theorem dX10_has_48 : decode cX10_has 48 = .ok (.aload_n 0, 1) := dk_dX10_has_0.2.1
theorem dX10_has_49 : decode cX10_has 49 = .ok (.getfield 118, 3) := dk_dX10_has_0.2.2.1
theorem dX10_has_52 : decode cX10_has 52 = .ok (.iconst 4, 1) := dk_dX10_has_0.2.2.2.1
theorem dX10_has_53 : decode cX10_has 53 = .ok (.iaload, 1) := dk_dX10_has_0.2.2.2.2.1
theorem dX10_has_54 : decode cX10_has 54 = .ok (.ireturn, 1) := dk_dX10_has_0.2.2.2.2.2.1
theorem dX10_has_55 : decode cX10_has 55 = .ok (.aload_n 0, 1) := dk_dX10_has_0.2.2.2.2.2.2.1
theorem dX10_has_56 : decode cX10_has 56 = .ok (.invokevirtual 430, 3) := dk_dX10_has_0.2.2.2.2.2.2.2.1
theorem dk_dX10_has_0_8 : dz_C cX10_has [(59, .ireturn, 1), (60, .aload_n 0, 1), (61, .invokevirtual 433, 3), (64, .ireturn, 1), (65, .aload_n 0, 1), (66, .getfield 139, 3), (69, .iload_n 1, 1), (70, .iconst 3, 1)] := dk_dX10_has_0.2.2.2.2.2.2.2.2
theorem dX10_has_59 : decode cX10_has 59 = .ok (.ireturn, 1) := dk_dX10_has_0_8.1
theorem dX10_has_60 : decode cX10_has 60 = .ok (.aload_n 0, 1) := dk_dX10_has_0_8.2.1
theorem dX10_has_61 : decode cX10_has 61 = .ok (.invokevirtual 433, 3) := dk_dX10_has_0_8.2.2.1
theorem dX10_has_64 : decode cX10_has 64 = .ok (.ireturn, 1) := dk_dX10_has_0_8.2.2.2.1
theorem dX10_has_65 : decode cX10_has 65 = .ok (.aload_n 0, 1) := dk_dX10_has_0_8.2.2.2.2.1
theorem dX10_has_66 : decode cX10_has 66 = .ok (.getfield 139, 3) := dk_dX10_has_0_8.2.2.2.2.2.1
theorem dX10_has_69 : decode cX10_has 69 = .ok (.iload_n 1, 1) := dk_dX10_has_0_8.2.2.2.2.2.2.1
theorem dX10_has_70 : decode cX10_has 70 = .ok (.iconst 3, 1) := dk_dX10_has_0_8.2.2.2.2.2.2.2.1
theorem dX10_has_1 : decode cX10_has 1 = .ok (.tableswitch 83 0 7 #[47, 54, 59, 64, 64, 64, 73, 78], 47) := by decide +kernel
theorem dk_dX10_has_71 : dz_C cX10_has [(71, .isub, 1), (72, .iaload, 1), (73, .ireturn, 1), (74, .aload_n 0, 1), (75, .getfield 427, 3), (78, .ireturn, 1), (79, .aload_n 0, 1), (80, .getfield 424, 3), (83, .ireturn, 1), (84, .iconst (-1), 1), (85, .ireturn, 1)] := dz_of (by decide +kernel)
theorem dX10_has_71 : decode cX10_has 71 = .ok (.isub, 1) := dk_dX10_has_71.1
theorem dX10_has_72 : decode cX10_has 72 = .ok (.iaload, 1) := dk_dX10_has_71.2.1
theorem dX10_has_73 : decode cX10_has 73 = .ok (.ireturn, 1) := dk_dX10_has_71.2.2.1
theorem dX10_has_74 : decode cX10_has 74 = .ok (.aload_n 0, 1) := dk_dX10_has_71.2.2.2.1
theorem dX10_has_75 : decode cX10_has 75 = .ok (.getfield 427, 3) := dk_dX10_has_71.2.2.2.2.1
theorem dX10_has_78 : decode cX10_has 78 = .ok (.ireturn, 1) := dk_dX10_has_71.2.2.2.2.2.1
theorem dX10_has_79 : decode cX10_has 79 = .ok (.aload_n 0, 1) := dk_dX10_has_71.2.2.2.2.2.2.1
theorem dX10_has_80 : decode cX10_has 80 = .ok (.getfield 424, 3) := dk_dX10_has_71.2.2.2.2.2.2.2.1
theorem dk_dX10_has_71_8 : dz_C cX10_has [(83, .ireturn, 1), (84, .iconst (-1), 1), (85, .ireturn, 1)] := dk_dX10_has_71.2.2.2.2.2.2.2.2
theorem dX10_has_83 : decode cX10_has 83 = .ok (.ireturn, 1) := dk_dX10_has_71_8.1
theorem dX10_has_84 : decode cX10_has 84 = .ok (.iconst (-1), 1) := dk_dX10_has_71_8.2.1
theorem dX10_has_85 : decode cX10_has 85 = .ok (.ireturn, 1) := dk_dX10_has_71_8.2.2.1
theorem dk_dX10_hold_0 : dz_C cX10_hold [(0, .aload_n 0, 1), (1, .getfield 417, 3), (4, .ifCond .ne 5, 3), (7, .iconst (-1), 1), (8, .ireturn, 1), (9, .aload_n 0, 1), (10, .invokevirtual 501, 3), (13, .iconst 0, 1), (14, .istore_n 1, 1), (15, .iload_n 1, 1), (16, .iconst 3, 1), (17, .if_icmp .gt 66, 3), (20, .iconst 0, 1), (21, .istore_n 2, 1), (22, .iload_n 2, 1), (23, .iconst 1, 1)] := dz_of (by decide +kernel)
theorem dX10_hold_0 : decode cX10_hold 0 = .ok (.aload_n 0, 1) := dk_dX10_hold_0.1
theorem dX10_hold_1 : decode cX10_hold 1 = .ok (.getfield 417, 3) := dk_dX10_hold_0.2.1
theorem dX10_hold_4 : decode cX10_hold 4 = .ok (.ifCond .ne 5, 3) := dk_dX10_hold_0.2.2.1
theorem dX10_hold_7 : decode cX10_hold 7 = .ok (.iconst (-1), 1) := dk_dX10_hold_0.2.2.2.1
theorem dX10_hold_8 : decode cX10_hold 8 = .ok (.ireturn, 1) := dk_dX10_hold_0.2.2.2.2.1
theorem dX10_hold_9 : decode cX10_hold 9 = .ok (.aload_n 0, 1) := dk_dX10_hold_0.2.2.2.2.2.1
theorem dX10_hold_10 : decode cX10_hold 10 = .ok (.invokevirtual 501, 3) := dk_dX10_hold_0.2.2.2.2.2.2.1
theorem dX10_hold_13 : decode cX10_hold 13 = .ok (.iconst 0, 1) := dk_dX10_hold_0.2.2.2.2.2.2.2.1
theorem dk_dX10_hold_0_8 : dz_C cX10_hold [(14, .istore_n 1, 1), (15, .iload_n 1, 1), (16, .iconst 3, 1), (17, .if_icmp .gt 66, 3), (20, .iconst 0, 1), (21, .istore_n 2, 1), (22, .iload_n 2, 1), (23, .iconst 1, 1)] := dk_dX10_hold_0.2.2.2.2.2.2.2.2
theorem dX10_hold_14 : decode cX10_hold 14 = .ok (.istore_n 1, 1) := dk_dX10_hold_0_8.1
theorem dX10_hold_15 : decode cX10_hold 15 = .ok (.iload_n 1, 1) := dk_dX10_hold_0_8.2.1
theorem dX10_hold_16 : decode cX10_hold 16 = .ok (.iconst 3, 1) := dk_dX10_hold_0_8.2.2.1
theorem dX10_hold_17 : decode cX10_hold 17 = .ok (.if_icmp .gt 66, 3) := dk_dX10_hold_0_8.2.2.2.1
theorem dX10_hold_20 : decode cX10_hold 20 = .ok (.iconst 0, 1) := dk_dX10_hold_0_8.2.2.2.2.1
theorem dX10_hold_21 : decode cX10_hold 21 = .ok (.istore_n 2, 1) := dk_dX10_hold_0_8.2.2.2.2.2.1
theorem dX10_hold_22 : decode cX10_hold 22 = .ok (.iload_n 2, 1) := dk_dX10_hold_0_8.2.2.2.2.2.2.1
theorem dX10_hold_23 : decode cX10_hold 23 = .ok (.iconst 1, 1) := dk_dX10_hold_0_8.2.2.2.2.2.2.2.1
theorem dk_dX10_hold_24 : dz_C cX10_hold [(24, .aload_n 0, 1), (25, .invokevirtual 433, 3), (28, .ishl, 1), (29, .if_icmp .ge 48, 3), (32, .iload_n 2, 1), (33, .invokestatic 551, 3), (36, .iload_n 1, 1), (37, .if_icmp .eq 6, 3), (40, .goto 31, 3), (43, .aload_n 0, 1), (44, .aload_n 0, 1), (45, .getfield 139, 3), (48, .iconst 1, 1), (49, .iaload, 1), (50, .aload_n 0, 1), (51, .getfield 139, 3)] := dz_of (by decide +kernel)
theorem dX10_hold_24 : decode cX10_hold 24 = .ok (.aload_n 0, 1) := dk_dX10_hold_24.1
theorem dX10_hold_25 : decode cX10_hold 25 = .ok (.invokevirtual 433, 3) := dk_dX10_hold_24.2.1
theorem dX10_hold_28 : decode cX10_hold 28 = .ok (.ishl, 1) := dk_dX10_hold_24.2.2.1
theorem dX10_hold_29 : decode cX10_hold 29 = .ok (.if_icmp .ge 48, 3) := dk_dX10_hold_24.2.2.2.1
theorem dX10_hold_32 : decode cX10_hold 32 = .ok (.iload_n 2, 1) := dk_dX10_hold_24.2.2.2.2.1
theorem dX10_hold_33 : decode cX10_hold 33 = .ok (.invokestatic 551, 3) := dk_dX10_hold_24.2.2.2.2.2.1
theorem dX10_hold_36 : decode cX10_hold 36 = .ok (.iload_n 1, 1) := dk_dX10_hold_24.2.2.2.2.2.2.1
theorem dX10_hold_37 : decode cX10_hold 37 = .ok (.if_icmp .eq 6, 3) := dk_dX10_hold_24.2.2.2.2.2.2.2.1
theorem dk_dX10_hold_24_8 : dz_C cX10_hold [(40, .goto 31, 3), (43, .aload_n 0, 1), (44, .aload_n 0, 1), (45, .getfield 139, 3), (48, .iconst 1, 1), (49, .iaload, 1), (50, .aload_n 0, 1), (51, .getfield 139, 3)] := dk_dX10_hold_24.2.2.2.2.2.2.2.2
theorem dX10_hold_40 : decode cX10_hold 40 = .ok (.goto 31, 3) := dk_dX10_hold_24_8.1
theorem dX10_hold_43 : decode cX10_hold 43 = .ok (.aload_n 0, 1) := dk_dX10_hold_24_8.2.1
theorem dX10_hold_44 : decode cX10_hold 44 = .ok (.aload_n 0, 1) := dk_dX10_hold_24_8.2.2.1
theorem dX10_hold_45 : decode cX10_hold 45 = .ok (.getfield 139, 3) := dk_dX10_hold_24_8.2.2.2.1
theorem dX10_hold_48 : decode cX10_hold 48 = .ok (.iconst 1, 1) := dk_dX10_hold_24_8.2.2.2.2.1
theorem dX10_hold_49 : decode cX10_hold 49 = .ok (.iaload, 1) := dk_dX10_hold_24_8.2.2.2.2.2.1
theorem dX10_hold_50 : decode cX10_hold 50 = .ok (.aload_n 0, 1) := dk_dX10_hold_24_8.2.2.2.2.2.2.1
theorem dX10_hold_51 : decode cX10_hold 51 = .ok (.getfield 139, 3) := dk_dX10_hold_24_8.2.2.2.2.2.2.2.1
theorem dk_dX10_hold_54 : dz_C cX10_hold [(54, .iconst 2, 1), (55, .iaload, 1), (56, .iconst 0, 1), (57, .iload_n 2, 1), (58, .invokevirtual 504, 3), (61, .aload_n 0, 1), (62, .iconst 1, 1), (63, .invokevirtual 541, 3), (66, .ifCond .ne 5, 3), (69, .iload_n 2, 1), (70, .ireturn, 1), (71, .iinc 2 1, 3), (74, .goto (-52), 3), (77, .iinc 1 1, 3), (80, .goto (-65), 3), (83, .iconst (-1), 1)] := dz_of (by decide +kernel)
theorem dX10_hold_54 : decode cX10_hold 54 = .ok (.iconst 2, 1) := dk_dX10_hold_54.1
theorem dX10_hold_55 : decode cX10_hold 55 = .ok (.iaload, 1) := dk_dX10_hold_54.2.1
theorem dX10_hold_56 : decode cX10_hold 56 = .ok (.iconst 0, 1) := dk_dX10_hold_54.2.2.1
theorem dX10_hold_57 : decode cX10_hold 57 = .ok (.iload_n 2, 1) := dk_dX10_hold_54.2.2.2.1
theorem dX10_hold_58 : decode cX10_hold 58 = .ok (.invokevirtual 504, 3) := dk_dX10_hold_54.2.2.2.2.1
theorem dX10_hold_61 : decode cX10_hold 61 = .ok (.aload_n 0, 1) := dk_dX10_hold_54.2.2.2.2.2.1
theorem dX10_hold_62 : decode cX10_hold 62 = .ok (.iconst 1, 1) := dk_dX10_hold_54.2.2.2.2.2.2.1
theorem dX10_hold_63 : decode cX10_hold 63 = .ok (.invokevirtual 541, 3) := dk_dX10_hold_54.2.2.2.2.2.2.2.1
theorem dk_dX10_hold_54_8 : dz_C cX10_hold [(66, .ifCond .ne 5, 3), (69, .iload_n 2, 1), (70, .ireturn, 1), (71, .iinc 2 1, 3), (74, .goto (-52), 3), (77, .iinc 1 1, 3), (80, .goto (-65), 3), (83, .iconst (-1), 1)] := dk_dX10_hold_54.2.2.2.2.2.2.2.2
theorem dX10_hold_66 : decode cX10_hold 66 = .ok (.ifCond .ne 5, 3) := dk_dX10_hold_54_8.1
theorem dX10_hold_69 : decode cX10_hold 69 = .ok (.iload_n 2, 1) := dk_dX10_hold_54_8.2.1
theorem dX10_hold_70 : decode cX10_hold 70 = .ok (.ireturn, 1) := dk_dX10_hold_54_8.2.2.1
theorem dX10_hold_71 : decode cX10_hold 71 = .ok (.iinc 2 1, 3) := dk_dX10_hold_54_8.2.2.2.1
theorem dX10_hold_74 : decode cX10_hold 74 = .ok (.goto (-52), 3) := dk_dX10_hold_54_8.2.2.2.2.1
theorem dX10_hold_77 : decode cX10_hold 77 = .ok (.iinc 1 1, 3) := dk_dX10_hold_54_8.2.2.2.2.2.1
theorem dX10_hold_80 : decode cX10_hold 80 = .ok (.goto (-65), 3) := dk_dX10_hold_54_8.2.2.2.2.2.2.1
theorem dX10_hold_83 : decode cX10_hold 83 = .ok (.iconst (-1), 1) := dk_dX10_hold_54_8.2.2.2.2.2.2.2.1
theorem dk_dX10_hold_84 : dz_C cX10_hold [(84, .ireturn, 1)] := dz_of (by decide +kernel)
theorem dX10_hold_84 : decode cX10_hold 84 = .ok (.ireturn, 1) := dk_dX10_hold_84.1
theorem dk_dX10_image_0 : dz_C cX10_image [(0, .aload_n 0, 1), (1, .iconst 0, 1), (2, .putfield 699, 3), (5, .aload_n 0, 1), (6, .aload_n 0, 1), (7, .getfield 139, 3), (10, .iconst 0, 1), (11, .iaload, 1), (12, .sipush 256, 3), (15, .idiv, 1), (16, .invokevirtual 702, 3), (19, .aload_n 0, 1), (20, .aload_n 0, 1), (21, .getfield 139, 3), (24, .iconst 0, 1), (25, .iaload, 1)] := dz_of (by decide +kernel)
theorem dX10_image_0 : decode cX10_image 0 = .ok (.aload_n 0, 1) := dk_dX10_image_0.1
theorem dX10_image_1 : decode cX10_image 1 = .ok (.iconst 0, 1) := dk_dX10_image_0.2.1
theorem dX10_image_2 : decode cX10_image 2 = .ok (.putfield 699, 3) := dk_dX10_image_0.2.2.1
theorem dX10_image_5 : decode cX10_image 5 = .ok (.aload_n 0, 1) := dk_dX10_image_0.2.2.2.1
theorem dX10_image_6 : decode cX10_image 6 = .ok (.aload_n 0, 1) := dk_dX10_image_0.2.2.2.2.1
theorem dX10_image_7 : decode cX10_image 7 = .ok (.getfield 139, 3) := dk_dX10_image_0.2.2.2.2.2.1
theorem dX10_image_10 : decode cX10_image 10 = .ok (.iconst 0, 1) := dk_dX10_image_0.2.2.2.2.2.2.1
theorem dX10_image_11 : decode cX10_image 11 = .ok (.iaload, 1) := dk_dX10_image_0.2.2.2.2.2.2.2.1
theorem dk_dX10_image_0_8 : dz_C cX10_image [(12, .sipush 256, 3), (15, .idiv, 1), (16, .invokevirtual 702, 3), (19, .aload_n 0, 1), (20, .aload_n 0, 1), (21, .getfield 139, 3), (24, .iconst 0, 1), (25, .iaload, 1)] := dk_dX10_image_0.2.2.2.2.2.2.2.2
theorem dX10_image_12 : decode cX10_image 12 = .ok (.sipush 256, 3) := dk_dX10_image_0_8.1
theorem dX10_image_15 : decode cX10_image 15 = .ok (.idiv, 1) := dk_dX10_image_0_8.2.1
theorem dX10_image_16 : decode cX10_image 16 = .ok (.invokevirtual 702, 3) := dk_dX10_image_0_8.2.2.1
theorem dX10_image_19 : decode cX10_image 19 = .ok (.aload_n 0, 1) := dk_dX10_image_0_8.2.2.2.1
theorem dX10_image_20 : decode cX10_image 20 = .ok (.aload_n 0, 1) := dk_dX10_image_0_8.2.2.2.2.1
theorem dX10_image_21 : decode cX10_image 21 = .ok (.getfield 139, 3) := dk_dX10_image_0_8.2.2.2.2.2.1
theorem dX10_image_24 : decode cX10_image 24 = .ok (.iconst 0, 1) := dk_dX10_image_0_8.2.2.2.2.2.2.1
theorem dX10_image_25 : decode cX10_image 25 = .ok (.iaload, 1) := dk_dX10_image_0_8.2.2.2.2.2.2.2.1
theorem dk_dX10_image_26 : dz_C cX10_image [(26, .sipush 256, 3), (29, .irem, 1), (30, .invokevirtual 702, 3), (33, .aload_n 0, 1), (34, .aload_n 0, 1), (35, .getfield 139, 3), (38, .iconst 1, 1), (39, .iaload, 1), (40, .invokevirtual 702, 3), (43, .aload_n 0, 1), (44, .aload_n 0, 1), (45, .getfield 139, 3), (48, .iconst 2, 1), (49, .iaload, 1), (50, .invokevirtual 702, 3), (53, .iconst 0, 1)] := dz_of (by decide +kernel)
theorem dX10_image_26 : decode cX10_image 26 = .ok (.sipush 256, 3) := dk_dX10_image_26.1
theorem dX10_image_29 : decode cX10_image 29 = .ok (.irem, 1) := dk_dX10_image_26.2.1
theorem dX10_image_30 : decode cX10_image 30 = .ok (.invokevirtual 702, 3) := dk_dX10_image_26.2.2.1
theorem dX10_image_33 : decode cX10_image 33 = .ok (.aload_n 0, 1) := dk_dX10_image_26.2.2.2.1
theorem dX10_image_34 : decode cX10_image 34 = .ok (.aload_n 0, 1) := dk_dX10_image_26.2.2.2.2.1
theorem dX10_image_35 : decode cX10_image 35 = .ok (.getfield 139, 3) := dk_dX10_image_26.2.2.2.2.2.1
theorem dX10_image_38 : decode cX10_image 38 = .ok (.iconst 1, 1) := dk_dX10_image_26.2.2.2.2.2.2.1
theorem dX10_image_39 : decode cX10_image 39 = .ok (.iaload, 1) := dk_dX10_image_26.2.2.2.2.2.2.2.1
theorem dk_dX10_image_26_8 : dz_C cX10_image [(40, .invokevirtual 702, 3), (43, .aload_n 0, 1), (44, .aload_n 0, 1), (45, .getfield 139, 3), (48, .iconst 2, 1), (49, .iaload, 1), (50, .invokevirtual 702, 3), (53, .iconst 0, 1)] := dk_dX10_image_26.2.2.2.2.2.2.2.2
theorem dX10_image_40 : decode cX10_image 40 = .ok (.invokevirtual 702, 3) := dk_dX10_image_26_8.1
theorem dX10_image_43 : decode cX10_image 43 = .ok (.aload_n 0, 1) := dk_dX10_image_26_8.2.1
theorem dX10_image_44 : decode cX10_image 44 = .ok (.aload_n 0, 1) := dk_dX10_image_26_8.2.2.1
theorem dX10_image_45 : decode cX10_image 45 = .ok (.getfield 139, 3) := dk_dX10_image_26_8.2.2.2.1
theorem dX10_image_48 : decode cX10_image 48 = .ok (.iconst 2, 1) := dk_dX10_image_26_8.2.2.2.2.1
theorem dX10_image_49 : decode cX10_image 49 = .ok (.iaload, 1) := dk_dX10_image_26_8.2.2.2.2.2.1
theorem dX10_image_50 : decode cX10_image 50 = .ok (.invokevirtual 702, 3) := dk_dX10_image_26_8.2.2.2.2.2.2.1
theorem dX10_image_53 : decode cX10_image 53 = .ok (.iconst 0, 1) := dk_dX10_image_26_8.2.2.2.2.2.2.2.1
theorem dk_dX10_image_54 : dz_C cX10_image [(54, .istore_n 1, 1), (55, .iload_n 1, 1), (56, .aload_n 0, 1), (57, .invokevirtual 430, 3), (60, .if_icmp .ge 18, 3), (63, .aload_n 0, 1), (64, .aload_n 0, 1), (65, .iload_n 1, 1), (66, .invokevirtual 463, 3), (69, .invokevirtual 702, 3), (72, .iinc 1 1, 3), (75, .goto (-20), 3), (78, .aload_n 0, 1), (79, .aload_n 0, 1), (80, .getfield 273, 3), (83, .aload_n 0, 1)] := dz_of (by decide +kernel)
theorem dX10_image_54 : decode cX10_image 54 = .ok (.istore_n 1, 1) := dk_dX10_image_54.1
theorem dX10_image_55 : decode cX10_image 55 = .ok (.iload_n 1, 1) := dk_dX10_image_54.2.1
theorem dX10_image_56 : decode cX10_image 56 = .ok (.aload_n 0, 1) := dk_dX10_image_54.2.2.1
theorem dX10_image_57 : decode cX10_image 57 = .ok (.invokevirtual 430, 3) := dk_dX10_image_54.2.2.2.1
theorem dX10_image_60 : decode cX10_image 60 = .ok (.if_icmp .ge 18, 3) := dk_dX10_image_54.2.2.2.2.1
theorem dX10_image_63 : decode cX10_image 63 = .ok (.aload_n 0, 1) := dk_dX10_image_54.2.2.2.2.2.1
theorem dX10_image_64 : decode cX10_image 64 = .ok (.aload_n 0, 1) := dk_dX10_image_54.2.2.2.2.2.2.1
theorem dX10_image_65 : decode cX10_image 65 = .ok (.iload_n 1, 1) := dk_dX10_image_54.2.2.2.2.2.2.2.1
theorem dk_dX10_image_54_8 : dz_C cX10_image [(66, .invokevirtual 463, 3), (69, .invokevirtual 702, 3), (72, .iinc 1 1, 3), (75, .goto (-20), 3), (78, .aload_n 0, 1), (79, .aload_n 0, 1), (80, .getfield 273, 3), (83, .aload_n 0, 1)] := dk_dX10_image_54.2.2.2.2.2.2.2.2
theorem dX10_image_66 : decode cX10_image 66 = .ok (.invokevirtual 463, 3) := dk_dX10_image_54_8.1
theorem dX10_image_69 : decode cX10_image 69 = .ok (.invokevirtual 702, 3) := dk_dX10_image_54_8.2.1
theorem dX10_image_72 : decode cX10_image 72 = .ok (.iinc 1 1, 3) := dk_dX10_image_54_8.2.2.1
theorem dX10_image_75 : decode cX10_image 75 = .ok (.goto (-20), 3) := dk_dX10_image_54_8.2.2.2.1
theorem dX10_image_78 : decode cX10_image 78 = .ok (.aload_n 0, 1) := dk_dX10_image_54_8.2.2.2.2.1
theorem dX10_image_79 : decode cX10_image 79 = .ok (.aload_n 0, 1) := dk_dX10_image_54_8.2.2.2.2.2.1
theorem dX10_image_80 : decode cX10_image 80 = .ok (.getfield 273, 3) := dk_dX10_image_54_8.2.2.2.2.2.2.1
theorem dX10_image_83 : decode cX10_image 83 = .ok (.aload_n 0, 1) := dk_dX10_image_54_8.2.2.2.2.2.2.2.1
theorem dk_dX10_image_84 : dz_C cX10_image [(84, .getfield 699, 3), (87, .invokestatic 705, 3), (90, .invokevirtual 702, 3), (93, .aload_n 0, 1), (94, .getfield 699, 3), (97, .ireturn, 1)] := dz_of (by decide +kernel)
theorem dX10_image_84 : decode cX10_image 84 = .ok (.getfield 699, 3) := dk_dX10_image_84.1
theorem dX10_image_87 : decode cX10_image 87 = .ok (.invokestatic 705, 3) := dk_dX10_image_84.2.1
theorem dX10_image_90 : decode cX10_image 90 = .ok (.invokevirtual 702, 3) := dk_dX10_image_84.2.2.1
theorem dX10_image_93 : decode cX10_image 93 = .ok (.aload_n 0, 1) := dk_dX10_image_84.2.2.2.1
theorem dX10_image_94 : decode cX10_image 94 = .ok (.getfield 699, 3) := dk_dX10_image_84.2.2.2.2.1
theorem dX10_image_97 : decode cX10_image 97 = .ok (.ireturn, 1) := dk_dX10_image_84.2.2.2.2.2.1
theorem dk_dX10_init_0 : dz_C cX10_init [(0, .aload_n 0, 1), (1, .invokespecial 1, 3), (4, .aload_n 0, 1), (5, .sipush 1600, 3), (8, .newarray .int, 2), (10, .putfield 7, 3), (13, .aload_n 0, 1), (14, .iconst (-1), 1), (15, .putfield 13, 3), (18, .aload_n 0, 1), (19, .bipush 6, 2), (21, .newarray .int, 2), (23, .putfield 17, 3), (26, .aload_n 0, 1), (27, .iconst 5, 1), (28, .newarray .char, 2)] := dz_of (by decide +kernel)
theorem dX10_init_0 : decode cX10_init 0 = .ok (.aload_n 0, 1) := dk_dX10_init_0.1
theorem dX10_init_1 : decode cX10_init 1 = .ok (.invokespecial 1, 3) := dk_dX10_init_0.2.1
theorem dX10_init_4 : decode cX10_init 4 = .ok (.aload_n 0, 1) := dk_dX10_init_0.2.2.1
theorem dX10_init_5 : decode cX10_init 5 = .ok (.sipush 1600, 3) := dk_dX10_init_0.2.2.2.1
theorem dX10_init_8 : decode cX10_init 8 = .ok (.newarray .int, 2) := dk_dX10_init_0.2.2.2.2.1
theorem dX10_init_10 : decode cX10_init 10 = .ok (.putfield 7, 3) := dk_dX10_init_0.2.2.2.2.2.1
theorem dX10_init_13 : decode cX10_init 13 = .ok (.aload_n 0, 1) := dk_dX10_init_0.2.2.2.2.2.2.1
theorem dX10_init_14 : decode cX10_init 14 = .ok (.iconst (-1), 1) := dk_dX10_init_0.2.2.2.2.2.2.2.1
theorem dk_dX10_init_0_8 : dz_C cX10_init [(15, .putfield 13, 3), (18, .aload_n 0, 1), (19, .bipush 6, 2), (21, .newarray .int, 2), (23, .putfield 17, 3), (26, .aload_n 0, 1), (27, .iconst 5, 1), (28, .newarray .char, 2)] := dk_dX10_init_0.2.2.2.2.2.2.2.2
theorem dX10_init_15 : decode cX10_init 15 = .ok (.putfield 13, 3) := dk_dX10_init_0_8.1
theorem dX10_init_18 : decode cX10_init 18 = .ok (.aload_n 0, 1) := dk_dX10_init_0_8.2.1
theorem dX10_init_19 : decode cX10_init 19 = .ok (.bipush 6, 2) := dk_dX10_init_0_8.2.2.1
theorem dX10_init_21 : decode cX10_init 21 = .ok (.newarray .int, 2) := dk_dX10_init_0_8.2.2.2.1
theorem dX10_init_23 : decode cX10_init 23 = .ok (.putfield 17, 3) := dk_dX10_init_0_8.2.2.2.2.1
theorem dX10_init_26 : decode cX10_init 26 = .ok (.aload_n 0, 1) := dk_dX10_init_0_8.2.2.2.2.2.1
theorem dX10_init_27 : decode cX10_init 27 = .ok (.iconst 5, 1) := dk_dX10_init_0_8.2.2.2.2.2.2.1
theorem dX10_init_28 : decode cX10_init 28 = .ok (.newarray .char, 2) := dk_dX10_init_0_8.2.2.2.2.2.2.2.1
theorem dk_dX10_init_30 : dz_C cX10_init [(30, .dup, 1), (31, .iconst 0, 1), (32, .bipush 99, 2), (34, .castore, 1), (35, .dup, 1), (36, .iconst 1, 1), (37, .bipush 121, 2), (39, .castore, 1), (40, .dup, 1), (41, .iconst 2, 1), (42, .bipush 99, 2), (44, .castore, 1), (45, .dup, 1), (46, .iconst 3, 1), (47, .bipush 108, 2), (49, .castore, 1)] := dz_of (by decide +kernel)
theorem dX10_init_30 : decode cX10_init 30 = .ok (.dup, 1) := dk_dX10_init_30.1
theorem dX10_init_31 : decode cX10_init 31 = .ok (.iconst 0, 1) := dk_dX10_init_30.2.1
theorem dX10_init_32 : decode cX10_init 32 = .ok (.bipush 99, 2) := dk_dX10_init_30.2.2.1
theorem dX10_init_34 : decode cX10_init 34 = .ok (.castore, 1) := dk_dX10_init_30.2.2.2.1
theorem dX10_init_35 : decode cX10_init 35 = .ok (.dup, 1) := dk_dX10_init_30.2.2.2.2.1
theorem dX10_init_36 : decode cX10_init 36 = .ok (.iconst 1, 1) := dk_dX10_init_30.2.2.2.2.2.1
theorem dX10_init_37 : decode cX10_init 37 = .ok (.bipush 121, 2) := dk_dX10_init_30.2.2.2.2.2.2.1
theorem dX10_init_39 : decode cX10_init 39 = .ok (.castore, 1) := dk_dX10_init_30.2.2.2.2.2.2.2.1
theorem dk_dX10_init_30_8 : dz_C cX10_init [(40, .dup, 1), (41, .iconst 2, 1), (42, .bipush 99, 2), (44, .castore, 1), (45, .dup, 1), (46, .iconst 3, 1), (47, .bipush 108, 2), (49, .castore, 1)] := dk_dX10_init_30.2.2.2.2.2.2.2.2
theorem dX10_init_40 : decode cX10_init 40 = .ok (.dup, 1) := dk_dX10_init_30_8.1
theorem dX10_init_41 : decode cX10_init 41 = .ok (.iconst 2, 1) := dk_dX10_init_30_8.2.1
theorem dX10_init_42 : decode cX10_init 42 = .ok (.bipush 99, 2) := dk_dX10_init_30_8.2.2.1
theorem dX10_init_44 : decode cX10_init 44 = .ok (.castore, 1) := dk_dX10_init_30_8.2.2.2.1
theorem dX10_init_45 : decode cX10_init 45 = .ok (.dup, 1) := dk_dX10_init_30_8.2.2.2.2.1
theorem dX10_init_46 : decode cX10_init 46 = .ok (.iconst 3, 1) := dk_dX10_init_30_8.2.2.2.2.2.1
theorem dX10_init_47 : decode cX10_init 47 = .ok (.bipush 108, 2) := dk_dX10_init_30_8.2.2.2.2.2.2.1
theorem dX10_init_49 : decode cX10_init 49 = .ok (.castore, 1) := dk_dX10_init_30_8.2.2.2.2.2.2.2.1
theorem dk_dX10_init_50 : dz_C cX10_init [(50, .dup, 1), (51, .iconst 4, 1), (52, .bipush 101, 2), (54, .castore, 1), (55, .putfield 20, 3), (58, .aload_n 0, 1), (59, .iconst 5, 1), (60, .newarray .char, 2), (62, .dup, 1), (63, .iconst 0, 1), (64, .bipush 103, 2), (66, .castore, 1), (67, .dup, 1), (68, .iconst 1, 1), (69, .bipush 114, 2), (71, .castore, 1)] := dz_of (by decide +kernel)
theorem dX10_init_50 : decode cX10_init 50 = .ok (.dup, 1) := dk_dX10_init_50.1
theorem dX10_init_51 : decode cX10_init 51 = .ok (.iconst 4, 1) := dk_dX10_init_50.2.1
theorem dX10_init_52 : decode cX10_init 52 = .ok (.bipush 101, 2) := dk_dX10_init_50.2.2.1
theorem dX10_init_54 : decode cX10_init 54 = .ok (.castore, 1) := dk_dX10_init_50.2.2.2.1
theorem dX10_init_55 : decode cX10_init 55 = .ok (.putfield 20, 3) := dk_dX10_init_50.2.2.2.2.1
theorem dX10_init_58 : decode cX10_init 58 = .ok (.aload_n 0, 1) := dk_dX10_init_50.2.2.2.2.2.1
theorem dX10_init_59 : decode cX10_init 59 = .ok (.iconst 5, 1) := dk_dX10_init_50.2.2.2.2.2.2.1
theorem dX10_init_60 : decode cX10_init 60 = .ok (.newarray .char, 2) := dk_dX10_init_50.2.2.2.2.2.2.2.1
theorem dk_dX10_init_50_8 : dz_C cX10_init [(62, .dup, 1), (63, .iconst 0, 1), (64, .bipush 103, 2), (66, .castore, 1), (67, .dup, 1), (68, .iconst 1, 1), (69, .bipush 114, 2), (71, .castore, 1)] := dk_dX10_init_50.2.2.2.2.2.2.2.2
theorem dX10_init_62 : decode cX10_init 62 = .ok (.dup, 1) := dk_dX10_init_50_8.1
theorem dX10_init_63 : decode cX10_init 63 = .ok (.iconst 0, 1) := dk_dX10_init_50_8.2.1
theorem dX10_init_64 : decode cX10_init 64 = .ok (.bipush 103, 2) := dk_dX10_init_50_8.2.2.1
theorem dX10_init_66 : decode cX10_init 66 = .ok (.castore, 1) := dk_dX10_init_50_8.2.2.2.1
theorem dX10_init_67 : decode cX10_init 67 = .ok (.dup, 1) := dk_dX10_init_50_8.2.2.2.2.1
theorem dX10_init_68 : decode cX10_init 68 = .ok (.iconst 1, 1) := dk_dX10_init_50_8.2.2.2.2.2.1
theorem dX10_init_69 : decode cX10_init 69 = .ok (.bipush 114, 2) := dk_dX10_init_50_8.2.2.2.2.2.2.1
theorem dX10_init_71 : decode cX10_init 71 = .ok (.castore, 1) := dk_dX10_init_50_8.2.2.2.2.2.2.2.1
theorem dk_dX10_init_72 : dz_C cX10_init [(72, .dup, 1), (73, .iconst 2, 1), (74, .bipush 101, 2), (76, .castore, 1), (77, .dup, 1), (78, .iconst 3, 1), (79, .bipush 101, 2), (81, .castore, 1), (82, .dup, 1), (83, .iconst 4, 1), (84, .bipush 110, 2), (86, .castore, 1), (87, .putfield 24, 3), (90, .aload_n 0, 1), (91, .iconst 4, 1), (92, .newarray .char, 2)] := dz_of (by decide +kernel)
theorem dX10_init_72 : decode cX10_init 72 = .ok (.dup, 1) := dk_dX10_init_72.1
theorem dX10_init_73 : decode cX10_init 73 = .ok (.iconst 2, 1) := dk_dX10_init_72.2.1
theorem dX10_init_74 : decode cX10_init 74 = .ok (.bipush 101, 2) := dk_dX10_init_72.2.2.1
theorem dX10_init_76 : decode cX10_init 76 = .ok (.castore, 1) := dk_dX10_init_72.2.2.2.1
theorem dX10_init_77 : decode cX10_init 77 = .ok (.dup, 1) := dk_dX10_init_72.2.2.2.2.1
theorem dX10_init_78 : decode cX10_init 78 = .ok (.iconst 3, 1) := dk_dX10_init_72.2.2.2.2.2.1
theorem dX10_init_79 : decode cX10_init 79 = .ok (.bipush 101, 2) := dk_dX10_init_72.2.2.2.2.2.2.1
theorem dX10_init_81 : decode cX10_init 81 = .ok (.castore, 1) := dk_dX10_init_72.2.2.2.2.2.2.2.1
theorem dk_dX10_init_72_8 : dz_C cX10_init [(82, .dup, 1), (83, .iconst 4, 1), (84, .bipush 110, 2), (86, .castore, 1), (87, .putfield 24, 3), (90, .aload_n 0, 1), (91, .iconst 4, 1), (92, .newarray .char, 2)] := dk_dX10_init_72.2.2.2.2.2.2.2.2
theorem dX10_init_82 : decode cX10_init 82 = .ok (.dup, 1) := dk_dX10_init_72_8.1
theorem dX10_init_83 : decode cX10_init 83 = .ok (.iconst 4, 1) := dk_dX10_init_72_8.2.1
theorem dX10_init_84 : decode cX10_init 84 = .ok (.bipush 110, 2) := dk_dX10_init_72_8.2.2.1
theorem dX10_init_86 : decode cX10_init 86 = .ok (.castore, 1) := dk_dX10_init_72_8.2.2.2.1
theorem dX10_init_87 : decode cX10_init 87 = .ok (.putfield 24, 3) := dk_dX10_init_72_8.2.2.2.2.1
theorem dX10_init_90 : decode cX10_init 90 = .ok (.aload_n 0, 1) := dk_dX10_init_72_8.2.2.2.2.2.1
theorem dX10_init_91 : decode cX10_init 91 = .ok (.iconst 4, 1) := dk_dX10_init_72_8.2.2.2.2.2.2.1
theorem dX10_init_92 : decode cX10_init 92 = .ok (.newarray .char, 2) := dk_dX10_init_72_8.2.2.2.2.2.2.2.1
theorem dk_dX10_init_94 : dz_C cX10_init [(94, .dup, 1), (95, .iconst 0, 1), (96, .bipush 114, 2), (98, .castore, 1), (99, .dup, 1), (100, .iconst 1, 1), (101, .bipush 117, 2), (103, .castore, 1), (104, .dup, 1), (105, .iconst 2, 1), (106, .bipush 108, 2), (108, .castore, 1), (109, .dup, 1), (110, .iconst 3, 1), (111, .bipush 101, 2), (113, .castore, 1)] := dz_of (by decide +kernel)
theorem dX10_init_94 : decode cX10_init 94 = .ok (.dup, 1) := dk_dX10_init_94.1
theorem dX10_init_95 : decode cX10_init 95 = .ok (.iconst 0, 1) := dk_dX10_init_94.2.1
theorem dX10_init_96 : decode cX10_init 96 = .ok (.bipush 114, 2) := dk_dX10_init_94.2.2.1
theorem dX10_init_98 : decode cX10_init 98 = .ok (.castore, 1) := dk_dX10_init_94.2.2.2.1
theorem dX10_init_99 : decode cX10_init 99 = .ok (.dup, 1) := dk_dX10_init_94.2.2.2.2.1
theorem dX10_init_100 : decode cX10_init 100 = .ok (.iconst 1, 1) := dk_dX10_init_94.2.2.2.2.2.1
theorem dX10_init_101 : decode cX10_init 101 = .ok (.bipush 117, 2) := dk_dX10_init_94.2.2.2.2.2.2.1
theorem dX10_init_103 : decode cX10_init 103 = .ok (.castore, 1) := dk_dX10_init_94.2.2.2.2.2.2.2.1
theorem dk_dX10_init_94_8 : dz_C cX10_init [(104, .dup, 1), (105, .iconst 2, 1), (106, .bipush 108, 2), (108, .castore, 1), (109, .dup, 1), (110, .iconst 3, 1), (111, .bipush 101, 2), (113, .castore, 1)] := dk_dX10_init_94.2.2.2.2.2.2.2.2
theorem dX10_init_104 : decode cX10_init 104 = .ok (.dup, 1) := dk_dX10_init_94_8.1
theorem dX10_init_105 : decode cX10_init 105 = .ok (.iconst 2, 1) := dk_dX10_init_94_8.2.1
theorem dX10_init_106 : decode cX10_init 106 = .ok (.bipush 108, 2) := dk_dX10_init_94_8.2.2.1
theorem dX10_init_108 : decode cX10_init 108 = .ok (.castore, 1) := dk_dX10_init_94_8.2.2.2.1
theorem dX10_init_109 : decode cX10_init 109 = .ok (.dup, 1) := dk_dX10_init_94_8.2.2.2.2.1
theorem dX10_init_110 : decode cX10_init 110 = .ok (.iconst 3, 1) := dk_dX10_init_94_8.2.2.2.2.2.1
theorem dX10_init_111 : decode cX10_init 111 = .ok (.bipush 101, 2) := dk_dX10_init_94_8.2.2.2.2.2.2.1
theorem dX10_init_113 : decode cX10_init 113 = .ok (.castore, 1) := dk_dX10_init_94_8.2.2.2.2.2.2.2.1
theorem dk_dX10_init_114 : dz_C cX10_init [(114, .putfield 27, 3), (117, .aload_n 0, 1), (118, .iconst 5, 1), (119, .newarray .char, 2), (121, .dup, 1), (122, .iconst 0, 1), (123, .bipush 108, 2), (125, .castore, 1), (126, .dup, 1), (127, .iconst 1, 1), (128, .bipush 101, 2), (130, .castore, 1), (131, .dup, 1), (132, .iconst 2, 1), (133, .bipush 97, 2), (135, .castore, 1)] := dz_of (by decide +kernel)
theorem dX10_init_114 : decode cX10_init 114 = .ok (.putfield 27, 3) := dk_dX10_init_114.1
theorem dX10_init_117 : decode cX10_init 117 = .ok (.aload_n 0, 1) := dk_dX10_init_114.2.1
theorem dX10_init_118 : decode cX10_init 118 = .ok (.iconst 5, 1) := dk_dX10_init_114.2.2.1
theorem dX10_init_119 : decode cX10_init 119 = .ok (.newarray .char, 2) := dk_dX10_init_114.2.2.2.1
theorem dX10_init_121 : decode cX10_init 121 = .ok (.dup, 1) := dk_dX10_init_114.2.2.2.2.1
theorem dX10_init_122 : decode cX10_init 122 = .ok (.iconst 0, 1) := dk_dX10_init_114.2.2.2.2.2.1
theorem dX10_init_123 : decode cX10_init 123 = .ok (.bipush 108, 2) := dk_dX10_init_114.2.2.2.2.2.2.1
theorem dX10_init_125 : decode cX10_init 125 = .ok (.castore, 1) := dk_dX10_init_114.2.2.2.2.2.2.2.1
theorem dk_dX10_init_114_8 : dz_C cX10_init [(126, .dup, 1), (127, .iconst 1, 1), (128, .bipush 101, 2), (130, .castore, 1), (131, .dup, 1), (132, .iconst 2, 1), (133, .bipush 97, 2), (135, .castore, 1)] := dk_dX10_init_114.2.2.2.2.2.2.2.2
theorem dX10_init_126 : decode cX10_init 126 = .ok (.dup, 1) := dk_dX10_init_114_8.1
theorem dX10_init_127 : decode cX10_init 127 = .ok (.iconst 1, 1) := dk_dX10_init_114_8.2.1
theorem dX10_init_128 : decode cX10_init 128 = .ok (.bipush 101, 2) := dk_dX10_init_114_8.2.2.1
theorem dX10_init_130 : decode cX10_init 130 = .ok (.castore, 1) := dk_dX10_init_114_8.2.2.2.1
theorem dX10_init_131 : decode cX10_init 131 = .ok (.dup, 1) := dk_dX10_init_114_8.2.2.2.2.1
theorem dX10_init_132 : decode cX10_init 132 = .ok (.iconst 2, 1) := dk_dX10_init_114_8.2.2.2.2.2.1
theorem dX10_init_133 : decode cX10_init 133 = .ok (.bipush 97, 2) := dk_dX10_init_114_8.2.2.2.2.2.2.1
theorem dX10_init_135 : decode cX10_init 135 = .ok (.castore, 1) := dk_dX10_init_114_8.2.2.2.2.2.2.2.1
theorem dk_dX10_init_136 : dz_C cX10_init [(136, .dup, 1), (137, .iconst 3, 1), (138, .bipush 115, 2), (140, .castore, 1), (141, .dup, 1), (142, .iconst 4, 1), (143, .bipush 116, 2), (145, .castore, 1), (146, .putfield 30, 3), (149, .aload_n 0, 1), (150, .iconst 4, 1), (151, .newarray .char, 2), (153, .dup, 1), (154, .iconst 0, 1), (155, .bipush 107, 2), (157, .castore, 1)] := dz_of (by decide +kernel)
theorem dX10_init_136 : decode cX10_init 136 = .ok (.dup, 1) := dk_dX10_init_136.1
theorem dX10_init_137 : decode cX10_init 137 = .ok (.iconst 3, 1) := dk_dX10_init_136.2.1
theorem dX10_init_138 : decode cX10_init 138 = .ok (.bipush 115, 2) := dk_dX10_init_136.2.2.1
theorem dX10_init_140 : decode cX10_init 140 = .ok (.castore, 1) := dk_dX10_init_136.2.2.2.1
theorem dX10_init_141 : decode cX10_init 141 = .ok (.dup, 1) := dk_dX10_init_136.2.2.2.2.1
theorem dX10_init_142 : decode cX10_init 142 = .ok (.iconst 4, 1) := dk_dX10_init_136.2.2.2.2.2.1
theorem dX10_init_143 : decode cX10_init 143 = .ok (.bipush 116, 2) := dk_dX10_init_136.2.2.2.2.2.2.1
theorem dX10_init_145 : decode cX10_init 145 = .ok (.castore, 1) := dk_dX10_init_136.2.2.2.2.2.2.2.1
theorem dk_dX10_init_136_8 : dz_C cX10_init [(146, .putfield 30, 3), (149, .aload_n 0, 1), (150, .iconst 4, 1), (151, .newarray .char, 2), (153, .dup, 1), (154, .iconst 0, 1), (155, .bipush 107, 2), (157, .castore, 1)] := dk_dX10_init_136.2.2.2.2.2.2.2.2
theorem dX10_init_146 : decode cX10_init 146 = .ok (.putfield 30, 3) := dk_dX10_init_136_8.1
theorem dX10_init_149 : decode cX10_init 149 = .ok (.aload_n 0, 1) := dk_dX10_init_136_8.2.1
theorem dX10_init_150 : decode cX10_init 150 = .ok (.iconst 4, 1) := dk_dX10_init_136_8.2.2.1
theorem dX10_init_151 : decode cX10_init 151 = .ok (.newarray .char, 2) := dk_dX10_init_136_8.2.2.2.1
theorem dX10_init_153 : decode cX10_init 153 = .ok (.dup, 1) := dk_dX10_init_136_8.2.2.2.2.1
theorem dX10_init_154 : decode cX10_init 154 = .ok (.iconst 0, 1) := dk_dX10_init_136_8.2.2.2.2.2.1
theorem dX10_init_155 : decode cX10_init 155 = .ok (.bipush 107, 2) := dk_dX10_init_136_8.2.2.2.2.2.2.1
theorem dX10_init_157 : decode cX10_init 157 = .ok (.castore, 1) := dk_dX10_init_136_8.2.2.2.2.2.2.2.1
theorem dk_dX10_init_158 : dz_C cX10_init [(158, .dup, 1), (159, .iconst 1, 1), (160, .bipush 105, 2), (162, .castore, 1), (163, .dup, 1), (164, .iconst 2, 1), (165, .bipush 110, 2), (167, .castore, 1), (168, .dup, 1), (169, .iconst 3, 1), (170, .bipush 100, 2), (172, .castore, 1), (173, .putfield 33, 3), (176, .aload_n 0, 1), (177, .iconst 4, 1), (178, .newarray .char, 2)] := dz_of (by decide +kernel)
theorem dX10_init_158 : decode cX10_init 158 = .ok (.dup, 1) := dk_dX10_init_158.1
theorem dX10_init_159 : decode cX10_init 159 = .ok (.iconst 1, 1) := dk_dX10_init_158.2.1
theorem dX10_init_160 : decode cX10_init 160 = .ok (.bipush 105, 2) := dk_dX10_init_158.2.2.1
theorem dX10_init_162 : decode cX10_init 162 = .ok (.castore, 1) := dk_dX10_init_158.2.2.2.1
theorem dX10_init_163 : decode cX10_init 163 = .ok (.dup, 1) := dk_dX10_init_158.2.2.2.2.1
theorem dX10_init_164 : decode cX10_init 164 = .ok (.iconst 2, 1) := dk_dX10_init_158.2.2.2.2.2.1
theorem dX10_init_165 : decode cX10_init 165 = .ok (.bipush 110, 2) := dk_dX10_init_158.2.2.2.2.2.2.1
theorem dX10_init_167 : decode cX10_init 167 = .ok (.castore, 1) := dk_dX10_init_158.2.2.2.2.2.2.2.1
theorem dk_dX10_init_158_8 : dz_C cX10_init [(168, .dup, 1), (169, .iconst 3, 1), (170, .bipush 100, 2), (172, .castore, 1), (173, .putfield 33, 3), (176, .aload_n 0, 1), (177, .iconst 4, 1), (178, .newarray .char, 2)] := dk_dX10_init_158.2.2.2.2.2.2.2.2
theorem dX10_init_168 : decode cX10_init 168 = .ok (.dup, 1) := dk_dX10_init_158_8.1
theorem dX10_init_169 : decode cX10_init 169 = .ok (.iconst 3, 1) := dk_dX10_init_158_8.2.1
theorem dX10_init_170 : decode cX10_init 170 = .ok (.bipush 100, 2) := dk_dX10_init_158_8.2.2.1
theorem dX10_init_172 : decode cX10_init 172 = .ok (.castore, 1) := dk_dX10_init_158_8.2.2.2.1
theorem dX10_init_173 : decode cX10_init 173 = .ok (.putfield 33, 3) := dk_dX10_init_158_8.2.2.2.2.1
theorem dX10_init_176 : decode cX10_init 176 = .ok (.aload_n 0, 1) := dk_dX10_init_158_8.2.2.2.2.2.1
theorem dX10_init_177 : decode cX10_init 177 = .ok (.iconst 4, 1) := dk_dX10_init_158_8.2.2.2.2.2.2.1
theorem dX10_init_178 : decode cX10_init 178 = .ok (.newarray .char, 2) := dk_dX10_init_158_8.2.2.2.2.2.2.2.1
theorem dk_dX10_init_180 : dz_C cX10_init [(180, .dup, 1), (181, .iconst 0, 1), (182, .bipush 99, 2), (184, .castore, 1), (185, .dup, 1), (186, .iconst 1, 1), (187, .bipush 97, 2), (189, .castore, 1), (190, .dup, 1), (191, .iconst 2, 1), (192, .bipush 108, 2), (194, .castore, 1), (195, .dup, 1), (196, .iconst 3, 1), (197, .bipush 109, 2), (199, .castore, 1)] := dz_of (by decide +kernel)
theorem dX10_init_180 : decode cX10_init 180 = .ok (.dup, 1) := dk_dX10_init_180.1
theorem dX10_init_181 : decode cX10_init 181 = .ok (.iconst 0, 1) := dk_dX10_init_180.2.1
theorem dX10_init_182 : decode cX10_init 182 = .ok (.bipush 99, 2) := dk_dX10_init_180.2.2.1
theorem dX10_init_184 : decode cX10_init 184 = .ok (.castore, 1) := dk_dX10_init_180.2.2.2.1
theorem dX10_init_185 : decode cX10_init 185 = .ok (.dup, 1) := dk_dX10_init_180.2.2.2.2.1
theorem dX10_init_186 : decode cX10_init 186 = .ok (.iconst 1, 1) := dk_dX10_init_180.2.2.2.2.2.1
theorem dX10_init_187 : decode cX10_init 187 = .ok (.bipush 97, 2) := dk_dX10_init_180.2.2.2.2.2.2.1
theorem dX10_init_189 : decode cX10_init 189 = .ok (.castore, 1) := dk_dX10_init_180.2.2.2.2.2.2.2.1
theorem dk_dX10_init_180_8 : dz_C cX10_init [(190, .dup, 1), (191, .iconst 2, 1), (192, .bipush 108, 2), (194, .castore, 1), (195, .dup, 1), (196, .iconst 3, 1), (197, .bipush 109, 2), (199, .castore, 1)] := dk_dX10_init_180.2.2.2.2.2.2.2.2
theorem dX10_init_190 : decode cX10_init 190 = .ok (.dup, 1) := dk_dX10_init_180_8.1
theorem dX10_init_191 : decode cX10_init 191 = .ok (.iconst 2, 1) := dk_dX10_init_180_8.2.1
theorem dX10_init_192 : decode cX10_init 192 = .ok (.bipush 108, 2) := dk_dX10_init_180_8.2.2.1
theorem dX10_init_194 : decode cX10_init 194 = .ok (.castore, 1) := dk_dX10_init_180_8.2.2.2.1
theorem dX10_init_195 : decode cX10_init 195 = .ok (.dup, 1) := dk_dX10_init_180_8.2.2.2.2.1
theorem dX10_init_196 : decode cX10_init 196 = .ok (.iconst 3, 1) := dk_dX10_init_180_8.2.2.2.2.2.1
theorem dX10_init_197 : decode cX10_init 197 = .ok (.bipush 109, 2) := dk_dX10_init_180_8.2.2.2.2.2.2.1
theorem dX10_init_199 : decode cX10_init 199 = .ok (.castore, 1) := dk_dX10_init_180_8.2.2.2.2.2.2.2.1
theorem dk_dX10_init_200 : dz_C cX10_init [(200, .putfield 36, 3), (203, .aload_n 0, 1), (204, .iconst 4, 1), (205, .newarray .char, 2), (207, .dup, 1), (208, .iconst 0, 1), (209, .bipush 112, 2), (211, .castore, 1), (212, .dup, 1), (213, .iconst 1, 1), (214, .bipush 97, 2), (216, .castore, 1), (217, .dup, 1), (218, .iconst 2, 1), (219, .bipush 99, 2), (221, .castore, 1)] := dz_of (by decide +kernel)
theorem dX10_init_200 : decode cX10_init 200 = .ok (.putfield 36, 3) := dk_dX10_init_200.1
theorem dX10_init_203 : decode cX10_init 203 = .ok (.aload_n 0, 1) := dk_dX10_init_200.2.1
theorem dX10_init_204 : decode cX10_init 204 = .ok (.iconst 4, 1) := dk_dX10_init_200.2.2.1
theorem dX10_init_205 : decode cX10_init 205 = .ok (.newarray .char, 2) := dk_dX10_init_200.2.2.2.1
theorem dX10_init_207 : decode cX10_init 207 = .ok (.dup, 1) := dk_dX10_init_200.2.2.2.2.1
theorem dX10_init_208 : decode cX10_init 208 = .ok (.iconst 0, 1) := dk_dX10_init_200.2.2.2.2.2.1
theorem dX10_init_209 : decode cX10_init 209 = .ok (.bipush 112, 2) := dk_dX10_init_200.2.2.2.2.2.2.1
theorem dX10_init_211 : decode cX10_init 211 = .ok (.castore, 1) := dk_dX10_init_200.2.2.2.2.2.2.2.1
theorem dk_dX10_init_200_8 : dz_C cX10_init [(212, .dup, 1), (213, .iconst 1, 1), (214, .bipush 97, 2), (216, .castore, 1), (217, .dup, 1), (218, .iconst 2, 1), (219, .bipush 99, 2), (221, .castore, 1)] := dk_dX10_init_200.2.2.2.2.2.2.2.2
theorem dX10_init_212 : decode cX10_init 212 = .ok (.dup, 1) := dk_dX10_init_200_8.1
theorem dX10_init_213 : decode cX10_init 213 = .ok (.iconst 1, 1) := dk_dX10_init_200_8.2.1
theorem dX10_init_214 : decode cX10_init 214 = .ok (.bipush 97, 2) := dk_dX10_init_200_8.2.2.1
theorem dX10_init_216 : decode cX10_init 216 = .ok (.castore, 1) := dk_dX10_init_200_8.2.2.2.1
theorem dX10_init_217 : decode cX10_init 217 = .ok (.dup, 1) := dk_dX10_init_200_8.2.2.2.2.1
theorem dX10_init_218 : decode cX10_init 218 = .ok (.iconst 2, 1) := dk_dX10_init_200_8.2.2.2.2.2.1
theorem dX10_init_219 : decode cX10_init 219 = .ok (.bipush 99, 2) := dk_dX10_init_200_8.2.2.2.2.2.2.1
theorem dX10_init_221 : decode cX10_init 221 = .ok (.castore, 1) := dk_dX10_init_200_8.2.2.2.2.2.2.2.1
theorem dk_dX10_init_222 : dz_C cX10_init [(222, .dup, 1), (223, .iconst 3, 1), (224, .bipush 101, 2), (226, .castore, 1), (227, .putfield 39, 3), (230, .aload_n 0, 1), (231, .bipush 6, 2), (233, .newarray .char, 2), (235, .dup, 1), (236, .iconst 0, 1), (237, .bipush 116, 2), (239, .castore, 1), (240, .dup, 1), (241, .iconst 1, 1), (242, .bipush 114, 2), (244, .castore, 1)] := dz_of (by decide +kernel)
theorem dX10_init_222 : decode cX10_init 222 = .ok (.dup, 1) := dk_dX10_init_222.1
theorem dX10_init_223 : decode cX10_init 223 = .ok (.iconst 3, 1) := dk_dX10_init_222.2.1
theorem dX10_init_224 : decode cX10_init 224 = .ok (.bipush 101, 2) := dk_dX10_init_222.2.2.1
theorem dX10_init_226 : decode cX10_init 226 = .ok (.castore, 1) := dk_dX10_init_222.2.2.2.1
theorem dX10_init_227 : decode cX10_init 227 = .ok (.putfield 39, 3) := dk_dX10_init_222.2.2.2.2.1
theorem dX10_init_230 : decode cX10_init 230 = .ok (.aload_n 0, 1) := dk_dX10_init_222.2.2.2.2.2.1
theorem dX10_init_231 : decode cX10_init 231 = .ok (.bipush 6, 2) := dk_dX10_init_222.2.2.2.2.2.2.1
theorem dX10_init_233 : decode cX10_init 233 = .ok (.newarray .char, 2) := dk_dX10_init_222.2.2.2.2.2.2.2.1
theorem dk_dX10_init_222_8 : dz_C cX10_init [(235, .dup, 1), (236, .iconst 0, 1), (237, .bipush 116, 2), (239, .castore, 1), (240, .dup, 1), (241, .iconst 1, 1), (242, .bipush 114, 2), (244, .castore, 1)] := dk_dX10_init_222.2.2.2.2.2.2.2.2
theorem dX10_init_235 : decode cX10_init 235 = .ok (.dup, 1) := dk_dX10_init_222_8.1
theorem dX10_init_236 : decode cX10_init 236 = .ok (.iconst 0, 1) := dk_dX10_init_222_8.2.1
theorem dX10_init_237 : decode cX10_init 237 = .ok (.bipush 116, 2) := dk_dX10_init_222_8.2.2.1
theorem dX10_init_239 : decode cX10_init 239 = .ok (.castore, 1) := dk_dX10_init_222_8.2.2.2.1
theorem dX10_init_240 : decode cX10_init 240 = .ok (.dup, 1) := dk_dX10_init_222_8.2.2.2.2.1
theorem dX10_init_241 : decode cX10_init 241 = .ok (.iconst 1, 1) := dk_dX10_init_222_8.2.2.2.2.2.1
theorem dX10_init_242 : decode cX10_init 242 = .ok (.bipush 114, 2) := dk_dX10_init_222_8.2.2.2.2.2.2.1
theorem dX10_init_244 : decode cX10_init 244 = .ok (.castore, 1) := dk_dX10_init_222_8.2.2.2.2.2.2.2.1
theorem dk_dX10_init_245 : dz_C cX10_init [(245, .dup, 1), (246, .iconst 2, 1), (247, .bipush 117, 2), (249, .castore, 1), (250, .dup, 1), (251, .iconst 3, 1), (252, .bipush 115, 2), (254, .castore, 1), (255, .dup, 1), (256, .iconst 4, 1), (257, .bipush 116, 2), (259, .castore, 1), (260, .dup, 1), (261, .iconst 5, 1), (262, .bipush 115, 2), (264, .castore, 1)] := dz_of (by decide +kernel)
theorem dX10_init_245 : decode cX10_init 245 = .ok (.dup, 1) := dk_dX10_init_245.1
theorem dX10_init_246 : decode cX10_init 246 = .ok (.iconst 2, 1) := dk_dX10_init_245.2.1
theorem dX10_init_247 : decode cX10_init 247 = .ok (.bipush 117, 2) := dk_dX10_init_245.2.2.1
theorem dX10_init_249 : decode cX10_init 249 = .ok (.castore, 1) := dk_dX10_init_245.2.2.2.1
theorem dX10_init_250 : decode cX10_init 250 = .ok (.dup, 1) := dk_dX10_init_245.2.2.2.2.1
theorem dX10_init_251 : decode cX10_init 251 = .ok (.iconst 3, 1) := dk_dX10_init_245.2.2.2.2.2.1
theorem dX10_init_252 : decode cX10_init 252 = .ok (.bipush 115, 2) := dk_dX10_init_245.2.2.2.2.2.2.1
theorem dX10_init_254 : decode cX10_init 254 = .ok (.castore, 1) := dk_dX10_init_245.2.2.2.2.2.2.2.1
theorem dk_dX10_init_245_8 : dz_C cX10_init [(255, .dup, 1), (256, .iconst 4, 1), (257, .bipush 116, 2), (259, .castore, 1), (260, .dup, 1), (261, .iconst 5, 1), (262, .bipush 115, 2), (264, .castore, 1)] := dk_dX10_init_245.2.2.2.2.2.2.2.2
theorem dX10_init_255 : decode cX10_init 255 = .ok (.dup, 1) := dk_dX10_init_245_8.1
theorem dX10_init_256 : decode cX10_init 256 = .ok (.iconst 4, 1) := dk_dX10_init_245_8.2.1
theorem dX10_init_257 : decode cX10_init 257 = .ok (.bipush 116, 2) := dk_dX10_init_245_8.2.2.1
theorem dX10_init_259 : decode cX10_init 259 = .ok (.castore, 1) := dk_dX10_init_245_8.2.2.2.1
theorem dX10_init_260 : decode cX10_init 260 = .ok (.dup, 1) := dk_dX10_init_245_8.2.2.2.2.1
theorem dX10_init_261 : decode cX10_init 261 = .ok (.iconst 5, 1) := dk_dX10_init_245_8.2.2.2.2.2.1
theorem dX10_init_262 : decode cX10_init 262 = .ok (.bipush 115, 2) := dk_dX10_init_245_8.2.2.2.2.2.2.1
theorem dX10_init_264 : decode cX10_init 264 = .ok (.castore, 1) := dk_dX10_init_245_8.2.2.2.2.2.2.2.1
theorem dk_dX10_init_265 : dz_C cX10_init [(265, .putfield 42, 3), (268, .aload_n 0, 1), (269, .iconst 5, 1), (270, .newarray .char, 2), (272, .dup, 1), (273, .iconst 0, 1), (274, .bipush 99, 2), (276, .castore, 1), (277, .dup, 1), (278, .iconst 1, 1), (279, .bipush 111, 2), (281, .castore, 1), (282, .dup, 1), (283, .iconst 2, 1), (284, .bipush 109, 2), (286, .castore, 1)] := dz_of (by decide +kernel)
theorem dX10_init_265 : decode cX10_init 265 = .ok (.putfield 42, 3) := dk_dX10_init_265.1
theorem dX10_init_268 : decode cX10_init 268 = .ok (.aload_n 0, 1) := dk_dX10_init_265.2.1
theorem dX10_init_269 : decode cX10_init 269 = .ok (.iconst 5, 1) := dk_dX10_init_265.2.2.1
theorem dX10_init_270 : decode cX10_init 270 = .ok (.newarray .char, 2) := dk_dX10_init_265.2.2.2.1
theorem dX10_init_272 : decode cX10_init 272 = .ok (.dup, 1) := dk_dX10_init_265.2.2.2.2.1
theorem dX10_init_273 : decode cX10_init 273 = .ok (.iconst 0, 1) := dk_dX10_init_265.2.2.2.2.2.1
theorem dX10_init_274 : decode cX10_init 274 = .ok (.bipush 99, 2) := dk_dX10_init_265.2.2.2.2.2.2.1
theorem dX10_init_276 : decode cX10_init 276 = .ok (.castore, 1) := dk_dX10_init_265.2.2.2.2.2.2.2.1
theorem dk_dX10_init_265_8 : dz_C cX10_init [(277, .dup, 1), (278, .iconst 1, 1), (279, .bipush 111, 2), (281, .castore, 1), (282, .dup, 1), (283, .iconst 2, 1), (284, .bipush 109, 2), (286, .castore, 1)] := dk_dX10_init_265.2.2.2.2.2.2.2.2
theorem dX10_init_277 : decode cX10_init 277 = .ok (.dup, 1) := dk_dX10_init_265_8.1
theorem dX10_init_278 : decode cX10_init 278 = .ok (.iconst 1, 1) := dk_dX10_init_265_8.2.1
theorem dX10_init_279 : decode cX10_init 279 = .ok (.bipush 111, 2) := dk_dX10_init_265_8.2.2.1
theorem dX10_init_281 : decode cX10_init 281 = .ok (.castore, 1) := dk_dX10_init_265_8.2.2.2.1
theorem dX10_init_282 : decode cX10_init 282 = .ok (.dup, 1) := dk_dX10_init_265_8.2.2.2.2.1
theorem dX10_init_283 : decode cX10_init 283 = .ok (.iconst 2, 1) := dk_dX10_init_265_8.2.2.2.2.2.1
theorem dX10_init_284 : decode cX10_init 284 = .ok (.bipush 109, 2) := dk_dX10_init_265_8.2.2.2.2.2.2.1
theorem dX10_init_286 : decode cX10_init 286 = .ok (.castore, 1) := dk_dX10_init_265_8.2.2.2.2.2.2.2.1
theorem dk_dX10_init_287 : dz_C cX10_init [(287, .dup, 1), (288, .iconst 3, 1), (289, .bipush 101, 2), (291, .castore, 1), (292, .dup, 1), (293, .iconst 4, 1), (294, .bipush 115, 2), (296, .castore, 1), (297, .putfield 45, 3), (300, .aload_n 0, 1), (301, .iconst 2, 1), (302, .newarray .char, 2), (304, .dup, 1), (305, .iconst 0, 1), (306, .bipush 105, 2), (308, .castore, 1)] := dz_of (by decide +kernel)
theorem dX10_init_287 : decode cX10_init 287 = .ok (.dup, 1) := dk_dX10_init_287.1
theorem dX10_init_288 : decode cX10_init 288 = .ok (.iconst 3, 1) := dk_dX10_init_287.2.1
theorem dX10_init_289 : decode cX10_init 289 = .ok (.bipush 101, 2) := dk_dX10_init_287.2.2.1
theorem dX10_init_291 : decode cX10_init 291 = .ok (.castore, 1) := dk_dX10_init_287.2.2.2.1
theorem dX10_init_292 : decode cX10_init 292 = .ok (.dup, 1) := dk_dX10_init_287.2.2.2.2.1
theorem dX10_init_293 : decode cX10_init 293 = .ok (.iconst 4, 1) := dk_dX10_init_287.2.2.2.2.2.1
theorem dX10_init_294 : decode cX10_init 294 = .ok (.bipush 115, 2) := dk_dX10_init_287.2.2.2.2.2.2.1
theorem dX10_init_296 : decode cX10_init 296 = .ok (.castore, 1) := dk_dX10_init_287.2.2.2.2.2.2.2.1
theorem dk_dX10_init_287_8 : dz_C cX10_init [(297, .putfield 45, 3), (300, .aload_n 0, 1), (301, .iconst 2, 1), (302, .newarray .char, 2), (304, .dup, 1), (305, .iconst 0, 1), (306, .bipush 105, 2), (308, .castore, 1)] := dk_dX10_init_287.2.2.2.2.2.2.2.2
theorem dX10_init_297 : decode cX10_init 297 = .ok (.putfield 45, 3) := dk_dX10_init_287_8.1
theorem dX10_init_300 : decode cX10_init 300 = .ok (.aload_n 0, 1) := dk_dX10_init_287_8.2.1
theorem dX10_init_301 : decode cX10_init 301 = .ok (.iconst 2, 1) := dk_dX10_init_287_8.2.2.1
theorem dX10_init_302 : decode cX10_init 302 = .ok (.newarray .char, 2) := dk_dX10_init_287_8.2.2.2.1
theorem dX10_init_304 : decode cX10_init 304 = .ok (.dup, 1) := dk_dX10_init_287_8.2.2.2.2.1
theorem dX10_init_305 : decode cX10_init 305 = .ok (.iconst 0, 1) := dk_dX10_init_287_8.2.2.2.2.2.1
theorem dX10_init_306 : decode cX10_init 306 = .ok (.bipush 105, 2) := dk_dX10_init_287_8.2.2.2.2.2.2.1
theorem dX10_init_308 : decode cX10_init 308 = .ok (.castore, 1) := dk_dX10_init_287_8.2.2.2.2.2.2.2.1
theorem dk_dX10_init_309 : dz_C cX10_init [(309, .dup, 1), (310, .iconst 1, 1), (311, .bipush 115, 2), (313, .castore, 1), (314, .putfield 48, 3), (317, .aload_n 0, 1), (318, .iconst 2, 1), (319, .newarray .char, 2), (321, .dup, 1), (322, .iconst 0, 1), (323, .bipush 97, 2), (325, .castore, 1), (326, .dup, 1), (327, .iconst 1, 1), (328, .bipush 116, 2), (330, .castore, 1)] := dz_of (by decide +kernel)
theorem dX10_init_309 : decode cX10_init 309 = .ok (.dup, 1) := dk_dX10_init_309.1
theorem dX10_init_310 : decode cX10_init 310 = .ok (.iconst 1, 1) := dk_dX10_init_309.2.1
theorem dX10_init_311 : decode cX10_init 311 = .ok (.bipush 115, 2) := dk_dX10_init_309.2.2.1
theorem dX10_init_313 : decode cX10_init 313 = .ok (.castore, 1) := dk_dX10_init_309.2.2.2.1
theorem dX10_init_314 : decode cX10_init 314 = .ok (.putfield 48, 3) := dk_dX10_init_309.2.2.2.2.1
theorem dX10_init_317 : decode cX10_init 317 = .ok (.aload_n 0, 1) := dk_dX10_init_309.2.2.2.2.2.1
theorem dX10_init_318 : decode cX10_init 318 = .ok (.iconst 2, 1) := dk_dX10_init_309.2.2.2.2.2.2.1
theorem dX10_init_319 : decode cX10_init 319 = .ok (.newarray .char, 2) := dk_dX10_init_309.2.2.2.2.2.2.2.1
theorem dk_dX10_init_309_8 : dz_C cX10_init [(321, .dup, 1), (322, .iconst 0, 1), (323, .bipush 97, 2), (325, .castore, 1), (326, .dup, 1), (327, .iconst 1, 1), (328, .bipush 116, 2), (330, .castore, 1)] := dk_dX10_init_309.2.2.2.2.2.2.2.2
theorem dX10_init_321 : decode cX10_init 321 = .ok (.dup, 1) := dk_dX10_init_309_8.1
theorem dX10_init_322 : decode cX10_init 322 = .ok (.iconst 0, 1) := dk_dX10_init_309_8.2.1
theorem dX10_init_323 : decode cX10_init 323 = .ok (.bipush 97, 2) := dk_dX10_init_309_8.2.2.1
theorem dX10_init_325 : decode cX10_init 325 = .ok (.castore, 1) := dk_dX10_init_309_8.2.2.2.1
theorem dX10_init_326 : decode cX10_init 326 = .ok (.dup, 1) := dk_dX10_init_309_8.2.2.2.2.1
theorem dX10_init_327 : decode cX10_init 327 = .ok (.iconst 1, 1) := dk_dX10_init_309_8.2.2.2.2.2.1
theorem dX10_init_328 : decode cX10_init 328 = .ok (.bipush 116, 2) := dk_dX10_init_309_8.2.2.2.2.2.2.1
theorem dX10_init_330 : decode cX10_init 330 = .ok (.castore, 1) := dk_dX10_init_309_8.2.2.2.2.2.2.2.1
theorem dk_dX10_init_331 : dz_C cX10_init [(331, .putfield 51, 3), (334, .aload_n 0, 1), (335, .iconst 3, 1), (336, .newarray .char, 2), (338, .dup, 1), (339, .iconst 0, 1), (340, .bipush 99, 2), (342, .castore, 1), (343, .dup, 1), (344, .iconst 1, 1), (345, .bipush 97, 2), (347, .castore, 1), (348, .dup, 1), (349, .iconst 2, 1)] := dz_of (by decide +kernel)
theorem dX10_init_331 : decode cX10_init 331 = .ok (.putfield 51, 3) := dk_dX10_init_331.1
theorem dX10_init_334 : decode cX10_init 334 = .ok (.aload_n 0, 1) := dk_dX10_init_331.2.1
theorem dX10_init_335 : decode cX10_init 335 = .ok (.iconst 3, 1) := dk_dX10_init_331.2.2.1
theorem dX10_init_336 : decode cX10_init 336 = .ok (.newarray .char, 2) := dk_dX10_init_331.2.2.2.1
theorem dX10_init_338 : decode cX10_init 338 = .ok (.dup, 1) := dk_dX10_init_331.2.2.2.2.1
theorem dX10_init_339 : decode cX10_init 339 = .ok (.iconst 0, 1) := dk_dX10_init_331.2.2.2.2.2.1
theorem dX10_init_340 : decode cX10_init 340 = .ok (.bipush 99, 2) := dk_dX10_init_331.2.2.2.2.2.2.1
theorem dX10_init_342 : decode cX10_init 342 = .ok (.castore, 1) := dk_dX10_init_331.2.2.2.2.2.2.2.1
theorem dk_dX10_init_331_8 : dz_C cX10_init [(343, .dup, 1), (344, .iconst 1, 1), (345, .bipush 97, 2), (347, .castore, 1), (348, .dup, 1), (349, .iconst 2, 1)] := dk_dX10_init_331.2.2.2.2.2.2.2.2
theorem dX10_init_343 : decode cX10_init 343 = .ok (.dup, 1) := dk_dX10_init_331_8.1
theorem dX10_init_344 : decode cX10_init 344 = .ok (.iconst 1, 1) := dk_dX10_init_331_8.2.1
theorem dX10_init_345 : decode cX10_init 345 = .ok (.bipush 97, 2) := dk_dX10_init_331_8.2.2.1
theorem dX10_init_347 : decode cX10_init 347 = .ok (.castore, 1) := dk_dX10_init_331_8.2.2.2.1
theorem dX10_init_348 : decode cX10_init 348 = .ok (.dup, 1) := dk_dX10_init_331_8.2.2.2.2.1
theorem dX10_init_349 : decode cX10_init 349 = .ok (.iconst 2, 1) := dk_dX10_init_331_8.2.2.2.2.2.1
