theorem dk_dX10_keeps_48 : dz_C cX10_keeps [(48, .getfield 424, 3), (51, .bipush 20, 2), (53, .if_icmp .ge 13, 3), (56, .aload_n 0, 1), (57, .dup, 1), (58, .getfield 424, 3), (61, .iconst 1, 1), (62, .iadd, 1), (63, .putfield 424, 3), (66, .return_, 1)] := dz_of (by decide +kernel)
theorem dX10_keeps_48 : decode cX10_keeps 48 = .ok (.getfield 424, 3) := dk_dX10_keeps_48.1
theorem dX10_keeps_51 : decode cX10_keeps 51 = .ok (.bipush 20, 2) := dk_dX10_keeps_48.2.1
theorem dX10_keeps_53 : decode cX10_keeps 53 = .ok (.if_icmp .ge 13, 3) := dk_dX10_keeps_48.2.2.1
theorem dX10_keeps_56 : decode cX10_keeps 56 = .ok (.aload_n 0, 1) := dk_dX10_keeps_48.2.2.2.1
theorem dX10_keeps_57 : decode cX10_keeps 57 = .ok (.dup, 1) := dk_dX10_keeps_48.2.2.2.2.1
theorem dX10_keeps_58 : decode cX10_keeps 58 = .ok (.getfield 424, 3) := dk_dX10_keeps_48.2.2.2.2.2.1
theorem dX10_keeps_61 : decode cX10_keeps 61 = .ok (.iconst 1, 1) := dk_dX10_keeps_48.2.2.2.2.2.2.1
theorem dX10_keeps_62 : decode cX10_keeps 62 = .ok (.iadd, 1) := dk_dX10_keeps_48.2.2.2.2.2.2.2.1
theorem dk_dX10_keeps_48_8 : dz_C cX10_keeps [(63, .putfield 424, 3), (66, .return_, 1)] := dk_dX10_keeps_48.2.2.2.2.2.2.2.2
theorem dX10_keeps_63 : decode cX10_keeps 63 = .ok (.putfield 424, 3) := dk_dX10_keeps_48_8.1
theorem dX10_keeps_66 : decode cX10_keeps 66 = .ok (.return_, 1) := dk_dX10_keeps_48_8.2.1
theorem dk_dX10_kind_0 : dz_C cX10_kind [(0, .aload_n 0, 1), (1, .iload_n 1, 1), (2, .invokevirtual 528, 3), (5, .ifCond .ne 5, 3), (8, .iconst (-1), 1), (9, .ireturn, 1), (10, .iconst 0, 1), (11, .istore_n 3, 1), (12, .iconst 0, 1), (13, .istore 4, 2), (15, .iload 4, 2), (17, .aload_n 0, 1), (18, .invokevirtual 433, 3), (21, .if_icmp .ge 26, 3), (24, .aload_n 0, 1), (25, .iload 4, 2)] := dz_of (by decide +kernel)
theorem dX10_kind_0 : decode cX10_kind 0 = .ok (.aload_n 0, 1) := dk_dX10_kind_0.1
theorem dX10_kind_1 : decode cX10_kind 1 = .ok (.iload_n 1, 1) := dk_dX10_kind_0.2.1
theorem dX10_kind_2 : decode cX10_kind 2 = .ok (.invokevirtual 528, 3) := dk_dX10_kind_0.2.2.1
theorem dX10_kind_5 : decode cX10_kind 5 = .ok (.ifCond .ne 5, 3) := dk_dX10_kind_0.2.2.2.1
theorem dX10_kind_8 : decode cX10_kind 8 = .ok (.iconst (-1), 1) := dk_dX10_kind_0.2.2.2.2.1
theorem dX10_kind_9 : decode cX10_kind 9 = .ok (.ireturn, 1) := dk_dX10_kind_0.2.2.2.2.2.1
theorem dX10_kind_10 : decode cX10_kind 10 = .ok (.iconst 0, 1) := dk_dX10_kind_0.2.2.2.2.2.2.1
theorem dX10_kind_11 : decode cX10_kind 11 = .ok (.istore_n 3, 1) := dk_dX10_kind_0.2.2.2.2.2.2.2.1
theorem dk_dX10_kind_0_8 : dz_C cX10_kind [(12, .iconst 0, 1), (13, .istore 4, 2), (15, .iload 4, 2), (17, .aload_n 0, 1), (18, .invokevirtual 433, 3), (21, .if_icmp .ge 26, 3), (24, .aload_n 0, 1), (25, .iload 4, 2)] := dk_dX10_kind_0.2.2.2.2.2.2.2.2
theorem dX10_kind_12 : decode cX10_kind 12 = .ok (.iconst 0, 1) := dk_dX10_kind_0_8.1
theorem dX10_kind_13 : decode cX10_kind 13 = .ok (.istore 4, 2) := dk_dX10_kind_0_8.2.1
theorem dX10_kind_15 : decode cX10_kind 15 = .ok (.iload 4, 2) := dk_dX10_kind_0_8.2.2.1
theorem dX10_kind_17 : decode cX10_kind 17 = .ok (.aload_n 0, 1) := dk_dX10_kind_0_8.2.2.2.1
theorem dX10_kind_18 : decode cX10_kind 18 = .ok (.invokevirtual 433, 3) := dk_dX10_kind_0_8.2.2.2.2.1
theorem dX10_kind_21 : decode cX10_kind 21 = .ok (.if_icmp .ge 26, 3) := dk_dX10_kind_0_8.2.2.2.2.2.1
theorem dX10_kind_24 : decode cX10_kind 24 = .ok (.aload_n 0, 1) := dk_dX10_kind_0_8.2.2.2.2.2.2.1
theorem dX10_kind_25 : decode cX10_kind 25 = .ok (.iload 4, 2) := dk_dX10_kind_0_8.2.2.2.2.2.2.2.1
theorem dk_dX10_kind_27 : dz_C cX10_kind [(27, .invokevirtual 436, 3), (30, .iload_n 1, 1), (31, .if_icmp .ne 10, 3), (34, .iload_n 3, 1), (35, .iconst 1, 1), (36, .iload 4, 2), (38, .ishl, 1), (39, .ior, 1), (40, .istore_n 3, 1), (41, .iinc 4 1, 3), (44, .goto (-29), 3), (47, .iload_n 2, 1), (48, .i2l, 1), (49, .lconst 0, 1), (50, .lconst 1, 1), (51, .invokestatic 318, 3)] := dz_of (by decide +kernel)
theorem dX10_kind_27 : decode cX10_kind 27 = .ok (.invokevirtual 436, 3) := dk_dX10_kind_27.1
theorem dX10_kind_30 : decode cX10_kind 30 = .ok (.iload_n 1, 1) := dk_dX10_kind_27.2.1
theorem dX10_kind_31 : decode cX10_kind 31 = .ok (.if_icmp .ne 10, 3) := dk_dX10_kind_27.2.2.1
theorem dX10_kind_34 : decode cX10_kind 34 = .ok (.iload_n 3, 1) := dk_dX10_kind_27.2.2.2.1
theorem dX10_kind_35 : decode cX10_kind 35 = .ok (.iconst 1, 1) := dk_dX10_kind_27.2.2.2.2.1
theorem dX10_kind_36 : decode cX10_kind 36 = .ok (.iload 4, 2) := dk_dX10_kind_27.2.2.2.2.2.1
theorem dX10_kind_38 : decode cX10_kind 38 = .ok (.ishl, 1) := dk_dX10_kind_27.2.2.2.2.2.2.1
theorem dX10_kind_39 : decode cX10_kind 39 = .ok (.ior, 1) := dk_dX10_kind_27.2.2.2.2.2.2.2.1
theorem dk_dX10_kind_27_8 : dz_C cX10_kind [(40, .istore_n 3, 1), (41, .iinc 4 1, 3), (44, .goto (-29), 3), (47, .iload_n 2, 1), (48, .i2l, 1), (49, .lconst 0, 1), (50, .lconst 1, 1), (51, .invokestatic 318, 3)] := dk_dX10_kind_27.2.2.2.2.2.2.2.2
theorem dX10_kind_40 : decode cX10_kind 40 = .ok (.istore_n 3, 1) := dk_dX10_kind_27_8.1
theorem dX10_kind_41 : decode cX10_kind 41 = .ok (.iinc 4 1, 3) := dk_dX10_kind_27_8.2.1
theorem dX10_kind_44 : decode cX10_kind 44 = .ok (.goto (-29), 3) := dk_dX10_kind_27_8.2.2.1
theorem dX10_kind_47 : decode cX10_kind 47 = .ok (.iload_n 2, 1) := dk_dX10_kind_27_8.2.2.2.1
theorem dX10_kind_48 : decode cX10_kind 48 = .ok (.i2l, 1) := dk_dX10_kind_27_8.2.2.2.2.1
theorem dX10_kind_49 : decode cX10_kind 49 = .ok (.lconst 0, 1) := dk_dX10_kind_27_8.2.2.2.2.2.1
theorem dX10_kind_50 : decode cX10_kind 50 = .ok (.lconst 1, 1) := dk_dX10_kind_27_8.2.2.2.2.2.2.1
theorem dX10_kind_51 : decode cX10_kind 51 = .ok (.invokestatic 318, 3) := dk_dX10_kind_27_8.2.2.2.2.2.2.2.1
theorem dk_dX10_kind_54 : dz_C cX10_kind [(54, .ifCond .eq 19, 3), (57, .aload_n 0, 1), (58, .getfield 121, 3), (61, .bipush 12, 2), (63, .iconst 2, 1), (64, .iload_n 1, 1), (65, .imul, 1), (66, .iadd, 1), (67, .iload_n 2, 1), (68, .iadd, 1), (69, .iaload, 1), (70, .goto 26, 3), (73, .iload_n 2, 1), (74, .iconst 2, 1), (75, .if_icmp .ne 11, 3), (78, .aload_n 0, 1)] := dz_of (by decide +kernel)
theorem dX10_kind_54 : decode cX10_kind 54 = .ok (.ifCond .eq 19, 3) := dk_dX10_kind_54.1
theorem dX10_kind_57 : decode cX10_kind 57 = .ok (.aload_n 0, 1) := dk_dX10_kind_54.2.1
theorem dX10_kind_58 : decode cX10_kind 58 = .ok (.getfield 121, 3) := dk_dX10_kind_54.2.2.1
theorem dX10_kind_61 : decode cX10_kind 61 = .ok (.bipush 12, 2) := dk_dX10_kind_54.2.2.2.1
theorem dX10_kind_63 : decode cX10_kind 63 = .ok (.iconst 2, 1) := dk_dX10_kind_54.2.2.2.2.1
theorem dX10_kind_64 : decode cX10_kind 64 = .ok (.iload_n 1, 1) := dk_dX10_kind_54.2.2.2.2.2.1
theorem dX10_kind_65 : decode cX10_kind 65 = .ok (.imul, 1) := dk_dX10_kind_54.2.2.2.2.2.2.1
theorem dX10_kind_66 : decode cX10_kind 66 = .ok (.iadd, 1) := dk_dX10_kind_54.2.2.2.2.2.2.2.1
theorem dk_dX10_kind_54_8 : dz_C cX10_kind [(67, .iload_n 2, 1), (68, .iadd, 1), (69, .iaload, 1), (70, .goto 26, 3), (73, .iload_n 2, 1), (74, .iconst 2, 1), (75, .if_icmp .ne 11, 3), (78, .aload_n 0, 1)] := dk_dX10_kind_54.2.2.2.2.2.2.2.2
theorem dX10_kind_67 : decode cX10_kind 67 = .ok (.iload_n 2, 1) := dk_dX10_kind_54_8.1
theorem dX10_kind_68 : decode cX10_kind 68 = .ok (.iadd, 1) := dk_dX10_kind_54_8.2.1
theorem dX10_kind_69 : decode cX10_kind 69 = .ok (.iaload, 1) := dk_dX10_kind_54_8.2.2.1
theorem dX10_kind_70 : decode cX10_kind 70 = .ok (.goto 26, 3) := dk_dX10_kind_54_8.2.2.2.1
theorem dX10_kind_73 : decode cX10_kind 73 = .ok (.iload_n 2, 1) := dk_dX10_kind_54_8.2.2.2.2.1
theorem dX10_kind_74 : decode cX10_kind 74 = .ok (.iconst 2, 1) := dk_dX10_kind_54_8.2.2.2.2.2.1
theorem dX10_kind_75 : decode cX10_kind 75 = .ok (.if_icmp .ne 11, 3) := dk_dX10_kind_54_8.2.2.2.2.2.2.1
theorem dX10_kind_78 : decode cX10_kind 78 = .ok (.aload_n 0, 1) := dk_dX10_kind_54_8.2.2.2.2.2.2.2.1
theorem dk_dX10_kind_79 : dz_C cX10_kind [(79, .iload_n 1, 1), (80, .invokevirtual 463, 3), (83, .goto 13, 3), (86, .iload_n 2, 1), (87, .iconst 3, 1), (88, .if_icmp .ne 7, 3), (91, .iload_n 3, 1), (92, .goto 4, 3), (95, .iconst (-1), 1), (96, .ireturn, 1)] := dz_of (by decide +kernel)
theorem dX10_kind_79 : decode cX10_kind 79 = .ok (.iload_n 1, 1) := dk_dX10_kind_79.1
theorem dX10_kind_80 : decode cX10_kind 80 = .ok (.invokevirtual 463, 3) := dk_dX10_kind_79.2.1
theorem dX10_kind_83 : decode cX10_kind 83 = .ok (.goto 13, 3) := dk_dX10_kind_79.2.2.1
theorem dX10_kind_86 : decode cX10_kind 86 = .ok (.iload_n 2, 1) := dk_dX10_kind_79.2.2.2.1
theorem dX10_kind_87 : decode cX10_kind 87 = .ok (.iconst 3, 1) := dk_dX10_kind_79.2.2.2.2.1
theorem dX10_kind_88 : decode cX10_kind 88 = .ok (.if_icmp .ne 7, 3) := dk_dX10_kind_79.2.2.2.2.2.1
theorem dX10_kind_91 : decode cX10_kind 91 = .ok (.iload_n 3, 1) := dk_dX10_kind_79.2.2.2.2.2.2.1
theorem dX10_kind_92 : decode cX10_kind 92 = .ok (.goto 4, 3) := dk_dX10_kind_79.2.2.2.2.2.2.2.1
theorem dk_dX10_kind_79_8 : dz_C cX10_kind [(95, .iconst (-1), 1), (96, .ireturn, 1)] := dk_dX10_kind_79.2.2.2.2.2.2.2.2
theorem dX10_kind_95 : decode cX10_kind 95 = .ok (.iconst (-1), 1) := dk_dX10_kind_79_8.1
theorem dX10_kind_96 : decode cX10_kind 96 = .ok (.ireturn, 1) := dk_dX10_kind_79_8.2.1
theorem dk_dX10_kindMany_0 : dz_C cX10_kindMany [(0, .aload_n 0, 1), (1, .getfield 111, 3), (4, .iconst 2, 1), (5, .iaload, 1), (6, .ireturn, 1)] := dz_of (by decide +kernel)
theorem dX10_kindMany_0 : decode cX10_kindMany 0 = .ok (.aload_n 0, 1) := dk_dX10_kindMany_0.1
theorem dX10_kindMany_1 : decode cX10_kindMany 1 = .ok (.getfield 111, 3) := dk_dX10_kindMany_0.2.1
theorem dX10_kindMany_4 : decode cX10_kindMany 4 = .ok (.iconst 2, 1) := dk_dX10_kindMany_0.2.2.1
theorem dX10_kindMany_5 : decode cX10_kindMany 5 = .ok (.iaload, 1) := dk_dX10_kindMany_0.2.2.2.1
theorem dX10_kindMany_6 : decode cX10_kindMany 6 = .ok (.ireturn, 1) := dk_dX10_kindMany_0.2.2.2.2.1
theorem dk_dX10_kindOf_0 : dz_C cX10_kindOf [(0, .aload_n 0, 1), (1, .getfield 127, 3), (4, .bipush 24, 2), (6, .iconst 2, 1), (7, .iload_n 1, 1), (8, .imul, 1), (9, .iadd, 1), (10, .iaload, 1), (11, .ireturn, 1)] := dz_of (by decide +kernel)
theorem dX10_kindOf_0 : decode cX10_kindOf 0 = .ok (.aload_n 0, 1) := dk_dX10_kindOf_0.1
theorem dX10_kindOf_1 : decode cX10_kindOf 1 = .ok (.getfield 127, 3) := dk_dX10_kindOf_0.2.1
theorem dX10_kindOf_4 : decode cX10_kindOf 4 = .ok (.bipush 24, 2) := dk_dX10_kindOf_0.2.2.1
theorem dX10_kindOf_6 : decode cX10_kindOf 6 = .ok (.iconst 2, 1) := dk_dX10_kindOf_0.2.2.2.1
theorem dX10_kindOf_7 : decode cX10_kindOf 7 = .ok (.iload_n 1, 1) := dk_dX10_kindOf_0.2.2.2.2.1
theorem dX10_kindOf_8 : decode cX10_kindOf 8 = .ok (.imul, 1) := dk_dX10_kindOf_0.2.2.2.2.2.1
theorem dX10_kindOf_9 : decode cX10_kindOf 9 = .ok (.iadd, 1) := dk_dX10_kindOf_0.2.2.2.2.2.2.1
theorem dX10_kindOf_10 : decode cX10_kindOf 10 = .ok (.iaload, 1) := dk_dX10_kindOf_0.2.2.2.2.2.2.2.1
theorem dk_dX10_kindOf_0_8 : dz_C cX10_kindOf [(11, .ireturn, 1)] := dk_dX10_kindOf_0.2.2.2.2.2.2.2.2
theorem dX10_kindOf_11 : decode cX10_kindOf 11 = .ok (.ireturn, 1) := dk_dX10_kindOf_0_8.1
theorem dk_dX10_kindTold_0 : dz_C cX10_kindTold [(0, .aload_n 0, 1), (1, .iconst 0, 1), (2, .bipush 6, 2), (4, .iload_n 1, 1), (5, .invokevirtual 362, 3), (8, .ifCond .eq 4, 3), (11, .return_, 1), (12, .aload_n 0, 1), (13, .invokevirtual 366, 3), (16, .lstore_n 2, 1), (17, .aload_n 0, 1), (18, .aload_n 0, 1), (19, .getfield 36, 3), (22, .invokevirtual 350, 3), (25, .aload_n 0, 1), (26, .iconst 0, 1)] := dz_of (by decide +kernel)
theorem dX10_kindTold_0 : decode cX10_kindTold 0 = .ok (.aload_n 0, 1) := dk_dX10_kindTold_0.1
theorem dX10_kindTold_1 : decode cX10_kindTold 1 = .ok (.iconst 0, 1) := dk_dX10_kindTold_0.2.1
theorem dX10_kindTold_2 : decode cX10_kindTold 2 = .ok (.bipush 6, 2) := dk_dX10_kindTold_0.2.2.1
theorem dX10_kindTold_4 : decode cX10_kindTold 4 = .ok (.iload_n 1, 1) := dk_dX10_kindTold_0.2.2.2.1
theorem dX10_kindTold_5 : decode cX10_kindTold 5 = .ok (.invokevirtual 362, 3) := dk_dX10_kindTold_0.2.2.2.2.1
theorem dX10_kindTold_8 : decode cX10_kindTold 8 = .ok (.ifCond .eq 4, 3) := dk_dX10_kindTold_0.2.2.2.2.2.1
theorem dX10_kindTold_11 : decode cX10_kindTold 11 = .ok (.return_, 1) := dk_dX10_kindTold_0.2.2.2.2.2.2.1
theorem dX10_kindTold_12 : decode cX10_kindTold 12 = .ok (.aload_n 0, 1) := dk_dX10_kindTold_0.2.2.2.2.2.2.2.1
theorem dk_dX10_kindTold_0_8 : dz_C cX10_kindTold [(13, .invokevirtual 366, 3), (16, .lstore_n 2, 1), (17, .aload_n 0, 1), (18, .aload_n 0, 1), (19, .getfield 36, 3), (22, .invokevirtual 350, 3), (25, .aload_n 0, 1), (26, .iconst 0, 1)] := dk_dX10_kindTold_0.2.2.2.2.2.2.2.2
theorem dX10_kindTold_13 : decode cX10_kindTold 13 = .ok (.invokevirtual 366, 3) := dk_dX10_kindTold_0_8.1
theorem dX10_kindTold_16 : decode cX10_kindTold 16 = .ok (.lstore_n 2, 1) := dk_dX10_kindTold_0_8.2.1
theorem dX10_kindTold_17 : decode cX10_kindTold 17 = .ok (.aload_n 0, 1) := dk_dX10_kindTold_0_8.2.2.1
theorem dX10_kindTold_18 : decode cX10_kindTold 18 = .ok (.aload_n 0, 1) := dk_dX10_kindTold_0_8.2.2.2.1
theorem dX10_kindTold_19 : decode cX10_kindTold 19 = .ok (.getfield 36, 3) := dk_dX10_kindTold_0_8.2.2.2.2.1
theorem dX10_kindTold_22 : decode cX10_kindTold 22 = .ok (.invokevirtual 350, 3) := dk_dX10_kindTold_0_8.2.2.2.2.2.1
theorem dX10_kindTold_25 : decode cX10_kindTold 25 = .ok (.aload_n 0, 1) := dk_dX10_kindTold_0_8.2.2.2.2.2.2.1
theorem dX10_kindTold_26 : decode cX10_kindTold 26 = .ok (.iconst 0, 1) := dk_dX10_kindTold_0_8.2.2.2.2.2.2.2.1
theorem dk_dX10_kindTold_27 : dz_C cX10_kindTold [(27, .bipush 99, 2), (29, .invokevirtual 354, 3), (32, .istore 4, 2), (34, .aload_n 0, 1), (35, .aload_n 0, 1), (36, .getfield 39, 3), (39, .invokevirtual 350, 3), (42, .aload_n 0, 1), (43, .iconst 1, 1), (44, .bipush 20, 2), (46, .invokevirtual 354, 3), (49, .istore 5, 2), (51, .aload_n 0, 1), (52, .aload_n 0, 1), (53, .getfield 42, 3), (56, .invokevirtual 350, 3)] := dz_of (by decide +kernel)
theorem dX10_kindTold_27 : decode cX10_kindTold 27 = .ok (.bipush 99, 2) := dk_dX10_kindTold_27.1
theorem dX10_kindTold_29 : decode cX10_kindTold 29 = .ok (.invokevirtual 354, 3) := dk_dX10_kindTold_27.2.1
theorem dX10_kindTold_32 : decode cX10_kindTold 32 = .ok (.istore 4, 2) := dk_dX10_kindTold_27.2.2.1
theorem dX10_kindTold_34 : decode cX10_kindTold 34 = .ok (.aload_n 0, 1) := dk_dX10_kindTold_27.2.2.2.1
theorem dX10_kindTold_35 : decode cX10_kindTold 35 = .ok (.aload_n 0, 1) := dk_dX10_kindTold_27.2.2.2.2.1
theorem dX10_kindTold_36 : decode cX10_kindTold 36 = .ok (.getfield 39, 3) := dk_dX10_kindTold_27.2.2.2.2.2.1
theorem dX10_kindTold_39 : decode cX10_kindTold 39 = .ok (.invokevirtual 350, 3) := dk_dX10_kindTold_27.2.2.2.2.2.2.1
theorem dX10_kindTold_42 : decode cX10_kindTold 42 = .ok (.aload_n 0, 1) := dk_dX10_kindTold_27.2.2.2.2.2.2.2.1
theorem dk_dX10_kindTold_27_8 : dz_C cX10_kindTold [(43, .iconst 1, 1), (44, .bipush 20, 2), (46, .invokevirtual 354, 3), (49, .istore 5, 2), (51, .aload_n 0, 1), (52, .aload_n 0, 1), (53, .getfield 42, 3), (56, .invokevirtual 350, 3)] := dk_dX10_kindTold_27.2.2.2.2.2.2.2.2
theorem dX10_kindTold_43 : decode cX10_kindTold 43 = .ok (.iconst 1, 1) := dk_dX10_kindTold_27_8.1
theorem dX10_kindTold_44 : decode cX10_kindTold 44 = .ok (.bipush 20, 2) := dk_dX10_kindTold_27_8.2.1
theorem dX10_kindTold_46 : decode cX10_kindTold 46 = .ok (.invokevirtual 354, 3) := dk_dX10_kindTold_27_8.2.2.1
theorem dX10_kindTold_49 : decode cX10_kindTold 49 = .ok (.istore 5, 2) := dk_dX10_kindTold_27_8.2.2.2.1
theorem dX10_kindTold_51 : decode cX10_kindTold 51 = .ok (.aload_n 0, 1) := dk_dX10_kindTold_27_8.2.2.2.2.1
theorem dX10_kindTold_52 : decode cX10_kindTold 52 = .ok (.aload_n 0, 1) := dk_dX10_kindTold_27_8.2.2.2.2.2.1
theorem dX10_kindTold_53 : decode cX10_kindTold 53 = .ok (.getfield 42, 3) := dk_dX10_kindTold_27_8.2.2.2.2.2.2.1
theorem dX10_kindTold_56 : decode cX10_kindTold 56 = .ok (.invokevirtual 350, 3) := dk_dX10_kindTold_27_8.2.2.2.2.2.2.2.1
theorem dk_dX10_kindTold_59 : dz_C cX10_kindTold [(59, .aload_n 0, 1), (60, .iconst 0, 1), (61, .bipush 9, 2), (63, .invokevirtual 354, 3), (66, .istore 6, 2), (68, .aload_n 0, 1), (69, .getfield 279, 3), (72, .ifCond .eq 4, 3), (75, .return_, 1), (76, .aload_n 0, 1), (77, .getfield 111, 3), (80, .iconst 0, 1), (81, .iaload, 1), (82, .istore 7, 2), (84, .aload_n 0, 1), (85, .getfield 114, 3)] := dz_of (by decide +kernel)
theorem dX10_kindTold_59 : decode cX10_kindTold 59 = .ok (.aload_n 0, 1) := dk_dX10_kindTold_59.1
theorem dX10_kindTold_60 : decode cX10_kindTold 60 = .ok (.iconst 0, 1) := dk_dX10_kindTold_59.2.1
theorem dX10_kindTold_61 : decode cX10_kindTold 61 = .ok (.bipush 9, 2) := dk_dX10_kindTold_59.2.2.1
theorem dX10_kindTold_63 : decode cX10_kindTold 63 = .ok (.invokevirtual 354, 3) := dk_dX10_kindTold_59.2.2.2.1
theorem dX10_kindTold_66 : decode cX10_kindTold 66 = .ok (.istore 6, 2) := dk_dX10_kindTold_59.2.2.2.2.1
theorem dX10_kindTold_68 : decode cX10_kindTold 68 = .ok (.aload_n 0, 1) := dk_dX10_kindTold_59.2.2.2.2.2.1
theorem dX10_kindTold_69 : decode cX10_kindTold 69 = .ok (.getfield 279, 3) := dk_dX10_kindTold_59.2.2.2.2.2.2.1
theorem dX10_kindTold_72 : decode cX10_kindTold 72 = .ok (.ifCond .eq 4, 3) := dk_dX10_kindTold_59.2.2.2.2.2.2.2.1
theorem dk_dX10_kindTold_59_8 : dz_C cX10_kindTold [(75, .return_, 1), (76, .aload_n 0, 1), (77, .getfield 111, 3), (80, .iconst 0, 1), (81, .iaload, 1), (82, .istore 7, 2), (84, .aload_n 0, 1), (85, .getfield 114, 3)] := dk_dX10_kindTold_59.2.2.2.2.2.2.2.2
theorem dX10_kindTold_75 : decode cX10_kindTold 75 = .ok (.return_, 1) := dk_dX10_kindTold_59_8.1
theorem dX10_kindTold_76 : decode cX10_kindTold 76 = .ok (.aload_n 0, 1) := dk_dX10_kindTold_59_8.2.1
theorem dX10_kindTold_77 : decode cX10_kindTold 77 = .ok (.getfield 111, 3) := dk_dX10_kindTold_59_8.2.2.1
theorem dX10_kindTold_80 : decode cX10_kindTold 80 = .ok (.iconst 0, 1) := dk_dX10_kindTold_59_8.2.2.2.1
theorem dX10_kindTold_81 : decode cX10_kindTold 81 = .ok (.iaload, 1) := dk_dX10_kindTold_59_8.2.2.2.2.1
theorem dX10_kindTold_82 : decode cX10_kindTold 82 = .ok (.istore 7, 2) := dk_dX10_kindTold_59_8.2.2.2.2.2.1
theorem dX10_kindTold_84 : decode cX10_kindTold 84 = .ok (.aload_n 0, 1) := dk_dX10_kindTold_59_8.2.2.2.2.2.2.1
theorem dX10_kindTold_85 : decode cX10_kindTold 85 = .ok (.getfield 114, 3) := dk_dX10_kindTold_59_8.2.2.2.2.2.2.2.1
theorem dk_dX10_kindTold_88 : dz_C cX10_kindTold [(88, .iload 7, 2), (90, .lload_n 2, 1), (91, .lastore, 1), (92, .aload_n 0, 1), (93, .getfield 121, 3), (96, .iconst 2, 1), (97, .iload 7, 2), (99, .imul, 1), (100, .iload 4, 2), (102, .iastore, 1), (103, .aload_n 0, 1), (104, .getfield 121, 3), (107, .iconst 2, 1), (108, .iload 7, 2), (110, .imul, 1), (111, .iconst 1, 1)] := dz_of (by decide +kernel)
theorem dX10_kindTold_88 : decode cX10_kindTold 88 = .ok (.iload 7, 2) := dk_dX10_kindTold_88.1
theorem dX10_kindTold_90 : decode cX10_kindTold 90 = .ok (.lload_n 2, 1) := dk_dX10_kindTold_88.2.1
theorem dX10_kindTold_91 : decode cX10_kindTold 91 = .ok (.lastore, 1) := dk_dX10_kindTold_88.2.2.1
theorem dX10_kindTold_92 : decode cX10_kindTold 92 = .ok (.aload_n 0, 1) := dk_dX10_kindTold_88.2.2.2.1
theorem dX10_kindTold_93 : decode cX10_kindTold 93 = .ok (.getfield 121, 3) := dk_dX10_kindTold_88.2.2.2.2.1
theorem dX10_kindTold_96 : decode cX10_kindTold 96 = .ok (.iconst 2, 1) := dk_dX10_kindTold_88.2.2.2.2.2.1
theorem dX10_kindTold_97 : decode cX10_kindTold 97 = .ok (.iload 7, 2) := dk_dX10_kindTold_88.2.2.2.2.2.2.1
theorem dX10_kindTold_99 : decode cX10_kindTold 99 = .ok (.imul, 1) := dk_dX10_kindTold_88.2.2.2.2.2.2.2.1
theorem dk_dX10_kindTold_88_8 : dz_C cX10_kindTold [(100, .iload 4, 2), (102, .iastore, 1), (103, .aload_n 0, 1), (104, .getfield 121, 3), (107, .iconst 2, 1), (108, .iload 7, 2), (110, .imul, 1), (111, .iconst 1, 1)] := dk_dX10_kindTold_88.2.2.2.2.2.2.2.2
theorem dX10_kindTold_100 : decode cX10_kindTold 100 = .ok (.iload 4, 2) := dk_dX10_kindTold_88_8.1
theorem dX10_kindTold_102 : decode cX10_kindTold 102 = .ok (.iastore, 1) := dk_dX10_kindTold_88_8.2.1
theorem dX10_kindTold_103 : decode cX10_kindTold 103 = .ok (.aload_n 0, 1) := dk_dX10_kindTold_88_8.2.2.1
theorem dX10_kindTold_104 : decode cX10_kindTold 104 = .ok (.getfield 121, 3) := dk_dX10_kindTold_88_8.2.2.2.1
theorem dX10_kindTold_107 : decode cX10_kindTold 107 = .ok (.iconst 2, 1) := dk_dX10_kindTold_88_8.2.2.2.2.1
theorem dX10_kindTold_108 : decode cX10_kindTold 108 = .ok (.iload 7, 2) := dk_dX10_kindTold_88_8.2.2.2.2.2.1
theorem dX10_kindTold_110 : decode cX10_kindTold 110 = .ok (.imul, 1) := dk_dX10_kindTold_88_8.2.2.2.2.2.2.1
theorem dX10_kindTold_111 : decode cX10_kindTold 111 = .ok (.iconst 1, 1) := dk_dX10_kindTold_88_8.2.2.2.2.2.2.2.1
theorem dk_dX10_kindTold_112 : dz_C cX10_kindTold [(112, .iadd, 1), (113, .iload 5, 2), (115, .iastore, 1), (116, .aload_n 0, 1), (117, .getfield 124, 3), (120, .iload 7, 2), (122, .iload 6, 2), (124, .iastore, 1), (125, .aload_n 0, 1), (126, .getfield 111, 3), (129, .iconst 0, 1), (130, .dup2, 1), (131, .iaload, 1), (132, .iconst 1, 1), (133, .iadd, 1), (134, .iastore, 1)] := dz_of (by decide +kernel)
theorem dX10_kindTold_112 : decode cX10_kindTold 112 = .ok (.iadd, 1) := dk_dX10_kindTold_112.1
theorem dX10_kindTold_113 : decode cX10_kindTold 113 = .ok (.iload 5, 2) := dk_dX10_kindTold_112.2.1
theorem dX10_kindTold_115 : decode cX10_kindTold 115 = .ok (.iastore, 1) := dk_dX10_kindTold_112.2.2.1
theorem dX10_kindTold_116 : decode cX10_kindTold 116 = .ok (.aload_n 0, 1) := dk_dX10_kindTold_112.2.2.2.1
theorem dX10_kindTold_117 : decode cX10_kindTold 117 = .ok (.getfield 124, 3) := dk_dX10_kindTold_112.2.2.2.2.1
theorem dX10_kindTold_120 : decode cX10_kindTold 120 = .ok (.iload 7, 2) := dk_dX10_kindTold_112.2.2.2.2.2.1
theorem dX10_kindTold_122 : decode cX10_kindTold 122 = .ok (.iload 6, 2) := dk_dX10_kindTold_112.2.2.2.2.2.2.1
theorem dX10_kindTold_124 : decode cX10_kindTold 124 = .ok (.iastore, 1) := dk_dX10_kindTold_112.2.2.2.2.2.2.2.1
theorem dk_dX10_kindTold_112_8 : dz_C cX10_kindTold [(125, .aload_n 0, 1), (126, .getfield 111, 3), (129, .iconst 0, 1), (130, .dup2, 1), (131, .iaload, 1), (132, .iconst 1, 1), (133, .iadd, 1), (134, .iastore, 1)] := dk_dX10_kindTold_112.2.2.2.2.2.2.2.2
theorem dX10_kindTold_125 : decode cX10_kindTold 125 = .ok (.aload_n 0, 1) := dk_dX10_kindTold_112_8.1
theorem dX10_kindTold_126 : decode cX10_kindTold 126 = .ok (.getfield 111, 3) := dk_dX10_kindTold_112_8.2.1
theorem dX10_kindTold_129 : decode cX10_kindTold 129 = .ok (.iconst 0, 1) := dk_dX10_kindTold_112_8.2.2.1
theorem dX10_kindTold_130 : decode cX10_kindTold 130 = .ok (.dup2, 1) := dk_dX10_kindTold_112_8.2.2.2.1
theorem dX10_kindTold_131 : decode cX10_kindTold 131 = .ok (.iaload, 1) := dk_dX10_kindTold_112_8.2.2.2.2.1
theorem dX10_kindTold_132 : decode cX10_kindTold 132 = .ok (.iconst 1, 1) := dk_dX10_kindTold_112_8.2.2.2.2.2.1
theorem dX10_kindTold_133 : decode cX10_kindTold 133 = .ok (.iadd, 1) := dk_dX10_kindTold_112_8.2.2.2.2.2.2.1
theorem dX10_kindTold_134 : decode cX10_kindTold 134 = .ok (.iastore, 1) := dk_dX10_kindTold_112_8.2.2.2.2.2.2.2.1
theorem dk_dX10_kindTold_135 : dz_C cX10_kindTold [(135, .return_, 1)] := dz_of (by decide +kernel)
theorem dX10_kindTold_135 : decode cX10_kindTold 135 = .ok (.return_, 1) := dk_dX10_kindTold_135.1
theorem dk_dX10_later_0 : dz_C cX10_later [(0, .aload_n 0, 1), (1, .iload_n 1, 1), (2, .iconst 0, 1), (3, .bipush 29, 2), (5, .invokevirtual 554, 3), (8, .ifCond .eq 15, 3), (11, .iload_n 2, 1), (12, .i2l, 1), (13, .lconst 0, 1), (14, .ldc2_w 526, 3), (17, .invokestatic 318, 3), (20, .ifCond .ne 5, 3), (23, .iconst (-1), 1), (24, .ireturn, 1), (25, .aload_n 0, 1), (26, .invokevirtual 557, 3)] := dz_of (by decide +kernel)
theorem dX10_later_0 : decode cX10_later 0 = .ok (.aload_n 0, 1) := dk_dX10_later_0.1
theorem dX10_later_1 : decode cX10_later 1 = .ok (.iload_n 1, 1) := dk_dX10_later_0.2.1
theorem dX10_later_2 : decode cX10_later 2 = .ok (.iconst 0, 1) := dk_dX10_later_0.2.2.1
theorem dX10_later_3 : decode cX10_later 3 = .ok (.bipush 29, 2) := dk_dX10_later_0.2.2.2.1
theorem dX10_later_5 : decode cX10_later 5 = .ok (.invokevirtual 554, 3) := dk_dX10_later_0.2.2.2.2.1
theorem dX10_later_8 : decode cX10_later 8 = .ok (.ifCond .eq 15, 3) := dk_dX10_later_0.2.2.2.2.2.1
theorem dX10_later_11 : decode cX10_later 11 = .ok (.iload_n 2, 1) := dk_dX10_later_0.2.2.2.2.2.2.1
theorem dX10_later_12 : decode cX10_later 12 = .ok (.i2l, 1) := dk_dX10_later_0.2.2.2.2.2.2.2.1
theorem dk_dX10_later_0_8 : dz_C cX10_later [(13, .lconst 0, 1), (14, .ldc2_w 526, 3), (17, .invokestatic 318, 3), (20, .ifCond .ne 5, 3), (23, .iconst (-1), 1), (24, .ireturn, 1), (25, .aload_n 0, 1), (26, .invokevirtual 557, 3)] := dk_dX10_later_0.2.2.2.2.2.2.2.2
theorem dX10_later_13 : decode cX10_later 13 = .ok (.lconst 0, 1) := dk_dX10_later_0_8.1
theorem dX10_later_14 : decode cX10_later 14 = .ok (.ldc2_w 526, 3) := dk_dX10_later_0_8.2.1
theorem dX10_later_17 : decode cX10_later 17 = .ok (.invokestatic 318, 3) := dk_dX10_later_0_8.2.2.1
theorem dX10_later_20 : decode cX10_later 20 = .ok (.ifCond .ne 5, 3) := dk_dX10_later_0_8.2.2.2.1
theorem dX10_later_23 : decode cX10_later 23 = .ok (.iconst (-1), 1) := dk_dX10_later_0_8.2.2.2.2.1
theorem dX10_later_24 : decode cX10_later 24 = .ok (.ireturn, 1) := dk_dX10_later_0_8.2.2.2.2.2.1
theorem dX10_later_25 : decode cX10_later 25 = .ok (.aload_n 0, 1) := dk_dX10_later_0_8.2.2.2.2.2.2.1
theorem dX10_later_26 : decode cX10_later 26 = .ok (.invokevirtual 557, 3) := dk_dX10_later_0_8.2.2.2.2.2.2.2.1
theorem dk_dX10_later_29 : dz_C cX10_later [(29, .iconst 0, 1), (30, .istore_n 3, 1), (31, .iload_n 3, 1), (32, .iload_n 1, 1), (33, .if_icmp .ge 15, 3), (36, .aload_n 0, 1), (37, .iconst 0, 1), (38, .invokevirtual 560, 3), (41, .pop, 1), (42, .iinc 3 1, 3), (45, .goto (-14), 3), (48, .aload_n 0, 1), (49, .invokevirtual 534, 3), (52, .aload_n 0, 1), (53, .iload_n 2, 1), (54, .invokevirtual 541, 3)] := dz_of (by decide +kernel)
theorem dX10_later_29 : decode cX10_later 29 = .ok (.iconst 0, 1) := dk_dX10_later_29.1
theorem dX10_later_30 : decode cX10_later 30 = .ok (.istore_n 3, 1) := dk_dX10_later_29.2.1
theorem dX10_later_31 : decode cX10_later 31 = .ok (.iload_n 3, 1) := dk_dX10_later_29.2.2.1
theorem dX10_later_32 : decode cX10_later 32 = .ok (.iload_n 1, 1) := dk_dX10_later_29.2.2.2.1
theorem dX10_later_33 : decode cX10_later 33 = .ok (.if_icmp .ge 15, 3) := dk_dX10_later_29.2.2.2.2.1
theorem dX10_later_36 : decode cX10_later 36 = .ok (.aload_n 0, 1) := dk_dX10_later_29.2.2.2.2.2.1
theorem dX10_later_37 : decode cX10_later 37 = .ok (.iconst 0, 1) := dk_dX10_later_29.2.2.2.2.2.2.1
theorem dX10_later_38 : decode cX10_later 38 = .ok (.invokevirtual 560, 3) := dk_dX10_later_29.2.2.2.2.2.2.2.1
theorem dk_dX10_later_29_8 : dz_C cX10_later [(41, .pop, 1), (42, .iinc 3 1, 3), (45, .goto (-14), 3), (48, .aload_n 0, 1), (49, .invokevirtual 534, 3), (52, .aload_n 0, 1), (53, .iload_n 2, 1), (54, .invokevirtual 541, 3)] := dk_dX10_later_29.2.2.2.2.2.2.2.2
theorem dX10_later_41 : decode cX10_later 41 = .ok (.pop, 1) := dk_dX10_later_29_8.1
theorem dX10_later_42 : decode cX10_later 42 = .ok (.iinc 3 1, 3) := dk_dX10_later_29_8.2.1
theorem dX10_later_45 : decode cX10_later 45 = .ok (.goto (-14), 3) := dk_dX10_later_29_8.2.2.1
theorem dX10_later_48 : decode cX10_later 48 = .ok (.aload_n 0, 1) := dk_dX10_later_29_8.2.2.2.1
theorem dX10_later_49 : decode cX10_later 49 = .ok (.invokevirtual 534, 3) := dk_dX10_later_29_8.2.2.2.2.1
theorem dX10_later_52 : decode cX10_later 52 = .ok (.aload_n 0, 1) := dk_dX10_later_29_8.2.2.2.2.2.1
theorem dX10_later_53 : decode cX10_later 53 = .ok (.iload_n 2, 1) := dk_dX10_later_29_8.2.2.2.2.2.2.1
theorem dX10_later_54 : decode cX10_later 54 = .ok (.invokevirtual 541, 3) := dk_dX10_later_29_8.2.2.2.2.2.2.2.1
theorem dk_dX10_later_57 : dz_C cX10_later [(57, .istore_n 3, 1), (58, .aload_n 0, 1), (59, .invokevirtual 563, 3), (62, .iload_n 3, 1), (63, .ireturn, 1)] := dz_of (by decide +kernel)
theorem dX10_later_57 : decode cX10_later 57 = .ok (.istore_n 3, 1) := dk_dX10_later_57.1
theorem dX10_later_58 : decode cX10_later 58 = .ok (.aload_n 0, 1) := dk_dX10_later_57.2.1
theorem dX10_later_59 : decode cX10_later 59 = .ok (.invokevirtual 563, 3) := dk_dX10_later_57.2.2.1
theorem dX10_later_62 : decode cX10_later 62 = .ok (.iload_n 3, 1) := dk_dX10_later_57.2.2.2.1
theorem dX10_later_63 : decode cX10_later 63 = .ok (.ireturn, 1) := dk_dX10_later_57.2.2.2.2.1
theorem dk_dX10_laysCars_0 : dz_C cX10_laysCars [(0, .iconst 0, 1), (1, .istore_n 1, 1), (2, .iload_n 1, 1), (3, .sipush 320, 3), (6, .if_icmp .ge 46, 3), (9, .aload_n 0, 1), (10, .iload_n 1, 1), (11, .putfield 454, 3), (14, .aload_n 0, 1), (15, .getfield 145, 3), (18, .iload_n 1, 1), (19, .aload_n 0, 1), (20, .getfield 130, 3), (23, .iconst 3, 1), (24, .iaload, 1), (25, .iconst (-1), 1)] := dz_of (by decide +kernel)
theorem dX10_laysCars_0 : decode cX10_laysCars 0 = .ok (.iconst 0, 1) := dk_dX10_laysCars_0.1
theorem dX10_laysCars_1 : decode cX10_laysCars 1 = .ok (.istore_n 1, 1) := dk_dX10_laysCars_0.2.1
theorem dX10_laysCars_2 : decode cX10_laysCars 2 = .ok (.iload_n 1, 1) := dk_dX10_laysCars_0.2.2.1
theorem dX10_laysCars_3 : decode cX10_laysCars 3 = .ok (.sipush 320, 3) := dk_dX10_laysCars_0.2.2.2.1
theorem dX10_laysCars_6 : decode cX10_laysCars 6 = .ok (.if_icmp .ge 46, 3) := dk_dX10_laysCars_0.2.2.2.2.1
theorem dX10_laysCars_9 : decode cX10_laysCars 9 = .ok (.aload_n 0, 1) := dk_dX10_laysCars_0.2.2.2.2.2.1
theorem dX10_laysCars_10 : decode cX10_laysCars 10 = .ok (.iload_n 1, 1) := dk_dX10_laysCars_0.2.2.2.2.2.2.1
theorem dX10_laysCars_11 : decode cX10_laysCars 11 = .ok (.putfield 454, 3) := dk_dX10_laysCars_0.2.2.2.2.2.2.2.1
theorem dk_dX10_laysCars_0_8 : dz_C cX10_laysCars [(14, .aload_n 0, 1), (15, .getfield 145, 3), (18, .iload_n 1, 1), (19, .aload_n 0, 1), (20, .getfield 130, 3), (23, .iconst 3, 1), (24, .iaload, 1), (25, .iconst (-1), 1)] := dk_dX10_laysCars_0.2.2.2.2.2.2.2.2
theorem dX10_laysCars_14 : decode cX10_laysCars 14 = .ok (.aload_n 0, 1) := dk_dX10_laysCars_0_8.1
theorem dX10_laysCars_15 : decode cX10_laysCars 15 = .ok (.getfield 145, 3) := dk_dX10_laysCars_0_8.2.1
theorem dX10_laysCars_18 : decode cX10_laysCars 18 = .ok (.iload_n 1, 1) := dk_dX10_laysCars_0_8.2.2.1
theorem dX10_laysCars_19 : decode cX10_laysCars 19 = .ok (.aload_n 0, 1) := dk_dX10_laysCars_0_8.2.2.2.1
theorem dX10_laysCars_20 : decode cX10_laysCars 20 = .ok (.getfield 130, 3) := dk_dX10_laysCars_0_8.2.2.2.2.1
theorem dX10_laysCars_23 : decode cX10_laysCars 23 = .ok (.iconst 3, 1) := dk_dX10_laysCars_0_8.2.2.2.2.2.1
theorem dX10_laysCars_24 : decode cX10_laysCars 24 = .ok (.iaload, 1) := dk_dX10_laysCars_0_8.2.2.2.2.2.2.1
theorem dX10_laysCars_25 : decode cX10_laysCars 25 = .ok (.iconst (-1), 1) := dk_dX10_laysCars_0_8.2.2.2.2.2.2.2.1
theorem dk_dX10_laysCars_26 : dz_C cX10_laysCars [(26, .if_icmp .eq 18, 3), (29, .aload_n 0, 1), (30, .iconst 0, 1), (31, .iconst 0, 1), (32, .invokevirtual 457, 3), (35, .lconst 1, 1), (36, .lcmp, 1), (37, .ifCond .ne 7, 3), (40, .iconst 1, 1), (41, .goto 4, 3), (44, .iconst 0, 1), (45, .bastore, 1), (46, .iinc 1 1, 3), (49, .goto (-47), 3), (52, .iconst 0, 1), (53, .istore_n 1, 1)] := dz_of (by decide +kernel)
theorem dX10_laysCars_26 : decode cX10_laysCars 26 = .ok (.if_icmp .eq 18, 3) := dk_dX10_laysCars_26.1
theorem dX10_laysCars_29 : decode cX10_laysCars 29 = .ok (.aload_n 0, 1) := dk_dX10_laysCars_26.2.1
theorem dX10_laysCars_30 : decode cX10_laysCars 30 = .ok (.iconst 0, 1) := dk_dX10_laysCars_26.2.2.1
theorem dX10_laysCars_31 : decode cX10_laysCars 31 = .ok (.iconst 0, 1) := dk_dX10_laysCars_26.2.2.2.1
theorem dX10_laysCars_32 : decode cX10_laysCars 32 = .ok (.invokevirtual 457, 3) := dk_dX10_laysCars_26.2.2.2.2.1
theorem dX10_laysCars_35 : decode cX10_laysCars 35 = .ok (.lconst 1, 1) := dk_dX10_laysCars_26.2.2.2.2.2.1
theorem dX10_laysCars_36 : decode cX10_laysCars 36 = .ok (.lcmp, 1) := dk_dX10_laysCars_26.2.2.2.2.2.2.1
theorem dX10_laysCars_37 : decode cX10_laysCars 37 = .ok (.ifCond .ne 7, 3) := dk_dX10_laysCars_26.2.2.2.2.2.2.2.1
theorem dk_dX10_laysCars_26_8 : dz_C cX10_laysCars [(40, .iconst 1, 1), (41, .goto 4, 3), (44, .iconst 0, 1), (45, .bastore, 1), (46, .iinc 1 1, 3), (49, .goto (-47), 3), (52, .iconst 0, 1), (53, .istore_n 1, 1)] := dk_dX10_laysCars_26.2.2.2.2.2.2.2.2
theorem dX10_laysCars_40 : decode cX10_laysCars 40 = .ok (.iconst 1, 1) := dk_dX10_laysCars_26_8.1
theorem dX10_laysCars_41 : decode cX10_laysCars 41 = .ok (.goto 4, 3) := dk_dX10_laysCars_26_8.2.1
theorem dX10_laysCars_44 : decode cX10_laysCars 44 = .ok (.iconst 0, 1) := dk_dX10_laysCars_26_8.2.2.1
theorem dX10_laysCars_45 : decode cX10_laysCars 45 = .ok (.bastore, 1) := dk_dX10_laysCars_26_8.2.2.2.1
theorem dX10_laysCars_46 : decode cX10_laysCars 46 = .ok (.iinc 1 1, 3) := dk_dX10_laysCars_26_8.2.2.2.2.1
theorem dX10_laysCars_49 : decode cX10_laysCars 49 = .ok (.goto (-47), 3) := dk_dX10_laysCars_26_8.2.2.2.2.2.1
theorem dX10_laysCars_52 : decode cX10_laysCars 52 = .ok (.iconst 0, 1) := dk_dX10_laysCars_26_8.2.2.2.2.2.2.1
theorem dX10_laysCars_53 : decode cX10_laysCars 53 = .ok (.istore_n 1, 1) := dk_dX10_laysCars_26_8.2.2.2.2.2.2.2.1
theorem dk_dX10_laysCars_54 : dz_C cX10_laysCars [(54, .iload_n 1, 1), (55, .sipush 300, 3), (58, .if_icmp .ge 56, 3), (61, .aload_n 0, 1), (62, .getfield 149, 3), (65, .iload_n 1, 1), (66, .iconst 0, 1), (67, .iastore, 1), (68, .aload_n 0, 1), (69, .getfield 149, 3), (72, .iload_n 1, 1), (73, .iaload, 1), (74, .bipush 20, 2), (76, .if_icmp .ge 32, 3), (79, .aload_n 0, 1), (80, .getfield 145, 3)] := dz_of (by decide +kernel)
theorem dX10_laysCars_54 : decode cX10_laysCars 54 = .ok (.iload_n 1, 1) := dk_dX10_laysCars_54.1
theorem dX10_laysCars_55 : decode cX10_laysCars 55 = .ok (.sipush 300, 3) := dk_dX10_laysCars_54.2.1
theorem dX10_laysCars_58 : decode cX10_laysCars 58 = .ok (.if_icmp .ge 56, 3) := dk_dX10_laysCars_54.2.2.1
theorem dX10_laysCars_61 : decode cX10_laysCars 61 = .ok (.aload_n 0, 1) := dk_dX10_laysCars_54.2.2.2.1
theorem dX10_laysCars_62 : decode cX10_laysCars 62 = .ok (.getfield 149, 3) := dk_dX10_laysCars_54.2.2.2.2.1
theorem dX10_laysCars_65 : decode cX10_laysCars 65 = .ok (.iload_n 1, 1) := dk_dX10_laysCars_54.2.2.2.2.2.1
theorem dX10_laysCars_66 : decode cX10_laysCars 66 = .ok (.iconst 0, 1) := dk_dX10_laysCars_54.2.2.2.2.2.2.1
theorem dX10_laysCars_67 : decode cX10_laysCars 67 = .ok (.iastore, 1) := dk_dX10_laysCars_54.2.2.2.2.2.2.2.1
theorem dk_dX10_laysCars_54_8 : dz_C cX10_laysCars [(68, .aload_n 0, 1), (69, .getfield 149, 3), (72, .iload_n 1, 1), (73, .iaload, 1), (74, .bipush 20, 2), (76, .if_icmp .ge 32, 3), (79, .aload_n 0, 1), (80, .getfield 145, 3)] := dk_dX10_laysCars_54.2.2.2.2.2.2.2.2
theorem dX10_laysCars_68 : decode cX10_laysCars 68 = .ok (.aload_n 0, 1) := dk_dX10_laysCars_54_8.1
theorem dX10_laysCars_69 : decode cX10_laysCars 69 = .ok (.getfield 149, 3) := dk_dX10_laysCars_54_8.2.1
theorem dX10_laysCars_72 : decode cX10_laysCars 72 = .ok (.iload_n 1, 1) := dk_dX10_laysCars_54_8.2.2.1
theorem dX10_laysCars_73 : decode cX10_laysCars 73 = .ok (.iaload, 1) := dk_dX10_laysCars_54_8.2.2.2.1
theorem dX10_laysCars_74 : decode cX10_laysCars 74 = .ok (.bipush 20, 2) := dk_dX10_laysCars_54_8.2.2.2.2.1
theorem dX10_laysCars_76 : decode cX10_laysCars 76 = .ok (.if_icmp .ge 32, 3) := dk_dX10_laysCars_54_8.2.2.2.2.2.1
theorem dX10_laysCars_79 : decode cX10_laysCars 79 = .ok (.aload_n 0, 1) := dk_dX10_laysCars_54_8.2.2.2.2.2.2.1
theorem dX10_laysCars_80 : decode cX10_laysCars 80 = .ok (.getfield 145, 3) := dk_dX10_laysCars_54_8.2.2.2.2.2.2.2.1
theorem dk_dX10_laysCars_83 : dz_C cX10_laysCars [(83, .iload_n 1, 1), (84, .aload_n 0, 1), (85, .getfield 149, 3), (88, .iload_n 1, 1), (89, .iaload, 1), (90, .iadd, 1), (91, .baload, 1), (92, .ifCond .ne 16, 3), (95, .aload_n 0, 1), (96, .getfield 149, 3), (99, .iload_n 1, 1), (100, .dup2, 1), (101, .iaload, 1), (102, .iconst 1, 1), (103, .iadd, 1), (104, .iastore, 1)] := dz_of (by decide +kernel)
theorem dX10_laysCars_83 : decode cX10_laysCars 83 = .ok (.iload_n 1, 1) := dk_dX10_laysCars_83.1
theorem dX10_laysCars_84 : decode cX10_laysCars 84 = .ok (.aload_n 0, 1) := dk_dX10_laysCars_83.2.1
theorem dX10_laysCars_85 : decode cX10_laysCars 85 = .ok (.getfield 149, 3) := dk_dX10_laysCars_83.2.2.1
theorem dX10_laysCars_88 : decode cX10_laysCars 88 = .ok (.iload_n 1, 1) := dk_dX10_laysCars_83.2.2.2.1
theorem dX10_laysCars_89 : decode cX10_laysCars 89 = .ok (.iaload, 1) := dk_dX10_laysCars_83.2.2.2.2.1
theorem dX10_laysCars_90 : decode cX10_laysCars 90 = .ok (.iadd, 1) := dk_dX10_laysCars_83.2.2.2.2.2.1
theorem dX10_laysCars_91 : decode cX10_laysCars 91 = .ok (.baload, 1) := dk_dX10_laysCars_83.2.2.2.2.2.2.1
theorem dX10_laysCars_92 : decode cX10_laysCars 92 = .ok (.ifCond .ne 16, 3) := dk_dX10_laysCars_83.2.2.2.2.2.2.2.1
theorem dk_dX10_laysCars_83_8 : dz_C cX10_laysCars [(95, .aload_n 0, 1), (96, .getfield 149, 3), (99, .iload_n 1, 1), (100, .dup2, 1), (101, .iaload, 1), (102, .iconst 1, 1), (103, .iadd, 1), (104, .iastore, 1)] := dk_dX10_laysCars_83.2.2.2.2.2.2.2.2
theorem dX10_laysCars_95 : decode cX10_laysCars 95 = .ok (.aload_n 0, 1) := dk_dX10_laysCars_83_8.1
theorem dX10_laysCars_96 : decode cX10_laysCars 96 = .ok (.getfield 149, 3) := dk_dX10_laysCars_83_8.2.1
theorem dX10_laysCars_99 : decode cX10_laysCars 99 = .ok (.iload_n 1, 1) := dk_dX10_laysCars_83_8.2.2.1
theorem dX10_laysCars_100 : decode cX10_laysCars 100 = .ok (.dup2, 1) := dk_dX10_laysCars_83_8.2.2.2.1
theorem dX10_laysCars_101 : decode cX10_laysCars 101 = .ok (.iaload, 1) := dk_dX10_laysCars_83_8.2.2.2.2.1
theorem dX10_laysCars_102 : decode cX10_laysCars 102 = .ok (.iconst 1, 1) := dk_dX10_laysCars_83_8.2.2.2.2.2.1
theorem dX10_laysCars_103 : decode cX10_laysCars 103 = .ok (.iadd, 1) := dk_dX10_laysCars_83_8.2.2.2.2.2.2.1
theorem dX10_laysCars_104 : decode cX10_laysCars 104 = .ok (.iastore, 1) := dk_dX10_laysCars_83_8.2.2.2.2.2.2.2.1
theorem dk_dX10_laysCars_105 : dz_C cX10_laysCars [(105, .goto (-37), 3), (108, .iinc 1 1, 3), (111, .goto (-57), 3), (114, .return_, 1)] := dz_of (by decide +kernel)
theorem dX10_laysCars_105 : decode cX10_laysCars 105 = .ok (.goto (-37), 3) := dk_dX10_laysCars_105.1
theorem dX10_laysCars_108 : decode cX10_laysCars 108 = .ok (.iinc 1 1, 3) := dk_dX10_laysCars_105.2.1
theorem dX10_laysCars_111 : decode cX10_laysCars 111 = .ok (.goto (-57), 3) := dk_dX10_laysCars_105.2.2.1
theorem dX10_laysCars_114 : decode cX10_laysCars 114 = .ok (.return_, 1) := dk_dX10_laysCars_105.2.2.2.1
theorem dk_dX10_laysFits_0 : dz_C cX10_laysFits [(0, .aload_n 0, 1), (1, .invokevirtual 501, 3), (4, .aload_n 0, 1), (5, .iconst 0, 1), (6, .putfield 570, 3), (9, .aload_n 0, 1), (10, .iconst 0, 1), (11, .putfield 573, 3), (14, .aload_n 0, 1), (15, .iconst (-1), 1), (16, .putfield 576, 3), (19, .iconst 1, 1), (20, .istore_n 1, 1), (21, .aload_n 0, 1), (22, .iload_n 1, 1), (23, .bipush 20, 2)] := dz_of (by decide +kernel)
theorem dX10_laysFits_0 : decode cX10_laysFits 0 = .ok (.aload_n 0, 1) := dk_dX10_laysFits_0.1
theorem dX10_laysFits_1 : decode cX10_laysFits 1 = .ok (.invokevirtual 501, 3) := dk_dX10_laysFits_0.2.1
theorem dX10_laysFits_4 : decode cX10_laysFits 4 = .ok (.aload_n 0, 1) := dk_dX10_laysFits_0.2.2.1
theorem dX10_laysFits_5 : decode cX10_laysFits 5 = .ok (.iconst 0, 1) := dk_dX10_laysFits_0.2.2.2.1
theorem dX10_laysFits_6 : decode cX10_laysFits 6 = .ok (.putfield 570, 3) := dk_dX10_laysFits_0.2.2.2.2.1
theorem dX10_laysFits_9 : decode cX10_laysFits 9 = .ok (.aload_n 0, 1) := dk_dX10_laysFits_0.2.2.2.2.2.1
theorem dX10_laysFits_10 : decode cX10_laysFits 10 = .ok (.iconst 0, 1) := dk_dX10_laysFits_0.2.2.2.2.2.2.1
theorem dX10_laysFits_11 : decode cX10_laysFits 11 = .ok (.putfield 573, 3) := dk_dX10_laysFits_0.2.2.2.2.2.2.2.1
theorem dk_dX10_laysFits_0_8 : dz_C cX10_laysFits [(14, .aload_n 0, 1), (15, .iconst (-1), 1), (16, .putfield 576, 3), (19, .iconst 1, 1), (20, .istore_n 1, 1), (21, .aload_n 0, 1), (22, .iload_n 1, 1), (23, .bipush 20, 2)] := dk_dX10_laysFits_0.2.2.2.2.2.2.2.2
theorem dX10_laysFits_14 : decode cX10_laysFits 14 = .ok (.aload_n 0, 1) := dk_dX10_laysFits_0_8.1
theorem dX10_laysFits_15 : decode cX10_laysFits 15 = .ok (.iconst (-1), 1) := dk_dX10_laysFits_0_8.2.1
theorem dX10_laysFits_16 : decode cX10_laysFits 16 = .ok (.putfield 576, 3) := dk_dX10_laysFits_0_8.2.2.1
theorem dX10_laysFits_19 : decode cX10_laysFits 19 = .ok (.iconst 1, 1) := dk_dX10_laysFits_0_8.2.2.2.1
theorem dX10_laysFits_20 : decode cX10_laysFits 20 = .ok (.istore_n 1, 1) := dk_dX10_laysFits_0_8.2.2.2.2.1
theorem dX10_laysFits_21 : decode cX10_laysFits 21 = .ok (.aload_n 0, 1) := dk_dX10_laysFits_0_8.2.2.2.2.2.1
theorem dX10_laysFits_22 : decode cX10_laysFits 22 = .ok (.iload_n 1, 1) := dk_dX10_laysFits_0_8.2.2.2.2.2.2.1
theorem dX10_laysFits_23 : decode cX10_laysFits 23 = .ok (.bipush 20, 2) := dk_dX10_laysFits_0_8.2.2.2.2.2.2.2.1
theorem dk_dX10_laysFits_25 : dz_C cX10_laysFits [(25, .invokevirtual 548, 3), (28, .ifCond .eq 109, 3), (31, .iconst 0, 1), (32, .istore_n 2, 1), (33, .iload_n 2, 1), (34, .iconst 3, 1), (35, .if_icmp .ge 96, 3), (38, .aload_n 0, 1), (39, .iload_n 2, 1), (40, .iload_n 1, 1), (41, .iconst 0, 1), (42, .iconst 0, 1), (43, .invokevirtual 504, 3), (46, .aload_n 0, 1), (47, .invokevirtual 579, 3), (50, .ifCond .ne 6, 3)] := dz_of (by decide +kernel)
theorem dX10_laysFits_25 : decode cX10_laysFits 25 = .ok (.invokevirtual 548, 3) := dk_dX10_laysFits_25.1
theorem dX10_laysFits_28 : decode cX10_laysFits 28 = .ok (.ifCond .eq 109, 3) := dk_dX10_laysFits_25.2.1
theorem dX10_laysFits_31 : decode cX10_laysFits 31 = .ok (.iconst 0, 1) := dk_dX10_laysFits_25.2.2.1
theorem dX10_laysFits_32 : decode cX10_laysFits 32 = .ok (.istore_n 2, 1) := dk_dX10_laysFits_25.2.2.2.1
theorem dX10_laysFits_33 : decode cX10_laysFits 33 = .ok (.iload_n 2, 1) := dk_dX10_laysFits_25.2.2.2.2.1
theorem dX10_laysFits_34 : decode cX10_laysFits 34 = .ok (.iconst 3, 1) := dk_dX10_laysFits_25.2.2.2.2.2.1
theorem dX10_laysFits_35 : decode cX10_laysFits 35 = .ok (.if_icmp .ge 96, 3) := dk_dX10_laysFits_25.2.2.2.2.2.2.1
theorem dX10_laysFits_38 : decode cX10_laysFits 38 = .ok (.aload_n 0, 1) := dk_dX10_laysFits_25.2.2.2.2.2.2.2.1
theorem dk_dX10_laysFits_25_8 : dz_C cX10_laysFits [(39, .iload_n 2, 1), (40, .iload_n 1, 1), (41, .iconst 0, 1), (42, .iconst 0, 1), (43, .invokevirtual 504, 3), (46, .aload_n 0, 1), (47, .invokevirtual 579, 3), (50, .ifCond .ne 6, 3)] := dk_dX10_laysFits_25.2.2.2.2.2.2.2.2
theorem dX10_laysFits_39 : decode cX10_laysFits 39 = .ok (.iload_n 2, 1) := dk_dX10_laysFits_25_8.1
theorem dX10_laysFits_40 : decode cX10_laysFits 40 = .ok (.iload_n 1, 1) := dk_dX10_laysFits_25_8.2.1
theorem dX10_laysFits_41 : decode cX10_laysFits 41 = .ok (.iconst 0, 1) := dk_dX10_laysFits_25_8.2.2.1
theorem dX10_laysFits_42 : decode cX10_laysFits 42 = .ok (.iconst 0, 1) := dk_dX10_laysFits_25_8.2.2.2.1
theorem dX10_laysFits_43 : decode cX10_laysFits 43 = .ok (.invokevirtual 504, 3) := dk_dX10_laysFits_25_8.2.2.2.2.1
theorem dX10_laysFits_46 : decode cX10_laysFits 46 = .ok (.aload_n 0, 1) := dk_dX10_laysFits_25_8.2.2.2.2.2.1
theorem dX10_laysFits_47 : decode cX10_laysFits 47 = .ok (.invokevirtual 579, 3) := dk_dX10_laysFits_25_8.2.2.2.2.2.2.1
theorem dX10_laysFits_50 : decode cX10_laysFits 50 = .ok (.ifCond .ne 6, 3) := dk_dX10_laysFits_25_8.2.2.2.2.2.2.2.1
theorem dk_dX10_laysFits_53 : dz_C cX10_laysFits [(53, .goto 72, 3), (56, .iconst 0, 1), (57, .istore_n 3, 1), (58, .iload_n 3, 1), (59, .bipush 12, 2), (61, .if_icmp .ge 29, 3), (64, .aload_n 0, 1), (65, .getfield 179, 3), (68, .bipush 12, 2), (70, .aload_n 0, 1), (71, .getfield 570, 3), (74, .imul, 1), (75, .iload_n 3, 1), (76, .iadd, 1), (77, .aload_n 0, 1), (78, .getfield 158, 3)] := dz_of (by decide +kernel)
theorem dX10_laysFits_53 : decode cX10_laysFits 53 = .ok (.goto 72, 3) := dk_dX10_laysFits_53.1
theorem dX10_laysFits_56 : decode cX10_laysFits 56 = .ok (.iconst 0, 1) := dk_dX10_laysFits_53.2.1
theorem dX10_laysFits_57 : decode cX10_laysFits 57 = .ok (.istore_n 3, 1) := dk_dX10_laysFits_53.2.2.1
theorem dX10_laysFits_58 : decode cX10_laysFits 58 = .ok (.iload_n 3, 1) := dk_dX10_laysFits_53.2.2.2.1
theorem dX10_laysFits_59 : decode cX10_laysFits 59 = .ok (.bipush 12, 2) := dk_dX10_laysFits_53.2.2.2.2.1
theorem dX10_laysFits_61 : decode cX10_laysFits 61 = .ok (.if_icmp .ge 29, 3) := dk_dX10_laysFits_53.2.2.2.2.2.1
theorem dX10_laysFits_64 : decode cX10_laysFits 64 = .ok (.aload_n 0, 1) := dk_dX10_laysFits_53.2.2.2.2.2.2.1
theorem dX10_laysFits_65 : decode cX10_laysFits 65 = .ok (.getfield 179, 3) := dk_dX10_laysFits_53.2.2.2.2.2.2.2.1
theorem dk_dX10_laysFits_53_8 : dz_C cX10_laysFits [(68, .bipush 12, 2), (70, .aload_n 0, 1), (71, .getfield 570, 3), (74, .imul, 1), (75, .iload_n 3, 1), (76, .iadd, 1), (77, .aload_n 0, 1), (78, .getfield 158, 3)] := dk_dX10_laysFits_53.2.2.2.2.2.2.2.2
theorem dX10_laysFits_68 : decode cX10_laysFits 68 = .ok (.bipush 12, 2) := dk_dX10_laysFits_53_8.1
theorem dX10_laysFits_70 : decode cX10_laysFits 70 = .ok (.aload_n 0, 1) := dk_dX10_laysFits_53_8.2.1
theorem dX10_laysFits_71 : decode cX10_laysFits 71 = .ok (.getfield 570, 3) := dk_dX10_laysFits_53_8.2.2.1
theorem dX10_laysFits_74 : decode cX10_laysFits 74 = .ok (.imul, 1) := dk_dX10_laysFits_53_8.2.2.2.1
theorem dX10_laysFits_75 : decode cX10_laysFits 75 = .ok (.iload_n 3, 1) := dk_dX10_laysFits_53_8.2.2.2.2.1
theorem dX10_laysFits_76 : decode cX10_laysFits 76 = .ok (.iadd, 1) := dk_dX10_laysFits_53_8.2.2.2.2.2.1
theorem dX10_laysFits_77 : decode cX10_laysFits 77 = .ok (.aload_n 0, 1) := dk_dX10_laysFits_53_8.2.2.2.2.2.2.1
theorem dX10_laysFits_78 : decode cX10_laysFits 78 = .ok (.getfield 158, 3) := dk_dX10_laysFits_53_8.2.2.2.2.2.2.2.1
theorem dk_dX10_laysFits_81 : dz_C cX10_laysFits [(81, .iload_n 3, 1), (82, .iaload, 1), (83, .iastore, 1), (84, .iinc 3 1, 3), (87, .goto (-29), 3), (90, .aload_n 0, 1), (91, .dup, 1), (92, .getfield 570, 3), (95, .iconst 1, 1), (96, .iadd, 1), (97, .putfield 570, 3), (100, .aload_n 0, 1), (101, .dup, 1), (102, .getfield 573, 3), (105, .iconst 1, 1), (106, .iload_n 2, 1)] := dz_of (by decide +kernel)
theorem dX10_laysFits_81 : decode cX10_laysFits 81 = .ok (.iload_n 3, 1) := dk_dX10_laysFits_81.1
theorem dX10_laysFits_82 : decode cX10_laysFits 82 = .ok (.iaload, 1) := dk_dX10_laysFits_81.2.1
theorem dX10_laysFits_83 : decode cX10_laysFits 83 = .ok (.iastore, 1) := dk_dX10_laysFits_81.2.2.1
theorem dX10_laysFits_84 : decode cX10_laysFits 84 = .ok (.iinc 3 1, 3) := dk_dX10_laysFits_81.2.2.2.1
theorem dX10_laysFits_87 : decode cX10_laysFits 87 = .ok (.goto (-29), 3) := dk_dX10_laysFits_81.2.2.2.2.1
theorem dX10_laysFits_90 : decode cX10_laysFits 90 = .ok (.aload_n 0, 1) := dk_dX10_laysFits_81.2.2.2.2.2.1
theorem dX10_laysFits_91 : decode cX10_laysFits 91 = .ok (.dup, 1) := dk_dX10_laysFits_81.2.2.2.2.2.2.1
theorem dX10_laysFits_92 : decode cX10_laysFits 92 = .ok (.getfield 570, 3) := dk_dX10_laysFits_81.2.2.2.2.2.2.2.1
theorem dk_dX10_laysFits_81_8 : dz_C cX10_laysFits [(95, .iconst 1, 1), (96, .iadd, 1), (97, .putfield 570, 3), (100, .aload_n 0, 1), (101, .dup, 1), (102, .getfield 573, 3), (105, .iconst 1, 1), (106, .iload_n 2, 1)] := dk_dX10_laysFits_81.2.2.2.2.2.2.2.2
theorem dX10_laysFits_95 : decode cX10_laysFits 95 = .ok (.iconst 1, 1) := dk_dX10_laysFits_81_8.1
theorem dX10_laysFits_96 : decode cX10_laysFits 96 = .ok (.iadd, 1) := dk_dX10_laysFits_81_8.2.1
theorem dX10_laysFits_97 : decode cX10_laysFits 97 = .ok (.putfield 570, 3) := dk_dX10_laysFits_81_8.2.2.1
theorem dX10_laysFits_100 : decode cX10_laysFits 100 = .ok (.aload_n 0, 1) := dk_dX10_laysFits_81_8.2.2.2.1
theorem dX10_laysFits_101 : decode cX10_laysFits 101 = .ok (.dup, 1) := dk_dX10_laysFits_81_8.2.2.2.2.1
theorem dX10_laysFits_102 : decode cX10_laysFits 102 = .ok (.getfield 573, 3) := dk_dX10_laysFits_81_8.2.2.2.2.2.1
theorem dX10_laysFits_105 : decode cX10_laysFits 105 = .ok (.iconst 1, 1) := dk_dX10_laysFits_81_8.2.2.2.2.2.2.1
theorem dX10_laysFits_106 : decode cX10_laysFits 106 = .ok (.iload_n 2, 1) := dk_dX10_laysFits_81_8.2.2.2.2.2.2.2.1
theorem dk_dX10_laysFits_107 : dz_C cX10_laysFits [(107, .ishl, 1), (108, .ior, 1), (109, .putfield 573, 3), (112, .aload_n 0, 1), (113, .getfield 576, 3), (116, .iconst (-1), 1), (117, .if_icmp .ne 8, 3), (120, .aload_n 0, 1), (121, .iload_n 1, 1), (122, .putfield 576, 3), (125, .iinc 2 1, 3), (128, .goto (-95), 3), (131, .iinc 1 1, 3), (134, .goto (-113), 3), (137, .return_, 1)] := dz_of (by decide +kernel)
theorem dX10_laysFits_107 : decode cX10_laysFits 107 = .ok (.ishl, 1) := dk_dX10_laysFits_107.1
theorem dX10_laysFits_108 : decode cX10_laysFits 108 = .ok (.ior, 1) := dk_dX10_laysFits_107.2.1
theorem dX10_laysFits_109 : decode cX10_laysFits 109 = .ok (.putfield 573, 3) := dk_dX10_laysFits_107.2.2.1
theorem dX10_laysFits_112 : decode cX10_laysFits 112 = .ok (.aload_n 0, 1) := dk_dX10_laysFits_107.2.2.2.1
theorem dX10_laysFits_113 : decode cX10_laysFits 113 = .ok (.getfield 576, 3) := dk_dX10_laysFits_107.2.2.2.2.1
theorem dX10_laysFits_116 : decode cX10_laysFits 116 = .ok (.iconst (-1), 1) := dk_dX10_laysFits_107.2.2.2.2.2.1
theorem dX10_laysFits_117 : decode cX10_laysFits 117 = .ok (.if_icmp .ne 8, 3) := dk_dX10_laysFits_107.2.2.2.2.2.2.1
theorem dX10_laysFits_120 : decode cX10_laysFits 120 = .ok (.aload_n 0, 1) := dk_dX10_laysFits_107.2.2.2.2.2.2.2.1
theorem dk_dX10_laysFits_107_8 : dz_C cX10_laysFits [(121, .iload_n 1, 1), (122, .putfield 576, 3), (125, .iinc 2 1, 3), (128, .goto (-95), 3), (131, .iinc 1 1, 3), (134, .goto (-113), 3), (137, .return_, 1)] := dk_dX10_laysFits_107.2.2.2.2.2.2.2.2
theorem dX10_laysFits_121 : decode cX10_laysFits 121 = .ok (.iload_n 1, 1) := dk_dX10_laysFits_107_8.1
theorem dX10_laysFits_122 : decode cX10_laysFits 122 = .ok (.putfield 576, 3) := dk_dX10_laysFits_107_8.2.1
theorem dX10_laysFits_125 : decode cX10_laysFits 125 = .ok (.iinc 2 1, 3) := dk_dX10_laysFits_107_8.2.2.1
theorem dX10_laysFits_128 : decode cX10_laysFits 128 = .ok (.goto (-95), 3) := dk_dX10_laysFits_107_8.2.2.2.1
theorem dX10_laysFits_131 : decode cX10_laysFits 131 = .ok (.iinc 1 1, 3) := dk_dX10_laysFits_107_8.2.2.2.2.1
theorem dX10_laysFits_134 : decode cX10_laysFits 134 = .ok (.goto (-113), 3) := dk_dX10_laysFits_107_8.2.2.2.2.2.1
theorem dX10_laysFits_137 : decode cX10_laysFits 137 = .ok (.return_, 1) := dk_dX10_laysFits_107_8.2.2.2.2.2.2.1
theorem dk_dX10_learn_0 : dz_C cX10_learn [(0, .iconst 0, 1), (1, .istore_n 2, 1), (2, .iload_n 2, 1), (3, .aload_n 0, 1), (4, .invokevirtual 433, 3), (7, .if_icmp .ge 88, 3), (10, .iload_n 1, 1), (11, .iload_n 2, 1), (12, .ishr, 1), (13, .iconst 1, 1), (14, .iand, 1), (15, .iconst 1, 1), (16, .if_icmp .eq 73, 3), (19, .aload_n 0, 1), (20, .getfield 130, 3), (23, .iconst 5, 1)] := dz_of (by decide +kernel)
theorem dX10_learn_0 : decode cX10_learn 0 = .ok (.iconst 0, 1) := dk_dX10_learn_0.1
theorem dX10_learn_1 : decode cX10_learn 1 = .ok (.istore_n 2, 1) := dk_dX10_learn_0.2.1
theorem dX10_learn_2 : decode cX10_learn 2 = .ok (.iload_n 2, 1) := dk_dX10_learn_0.2.2.1
theorem dX10_learn_3 : decode cX10_learn 3 = .ok (.aload_n 0, 1) := dk_dX10_learn_0.2.2.2.1
theorem dX10_learn_4 : decode cX10_learn 4 = .ok (.invokevirtual 433, 3) := dk_dX10_learn_0.2.2.2.2.1
theorem dX10_learn_7 : decode cX10_learn 7 = .ok (.if_icmp .ge 88, 3) := dk_dX10_learn_0.2.2.2.2.2.1
theorem dX10_learn_10 : decode cX10_learn 10 = .ok (.iload_n 1, 1) := dk_dX10_learn_0.2.2.2.2.2.2.1
theorem dX10_learn_11 : decode cX10_learn 11 = .ok (.iload_n 2, 1) := dk_dX10_learn_0.2.2.2.2.2.2.2.1
theorem dk_dX10_learn_0_8 : dz_C cX10_learn [(12, .ishr, 1), (13, .iconst 1, 1), (14, .iand, 1), (15, .iconst 1, 1), (16, .if_icmp .eq 73, 3), (19, .aload_n 0, 1), (20, .getfield 130, 3), (23, .iconst 5, 1)] := dk_dX10_learn_0.2.2.2.2.2.2.2.2
theorem dX10_learn_12 : decode cX10_learn 12 = .ok (.ishr, 1) := dk_dX10_learn_0_8.1
theorem dX10_learn_13 : decode cX10_learn 13 = .ok (.iconst 1, 1) := dk_dX10_learn_0_8.2.1
theorem dX10_learn_14 : decode cX10_learn 14 = .ok (.iand, 1) := dk_dX10_learn_0_8.2.2.1
theorem dX10_learn_15 : decode cX10_learn 15 = .ok (.iconst 1, 1) := dk_dX10_learn_0_8.2.2.2.1
theorem dX10_learn_16 : decode cX10_learn 16 = .ok (.if_icmp .eq 73, 3) := dk_dX10_learn_0_8.2.2.2.2.1
theorem dX10_learn_19 : decode cX10_learn 19 = .ok (.aload_n 0, 1) := dk_dX10_learn_0_8.2.2.2.2.2.1
theorem dX10_learn_20 : decode cX10_learn 20 = .ok (.getfield 130, 3) := dk_dX10_learn_0_8.2.2.2.2.2.2.1
theorem dX10_learn_23 : decode cX10_learn 23 = .ok (.iconst 5, 1) := dk_dX10_learn_0_8.2.2.2.2.2.2.2.1
theorem dk_dX10_learn_24 : dz_C cX10_learn [(24, .iaload, 1), (25, .iconst (-1), 1), (26, .if_icmp .ne 6, 3), (29, .goto 60, 3), (32, .aload_n 0, 1), (33, .iload_n 2, 1), (34, .invokevirtual 436, 3), (37, .istore_n 3, 1), (38, .aload_n 0, 1), (39, .iload_n 3, 1), (40, .invokevirtual 463, 3), (43, .i2l, 1), (44, .aload_n 0, 1), (45, .iconst 2, 1), (46, .iload_n 2, 1), (47, .invokevirtual 457, 3)] := dz_of (by decide +kernel)
theorem dX10_learn_24 : decode cX10_learn 24 = .ok (.iaload, 1) := dk_dX10_learn_24.1
theorem dX10_learn_25 : decode cX10_learn 25 = .ok (.iconst (-1), 1) := dk_dX10_learn_24.2.1
theorem dX10_learn_26 : decode cX10_learn 26 = .ok (.if_icmp .ne 6, 3) := dk_dX10_learn_24.2.2.1
theorem dX10_learn_29 : decode cX10_learn 29 = .ok (.goto 60, 3) := dk_dX10_learn_24.2.2.2.1
theorem dX10_learn_32 : decode cX10_learn 32 = .ok (.aload_n 0, 1) := dk_dX10_learn_24.2.2.2.2.1
theorem dX10_learn_33 : decode cX10_learn 33 = .ok (.iload_n 2, 1) := dk_dX10_learn_24.2.2.2.2.2.1
theorem dX10_learn_34 : decode cX10_learn 34 = .ok (.invokevirtual 436, 3) := dk_dX10_learn_24.2.2.2.2.2.2.1
theorem dX10_learn_37 : decode cX10_learn 37 = .ok (.istore_n 3, 1) := dk_dX10_learn_24.2.2.2.2.2.2.2.1
theorem dk_dX10_learn_24_8 : dz_C cX10_learn [(38, .aload_n 0, 1), (39, .iload_n 3, 1), (40, .invokevirtual 463, 3), (43, .i2l, 1), (44, .aload_n 0, 1), (45, .iconst 2, 1), (46, .iload_n 2, 1), (47, .invokevirtual 457, 3)] := dk_dX10_learn_24.2.2.2.2.2.2.2.2
theorem dX10_learn_38 : decode cX10_learn 38 = .ok (.aload_n 0, 1) := dk_dX10_learn_24_8.1
theorem dX10_learn_39 : decode cX10_learn 39 = .ok (.iload_n 3, 1) := dk_dX10_learn_24_8.2.1
theorem dX10_learn_40 : decode cX10_learn 40 = .ok (.invokevirtual 463, 3) := dk_dX10_learn_24_8.2.2.1
theorem dX10_learn_43 : decode cX10_learn 43 = .ok (.i2l, 1) := dk_dX10_learn_24_8.2.2.2.1
theorem dX10_learn_44 : decode cX10_learn 44 = .ok (.aload_n 0, 1) := dk_dX10_learn_24_8.2.2.2.2.1
theorem dX10_learn_45 : decode cX10_learn 45 = .ok (.iconst 2, 1) := dk_dX10_learn_24_8.2.2.2.2.2.1
theorem dX10_learn_46 : decode cX10_learn 46 = .ok (.iload_n 2, 1) := dk_dX10_learn_24_8.2.2.2.2.2.2.1
theorem dX10_learn_47 : decode cX10_learn 47 = .ok (.invokevirtual 457, 3) := dk_dX10_learn_24_8.2.2.2.2.2.2.2.1
theorem dk_dX10_learn_50 : dz_C cX10_learn [(50, .ladd, 1), (51, .lstore 4, 2), (53, .aload_n 0, 1), (54, .getfield 139, 3), (57, .iconst 3, 1), (58, .iload_n 3, 1), (59, .iadd, 1), (60, .lload 4, 2), (62, .lconst 0, 1), (63, .lcmp, 1), (64, .ifCond .ge 7, 3), (67, .iconst 0, 1), (68, .goto 20, 3), (71, .lload 4, 2), (73, .ldc2_w 521, 3), (76, .lcmp, 1)] := dz_of (by decide +kernel)
theorem dX10_learn_50 : decode cX10_learn 50 = .ok (.ladd, 1) := dk_dX10_learn_50.1
theorem dX10_learn_51 : decode cX10_learn 51 = .ok (.lstore 4, 2) := dk_dX10_learn_50.2.1
theorem dX10_learn_53 : decode cX10_learn 53 = .ok (.aload_n 0, 1) := dk_dX10_learn_50.2.2.1
theorem dX10_learn_54 : decode cX10_learn 54 = .ok (.getfield 139, 3) := dk_dX10_learn_50.2.2.2.1
theorem dX10_learn_57 : decode cX10_learn 57 = .ok (.iconst 3, 1) := dk_dX10_learn_50.2.2.2.2.1
theorem dX10_learn_58 : decode cX10_learn 58 = .ok (.iload_n 3, 1) := dk_dX10_learn_50.2.2.2.2.2.1
theorem dX10_learn_59 : decode cX10_learn 59 = .ok (.iadd, 1) := dk_dX10_learn_50.2.2.2.2.2.2.1
theorem dX10_learn_60 : decode cX10_learn 60 = .ok (.lload 4, 2) := dk_dX10_learn_50.2.2.2.2.2.2.2.1
theorem dk_dX10_learn_50_8 : dz_C cX10_learn [(62, .lconst 0, 1), (63, .lcmp, 1), (64, .ifCond .ge 7, 3), (67, .iconst 0, 1), (68, .goto 20, 3), (71, .lload 4, 2), (73, .ldc2_w 521, 3), (76, .lcmp, 1)] := dk_dX10_learn_50.2.2.2.2.2.2.2.2
theorem dX10_learn_62 : decode cX10_learn 62 = .ok (.lconst 0, 1) := dk_dX10_learn_50_8.1
theorem dX10_learn_63 : decode cX10_learn 63 = .ok (.lcmp, 1) := dk_dX10_learn_50_8.2.1
theorem dX10_learn_64 : decode cX10_learn 64 = .ok (.ifCond .ge 7, 3) := dk_dX10_learn_50_8.2.2.1
theorem dX10_learn_67 : decode cX10_learn 67 = .ok (.iconst 0, 1) := dk_dX10_learn_50_8.2.2.2.1
theorem dX10_learn_68 : decode cX10_learn 68 = .ok (.goto 20, 3) := dk_dX10_learn_50_8.2.2.2.2.1
theorem dX10_learn_71 : decode cX10_learn 71 = .ok (.lload 4, 2) := dk_dX10_learn_50_8.2.2.2.2.2.1
theorem dX10_learn_73 : decode cX10_learn 73 = .ok (.ldc2_w 521, 3) := dk_dX10_learn_50_8.2.2.2.2.2.2.1
theorem dX10_learn_76 : decode cX10_learn 76 = .ok (.lcmp, 1) := dk_dX10_learn_50_8.2.2.2.2.2.2.2.1
theorem dk_dX10_learn_77 : dz_C cX10_learn [(77, .ifCond .le 8, 3), (80, .bipush 9, 2), (82, .goto 6, 3), (85, .lload 4, 2), (87, .l2i, 1), (88, .iastore, 1), (89, .iinc 2 1, 3), (92, .goto (-90), 3), (95, .return_, 1)] := dz_of (by decide +kernel)
theorem dX10_learn_77 : decode cX10_learn 77 = .ok (.ifCond .le 8, 3) := dk_dX10_learn_77.1
theorem dX10_learn_80 : decode cX10_learn 80 = .ok (.bipush 9, 2) := dk_dX10_learn_77.2.1
theorem dX10_learn_82 : decode cX10_learn 82 = .ok (.goto 6, 3) := dk_dX10_learn_77.2.2.1
theorem dX10_learn_85 : decode cX10_learn 85 = .ok (.lload 4, 2) := dk_dX10_learn_77.2.2.2.1
theorem dX10_learn_87 : decode cX10_learn 87 = .ok (.l2i, 1) := dk_dX10_learn_77.2.2.2.2.1
theorem dX10_learn_88 : decode cX10_learn 88 = .ok (.iastore, 1) := dk_dX10_learn_77.2.2.2.2.2.1
theorem dX10_learn_89 : decode cX10_learn 89 = .ok (.iinc 2 1, 3) := dk_dX10_learn_77.2.2.2.2.2.2.1
theorem dX10_learn_92 : decode cX10_learn 92 = .ok (.goto (-90), 3) := dk_dX10_learn_77.2.2.2.2.2.2.2.1
theorem dk_dX10_learn_77_8 : dz_C cX10_learn [(95, .return_, 1)] := dk_dX10_learn_77.2.2.2.2.2.2.2.2
theorem dX10_learn_95 : decode cX10_learn 95 = .ok (.return_, 1) := dk_dX10_learn_77_8.1
theorem dk_dX10_least_0 : dz_C cX10_least [(0, .aload_n 0, 1), (1, .getfield 417, 3), (4, .ifCond .ne 5, 3), (7, .iconst (-1), 1), (8, .ireturn, 1), (9, .aload_n 0, 1), (10, .invokevirtual 501, 3), (13, .iconst 1, 1), (14, .istore_n 1, 1), (15, .aload_n 0, 1), (16, .iload_n 1, 1), (17, .bipush 60, 2), (19, .invokevirtual 548, 3), (22, .ifCond .eq 40, 3), (25, .aload_n 0, 1), (26, .aload_n 0, 1)] := dz_of (by decide +kernel)
theorem dX10_least_0 : decode cX10_least 0 = .ok (.aload_n 0, 1) := dk_dX10_least_0.1
theorem dX10_least_1 : decode cX10_least 1 = .ok (.getfield 417, 3) := dk_dX10_least_0.2.1
theorem dX10_least_4 : decode cX10_least 4 = .ok (.ifCond .ne 5, 3) := dk_dX10_least_0.2.2.1
theorem dX10_least_7 : decode cX10_least 7 = .ok (.iconst (-1), 1) := dk_dX10_least_0.2.2.2.1
theorem dX10_least_8 : decode cX10_least 8 = .ok (.ireturn, 1) := dk_dX10_least_0.2.2.2.2.1
theorem dX10_least_9 : decode cX10_least 9 = .ok (.aload_n 0, 1) := dk_dX10_least_0.2.2.2.2.2.1
theorem dX10_least_10 : decode cX10_least 10 = .ok (.invokevirtual 501, 3) := dk_dX10_least_0.2.2.2.2.2.2.1
theorem dX10_least_13 : decode cX10_least 13 = .ok (.iconst 1, 1) := dk_dX10_least_0.2.2.2.2.2.2.2.1
theorem dk_dX10_least_0_8 : dz_C cX10_least [(14, .istore_n 1, 1), (15, .aload_n 0, 1), (16, .iload_n 1, 1), (17, .bipush 60, 2), (19, .invokevirtual 548, 3), (22, .ifCond .eq 40, 3), (25, .aload_n 0, 1), (26, .aload_n 0, 1)] := dk_dX10_least_0.2.2.2.2.2.2.2.2
theorem dX10_least_14 : decode cX10_least 14 = .ok (.istore_n 1, 1) := dk_dX10_least_0_8.1
theorem dX10_least_15 : decode cX10_least 15 = .ok (.aload_n 0, 1) := dk_dX10_least_0_8.2.1
theorem dX10_least_16 : decode cX10_least 16 = .ok (.iload_n 1, 1) := dk_dX10_least_0_8.2.2.1
theorem dX10_least_17 : decode cX10_least 17 = .ok (.bipush 60, 2) := dk_dX10_least_0_8.2.2.2.1
theorem dX10_least_19 : decode cX10_least 19 = .ok (.invokevirtual 548, 3) := dk_dX10_least_0_8.2.2.2.2.1
theorem dX10_least_22 : decode cX10_least 22 = .ok (.ifCond .eq 40, 3) := dk_dX10_least_0_8.2.2.2.2.2.1
theorem dX10_least_25 : decode cX10_least 25 = .ok (.aload_n 0, 1) := dk_dX10_least_0_8.2.2.2.2.2.2.1
theorem dX10_least_26 : decode cX10_least 26 = .ok (.aload_n 0, 1) := dk_dX10_least_0_8.2.2.2.2.2.2.2.1
theorem dk_dX10_least_27 : dz_C cX10_least [(27, .getfield 139, 3), (30, .iconst 1, 1), (31, .iaload, 1), (32, .iload_n 1, 1), (33, .iconst 0, 1), (34, .iconst 0, 1), (35, .invokevirtual 504, 3), (38, .aload_n 0, 1), (39, .iconst 1, 1), (40, .invokevirtual 541, 3), (43, .ifCond .ne 13, 3), (46, .aload_n 0, 1), (47, .iconst 3, 1), (48, .invokevirtual 541, 3), (51, .ifCond .ne 5, 3), (54, .iload_n 1, 1)] := dz_of (by decide +kernel)
theorem dX10_least_27 : decode cX10_least 27 = .ok (.getfield 139, 3) := dk_dX10_least_27.1
theorem dX10_least_30 : decode cX10_least 30 = .ok (.iconst 1, 1) := dk_dX10_least_27.2.1
theorem dX10_least_31 : decode cX10_least 31 = .ok (.iaload, 1) := dk_dX10_least_27.2.2.1
theorem dX10_least_32 : decode cX10_least 32 = .ok (.iload_n 1, 1) := dk_dX10_least_27.2.2.2.1
theorem dX10_least_33 : decode cX10_least 33 = .ok (.iconst 0, 1) := dk_dX10_least_27.2.2.2.2.1
theorem dX10_least_34 : decode cX10_least 34 = .ok (.iconst 0, 1) := dk_dX10_least_27.2.2.2.2.2.1
theorem dX10_least_35 : decode cX10_least 35 = .ok (.invokevirtual 504, 3) := dk_dX10_least_27.2.2.2.2.2.2.1
theorem dX10_least_38 : decode cX10_least 38 = .ok (.aload_n 0, 1) := dk_dX10_least_27.2.2.2.2.2.2.2.1
theorem dk_dX10_least_27_8 : dz_C cX10_least [(39, .iconst 1, 1), (40, .invokevirtual 541, 3), (43, .ifCond .ne 13, 3), (46, .aload_n 0, 1), (47, .iconst 3, 1), (48, .invokevirtual 541, 3), (51, .ifCond .ne 5, 3), (54, .iload_n 1, 1)] := dk_dX10_least_27.2.2.2.2.2.2.2.2
theorem dX10_least_39 : decode cX10_least 39 = .ok (.iconst 1, 1) := dk_dX10_least_27_8.1
theorem dX10_least_40 : decode cX10_least 40 = .ok (.invokevirtual 541, 3) := dk_dX10_least_27_8.2.1
theorem dX10_least_43 : decode cX10_least 43 = .ok (.ifCond .ne 13, 3) := dk_dX10_least_27_8.2.2.1
theorem dX10_least_46 : decode cX10_least 46 = .ok (.aload_n 0, 1) := dk_dX10_least_27_8.2.2.2.1
theorem dX10_least_47 : decode cX10_least 47 = .ok (.iconst 3, 1) := dk_dX10_least_27_8.2.2.2.2.1
theorem dX10_least_48 : decode cX10_least 48 = .ok (.invokevirtual 541, 3) := dk_dX10_least_27_8.2.2.2.2.2.1
theorem dX10_least_51 : decode cX10_least 51 = .ok (.ifCond .ne 5, 3) := dk_dX10_least_27_8.2.2.2.2.2.2.1
theorem dX10_least_54 : decode cX10_least 54 = .ok (.iload_n 1, 1) := dk_dX10_least_27_8.2.2.2.2.2.2.2.1
theorem dk_dX10_least_55 : dz_C cX10_least [(55, .ireturn, 1), (56, .iinc 1 1, 3), (59, .goto (-44), 3), (62, .iconst (-1), 1), (63, .ireturn, 1)] := dz_of (by decide +kernel)
theorem dX10_least_55 : decode cX10_least 55 = .ok (.ireturn, 1) := dk_dX10_least_55.1
theorem dX10_least_56 : decode cX10_least 56 = .ok (.iinc 1 1, 3) := dk_dX10_least_55.2.1
theorem dX10_least_59 : decode cX10_least 59 = .ok (.goto (-44), 3) := dk_dX10_least_55.2.2.1
theorem dX10_least_62 : decode cX10_least 62 = .ok (.iconst (-1), 1) := dk_dX10_least_55.2.2.2.1
theorem dX10_least_63 : decode cX10_least 63 = .ok (.ireturn, 1) := dk_dX10_least_55.2.2.2.2.1
theorem dk_dX10_letter_0 : dz_C cX10_letter [(0, .iload_n 1, 1), (1, .i2l, 1), (2, .lconst 0, 1), (3, .lconst 1, 1), (4, .invokestatic 318, 3), (7, .ifCond .eq 35, 3), (10, .iload_n 2, 1), (11, .i2l, 1), (12, .lconst 0, 1), (13, .aload_n 0, 1), (14, .getfield 111, 3), (17, .iconst 2, 1), (18, .iload_n 1, 1), (19, .iadd, 1), (20, .iaload, 1), (21, .iconst 1, 1)] := dz_of (by decide +kernel)
theorem dX10_letter_0 : decode cX10_letter 0 = .ok (.iload_n 1, 1) := dk_dX10_letter_0.1
theorem dX10_letter_1 : decode cX10_letter 1 = .ok (.i2l, 1) := dk_dX10_letter_0.2.1
theorem dX10_letter_2 : decode cX10_letter 2 = .ok (.lconst 0, 1) := dk_dX10_letter_0.2.2.1
theorem dX10_letter_3 : decode cX10_letter 3 = .ok (.lconst 1, 1) := dk_dX10_letter_0.2.2.2.1
theorem dX10_letter_4 : decode cX10_letter 4 = .ok (.invokestatic 318, 3) := dk_dX10_letter_0.2.2.2.2.1
theorem dX10_letter_7 : decode cX10_letter 7 = .ok (.ifCond .eq 35, 3) := dk_dX10_letter_0.2.2.2.2.2.1
theorem dX10_letter_10 : decode cX10_letter 10 = .ok (.iload_n 2, 1) := dk_dX10_letter_0.2.2.2.2.2.2.1
theorem dX10_letter_11 : decode cX10_letter 11 = .ok (.i2l, 1) := dk_dX10_letter_0.2.2.2.2.2.2.2.1
theorem dk_dX10_letter_0_8 : dz_C cX10_letter [(12, .lconst 0, 1), (13, .aload_n 0, 1), (14, .getfield 111, 3), (17, .iconst 2, 1), (18, .iload_n 1, 1), (19, .iadd, 1), (20, .iaload, 1), (21, .iconst 1, 1)] := dk_dX10_letter_0.2.2.2.2.2.2.2.2
theorem dX10_letter_12 : decode cX10_letter 12 = .ok (.lconst 0, 1) := dk_dX10_letter_0_8.1
theorem dX10_letter_13 : decode cX10_letter 13 = .ok (.aload_n 0, 1) := dk_dX10_letter_0_8.2.1
theorem dX10_letter_14 : decode cX10_letter 14 = .ok (.getfield 111, 3) := dk_dX10_letter_0_8.2.2.1
theorem dX10_letter_17 : decode cX10_letter 17 = .ok (.iconst 2, 1) := dk_dX10_letter_0_8.2.2.2.1
theorem dX10_letter_18 : decode cX10_letter 18 = .ok (.iload_n 1, 1) := dk_dX10_letter_0_8.2.2.2.2.1
theorem dX10_letter_19 : decode cX10_letter 19 = .ok (.iadd, 1) := dk_dX10_letter_0_8.2.2.2.2.2.1
theorem dX10_letter_20 : decode cX10_letter 20 = .ok (.iaload, 1) := dk_dX10_letter_0_8.2.2.2.2.2.2.1
theorem dX10_letter_21 : decode cX10_letter 21 = .ok (.iconst 1, 1) := dk_dX10_letter_0_8.2.2.2.2.2.2.2.1
theorem dk_dX10_letter_22 : dz_C cX10_letter [(22, .isub, 1), (23, .i2l, 1), (24, .invokestatic 318, 3), (27, .ifCond .eq 15, 3), (30, .iload_n 3, 1), (31, .i2l, 1), (32, .lconst 0, 1), (33, .ldc2_w 526, 3), (36, .invokestatic 318, 3), (39, .ifCond .ne 5, 3), (42, .iconst (-1), 1), (43, .ireturn, 1), (44, .aload_n 0, 1), (45, .getfield 114, 3), (48, .bipush 24, 2), (50, .bipush 12, 2)] := dz_of (by decide +kernel)
theorem dX10_letter_22 : decode cX10_letter 22 = .ok (.isub, 1) := dk_dX10_letter_22.1
theorem dX10_letter_23 : decode cX10_letter 23 = .ok (.i2l, 1) := dk_dX10_letter_22.2.1
theorem dX10_letter_24 : decode cX10_letter 24 = .ok (.invokestatic 318, 3) := dk_dX10_letter_22.2.2.1
theorem dX10_letter_27 : decode cX10_letter 27 = .ok (.ifCond .eq 15, 3) := dk_dX10_letter_22.2.2.2.1
theorem dX10_letter_30 : decode cX10_letter 30 = .ok (.iload_n 3, 1) := dk_dX10_letter_22.2.2.2.2.1
theorem dX10_letter_31 : decode cX10_letter 31 = .ok (.i2l, 1) := dk_dX10_letter_22.2.2.2.2.2.1
theorem dX10_letter_32 : decode cX10_letter 32 = .ok (.lconst 0, 1) := dk_dX10_letter_22.2.2.2.2.2.2.1
theorem dX10_letter_33 : decode cX10_letter 33 = .ok (.ldc2_w 526, 3) := dk_dX10_letter_22.2.2.2.2.2.2.2.1
theorem dk_dX10_letter_22_8 : dz_C cX10_letter [(36, .invokestatic 318, 3), (39, .ifCond .ne 5, 3), (42, .iconst (-1), 1), (43, .ireturn, 1), (44, .aload_n 0, 1), (45, .getfield 114, 3), (48, .bipush 24, 2), (50, .bipush 12, 2)] := dk_dX10_letter_22.2.2.2.2.2.2.2.2
theorem dX10_letter_36 : decode cX10_letter 36 = .ok (.invokestatic 318, 3) := dk_dX10_letter_22_8.1
theorem dX10_letter_39 : decode cX10_letter 39 = .ok (.ifCond .ne 5, 3) := dk_dX10_letter_22_8.2.1
theorem dX10_letter_42 : decode cX10_letter 42 = .ok (.iconst (-1), 1) := dk_dX10_letter_22_8.2.2.1
theorem dX10_letter_43 : decode cX10_letter 43 = .ok (.ireturn, 1) := dk_dX10_letter_22_8.2.2.2.1
theorem dX10_letter_44 : decode cX10_letter 44 = .ok (.aload_n 0, 1) := dk_dX10_letter_22_8.2.2.2.2.1
theorem dX10_letter_45 : decode cX10_letter 45 = .ok (.getfield 114, 3) := dk_dX10_letter_22_8.2.2.2.2.2.1
theorem dX10_letter_48 : decode cX10_letter 48 = .ok (.bipush 24, 2) := dk_dX10_letter_22_8.2.2.2.2.2.2.1
theorem dX10_letter_50 : decode cX10_letter 50 = .ok (.bipush 12, 2) := dk_dX10_letter_22_8.2.2.2.2.2.2.2.1
theorem dk_dX10_letter_52 : dz_C cX10_letter [(52, .iload_n 1, 1), (53, .imul, 1), (54, .iadd, 1), (55, .iload_n 2, 1), (56, .iadd, 1), (57, .laload, 1), (58, .lstore 4, 2), (60, .iconst 0, 1), (61, .istore 6, 2), (63, .lload 4, 2), (65, .lstore 7, 2), (67, .lload 7, 2), (69, .lconst 0, 1), (70, .lcmp, 1), (71, .ifCond .le 17, 3), (74, .iinc 6 1, 3)] := dz_of (by decide +kernel)
theorem dX10_letter_52 : decode cX10_letter 52 = .ok (.iload_n 1, 1) := dk_dX10_letter_52.1
theorem dX10_letter_53 : decode cX10_letter 53 = .ok (.imul, 1) := dk_dX10_letter_52.2.1
theorem dX10_letter_54 : decode cX10_letter 54 = .ok (.iadd, 1) := dk_dX10_letter_52.2.2.1
theorem dX10_letter_55 : decode cX10_letter 55 = .ok (.iload_n 2, 1) := dk_dX10_letter_52.2.2.2.1
theorem dX10_letter_56 : decode cX10_letter 56 = .ok (.iadd, 1) := dk_dX10_letter_52.2.2.2.2.1
theorem dX10_letter_57 : decode cX10_letter 57 = .ok (.laload, 1) := dk_dX10_letter_52.2.2.2.2.2.1
theorem dX10_letter_58 : decode cX10_letter 58 = .ok (.lstore 4, 2) := dk_dX10_letter_52.2.2.2.2.2.2.1
theorem dX10_letter_60 : decode cX10_letter 60 = .ok (.iconst 0, 1) := dk_dX10_letter_52.2.2.2.2.2.2.2.1
theorem dk_dX10_letter_52_8 : dz_C cX10_letter [(61, .istore 6, 2), (63, .lload 4, 2), (65, .lstore 7, 2), (67, .lload 7, 2), (69, .lconst 0, 1), (70, .lcmp, 1), (71, .ifCond .le 17, 3), (74, .iinc 6 1, 3)] := dk_dX10_letter_52.2.2.2.2.2.2.2.2
theorem dX10_letter_61 : decode cX10_letter 61 = .ok (.istore 6, 2) := dk_dX10_letter_52_8.1
theorem dX10_letter_63 : decode cX10_letter 63 = .ok (.lload 4, 2) := dk_dX10_letter_52_8.2.1
theorem dX10_letter_65 : decode cX10_letter 65 = .ok (.lstore 7, 2) := dk_dX10_letter_52_8.2.2.1
theorem dX10_letter_67 : decode cX10_letter 67 = .ok (.lload 7, 2) := dk_dX10_letter_52_8.2.2.2.1
theorem dX10_letter_69 : decode cX10_letter 69 = .ok (.lconst 0, 1) := dk_dX10_letter_52_8.2.2.2.2.1
theorem dX10_letter_70 : decode cX10_letter 70 = .ok (.lcmp, 1) := dk_dX10_letter_52_8.2.2.2.2.2.1
theorem dX10_letter_71 : decode cX10_letter 71 = .ok (.ifCond .le 17, 3) := dk_dX10_letter_52_8.2.2.2.2.2.2.1
theorem dX10_letter_74 : decode cX10_letter 74 = .ok (.iinc 6 1, 3) := dk_dX10_letter_52_8.2.2.2.2.2.2.2.1
theorem dk_dX10_letter_77 : dz_C cX10_letter [(77, .lload 7, 2), (79, .ldc2_w 329, 3), (82, .ldiv, 1), (83, .lstore 7, 2), (85, .goto (-18), 3), (88, .iload_n 3, 1), (89, .iload 6, 2), (91, .if_icmp .lt 5, 3), (94, .iconst 0, 1), (95, .ireturn, 1), (96, .iload 6, 2), (98, .iconst 1, 1), (99, .isub, 1), (100, .istore 7, 2), (102, .iload 7, 2), (104, .iload_n 3, 1)] := dz_of (by decide +kernel)
theorem dX10_letter_77 : decode cX10_letter 77 = .ok (.lload 7, 2) := dk_dX10_letter_77.1
theorem dX10_letter_79 : decode cX10_letter 79 = .ok (.ldc2_w 329, 3) := dk_dX10_letter_77.2.1
theorem dX10_letter_82 : decode cX10_letter 82 = .ok (.ldiv, 1) := dk_dX10_letter_77.2.2.1
theorem dX10_letter_83 : decode cX10_letter 83 = .ok (.lstore 7, 2) := dk_dX10_letter_77.2.2.2.1
theorem dX10_letter_85 : decode cX10_letter 85 = .ok (.goto (-18), 3) := dk_dX10_letter_77.2.2.2.2.1
theorem dX10_letter_88 : decode cX10_letter 88 = .ok (.iload_n 3, 1) := dk_dX10_letter_77.2.2.2.2.2.1
theorem dX10_letter_89 : decode cX10_letter 89 = .ok (.iload 6, 2) := dk_dX10_letter_77.2.2.2.2.2.2.1
theorem dX10_letter_91 : decode cX10_letter 91 = .ok (.if_icmp .lt 5, 3) := dk_dX10_letter_77.2.2.2.2.2.2.2.1
theorem dk_dX10_letter_77_8 : dz_C cX10_letter [(94, .iconst 0, 1), (95, .ireturn, 1), (96, .iload 6, 2), (98, .iconst 1, 1), (99, .isub, 1), (100, .istore 7, 2), (102, .iload 7, 2), (104, .iload_n 3, 1)] := dk_dX10_letter_77.2.2.2.2.2.2.2.2
theorem dX10_letter_94 : decode cX10_letter 94 = .ok (.iconst 0, 1) := dk_dX10_letter_77_8.1
theorem dX10_letter_95 : decode cX10_letter 95 = .ok (.ireturn, 1) := dk_dX10_letter_77_8.2.1
theorem dX10_letter_96 : decode cX10_letter 96 = .ok (.iload 6, 2) := dk_dX10_letter_77_8.2.2.1
theorem dX10_letter_98 : decode cX10_letter 98 = .ok (.iconst 1, 1) := dk_dX10_letter_77_8.2.2.2.1
theorem dX10_letter_99 : decode cX10_letter 99 = .ok (.isub, 1) := dk_dX10_letter_77_8.2.2.2.2.1
theorem dX10_letter_100 : decode cX10_letter 100 = .ok (.istore 7, 2) := dk_dX10_letter_77_8.2.2.2.2.2.1
theorem dX10_letter_102 : decode cX10_letter 102 = .ok (.iload 7, 2) := dk_dX10_letter_77_8.2.2.2.2.2.2.1
theorem dX10_letter_104 : decode cX10_letter 104 = .ok (.iload_n 3, 1) := dk_dX10_letter_77_8.2.2.2.2.2.2.2.1
theorem dk_dX10_letter_105 : dz_C cX10_letter [(105, .if_icmp .le 17, 3), (108, .lload 4, 2), (110, .ldc2_w 329, 3), (113, .ldiv, 1), (114, .lstore 4, 2), (116, .iinc 7 (-1), 3), (119, .goto (-17), 3), (122, .lload 4, 2), (124, .ldc2_w 329, 3), (127, .lrem, 1), (128, .l2i, 1), (129, .ireturn, 1)] := dz_of (by decide +kernel)
theorem dX10_letter_105 : decode cX10_letter 105 = .ok (.if_icmp .le 17, 3) := dk_dX10_letter_105.1
theorem dX10_letter_108 : decode cX10_letter 108 = .ok (.lload 4, 2) := dk_dX10_letter_105.2.1
theorem dX10_letter_110 : decode cX10_letter 110 = .ok (.ldc2_w 329, 3) := dk_dX10_letter_105.2.2.1
theorem dX10_letter_113 : decode cX10_letter 113 = .ok (.ldiv, 1) := dk_dX10_letter_105.2.2.2.1
theorem dX10_letter_114 : decode cX10_letter 114 = .ok (.lstore 4, 2) := dk_dX10_letter_105.2.2.2.2.1
theorem dX10_letter_116 : decode cX10_letter 116 = .ok (.iinc 7 (-1), 3) := dk_dX10_letter_105.2.2.2.2.2.1
theorem dX10_letter_119 : decode cX10_letter 119 = .ok (.goto (-17), 3) := dk_dX10_letter_105.2.2.2.2.2.2.1
theorem dX10_letter_122 : decode cX10_letter 122 = .ok (.lload 4, 2) := dk_dX10_letter_105.2.2.2.2.2.2.2.1
theorem dk_dX10_letter_105_8 : dz_C cX10_letter [(124, .ldc2_w 329, 3), (127, .lrem, 1), (128, .l2i, 1), (129, .ireturn, 1)] := dk_dX10_letter_105.2.2.2.2.2.2.2.2
theorem dX10_letter_124 : decode cX10_letter 124 = .ok (.ldc2_w 329, 3) := dk_dX10_letter_105_8.1
theorem dX10_letter_127 : decode cX10_letter 127 = .ok (.lrem, 1) := dk_dX10_letter_105_8.2.1
theorem dX10_letter_128 : decode cX10_letter 128 = .ok (.l2i, 1) := dk_dX10_letter_105_8.2.2.1
theorem dX10_letter_129 : decode cX10_letter 129 = .ok (.ireturn, 1) := dk_dX10_letter_105_8.2.2.2.1
theorem dk_dX10_light_0 : dz_C cX10_light [(0, .aload_n 0, 1), (1, .getfield 417, 3), (4, .ifCond .eq 15, 3), (7, .iload_n 1, 1), (8, .i2l, 1), (9, .lconst 0, 1), (10, .ldc2_w 537, 3), (13, .invokestatic 318, 3), (16, .ifCond .ne 5, 3), (19, .iconst (-1), 1), (20, .ireturn, 1), (21, .aload_n 0, 1), (22, .invokevirtual 534, 3), (25, .aload_n 0, 1), (26, .getfield 152, 3), (29, .iload_n 1, 1)] := dz_of (by decide +kernel)
theorem dX10_light_0 : decode cX10_light 0 = .ok (.aload_n 0, 1) := dk_dX10_light_0.1
theorem dX10_light_1 : decode cX10_light 1 = .ok (.getfield 417, 3) := dk_dX10_light_0.2.1
theorem dX10_light_4 : decode cX10_light 4 = .ok (.ifCond .eq 15, 3) := dk_dX10_light_0.2.2.1
theorem dX10_light_7 : decode cX10_light 7 = .ok (.iload_n 1, 1) := dk_dX10_light_0.2.2.2.1
theorem dX10_light_8 : decode cX10_light 8 = .ok (.i2l, 1) := dk_dX10_light_0.2.2.2.2.1
theorem dX10_light_9 : decode cX10_light 9 = .ok (.lconst 0, 1) := dk_dX10_light_0.2.2.2.2.2.1
theorem dX10_light_10 : decode cX10_light 10 = .ok (.ldc2_w 537, 3) := dk_dX10_light_0.2.2.2.2.2.2.1
theorem dX10_light_13 : decode cX10_light 13 = .ok (.invokestatic 318, 3) := dk_dX10_light_0.2.2.2.2.2.2.2.1
theorem dk_dX10_light_0_8 : dz_C cX10_light [(16, .ifCond .ne 5, 3), (19, .iconst (-1), 1), (20, .ireturn, 1), (21, .aload_n 0, 1), (22, .invokevirtual 534, 3), (25, .aload_n 0, 1), (26, .getfield 152, 3), (29, .iload_n 1, 1)] := dk_dX10_light_0.2.2.2.2.2.2.2.2
theorem dX10_light_16 : decode cX10_light 16 = .ok (.ifCond .ne 5, 3) := dk_dX10_light_0_8.1
theorem dX10_light_19 : decode cX10_light 19 = .ok (.iconst (-1), 1) := dk_dX10_light_0_8.2.1
theorem dX10_light_20 : decode cX10_light 20 = .ok (.ireturn, 1) := dk_dX10_light_0_8.2.2.1
theorem dX10_light_21 : decode cX10_light 21 = .ok (.aload_n 0, 1) := dk_dX10_light_0_8.2.2.2.1
theorem dX10_light_22 : decode cX10_light 22 = .ok (.invokevirtual 534, 3) := dk_dX10_light_0_8.2.2.2.2.1
theorem dX10_light_25 : decode cX10_light 25 = .ok (.aload_n 0, 1) := dk_dX10_light_0_8.2.2.2.2.2.1
theorem dX10_light_26 : decode cX10_light 26 = .ok (.getfield 152, 3) := dk_dX10_light_0_8.2.2.2.2.2.2.1
theorem dX10_light_29 : decode cX10_light 29 = .ok (.iload_n 1, 1) := dk_dX10_light_0_8.2.2.2.2.2.2.2.1
theorem dk_dX10_light_30 : dz_C cX10_light [(30, .baload, 1), (31, .ifCond .eq 7, 3), (34, .iconst 1, 1), (35, .goto 4, 3), (38, .iconst 0, 1), (39, .ireturn, 1)] := dz_of (by decide +kernel)
theorem dX10_light_30 : decode cX10_light 30 = .ok (.baload, 1) := dk_dX10_light_30.1
theorem dX10_light_31 : decode cX10_light 31 = .ok (.ifCond .eq 7, 3) := dk_dX10_light_30.2.1
theorem dX10_light_34 : decode cX10_light 34 = .ok (.iconst 1, 1) := dk_dX10_light_30.2.2.1
theorem dX10_light_35 : decode cX10_light 35 = .ok (.goto 4, 3) := dk_dX10_light_30.2.2.2.1
theorem dX10_light_38 : decode cX10_light 38 = .ok (.iconst 0, 1) := dk_dX10_light_30.2.2.2.2.1
theorem dX10_light_39 : decode cX10_light 39 = .ok (.ireturn, 1) := dk_dX10_light_30.2.2.2.2.2.1
theorem dk_dX10_look_0 : dz_C cX10_look [(0, .aload_n 0, 1), (1, .getfield 285, 3), (4, .aload_n 0, 1), (5, .getfield 288, 3), (8, .if_icmp .ge 44, 3), (11, .aload_n 0, 1), (12, .getfield 7, 3), (15, .aload_n 0, 1), (16, .getfield 285, 3), (19, .iaload, 1), (20, .bipush 10, 2), (22, .if_icmp .eq 17, 3), (25, .aload_n 0, 1), (26, .getfield 7, 3), (29, .aload_n 0, 1), (30, .getfield 285, 3)] := dz_of (by decide +kernel)
theorem dX10_look_0 : decode cX10_look 0 = .ok (.aload_n 0, 1) := dk_dX10_look_0.1
theorem dX10_look_1 : decode cX10_look 1 = .ok (.getfield 285, 3) := dk_dX10_look_0.2.1
theorem dX10_look_4 : decode cX10_look 4 = .ok (.aload_n 0, 1) := dk_dX10_look_0.2.2.1
theorem dX10_look_5 : decode cX10_look 5 = .ok (.getfield 288, 3) := dk_dX10_look_0.2.2.2.1
theorem dX10_look_8 : decode cX10_look 8 = .ok (.if_icmp .ge 44, 3) := dk_dX10_look_0.2.2.2.2.1
theorem dX10_look_11 : decode cX10_look 11 = .ok (.aload_n 0, 1) := dk_dX10_look_0.2.2.2.2.2.1
theorem dX10_look_12 : decode cX10_look 12 = .ok (.getfield 7, 3) := dk_dX10_look_0.2.2.2.2.2.2.1
theorem dX10_look_15 : decode cX10_look 15 = .ok (.aload_n 0, 1) := dk_dX10_look_0.2.2.2.2.2.2.2.1
theorem dk_dX10_look_0_8 : dz_C cX10_look [(16, .getfield 285, 3), (19, .iaload, 1), (20, .bipush 10, 2), (22, .if_icmp .eq 17, 3), (25, .aload_n 0, 1), (26, .getfield 7, 3), (29, .aload_n 0, 1), (30, .getfield 285, 3)] := dk_dX10_look_0.2.2.2.2.2.2.2.2
theorem dX10_look_16 : decode cX10_look 16 = .ok (.getfield 285, 3) := dk_dX10_look_0_8.1
theorem dX10_look_19 : decode cX10_look 19 = .ok (.iaload, 1) := dk_dX10_look_0_8.2.1
theorem dX10_look_20 : decode cX10_look 20 = .ok (.bipush 10, 2) := dk_dX10_look_0_8.2.2.1
theorem dX10_look_22 : decode cX10_look 22 = .ok (.if_icmp .eq 17, 3) := dk_dX10_look_0_8.2.2.2.1
theorem dX10_look_25 : decode cX10_look 25 = .ok (.aload_n 0, 1) := dk_dX10_look_0_8.2.2.2.2.1
theorem dX10_look_26 : decode cX10_look 26 = .ok (.getfield 7, 3) := dk_dX10_look_0_8.2.2.2.2.2.1
theorem dX10_look_29 : decode cX10_look 29 = .ok (.aload_n 0, 1) := dk_dX10_look_0_8.2.2.2.2.2.2.1
theorem dX10_look_30 : decode cX10_look 30 = .ok (.getfield 285, 3) := dk_dX10_look_0_8.2.2.2.2.2.2.2.1
theorem dk_dX10_look_33 : dz_C cX10_look [(33, .iaload, 1), (34, .bipush 32, 2), (36, .if_icmp .ne 16, 3), (39, .aload_n 0, 1), (40, .dup, 1), (41, .getfield 285, 3), (44, .iconst 1, 1), (45, .iadd, 1), (46, .putfield 285, 3), (49, .goto (-49), 3), (52, .aload_n 0, 1), (53, .getfield 285, 3), (56, .aload_n 0, 1), (57, .getfield 288, 3), (60, .if_icmp .ge 15, 3), (63, .aload_n 0, 1)] := dz_of (by decide +kernel)
theorem dX10_look_33 : decode cX10_look 33 = .ok (.iaload, 1) := dk_dX10_look_33.1
theorem dX10_look_34 : decode cX10_look 34 = .ok (.bipush 32, 2) := dk_dX10_look_33.2.1
theorem dX10_look_36 : decode cX10_look 36 = .ok (.if_icmp .ne 16, 3) := dk_dX10_look_33.2.2.1
theorem dX10_look_39 : decode cX10_look 39 = .ok (.aload_n 0, 1) := dk_dX10_look_33.2.2.2.1
theorem dX10_look_40 : decode cX10_look 40 = .ok (.dup, 1) := dk_dX10_look_33.2.2.2.2.1
theorem dX10_look_41 : decode cX10_look 41 = .ok (.getfield 285, 3) := dk_dX10_look_33.2.2.2.2.2.1
theorem dX10_look_44 : decode cX10_look 44 = .ok (.iconst 1, 1) := dk_dX10_look_33.2.2.2.2.2.2.1
theorem dX10_look_45 : decode cX10_look 45 = .ok (.iadd, 1) := dk_dX10_look_33.2.2.2.2.2.2.2.1
theorem dk_dX10_look_33_8 : dz_C cX10_look [(46, .putfield 285, 3), (49, .goto (-49), 3), (52, .aload_n 0, 1), (53, .getfield 285, 3), (56, .aload_n 0, 1), (57, .getfield 288, 3), (60, .if_icmp .ge 15, 3), (63, .aload_n 0, 1)] := dk_dX10_look_33.2.2.2.2.2.2.2.2
theorem dX10_look_46 : decode cX10_look 46 = .ok (.putfield 285, 3) := dk_dX10_look_33_8.1
theorem dX10_look_49 : decode cX10_look 49 = .ok (.goto (-49), 3) := dk_dX10_look_33_8.2.1
theorem dX10_look_52 : decode cX10_look 52 = .ok (.aload_n 0, 1) := dk_dX10_look_33_8.2.2.1
theorem dX10_look_53 : decode cX10_look 53 = .ok (.getfield 285, 3) := dk_dX10_look_33_8.2.2.2.1
theorem dX10_look_56 : decode cX10_look 56 = .ok (.aload_n 0, 1) := dk_dX10_look_33_8.2.2.2.2.1
theorem dX10_look_57 : decode cX10_look 57 = .ok (.getfield 288, 3) := dk_dX10_look_33_8.2.2.2.2.2.1
theorem dX10_look_60 : decode cX10_look 60 = .ok (.if_icmp .ge 15, 3) := dk_dX10_look_33_8.2.2.2.2.2.2.1
theorem dX10_look_63 : decode cX10_look 63 = .ok (.aload_n 0, 1) := dk_dX10_look_33_8.2.2.2.2.2.2.2.1
theorem dk_dX10_look_64 : dz_C cX10_look [(64, .getfield 7, 3), (67, .aload_n 0, 1), (68, .getfield 285, 3), (71, .iaload, 1), (72, .goto 4, 3), (75, .iconst (-1), 1), (76, .ireturn, 1)] := dz_of (by decide +kernel)
theorem dX10_look_64 : decode cX10_look 64 = .ok (.getfield 7, 3) := dk_dX10_look_64.1
theorem dX10_look_67 : decode cX10_look 67 = .ok (.aload_n 0, 1) := dk_dX10_look_64.2.1
theorem dX10_look_68 : decode cX10_look 68 = .ok (.getfield 285, 3) := dk_dX10_look_64.2.2.1
theorem dX10_look_71 : decode cX10_look 71 = .ok (.iaload, 1) := dk_dX10_look_64.2.2.2.1
theorem dX10_look_72 : decode cX10_look 72 = .ok (.goto 4, 3) := dk_dX10_look_64.2.2.2.2.1
theorem dX10_look_75 : decode cX10_look 75 = .ok (.iconst (-1), 1) := dk_dX10_look_64.2.2.2.2.2.1
theorem dX10_look_76 : decode cX10_look 76 = .ok (.ireturn, 1) := dk_dX10_look_64.2.2.2.2.2.2.1
theorem dk_dX10_mostAlike_0 : dz_C cX10_mostAlike [(0, .iconst 0, 1), (1, .istore_n 2, 1), (2, .iconst 0, 1), (3, .istore_n 3, 1), (4, .iload_n 3, 1), (5, .aload_n 0, 1), (6, .getfield 570, 3), (9, .if_icmp .ge 68, 3), (12, .iconst 0, 1), (13, .istore 4, 2), (15, .iconst 0, 1), (16, .istore 5, 2), (18, .iload 5, 2), (20, .aload_n 0, 1), (21, .getfield 570, 3), (24, .if_icmp .ge 38, 3)] := dz_of (by decide +kernel)
theorem dX10_mostAlike_0 : decode cX10_mostAlike 0 = .ok (.iconst 0, 1) := dk_dX10_mostAlike_0.1
theorem dX10_mostAlike_1 : decode cX10_mostAlike 1 = .ok (.istore_n 2, 1) := dk_dX10_mostAlike_0.2.1
theorem dX10_mostAlike_2 : decode cX10_mostAlike 2 = .ok (.iconst 0, 1) := dk_dX10_mostAlike_0.2.2.1
theorem dX10_mostAlike_3 : decode cX10_mostAlike 3 = .ok (.istore_n 3, 1) := dk_dX10_mostAlike_0.2.2.2.1
theorem dX10_mostAlike_4 : decode cX10_mostAlike 4 = .ok (.iload_n 3, 1) := dk_dX10_mostAlike_0.2.2.2.2.1
theorem dX10_mostAlike_5 : decode cX10_mostAlike 5 = .ok (.aload_n 0, 1) := dk_dX10_mostAlike_0.2.2.2.2.2.1
theorem dX10_mostAlike_6 : decode cX10_mostAlike 6 = .ok (.getfield 570, 3) := dk_dX10_mostAlike_0.2.2.2.2.2.2.1
theorem dX10_mostAlike_9 : decode cX10_mostAlike 9 = .ok (.if_icmp .ge 68, 3) := dk_dX10_mostAlike_0.2.2.2.2.2.2.2.1
theorem dk_dX10_mostAlike_0_8 : dz_C cX10_mostAlike [(12, .iconst 0, 1), (13, .istore 4, 2), (15, .iconst 0, 1), (16, .istore 5, 2), (18, .iload 5, 2), (20, .aload_n 0, 1), (21, .getfield 570, 3), (24, .if_icmp .ge 38, 3)] := dk_dX10_mostAlike_0.2.2.2.2.2.2.2.2
theorem dX10_mostAlike_12 : decode cX10_mostAlike 12 = .ok (.iconst 0, 1) := dk_dX10_mostAlike_0_8.1
theorem dX10_mostAlike_13 : decode cX10_mostAlike 13 = .ok (.istore 4, 2) := dk_dX10_mostAlike_0_8.2.1
theorem dX10_mostAlike_15 : decode cX10_mostAlike 15 = .ok (.iconst 0, 1) := dk_dX10_mostAlike_0_8.2.2.1
theorem dX10_mostAlike_16 : decode cX10_mostAlike 16 = .ok (.istore 5, 2) := dk_dX10_mostAlike_0_8.2.2.2.1
theorem dX10_mostAlike_18 : decode cX10_mostAlike 18 = .ok (.iload 5, 2) := dk_dX10_mostAlike_0_8.2.2.2.2.1
theorem dX10_mostAlike_20 : decode cX10_mostAlike 20 = .ok (.aload_n 0, 1) := dk_dX10_mostAlike_0_8.2.2.2.2.2.1
theorem dX10_mostAlike_21 : decode cX10_mostAlike 21 = .ok (.getfield 570, 3) := dk_dX10_mostAlike_0_8.2.2.2.2.2.2.1
theorem dX10_mostAlike_24 : decode cX10_mostAlike 24 = .ok (.if_icmp .ge 38, 3) := dk_dX10_mostAlike_0_8.2.2.2.2.2.2.2.1
theorem dk_dX10_mostAlike_27 : dz_C cX10_mostAlike [(27, .aload_n 0, 1), (28, .getfield 179, 3), (31, .bipush 12, 2), (33, .iload_n 3, 1), (34, .imul, 1), (35, .iload_n 1, 1), (36, .iadd, 1), (37, .iaload, 1), (38, .aload_n 0, 1), (39, .getfield 179, 3), (42, .bipush 12, 2), (44, .iload 5, 2), (46, .imul, 1), (47, .iload_n 1, 1), (48, .iadd, 1), (49, .iaload, 1)] := dz_of (by decide +kernel)
theorem dX10_mostAlike_27 : decode cX10_mostAlike 27 = .ok (.aload_n 0, 1) := dk_dX10_mostAlike_27.1
theorem dX10_mostAlike_28 : decode cX10_mostAlike 28 = .ok (.getfield 179, 3) := dk_dX10_mostAlike_27.2.1
theorem dX10_mostAlike_31 : decode cX10_mostAlike 31 = .ok (.bipush 12, 2) := dk_dX10_mostAlike_27.2.2.1
theorem dX10_mostAlike_33 : decode cX10_mostAlike 33 = .ok (.iload_n 3, 1) := dk_dX10_mostAlike_27.2.2.2.1
theorem dX10_mostAlike_34 : decode cX10_mostAlike 34 = .ok (.imul, 1) := dk_dX10_mostAlike_27.2.2.2.2.1
theorem dX10_mostAlike_35 : decode cX10_mostAlike 35 = .ok (.iload_n 1, 1) := dk_dX10_mostAlike_27.2.2.2.2.2.1
theorem dX10_mostAlike_36 : decode cX10_mostAlike 36 = .ok (.iadd, 1) := dk_dX10_mostAlike_27.2.2.2.2.2.2.1
theorem dX10_mostAlike_37 : decode cX10_mostAlike 37 = .ok (.iaload, 1) := dk_dX10_mostAlike_27.2.2.2.2.2.2.2.1
theorem dk_dX10_mostAlike_27_8 : dz_C cX10_mostAlike [(38, .aload_n 0, 1), (39, .getfield 179, 3), (42, .bipush 12, 2), (44, .iload 5, 2), (46, .imul, 1), (47, .iload_n 1, 1), (48, .iadd, 1), (49, .iaload, 1)] := dk_dX10_mostAlike_27.2.2.2.2.2.2.2.2
theorem dX10_mostAlike_38 : decode cX10_mostAlike 38 = .ok (.aload_n 0, 1) := dk_dX10_mostAlike_27_8.1
theorem dX10_mostAlike_39 : decode cX10_mostAlike 39 = .ok (.getfield 179, 3) := dk_dX10_mostAlike_27_8.2.1
theorem dX10_mostAlike_42 : decode cX10_mostAlike 42 = .ok (.bipush 12, 2) := dk_dX10_mostAlike_27_8.2.2.1
theorem dX10_mostAlike_44 : decode cX10_mostAlike 44 = .ok (.iload 5, 2) := dk_dX10_mostAlike_27_8.2.2.2.1
theorem dX10_mostAlike_46 : decode cX10_mostAlike 46 = .ok (.imul, 1) := dk_dX10_mostAlike_27_8.2.2.2.2.1
theorem dX10_mostAlike_47 : decode cX10_mostAlike 47 = .ok (.iload_n 1, 1) := dk_dX10_mostAlike_27_8.2.2.2.2.2.1
theorem dX10_mostAlike_48 : decode cX10_mostAlike 48 = .ok (.iadd, 1) := dk_dX10_mostAlike_27_8.2.2.2.2.2.2.1
theorem dX10_mostAlike_49 : decode cX10_mostAlike 49 = .ok (.iaload, 1) := dk_dX10_mostAlike_27_8.2.2.2.2.2.2.2.1
theorem dk_dX10_mostAlike_50 : dz_C cX10_mostAlike [(50, .if_icmp .ne 6, 3), (53, .iinc 4 1, 3), (56, .iinc 5 1, 3), (59, .goto (-41), 3), (62, .iload 4, 2), (64, .iload_n 2, 1), (65, .if_icmp .le 6, 3), (68, .iload 4, 2), (70, .istore_n 2, 1), (71, .iinc 3 1, 3), (74, .goto (-70), 3), (77, .iload_n 2, 1), (78, .ireturn, 1)] := dz_of (by decide +kernel)
theorem dX10_mostAlike_50 : decode cX10_mostAlike 50 = .ok (.if_icmp .ne 6, 3) := dk_dX10_mostAlike_50.1
theorem dX10_mostAlike_53 : decode cX10_mostAlike 53 = .ok (.iinc 4 1, 3) := dk_dX10_mostAlike_50.2.1
theorem dX10_mostAlike_56 : decode cX10_mostAlike 56 = .ok (.iinc 5 1, 3) := dk_dX10_mostAlike_50.2.2.1
theorem dX10_mostAlike_59 : decode cX10_mostAlike 59 = .ok (.goto (-41), 3) := dk_dX10_mostAlike_50.2.2.2.1
theorem dX10_mostAlike_62 : decode cX10_mostAlike 62 = .ok (.iload 4, 2) := dk_dX10_mostAlike_50.2.2.2.2.1
theorem dX10_mostAlike_64 : decode cX10_mostAlike 64 = .ok (.iload_n 2, 1) := dk_dX10_mostAlike_50.2.2.2.2.2.1
theorem dX10_mostAlike_65 : decode cX10_mostAlike 65 = .ok (.if_icmp .le 6, 3) := dk_dX10_mostAlike_50.2.2.2.2.2.2.1
theorem dX10_mostAlike_68 : decode cX10_mostAlike 68 = .ok (.iload 4, 2) := dk_dX10_mostAlike_50.2.2.2.2.2.2.2.1
theorem dk_dX10_mostAlike_50_8 : dz_C cX10_mostAlike [(70, .istore_n 2, 1), (71, .iinc 3 1, 3), (74, .goto (-70), 3), (77, .iload_n 2, 1), (78, .ireturn, 1)] := dk_dX10_mostAlike_50.2.2.2.2.2.2.2.2
theorem dX10_mostAlike_70 : decode cX10_mostAlike 70 = .ok (.istore_n 2, 1) := dk_dX10_mostAlike_50_8.1
theorem dX10_mostAlike_71 : decode cX10_mostAlike 71 = .ok (.iinc 3 1, 3) := dk_dX10_mostAlike_50_8.2.1
theorem dX10_mostAlike_74 : decode cX10_mostAlike 74 = .ok (.goto (-70), 3) := dk_dX10_mostAlike_50_8.2.2.1
theorem dX10_mostAlike_77 : decode cX10_mostAlike 77 = .ok (.iload_n 2, 1) := dk_dX10_mostAlike_50_8.2.2.2.1
theorem dX10_mostAlike_78 : decode cX10_mostAlike 78 = .ok (.ireturn, 1) := dk_dX10_mostAlike_50_8.2.2.2.2.1
theorem dk_dX10_name_0 : dz_C cX10_name [(0, .aload_n 0, 1), (1, .getfield 279, 3), (4, .ifCond .eq 5, 3), (7, .lconst 0, 1), (8, .lreturn, 1), (9, .aload_n 0, 1), (10, .invokevirtual 291, 3), (13, .invokestatic 295, 3), (16, .ifCond .eq 21, 3), (19, .aload_n 0, 1), (20, .getfield 285, 3), (23, .aload_n 0, 1), (24, .getfield 299, 3), (27, .if_icmp .eq 10, 3), (30, .aload_n 0, 1), (31, .invokevirtual 322, 3)] := dz_of (by decide +kernel)
theorem dX10_name_0 : decode cX10_name 0 = .ok (.aload_n 0, 1) := dk_dX10_name_0.1
theorem dX10_name_1 : decode cX10_name 1 = .ok (.getfield 279, 3) := dk_dX10_name_0.2.1
theorem dX10_name_4 : decode cX10_name 4 = .ok (.ifCond .eq 5, 3) := dk_dX10_name_0.2.2.1
theorem dX10_name_7 : decode cX10_name 7 = .ok (.lconst 0, 1) := dk_dX10_name_0.2.2.2.1
theorem dX10_name_8 : decode cX10_name 8 = .ok (.lreturn, 1) := dk_dX10_name_0.2.2.2.2.1
theorem dX10_name_9 : decode cX10_name 9 = .ok (.aload_n 0, 1) := dk_dX10_name_0.2.2.2.2.2.1
theorem dX10_name_10 : decode cX10_name 10 = .ok (.invokevirtual 291, 3) := dk_dX10_name_0.2.2.2.2.2.2.1
theorem dX10_name_13 : decode cX10_name 13 = .ok (.invokestatic 295, 3) := dk_dX10_name_0.2.2.2.2.2.2.2.1
theorem dk_dX10_name_0_8 : dz_C cX10_name [(16, .ifCond .eq 21, 3), (19, .aload_n 0, 1), (20, .getfield 285, 3), (23, .aload_n 0, 1), (24, .getfield 299, 3), (27, .if_icmp .eq 10, 3), (30, .aload_n 0, 1), (31, .invokevirtual 322, 3)] := dk_dX10_name_0.2.2.2.2.2.2.2.2
theorem dX10_name_16 : decode cX10_name 16 = .ok (.ifCond .eq 21, 3) := dk_dX10_name_0_8.1
theorem dX10_name_19 : decode cX10_name 19 = .ok (.aload_n 0, 1) := dk_dX10_name_0_8.2.1
theorem dX10_name_20 : decode cX10_name 20 = .ok (.getfield 285, 3) := dk_dX10_name_0_8.2.2.1
theorem dX10_name_23 : decode cX10_name 23 = .ok (.aload_n 0, 1) := dk_dX10_name_0_8.2.2.2.1
theorem dX10_name_24 : decode cX10_name 24 = .ok (.getfield 299, 3) := dk_dX10_name_0_8.2.2.2.2.1
theorem dX10_name_27 : decode cX10_name 27 = .ok (.if_icmp .eq 10, 3) := dk_dX10_name_0_8.2.2.2.2.2.1
theorem dX10_name_30 : decode cX10_name 30 = .ok (.aload_n 0, 1) := dk_dX10_name_0_8.2.2.2.2.2.2.1
theorem dX10_name_31 : decode cX10_name 31 = .ok (.invokevirtual 322, 3) := dk_dX10_name_0_8.2.2.2.2.2.2.2.1
theorem dk_dX10_name_34 : dz_C cX10_name [(34, .ifCond .eq 14, 3), (37, .aload_n 0, 1), (38, .iconst 1, 1), (39, .aload_n 0, 1), (40, .getfield 285, 3), (43, .invokevirtual 308, 3), (46, .lconst 0, 1), (47, .lreturn, 1), (48, .aload_n 0, 1), (49, .aload_n 0, 1), (50, .getfield 285, 3), (53, .putfield 326, 3), (56, .lconst 0, 1), (57, .lstore_n 1, 1), (58, .aload_n 0, 1), (59, .getfield 285, 3)] := dz_of (by decide +kernel)
theorem dX10_name_34 : decode cX10_name 34 = .ok (.ifCond .eq 14, 3) := dk_dX10_name_34.1
theorem dX10_name_37 : decode cX10_name 37 = .ok (.aload_n 0, 1) := dk_dX10_name_34.2.1
theorem dX10_name_38 : decode cX10_name 38 = .ok (.iconst 1, 1) := dk_dX10_name_34.2.2.1
theorem dX10_name_39 : decode cX10_name 39 = .ok (.aload_n 0, 1) := dk_dX10_name_34.2.2.2.1
theorem dX10_name_40 : decode cX10_name 40 = .ok (.getfield 285, 3) := dk_dX10_name_34.2.2.2.2.1
theorem dX10_name_43 : decode cX10_name 43 = .ok (.invokevirtual 308, 3) := dk_dX10_name_34.2.2.2.2.2.1
theorem dX10_name_46 : decode cX10_name 46 = .ok (.lconst 0, 1) := dk_dX10_name_34.2.2.2.2.2.2.1
theorem dX10_name_47 : decode cX10_name 47 = .ok (.lreturn, 1) := dk_dX10_name_34.2.2.2.2.2.2.2.1
theorem dk_dX10_name_34_8 : dz_C cX10_name [(48, .aload_n 0, 1), (49, .aload_n 0, 1), (50, .getfield 285, 3), (53, .putfield 326, 3), (56, .lconst 0, 1), (57, .lstore_n 1, 1), (58, .aload_n 0, 1), (59, .getfield 285, 3)] := dk_dX10_name_34.2.2.2.2.2.2.2.2
theorem dX10_name_48 : decode cX10_name 48 = .ok (.aload_n 0, 1) := dk_dX10_name_34_8.1
theorem dX10_name_49 : decode cX10_name 49 = .ok (.aload_n 0, 1) := dk_dX10_name_34_8.2.1
theorem dX10_name_50 : decode cX10_name 50 = .ok (.getfield 285, 3) := dk_dX10_name_34_8.2.2.1
theorem dX10_name_53 : decode cX10_name 53 = .ok (.putfield 326, 3) := dk_dX10_name_34_8.2.2.2.1
theorem dX10_name_56 : decode cX10_name 56 = .ok (.lconst 0, 1) := dk_dX10_name_34_8.2.2.2.2.1
theorem dX10_name_57 : decode cX10_name 57 = .ok (.lstore_n 1, 1) := dk_dX10_name_34_8.2.2.2.2.2.1
theorem dX10_name_58 : decode cX10_name 58 = .ok (.aload_n 0, 1) := dk_dX10_name_34_8.2.2.2.2.2.2.1
theorem dX10_name_59 : decode cX10_name 59 = .ok (.getfield 285, 3) := dk_dX10_name_34_8.2.2.2.2.2.2.2.1
theorem dk_dX10_name_62 : dz_C cX10_name [(62, .aload_n 0, 1), (63, .getfield 288, 3), (66, .if_icmp .ge 79, 3), (69, .aload_n 0, 1), (70, .getfield 7, 3), (73, .aload_n 0, 1), (74, .getfield 285, 3), (77, .iaload, 1), (78, .invokestatic 295, 3), (81, .ifCond .eq 64, 3), (84, .aload_n 0, 1), (85, .getfield 285, 3), (88, .aload_n 0, 1), (89, .getfield 326, 3), (92, .isub, 1), (93, .bipush 6, 2)] := dz_of (by decide +kernel)
theorem dX10_name_62 : decode cX10_name 62 = .ok (.aload_n 0, 1) := dk_dX10_name_62.1
theorem dX10_name_63 : decode cX10_name 63 = .ok (.getfield 288, 3) := dk_dX10_name_62.2.1
theorem dX10_name_66 : decode cX10_name 66 = .ok (.if_icmp .ge 79, 3) := dk_dX10_name_62.2.2.1
theorem dX10_name_69 : decode cX10_name 69 = .ok (.aload_n 0, 1) := dk_dX10_name_62.2.2.2.1
theorem dX10_name_70 : decode cX10_name 70 = .ok (.getfield 7, 3) := dk_dX10_name_62.2.2.2.2.1
theorem dX10_name_73 : decode cX10_name 73 = .ok (.aload_n 0, 1) := dk_dX10_name_62.2.2.2.2.2.1
theorem dX10_name_74 : decode cX10_name 74 = .ok (.getfield 285, 3) := dk_dX10_name_62.2.2.2.2.2.2.1
theorem dX10_name_77 : decode cX10_name 77 = .ok (.iaload, 1) := dk_dX10_name_62.2.2.2.2.2.2.2.1
theorem dk_dX10_name_62_8 : dz_C cX10_name [(78, .invokestatic 295, 3), (81, .ifCond .eq 64, 3), (84, .aload_n 0, 1), (85, .getfield 285, 3), (88, .aload_n 0, 1), (89, .getfield 326, 3), (92, .isub, 1), (93, .bipush 6, 2)] := dk_dX10_name_62.2.2.2.2.2.2.2.2
theorem dX10_name_78 : decode cX10_name 78 = .ok (.invokestatic 295, 3) := dk_dX10_name_62_8.1
theorem dX10_name_81 : decode cX10_name 81 = .ok (.ifCond .eq 64, 3) := dk_dX10_name_62_8.2.1
theorem dX10_name_84 : decode cX10_name 84 = .ok (.aload_n 0, 1) := dk_dX10_name_62_8.2.2.1
theorem dX10_name_85 : decode cX10_name 85 = .ok (.getfield 285, 3) := dk_dX10_name_62_8.2.2.2.1
theorem dX10_name_88 : decode cX10_name 88 = .ok (.aload_n 0, 1) := dk_dX10_name_62_8.2.2.2.2.1
theorem dX10_name_89 : decode cX10_name 89 = .ok (.getfield 326, 3) := dk_dX10_name_62_8.2.2.2.2.2.1
theorem dX10_name_92 : decode cX10_name 92 = .ok (.isub, 1) := dk_dX10_name_62_8.2.2.2.2.2.2.1
theorem dX10_name_93 : decode cX10_name 93 = .ok (.bipush 6, 2) := dk_dX10_name_62_8.2.2.2.2.2.2.2.1
theorem dk_dX10_name_95 : dz_C cX10_name [(95, .if_icmp .ne 14, 3), (98, .aload_n 0, 1), (99, .iconst 1, 1), (100, .aload_n 0, 1), (101, .getfield 285, 3), (104, .invokevirtual 308, 3), (107, .lconst 0, 1), (108, .lreturn, 1), (109, .ldc2_w 329, 3), (112, .lload_n 1, 1), (113, .lmul, 1), (114, .aload_n 0, 1), (115, .getfield 7, 3), (118, .aload_n 0, 1), (119, .getfield 285, 3), (122, .iaload, 1)] := dz_of (by decide +kernel)
theorem dX10_name_95 : decode cX10_name 95 = .ok (.if_icmp .ne 14, 3) := dk_dX10_name_95.1
theorem dX10_name_98 : decode cX10_name 98 = .ok (.aload_n 0, 1) := dk_dX10_name_95.2.1
theorem dX10_name_99 : decode cX10_name 99 = .ok (.iconst 1, 1) := dk_dX10_name_95.2.2.1
theorem dX10_name_100 : decode cX10_name 100 = .ok (.aload_n 0, 1) := dk_dX10_name_95.2.2.2.1
theorem dX10_name_101 : decode cX10_name 101 = .ok (.getfield 285, 3) := dk_dX10_name_95.2.2.2.2.1
theorem dX10_name_104 : decode cX10_name 104 = .ok (.invokevirtual 308, 3) := dk_dX10_name_95.2.2.2.2.2.1
theorem dX10_name_107 : decode cX10_name 107 = .ok (.lconst 0, 1) := dk_dX10_name_95.2.2.2.2.2.2.1
theorem dX10_name_108 : decode cX10_name 108 = .ok (.lreturn, 1) := dk_dX10_name_95.2.2.2.2.2.2.2.1
theorem dk_dX10_name_95_8 : dz_C cX10_name [(109, .ldc2_w 329, 3), (112, .lload_n 1, 1), (113, .lmul, 1), (114, .aload_n 0, 1), (115, .getfield 7, 3), (118, .aload_n 0, 1), (119, .getfield 285, 3), (122, .iaload, 1)] := dk_dX10_name_95.2.2.2.2.2.2.2.2
theorem dX10_name_109 : decode cX10_name 109 = .ok (.ldc2_w 329, 3) := dk_dX10_name_95_8.1
theorem dX10_name_112 : decode cX10_name 112 = .ok (.lload_n 1, 1) := dk_dX10_name_95_8.2.1
theorem dX10_name_113 : decode cX10_name 113 = .ok (.lmul, 1) := dk_dX10_name_95_8.2.2.1
theorem dX10_name_114 : decode cX10_name 114 = .ok (.aload_n 0, 1) := dk_dX10_name_95_8.2.2.2.1
theorem dX10_name_115 : decode cX10_name 115 = .ok (.getfield 7, 3) := dk_dX10_name_95_8.2.2.2.2.1
theorem dX10_name_118 : decode cX10_name 118 = .ok (.aload_n 0, 1) := dk_dX10_name_95_8.2.2.2.2.2.1
theorem dX10_name_119 : decode cX10_name 119 = .ok (.getfield 285, 3) := dk_dX10_name_95_8.2.2.2.2.2.2.1
theorem dX10_name_122 : decode cX10_name 122 = .ok (.iaload, 1) := dk_dX10_name_95_8.2.2.2.2.2.2.2.1
theorem dk_dX10_name_123 : dz_C cX10_name [(123, .i2l, 1), (124, .ladd, 1), (125, .ldc2_w 331, 3), (128, .lsub, 1), (129, .lconst 1, 1), (130, .ladd, 1), (131, .lstore_n 1, 1), (132, .aload_n 0, 1), (133, .dup, 1), (134, .getfield 285, 3), (137, .iconst 1, 1), (138, .iadd, 1), (139, .putfield 285, 3), (142, .goto (-84), 3), (145, .aload_n 0, 1), (146, .aload_n 0, 1)] := dz_of (by decide +kernel)
theorem dX10_name_123 : decode cX10_name 123 = .ok (.i2l, 1) := dk_dX10_name_123.1
theorem dX10_name_124 : decode cX10_name 124 = .ok (.ladd, 1) := dk_dX10_name_123.2.1
theorem dX10_name_125 : decode cX10_name 125 = .ok (.ldc2_w 331, 3) := dk_dX10_name_123.2.2.1
theorem dX10_name_128 : decode cX10_name 128 = .ok (.lsub, 1) := dk_dX10_name_123.2.2.2.1
theorem dX10_name_129 : decode cX10_name 129 = .ok (.lconst 1, 1) := dk_dX10_name_123.2.2.2.2.1
theorem dX10_name_130 : decode cX10_name 130 = .ok (.ladd, 1) := dk_dX10_name_123.2.2.2.2.2.1
theorem dX10_name_131 : decode cX10_name 131 = .ok (.lstore_n 1, 1) := dk_dX10_name_123.2.2.2.2.2.2.1
theorem dX10_name_132 : decode cX10_name 132 = .ok (.aload_n 0, 1) := dk_dX10_name_123.2.2.2.2.2.2.2.1
theorem dk_dX10_name_123_8 : dz_C cX10_name [(133, .dup, 1), (134, .getfield 285, 3), (137, .iconst 1, 1), (138, .iadd, 1), (139, .putfield 285, 3), (142, .goto (-84), 3), (145, .aload_n 0, 1), (146, .aload_n 0, 1)] := dk_dX10_name_123.2.2.2.2.2.2.2.2
theorem dX10_name_133 : decode cX10_name 133 = .ok (.dup, 1) := dk_dX10_name_123_8.1
theorem dX10_name_134 : decode cX10_name 134 = .ok (.getfield 285, 3) := dk_dX10_name_123_8.2.1
theorem dX10_name_137 : decode cX10_name 137 = .ok (.iconst 1, 1) := dk_dX10_name_123_8.2.2.1
theorem dX10_name_138 : decode cX10_name 138 = .ok (.iadd, 1) := dk_dX10_name_123_8.2.2.2.1
theorem dX10_name_139 : decode cX10_name 139 = .ok (.putfield 285, 3) := dk_dX10_name_123_8.2.2.2.2.1
theorem dX10_name_142 : decode cX10_name 142 = .ok (.goto (-84), 3) := dk_dX10_name_123_8.2.2.2.2.2.1
theorem dX10_name_145 : decode cX10_name 145 = .ok (.aload_n 0, 1) := dk_dX10_name_123_8.2.2.2.2.2.2.1
theorem dX10_name_146 : decode cX10_name 146 = .ok (.aload_n 0, 1) := dk_dX10_name_123_8.2.2.2.2.2.2.2.1
theorem dk_dX10_name_147 : dz_C cX10_name [(147, .getfield 285, 3), (150, .putfield 299, 3), (153, .lload_n 1, 1), (154, .lreturn, 1)] := dz_of (by decide +kernel)
theorem dX10_name_147 : decode cX10_name 147 = .ok (.getfield 285, 3) := dk_dX10_name_147.1
theorem dX10_name_150 : decode cX10_name 150 = .ok (.putfield 299, 3) := dk_dX10_name_147.2.1
theorem dX10_name_153 : decode cX10_name 153 = .ok (.lload_n 1, 1) := dk_dX10_name_147.2.2.1
theorem dX10_name_154 : decode cX10_name 154 = .ok (.lreturn, 1) := dk_dX10_name_147.2.2.2.1
theorem dk_dX10_nameOf_0 : dz_C cX10_nameOf [(0, .iconst 0, 1), (1, .istore 4, 2), (3, .iload 4, 2), (5, .aload_n 0, 1), (6, .getfield 111, 3), (9, .iload_n 1, 1), (10, .iaload, 1), (11, .if_icmp .ge 29, 3), (14, .aload_n 0, 1), (15, .getfield 114, 3), (18, .bipush 12, 2), (20, .iload_n 1, 1), (21, .imul, 1), (22, .iload 4, 2), (24, .iadd, 1), (25, .laload, 1)] := dz_of (by decide +kernel)
theorem dX10_nameOf_0 : decode cX10_nameOf 0 = .ok (.iconst 0, 1) := dk_dX10_nameOf_0.1
theorem dX10_nameOf_1 : decode cX10_nameOf 1 = .ok (.istore 4, 2) := dk_dX10_nameOf_0.2.1
theorem dX10_nameOf_3 : decode cX10_nameOf 3 = .ok (.iload 4, 2) := dk_dX10_nameOf_0.2.2.1
theorem dX10_nameOf_5 : decode cX10_nameOf 5 = .ok (.aload_n 0, 1) := dk_dX10_nameOf_0.2.2.2.1
theorem dX10_nameOf_6 : decode cX10_nameOf 6 = .ok (.getfield 111, 3) := dk_dX10_nameOf_0.2.2.2.2.1
theorem dX10_nameOf_9 : decode cX10_nameOf 9 = .ok (.iload_n 1, 1) := dk_dX10_nameOf_0.2.2.2.2.2.1
theorem dX10_nameOf_10 : decode cX10_nameOf 10 = .ok (.iaload, 1) := dk_dX10_nameOf_0.2.2.2.2.2.2.1
theorem dX10_nameOf_11 : decode cX10_nameOf 11 = .ok (.if_icmp .ge 29, 3) := dk_dX10_nameOf_0.2.2.2.2.2.2.2.1
theorem dk_dX10_nameOf_0_8 : dz_C cX10_nameOf [(14, .aload_n 0, 1), (15, .getfield 114, 3), (18, .bipush 12, 2), (20, .iload_n 1, 1), (21, .imul, 1), (22, .iload 4, 2), (24, .iadd, 1), (25, .laload, 1)] := dk_dX10_nameOf_0.2.2.2.2.2.2.2.2
theorem dX10_nameOf_14 : decode cX10_nameOf 14 = .ok (.aload_n 0, 1) := dk_dX10_nameOf_0_8.1
theorem dX10_nameOf_15 : decode cX10_nameOf 15 = .ok (.getfield 114, 3) := dk_dX10_nameOf_0_8.2.1
theorem dX10_nameOf_18 : decode cX10_nameOf 18 = .ok (.bipush 12, 2) := dk_dX10_nameOf_0_8.2.2.1
theorem dX10_nameOf_20 : decode cX10_nameOf 20 = .ok (.iload_n 1, 1) := dk_dX10_nameOf_0_8.2.2.2.1
theorem dX10_nameOf_21 : decode cX10_nameOf 21 = .ok (.imul, 1) := dk_dX10_nameOf_0_8.2.2.2.2.1
theorem dX10_nameOf_22 : decode cX10_nameOf 22 = .ok (.iload 4, 2) := dk_dX10_nameOf_0_8.2.2.2.2.2.1
theorem dX10_nameOf_24 : decode cX10_nameOf 24 = .ok (.iadd, 1) := dk_dX10_nameOf_0_8.2.2.2.2.2.2.1
theorem dX10_nameOf_25 : decode cX10_nameOf 25 = .ok (.laload, 1) := dk_dX10_nameOf_0_8.2.2.2.2.2.2.2.1
theorem dk_dX10_nameOf_26 : dz_C cX10_nameOf [(26, .lload_n 2, 1), (27, .lcmp, 1), (28, .ifCond .ne 6, 3), (31, .iload 4, 2), (33, .ireturn, 1), (34, .iinc 4 1, 3), (37, .goto (-34), 3), (40, .iconst (-1), 1), (41, .ireturn, 1)] := dz_of (by decide +kernel)
theorem dX10_nameOf_26 : decode cX10_nameOf 26 = .ok (.lload_n 2, 1) := dk_dX10_nameOf_26.1
theorem dX10_nameOf_27 : decode cX10_nameOf 27 = .ok (.lcmp, 1) := dk_dX10_nameOf_26.2.1
theorem dX10_nameOf_28 : decode cX10_nameOf 28 = .ok (.ifCond .ne 6, 3) := dk_dX10_nameOf_26.2.2.1
theorem dX10_nameOf_31 : decode cX10_nameOf 31 = .ok (.iload 4, 2) := dk_dX10_nameOf_26.2.2.2.1
theorem dX10_nameOf_33 : decode cX10_nameOf 33 = .ok (.ireturn, 1) := dk_dX10_nameOf_26.2.2.2.2.1
theorem dX10_nameOf_34 : decode cX10_nameOf 34 = .ok (.iinc 4 1, 3) := dk_dX10_nameOf_26.2.2.2.2.2.1
theorem dX10_nameOf_37 : decode cX10_nameOf 37 = .ok (.goto (-34), 3) := dk_dX10_nameOf_26.2.2.2.2.2.2.1
theorem dX10_nameOf_40 : decode cX10_nameOf 40 = .ok (.iconst (-1), 1) := dk_dX10_nameOf_26.2.2.2.2.2.2.2.1
theorem dk_dX10_nameOf_26_8 : dz_C cX10_nameOf [(41, .ireturn, 1)] := dk_dX10_nameOf_26.2.2.2.2.2.2.2.2
theorem dX10_nameOf_41 : decode cX10_nameOf 41 = .ok (.ireturn, 1) := dk_dX10_nameOf_26_8.1
theorem dk_dX10_newName_0 : dz_C cX10_newName [(0, .aload_n 0, 1), (1, .invokevirtual 342, 3), (4, .lstore_n 1, 1), (5, .iconst 0, 1), (6, .istore_n 3, 1), (7, .iload_n 3, 1), (8, .iconst 2, 1), (9, .if_icmp .ge 35, 3), (12, .aload_n 0, 1), (13, .getfield 279, 3), (16, .ifCond .ne 22, 3), (19, .aload_n 0, 1), (20, .iload_n 3, 1), (21, .lload_n 1, 1), (22, .invokevirtual 346, 3), (25, .iconst (-1), 1)] := dz_of (by decide +kernel)
theorem dX10_newName_0 : decode cX10_newName 0 = .ok (.aload_n 0, 1) := dk_dX10_newName_0.1
theorem dX10_newName_1 : decode cX10_newName 1 = .ok (.invokevirtual 342, 3) := dk_dX10_newName_0.2.1
theorem dX10_newName_4 : decode cX10_newName 4 = .ok (.lstore_n 1, 1) := dk_dX10_newName_0.2.2.1
theorem dX10_newName_5 : decode cX10_newName 5 = .ok (.iconst 0, 1) := dk_dX10_newName_0.2.2.2.1
theorem dX10_newName_6 : decode cX10_newName 6 = .ok (.istore_n 3, 1) := dk_dX10_newName_0.2.2.2.2.1
theorem dX10_newName_7 : decode cX10_newName 7 = .ok (.iload_n 3, 1) := dk_dX10_newName_0.2.2.2.2.2.1
theorem dX10_newName_8 : decode cX10_newName 8 = .ok (.iconst 2, 1) := dk_dX10_newName_0.2.2.2.2.2.2.1
theorem dX10_newName_9 : decode cX10_newName 9 = .ok (.if_icmp .ge 35, 3) := dk_dX10_newName_0.2.2.2.2.2.2.2.1
theorem dk_dX10_newName_0_8 : dz_C cX10_newName [(12, .aload_n 0, 1), (13, .getfield 279, 3), (16, .ifCond .ne 22, 3), (19, .aload_n 0, 1), (20, .iload_n 3, 1), (21, .lload_n 1, 1), (22, .invokevirtual 346, 3), (25, .iconst (-1), 1)] := dk_dX10_newName_0.2.2.2.2.2.2.2.2
theorem dX10_newName_12 : decode cX10_newName 12 = .ok (.aload_n 0, 1) := dk_dX10_newName_0_8.1
theorem dX10_newName_13 : decode cX10_newName 13 = .ok (.getfield 279, 3) := dk_dX10_newName_0_8.2.1
theorem dX10_newName_16 : decode cX10_newName 16 = .ok (.ifCond .ne 22, 3) := dk_dX10_newName_0_8.2.2.1
theorem dX10_newName_19 : decode cX10_newName 19 = .ok (.aload_n 0, 1) := dk_dX10_newName_0_8.2.2.2.1
theorem dX10_newName_20 : decode cX10_newName 20 = .ok (.iload_n 3, 1) := dk_dX10_newName_0_8.2.2.2.2.1
theorem dX10_newName_21 : decode cX10_newName 21 = .ok (.lload_n 1, 1) := dk_dX10_newName_0_8.2.2.2.2.2.1
theorem dX10_newName_22 : decode cX10_newName 22 = .ok (.invokevirtual 346, 3) := dk_dX10_newName_0_8.2.2.2.2.2.2.1
theorem dX10_newName_25 : decode cX10_newName 25 = .ok (.iconst (-1), 1) := dk_dX10_newName_0_8.2.2.2.2.2.2.2.1
theorem dk_dX10_newName_26 : dz_C cX10_newName [(26, .if_icmp .eq 12, 3), (29, .aload_n 0, 1), (30, .iconst 3, 1), (31, .aload_n 0, 1), (32, .getfield 326, 3), (35, .invokevirtual 308, 3), (38, .iinc 3 1, 3), (41, .goto (-34), 3), (44, .lload_n 1, 1), (45, .lreturn, 1)] := dz_of (by decide +kernel)
theorem dX10_newName_26 : decode cX10_newName 26 = .ok (.if_icmp .eq 12, 3) := dk_dX10_newName_26.1
theorem dX10_newName_29 : decode cX10_newName 29 = .ok (.aload_n 0, 1) := dk_dX10_newName_26.2.1
theorem dX10_newName_30 : decode cX10_newName 30 = .ok (.iconst 3, 1) := dk_dX10_newName_26.2.2.1
theorem dX10_newName_31 : decode cX10_newName 31 = .ok (.aload_n 0, 1) := dk_dX10_newName_26.2.2.2.1
theorem dX10_newName_32 : decode cX10_newName 32 = .ok (.getfield 326, 3) := dk_dX10_newName_26.2.2.2.2.1
theorem dX10_newName_35 : decode cX10_newName 35 = .ok (.invokevirtual 308, 3) := dk_dX10_newName_26.2.2.2.2.2.1
theorem dX10_newName_38 : decode cX10_newName 38 = .ok (.iinc 3 1, 3) := dk_dX10_newName_26.2.2.2.2.2.2.1
theorem dX10_newName_41 : decode cX10_newName 41 = .ok (.goto (-34), 3) := dk_dX10_newName_26.2.2.2.2.2.2.2.1
theorem dk_dX10_newName_26_8 : dz_C cX10_newName [(44, .lload_n 1, 1), (45, .lreturn, 1)] := dk_dX10_newName_26.2.2.2.2.2.2.2.2
theorem dX10_newName_44 : decode cX10_newName 44 = .ok (.lload_n 1, 1) := dk_dX10_newName_26_8.1
theorem dX10_newName_45 : decode cX10_newName 45 = .ok (.lreturn, 1) := dk_dX10_newName_26_8.2.1
theorem dk_dX10_notCrossed_0 : dz_C cX10_notCrossed [(0, .iconst 0, 1), (1, .istore_n 1, 1), (2, .iconst 0, 1), (3, .istore_n 2, 1), (4, .iload_n 2, 1), (5, .aload_n 0, 1), (6, .invokevirtual 433, 3), (9, .if_icmp .ge 21, 3), (12, .aload_n 0, 1), (13, .getfield 155, 3), (16, .iload_n 2, 1), (17, .baload, 1), (18, .ifCond .eq 6, 3), (21, .iinc 1 1, 3), (24, .iinc 2 1, 3), (27, .goto (-23), 3)] := dz_of (by decide +kernel)
theorem dX10_notCrossed_0 : decode cX10_notCrossed 0 = .ok (.iconst 0, 1) := dk_dX10_notCrossed_0.1
theorem dX10_notCrossed_1 : decode cX10_notCrossed 1 = .ok (.istore_n 1, 1) := dk_dX10_notCrossed_0.2.1
theorem dX10_notCrossed_2 : decode cX10_notCrossed 2 = .ok (.iconst 0, 1) := dk_dX10_notCrossed_0.2.2.1
theorem dX10_notCrossed_3 : decode cX10_notCrossed 3 = .ok (.istore_n 2, 1) := dk_dX10_notCrossed_0.2.2.2.1
theorem dX10_notCrossed_4 : decode cX10_notCrossed 4 = .ok (.iload_n 2, 1) := dk_dX10_notCrossed_0.2.2.2.2.1
theorem dX10_notCrossed_5 : decode cX10_notCrossed 5 = .ok (.aload_n 0, 1) := dk_dX10_notCrossed_0.2.2.2.2.2.1
theorem dX10_notCrossed_6 : decode cX10_notCrossed 6 = .ok (.invokevirtual 433, 3) := dk_dX10_notCrossed_0.2.2.2.2.2.2.1
theorem dX10_notCrossed_9 : decode cX10_notCrossed 9 = .ok (.if_icmp .ge 21, 3) := dk_dX10_notCrossed_0.2.2.2.2.2.2.2.1
theorem dk_dX10_notCrossed_0_8 : dz_C cX10_notCrossed [(12, .aload_n 0, 1), (13, .getfield 155, 3), (16, .iload_n 2, 1), (17, .baload, 1), (18, .ifCond .eq 6, 3), (21, .iinc 1 1, 3), (24, .iinc 2 1, 3), (27, .goto (-23), 3)] := dk_dX10_notCrossed_0.2.2.2.2.2.2.2.2
theorem dX10_notCrossed_12 : decode cX10_notCrossed 12 = .ok (.aload_n 0, 1) := dk_dX10_notCrossed_0_8.1
theorem dX10_notCrossed_13 : decode cX10_notCrossed 13 = .ok (.getfield 155, 3) := dk_dX10_notCrossed_0_8.2.1
theorem dX10_notCrossed_16 : decode cX10_notCrossed 16 = .ok (.iload_n 2, 1) := dk_dX10_notCrossed_0_8.2.2.1
theorem dX10_notCrossed_17 : decode cX10_notCrossed 17 = .ok (.baload, 1) := dk_dX10_notCrossed_0_8.2.2.2.1
theorem dX10_notCrossed_18 : decode cX10_notCrossed 18 = .ok (.ifCond .eq 6, 3) := dk_dX10_notCrossed_0_8.2.2.2.2.1
theorem dX10_notCrossed_21 : decode cX10_notCrossed 21 = .ok (.iinc 1 1, 3) := dk_dX10_notCrossed_0_8.2.2.2.2.2.1
theorem dX10_notCrossed_24 : decode cX10_notCrossed 24 = .ok (.iinc 2 1, 3) := dk_dX10_notCrossed_0_8.2.2.2.2.2.2.1
theorem dX10_notCrossed_27 : decode cX10_notCrossed 27 = .ok (.goto (-23), 3) := dk_dX10_notCrossed_0_8.2.2.2.2.2.2.2.1
theorem dk_dX10_notCrossed_30 : dz_C cX10_notCrossed [(30, .iload_n 1, 1), (31, .ireturn, 1)] := dz_of (by decide +kernel)
theorem dX10_notCrossed_30 : decode cX10_notCrossed 30 = .ok (.iload_n 1, 1) := dk_dX10_notCrossed_30.1
theorem dX10_notCrossed_31 : decode cX10_notCrossed 31 = .ok (.ireturn, 1) := dk_dX10_notCrossed_30.2.1
theorem dk_dX10_number_0 : dz_C cX10_number [(0, .aload_n 0, 1), (1, .getfield 279, 3), (4, .ifCond .eq 5, 3), (7, .iconst 0, 1), (8, .ireturn, 1), (9, .aload_n 0, 1), (10, .invokevirtual 291, 3), (13, .invokestatic 315, 3), (16, .ifCond .eq 14, 3), (19, .aload_n 0, 1), (20, .getfield 285, 3), (23, .aload_n 0, 1), (24, .getfield 299, 3), (27, .if_icmp .ne 14, 3), (30, .aload_n 0, 1), (31, .iconst 1, 1)] := dz_of (by decide +kernel)
theorem dX10_number_0 : decode cX10_number 0 = .ok (.aload_n 0, 1) := dk_dX10_number_0.1
theorem dX10_number_1 : decode cX10_number 1 = .ok (.getfield 279, 3) := dk_dX10_number_0.2.1
theorem dX10_number_4 : decode cX10_number 4 = .ok (.ifCond .eq 5, 3) := dk_dX10_number_0.2.2.1
theorem dX10_number_7 : decode cX10_number 7 = .ok (.iconst 0, 1) := dk_dX10_number_0.2.2.2.1
theorem dX10_number_8 : decode cX10_number 8 = .ok (.ireturn, 1) := dk_dX10_number_0.2.2.2.2.1
theorem dX10_number_9 : decode cX10_number 9 = .ok (.aload_n 0, 1) := dk_dX10_number_0.2.2.2.2.2.1
theorem dX10_number_10 : decode cX10_number 10 = .ok (.invokevirtual 291, 3) := dk_dX10_number_0.2.2.2.2.2.2.1
theorem dX10_number_13 : decode cX10_number 13 = .ok (.invokestatic 315, 3) := dk_dX10_number_0.2.2.2.2.2.2.2.1
theorem dk_dX10_number_0_8 : dz_C cX10_number [(16, .ifCond .eq 14, 3), (19, .aload_n 0, 1), (20, .getfield 285, 3), (23, .aload_n 0, 1), (24, .getfield 299, 3), (27, .if_icmp .ne 14, 3), (30, .aload_n 0, 1), (31, .iconst 1, 1)] := dk_dX10_number_0.2.2.2.2.2.2.2.2
theorem dX10_number_16 : decode cX10_number 16 = .ok (.ifCond .eq 14, 3) := dk_dX10_number_0_8.1
theorem dX10_number_19 : decode cX10_number 19 = .ok (.aload_n 0, 1) := dk_dX10_number_0_8.2.1
theorem dX10_number_20 : decode cX10_number 20 = .ok (.getfield 285, 3) := dk_dX10_number_0_8.2.2.1
theorem dX10_number_23 : decode cX10_number 23 = .ok (.aload_n 0, 1) := dk_dX10_number_0_8.2.2.2.1
theorem dX10_number_24 : decode cX10_number 24 = .ok (.getfield 299, 3) := dk_dX10_number_0_8.2.2.2.2.1
theorem dX10_number_27 : decode cX10_number 27 = .ok (.if_icmp .ne 14, 3) := dk_dX10_number_0_8.2.2.2.2.2.1
theorem dX10_number_30 : decode cX10_number 30 = .ok (.aload_n 0, 1) := dk_dX10_number_0_8.2.2.2.2.2.2.1
theorem dX10_number_31 : decode cX10_number 31 = .ok (.iconst 1, 1) := dk_dX10_number_0_8.2.2.2.2.2.2.2.1
theorem dk_dX10_number_32 : dz_C cX10_number [(32, .aload_n 0, 1), (33, .getfield 285, 3), (36, .invokevirtual 308, 3), (39, .iconst 0, 1), (40, .ireturn, 1), (41, .aload_n 0, 1), (42, .getfield 285, 3), (45, .istore_n 3, 1), (46, .iconst 0, 1), (47, .istore 4, 2), (49, .aload_n 0, 1), (50, .getfield 285, 3), (53, .aload_n 0, 1), (54, .getfield 288, 3), (57, .if_icmp .ge 72, 3), (60, .aload_n 0, 1)] := dz_of (by decide +kernel)
theorem dX10_number_32 : decode cX10_number 32 = .ok (.aload_n 0, 1) := dk_dX10_number_32.1
theorem dX10_number_33 : decode cX10_number 33 = .ok (.getfield 285, 3) := dk_dX10_number_32.2.1
theorem dX10_number_36 : decode cX10_number 36 = .ok (.invokevirtual 308, 3) := dk_dX10_number_32.2.2.1
theorem dX10_number_39 : decode cX10_number 39 = .ok (.iconst 0, 1) := dk_dX10_number_32.2.2.2.1
theorem dX10_number_40 : decode cX10_number 40 = .ok (.ireturn, 1) := dk_dX10_number_32.2.2.2.2.1
theorem dX10_number_41 : decode cX10_number 41 = .ok (.aload_n 0, 1) := dk_dX10_number_32.2.2.2.2.2.1
theorem dX10_number_42 : decode cX10_number 42 = .ok (.getfield 285, 3) := dk_dX10_number_32.2.2.2.2.2.2.1
theorem dX10_number_45 : decode cX10_number 45 = .ok (.istore_n 3, 1) := dk_dX10_number_32.2.2.2.2.2.2.2.1
theorem dk_dX10_number_32_8 : dz_C cX10_number [(46, .iconst 0, 1), (47, .istore 4, 2), (49, .aload_n 0, 1), (50, .getfield 285, 3), (53, .aload_n 0, 1), (54, .getfield 288, 3), (57, .if_icmp .ge 72, 3), (60, .aload_n 0, 1)] := dk_dX10_number_32.2.2.2.2.2.2.2.2
theorem dX10_number_46 : decode cX10_number 46 = .ok (.iconst 0, 1) := dk_dX10_number_32_8.1
theorem dX10_number_47 : decode cX10_number 47 = .ok (.istore 4, 2) := dk_dX10_number_32_8.2.1
theorem dX10_number_49 : decode cX10_number 49 = .ok (.aload_n 0, 1) := dk_dX10_number_32_8.2.2.1
theorem dX10_number_50 : decode cX10_number 50 = .ok (.getfield 285, 3) := dk_dX10_number_32_8.2.2.2.1
theorem dX10_number_53 : decode cX10_number 53 = .ok (.aload_n 0, 1) := dk_dX10_number_32_8.2.2.2.2.1
theorem dX10_number_54 : decode cX10_number 54 = .ok (.getfield 288, 3) := dk_dX10_number_32_8.2.2.2.2.2.1
theorem dX10_number_57 : decode cX10_number 57 = .ok (.if_icmp .ge 72, 3) := dk_dX10_number_32_8.2.2.2.2.2.2.1
theorem dX10_number_60 : decode cX10_number 60 = .ok (.aload_n 0, 1) := dk_dX10_number_32_8.2.2.2.2.2.2.2.1
theorem dk_dX10_number_61 : dz_C cX10_number [(61, .getfield 7, 3), (64, .aload_n 0, 1), (65, .getfield 285, 3), (68, .iaload, 1), (69, .invokestatic 315, 3), (72, .ifCond .eq 57, 3), (75, .aload_n 0, 1), (76, .getfield 285, 3), (79, .iload_n 3, 1), (80, .isub, 1), (81, .iconst 4, 1), (82, .if_icmp .ne 14, 3), (85, .aload_n 0, 1), (86, .iconst 1, 1), (87, .aload_n 0, 1), (88, .getfield 285, 3)] := dz_of (by decide +kernel)
theorem dX10_number_61 : decode cX10_number 61 = .ok (.getfield 7, 3) := dk_dX10_number_61.1
theorem dX10_number_64 : decode cX10_number 64 = .ok (.aload_n 0, 1) := dk_dX10_number_61.2.1
theorem dX10_number_65 : decode cX10_number 65 = .ok (.getfield 285, 3) := dk_dX10_number_61.2.2.1
theorem dX10_number_68 : decode cX10_number 68 = .ok (.iaload, 1) := dk_dX10_number_61.2.2.2.1
theorem dX10_number_69 : decode cX10_number 69 = .ok (.invokestatic 315, 3) := dk_dX10_number_61.2.2.2.2.1
theorem dX10_number_72 : decode cX10_number 72 = .ok (.ifCond .eq 57, 3) := dk_dX10_number_61.2.2.2.2.2.1
theorem dX10_number_75 : decode cX10_number 75 = .ok (.aload_n 0, 1) := dk_dX10_number_61.2.2.2.2.2.2.1
theorem dX10_number_76 : decode cX10_number 76 = .ok (.getfield 285, 3) := dk_dX10_number_61.2.2.2.2.2.2.2.1
theorem dk_dX10_number_61_8 : dz_C cX10_number [(79, .iload_n 3, 1), (80, .isub, 1), (81, .iconst 4, 1), (82, .if_icmp .ne 14, 3), (85, .aload_n 0, 1), (86, .iconst 1, 1), (87, .aload_n 0, 1), (88, .getfield 285, 3)] := dk_dX10_number_61.2.2.2.2.2.2.2.2
theorem dX10_number_79 : decode cX10_number 79 = .ok (.iload_n 3, 1) := dk_dX10_number_61_8.1
theorem dX10_number_80 : decode cX10_number 80 = .ok (.isub, 1) := dk_dX10_number_61_8.2.1
theorem dX10_number_81 : decode cX10_number 81 = .ok (.iconst 4, 1) := dk_dX10_number_61_8.2.2.1
theorem dX10_number_82 : decode cX10_number 82 = .ok (.if_icmp .ne 14, 3) := dk_dX10_number_61_8.2.2.2.1
theorem dX10_number_85 : decode cX10_number 85 = .ok (.aload_n 0, 1) := dk_dX10_number_61_8.2.2.2.2.1
theorem dX10_number_86 : decode cX10_number 86 = .ok (.iconst 1, 1) := dk_dX10_number_61_8.2.2.2.2.2.1
theorem dX10_number_87 : decode cX10_number 87 = .ok (.aload_n 0, 1) := dk_dX10_number_61_8.2.2.2.2.2.2.1
theorem dX10_number_88 : decode cX10_number 88 = .ok (.getfield 285, 3) := dk_dX10_number_61_8.2.2.2.2.2.2.2.1
theorem dk_dX10_number_91 : dz_C cX10_number [(91, .invokevirtual 308, 3), (94, .iconst 0, 1), (95, .ireturn, 1), (96, .bipush 10, 2), (98, .iload 4, 2), (100, .imul, 1), (101, .aload_n 0, 1), (102, .getfield 7, 3), (105, .aload_n 0, 1), (106, .getfield 285, 3), (109, .iaload, 1), (110, .iadd, 1), (111, .bipush 48, 2), (113, .isub, 1), (114, .istore 4, 2), (116, .aload_n 0, 1)] := dz_of (by decide +kernel)
theorem dX10_number_91 : decode cX10_number 91 = .ok (.invokevirtual 308, 3) := dk_dX10_number_91.1
theorem dX10_number_94 : decode cX10_number 94 = .ok (.iconst 0, 1) := dk_dX10_number_91.2.1
theorem dX10_number_95 : decode cX10_number 95 = .ok (.ireturn, 1) := dk_dX10_number_91.2.2.1
theorem dX10_number_96 : decode cX10_number 96 = .ok (.bipush 10, 2) := dk_dX10_number_91.2.2.2.1
theorem dX10_number_98 : decode cX10_number 98 = .ok (.iload 4, 2) := dk_dX10_number_91.2.2.2.2.1
theorem dX10_number_100 : decode cX10_number 100 = .ok (.imul, 1) := dk_dX10_number_91.2.2.2.2.2.1
theorem dX10_number_101 : decode cX10_number 101 = .ok (.aload_n 0, 1) := dk_dX10_number_91.2.2.2.2.2.2.1
theorem dX10_number_102 : decode cX10_number 102 = .ok (.getfield 7, 3) := dk_dX10_number_91.2.2.2.2.2.2.2.1
theorem dk_dX10_number_91_8 : dz_C cX10_number [(105, .aload_n 0, 1), (106, .getfield 285, 3), (109, .iaload, 1), (110, .iadd, 1), (111, .bipush 48, 2), (113, .isub, 1), (114, .istore 4, 2), (116, .aload_n 0, 1)] := dk_dX10_number_91.2.2.2.2.2.2.2.2
theorem dX10_number_105 : decode cX10_number 105 = .ok (.aload_n 0, 1) := dk_dX10_number_91_8.1
theorem dX10_number_106 : decode cX10_number 106 = .ok (.getfield 285, 3) := dk_dX10_number_91_8.2.1
theorem dX10_number_109 : decode cX10_number 109 = .ok (.iaload, 1) := dk_dX10_number_91_8.2.2.1
theorem dX10_number_110 : decode cX10_number 110 = .ok (.iadd, 1) := dk_dX10_number_91_8.2.2.2.1
theorem dX10_number_111 : decode cX10_number 111 = .ok (.bipush 48, 2) := dk_dX10_number_91_8.2.2.2.2.1
theorem dX10_number_113 : decode cX10_number 113 = .ok (.isub, 1) := dk_dX10_number_91_8.2.2.2.2.2.1
theorem dX10_number_114 : decode cX10_number 114 = .ok (.istore 4, 2) := dk_dX10_number_91_8.2.2.2.2.2.2.1
theorem dX10_number_116 : decode cX10_number 116 = .ok (.aload_n 0, 1) := dk_dX10_number_91_8.2.2.2.2.2.2.2.1
theorem dk_dX10_number_117 : dz_C cX10_number [(117, .dup, 1), (118, .getfield 285, 3), (121, .iconst 1, 1), (122, .iadd, 1), (123, .putfield 285, 3), (126, .goto (-77), 3), (129, .aload_n 0, 1), (130, .aload_n 0, 1), (131, .getfield 285, 3), (134, .putfield 299, 3), (137, .iload 4, 2), (139, .i2l, 1), (140, .iload_n 1, 1), (141, .i2l, 1), (142, .iload_n 2, 1), (143, .i2l, 1)] := dz_of (by decide +kernel)
theorem dX10_number_117 : decode cX10_number 117 = .ok (.dup, 1) := dk_dX10_number_117.1
theorem dX10_number_118 : decode cX10_number 118 = .ok (.getfield 285, 3) := dk_dX10_number_117.2.1
theorem dX10_number_121 : decode cX10_number 121 = .ok (.iconst 1, 1) := dk_dX10_number_117.2.2.1
theorem dX10_number_122 : decode cX10_number 122 = .ok (.iadd, 1) := dk_dX10_number_117.2.2.2.1
theorem dX10_number_123 : decode cX10_number 123 = .ok (.putfield 285, 3) := dk_dX10_number_117.2.2.2.2.1
theorem dX10_number_126 : decode cX10_number 126 = .ok (.goto (-77), 3) := dk_dX10_number_117.2.2.2.2.2.1
theorem dX10_number_129 : decode cX10_number 129 = .ok (.aload_n 0, 1) := dk_dX10_number_117.2.2.2.2.2.2.1
theorem dX10_number_130 : decode cX10_number 130 = .ok (.aload_n 0, 1) := dk_dX10_number_117.2.2.2.2.2.2.2.1
theorem dk_dX10_number_117_8 : dz_C cX10_number [(131, .getfield 285, 3), (134, .putfield 299, 3), (137, .iload 4, 2), (139, .i2l, 1), (140, .iload_n 1, 1), (141, .i2l, 1), (142, .iload_n 2, 1), (143, .i2l, 1)] := dk_dX10_number_117.2.2.2.2.2.2.2.2
theorem dX10_number_131 : decode cX10_number 131 = .ok (.getfield 285, 3) := dk_dX10_number_117_8.1
theorem dX10_number_134 : decode cX10_number 134 = .ok (.putfield 299, 3) := dk_dX10_number_117_8.2.1
theorem dX10_number_137 : decode cX10_number 137 = .ok (.iload 4, 2) := dk_dX10_number_117_8.2.2.1
theorem dX10_number_139 : decode cX10_number 139 = .ok (.i2l, 1) := dk_dX10_number_117_8.2.2.2.1
theorem dX10_number_140 : decode cX10_number 140 = .ok (.iload_n 1, 1) := dk_dX10_number_117_8.2.2.2.2.1
theorem dX10_number_141 : decode cX10_number 141 = .ok (.i2l, 1) := dk_dX10_number_117_8.2.2.2.2.2.1
theorem dX10_number_142 : decode cX10_number 142 = .ok (.iload_n 2, 1) := dk_dX10_number_117_8.2.2.2.2.2.2.1
theorem dX10_number_143 : decode cX10_number 143 = .ok (.i2l, 1) := dk_dX10_number_117_8.2.2.2.2.2.2.2.1
theorem dk_dX10_number_144 : dz_C cX10_number [(144, .invokestatic 318, 3), (147, .ifCond .ne 9, 3), (150, .aload_n 0, 1), (151, .iconst 2, 1), (152, .iload_n 3, 1), (153, .invokevirtual 308, 3), (156, .iload 4, 2), (158, .ireturn, 1)] := dz_of (by decide +kernel)
theorem dX10_number_144 : decode cX10_number 144 = .ok (.invokestatic 318, 3) := dk_dX10_number_144.1
theorem dX10_number_147 : decode cX10_number 147 = .ok (.ifCond .ne 9, 3) := dk_dX10_number_144.2.1
theorem dX10_number_150 : decode cX10_number 150 = .ok (.aload_n 0, 1) := dk_dX10_number_144.2.2.1
theorem dX10_number_151 : decode cX10_number 151 = .ok (.iconst 2, 1) := dk_dX10_number_144.2.2.2.1
theorem dX10_number_152 : decode cX10_number 152 = .ok (.iload_n 3, 1) := dk_dX10_number_144.2.2.2.2.1
theorem dX10_number_153 : decode cX10_number 153 = .ok (.invokevirtual 308, 3) := dk_dX10_number_144.2.2.2.2.2.1
theorem dX10_number_156 : decode cX10_number 156 = .ok (.iload 4, 2) := dk_dX10_number_144.2.2.2.2.2.2.1
theorem dX10_number_158 : decode cX10_number 158 = .ok (.ireturn, 1) := dk_dX10_number_144.2.2.2.2.2.2.2.1
theorem dk_dX10_octet_0 : dz_C cX10_octet [(0, .iload_n 1, 1), (1, .ifCond .lt 20, 3), (4, .iload_n 1, 1), (5, .aload_n 0, 1), (6, .getfield 699, 3), (9, .if_icmp .ge 12, 3), (12, .aload_n 0, 1), (13, .getfield 273, 3), (16, .iload_n 1, 1), (17, .iaload, 1), (18, .goto 4, 3), (21, .iconst (-1), 1), (22, .ireturn, 1)] := dz_of (by decide +kernel)
theorem dX10_octet_0 : decode cX10_octet 0 = .ok (.iload_n 1, 1) := dk_dX10_octet_0.1
theorem dX10_octet_1 : decode cX10_octet 1 = .ok (.ifCond .lt 20, 3) := dk_dX10_octet_0.2.1
theorem dX10_octet_4 : decode cX10_octet 4 = .ok (.iload_n 1, 1) := dk_dX10_octet_0.2.2.1
theorem dX10_octet_5 : decode cX10_octet 5 = .ok (.aload_n 0, 1) := dk_dX10_octet_0.2.2.2.1
theorem dX10_octet_6 : decode cX10_octet 6 = .ok (.getfield 699, 3) := dk_dX10_octet_0.2.2.2.2.1
theorem dX10_octet_9 : decode cX10_octet 9 = .ok (.if_icmp .ge 12, 3) := dk_dX10_octet_0.2.2.2.2.2.1
theorem dX10_octet_12 : decode cX10_octet 12 = .ok (.aload_n 0, 1) := dk_dX10_octet_0.2.2.2.2.2.2.1
theorem dX10_octet_13 : decode cX10_octet 13 = .ok (.getfield 273, 3) := dk_dX10_octet_0.2.2.2.2.2.2.2.1
theorem dk_dX10_octet_0_8 : dz_C cX10_octet [(16, .iload_n 1, 1), (17, .iaload, 1), (18, .goto 4, 3), (21, .iconst (-1), 1), (22, .ireturn, 1)] := dk_dX10_octet_0.2.2.2.2.2.2.2.2
theorem dX10_octet_16 : decode cX10_octet 16 = .ok (.iload_n 1, 1) := dk_dX10_octet_0_8.1
theorem dX10_octet_17 : decode cX10_octet 17 = .ok (.iaload, 1) := dk_dX10_octet_0_8.2.1
theorem dX10_octet_18 : decode cX10_octet 18 = .ok (.goto 4, 3) := dk_dX10_octet_0_8.2.2.1
theorem dX10_octet_21 : decode cX10_octet 21 = .ok (.iconst (-1), 1) := dk_dX10_octet_0_8.2.2.2.1
theorem dX10_octet_22 : decode cX10_octet 22 = .ok (.ireturn, 1) := dk_dX10_octet_0_8.2.2.2.2.1
theorem dk_dX10_on_0 : dz_C cX10_on [(0, .aload_n 0, 1), (1, .getfield 276, 3), (4, .istore_n 1, 1), (5, .aload_n 0, 1), (6, .iconst 0, 1), (7, .putfield 276, 3), (10, .aload_n 0, 1), (11, .iload_n 1, 1), (12, .invokevirtual 709, 3), (15, .ifCond .ne 15, 3), (18, .aload_n 0, 1), (19, .getfield 17, 3), (22, .iconst 5, 1), (23, .dup2, 1), (24, .iaload, 1), (25, .iconst 1, 1)] := dz_of (by decide +kernel)
theorem dX10_on_0 : decode cX10_on 0 = .ok (.aload_n 0, 1) := dk_dX10_on_0.1
theorem dX10_on_1 : decode cX10_on 1 = .ok (.getfield 276, 3) := dk_dX10_on_0.2.1
theorem dX10_on_4 : decode cX10_on 4 = .ok (.istore_n 1, 1) := dk_dX10_on_0.2.2.1
theorem dX10_on_5 : decode cX10_on 5 = .ok (.aload_n 0, 1) := dk_dX10_on_0.2.2.2.1
theorem dX10_on_6 : decode cX10_on 6 = .ok (.iconst 0, 1) := dk_dX10_on_0.2.2.2.2.1
theorem dX10_on_7 : decode cX10_on 7 = .ok (.putfield 276, 3) := dk_dX10_on_0.2.2.2.2.2.1
theorem dX10_on_10 : decode cX10_on 10 = .ok (.aload_n 0, 1) := dk_dX10_on_0.2.2.2.2.2.2.1
theorem dX10_on_11 : decode cX10_on 11 = .ok (.iload_n 1, 1) := dk_dX10_on_0.2.2.2.2.2.2.2.1
theorem dk_dX10_on_0_8 : dz_C cX10_on [(12, .invokevirtual 709, 3), (15, .ifCond .ne 15, 3), (18, .aload_n 0, 1), (19, .getfield 17, 3), (22, .iconst 5, 1), (23, .dup2, 1), (24, .iaload, 1), (25, .iconst 1, 1)] := dk_dX10_on_0.2.2.2.2.2.2.2.2
theorem dX10_on_12 : decode cX10_on 12 = .ok (.invokevirtual 709, 3) := dk_dX10_on_0_8.1
theorem dX10_on_15 : decode cX10_on 15 = .ok (.ifCond .ne 15, 3) := dk_dX10_on_0_8.2.1
theorem dX10_on_18 : decode cX10_on 18 = .ok (.aload_n 0, 1) := dk_dX10_on_0_8.2.2.1
theorem dX10_on_19 : decode cX10_on 19 = .ok (.getfield 17, 3) := dk_dX10_on_0_8.2.2.2.1
theorem dX10_on_22 : decode cX10_on 22 = .ok (.iconst 5, 1) := dk_dX10_on_0_8.2.2.2.2.1
theorem dX10_on_23 : decode cX10_on 23 = .ok (.dup2, 1) := dk_dX10_on_0_8.2.2.2.2.2.1
theorem dX10_on_24 : decode cX10_on 24 = .ok (.iaload, 1) := dk_dX10_on_0_8.2.2.2.2.2.2.1
theorem dX10_on_25 : decode cX10_on 25 = .ok (.iconst 1, 1) := dk_dX10_on_0_8.2.2.2.2.2.2.2.1
theorem dk_dX10_on_26 : dz_C cX10_on [(26, .iadd, 1), (27, .iastore, 1), (28, .iconst 0, 1), (29, .ireturn, 1), (30, .aload_n 0, 1), (31, .getfield 139, 3), (34, .iconst 0, 1), (35, .sipush 256, 3), (38, .aload_n 0, 1), (39, .getfield 7, 3), (42, .iconst 0, 1), (43, .iaload, 1), (44, .imul, 1), (45, .aload_n 0, 1), (46, .getfield 7, 3), (49, .iconst 1, 1)] := dz_of (by decide +kernel)
theorem dX10_on_26 : decode cX10_on 26 = .ok (.iadd, 1) := dk_dX10_on_26.1
theorem dX10_on_27 : decode cX10_on 27 = .ok (.iastore, 1) := dk_dX10_on_26.2.1
theorem dX10_on_28 : decode cX10_on 28 = .ok (.iconst 0, 1) := dk_dX10_on_26.2.2.1
theorem dX10_on_29 : decode cX10_on 29 = .ok (.ireturn, 1) := dk_dX10_on_26.2.2.2.1
theorem dX10_on_30 : decode cX10_on 30 = .ok (.aload_n 0, 1) := dk_dX10_on_26.2.2.2.2.1
theorem dX10_on_31 : decode cX10_on 31 = .ok (.getfield 139, 3) := dk_dX10_on_26.2.2.2.2.2.1
theorem dX10_on_34 : decode cX10_on 34 = .ok (.iconst 0, 1) := dk_dX10_on_26.2.2.2.2.2.2.1
theorem dX10_on_35 : decode cX10_on 35 = .ok (.sipush 256, 3) := dk_dX10_on_26.2.2.2.2.2.2.2.1
theorem dk_dX10_on_26_8 : dz_C cX10_on [(38, .aload_n 0, 1), (39, .getfield 7, 3), (42, .iconst 0, 1), (43, .iaload, 1), (44, .imul, 1), (45, .aload_n 0, 1), (46, .getfield 7, 3), (49, .iconst 1, 1)] := dk_dX10_on_26.2.2.2.2.2.2.2.2
theorem dX10_on_38 : decode cX10_on 38 = .ok (.aload_n 0, 1) := dk_dX10_on_26_8.1
theorem dX10_on_39 : decode cX10_on 39 = .ok (.getfield 7, 3) := dk_dX10_on_26_8.2.1
theorem dX10_on_42 : decode cX10_on 42 = .ok (.iconst 0, 1) := dk_dX10_on_26_8.2.2.1
theorem dX10_on_43 : decode cX10_on 43 = .ok (.iaload, 1) := dk_dX10_on_26_8.2.2.2.1
theorem dX10_on_44 : decode cX10_on 44 = .ok (.imul, 1) := dk_dX10_on_26_8.2.2.2.2.1
theorem dX10_on_45 : decode cX10_on 45 = .ok (.aload_n 0, 1) := dk_dX10_on_26_8.2.2.2.2.2.1
theorem dX10_on_46 : decode cX10_on 46 = .ok (.getfield 7, 3) := dk_dX10_on_26_8.2.2.2.2.2.2.1
theorem dX10_on_49 : decode cX10_on 49 = .ok (.iconst 1, 1) := dk_dX10_on_26_8.2.2.2.2.2.2.2.1
theorem dk_dX10_on_50 : dz_C cX10_on [(50, .iaload, 1), (51, .iadd, 1), (52, .iastore, 1), (53, .aload_n 0, 1), (54, .getfield 139, 3), (57, .iconst 1, 1), (58, .aload_n 0, 1), (59, .getfield 7, 3), (62, .iconst 2, 1), (63, .iaload, 1), (64, .iastore, 1), (65, .aload_n 0, 1), (66, .getfield 139, 3), (69, .iconst 2, 1), (70, .aload_n 0, 1), (71, .getfield 7, 3)] := dz_of (by decide +kernel)
theorem dX10_on_50 : decode cX10_on 50 = .ok (.iaload, 1) := dk_dX10_on_50.1
theorem dX10_on_51 : decode cX10_on 51 = .ok (.iadd, 1) := dk_dX10_on_50.2.1
theorem dX10_on_52 : decode cX10_on 52 = .ok (.iastore, 1) := dk_dX10_on_50.2.2.1
theorem dX10_on_53 : decode cX10_on 53 = .ok (.aload_n 0, 1) := dk_dX10_on_50.2.2.2.1
theorem dX10_on_54 : decode cX10_on 54 = .ok (.getfield 139, 3) := dk_dX10_on_50.2.2.2.2.1
theorem dX10_on_57 : decode cX10_on 57 = .ok (.iconst 1, 1) := dk_dX10_on_50.2.2.2.2.2.1
theorem dX10_on_58 : decode cX10_on 58 = .ok (.aload_n 0, 1) := dk_dX10_on_50.2.2.2.2.2.2.1
theorem dX10_on_59 : decode cX10_on 59 = .ok (.getfield 7, 3) := dk_dX10_on_50.2.2.2.2.2.2.2.1
theorem dk_dX10_on_50_8 : dz_C cX10_on [(62, .iconst 2, 1), (63, .iaload, 1), (64, .iastore, 1), (65, .aload_n 0, 1), (66, .getfield 139, 3), (69, .iconst 2, 1), (70, .aload_n 0, 1), (71, .getfield 7, 3)] := dk_dX10_on_50.2.2.2.2.2.2.2.2
theorem dX10_on_62 : decode cX10_on 62 = .ok (.iconst 2, 1) := dk_dX10_on_50_8.1
theorem dX10_on_63 : decode cX10_on 63 = .ok (.iaload, 1) := dk_dX10_on_50_8.2.1
theorem dX10_on_64 : decode cX10_on 64 = .ok (.iastore, 1) := dk_dX10_on_50_8.2.2.1
theorem dX10_on_65 : decode cX10_on 65 = .ok (.aload_n 0, 1) := dk_dX10_on_50_8.2.2.2.1
theorem dX10_on_66 : decode cX10_on 66 = .ok (.getfield 139, 3) := dk_dX10_on_50_8.2.2.2.2.1
theorem dX10_on_69 : decode cX10_on 69 = .ok (.iconst 2, 1) := dk_dX10_on_50_8.2.2.2.2.2.1
theorem dX10_on_70 : decode cX10_on 70 = .ok (.aload_n 0, 1) := dk_dX10_on_50_8.2.2.2.2.2.2.1
theorem dX10_on_71 : decode cX10_on 71 = .ok (.getfield 7, 3) := dk_dX10_on_50_8.2.2.2.2.2.2.2.1
theorem dk_dX10_on_74 : dz_C cX10_on [(74, .iconst 3, 1), (75, .iaload, 1), (76, .iastore, 1), (77, .iconst 0, 1), (78, .istore_n 2, 1), (79, .iload_n 2, 1), (80, .aload_n 0, 1), (81, .invokevirtual 430, 3), (84, .if_icmp .ge 25, 3), (87, .aload_n 0, 1), (88, .getfield 139, 3), (91, .iconst 3, 1), (92, .iload_n 2, 1), (93, .iadd, 1), (94, .aload_n 0, 1), (95, .getfield 7, 3)] := dz_of (by decide +kernel)
theorem dX10_on_74 : decode cX10_on 74 = .ok (.iconst 3, 1) := dk_dX10_on_74.1
theorem dX10_on_75 : decode cX10_on 75 = .ok (.iaload, 1) := dk_dX10_on_74.2.1
theorem dX10_on_76 : decode cX10_on 76 = .ok (.iastore, 1) := dk_dX10_on_74.2.2.1
theorem dX10_on_77 : decode cX10_on 77 = .ok (.iconst 0, 1) := dk_dX10_on_74.2.2.2.1
theorem dX10_on_78 : decode cX10_on 78 = .ok (.istore_n 2, 1) := dk_dX10_on_74.2.2.2.2.1
theorem dX10_on_79 : decode cX10_on 79 = .ok (.iload_n 2, 1) := dk_dX10_on_74.2.2.2.2.2.1
theorem dX10_on_80 : decode cX10_on 80 = .ok (.aload_n 0, 1) := dk_dX10_on_74.2.2.2.2.2.2.1
theorem dX10_on_81 : decode cX10_on 81 = .ok (.invokevirtual 430, 3) := dk_dX10_on_74.2.2.2.2.2.2.2.1
theorem dk_dX10_on_74_8 : dz_C cX10_on [(84, .if_icmp .ge 25, 3), (87, .aload_n 0, 1), (88, .getfield 139, 3), (91, .iconst 3, 1), (92, .iload_n 2, 1), (93, .iadd, 1), (94, .aload_n 0, 1), (95, .getfield 7, 3)] := dk_dX10_on_74.2.2.2.2.2.2.2.2
theorem dX10_on_84 : decode cX10_on 84 = .ok (.if_icmp .ge 25, 3) := dk_dX10_on_74_8.1
theorem dX10_on_87 : decode cX10_on 87 = .ok (.aload_n 0, 1) := dk_dX10_on_74_8.2.1
theorem dX10_on_88 : decode cX10_on 88 = .ok (.getfield 139, 3) := dk_dX10_on_74_8.2.2.1
theorem dX10_on_91 : decode cX10_on 91 = .ok (.iconst 3, 1) := dk_dX10_on_74_8.2.2.2.1
theorem dX10_on_92 : decode cX10_on 92 = .ok (.iload_n 2, 1) := dk_dX10_on_74_8.2.2.2.2.1
theorem dX10_on_93 : decode cX10_on 93 = .ok (.iadd, 1) := dk_dX10_on_74_8.2.2.2.2.2.1
theorem dX10_on_94 : decode cX10_on 94 = .ok (.aload_n 0, 1) := dk_dX10_on_74_8.2.2.2.2.2.2.1
theorem dX10_on_95 : decode cX10_on 95 = .ok (.getfield 7, 3) := dk_dX10_on_74_8.2.2.2.2.2.2.2.1
theorem dk_dX10_on_98 : dz_C cX10_on [(98, .iconst 4, 1), (99, .iload_n 2, 1), (100, .iadd, 1), (101, .iaload, 1), (102, .iastore, 1), (103, .iinc 2 1, 3), (106, .goto (-27), 3), (109, .aload_n 0, 1), (110, .iconst 0, 1), (111, .putfield 424, 3), (114, .iconst 1, 1), (115, .ireturn, 1)] := dz_of (by decide +kernel)
theorem dX10_on_98 : decode cX10_on 98 = .ok (.iconst 4, 1) := dk_dX10_on_98.1
theorem dX10_on_99 : decode cX10_on 99 = .ok (.iload_n 2, 1) := dk_dX10_on_98.2.1
theorem dX10_on_100 : decode cX10_on 100 = .ok (.iadd, 1) := dk_dX10_on_98.2.2.1
theorem dX10_on_101 : decode cX10_on 101 = .ok (.iaload, 1) := dk_dX10_on_98.2.2.2.1
theorem dX10_on_102 : decode cX10_on 102 = .ok (.iastore, 1) := dk_dX10_on_98.2.2.2.2.1
theorem dX10_on_103 : decode cX10_on 103 = .ok (.iinc 2 1, 3) := dk_dX10_on_98.2.2.2.2.2.1
theorem dX10_on_106 : decode cX10_on 106 = .ok (.goto (-27), 3) := dk_dX10_on_98.2.2.2.2.2.2.1
theorem dX10_on_109 : decode cX10_on 109 = .ok (.aload_n 0, 1) := dk_dX10_on_98.2.2.2.2.2.2.2.1
theorem dk_dX10_on_98_8 : dz_C cX10_on [(110, .iconst 0, 1), (111, .putfield 424, 3), (114, .iconst 1, 1), (115, .ireturn, 1)] := dk_dX10_on_98.2.2.2.2.2.2.2.2
theorem dX10_on_110 : decode cX10_on 110 = .ok (.iconst 0, 1) := dk_dX10_on_98_8.1
theorem dX10_on_111 : decode cX10_on 111 = .ok (.putfield 424, 3) := dk_dX10_on_98_8.2.1
theorem dX10_on_114 : decode cX10_on 114 = .ok (.iconst 1, 1) := dk_dX10_on_98_8.2.2.1
theorem dX10_on_115 : decode cX10_on 115 = .ok (.ireturn, 1) := dk_dX10_on_98_8.2.2.2.1
theorem dk_dX10_paceOf_0 : dz_C cX10_paceOf [(0, .aload_n 0, 1), (1, .getfield 121, 3), (4, .bipush 13, 2), (6, .iconst 2, 1), (7, .aload_n 0, 1), (8, .iload_n 1, 1), (9, .invokevirtual 436, 3), (12, .imul, 1), (13, .iadd, 1), (14, .iaload, 1), (15, .ireturn, 1)] := dz_of (by decide +kernel)
theorem dX10_paceOf_0 : decode cX10_paceOf 0 = .ok (.aload_n 0, 1) := dk_dX10_paceOf_0.1
theorem dX10_paceOf_1 : decode cX10_paceOf 1 = .ok (.getfield 121, 3) := dk_dX10_paceOf_0.2.1
theorem dX10_paceOf_4 : decode cX10_paceOf 4 = .ok (.bipush 13, 2) := dk_dX10_paceOf_0.2.2.1
theorem dX10_paceOf_6 : decode cX10_paceOf 6 = .ok (.iconst 2, 1) := dk_dX10_paceOf_0.2.2.2.1
theorem dX10_paceOf_7 : decode cX10_paceOf 7 = .ok (.aload_n 0, 1) := dk_dX10_paceOf_0.2.2.2.2.1
theorem dX10_paceOf_8 : decode cX10_paceOf 8 = .ok (.iload_n 1, 1) := dk_dX10_paceOf_0.2.2.2.2.2.1
theorem dX10_paceOf_9 : decode cX10_paceOf 9 = .ok (.invokevirtual 436, 3) := dk_dX10_paceOf_0.2.2.2.2.2.2.1
theorem dX10_paceOf_12 : decode cX10_paceOf 12 = .ok (.imul, 1) := dk_dX10_paceOf_0.2.2.2.2.2.2.2.1
theorem dk_dX10_paceOf_0_8 : dz_C cX10_paceOf [(13, .iadd, 1), (14, .iaload, 1), (15, .ireturn, 1)] := dk_dX10_paceOf_0.2.2.2.2.2.2.2.2
theorem dX10_paceOf_13 : decode cX10_paceOf 13 = .ok (.iadd, 1) := dk_dX10_paceOf_0_8.1
theorem dX10_paceOf_14 : decode cX10_paceOf 14 = .ok (.iaload, 1) := dk_dX10_paceOf_0_8.2.1
theorem dX10_paceOf_15 : decode cX10_paceOf 15 = .ok (.ireturn, 1) := dk_dX10_paceOf_0_8.2.2.1
theorem dk_dX10_putsAside_0 : dz_C cX10_putsAside [(0, .iconst 0, 1), (1, .istore_n 1, 1), (2, .iload_n 1, 1), (3, .bipush 9, 2), (5, .if_icmp .ge 21, 3), (8, .aload_n 0, 1), (9, .getfield 142, 3), (12, .iload_n 1, 1), (13, .aload_n 0, 1), (14, .getfield 139, 3), (17, .iload_n 1, 1), (18, .iaload, 1), (19, .iastore, 1), (20, .iinc 1 1, 3), (23, .goto (-21), 3), (26, .return_, 1)] := dz_of (by decide +kernel)
theorem dX10_putsAside_0 : decode cX10_putsAside 0 = .ok (.iconst 0, 1) := dk_dX10_putsAside_0.1
theorem dX10_putsAside_1 : decode cX10_putsAside 1 = .ok (.istore_n 1, 1) := dk_dX10_putsAside_0.2.1
theorem dX10_putsAside_2 : decode cX10_putsAside 2 = .ok (.iload_n 1, 1) := dk_dX10_putsAside_0.2.2.1
theorem dX10_putsAside_3 : decode cX10_putsAside 3 = .ok (.bipush 9, 2) := dk_dX10_putsAside_0.2.2.2.1
theorem dX10_putsAside_5 : decode cX10_putsAside 5 = .ok (.if_icmp .ge 21, 3) := dk_dX10_putsAside_0.2.2.2.2.1
theorem dX10_putsAside_8 : decode cX10_putsAside 8 = .ok (.aload_n 0, 1) := dk_dX10_putsAside_0.2.2.2.2.2.1
theorem dX10_putsAside_9 : decode cX10_putsAside 9 = .ok (.getfield 142, 3) := dk_dX10_putsAside_0.2.2.2.2.2.2.1
theorem dX10_putsAside_12 : decode cX10_putsAside 12 = .ok (.iload_n 1, 1) := dk_dX10_putsAside_0.2.2.2.2.2.2.2.1
theorem dk_dX10_putsAside_0_8 : dz_C cX10_putsAside [(13, .aload_n 0, 1), (14, .getfield 139, 3), (17, .iload_n 1, 1), (18, .iaload, 1), (19, .iastore, 1), (20, .iinc 1 1, 3), (23, .goto (-21), 3), (26, .return_, 1)] := dk_dX10_putsAside_0.2.2.2.2.2.2.2.2
theorem dX10_putsAside_13 : decode cX10_putsAside 13 = .ok (.aload_n 0, 1) := dk_dX10_putsAside_0_8.1
theorem dX10_putsAside_14 : decode cX10_putsAside 14 = .ok (.getfield 139, 3) := dk_dX10_putsAside_0_8.2.1
theorem dX10_putsAside_17 : decode cX10_putsAside 17 = .ok (.iload_n 1, 1) := dk_dX10_putsAside_0_8.2.2.1
theorem dX10_putsAside_18 : decode cX10_putsAside 18 = .ok (.iaload, 1) := dk_dX10_putsAside_0_8.2.2.2.1
theorem dX10_putsAside_19 : decode cX10_putsAside 19 = .ok (.iastore, 1) := dk_dX10_putsAside_0_8.2.2.2.2.1
theorem dX10_putsAside_20 : decode cX10_putsAside 20 = .ok (.iinc 1 1, 3) := dk_dX10_putsAside_0_8.2.2.2.2.2.1
theorem dX10_putsAside_23 : decode cX10_putsAside 23 = .ok (.goto (-21), 3) := dk_dX10_putsAside_0_8.2.2.2.2.2.2.1
theorem dX10_putsAside_26 : decode cX10_putsAside 26 = .ok (.return_, 1) := dk_dX10_putsAside_0_8.2.2.2.2.2.2.2.1
theorem dk_dX10_qAsksWord_0 : dz_C cX10_qAsksWord [(0, .iload_n 1, 1), (64, .aload_n 0, 1), (65, .aload_n 0, 1), (66, .getfield 225, 3), (69, .invokevirtual 350, 3), (72, .goto 132, 3), (75, .aload_n 0, 1), (76, .aload_n 0, 1), (77, .getfield 228, 3), (80, .invokevirtual 350, 3), (83, .goto 121, 3), (86, .aload_n 0, 1), (87, .aload_n 0, 1), (88, .getfield 231, 3), (91, .invokevirtual 350, 3), (94, .goto 110, 3)] := dz_of (by decide +kernel)
theorem dX10_qAsksWord_0 : decode cX10_qAsksWord 0 = .ok (.iload_n 1, 1) := dk_dX10_qAsksWord_0.1
theorem dX10_qAsksWord_64 : decode cX10_qAsksWord 64 = .ok (.aload_n 0, 1) := dk_dX10_qAsksWord_0.2.1
theorem dX10_qAsksWord_65 : decode cX10_qAsksWord 65 = .ok (.aload_n 0, 1) := dk_dX10_qAsksWord_0.2.2.1
theorem dX10_qAsksWord_66 : decode cX10_qAsksWord 66 = .ok (.getfield 225, 3) := dk_dX10_qAsksWord_0.2.2.2.1
theorem dX10_qAsksWord_69 : decode cX10_qAsksWord 69 = .ok (.invokevirtual 350, 3) := dk_dX10_qAsksWord_0.2.2.2.2.1
theorem dX10_qAsksWord_72 : decode cX10_qAsksWord 72 = .ok (.goto 132, 3) := dk_dX10_qAsksWord_0.2.2.2.2.2.1
theorem dX10_qAsksWord_75 : decode cX10_qAsksWord 75 = .ok (.aload_n 0, 1) := dk_dX10_qAsksWord_0.2.2.2.2.2.2.1
theorem dX10_qAsksWord_76 : decode cX10_qAsksWord 76 = .ok (.aload_n 0, 1) := dk_dX10_qAsksWord_0.2.2.2.2.2.2.2.1
theorem dk_dX10_qAsksWord_0_8 : dz_C cX10_qAsksWord [(77, .getfield 228, 3), (80, .invokevirtual 350, 3), (83, .goto 121, 3), (86, .aload_n 0, 1), (87, .aload_n 0, 1), (88, .getfield 231, 3), (91, .invokevirtual 350, 3), (94, .goto 110, 3)] := dk_dX10_qAsksWord_0.2.2.2.2.2.2.2.2
theorem dX10_qAsksWord_77 : decode cX10_qAsksWord 77 = .ok (.getfield 228, 3) := dk_dX10_qAsksWord_0_8.1
theorem dX10_qAsksWord_80 : decode cX10_qAsksWord 80 = .ok (.invokevirtual 350, 3) := dk_dX10_qAsksWord_0_8.2.1
theorem dX10_qAsksWord_83 : decode cX10_qAsksWord 83 = .ok (.goto 121, 3) := dk_dX10_qAsksWord_0_8.2.2.1
theorem dX10_qAsksWord_86 : decode cX10_qAsksWord 86 = .ok (.aload_n 0, 1) := dk_dX10_qAsksWord_0_8.2.2.2.1
theorem dX10_qAsksWord_87 : decode cX10_qAsksWord 87 = .ok (.aload_n 0, 1) := dk_dX10_qAsksWord_0_8.2.2.2.2.1
theorem dX10_qAsksWord_88 : decode cX10_qAsksWord 88 = .ok (.getfield 231, 3) := dk_dX10_qAsksWord_0_8.2.2.2.2.2.1
theorem dX10_qAsksWord_91 : decode cX10_qAsksWord 91 = .ok (.invokevirtual 350, 3) := dk_dX10_qAsksWord_0_8.2.2.2.2.2.2.1
theorem dX10_qAsksWord_94 : decode cX10_qAsksWord 94 = .ok (.goto 110, 3) := dk_dX10_qAsksWord_0_8.2.2.2.2.2.2.2.1
theorem dX10_qAsksWord_1 : decode cX10_qAsksWord 1 = .ok (.tableswitch 195 0 11 #[63, 74, 85, 96, 107, 118, 129, 140, 151, 162, 173, 184], 63) := by decide +kernel
theorem dk_dX10_qAsksWord_97 : dz_C cX10_qAsksWord [(97, .aload_n 0, 1), (98, .aload_n 0, 1), (99, .getfield 234, 3), (102, .invokevirtual 350, 3), (105, .goto 99, 3), (108, .aload_n 0, 1), (109, .aload_n 0, 1), (110, .getfield 237, 3), (113, .invokevirtual 350, 3), (116, .goto 88, 3), (119, .aload_n 0, 1), (120, .aload_n 0, 1), (121, .getfield 240, 3), (124, .invokevirtual 350, 3), (127, .goto 77, 3), (130, .aload_n 0, 1)] := dz_of (by decide +kernel)
theorem dX10_qAsksWord_97 : decode cX10_qAsksWord 97 = .ok (.aload_n 0, 1) := dk_dX10_qAsksWord_97.1
theorem dX10_qAsksWord_98 : decode cX10_qAsksWord 98 = .ok (.aload_n 0, 1) := dk_dX10_qAsksWord_97.2.1
theorem dX10_qAsksWord_99 : decode cX10_qAsksWord 99 = .ok (.getfield 234, 3) := dk_dX10_qAsksWord_97.2.2.1
theorem dX10_qAsksWord_102 : decode cX10_qAsksWord 102 = .ok (.invokevirtual 350, 3) := dk_dX10_qAsksWord_97.2.2.2.1
theorem dX10_qAsksWord_105 : decode cX10_qAsksWord 105 = .ok (.goto 99, 3) := dk_dX10_qAsksWord_97.2.2.2.2.1
theorem dX10_qAsksWord_108 : decode cX10_qAsksWord 108 = .ok (.aload_n 0, 1) := dk_dX10_qAsksWord_97.2.2.2.2.2.1
theorem dX10_qAsksWord_109 : decode cX10_qAsksWord 109 = .ok (.aload_n 0, 1) := dk_dX10_qAsksWord_97.2.2.2.2.2.2.1
theorem dX10_qAsksWord_110 : decode cX10_qAsksWord 110 = .ok (.getfield 237, 3) := dk_dX10_qAsksWord_97.2.2.2.2.2.2.2.1
theorem dk_dX10_qAsksWord_97_8 : dz_C cX10_qAsksWord [(113, .invokevirtual 350, 3), (116, .goto 88, 3), (119, .aload_n 0, 1), (120, .aload_n 0, 1), (121, .getfield 240, 3), (124, .invokevirtual 350, 3), (127, .goto 77, 3), (130, .aload_n 0, 1)] := dk_dX10_qAsksWord_97.2.2.2.2.2.2.2.2
theorem dX10_qAsksWord_113 : decode cX10_qAsksWord 113 = .ok (.invokevirtual 350, 3) := dk_dX10_qAsksWord_97_8.1
theorem dX10_qAsksWord_116 : decode cX10_qAsksWord 116 = .ok (.goto 88, 3) := dk_dX10_qAsksWord_97_8.2.1
theorem dX10_qAsksWord_119 : decode cX10_qAsksWord 119 = .ok (.aload_n 0, 1) := dk_dX10_qAsksWord_97_8.2.2.1
theorem dX10_qAsksWord_120 : decode cX10_qAsksWord 120 = .ok (.aload_n 0, 1) := dk_dX10_qAsksWord_97_8.2.2.2.1
theorem dX10_qAsksWord_121 : decode cX10_qAsksWord 121 = .ok (.getfield 240, 3) := dk_dX10_qAsksWord_97_8.2.2.2.2.1
theorem dX10_qAsksWord_124 : decode cX10_qAsksWord 124 = .ok (.invokevirtual 350, 3) := dk_dX10_qAsksWord_97_8.2.2.2.2.2.1
theorem dX10_qAsksWord_127 : decode cX10_qAsksWord 127 = .ok (.goto 77, 3) := dk_dX10_qAsksWord_97_8.2.2.2.2.2.2.1
theorem dX10_qAsksWord_130 : decode cX10_qAsksWord 130 = .ok (.aload_n 0, 1) := dk_dX10_qAsksWord_97_8.2.2.2.2.2.2.2.1
theorem dk_dX10_qAsksWord_131 : dz_C cX10_qAsksWord [(131, .aload_n 0, 1), (132, .getfield 243, 3), (135, .invokevirtual 350, 3), (138, .goto 66, 3), (141, .aload_n 0, 1), (142, .aload_n 0, 1), (143, .getfield 246, 3), (146, .invokevirtual 350, 3), (149, .goto 55, 3), (152, .aload_n 0, 1), (153, .aload_n 0, 1), (154, .getfield 249, 3), (157, .invokevirtual 350, 3), (160, .goto 44, 3), (163, .aload_n 0, 1), (164, .aload_n 0, 1)] := dz_of (by decide +kernel)
theorem dX10_qAsksWord_131 : decode cX10_qAsksWord 131 = .ok (.aload_n 0, 1) := dk_dX10_qAsksWord_131.1
theorem dX10_qAsksWord_132 : decode cX10_qAsksWord 132 = .ok (.getfield 243, 3) := dk_dX10_qAsksWord_131.2.1
theorem dX10_qAsksWord_135 : decode cX10_qAsksWord 135 = .ok (.invokevirtual 350, 3) := dk_dX10_qAsksWord_131.2.2.1
theorem dX10_qAsksWord_138 : decode cX10_qAsksWord 138 = .ok (.goto 66, 3) := dk_dX10_qAsksWord_131.2.2.2.1
theorem dX10_qAsksWord_141 : decode cX10_qAsksWord 141 = .ok (.aload_n 0, 1) := dk_dX10_qAsksWord_131.2.2.2.2.1
theorem dX10_qAsksWord_142 : decode cX10_qAsksWord 142 = .ok (.aload_n 0, 1) := dk_dX10_qAsksWord_131.2.2.2.2.2.1
theorem dX10_qAsksWord_143 : decode cX10_qAsksWord 143 = .ok (.getfield 246, 3) := dk_dX10_qAsksWord_131.2.2.2.2.2.2.1
theorem dX10_qAsksWord_146 : decode cX10_qAsksWord 146 = .ok (.invokevirtual 350, 3) := dk_dX10_qAsksWord_131.2.2.2.2.2.2.2.1
theorem dk_dX10_qAsksWord_131_8 : dz_C cX10_qAsksWord [(149, .goto 55, 3), (152, .aload_n 0, 1), (153, .aload_n 0, 1), (154, .getfield 249, 3), (157, .invokevirtual 350, 3), (160, .goto 44, 3), (163, .aload_n 0, 1), (164, .aload_n 0, 1)] := dk_dX10_qAsksWord_131.2.2.2.2.2.2.2.2
theorem dX10_qAsksWord_149 : decode cX10_qAsksWord 149 = .ok (.goto 55, 3) := dk_dX10_qAsksWord_131_8.1
theorem dX10_qAsksWord_152 : decode cX10_qAsksWord 152 = .ok (.aload_n 0, 1) := dk_dX10_qAsksWord_131_8.2.1
theorem dX10_qAsksWord_153 : decode cX10_qAsksWord 153 = .ok (.aload_n 0, 1) := dk_dX10_qAsksWord_131_8.2.2.1
theorem dX10_qAsksWord_154 : decode cX10_qAsksWord 154 = .ok (.getfield 249, 3) := dk_dX10_qAsksWord_131_8.2.2.2.1
theorem dX10_qAsksWord_157 : decode cX10_qAsksWord 157 = .ok (.invokevirtual 350, 3) := dk_dX10_qAsksWord_131_8.2.2.2.2.1
theorem dX10_qAsksWord_160 : decode cX10_qAsksWord 160 = .ok (.goto 44, 3) := dk_dX10_qAsksWord_131_8.2.2.2.2.2.1
theorem dX10_qAsksWord_163 : decode cX10_qAsksWord 163 = .ok (.aload_n 0, 1) := dk_dX10_qAsksWord_131_8.2.2.2.2.2.2.1
theorem dX10_qAsksWord_164 : decode cX10_qAsksWord 164 = .ok (.aload_n 0, 1) := dk_dX10_qAsksWord_131_8.2.2.2.2.2.2.2.1
theorem dk_dX10_qAsksWord_165 : dz_C cX10_qAsksWord [(165, .getfield 252, 3), (168, .invokevirtual 350, 3), (171, .goto 33, 3), (174, .aload_n 0, 1), (175, .aload_n 0, 1), (176, .getfield 255, 3), (179, .invokevirtual 350, 3), (182, .goto 22, 3), (185, .aload_n 0, 1), (186, .aload_n 0, 1), (187, .getfield 258, 3), (190, .invokevirtual 350, 3), (193, .goto 11, 3), (196, .aload_n 0, 1), (197, .aload_n 0, 1), (198, .getfield 261, 3)] := dz_of (by decide +kernel)
theorem dX10_qAsksWord_165 : decode cX10_qAsksWord 165 = .ok (.getfield 252, 3) := dk_dX10_qAsksWord_165.1
theorem dX10_qAsksWord_168 : decode cX10_qAsksWord 168 = .ok (.invokevirtual 350, 3) := dk_dX10_qAsksWord_165.2.1
theorem dX10_qAsksWord_171 : decode cX10_qAsksWord 171 = .ok (.goto 33, 3) := dk_dX10_qAsksWord_165.2.2.1
theorem dX10_qAsksWord_174 : decode cX10_qAsksWord 174 = .ok (.aload_n 0, 1) := dk_dX10_qAsksWord_165.2.2.2.1
theorem dX10_qAsksWord_175 : decode cX10_qAsksWord 175 = .ok (.aload_n 0, 1) := dk_dX10_qAsksWord_165.2.2.2.2.1
theorem dX10_qAsksWord_176 : decode cX10_qAsksWord 176 = .ok (.getfield 255, 3) := dk_dX10_qAsksWord_165.2.2.2.2.2.1
theorem dX10_qAsksWord_179 : decode cX10_qAsksWord 179 = .ok (.invokevirtual 350, 3) := dk_dX10_qAsksWord_165.2.2.2.2.2.2.1
theorem dX10_qAsksWord_182 : decode cX10_qAsksWord 182 = .ok (.goto 22, 3) := dk_dX10_qAsksWord_165.2.2.2.2.2.2.2.1
theorem dk_dX10_qAsksWord_165_8 : dz_C cX10_qAsksWord [(185, .aload_n 0, 1), (186, .aload_n 0, 1), (187, .getfield 258, 3), (190, .invokevirtual 350, 3), (193, .goto 11, 3), (196, .aload_n 0, 1), (197, .aload_n 0, 1), (198, .getfield 261, 3)] := dk_dX10_qAsksWord_165.2.2.2.2.2.2.2.2
theorem dX10_qAsksWord_185 : decode cX10_qAsksWord 185 = .ok (.aload_n 0, 1) := dk_dX10_qAsksWord_165_8.1
theorem dX10_qAsksWord_186 : decode cX10_qAsksWord 186 = .ok (.aload_n 0, 1) := dk_dX10_qAsksWord_165_8.2.1
theorem dX10_qAsksWord_187 : decode cX10_qAsksWord 187 = .ok (.getfield 258, 3) := dk_dX10_qAsksWord_165_8.2.2.1
theorem dX10_qAsksWord_190 : decode cX10_qAsksWord 190 = .ok (.invokevirtual 350, 3) := dk_dX10_qAsksWord_165_8.2.2.2.1
theorem dX10_qAsksWord_193 : decode cX10_qAsksWord 193 = .ok (.goto 11, 3) := dk_dX10_qAsksWord_165_8.2.2.2.2.1
theorem dX10_qAsksWord_196 : decode cX10_qAsksWord 196 = .ok (.aload_n 0, 1) := dk_dX10_qAsksWord_165_8.2.2.2.2.2.1
theorem dX10_qAsksWord_197 : decode cX10_qAsksWord 197 = .ok (.aload_n 0, 1) := dk_dX10_qAsksWord_165_8.2.2.2.2.2.2.1
theorem dX10_qAsksWord_198 : decode cX10_qAsksWord 198 = .ok (.getfield 261, 3) := dk_dX10_qAsksWord_165_8.2.2.2.2.2.2.2.1
theorem dk_dX10_qAsksWord_201 : dz_C cX10_qAsksWord [(201, .invokevirtual 350, 3), (204, .return_, 1)] := dz_of (by decide +kernel)
theorem dX10_qAsksWord_201 : decode cX10_qAsksWord 201 = .ok (.invokevirtual 350, 3) := dk_dX10_qAsksWord_201.1
theorem dX10_qAsksWord_204 : decode cX10_qAsksWord 204 = .ok (.return_, 1) := dk_dX10_qAsksWord_201.2.1
theorem dk_dX10_qBracket_0 : dz_C cX10_qBracket [(0, .aload_n 0, 1), (1, .getfield 372, 3), (4, .iconst 1, 1), (5, .isub, 1), (6, .istore_n 1, 1), (7, .iload_n 1, 1), (8, .aload_n 0, 1), (9, .getfield 378, 3), (12, .if_icmp .lt 21, 3), (15, .aload_n 0, 1), (16, .getfield 267, 3), (19, .iload_n 1, 1), (20, .iaload, 1), (21, .invokestatic 611, 3), (24, .ifCond .ne 9, 3), (27, .iinc 1 (-1), 3)] := dz_of (by decide +kernel)
theorem dX10_qBracket_0 : decode cX10_qBracket 0 = .ok (.aload_n 0, 1) := dk_dX10_qBracket_0.1
theorem dX10_qBracket_1 : decode cX10_qBracket 1 = .ok (.getfield 372, 3) := dk_dX10_qBracket_0.2.1
theorem dX10_qBracket_4 : decode cX10_qBracket 4 = .ok (.iconst 1, 1) := dk_dX10_qBracket_0.2.2.1
theorem dX10_qBracket_5 : decode cX10_qBracket 5 = .ok (.isub, 1) := dk_dX10_qBracket_0.2.2.2.1
theorem dX10_qBracket_6 : decode cX10_qBracket 6 = .ok (.istore_n 1, 1) := dk_dX10_qBracket_0.2.2.2.2.1
theorem dX10_qBracket_7 : decode cX10_qBracket 7 = .ok (.iload_n 1, 1) := dk_dX10_qBracket_0.2.2.2.2.2.1
theorem dX10_qBracket_8 : decode cX10_qBracket 8 = .ok (.aload_n 0, 1) := dk_dX10_qBracket_0.2.2.2.2.2.2.1
theorem dX10_qBracket_9 : decode cX10_qBracket 9 = .ok (.getfield 378, 3) := dk_dX10_qBracket_0.2.2.2.2.2.2.2.1
theorem dk_dX10_qBracket_0_8 : dz_C cX10_qBracket [(12, .if_icmp .lt 21, 3), (15, .aload_n 0, 1), (16, .getfield 267, 3), (19, .iload_n 1, 1), (20, .iaload, 1), (21, .invokestatic 611, 3), (24, .ifCond .ne 9, 3), (27, .iinc 1 (-1), 3)] := dk_dX10_qBracket_0.2.2.2.2.2.2.2.2
theorem dX10_qBracket_12 : decode cX10_qBracket 12 = .ok (.if_icmp .lt 21, 3) := dk_dX10_qBracket_0_8.1
theorem dX10_qBracket_15 : decode cX10_qBracket 15 = .ok (.aload_n 0, 1) := dk_dX10_qBracket_0_8.2.1
theorem dX10_qBracket_16 : decode cX10_qBracket 16 = .ok (.getfield 267, 3) := dk_dX10_qBracket_0_8.2.2.1
theorem dX10_qBracket_19 : decode cX10_qBracket 19 = .ok (.iload_n 1, 1) := dk_dX10_qBracket_0_8.2.2.2.1
theorem dX10_qBracket_20 : decode cX10_qBracket 20 = .ok (.iaload, 1) := dk_dX10_qBracket_0_8.2.2.2.2.1
theorem dX10_qBracket_21 : decode cX10_qBracket 21 = .ok (.invokestatic 611, 3) := dk_dX10_qBracket_0_8.2.2.2.2.2.1
theorem dX10_qBracket_24 : decode cX10_qBracket 24 = .ok (.ifCond .ne 9, 3) := dk_dX10_qBracket_0_8.2.2.2.2.2.2.1
theorem dX10_qBracket_27 : decode cX10_qBracket 27 = .ok (.iinc 1 (-1), 3) := dk_dX10_qBracket_0_8.2.2.2.2.2.2.2.1
theorem dk_dX10_qBracket_30 : dz_C cX10_qBracket [(30, .goto (-23), 3), (33, .iload_n 1, 1), (34, .aload_n 0, 1), (35, .getfield 378, 3), (38, .if_icmp .lt 12, 3), (41, .aload_n 0, 1), (42, .getfield 267, 3), (45, .iload_n 1, 1), (46, .iaload, 1), (47, .goto 4, 3), (50, .iconst (-1), 1), (51, .ireturn, 1)] := dz_of (by decide +kernel)
theorem dX10_qBracket_30 : decode cX10_qBracket 30 = .ok (.goto (-23), 3) := dk_dX10_qBracket_30.1
theorem dX10_qBracket_33 : decode cX10_qBracket 33 = .ok (.iload_n 1, 1) := dk_dX10_qBracket_30.2.1
theorem dX10_qBracket_34 : decode cX10_qBracket 34 = .ok (.aload_n 0, 1) := dk_dX10_qBracket_30.2.2.1
theorem dX10_qBracket_35 : decode cX10_qBracket 35 = .ok (.getfield 378, 3) := dk_dX10_qBracket_30.2.2.2.1
theorem dX10_qBracket_38 : decode cX10_qBracket 38 = .ok (.if_icmp .lt 12, 3) := dk_dX10_qBracket_30.2.2.2.2.1
theorem dX10_qBracket_41 : decode cX10_qBracket 41 = .ok (.aload_n 0, 1) := dk_dX10_qBracket_30.2.2.2.2.2.1
theorem dX10_qBracket_42 : decode cX10_qBracket 42 = .ok (.getfield 267, 3) := dk_dX10_qBracket_30.2.2.2.2.2.2.1
theorem dX10_qBracket_45 : decode cX10_qBracket 45 = .ok (.iload_n 1, 1) := dk_dX10_qBracket_30.2.2.2.2.2.2.2.1
theorem dk_dX10_qBracket_30_8 : dz_C cX10_qBracket [(46, .iaload, 1), (47, .goto 4, 3), (50, .iconst (-1), 1), (51, .ireturn, 1)] := dk_dX10_qBracket_30.2.2.2.2.2.2.2.2
theorem dX10_qBracket_46 : decode cX10_qBracket 46 = .ok (.iaload, 1) := dk_dX10_qBracket_30_8.1
theorem dX10_qBracket_47 : decode cX10_qBracket 47 = .ok (.goto 4, 3) := dk_dX10_qBracket_30_8.2.1
theorem dX10_qBracket_50 : decode cX10_qBracket 50 = .ok (.iconst (-1), 1) := dk_dX10_qBracket_30_8.2.2.1
theorem dX10_qBracket_51 : decode cX10_qBracket 51 = .ok (.ireturn, 1) := dk_dX10_qBracket_30_8.2.2.2.1
theorem dk_dX10_qClip_0 : dz_C cX10_qClip [(0, .lload_n 0, 1), (1, .ldc2_w 662, 3), (4, .lcmp, 1), (5, .ifCond .le 9, 3), (8, .ldc2_w 662, 3), (11, .goto 18, 3), (14, .lload_n 0, 1), (15, .ldc2_w 664, 3), (18, .lcmp, 1), (19, .ifCond .ge 9, 3), (22, .ldc2_w 664, 3), (25, .goto 4, 3), (28, .lload_n 0, 1), (29, .lreturn, 1)] := dz_of (by decide +kernel)
theorem dX10_qClip_0 : decode cX10_qClip 0 = .ok (.lload_n 0, 1) := dk_dX10_qClip_0.1
theorem dX10_qClip_1 : decode cX10_qClip 1 = .ok (.ldc2_w 662, 3) := dk_dX10_qClip_0.2.1
theorem dX10_qClip_4 : decode cX10_qClip 4 = .ok (.lcmp, 1) := dk_dX10_qClip_0.2.2.1
theorem dX10_qClip_5 : decode cX10_qClip 5 = .ok (.ifCond .le 9, 3) := dk_dX10_qClip_0.2.2.2.1
theorem dX10_qClip_8 : decode cX10_qClip 8 = .ok (.ldc2_w 662, 3) := dk_dX10_qClip_0.2.2.2.2.1
theorem dX10_qClip_11 : decode cX10_qClip 11 = .ok (.goto 18, 3) := dk_dX10_qClip_0.2.2.2.2.2.1
theorem dX10_qClip_14 : decode cX10_qClip 14 = .ok (.lload_n 0, 1) := dk_dX10_qClip_0.2.2.2.2.2.2.1
theorem dX10_qClip_15 : decode cX10_qClip 15 = .ok (.ldc2_w 664, 3) := dk_dX10_qClip_0.2.2.2.2.2.2.2.1
theorem dk_dX10_qClip_0_8 : dz_C cX10_qClip [(18, .lcmp, 1), (19, .ifCond .ge 9, 3), (22, .ldc2_w 664, 3), (25, .goto 4, 3), (28, .lload_n 0, 1), (29, .lreturn, 1)] := dk_dX10_qClip_0.2.2.2.2.2.2.2.2
theorem dX10_qClip_18 : decode cX10_qClip 18 = .ok (.lcmp, 1) := dk_dX10_qClip_0_8.1
theorem dX10_qClip_19 : decode cX10_qClip 19 = .ok (.ifCond .ge 9, 3) := dk_dX10_qClip_0_8.2.1
theorem dX10_qClip_22 : decode cX10_qClip 22 = .ok (.ldc2_w 664, 3) := dk_dX10_qClip_0_8.2.2.1
theorem dX10_qClip_25 : decode cX10_qClip 25 = .ok (.goto 4, 3) := dk_dX10_qClip_0_8.2.2.2.1
theorem dX10_qClip_28 : decode cX10_qClip 28 = .ok (.lload_n 0, 1) := dk_dX10_qClip_0_8.2.2.2.2.1
theorem dX10_qClip_29 : decode cX10_qClip 29 = .ok (.lreturn, 1) := dk_dX10_qClip_0_8.2.2.2.2.2.1
theorem dk_dX10_qCode_0 : dz_C cX10_qCode [(0, .aload_n 0, 1), (1, .getfield 264, 3), (4, .aload_n 0, 1), (5, .getfield 369, 3), (8, .iload_n 1, 1), (9, .iastore, 1), (10, .aload_n 0, 1), (11, .dup, 1), (12, .getfield 369, 3), (15, .iconst 1, 1), (16, .iadd, 1), (17, .putfield 369, 3), (20, .return_, 1)] := dz_of (by decide +kernel)
theorem dX10_qCode_0 : decode cX10_qCode 0 = .ok (.aload_n 0, 1) := dk_dX10_qCode_0.1
theorem dX10_qCode_1 : decode cX10_qCode 1 = .ok (.getfield 264, 3) := dk_dX10_qCode_0.2.1
theorem dX10_qCode_4 : decode cX10_qCode 4 = .ok (.aload_n 0, 1) := dk_dX10_qCode_0.2.2.1
theorem dX10_qCode_5 : decode cX10_qCode 5 = .ok (.getfield 369, 3) := dk_dX10_qCode_0.2.2.2.1
theorem dX10_qCode_8 : decode cX10_qCode 8 = .ok (.iload_n 1, 1) := dk_dX10_qCode_0.2.2.2.2.1
theorem dX10_qCode_9 : decode cX10_qCode 9 = .ok (.iastore, 1) := dk_dX10_qCode_0.2.2.2.2.2.1
theorem dX10_qCode_10 : decode cX10_qCode 10 = .ok (.aload_n 0, 1) := dk_dX10_qCode_0.2.2.2.2.2.2.1
theorem dX10_qCode_11 : decode cX10_qCode 11 = .ok (.dup, 1) := dk_dX10_qCode_0.2.2.2.2.2.2.2.1
theorem dk_dX10_qCode_0_8 : dz_C cX10_qCode [(12, .getfield 369, 3), (15, .iconst 1, 1), (16, .iadd, 1), (17, .putfield 369, 3), (20, .return_, 1)] := dk_dX10_qCode_0.2.2.2.2.2.2.2.2
theorem dX10_qCode_12 : decode cX10_qCode 12 = .ok (.getfield 369, 3) := dk_dX10_qCode_0_8.1
theorem dX10_qCode_15 : decode cX10_qCode 15 = .ok (.iconst 1, 1) := dk_dX10_qCode_0_8.2.1
theorem dX10_qCode_16 : decode cX10_qCode 16 = .ok (.iadd, 1) := dk_dX10_qCode_0_8.2.2.1
theorem dX10_qCode_17 : decode cX10_qCode 17 = .ok (.putfield 369, 3) := dk_dX10_qCode_0_8.2.2.2.1
theorem dX10_qCode_20 : decode cX10_qCode 20 = .ok (.return_, 1) := dk_dX10_qCode_0_8.2.2.2.2.1
theorem dk_dX10_qDrops_0 : dz_C cX10_qDrops [(0, .aload_n 0, 1), (1, .dup, 1), (2, .getfield 372, 3), (5, .iconst 1, 1), (6, .isub, 1), (7, .putfield 372, 3), (10, .aload_n 0, 1), (11, .aload_n 0, 1), (12, .getfield 267, 3), (15, .aload_n 0, 1), (16, .getfield 372, 3), (19, .iaload, 1), (20, .invokevirtual 608, 3), (23, .return_, 1)] := dz_of (by decide +kernel)
theorem dX10_qDrops_0 : decode cX10_qDrops 0 = .ok (.aload_n 0, 1) := dk_dX10_qDrops_0.1
theorem dX10_qDrops_1 : decode cX10_qDrops 1 = .ok (.dup, 1) := dk_dX10_qDrops_0.2.1
theorem dX10_qDrops_2 : decode cX10_qDrops 2 = .ok (.getfield 372, 3) := dk_dX10_qDrops_0.2.2.1
theorem dX10_qDrops_5 : decode cX10_qDrops 5 = .ok (.iconst 1, 1) := dk_dX10_qDrops_0.2.2.2.1
theorem dX10_qDrops_6 : decode cX10_qDrops 6 = .ok (.isub, 1) := dk_dX10_qDrops_0.2.2.2.2.1
theorem dX10_qDrops_7 : decode cX10_qDrops 7 = .ok (.putfield 372, 3) := dk_dX10_qDrops_0.2.2.2.2.2.1
theorem dX10_qDrops_10 : decode cX10_qDrops 10 = .ok (.aload_n 0, 1) := dk_dX10_qDrops_0.2.2.2.2.2.2.1
theorem dX10_qDrops_11 : decode cX10_qDrops 11 = .ok (.aload_n 0, 1) := dk_dX10_qDrops_0.2.2.2.2.2.2.2.1
theorem dk_dX10_qDrops_0_8 : dz_C cX10_qDrops [(12, .getfield 267, 3), (15, .aload_n 0, 1), (16, .getfield 372, 3), (19, .iaload, 1), (20, .invokevirtual 608, 3), (23, .return_, 1)] := dk_dX10_qDrops_0.2.2.2.2.2.2.2.2
theorem dX10_qDrops_12 : decode cX10_qDrops 12 = .ok (.getfield 267, 3) := dk_dX10_qDrops_0_8.1
theorem dX10_qDrops_15 : decode cX10_qDrops 15 = .ok (.aload_n 0, 1) := dk_dX10_qDrops_0_8.2.1
theorem dX10_qDrops_16 : decode cX10_qDrops 16 = .ok (.getfield 372, 3) := dk_dX10_qDrops_0_8.2.2.1
theorem dX10_qDrops_19 : decode cX10_qDrops 19 = .ok (.iaload, 1) := dk_dX10_qDrops_0_8.2.2.2.1
theorem dX10_qDrops_20 : decode cX10_qDrops 20 = .ok (.invokevirtual 608, 3) := dk_dX10_qDrops_0_8.2.2.2.2.1
theorem dX10_qDrops_23 : decode cX10_qDrops 23 = .ok (.return_, 1) := dk_dX10_qDrops_0_8.2.2.2.2.2.1
theorem dk_dX10_qDropsNots_0 : dz_C cX10_qDropsNots [(0, .aload_n 0, 1), (1, .getfield 279, 3), (4, .ifCond .ne 29, 3), (7, .aload_n 0, 1), (8, .bipush 12, 2), (10, .invokevirtual 641, 3), (13, .ifCond .eq 20, 3), (16, .aload_n 0, 1), (17, .dup, 1), (18, .getfield 375, 3), (21, .iconst 1, 1), (22, .isub, 1), (23, .putfield 375, 3), (26, .aload_n 0, 1), (27, .invokevirtual 614, 3), (30, .goto (-30), 3)] := dz_of (by decide +kernel)
theorem dX10_qDropsNots_0 : decode cX10_qDropsNots 0 = .ok (.aload_n 0, 1) := dk_dX10_qDropsNots_0.1
theorem dX10_qDropsNots_1 : decode cX10_qDropsNots 1 = .ok (.getfield 279, 3) := dk_dX10_qDropsNots_0.2.1
theorem dX10_qDropsNots_4 : decode cX10_qDropsNots 4 = .ok (.ifCond .ne 29, 3) := dk_dX10_qDropsNots_0.2.2.1
theorem dX10_qDropsNots_7 : decode cX10_qDropsNots 7 = .ok (.aload_n 0, 1) := dk_dX10_qDropsNots_0.2.2.2.1
theorem dX10_qDropsNots_8 : decode cX10_qDropsNots 8 = .ok (.bipush 12, 2) := dk_dX10_qDropsNots_0.2.2.2.2.1
theorem dX10_qDropsNots_10 : decode cX10_qDropsNots 10 = .ok (.invokevirtual 641, 3) := dk_dX10_qDropsNots_0.2.2.2.2.2.1
theorem dX10_qDropsNots_13 : decode cX10_qDropsNots 13 = .ok (.ifCond .eq 20, 3) := dk_dX10_qDropsNots_0.2.2.2.2.2.2.1
theorem dX10_qDropsNots_16 : decode cX10_qDropsNots 16 = .ok (.aload_n 0, 1) := dk_dX10_qDropsNots_0.2.2.2.2.2.2.2.1
theorem dk_dX10_qDropsNots_0_8 : dz_C cX10_qDropsNots [(17, .dup, 1), (18, .getfield 375, 3), (21, .iconst 1, 1), (22, .isub, 1), (23, .putfield 375, 3), (26, .aload_n 0, 1), (27, .invokevirtual 614, 3), (30, .goto (-30), 3)] := dk_dX10_qDropsNots_0.2.2.2.2.2.2.2.2
theorem dX10_qDropsNots_17 : decode cX10_qDropsNots 17 = .ok (.dup, 1) := dk_dX10_qDropsNots_0_8.1
theorem dX10_qDropsNots_18 : decode cX10_qDropsNots 18 = .ok (.getfield 375, 3) := dk_dX10_qDropsNots_0_8.2.1
theorem dX10_qDropsNots_21 : decode cX10_qDropsNots 21 = .ok (.iconst 1, 1) := dk_dX10_qDropsNots_0_8.2.2.1
theorem dX10_qDropsNots_22 : decode cX10_qDropsNots 22 = .ok (.isub, 1) := dk_dX10_qDropsNots_0_8.2.2.2.1
theorem dX10_qDropsNots_23 : decode cX10_qDropsNots 23 = .ok (.putfield 375, 3) := dk_dX10_qDropsNots_0_8.2.2.2.2.1
theorem dX10_qDropsNots_26 : decode cX10_qDropsNots 26 = .ok (.aload_n 0, 1) := dk_dX10_qDropsNots_0_8.2.2.2.2.2.1
theorem dX10_qDropsNots_27 : decode cX10_qDropsNots 27 = .ok (.invokevirtual 614, 3) := dk_dX10_qDropsNots_0_8.2.2.2.2.2.2.1
theorem dX10_qDropsNots_30 : decode cX10_qDropsNots 30 = .ok (.goto (-30), 3) := dk_dX10_qDropsNots_0_8.2.2.2.2.2.2.2.1
theorem dk_dX10_qDropsNots_33 : dz_C cX10_qDropsNots [(33, .return_, 1)] := dz_of (by decide +kernel)
theorem dX10_qDropsNots_33 : decode cX10_qDropsNots 33 = .ok (.return_, 1) := dk_dX10_qDropsNots_33.1
theorem dk_dX10_qDropsToBracket_0 : dz_C cX10_qDropsToBracket [(0, .aload_n 0, 1), (1, .getfield 372, 3), (4, .aload_n 0, 1), (5, .getfield 378, 3), (8, .if_icmp .le 27, 3), (11, .aload_n 0, 1), (12, .getfield 267, 3), (15, .aload_n 0, 1), (16, .getfield 372, 3), (19, .iconst 1, 1), (20, .isub, 1), (21, .iaload, 1), (22, .invokestatic 611, 3), (25, .ifCond .ne 10, 3), (28, .aload_n 0, 1), (29, .invokevirtual 614, 3)] := dz_of (by decide +kernel)
theorem dX10_qDropsToBracket_0 : decode cX10_qDropsToBracket 0 = .ok (.aload_n 0, 1) := dk_dX10_qDropsToBracket_0.1
theorem dX10_qDropsToBracket_1 : decode cX10_qDropsToBracket 1 = .ok (.getfield 372, 3) := dk_dX10_qDropsToBracket_0.2.1
theorem dX10_qDropsToBracket_4 : decode cX10_qDropsToBracket 4 = .ok (.aload_n 0, 1) := dk_dX10_qDropsToBracket_0.2.2.1
theorem dX10_qDropsToBracket_5 : decode cX10_qDropsToBracket 5 = .ok (.getfield 378, 3) := dk_dX10_qDropsToBracket_0.2.2.2.1
theorem dX10_qDropsToBracket_8 : decode cX10_qDropsToBracket 8 = .ok (.if_icmp .le 27, 3) := dk_dX10_qDropsToBracket_0.2.2.2.2.1
theorem dX10_qDropsToBracket_11 : decode cX10_qDropsToBracket 11 = .ok (.aload_n 0, 1) := dk_dX10_qDropsToBracket_0.2.2.2.2.2.1
theorem dX10_qDropsToBracket_12 : decode cX10_qDropsToBracket 12 = .ok (.getfield 267, 3) := dk_dX10_qDropsToBracket_0.2.2.2.2.2.2.1
theorem dX10_qDropsToBracket_15 : decode cX10_qDropsToBracket 15 = .ok (.aload_n 0, 1) := dk_dX10_qDropsToBracket_0.2.2.2.2.2.2.2.1
theorem dk_dX10_qDropsToBracket_0_8 : dz_C cX10_qDropsToBracket [(16, .getfield 372, 3), (19, .iconst 1, 1), (20, .isub, 1), (21, .iaload, 1), (22, .invokestatic 611, 3), (25, .ifCond .ne 10, 3), (28, .aload_n 0, 1), (29, .invokevirtual 614, 3)] := dk_dX10_qDropsToBracket_0.2.2.2.2.2.2.2.2
theorem dX10_qDropsToBracket_16 : decode cX10_qDropsToBracket 16 = .ok (.getfield 372, 3) := dk_dX10_qDropsToBracket_0_8.1
theorem dX10_qDropsToBracket_19 : decode cX10_qDropsToBracket 19 = .ok (.iconst 1, 1) := dk_dX10_qDropsToBracket_0_8.2.1
theorem dX10_qDropsToBracket_20 : decode cX10_qDropsToBracket 20 = .ok (.isub, 1) := dk_dX10_qDropsToBracket_0_8.2.2.1
theorem dX10_qDropsToBracket_21 : decode cX10_qDropsToBracket 21 = .ok (.iaload, 1) := dk_dX10_qDropsToBracket_0_8.2.2.2.1
theorem dX10_qDropsToBracket_22 : decode cX10_qDropsToBracket 22 = .ok (.invokestatic 611, 3) := dk_dX10_qDropsToBracket_0_8.2.2.2.2.1
theorem dX10_qDropsToBracket_25 : decode cX10_qDropsToBracket 25 = .ok (.ifCond .ne 10, 3) := dk_dX10_qDropsToBracket_0_8.2.2.2.2.2.1
theorem dX10_qDropsToBracket_28 : decode cX10_qDropsToBracket 28 = .ok (.aload_n 0, 1) := dk_dX10_qDropsToBracket_0_8.2.2.2.2.2.2.1
theorem dX10_qDropsToBracket_29 : decode cX10_qDropsToBracket 29 = .ok (.invokevirtual 614, 3) := dk_dX10_qDropsToBracket_0_8.2.2.2.2.2.2.2.1
theorem dk_dX10_qDropsToBracket_32 : dz_C cX10_qDropsToBracket [(32, .goto (-32), 3), (35, .return_, 1)] := dz_of (by decide +kernel)
theorem dX10_qDropsToBracket_32 : decode cX10_qDropsToBracket 32 = .ok (.goto (-32), 3) := dk_dX10_qDropsToBracket_32.1
theorem dX10_qDropsToBracket_35 : decode cX10_qDropsToBracket 35 = .ok (.return_, 1) := dk_dX10_qDropsToBracket_32.2.1
theorem dk_dX10_qEndsPart_0 : dz_C cX10_qEndsPart [(0, .aload_n 0, 1), (1, .getfield 279, 3), (4, .ifCond .ne 47, 3), (7, .aload_n 0, 1), (8, .getfield 372, 3), (11, .aload_n 0, 1), (12, .getfield 378, 3), (15, .if_icmp .le 36, 3), (18, .aload_n 0, 1), (19, .getfield 267, 3), (22, .aload_n 0, 1), (23, .getfield 372, 3), (26, .iconst 1, 1), (27, .isub, 1), (28, .iaload, 1), (29, .bipush 60, 2)] := dz_of (by decide +kernel)
theorem dX10_qEndsPart_0 : decode cX10_qEndsPart 0 = .ok (.aload_n 0, 1) := dk_dX10_qEndsPart_0.1
theorem dX10_qEndsPart_1 : decode cX10_qEndsPart 1 = .ok (.getfield 279, 3) := dk_dX10_qEndsPart_0.2.1
theorem dX10_qEndsPart_4 : decode cX10_qEndsPart 4 = .ok (.ifCond .ne 47, 3) := dk_dX10_qEndsPart_0.2.2.1
theorem dX10_qEndsPart_7 : decode cX10_qEndsPart 7 = .ok (.aload_n 0, 1) := dk_dX10_qEndsPart_0.2.2.2.1
theorem dX10_qEndsPart_8 : decode cX10_qEndsPart 8 = .ok (.getfield 372, 3) := dk_dX10_qEndsPart_0.2.2.2.2.1
theorem dX10_qEndsPart_11 : decode cX10_qEndsPart 11 = .ok (.aload_n 0, 1) := dk_dX10_qEndsPart_0.2.2.2.2.2.1
theorem dX10_qEndsPart_12 : decode cX10_qEndsPart 12 = .ok (.getfield 378, 3) := dk_dX10_qEndsPart_0.2.2.2.2.2.2.1
theorem dX10_qEndsPart_15 : decode cX10_qEndsPart 15 = .ok (.if_icmp .le 36, 3) := dk_dX10_qEndsPart_0.2.2.2.2.2.2.2.1
theorem dk_dX10_qEndsPart_0_8 : dz_C cX10_qEndsPart [(18, .aload_n 0, 1), (19, .getfield 267, 3), (22, .aload_n 0, 1), (23, .getfield 372, 3), (26, .iconst 1, 1), (27, .isub, 1), (28, .iaload, 1), (29, .bipush 60, 2)] := dk_dX10_qEndsPart_0.2.2.2.2.2.2.2.2
theorem dX10_qEndsPart_18 : decode cX10_qEndsPart 18 = .ok (.aload_n 0, 1) := dk_dX10_qEndsPart_0_8.1
theorem dX10_qEndsPart_19 : decode cX10_qEndsPart 19 = .ok (.getfield 267, 3) := dk_dX10_qEndsPart_0_8.2.1
theorem dX10_qEndsPart_22 : decode cX10_qEndsPart 22 = .ok (.aload_n 0, 1) := dk_dX10_qEndsPart_0_8.2.2.1
theorem dX10_qEndsPart_23 : decode cX10_qEndsPart 23 = .ok (.getfield 372, 3) := dk_dX10_qEndsPart_0_8.2.2.2.1
theorem dX10_qEndsPart_26 : decode cX10_qEndsPart 26 = .ok (.iconst 1, 1) := dk_dX10_qEndsPart_0_8.2.2.2.2.1
theorem dX10_qEndsPart_27 : decode cX10_qEndsPart 27 = .ok (.isub, 1) := dk_dX10_qEndsPart_0_8.2.2.2.2.2.1
theorem dX10_qEndsPart_28 : decode cX10_qEndsPart 28 = .ok (.iaload, 1) := dk_dX10_qEndsPart_0_8.2.2.2.2.2.2.1
theorem dX10_qEndsPart_29 : decode cX10_qEndsPart 29 = .ok (.bipush 60, 2) := dk_dX10_qEndsPart_0_8.2.2.2.2.2.2.2.1
theorem dk_dX10_qEndsPart_31 : dz_C cX10_qEndsPart [(31, .if_icmp .lt 20, 3), (34, .aload_n 0, 1), (35, .dup, 1), (36, .getfield 375, 3), (39, .iconst 1, 1), (40, .isub, 1), (41, .putfield 375, 3), (44, .aload_n 0, 1), (45, .invokevirtual 614, 3), (48, .goto (-48), 3), (51, .return_, 1)] := dz_of (by decide +kernel)
theorem dX10_qEndsPart_31 : decode cX10_qEndsPart 31 = .ok (.if_icmp .lt 20, 3) := dk_dX10_qEndsPart_31.1
theorem dX10_qEndsPart_34 : decode cX10_qEndsPart 34 = .ok (.aload_n 0, 1) := dk_dX10_qEndsPart_31.2.1
theorem dX10_qEndsPart_35 : decode cX10_qEndsPart 35 = .ok (.dup, 1) := dk_dX10_qEndsPart_31.2.2.1
theorem dX10_qEndsPart_36 : decode cX10_qEndsPart 36 = .ok (.getfield 375, 3) := dk_dX10_qEndsPart_31.2.2.2.1
theorem dX10_qEndsPart_39 : decode cX10_qEndsPart 39 = .ok (.iconst 1, 1) := dk_dX10_qEndsPart_31.2.2.2.2.1
theorem dX10_qEndsPart_40 : decode cX10_qEndsPart 40 = .ok (.isub, 1) := dk_dX10_qEndsPart_31.2.2.2.2.2.1
theorem dX10_qEndsPart_41 : decode cX10_qEndsPart 41 = .ok (.putfield 375, 3) := dk_dX10_qEndsPart_31.2.2.2.2.2.2.1
theorem dX10_qEndsPart_44 : decode cX10_qEndsPart 44 = .ok (.aload_n 0, 1) := dk_dX10_qEndsPart_31.2.2.2.2.2.2.2.1
theorem dk_dX10_qEndsPart_31_8 : dz_C cX10_qEndsPart [(45, .invokevirtual 614, 3), (48, .goto (-48), 3), (51, .return_, 1)] := dk_dX10_qEndsPart_31.2.2.2.2.2.2.2.2
theorem dX10_qEndsPart_45 : decode cX10_qEndsPart 45 = .ok (.invokevirtual 614, 3) := dk_dX10_qEndsPart_31_8.1
theorem dX10_qEndsPart_48 : decode cX10_qEndsPart 48 = .ok (.goto (-48), 3) := dk_dX10_qEndsPart_31_8.2.1
theorem dX10_qEndsPart_51 : decode cX10_qEndsPart 51 = .ok (.return_, 1) := dk_dX10_qEndsPart_31_8.2.2.1
theorem dk_dX10_qFact_0 : dz_C cX10_qFact [(0, .aload_n 0, 1), (1, .aload_n 0, 1), (2, .getfield 216, 3), (5, .invokevirtual 305, 3), (8, .ifCond .eq 10, 3), (11, .aload_n 0, 1), (12, .bipush 13, 2), (14, .invokevirtual 608, 3), (17, .return_, 1), (18, .aload_n 0, 1), (19, .invokevirtual 381, 3), (22, .aload_n 0, 1), (23, .getfield 279, 3), (26, .ifCond .eq 4, 3), (29, .return_, 1), (30, .aload_n 0, 1)] := dz_of (by decide +kernel)
theorem dX10_qFact_0 : decode cX10_qFact 0 = .ok (.aload_n 0, 1) := dk_dX10_qFact_0.1
theorem dX10_qFact_1 : decode cX10_qFact 1 = .ok (.aload_n 0, 1) := dk_dX10_qFact_0.2.1
theorem dX10_qFact_2 : decode cX10_qFact 2 = .ok (.getfield 216, 3) := dk_dX10_qFact_0.2.2.1
theorem dX10_qFact_5 : decode cX10_qFact 5 = .ok (.invokevirtual 305, 3) := dk_dX10_qFact_0.2.2.2.1
theorem dX10_qFact_8 : decode cX10_qFact 8 = .ok (.ifCond .eq 10, 3) := dk_dX10_qFact_0.2.2.2.2.1
theorem dX10_qFact_11 : decode cX10_qFact 11 = .ok (.aload_n 0, 1) := dk_dX10_qFact_0.2.2.2.2.2.1
theorem dX10_qFact_12 : decode cX10_qFact 12 = .ok (.bipush 13, 2) := dk_dX10_qFact_0.2.2.2.2.2.2.1
theorem dX10_qFact_14 : decode cX10_qFact 14 = .ok (.invokevirtual 608, 3) := dk_dX10_qFact_0.2.2.2.2.2.2.2.1
theorem dk_dX10_qFact_0_8 : dz_C cX10_qFact [(17, .return_, 1), (18, .aload_n 0, 1), (19, .invokevirtual 381, 3), (22, .aload_n 0, 1), (23, .getfield 279, 3), (26, .ifCond .eq 4, 3), (29, .return_, 1), (30, .aload_n 0, 1)] := dk_dX10_qFact_0.2.2.2.2.2.2.2.2
theorem dX10_qFact_17 : decode cX10_qFact 17 = .ok (.return_, 1) := dk_dX10_qFact_0_8.1
theorem dX10_qFact_18 : decode cX10_qFact 18 = .ok (.aload_n 0, 1) := dk_dX10_qFact_0_8.2.1
theorem dX10_qFact_19 : decode cX10_qFact 19 = .ok (.invokevirtual 381, 3) := dk_dX10_qFact_0_8.2.2.1
theorem dX10_qFact_22 : decode cX10_qFact 22 = .ok (.aload_n 0, 1) := dk_dX10_qFact_0_8.2.2.2.1
theorem dX10_qFact_23 : decode cX10_qFact 23 = .ok (.getfield 279, 3) := dk_dX10_qFact_0_8.2.2.2.2.1
theorem dX10_qFact_26 : decode cX10_qFact 26 = .ok (.ifCond .eq 4, 3) := dk_dX10_qFact_0_8.2.2.2.2.2.1
theorem dX10_qFact_29 : decode cX10_qFact 29 = .ok (.return_, 1) := dk_dX10_qFact_0_8.2.2.2.2.2.2.1
theorem dX10_qFact_30 : decode cX10_qFact 30 = .ok (.aload_n 0, 1) := dk_dX10_qFact_0_8.2.2.2.2.2.2.2.1
theorem dk_dX10_qFact_31 : dz_C cX10_qFact [(31, .invokevirtual 291, 3), (34, .istore_n 1, 1), (35, .iload_n 1, 1), (36, .bipush 60, 2), (38, .if_icmp .eq 25, 3), (41, .iload_n 1, 1), (42, .bipush 62, 2), (44, .if_icmp .eq 19, 3), (47, .iload_n 1, 1), (48, .bipush 61, 2), (50, .if_icmp .eq 13, 3), (53, .aload_n 0, 1), (54, .iconst 1, 1), (55, .aload_n 0, 1), (56, .getfield 285, 3), (59, .invokevirtual 308, 3)] := dz_of (by decide +kernel)
theorem dX10_qFact_31 : decode cX10_qFact 31 = .ok (.invokevirtual 291, 3) := dk_dX10_qFact_31.1
theorem dX10_qFact_34 : decode cX10_qFact 34 = .ok (.istore_n 1, 1) := dk_dX10_qFact_31.2.1
theorem dX10_qFact_35 : decode cX10_qFact 35 = .ok (.iload_n 1, 1) := dk_dX10_qFact_31.2.2.1
theorem dX10_qFact_36 : decode cX10_qFact 36 = .ok (.bipush 60, 2) := dk_dX10_qFact_31.2.2.2.1
theorem dX10_qFact_38 : decode cX10_qFact 38 = .ok (.if_icmp .eq 25, 3) := dk_dX10_qFact_31.2.2.2.2.1
theorem dX10_qFact_41 : decode cX10_qFact 41 = .ok (.iload_n 1, 1) := dk_dX10_qFact_31.2.2.2.2.2.1
theorem dX10_qFact_42 : decode cX10_qFact 42 = .ok (.bipush 62, 2) := dk_dX10_qFact_31.2.2.2.2.2.2.1
theorem dX10_qFact_44 : decode cX10_qFact 44 = .ok (.if_icmp .eq 19, 3) := dk_dX10_qFact_31.2.2.2.2.2.2.2.1
theorem dk_dX10_qFact_31_8 : dz_C cX10_qFact [(47, .iload_n 1, 1), (48, .bipush 61, 2), (50, .if_icmp .eq 13, 3), (53, .aload_n 0, 1), (54, .iconst 1, 1), (55, .aload_n 0, 1), (56, .getfield 285, 3), (59, .invokevirtual 308, 3)] := dk_dX10_qFact_31.2.2.2.2.2.2.2.2
theorem dX10_qFact_47 : decode cX10_qFact 47 = .ok (.iload_n 1, 1) := dk_dX10_qFact_31_8.1
theorem dX10_qFact_48 : decode cX10_qFact 48 = .ok (.bipush 61, 2) := dk_dX10_qFact_31_8.2.1
theorem dX10_qFact_50 : decode cX10_qFact 50 = .ok (.if_icmp .eq 13, 3) := dk_dX10_qFact_31_8.2.2.1
theorem dX10_qFact_53 : decode cX10_qFact 53 = .ok (.aload_n 0, 1) := dk_dX10_qFact_31_8.2.2.2.1
theorem dX10_qFact_54 : decode cX10_qFact 54 = .ok (.iconst 1, 1) := dk_dX10_qFact_31_8.2.2.2.2.1
theorem dX10_qFact_55 : decode cX10_qFact 55 = .ok (.aload_n 0, 1) := dk_dX10_qFact_31_8.2.2.2.2.2.1
theorem dX10_qFact_56 : decode cX10_qFact 56 = .ok (.getfield 285, 3) := dk_dX10_qFact_31_8.2.2.2.2.2.2.1
theorem dX10_qFact_59 : decode cX10_qFact 59 = .ok (.invokevirtual 308, 3) := dk_dX10_qFact_31_8.2.2.2.2.2.2.2.1
theorem dk_dX10_qFact_62 : dz_C cX10_qFact [(62, .return_, 1), (63, .aload_n 0, 1), (64, .dup, 1), (65, .getfield 285, 3), (68, .iconst 1, 1), (69, .iadd, 1), (70, .putfield 285, 3), (73, .aload_n 0, 1), (74, .invokevirtual 381, 3), (77, .aload_n 0, 1), (78, .iload_n 1, 1), (79, .bipush 60, 2), (81, .if_icmp .ne 8, 3), (84, .bipush 7, 2), (86, .goto 16, 3), (89, .iload_n 1, 1)] := dz_of (by decide +kernel)
theorem dX10_qFact_62 : decode cX10_qFact 62 = .ok (.return_, 1) := dk_dX10_qFact_62.1
theorem dX10_qFact_63 : decode cX10_qFact 63 = .ok (.aload_n 0, 1) := dk_dX10_qFact_62.2.1
theorem dX10_qFact_64 : decode cX10_qFact 64 = .ok (.dup, 1) := dk_dX10_qFact_62.2.2.1
theorem dX10_qFact_65 : decode cX10_qFact 65 = .ok (.getfield 285, 3) := dk_dX10_qFact_62.2.2.2.1
theorem dX10_qFact_68 : decode cX10_qFact 68 = .ok (.iconst 1, 1) := dk_dX10_qFact_62.2.2.2.2.1
theorem dX10_qFact_69 : decode cX10_qFact 69 = .ok (.iadd, 1) := dk_dX10_qFact_62.2.2.2.2.2.1
theorem dX10_qFact_70 : decode cX10_qFact 70 = .ok (.putfield 285, 3) := dk_dX10_qFact_62.2.2.2.2.2.2.1
theorem dX10_qFact_73 : decode cX10_qFact 73 = .ok (.aload_n 0, 1) := dk_dX10_qFact_62.2.2.2.2.2.2.2.1
theorem dk_dX10_qFact_62_8 : dz_C cX10_qFact [(74, .invokevirtual 381, 3), (77, .aload_n 0, 1), (78, .iload_n 1, 1), (79, .bipush 60, 2), (81, .if_icmp .ne 8, 3), (84, .bipush 7, 2), (86, .goto 16, 3), (89, .iload_n 1, 1)] := dk_dX10_qFact_62.2.2.2.2.2.2.2.2
theorem dX10_qFact_74 : decode cX10_qFact 74 = .ok (.invokevirtual 381, 3) := dk_dX10_qFact_62_8.1
theorem dX10_qFact_77 : decode cX10_qFact 77 = .ok (.aload_n 0, 1) := dk_dX10_qFact_62_8.2.1
theorem dX10_qFact_78 : decode cX10_qFact 78 = .ok (.iload_n 1, 1) := dk_dX10_qFact_62_8.2.2.1
theorem dX10_qFact_79 : decode cX10_qFact 79 = .ok (.bipush 60, 2) := dk_dX10_qFact_62_8.2.2.2.1
theorem dX10_qFact_81 : decode cX10_qFact 81 = .ok (.if_icmp .ne 8, 3) := dk_dX10_qFact_62_8.2.2.2.2.1
theorem dX10_qFact_84 : decode cX10_qFact 84 = .ok (.bipush 7, 2) := dk_dX10_qFact_62_8.2.2.2.2.2.1
theorem dX10_qFact_86 : decode cX10_qFact 86 = .ok (.goto 16, 3) := dk_dX10_qFact_62_8.2.2.2.2.2.2.1
theorem dX10_qFact_89 : decode cX10_qFact 89 = .ok (.iload_n 1, 1) := dk_dX10_qFact_62_8.2.2.2.2.2.2.2.1
theorem dk_dX10_qFact_90 : dz_C cX10_qFact [(90, .bipush 62, 2), (92, .if_icmp .ne 8, 3), (95, .bipush 8, 2), (97, .goto 5, 3), (100, .bipush 9, 2), (102, .invokevirtual 608, 3), (105, .return_, 1)] := dz_of (by decide +kernel)
theorem dX10_qFact_90 : decode cX10_qFact 90 = .ok (.bipush 62, 2) := dk_dX10_qFact_90.1
theorem dX10_qFact_92 : decode cX10_qFact 92 = .ok (.if_icmp .ne 8, 3) := dk_dX10_qFact_90.2.1
theorem dX10_qFact_95 : decode cX10_qFact 95 = .ok (.bipush 8, 2) := dk_dX10_qFact_90.2.2.1
theorem dX10_qFact_97 : decode cX10_qFact 97 = .ok (.goto 5, 3) := dk_dX10_qFact_90.2.2.2.1
theorem dX10_qFact_100 : decode cX10_qFact 100 = .ok (.bipush 9, 2) := dk_dX10_qFact_90.2.2.2.2.1
theorem dX10_qFact_102 : decode cX10_qFact 102 = .ok (.invokevirtual 608, 3) := dk_dX10_qFact_90.2.2.2.2.2.1
theorem dX10_qFact_105 : decode cX10_qFact 105 = .ok (.return_, 1) := dk_dX10_qFact_90.2.2.2.2.2.2.1
theorem dk_dX10_qFloor_0 : dz_C cX10_qFloor [(0, .lload_n 2, 1), (1, .lconst 0, 1), (2, .lcmp, 1), (3, .ifCond .ne 5, 3), (6, .lconst 0, 1), (7, .lreturn, 1), (8, .lload_n 0, 1), (9, .lload_n 2, 1), (10, .ldiv, 1), (11, .lstore 4, 2), (13, .lload_n 0, 1), (14, .lload_n 2, 1), (15, .lrem, 1), (16, .lconst 0, 1), (17, .lcmp, 1), (18, .ifCond .eq 35, 3)] := dz_of (by decide +kernel)
theorem dX10_qFloor_0 : decode cX10_qFloor 0 = .ok (.lload_n 2, 1) := dk_dX10_qFloor_0.1
theorem dX10_qFloor_1 : decode cX10_qFloor 1 = .ok (.lconst 0, 1) := dk_dX10_qFloor_0.2.1
theorem dX10_qFloor_2 : decode cX10_qFloor 2 = .ok (.lcmp, 1) := dk_dX10_qFloor_0.2.2.1
theorem dX10_qFloor_3 : decode cX10_qFloor 3 = .ok (.ifCond .ne 5, 3) := dk_dX10_qFloor_0.2.2.2.1
theorem dX10_qFloor_6 : decode cX10_qFloor 6 = .ok (.lconst 0, 1) := dk_dX10_qFloor_0.2.2.2.2.1
theorem dX10_qFloor_7 : decode cX10_qFloor 7 = .ok (.lreturn, 1) := dk_dX10_qFloor_0.2.2.2.2.2.1
theorem dX10_qFloor_8 : decode cX10_qFloor 8 = .ok (.lload_n 0, 1) := dk_dX10_qFloor_0.2.2.2.2.2.2.1
theorem dX10_qFloor_9 : decode cX10_qFloor 9 = .ok (.lload_n 2, 1) := dk_dX10_qFloor_0.2.2.2.2.2.2.2.1
theorem dk_dX10_qFloor_0_8 : dz_C cX10_qFloor [(10, .ldiv, 1), (11, .lstore 4, 2), (13, .lload_n 0, 1), (14, .lload_n 2, 1), (15, .lrem, 1), (16, .lconst 0, 1), (17, .lcmp, 1), (18, .ifCond .eq 35, 3)] := dk_dX10_qFloor_0.2.2.2.2.2.2.2.2
theorem dX10_qFloor_10 : decode cX10_qFloor 10 = .ok (.ldiv, 1) := dk_dX10_qFloor_0_8.1
theorem dX10_qFloor_11 : decode cX10_qFloor 11 = .ok (.lstore 4, 2) := dk_dX10_qFloor_0_8.2.1
theorem dX10_qFloor_13 : decode cX10_qFloor 13 = .ok (.lload_n 0, 1) := dk_dX10_qFloor_0_8.2.2.1
theorem dX10_qFloor_14 : decode cX10_qFloor 14 = .ok (.lload_n 2, 1) := dk_dX10_qFloor_0_8.2.2.2.1
theorem dX10_qFloor_15 : decode cX10_qFloor 15 = .ok (.lrem, 1) := dk_dX10_qFloor_0_8.2.2.2.2.1
theorem dX10_qFloor_16 : decode cX10_qFloor 16 = .ok (.lconst 0, 1) := dk_dX10_qFloor_0_8.2.2.2.2.2.1
theorem dX10_qFloor_17 : decode cX10_qFloor 17 = .ok (.lcmp, 1) := dk_dX10_qFloor_0_8.2.2.2.2.2.2.1
theorem dX10_qFloor_18 : decode cX10_qFloor 18 = .ok (.ifCond .eq 35, 3) := dk_dX10_qFloor_0_8.2.2.2.2.2.2.2.1
theorem dk_dX10_qFloor_21 : dz_C cX10_qFloor [(21, .lload_n 0, 1), (22, .lconst 0, 1), (23, .lcmp, 1), (24, .ifCond .ge 7, 3), (27, .iconst 1, 1), (28, .goto 4, 3), (31, .iconst 0, 1), (32, .lload_n 2, 1), (33, .lconst 0, 1), (34, .lcmp, 1), (35, .ifCond .ge 7, 3), (38, .iconst 1, 1), (39, .goto 4, 3), (42, .iconst 0, 1), (43, .if_icmp .eq 10, 3), (46, .lload 4, 2)] := dz_of (by decide +kernel)
theorem dX10_qFloor_21 : decode cX10_qFloor 21 = .ok (.lload_n 0, 1) := dk_dX10_qFloor_21.1
theorem dX10_qFloor_22 : decode cX10_qFloor 22 = .ok (.lconst 0, 1) := dk_dX10_qFloor_21.2.1
theorem dX10_qFloor_23 : decode cX10_qFloor 23 = .ok (.lcmp, 1) := dk_dX10_qFloor_21.2.2.1
theorem dX10_qFloor_24 : decode cX10_qFloor 24 = .ok (.ifCond .ge 7, 3) := dk_dX10_qFloor_21.2.2.2.1
theorem dX10_qFloor_27 : decode cX10_qFloor 27 = .ok (.iconst 1, 1) := dk_dX10_qFloor_21.2.2.2.2.1
theorem dX10_qFloor_28 : decode cX10_qFloor 28 = .ok (.goto 4, 3) := dk_dX10_qFloor_21.2.2.2.2.2.1
theorem dX10_qFloor_31 : decode cX10_qFloor 31 = .ok (.iconst 0, 1) := dk_dX10_qFloor_21.2.2.2.2.2.2.1
theorem dX10_qFloor_32 : decode cX10_qFloor 32 = .ok (.lload_n 2, 1) := dk_dX10_qFloor_21.2.2.2.2.2.2.2.1
theorem dk_dX10_qFloor_21_8 : dz_C cX10_qFloor [(33, .lconst 0, 1), (34, .lcmp, 1), (35, .ifCond .ge 7, 3), (38, .iconst 1, 1), (39, .goto 4, 3), (42, .iconst 0, 1), (43, .if_icmp .eq 10, 3), (46, .lload 4, 2)] := dk_dX10_qFloor_21.2.2.2.2.2.2.2.2
theorem dX10_qFloor_33 : decode cX10_qFloor 33 = .ok (.lconst 0, 1) := dk_dX10_qFloor_21_8.1
theorem dX10_qFloor_34 : decode cX10_qFloor 34 = .ok (.lcmp, 1) := dk_dX10_qFloor_21_8.2.1
theorem dX10_qFloor_35 : decode cX10_qFloor 35 = .ok (.ifCond .ge 7, 3) := dk_dX10_qFloor_21_8.2.2.1
theorem dX10_qFloor_38 : decode cX10_qFloor 38 = .ok (.iconst 1, 1) := dk_dX10_qFloor_21_8.2.2.2.1
theorem dX10_qFloor_39 : decode cX10_qFloor 39 = .ok (.goto 4, 3) := dk_dX10_qFloor_21_8.2.2.2.2.1
theorem dX10_qFloor_42 : decode cX10_qFloor 42 = .ok (.iconst 0, 1) := dk_dX10_qFloor_21_8.2.2.2.2.2.1
theorem dX10_qFloor_43 : decode cX10_qFloor 43 = .ok (.if_icmp .eq 10, 3) := dk_dX10_qFloor_21_8.2.2.2.2.2.2.1
theorem dX10_qFloor_46 : decode cX10_qFloor 46 = .ok (.lload 4, 2) := dk_dX10_qFloor_21_8.2.2.2.2.2.2.2.1
theorem dk_dX10_qFloor_48 : dz_C cX10_qFloor [(48, .lconst 1, 1), (49, .lsub, 1), (50, .goto 5, 3), (53, .lload 4, 2), (55, .lreturn, 1)] := dz_of (by decide +kernel)
theorem dX10_qFloor_48 : decode cX10_qFloor 48 = .ok (.lconst 1, 1) := dk_dX10_qFloor_48.1
theorem dX10_qFloor_49 : decode cX10_qFloor 49 = .ok (.lsub, 1) := dk_dX10_qFloor_48.2.1
theorem dX10_qFloor_50 : decode cX10_qFloor 50 = .ok (.goto 5, 3) := dk_dX10_qFloor_48.2.2.1
theorem dX10_qFloor_53 : decode cX10_qFloor 53 = .ok (.lload 4, 2) := dk_dX10_qFloor_48.2.2.2.1
theorem dX10_qFloor_55 : decode cX10_qFloor 55 = .ok (.lreturn, 1) := dk_dX10_qFloor_48.2.2.2.2.1
theorem dk_dX10_qGoesOn_0 : dz_C cX10_qGoesOn [(0, .aload_n 0, 1), (1, .getfield 279, 3), (4, .ifCond .ne 118, 3), (7, .aload_n 0, 1), (8, .invokevirtual 291, 3), (11, .bipush 41, 2), (13, .if_icmp .ne 109, 3), (16, .aload_n 0, 1), (17, .invokevirtual 635, 3), (20, .bipush 20, 2), (22, .if_icmp .eq 21, 3), (25, .aload_n 0, 1), (26, .invokevirtual 635, 3), (29, .bipush 23, 2), (31, .if_icmp .eq 12, 3), (34, .aload_n 0, 1)] := dz_of (by decide +kernel)
theorem dX10_qGoesOn_0 : decode cX10_qGoesOn 0 = .ok (.aload_n 0, 1) := dk_dX10_qGoesOn_0.1
theorem dX10_qGoesOn_1 : decode cX10_qGoesOn 1 = .ok (.getfield 279, 3) := dk_dX10_qGoesOn_0.2.1
theorem dX10_qGoesOn_4 : decode cX10_qGoesOn 4 = .ok (.ifCond .ne 118, 3) := dk_dX10_qGoesOn_0.2.2.1
theorem dX10_qGoesOn_7 : decode cX10_qGoesOn 7 = .ok (.aload_n 0, 1) := dk_dX10_qGoesOn_0.2.2.2.1
theorem dX10_qGoesOn_8 : decode cX10_qGoesOn 8 = .ok (.invokevirtual 291, 3) := dk_dX10_qGoesOn_0.2.2.2.2.1
theorem dX10_qGoesOn_11 : decode cX10_qGoesOn 11 = .ok (.bipush 41, 2) := dk_dX10_qGoesOn_0.2.2.2.2.2.1
theorem dX10_qGoesOn_13 : decode cX10_qGoesOn 13 = .ok (.if_icmp .ne 109, 3) := dk_dX10_qGoesOn_0.2.2.2.2.2.2.1
theorem dX10_qGoesOn_16 : decode cX10_qGoesOn 16 = .ok (.aload_n 0, 1) := dk_dX10_qGoesOn_0.2.2.2.2.2.2.2.1
theorem dk_dX10_qGoesOn_0_8 : dz_C cX10_qGoesOn [(17, .invokevirtual 635, 3), (20, .bipush 20, 2), (22, .if_icmp .eq 21, 3), (25, .aload_n 0, 1), (26, .invokevirtual 635, 3), (29, .bipush 23, 2), (31, .if_icmp .eq 12, 3), (34, .aload_n 0, 1)] := dk_dX10_qGoesOn_0.2.2.2.2.2.2.2.2
theorem dX10_qGoesOn_17 : decode cX10_qGoesOn 17 = .ok (.invokevirtual 635, 3) := dk_dX10_qGoesOn_0_8.1
theorem dX10_qGoesOn_20 : decode cX10_qGoesOn 20 = .ok (.bipush 20, 2) := dk_dX10_qGoesOn_0_8.2.1
theorem dX10_qGoesOn_22 : decode cX10_qGoesOn 22 = .ok (.if_icmp .eq 21, 3) := dk_dX10_qGoesOn_0_8.2.2.1
theorem dX10_qGoesOn_25 : decode cX10_qGoesOn 25 = .ok (.aload_n 0, 1) := dk_dX10_qGoesOn_0_8.2.2.2.1
theorem dX10_qGoesOn_26 : decode cX10_qGoesOn 26 = .ok (.invokevirtual 635, 3) := dk_dX10_qGoesOn_0_8.2.2.2.2.1
theorem dX10_qGoesOn_29 : decode cX10_qGoesOn 29 = .ok (.bipush 23, 2) := dk_dX10_qGoesOn_0_8.2.2.2.2.2.1
theorem dX10_qGoesOn_31 : decode cX10_qGoesOn 31 = .ok (.if_icmp .eq 12, 3) := dk_dX10_qGoesOn_0_8.2.2.2.2.2.2.1
theorem dX10_qGoesOn_34 : decode cX10_qGoesOn 34 = .ok (.aload_n 0, 1) := dk_dX10_qGoesOn_0_8.2.2.2.2.2.2.2.1
theorem dk_dX10_qGoesOn_35 : dz_C cX10_qGoesOn [(35, .invokevirtual 635, 3), (38, .bipush 24, 2), (40, .if_icmp .ne 82, 3), (43, .aload_n 0, 1), (44, .dup, 1), (45, .getfield 285, 3), (48, .iconst 1, 1), (49, .iadd, 1), (50, .putfield 285, 3), (53, .aload_n 0, 1), (54, .invokevirtual 638, 3), (57, .aload_n 0, 1), (58, .dup, 1), (59, .getfield 372, 3), (62, .iconst 1, 1), (63, .isub, 1)] := dz_of (by decide +kernel)
theorem dX10_qGoesOn_35 : decode cX10_qGoesOn 35 = .ok (.invokevirtual 635, 3) := dk_dX10_qGoesOn_35.1
theorem dX10_qGoesOn_38 : decode cX10_qGoesOn 38 = .ok (.bipush 24, 2) := dk_dX10_qGoesOn_35.2.1
theorem dX10_qGoesOn_40 : decode cX10_qGoesOn 40 = .ok (.if_icmp .ne 82, 3) := dk_dX10_qGoesOn_35.2.2.1
theorem dX10_qGoesOn_43 : decode cX10_qGoesOn 43 = .ok (.aload_n 0, 1) := dk_dX10_qGoesOn_35.2.2.2.1
theorem dX10_qGoesOn_44 : decode cX10_qGoesOn 44 = .ok (.dup, 1) := dk_dX10_qGoesOn_35.2.2.2.2.1
theorem dX10_qGoesOn_45 : decode cX10_qGoesOn 45 = .ok (.getfield 285, 3) := dk_dX10_qGoesOn_35.2.2.2.2.2.1
theorem dX10_qGoesOn_48 : decode cX10_qGoesOn 48 = .ok (.iconst 1, 1) := dk_dX10_qGoesOn_35.2.2.2.2.2.2.1
theorem dX10_qGoesOn_49 : decode cX10_qGoesOn 49 = .ok (.iadd, 1) := dk_dX10_qGoesOn_35.2.2.2.2.2.2.2.1
theorem dk_dX10_qGoesOn_35_8 : dz_C cX10_qGoesOn [(50, .putfield 285, 3), (53, .aload_n 0, 1), (54, .invokevirtual 638, 3), (57, .aload_n 0, 1), (58, .dup, 1), (59, .getfield 372, 3), (62, .iconst 1, 1), (63, .isub, 1)] := dk_dX10_qGoesOn_35.2.2.2.2.2.2.2.2
theorem dX10_qGoesOn_50 : decode cX10_qGoesOn 50 = .ok (.putfield 285, 3) := dk_dX10_qGoesOn_35_8.1
theorem dX10_qGoesOn_53 : decode cX10_qGoesOn 53 = .ok (.aload_n 0, 1) := dk_dX10_qGoesOn_35_8.2.1
theorem dX10_qGoesOn_54 : decode cX10_qGoesOn 54 = .ok (.invokevirtual 638, 3) := dk_dX10_qGoesOn_35_8.2.2.1
theorem dX10_qGoesOn_57 : decode cX10_qGoesOn 57 = .ok (.aload_n 0, 1) := dk_dX10_qGoesOn_35_8.2.2.2.1
theorem dX10_qGoesOn_58 : decode cX10_qGoesOn 58 = .ok (.dup, 1) := dk_dX10_qGoesOn_35_8.2.2.2.2.1
theorem dX10_qGoesOn_59 : decode cX10_qGoesOn 59 = .ok (.getfield 372, 3) := dk_dX10_qGoesOn_35_8.2.2.2.2.2.1
theorem dX10_qGoesOn_62 : decode cX10_qGoesOn 62 = .ok (.iconst 1, 1) := dk_dX10_qGoesOn_35_8.2.2.2.2.2.2.1
theorem dX10_qGoesOn_63 : decode cX10_qGoesOn 63 = .ok (.isub, 1) := dk_dX10_qGoesOn_35_8.2.2.2.2.2.2.2.1
theorem dk_dX10_qGoesOn_64 : dz_C cX10_qGoesOn [(64, .putfield 372, 3), (67, .aload_n 0, 1), (68, .dup, 1), (69, .getfield 375, 3), (72, .iconst 1, 1), (73, .isub, 1), (74, .putfield 375, 3), (77, .aload_n 0, 1), (78, .getfield 267, 3), (81, .aload_n 0, 1), (82, .getfield 372, 3), (85, .iaload, 1), (86, .bipush 20, 2), (88, .if_icmp .eq 27, 3), (91, .aload_n 0, 1), (92, .aload_n 0, 1)] := dz_of (by decide +kernel)
theorem dX10_qGoesOn_64 : decode cX10_qGoesOn 64 = .ok (.putfield 372, 3) := dk_dX10_qGoesOn_64.1
theorem dX10_qGoesOn_67 : decode cX10_qGoesOn 67 = .ok (.aload_n 0, 1) := dk_dX10_qGoesOn_64.2.1
theorem dX10_qGoesOn_68 : decode cX10_qGoesOn 68 = .ok (.dup, 1) := dk_dX10_qGoesOn_64.2.2.1
theorem dX10_qGoesOn_69 : decode cX10_qGoesOn 69 = .ok (.getfield 375, 3) := dk_dX10_qGoesOn_64.2.2.2.1
theorem dX10_qGoesOn_72 : decode cX10_qGoesOn 72 = .ok (.iconst 1, 1) := dk_dX10_qGoesOn_64.2.2.2.2.1
theorem dX10_qGoesOn_73 : decode cX10_qGoesOn 73 = .ok (.isub, 1) := dk_dX10_qGoesOn_64.2.2.2.2.2.1
theorem dX10_qGoesOn_74 : decode cX10_qGoesOn 74 = .ok (.putfield 375, 3) := dk_dX10_qGoesOn_64.2.2.2.2.2.2.1
theorem dX10_qGoesOn_77 : decode cX10_qGoesOn 77 = .ok (.aload_n 0, 1) := dk_dX10_qGoesOn_64.2.2.2.2.2.2.2.1
theorem dk_dX10_qGoesOn_64_8 : dz_C cX10_qGoesOn [(78, .getfield 267, 3), (81, .aload_n 0, 1), (82, .getfield 372, 3), (85, .iaload, 1), (86, .bipush 20, 2), (88, .if_icmp .eq 27, 3), (91, .aload_n 0, 1), (92, .aload_n 0, 1)] := dk_dX10_qGoesOn_64.2.2.2.2.2.2.2.2
theorem dX10_qGoesOn_78 : decode cX10_qGoesOn 78 = .ok (.getfield 267, 3) := dk_dX10_qGoesOn_64_8.1
theorem dX10_qGoesOn_81 : decode cX10_qGoesOn 81 = .ok (.aload_n 0, 1) := dk_dX10_qGoesOn_64_8.2.1
theorem dX10_qGoesOn_82 : decode cX10_qGoesOn 82 = .ok (.getfield 372, 3) := dk_dX10_qGoesOn_64_8.2.2.1
theorem dX10_qGoesOn_85 : decode cX10_qGoesOn 85 = .ok (.iaload, 1) := dk_dX10_qGoesOn_64_8.2.2.2.1
theorem dX10_qGoesOn_86 : decode cX10_qGoesOn 86 = .ok (.bipush 20, 2) := dk_dX10_qGoesOn_64_8.2.2.2.2.1
theorem dX10_qGoesOn_88 : decode cX10_qGoesOn 88 = .ok (.if_icmp .eq 27, 3) := dk_dX10_qGoesOn_64_8.2.2.2.2.2.1
theorem dX10_qGoesOn_91 : decode cX10_qGoesOn 91 = .ok (.aload_n 0, 1) := dk_dX10_qGoesOn_64_8.2.2.2.2.2.2.1
theorem dX10_qGoesOn_92 : decode cX10_qGoesOn 92 = .ok (.aload_n 0, 1) := dk_dX10_qGoesOn_64_8.2.2.2.2.2.2.2.1
theorem dk_dX10_qGoesOn_93 : dz_C cX10_qGoesOn [(93, .getfield 267, 3), (96, .aload_n 0, 1), (97, .getfield 372, 3), (100, .iaload, 1), (101, .bipush 23, 2), (103, .if_icmp .ne 7, 3), (106, .iconst 5, 1), (107, .goto 5, 3), (110, .bipush 6, 2), (112, .invokevirtual 608, 3), (115, .aload_n 0, 1), (116, .invokevirtual 632, 3), (119, .goto (-119), 3), (122, .aload_n 0, 1), (123, .bipush 42, 2), (125, .invokevirtual 312, 3)] := dz_of (by decide +kernel)
theorem dX10_qGoesOn_93 : decode cX10_qGoesOn 93 = .ok (.getfield 267, 3) := dk_dX10_qGoesOn_93.1
theorem dX10_qGoesOn_96 : decode cX10_qGoesOn 96 = .ok (.aload_n 0, 1) := dk_dX10_qGoesOn_93.2.1
theorem dX10_qGoesOn_97 : decode cX10_qGoesOn 97 = .ok (.getfield 372, 3) := dk_dX10_qGoesOn_93.2.2.1
theorem dX10_qGoesOn_100 : decode cX10_qGoesOn 100 = .ok (.iaload, 1) := dk_dX10_qGoesOn_93.2.2.2.1
theorem dX10_qGoesOn_101 : decode cX10_qGoesOn 101 = .ok (.bipush 23, 2) := dk_dX10_qGoesOn_93.2.2.2.2.1
theorem dX10_qGoesOn_103 : decode cX10_qGoesOn 103 = .ok (.if_icmp .ne 7, 3) := dk_dX10_qGoesOn_93.2.2.2.2.2.1
theorem dX10_qGoesOn_106 : decode cX10_qGoesOn 106 = .ok (.iconst 5, 1) := dk_dX10_qGoesOn_93.2.2.2.2.2.2.1
theorem dX10_qGoesOn_107 : decode cX10_qGoesOn 107 = .ok (.goto 5, 3) := dk_dX10_qGoesOn_93.2.2.2.2.2.2.2.1
theorem dk_dX10_qGoesOn_93_8 : dz_C cX10_qGoesOn [(110, .bipush 6, 2), (112, .invokevirtual 608, 3), (115, .aload_n 0, 1), (116, .invokevirtual 632, 3), (119, .goto (-119), 3), (122, .aload_n 0, 1), (123, .bipush 42, 2), (125, .invokevirtual 312, 3)] := dk_dX10_qGoesOn_93.2.2.2.2.2.2.2.2
theorem dX10_qGoesOn_110 : decode cX10_qGoesOn 110 = .ok (.bipush 6, 2) := dk_dX10_qGoesOn_93_8.1
theorem dX10_qGoesOn_112 : decode cX10_qGoesOn 112 = .ok (.invokevirtual 608, 3) := dk_dX10_qGoesOn_93_8.2.1
theorem dX10_qGoesOn_115 : decode cX10_qGoesOn 115 = .ok (.aload_n 0, 1) := dk_dX10_qGoesOn_93_8.2.2.1
theorem dX10_qGoesOn_116 : decode cX10_qGoesOn 116 = .ok (.invokevirtual 632, 3) := dk_dX10_qGoesOn_93_8.2.2.2.1
theorem dX10_qGoesOn_119 : decode cX10_qGoesOn 119 = .ok (.goto (-119), 3) := dk_dX10_qGoesOn_93_8.2.2.2.2.1
theorem dX10_qGoesOn_122 : decode cX10_qGoesOn 122 = .ok (.aload_n 0, 1) := dk_dX10_qGoesOn_93_8.2.2.2.2.2.1
theorem dX10_qGoesOn_123 : decode cX10_qGoesOn 123 = .ok (.bipush 42, 2) := dk_dX10_qGoesOn_93_8.2.2.2.2.2.2.1
theorem dX10_qGoesOn_125 : decode cX10_qGoesOn 125 = .ok (.invokevirtual 312, 3) := dk_dX10_qGoesOn_93_8.2.2.2.2.2.2.2.1
theorem dk_dX10_qGoesOn_128 : dz_C cX10_qGoesOn [(128, .ifCond .ne 12, 3), (131, .aload_n 0, 1), (132, .bipush 47, 2), (134, .invokevirtual 312, 3), (137, .ifCond .eq 70, 3), (140, .aload_n 0, 1), (141, .getfield 7, 3), (144, .aload_n 0, 1), (145, .getfield 285, 3), (148, .iconst 1, 1), (149, .isub, 1), (150, .iaload, 1), (151, .bipush 42, 2), (153, .if_icmp .ne 7, 3), (156, .iconst 3, 1), (157, .goto 4, 3)] := dz_of (by decide +kernel)
theorem dX10_qGoesOn_128 : decode cX10_qGoesOn 128 = .ok (.ifCond .ne 12, 3) := dk_dX10_qGoesOn_128.1
theorem dX10_qGoesOn_131 : decode cX10_qGoesOn 131 = .ok (.aload_n 0, 1) := dk_dX10_qGoesOn_128.2.1
theorem dX10_qGoesOn_132 : decode cX10_qGoesOn 132 = .ok (.bipush 47, 2) := dk_dX10_qGoesOn_128.2.2.1
theorem dX10_qGoesOn_134 : decode cX10_qGoesOn 134 = .ok (.invokevirtual 312, 3) := dk_dX10_qGoesOn_128.2.2.2.1
theorem dX10_qGoesOn_137 : decode cX10_qGoesOn 137 = .ok (.ifCond .eq 70, 3) := dk_dX10_qGoesOn_128.2.2.2.2.1
theorem dX10_qGoesOn_140 : decode cX10_qGoesOn 140 = .ok (.aload_n 0, 1) := dk_dX10_qGoesOn_128.2.2.2.2.2.1
theorem dX10_qGoesOn_141 : decode cX10_qGoesOn 141 = .ok (.getfield 7, 3) := dk_dX10_qGoesOn_128.2.2.2.2.2.2.1
theorem dX10_qGoesOn_144 : decode cX10_qGoesOn 144 = .ok (.aload_n 0, 1) := dk_dX10_qGoesOn_128.2.2.2.2.2.2.2.1
theorem dk_dX10_qGoesOn_128_8 : dz_C cX10_qGoesOn [(145, .getfield 285, 3), (148, .iconst 1, 1), (149, .isub, 1), (150, .iaload, 1), (151, .bipush 42, 2), (153, .if_icmp .ne 7, 3), (156, .iconst 3, 1), (157, .goto 4, 3)] := dk_dX10_qGoesOn_128.2.2.2.2.2.2.2.2
theorem dX10_qGoesOn_145 : decode cX10_qGoesOn 145 = .ok (.getfield 285, 3) := dk_dX10_qGoesOn_128_8.1
theorem dX10_qGoesOn_148 : decode cX10_qGoesOn 148 = .ok (.iconst 1, 1) := dk_dX10_qGoesOn_128_8.2.1
theorem dX10_qGoesOn_149 : decode cX10_qGoesOn 149 = .ok (.isub, 1) := dk_dX10_qGoesOn_128_8.2.2.1
theorem dX10_qGoesOn_150 : decode cX10_qGoesOn 150 = .ok (.iaload, 1) := dk_dX10_qGoesOn_128_8.2.2.2.1
theorem dX10_qGoesOn_151 : decode cX10_qGoesOn 151 = .ok (.bipush 42, 2) := dk_dX10_qGoesOn_128_8.2.2.2.2.1
theorem dX10_qGoesOn_153 : decode cX10_qGoesOn 153 = .ok (.if_icmp .ne 7, 3) := dk_dX10_qGoesOn_128_8.2.2.2.2.2.1
theorem dX10_qGoesOn_156 : decode cX10_qGoesOn 156 = .ok (.iconst 3, 1) := dk_dX10_qGoesOn_128_8.2.2.2.2.2.2.1
theorem dX10_qGoesOn_157 : decode cX10_qGoesOn 157 = .ok (.goto 4, 3) := dk_dX10_qGoesOn_128_8.2.2.2.2.2.2.2.1
theorem dk_dX10_qGoesOn_160 : dz_C cX10_qGoesOn [(160, .iconst 4, 1), (161, .istore_n 1, 1), (162, .aload_n 0, 1), (163, .iconst 3, 1), (164, .invokevirtual 641, 3), (167, .ifCond .ne 11, 3), (170, .aload_n 0, 1), (171, .iconst 4, 1), (172, .invokevirtual 641, 3), (175, .ifCond .eq 10, 3), (178, .aload_n 0, 1), (179, .invokevirtual 614, 3), (182, .goto (-20), 3), (185, .aload_n 0, 1), (186, .getfield 267, 3), (189, .aload_n 0, 1)] := dz_of (by decide +kernel)
theorem dX10_qGoesOn_160 : decode cX10_qGoesOn 160 = .ok (.iconst 4, 1) := dk_dX10_qGoesOn_160.1
theorem dX10_qGoesOn_161 : decode cX10_qGoesOn 161 = .ok (.istore_n 1, 1) := dk_dX10_qGoesOn_160.2.1
theorem dX10_qGoesOn_162 : decode cX10_qGoesOn 162 = .ok (.aload_n 0, 1) := dk_dX10_qGoesOn_160.2.2.1
theorem dX10_qGoesOn_163 : decode cX10_qGoesOn 163 = .ok (.iconst 3, 1) := dk_dX10_qGoesOn_160.2.2.2.1
theorem dX10_qGoesOn_164 : decode cX10_qGoesOn 164 = .ok (.invokevirtual 641, 3) := dk_dX10_qGoesOn_160.2.2.2.2.1
theorem dX10_qGoesOn_167 : decode cX10_qGoesOn 167 = .ok (.ifCond .ne 11, 3) := dk_dX10_qGoesOn_160.2.2.2.2.2.1
theorem dX10_qGoesOn_170 : decode cX10_qGoesOn 170 = .ok (.aload_n 0, 1) := dk_dX10_qGoesOn_160.2.2.2.2.2.2.1
theorem dX10_qGoesOn_171 : decode cX10_qGoesOn 171 = .ok (.iconst 4, 1) := dk_dX10_qGoesOn_160.2.2.2.2.2.2.2.1
theorem dk_dX10_qGoesOn_160_8 : dz_C cX10_qGoesOn [(172, .invokevirtual 641, 3), (175, .ifCond .eq 10, 3), (178, .aload_n 0, 1), (179, .invokevirtual 614, 3), (182, .goto (-20), 3), (185, .aload_n 0, 1), (186, .getfield 267, 3), (189, .aload_n 0, 1)] := dk_dX10_qGoesOn_160.2.2.2.2.2.2.2.2
theorem dX10_qGoesOn_172 : decode cX10_qGoesOn 172 = .ok (.invokevirtual 641, 3) := dk_dX10_qGoesOn_160_8.1
theorem dX10_qGoesOn_175 : decode cX10_qGoesOn 175 = .ok (.ifCond .eq 10, 3) := dk_dX10_qGoesOn_160_8.2.1
theorem dX10_qGoesOn_178 : decode cX10_qGoesOn 178 = .ok (.aload_n 0, 1) := dk_dX10_qGoesOn_160_8.2.2.1
theorem dX10_qGoesOn_179 : decode cX10_qGoesOn 179 = .ok (.invokevirtual 614, 3) := dk_dX10_qGoesOn_160_8.2.2.2.1
theorem dX10_qGoesOn_182 : decode cX10_qGoesOn 182 = .ok (.goto (-20), 3) := dk_dX10_qGoesOn_160_8.2.2.2.2.1
theorem dX10_qGoesOn_185 : decode cX10_qGoesOn 185 = .ok (.aload_n 0, 1) := dk_dX10_qGoesOn_160_8.2.2.2.2.2.1
theorem dX10_qGoesOn_186 : decode cX10_qGoesOn 186 = .ok (.getfield 267, 3) := dk_dX10_qGoesOn_160_8.2.2.2.2.2.2.1
theorem dX10_qGoesOn_189 : decode cX10_qGoesOn 189 = .ok (.aload_n 0, 1) := dk_dX10_qGoesOn_160_8.2.2.2.2.2.2.2.1
theorem dk_dX10_qGoesOn_190 : dz_C cX10_qGoesOn [(190, .getfield 372, 3), (193, .iload_n 1, 1), (194, .iastore, 1), (195, .aload_n 0, 1), (196, .dup, 1), (197, .getfield 372, 3), (200, .iconst 1, 1), (201, .iadd, 1), (202, .putfield 372, 3), (205, .iconst 1, 1), (206, .ireturn, 1), (207, .aload_n 0, 1), (208, .bipush 43, 2), (210, .invokevirtual 312, 3), (213, .ifCond .ne 12, 3), (216, .aload_n 0, 1)] := dz_of (by decide +kernel)
theorem dX10_qGoesOn_190 : decode cX10_qGoesOn 190 = .ok (.getfield 372, 3) := dk_dX10_qGoesOn_190.1
theorem dX10_qGoesOn_193 : decode cX10_qGoesOn 193 = .ok (.iload_n 1, 1) := dk_dX10_qGoesOn_190.2.1
theorem dX10_qGoesOn_194 : decode cX10_qGoesOn 194 = .ok (.iastore, 1) := dk_dX10_qGoesOn_190.2.2.1
theorem dX10_qGoesOn_195 : decode cX10_qGoesOn 195 = .ok (.aload_n 0, 1) := dk_dX10_qGoesOn_190.2.2.2.1
theorem dX10_qGoesOn_196 : decode cX10_qGoesOn 196 = .ok (.dup, 1) := dk_dX10_qGoesOn_190.2.2.2.2.1
theorem dX10_qGoesOn_197 : decode cX10_qGoesOn 197 = .ok (.getfield 372, 3) := dk_dX10_qGoesOn_190.2.2.2.2.2.1
theorem dX10_qGoesOn_200 : decode cX10_qGoesOn 200 = .ok (.iconst 1, 1) := dk_dX10_qGoesOn_190.2.2.2.2.2.2.1
theorem dX10_qGoesOn_201 : decode cX10_qGoesOn 201 = .ok (.iadd, 1) := dk_dX10_qGoesOn_190.2.2.2.2.2.2.2.1
theorem dk_dX10_qGoesOn_190_8 : dz_C cX10_qGoesOn [(202, .putfield 372, 3), (205, .iconst 1, 1), (206, .ireturn, 1), (207, .aload_n 0, 1), (208, .bipush 43, 2), (210, .invokevirtual 312, 3), (213, .ifCond .ne 12, 3), (216, .aload_n 0, 1)] := dk_dX10_qGoesOn_190.2.2.2.2.2.2.2.2
theorem dX10_qGoesOn_202 : decode cX10_qGoesOn 202 = .ok (.putfield 372, 3) := dk_dX10_qGoesOn_190_8.1
theorem dX10_qGoesOn_205 : decode cX10_qGoesOn 205 = .ok (.iconst 1, 1) := dk_dX10_qGoesOn_190_8.2.1
theorem dX10_qGoesOn_206 : decode cX10_qGoesOn 206 = .ok (.ireturn, 1) := dk_dX10_qGoesOn_190_8.2.2.1
theorem dX10_qGoesOn_207 : decode cX10_qGoesOn 207 = .ok (.aload_n 0, 1) := dk_dX10_qGoesOn_190_8.2.2.2.1
theorem dX10_qGoesOn_208 : decode cX10_qGoesOn 208 = .ok (.bipush 43, 2) := dk_dX10_qGoesOn_190_8.2.2.2.2.1
theorem dX10_qGoesOn_210 : decode cX10_qGoesOn 210 = .ok (.invokevirtual 312, 3) := dk_dX10_qGoesOn_190_8.2.2.2.2.2.1
theorem dX10_qGoesOn_213 : decode cX10_qGoesOn 213 = .ok (.ifCond .ne 12, 3) := dk_dX10_qGoesOn_190_8.2.2.2.2.2.2.1
theorem dX10_qGoesOn_216 : decode cX10_qGoesOn 216 = .ok (.aload_n 0, 1) := dk_dX10_qGoesOn_190_8.2.2.2.2.2.2.2.1
theorem dk_dX10_qGoesOn_217 : dz_C cX10_qGoesOn [(217, .bipush 45, 2), (219, .invokevirtual 312, 3), (222, .ifCond .eq 86, 3), (225, .aload_n 0, 1), (226, .getfield 7, 3), (229, .aload_n 0, 1), (230, .getfield 285, 3), (233, .iconst 1, 1), (234, .isub, 1), (235, .iaload, 1), (236, .bipush 43, 2), (238, .if_icmp .ne 7, 3), (241, .iconst 1, 1), (242, .goto 4, 3), (245, .iconst 2, 1), (246, .istore_n 1, 1)] := dz_of (by decide +kernel)
theorem dX10_qGoesOn_217 : decode cX10_qGoesOn 217 = .ok (.bipush 45, 2) := dk_dX10_qGoesOn_217.1
theorem dX10_qGoesOn_219 : decode cX10_qGoesOn 219 = .ok (.invokevirtual 312, 3) := dk_dX10_qGoesOn_217.2.1
theorem dX10_qGoesOn_222 : decode cX10_qGoesOn 222 = .ok (.ifCond .eq 86, 3) := dk_dX10_qGoesOn_217.2.2.1
theorem dX10_qGoesOn_225 : decode cX10_qGoesOn 225 = .ok (.aload_n 0, 1) := dk_dX10_qGoesOn_217.2.2.2.1
theorem dX10_qGoesOn_226 : decode cX10_qGoesOn 226 = .ok (.getfield 7, 3) := dk_dX10_qGoesOn_217.2.2.2.2.1
theorem dX10_qGoesOn_229 : decode cX10_qGoesOn 229 = .ok (.aload_n 0, 1) := dk_dX10_qGoesOn_217.2.2.2.2.2.1
theorem dX10_qGoesOn_230 : decode cX10_qGoesOn 230 = .ok (.getfield 285, 3) := dk_dX10_qGoesOn_217.2.2.2.2.2.2.1
theorem dX10_qGoesOn_233 : decode cX10_qGoesOn 233 = .ok (.iconst 1, 1) := dk_dX10_qGoesOn_217.2.2.2.2.2.2.2.1
theorem dk_dX10_qGoesOn_217_8 : dz_C cX10_qGoesOn [(234, .isub, 1), (235, .iaload, 1), (236, .bipush 43, 2), (238, .if_icmp .ne 7, 3), (241, .iconst 1, 1), (242, .goto 4, 3), (245, .iconst 2, 1), (246, .istore_n 1, 1)] := dk_dX10_qGoesOn_217.2.2.2.2.2.2.2.2
theorem dX10_qGoesOn_234 : decode cX10_qGoesOn 234 = .ok (.isub, 1) := dk_dX10_qGoesOn_217_8.1
theorem dX10_qGoesOn_235 : decode cX10_qGoesOn 235 = .ok (.iaload, 1) := dk_dX10_qGoesOn_217_8.2.1
theorem dX10_qGoesOn_236 : decode cX10_qGoesOn 236 = .ok (.bipush 43, 2) := dk_dX10_qGoesOn_217_8.2.2.1
theorem dX10_qGoesOn_238 : decode cX10_qGoesOn 238 = .ok (.if_icmp .ne 7, 3) := dk_dX10_qGoesOn_217_8.2.2.2.1
theorem dX10_qGoesOn_241 : decode cX10_qGoesOn 241 = .ok (.iconst 1, 1) := dk_dX10_qGoesOn_217_8.2.2.2.2.1
theorem dX10_qGoesOn_242 : decode cX10_qGoesOn 242 = .ok (.goto 4, 3) := dk_dX10_qGoesOn_217_8.2.2.2.2.2.1
theorem dX10_qGoesOn_245 : decode cX10_qGoesOn 245 = .ok (.iconst 2, 1) := dk_dX10_qGoesOn_217_8.2.2.2.2.2.2.1
theorem dX10_qGoesOn_246 : decode cX10_qGoesOn 246 = .ok (.istore_n 1, 1) := dk_dX10_qGoesOn_217_8.2.2.2.2.2.2.2.1
theorem dk_dX10_qGoesOn_247 : dz_C cX10_qGoesOn [(247, .aload_n 0, 1), (248, .iconst 3, 1), (249, .invokevirtual 641, 3), (252, .ifCond .ne 27, 3), (255, .aload_n 0, 1), (256, .iconst 4, 1), (257, .invokevirtual 641, 3), (260, .ifCond .ne 19, 3), (263, .aload_n 0, 1), (264, .iconst 1, 1), (265, .invokevirtual 641, 3), (268, .ifCond .ne 11, 3), (271, .aload_n 0, 1), (272, .iconst 2, 1), (273, .invokevirtual 641, 3), (276, .ifCond .eq 10, 3)] := dz_of (by decide +kernel)
theorem dX10_qGoesOn_247 : decode cX10_qGoesOn 247 = .ok (.aload_n 0, 1) := dk_dX10_qGoesOn_247.1
theorem dX10_qGoesOn_248 : decode cX10_qGoesOn 248 = .ok (.iconst 3, 1) := dk_dX10_qGoesOn_247.2.1
theorem dX10_qGoesOn_249 : decode cX10_qGoesOn 249 = .ok (.invokevirtual 641, 3) := dk_dX10_qGoesOn_247.2.2.1
theorem dX10_qGoesOn_252 : decode cX10_qGoesOn 252 = .ok (.ifCond .ne 27, 3) := dk_dX10_qGoesOn_247.2.2.2.1
theorem dX10_qGoesOn_255 : decode cX10_qGoesOn 255 = .ok (.aload_n 0, 1) := dk_dX10_qGoesOn_247.2.2.2.2.1
theorem dX10_qGoesOn_256 : decode cX10_qGoesOn 256 = .ok (.iconst 4, 1) := dk_dX10_qGoesOn_247.2.2.2.2.2.1
theorem dX10_qGoesOn_257 : decode cX10_qGoesOn 257 = .ok (.invokevirtual 641, 3) := dk_dX10_qGoesOn_247.2.2.2.2.2.2.1
theorem dX10_qGoesOn_260 : decode cX10_qGoesOn 260 = .ok (.ifCond .ne 19, 3) := dk_dX10_qGoesOn_247.2.2.2.2.2.2.2.1
theorem dk_dX10_qGoesOn_247_8 : dz_C cX10_qGoesOn [(263, .aload_n 0, 1), (264, .iconst 1, 1), (265, .invokevirtual 641, 3), (268, .ifCond .ne 11, 3), (271, .aload_n 0, 1), (272, .iconst 2, 1), (273, .invokevirtual 641, 3), (276, .ifCond .eq 10, 3)] := dk_dX10_qGoesOn_247.2.2.2.2.2.2.2.2
theorem dX10_qGoesOn_263 : decode cX10_qGoesOn 263 = .ok (.aload_n 0, 1) := dk_dX10_qGoesOn_247_8.1
theorem dX10_qGoesOn_264 : decode cX10_qGoesOn 264 = .ok (.iconst 1, 1) := dk_dX10_qGoesOn_247_8.2.1
theorem dX10_qGoesOn_265 : decode cX10_qGoesOn 265 = .ok (.invokevirtual 641, 3) := dk_dX10_qGoesOn_247_8.2.2.1
theorem dX10_qGoesOn_268 : decode cX10_qGoesOn 268 = .ok (.ifCond .ne 11, 3) := dk_dX10_qGoesOn_247_8.2.2.2.1
theorem dX10_qGoesOn_271 : decode cX10_qGoesOn 271 = .ok (.aload_n 0, 1) := dk_dX10_qGoesOn_247_8.2.2.2.2.1
theorem dX10_qGoesOn_272 : decode cX10_qGoesOn 272 = .ok (.iconst 2, 1) := dk_dX10_qGoesOn_247_8.2.2.2.2.2.1
theorem dX10_qGoesOn_273 : decode cX10_qGoesOn 273 = .ok (.invokevirtual 641, 3) := dk_dX10_qGoesOn_247_8.2.2.2.2.2.2.1
theorem dX10_qGoesOn_276 : decode cX10_qGoesOn 276 = .ok (.ifCond .eq 10, 3) := dk_dX10_qGoesOn_247_8.2.2.2.2.2.2.2.1
theorem dk_dX10_qGoesOn_279 : dz_C cX10_qGoesOn [(279, .aload_n 0, 1), (280, .invokevirtual 614, 3), (283, .goto (-36), 3), (286, .aload_n 0, 1), (287, .getfield 267, 3), (290, .aload_n 0, 1), (291, .getfield 372, 3), (294, .iload_n 1, 1), (295, .iastore, 1), (296, .aload_n 0, 1), (297, .dup, 1), (298, .getfield 372, 3), (301, .iconst 1, 1), (302, .iadd, 1), (303, .putfield 372, 3), (306, .iconst 1, 1)] := dz_of (by decide +kernel)
theorem dX10_qGoesOn_279 : decode cX10_qGoesOn 279 = .ok (.aload_n 0, 1) := dk_dX10_qGoesOn_279.1
theorem dX10_qGoesOn_280 : decode cX10_qGoesOn 280 = .ok (.invokevirtual 614, 3) := dk_dX10_qGoesOn_279.2.1
theorem dX10_qGoesOn_283 : decode cX10_qGoesOn 283 = .ok (.goto (-36), 3) := dk_dX10_qGoesOn_279.2.2.1
theorem dX10_qGoesOn_286 : decode cX10_qGoesOn 286 = .ok (.aload_n 0, 1) := dk_dX10_qGoesOn_279.2.2.2.1
theorem dX10_qGoesOn_287 : decode cX10_qGoesOn 287 = .ok (.getfield 267, 3) := dk_dX10_qGoesOn_279.2.2.2.2.1
theorem dX10_qGoesOn_290 : decode cX10_qGoesOn 290 = .ok (.aload_n 0, 1) := dk_dX10_qGoesOn_279.2.2.2.2.2.1
theorem dX10_qGoesOn_291 : decode cX10_qGoesOn 291 = .ok (.getfield 372, 3) := dk_dX10_qGoesOn_279.2.2.2.2.2.2.1
theorem dX10_qGoesOn_294 : decode cX10_qGoesOn 294 = .ok (.iload_n 1, 1) := dk_dX10_qGoesOn_279.2.2.2.2.2.2.2.1
theorem dk_dX10_qGoesOn_279_8 : dz_C cX10_qGoesOn [(295, .iastore, 1), (296, .aload_n 0, 1), (297, .dup, 1), (298, .getfield 372, 3), (301, .iconst 1, 1), (302, .iadd, 1), (303, .putfield 372, 3), (306, .iconst 1, 1)] := dk_dX10_qGoesOn_279.2.2.2.2.2.2.2.2
theorem dX10_qGoesOn_295 : decode cX10_qGoesOn 295 = .ok (.iastore, 1) := dk_dX10_qGoesOn_279_8.1
theorem dX10_qGoesOn_296 : decode cX10_qGoesOn 296 = .ok (.aload_n 0, 1) := dk_dX10_qGoesOn_279_8.2.1
theorem dX10_qGoesOn_297 : decode cX10_qGoesOn 297 = .ok (.dup, 1) := dk_dX10_qGoesOn_279_8.2.2.1
theorem dX10_qGoesOn_298 : decode cX10_qGoesOn 298 = .ok (.getfield 372, 3) := dk_dX10_qGoesOn_279_8.2.2.2.1
theorem dX10_qGoesOn_301 : decode cX10_qGoesOn 301 = .ok (.iconst 1, 1) := dk_dX10_qGoesOn_279_8.2.2.2.2.1
theorem dX10_qGoesOn_302 : decode cX10_qGoesOn 302 = .ok (.iadd, 1) := dk_dX10_qGoesOn_279_8.2.2.2.2.2.1
theorem dX10_qGoesOn_303 : decode cX10_qGoesOn 303 = .ok (.putfield 372, 3) := dk_dX10_qGoesOn_279_8.2.2.2.2.2.2.1
theorem dX10_qGoesOn_306 : decode cX10_qGoesOn 306 = .ok (.iconst 1, 1) := dk_dX10_qGoesOn_279_8.2.2.2.2.2.2.2.1
theorem dk_dX10_qGoesOn_307 : dz_C cX10_qGoesOn [(307, .ireturn, 1), (308, .aload_n 0, 1), (309, .invokevirtual 635, 3), (312, .bipush 21, 2), (314, .if_icmp .eq 12, 3), (317, .aload_n 0, 1), (318, .invokevirtual 635, 3), (321, .bipush 22, 2), (323, .if_icmp .ne 39, 3), (326, .aload_n 0, 1), (327, .bipush 44, 2), (329, .invokevirtual 358, 3), (332, .aload_n 0, 1), (333, .getfield 279, 3), (336, .ifCond .eq 5, 3), (339, .iconst 0, 1)] := dz_of (by decide +kernel)
theorem dX10_qGoesOn_307 : decode cX10_qGoesOn 307 = .ok (.ireturn, 1) := dk_dX10_qGoesOn_307.1
theorem dX10_qGoesOn_308 : decode cX10_qGoesOn 308 = .ok (.aload_n 0, 1) := dk_dX10_qGoesOn_307.2.1
theorem dX10_qGoesOn_309 : decode cX10_qGoesOn 309 = .ok (.invokevirtual 635, 3) := dk_dX10_qGoesOn_307.2.2.1
theorem dX10_qGoesOn_312 : decode cX10_qGoesOn 312 = .ok (.bipush 21, 2) := dk_dX10_qGoesOn_307.2.2.2.1
theorem dX10_qGoesOn_314 : decode cX10_qGoesOn 314 = .ok (.if_icmp .eq 12, 3) := dk_dX10_qGoesOn_307.2.2.2.2.1
theorem dX10_qGoesOn_317 : decode cX10_qGoesOn 317 = .ok (.aload_n 0, 1) := dk_dX10_qGoesOn_307.2.2.2.2.2.1
theorem dX10_qGoesOn_318 : decode cX10_qGoesOn 318 = .ok (.invokevirtual 635, 3) := dk_dX10_qGoesOn_307.2.2.2.2.2.2.1
theorem dX10_qGoesOn_321 : decode cX10_qGoesOn 321 = .ok (.bipush 22, 2) := dk_dX10_qGoesOn_307.2.2.2.2.2.2.2.1
theorem dk_dX10_qGoesOn_307_8 : dz_C cX10_qGoesOn [(323, .if_icmp .ne 39, 3), (326, .aload_n 0, 1), (327, .bipush 44, 2), (329, .invokevirtual 358, 3), (332, .aload_n 0, 1), (333, .getfield 279, 3), (336, .ifCond .eq 5, 3), (339, .iconst 0, 1)] := dk_dX10_qGoesOn_307.2.2.2.2.2.2.2.2
theorem dX10_qGoesOn_323 : decode cX10_qGoesOn 323 = .ok (.if_icmp .ne 39, 3) := dk_dX10_qGoesOn_307_8.1
theorem dX10_qGoesOn_326 : decode cX10_qGoesOn 326 = .ok (.aload_n 0, 1) := dk_dX10_qGoesOn_307_8.2.1
theorem dX10_qGoesOn_327 : decode cX10_qGoesOn 327 = .ok (.bipush 44, 2) := dk_dX10_qGoesOn_307_8.2.2.1
theorem dX10_qGoesOn_329 : decode cX10_qGoesOn 329 = .ok (.invokevirtual 358, 3) := dk_dX10_qGoesOn_307_8.2.2.2.1
theorem dX10_qGoesOn_332 : decode cX10_qGoesOn 332 = .ok (.aload_n 0, 1) := dk_dX10_qGoesOn_307_8.2.2.2.2.1
theorem dX10_qGoesOn_333 : decode cX10_qGoesOn 333 = .ok (.getfield 279, 3) := dk_dX10_qGoesOn_307_8.2.2.2.2.2.1
theorem dX10_qGoesOn_336 : decode cX10_qGoesOn 336 = .ok (.ifCond .eq 5, 3) := dk_dX10_qGoesOn_307_8.2.2.2.2.2.2.1
theorem dX10_qGoesOn_339 : decode cX10_qGoesOn 339 = .ok (.iconst 0, 1) := dk_dX10_qGoesOn_307_8.2.2.2.2.2.2.2.1
theorem dk_dX10_qGoesOn_340 : dz_C cX10_qGoesOn [(340, .ireturn, 1), (341, .aload_n 0, 1), (342, .invokevirtual 638, 3), (345, .aload_n 0, 1), (346, .getfield 267, 3), (349, .aload_n 0, 1), (350, .getfield 372, 3), (353, .iconst 1, 1), (354, .isub, 1), (355, .dup2, 1), (356, .iaload, 1), (357, .iconst 2, 1), (358, .iadd, 1), (359, .iastore, 1), (360, .iconst 1, 1), (361, .ireturn, 1)] := dz_of (by decide +kernel)
theorem dX10_qGoesOn_340 : decode cX10_qGoesOn 340 = .ok (.ireturn, 1) := dk_dX10_qGoesOn_340.1
theorem dX10_qGoesOn_341 : decode cX10_qGoesOn 341 = .ok (.aload_n 0, 1) := dk_dX10_qGoesOn_340.2.1
theorem dX10_qGoesOn_342 : decode cX10_qGoesOn 342 = .ok (.invokevirtual 638, 3) := dk_dX10_qGoesOn_340.2.2.1
theorem dX10_qGoesOn_345 : decode cX10_qGoesOn 345 = .ok (.aload_n 0, 1) := dk_dX10_qGoesOn_340.2.2.2.1
theorem dX10_qGoesOn_346 : decode cX10_qGoesOn 346 = .ok (.getfield 267, 3) := dk_dX10_qGoesOn_340.2.2.2.2.1
theorem dX10_qGoesOn_349 : decode cX10_qGoesOn 349 = .ok (.aload_n 0, 1) := dk_dX10_qGoesOn_340.2.2.2.2.2.1
theorem dX10_qGoesOn_350 : decode cX10_qGoesOn 350 = .ok (.getfield 372, 3) := dk_dX10_qGoesOn_340.2.2.2.2.2.2.1
theorem dX10_qGoesOn_353 : decode cX10_qGoesOn 353 = .ok (.iconst 1, 1) := dk_dX10_qGoesOn_340.2.2.2.2.2.2.2.1
theorem dk_dX10_qGoesOn_340_8 : dz_C cX10_qGoesOn [(354, .isub, 1), (355, .dup2, 1), (356, .iaload, 1), (357, .iconst 2, 1), (358, .iadd, 1), (359, .iastore, 1), (360, .iconst 1, 1), (361, .ireturn, 1)] := dk_dX10_qGoesOn_340.2.2.2.2.2.2.2.2
theorem dX10_qGoesOn_354 : decode cX10_qGoesOn 354 = .ok (.isub, 1) := dk_dX10_qGoesOn_340_8.1
theorem dX10_qGoesOn_355 : decode cX10_qGoesOn 355 = .ok (.dup2, 1) := dk_dX10_qGoesOn_340_8.2.1
theorem dX10_qGoesOn_356 : decode cX10_qGoesOn 356 = .ok (.iaload, 1) := dk_dX10_qGoesOn_340_8.2.2.1
theorem dX10_qGoesOn_357 : decode cX10_qGoesOn 357 = .ok (.iconst 2, 1) := dk_dX10_qGoesOn_340_8.2.2.2.1
theorem dX10_qGoesOn_358 : decode cX10_qGoesOn 358 = .ok (.iadd, 1) := dk_dX10_qGoesOn_340_8.2.2.2.2.1
theorem dX10_qGoesOn_359 : decode cX10_qGoesOn 359 = .ok (.iastore, 1) := dk_dX10_qGoesOn_340_8.2.2.2.2.2.1
theorem dX10_qGoesOn_360 : decode cX10_qGoesOn 360 = .ok (.iconst 1, 1) := dk_dX10_qGoesOn_340_8.2.2.2.2.2.2.1
theorem dX10_qGoesOn_361 : decode cX10_qGoesOn 361 = .ok (.ireturn, 1) := dk_dX10_qGoesOn_340_8.2.2.2.2.2.2.2.1
theorem dk_dX10_qGoesOn_362 : dz_C cX10_qGoesOn [(362, .aload_n 0, 1), (363, .invokevirtual 635, 3), (366, .iconst (-1), 1), (367, .if_icmp .eq 19, 3), (370, .aload_n 0, 1), (371, .getfield 279, 3), (374, .ifCond .ne 12, 3), (377, .aload_n 0, 1), (378, .iconst 1, 1), (379, .aload_n 0, 1), (380, .getfield 285, 3), (383, .invokevirtual 308, 3), (386, .iconst 0, 1), (387, .ireturn, 1)] := dz_of (by decide +kernel)
theorem dX10_qGoesOn_362 : decode cX10_qGoesOn 362 = .ok (.aload_n 0, 1) := dk_dX10_qGoesOn_362.1
theorem dX10_qGoesOn_363 : decode cX10_qGoesOn 363 = .ok (.invokevirtual 635, 3) := dk_dX10_qGoesOn_362.2.1
theorem dX10_qGoesOn_366 : decode cX10_qGoesOn 366 = .ok (.iconst (-1), 1) := dk_dX10_qGoesOn_362.2.2.1
theorem dX10_qGoesOn_367 : decode cX10_qGoesOn 367 = .ok (.if_icmp .eq 19, 3) := dk_dX10_qGoesOn_362.2.2.2.1
theorem dX10_qGoesOn_370 : decode cX10_qGoesOn 370 = .ok (.aload_n 0, 1) := dk_dX10_qGoesOn_362.2.2.2.2.1
theorem dX10_qGoesOn_371 : decode cX10_qGoesOn 371 = .ok (.getfield 279, 3) := dk_dX10_qGoesOn_362.2.2.2.2.2.1
theorem dX10_qGoesOn_374 : decode cX10_qGoesOn 374 = .ok (.ifCond .ne 12, 3) := dk_dX10_qGoesOn_362.2.2.2.2.2.2.1
theorem dX10_qGoesOn_377 : decode cX10_qGoesOn 377 = .ok (.aload_n 0, 1) := dk_dX10_qGoesOn_362.2.2.2.2.2.2.2.1
theorem dk_dX10_qGoesOn_362_8 : dz_C cX10_qGoesOn [(378, .iconst 1, 1), (379, .aload_n 0, 1), (380, .getfield 285, 3), (383, .invokevirtual 308, 3), (386, .iconst 0, 1), (387, .ireturn, 1)] := dk_dX10_qGoesOn_362.2.2.2.2.2.2.2.2
theorem dX10_qGoesOn_378 : decode cX10_qGoesOn 378 = .ok (.iconst 1, 1) := dk_dX10_qGoesOn_362_8.1
theorem dX10_qGoesOn_379 : decode cX10_qGoesOn 379 = .ok (.aload_n 0, 1) := dk_dX10_qGoesOn_362_8.2.1
theorem dX10_qGoesOn_380 : decode cX10_qGoesOn 380 = .ok (.getfield 285, 3) := dk_dX10_qGoesOn_362_8.2.2.1
theorem dX10_qGoesOn_383 : decode cX10_qGoesOn 383 = .ok (.invokevirtual 308, 3) := dk_dX10_qGoesOn_362_8.2.2.2.1
theorem dX10_qGoesOn_386 : decode cX10_qGoesOn 386 = .ok (.iconst 0, 1) := dk_dX10_qGoesOn_362_8.2.2.2.2.1
theorem dX10_qGoesOn_387 : decode cX10_qGoesOn 387 = .ok (.ireturn, 1) := dk_dX10_qGoesOn_362_8.2.2.2.2.2.1
theorem dk_dX10_qGoesOnTest_0 : dz_C cX10_qGoesOnTest [(0, .aload_n 0, 1), (1, .getfield 279, 3), (4, .ifCond .ne 72, 3), (7, .aload_n 0, 1), (8, .invokevirtual 291, 3), (11, .bipush 93, 2), (13, .if_icmp .ne 63, 3), (16, .aload_n 0, 1), (17, .invokevirtual 659, 3), (20, .ifCond .eq 56, 3), (23, .aload_n 0, 1), (24, .dup, 1), (25, .getfield 285, 3), (28, .iconst 1, 1), (29, .iadd, 1), (30, .putfield 285, 3)] := dz_of (by decide +kernel)
theorem dX10_qGoesOnTest_0 : decode cX10_qGoesOnTest 0 = .ok (.aload_n 0, 1) := dk_dX10_qGoesOnTest_0.1
theorem dX10_qGoesOnTest_1 : decode cX10_qGoesOnTest 1 = .ok (.getfield 279, 3) := dk_dX10_qGoesOnTest_0.2.1
theorem dX10_qGoesOnTest_4 : decode cX10_qGoesOnTest 4 = .ok (.ifCond .ne 72, 3) := dk_dX10_qGoesOnTest_0.2.2.1
theorem dX10_qGoesOnTest_7 : decode cX10_qGoesOnTest 7 = .ok (.aload_n 0, 1) := dk_dX10_qGoesOnTest_0.2.2.2.1
theorem dX10_qGoesOnTest_8 : decode cX10_qGoesOnTest 8 = .ok (.invokevirtual 291, 3) := dk_dX10_qGoesOnTest_0.2.2.2.2.1
theorem dX10_qGoesOnTest_11 : decode cX10_qGoesOnTest 11 = .ok (.bipush 93, 2) := dk_dX10_qGoesOnTest_0.2.2.2.2.2.1
theorem dX10_qGoesOnTest_13 : decode cX10_qGoesOnTest 13 = .ok (.if_icmp .ne 63, 3) := dk_dX10_qGoesOnTest_0.2.2.2.2.2.2.1
theorem dX10_qGoesOnTest_16 : decode cX10_qGoesOnTest 16 = .ok (.aload_n 0, 1) := dk_dX10_qGoesOnTest_0.2.2.2.2.2.2.2.1
theorem dk_dX10_qGoesOnTest_0_8 : dz_C cX10_qGoesOnTest [(17, .invokevirtual 659, 3), (20, .ifCond .eq 56, 3), (23, .aload_n 0, 1), (24, .dup, 1), (25, .getfield 285, 3), (28, .iconst 1, 1), (29, .iadd, 1), (30, .putfield 285, 3)] := dk_dX10_qGoesOnTest_0.2.2.2.2.2.2.2.2
theorem dX10_qGoesOnTest_17 : decode cX10_qGoesOnTest 17 = .ok (.invokevirtual 659, 3) := dk_dX10_qGoesOnTest_0_8.1
theorem dX10_qGoesOnTest_20 : decode cX10_qGoesOnTest 20 = .ok (.ifCond .eq 56, 3) := dk_dX10_qGoesOnTest_0_8.2.1
theorem dX10_qGoesOnTest_23 : decode cX10_qGoesOnTest 23 = .ok (.aload_n 0, 1) := dk_dX10_qGoesOnTest_0_8.2.2.1
theorem dX10_qGoesOnTest_24 : decode cX10_qGoesOnTest 24 = .ok (.dup, 1) := dk_dX10_qGoesOnTest_0_8.2.2.2.1
theorem dX10_qGoesOnTest_25 : decode cX10_qGoesOnTest 25 = .ok (.getfield 285, 3) := dk_dX10_qGoesOnTest_0_8.2.2.2.2.1
theorem dX10_qGoesOnTest_28 : decode cX10_qGoesOnTest 28 = .ok (.iconst 1, 1) := dk_dX10_qGoesOnTest_0_8.2.2.2.2.2.1
theorem dX10_qGoesOnTest_29 : decode cX10_qGoesOnTest 29 = .ok (.iadd, 1) := dk_dX10_qGoesOnTest_0_8.2.2.2.2.2.2.1
theorem dX10_qGoesOnTest_30 : decode cX10_qGoesOnTest 30 = .ok (.putfield 285, 3) := dk_dX10_qGoesOnTest_0_8.2.2.2.2.2.2.2.1
theorem dk_dX10_qGoesOnTest_33 : dz_C cX10_qGoesOnTest [(33, .aload_n 0, 1), (34, .bipush 25, 2), (36, .invokevirtual 641, 3), (39, .ifCond .ne 10, 3), (42, .aload_n 0, 1), (43, .invokevirtual 614, 3), (46, .goto (-13), 3), (49, .aload_n 0, 1), (50, .dup, 1), (51, .getfield 372, 3), (54, .iconst 1, 1), (55, .isub, 1), (56, .putfield 372, 3), (59, .aload_n 0, 1), (60, .dup, 1), (61, .getfield 375, 3)] := dz_of (by decide +kernel)
theorem dX10_qGoesOnTest_33 : decode cX10_qGoesOnTest 33 = .ok (.aload_n 0, 1) := dk_dX10_qGoesOnTest_33.1
theorem dX10_qGoesOnTest_34 : decode cX10_qGoesOnTest 34 = .ok (.bipush 25, 2) := dk_dX10_qGoesOnTest_33.2.1
theorem dX10_qGoesOnTest_36 : decode cX10_qGoesOnTest 36 = .ok (.invokevirtual 641, 3) := dk_dX10_qGoesOnTest_33.2.2.1
theorem dX10_qGoesOnTest_39 : decode cX10_qGoesOnTest 39 = .ok (.ifCond .ne 10, 3) := dk_dX10_qGoesOnTest_33.2.2.2.1
theorem dX10_qGoesOnTest_42 : decode cX10_qGoesOnTest 42 = .ok (.aload_n 0, 1) := dk_dX10_qGoesOnTest_33.2.2.2.2.1
theorem dX10_qGoesOnTest_43 : decode cX10_qGoesOnTest 43 = .ok (.invokevirtual 614, 3) := dk_dX10_qGoesOnTest_33.2.2.2.2.2.1
theorem dX10_qGoesOnTest_46 : decode cX10_qGoesOnTest 46 = .ok (.goto (-13), 3) := dk_dX10_qGoesOnTest_33.2.2.2.2.2.2.1
theorem dX10_qGoesOnTest_49 : decode cX10_qGoesOnTest 49 = .ok (.aload_n 0, 1) := dk_dX10_qGoesOnTest_33.2.2.2.2.2.2.2.1
theorem dk_dX10_qGoesOnTest_33_8 : dz_C cX10_qGoesOnTest [(50, .dup, 1), (51, .getfield 372, 3), (54, .iconst 1, 1), (55, .isub, 1), (56, .putfield 372, 3), (59, .aload_n 0, 1), (60, .dup, 1), (61, .getfield 375, 3)] := dk_dX10_qGoesOnTest_33.2.2.2.2.2.2.2.2
theorem dX10_qGoesOnTest_50 : decode cX10_qGoesOnTest 50 = .ok (.dup, 1) := dk_dX10_qGoesOnTest_33_8.1
theorem dX10_qGoesOnTest_51 : decode cX10_qGoesOnTest 51 = .ok (.getfield 372, 3) := dk_dX10_qGoesOnTest_33_8.2.1
theorem dX10_qGoesOnTest_54 : decode cX10_qGoesOnTest 54 = .ok (.iconst 1, 1) := dk_dX10_qGoesOnTest_33_8.2.2.1
theorem dX10_qGoesOnTest_55 : decode cX10_qGoesOnTest 55 = .ok (.isub, 1) := dk_dX10_qGoesOnTest_33_8.2.2.2.1
theorem dX10_qGoesOnTest_56 : decode cX10_qGoesOnTest 56 = .ok (.putfield 372, 3) := dk_dX10_qGoesOnTest_33_8.2.2.2.2.1
theorem dX10_qGoesOnTest_59 : decode cX10_qGoesOnTest 59 = .ok (.aload_n 0, 1) := dk_dX10_qGoesOnTest_33_8.2.2.2.2.2.1
theorem dX10_qGoesOnTest_60 : decode cX10_qGoesOnTest 60 = .ok (.dup, 1) := dk_dX10_qGoesOnTest_33_8.2.2.2.2.2.2.1
theorem dX10_qGoesOnTest_61 : decode cX10_qGoesOnTest 61 = .ok (.getfield 375, 3) := dk_dX10_qGoesOnTest_33_8.2.2.2.2.2.2.2.1
theorem dk_dX10_qGoesOnTest_64 : dz_C cX10_qGoesOnTest [(64, .iconst 1, 1), (65, .isub, 1), (66, .putfield 375, 3), (69, .aload_n 0, 1), (70, .invokevirtual 653, 3), (73, .goto (-73), 3), (76, .aload_n 0, 1), (77, .aload_n 0, 1), (78, .getfield 210, 3), (81, .invokevirtual 305, 3), (84, .ifCond .eq 42, 3), (87, .aload_n 0, 1), (88, .bipush 10, 2), (90, .invokevirtual 641, 3), (93, .ifCond .eq 10, 3), (96, .aload_n 0, 1)] := dz_of (by decide +kernel)
theorem dX10_qGoesOnTest_64 : decode cX10_qGoesOnTest 64 = .ok (.iconst 1, 1) := dk_dX10_qGoesOnTest_64.1
theorem dX10_qGoesOnTest_65 : decode cX10_qGoesOnTest 65 = .ok (.isub, 1) := dk_dX10_qGoesOnTest_64.2.1
theorem dX10_qGoesOnTest_66 : decode cX10_qGoesOnTest 66 = .ok (.putfield 375, 3) := dk_dX10_qGoesOnTest_64.2.2.1
theorem dX10_qGoesOnTest_69 : decode cX10_qGoesOnTest 69 = .ok (.aload_n 0, 1) := dk_dX10_qGoesOnTest_64.2.2.2.1
theorem dX10_qGoesOnTest_70 : decode cX10_qGoesOnTest 70 = .ok (.invokevirtual 653, 3) := dk_dX10_qGoesOnTest_64.2.2.2.2.1
theorem dX10_qGoesOnTest_73 : decode cX10_qGoesOnTest 73 = .ok (.goto (-73), 3) := dk_dX10_qGoesOnTest_64.2.2.2.2.2.1
theorem dX10_qGoesOnTest_76 : decode cX10_qGoesOnTest 76 = .ok (.aload_n 0, 1) := dk_dX10_qGoesOnTest_64.2.2.2.2.2.2.1
theorem dX10_qGoesOnTest_77 : decode cX10_qGoesOnTest 77 = .ok (.aload_n 0, 1) := dk_dX10_qGoesOnTest_64.2.2.2.2.2.2.2.1
theorem dk_dX10_qGoesOnTest_64_8 : dz_C cX10_qGoesOnTest [(78, .getfield 210, 3), (81, .invokevirtual 305, 3), (84, .ifCond .eq 42, 3), (87, .aload_n 0, 1), (88, .bipush 10, 2), (90, .invokevirtual 641, 3), (93, .ifCond .eq 10, 3), (96, .aload_n 0, 1)] := dk_dX10_qGoesOnTest_64.2.2.2.2.2.2.2.2
theorem dX10_qGoesOnTest_78 : decode cX10_qGoesOnTest 78 = .ok (.getfield 210, 3) := dk_dX10_qGoesOnTest_64_8.1
theorem dX10_qGoesOnTest_81 : decode cX10_qGoesOnTest 81 = .ok (.invokevirtual 305, 3) := dk_dX10_qGoesOnTest_64_8.2.1
theorem dX10_qGoesOnTest_84 : decode cX10_qGoesOnTest 84 = .ok (.ifCond .eq 42, 3) := dk_dX10_qGoesOnTest_64_8.2.2.1
theorem dX10_qGoesOnTest_87 : decode cX10_qGoesOnTest 87 = .ok (.aload_n 0, 1) := dk_dX10_qGoesOnTest_64_8.2.2.2.1
theorem dX10_qGoesOnTest_88 : decode cX10_qGoesOnTest 88 = .ok (.bipush 10, 2) := dk_dX10_qGoesOnTest_64_8.2.2.2.2.1
theorem dX10_qGoesOnTest_90 : decode cX10_qGoesOnTest 90 = .ok (.invokevirtual 641, 3) := dk_dX10_qGoesOnTest_64_8.2.2.2.2.2.1
theorem dX10_qGoesOnTest_93 : decode cX10_qGoesOnTest 93 = .ok (.ifCond .eq 10, 3) := dk_dX10_qGoesOnTest_64_8.2.2.2.2.2.2.1
theorem dX10_qGoesOnTest_96 : decode cX10_qGoesOnTest 96 = .ok (.aload_n 0, 1) := dk_dX10_qGoesOnTest_64_8.2.2.2.2.2.2.2.1
theorem dk_dX10_qGoesOnTest_97 : dz_C cX10_qGoesOnTest [(97, .invokevirtual 614, 3), (100, .goto (-13), 3), (103, .aload_n 0, 1), (104, .getfield 267, 3), (107, .aload_n 0, 1), (108, .getfield 372, 3), (111, .bipush 10, 2), (113, .iastore, 1), (114, .aload_n 0, 1), (115, .dup, 1), (116, .getfield 372, 3), (119, .iconst 1, 1), (120, .iadd, 1), (121, .putfield 372, 3), (124, .iconst 1, 1), (125, .ireturn, 1)] := dz_of (by decide +kernel)
theorem dX10_qGoesOnTest_97 : decode cX10_qGoesOnTest 97 = .ok (.invokevirtual 614, 3) := dk_dX10_qGoesOnTest_97.1
theorem dX10_qGoesOnTest_100 : decode cX10_qGoesOnTest 100 = .ok (.goto (-13), 3) := dk_dX10_qGoesOnTest_97.2.1
theorem dX10_qGoesOnTest_103 : decode cX10_qGoesOnTest 103 = .ok (.aload_n 0, 1) := dk_dX10_qGoesOnTest_97.2.2.1
theorem dX10_qGoesOnTest_104 : decode cX10_qGoesOnTest 104 = .ok (.getfield 267, 3) := dk_dX10_qGoesOnTest_97.2.2.2.1
theorem dX10_qGoesOnTest_107 : decode cX10_qGoesOnTest 107 = .ok (.aload_n 0, 1) := dk_dX10_qGoesOnTest_97.2.2.2.2.1
theorem dX10_qGoesOnTest_108 : decode cX10_qGoesOnTest 108 = .ok (.getfield 372, 3) := dk_dX10_qGoesOnTest_97.2.2.2.2.2.1
theorem dX10_qGoesOnTest_111 : decode cX10_qGoesOnTest 111 = .ok (.bipush 10, 2) := dk_dX10_qGoesOnTest_97.2.2.2.2.2.2.1
theorem dX10_qGoesOnTest_113 : decode cX10_qGoesOnTest 113 = .ok (.iastore, 1) := dk_dX10_qGoesOnTest_97.2.2.2.2.2.2.2.1
theorem dk_dX10_qGoesOnTest_97_8 : dz_C cX10_qGoesOnTest [(114, .aload_n 0, 1), (115, .dup, 1), (116, .getfield 372, 3), (119, .iconst 1, 1), (120, .iadd, 1), (121, .putfield 372, 3), (124, .iconst 1, 1), (125, .ireturn, 1)] := dk_dX10_qGoesOnTest_97.2.2.2.2.2.2.2.2
theorem dX10_qGoesOnTest_114 : decode cX10_qGoesOnTest 114 = .ok (.aload_n 0, 1) := dk_dX10_qGoesOnTest_97_8.1
theorem dX10_qGoesOnTest_115 : decode cX10_qGoesOnTest 115 = .ok (.dup, 1) := dk_dX10_qGoesOnTest_97_8.2.1
theorem dX10_qGoesOnTest_116 : decode cX10_qGoesOnTest 116 = .ok (.getfield 372, 3) := dk_dX10_qGoesOnTest_97_8.2.2.1
theorem dX10_qGoesOnTest_119 : decode cX10_qGoesOnTest 119 = .ok (.iconst 1, 1) := dk_dX10_qGoesOnTest_97_8.2.2.2.1
theorem dX10_qGoesOnTest_120 : decode cX10_qGoesOnTest 120 = .ok (.iadd, 1) := dk_dX10_qGoesOnTest_97_8.2.2.2.2.1
theorem dX10_qGoesOnTest_121 : decode cX10_qGoesOnTest 121 = .ok (.putfield 372, 3) := dk_dX10_qGoesOnTest_97_8.2.2.2.2.2.1
theorem dX10_qGoesOnTest_124 : decode cX10_qGoesOnTest 124 = .ok (.iconst 1, 1) := dk_dX10_qGoesOnTest_97_8.2.2.2.2.2.2.1
theorem dX10_qGoesOnTest_125 : decode cX10_qGoesOnTest 125 = .ok (.ireturn, 1) := dk_dX10_qGoesOnTest_97_8.2.2.2.2.2.2.2.1
theorem dk_dX10_qGoesOnTest_126 : dz_C cX10_qGoesOnTest [(126, .aload_n 0, 1), (127, .aload_n 0, 1), (128, .getfield 213, 3), (131, .invokevirtual 305, 3), (134, .ifCond .eq 51, 3), (137, .aload_n 0, 1), (138, .bipush 10, 2), (140, .invokevirtual 641, 3), (143, .ifCond .ne 12, 3), (146, .aload_n 0, 1), (147, .bipush 11, 2), (149, .invokevirtual 641, 3), (152, .ifCond .eq 10, 3), (155, .aload_n 0, 1), (156, .invokevirtual 614, 3), (159, .goto (-22), 3)] := dz_of (by decide +kernel)
theorem dX10_qGoesOnTest_126 : decode cX10_qGoesOnTest 126 = .ok (.aload_n 0, 1) := dk_dX10_qGoesOnTest_126.1
theorem dX10_qGoesOnTest_127 : decode cX10_qGoesOnTest 127 = .ok (.aload_n 0, 1) := dk_dX10_qGoesOnTest_126.2.1
theorem dX10_qGoesOnTest_128 : decode cX10_qGoesOnTest 128 = .ok (.getfield 213, 3) := dk_dX10_qGoesOnTest_126.2.2.1
theorem dX10_qGoesOnTest_131 : decode cX10_qGoesOnTest 131 = .ok (.invokevirtual 305, 3) := dk_dX10_qGoesOnTest_126.2.2.2.1
theorem dX10_qGoesOnTest_134 : decode cX10_qGoesOnTest 134 = .ok (.ifCond .eq 51, 3) := dk_dX10_qGoesOnTest_126.2.2.2.2.1
theorem dX10_qGoesOnTest_137 : decode cX10_qGoesOnTest 137 = .ok (.aload_n 0, 1) := dk_dX10_qGoesOnTest_126.2.2.2.2.2.1
theorem dX10_qGoesOnTest_138 : decode cX10_qGoesOnTest 138 = .ok (.bipush 10, 2) := dk_dX10_qGoesOnTest_126.2.2.2.2.2.2.1
theorem dX10_qGoesOnTest_140 : decode cX10_qGoesOnTest 140 = .ok (.invokevirtual 641, 3) := dk_dX10_qGoesOnTest_126.2.2.2.2.2.2.2.1
theorem dk_dX10_qGoesOnTest_126_8 : dz_C cX10_qGoesOnTest [(143, .ifCond .ne 12, 3), (146, .aload_n 0, 1), (147, .bipush 11, 2), (149, .invokevirtual 641, 3), (152, .ifCond .eq 10, 3), (155, .aload_n 0, 1), (156, .invokevirtual 614, 3), (159, .goto (-22), 3)] := dk_dX10_qGoesOnTest_126.2.2.2.2.2.2.2.2
theorem dX10_qGoesOnTest_143 : decode cX10_qGoesOnTest 143 = .ok (.ifCond .ne 12, 3) := dk_dX10_qGoesOnTest_126_8.1
theorem dX10_qGoesOnTest_146 : decode cX10_qGoesOnTest 146 = .ok (.aload_n 0, 1) := dk_dX10_qGoesOnTest_126_8.2.1
theorem dX10_qGoesOnTest_147 : decode cX10_qGoesOnTest 147 = .ok (.bipush 11, 2) := dk_dX10_qGoesOnTest_126_8.2.2.1
theorem dX10_qGoesOnTest_149 : decode cX10_qGoesOnTest 149 = .ok (.invokevirtual 641, 3) := dk_dX10_qGoesOnTest_126_8.2.2.2.1
theorem dX10_qGoesOnTest_152 : decode cX10_qGoesOnTest 152 = .ok (.ifCond .eq 10, 3) := dk_dX10_qGoesOnTest_126_8.2.2.2.2.1
theorem dX10_qGoesOnTest_155 : decode cX10_qGoesOnTest 155 = .ok (.aload_n 0, 1) := dk_dX10_qGoesOnTest_126_8.2.2.2.2.2.1
theorem dX10_qGoesOnTest_156 : decode cX10_qGoesOnTest 156 = .ok (.invokevirtual 614, 3) := dk_dX10_qGoesOnTest_126_8.2.2.2.2.2.2.1
theorem dX10_qGoesOnTest_159 : decode cX10_qGoesOnTest 159 = .ok (.goto (-22), 3) := dk_dX10_qGoesOnTest_126_8.2.2.2.2.2.2.2.1
theorem dk_dX10_qGoesOnTest_162 : dz_C cX10_qGoesOnTest [(162, .aload_n 0, 1), (163, .getfield 267, 3), (166, .aload_n 0, 1), (167, .getfield 372, 3), (170, .bipush 11, 2), (172, .iastore, 1), (173, .aload_n 0, 1), (174, .dup, 1), (175, .getfield 372, 3), (178, .iconst 1, 1), (179, .iadd, 1), (180, .putfield 372, 3), (183, .iconst 1, 1), (184, .ireturn, 1), (185, .aload_n 0, 1), (186, .getfield 279, 3)] := dz_of (by decide +kernel)
theorem dX10_qGoesOnTest_162 : decode cX10_qGoesOnTest 162 = .ok (.aload_n 0, 1) := dk_dX10_qGoesOnTest_162.1
theorem dX10_qGoesOnTest_163 : decode cX10_qGoesOnTest 163 = .ok (.getfield 267, 3) := dk_dX10_qGoesOnTest_162.2.1
theorem dX10_qGoesOnTest_166 : decode cX10_qGoesOnTest 166 = .ok (.aload_n 0, 1) := dk_dX10_qGoesOnTest_162.2.2.1
theorem dX10_qGoesOnTest_167 : decode cX10_qGoesOnTest 167 = .ok (.getfield 372, 3) := dk_dX10_qGoesOnTest_162.2.2.2.1
theorem dX10_qGoesOnTest_170 : decode cX10_qGoesOnTest 170 = .ok (.bipush 11, 2) := dk_dX10_qGoesOnTest_162.2.2.2.2.1
theorem dX10_qGoesOnTest_172 : decode cX10_qGoesOnTest 172 = .ok (.iastore, 1) := dk_dX10_qGoesOnTest_162.2.2.2.2.2.1
theorem dX10_qGoesOnTest_173 : decode cX10_qGoesOnTest 173 = .ok (.aload_n 0, 1) := dk_dX10_qGoesOnTest_162.2.2.2.2.2.2.1
theorem dX10_qGoesOnTest_174 : decode cX10_qGoesOnTest 174 = .ok (.dup, 1) := dk_dX10_qGoesOnTest_162.2.2.2.2.2.2.2.1
theorem dk_dX10_qGoesOnTest_162_8 : dz_C cX10_qGoesOnTest [(175, .getfield 372, 3), (178, .iconst 1, 1), (179, .iadd, 1), (180, .putfield 372, 3), (183, .iconst 1, 1), (184, .ireturn, 1), (185, .aload_n 0, 1), (186, .getfield 279, 3)] := dk_dX10_qGoesOnTest_162.2.2.2.2.2.2.2.2
theorem dX10_qGoesOnTest_175 : decode cX10_qGoesOnTest 175 = .ok (.getfield 372, 3) := dk_dX10_qGoesOnTest_162_8.1
theorem dX10_qGoesOnTest_178 : decode cX10_qGoesOnTest 178 = .ok (.iconst 1, 1) := dk_dX10_qGoesOnTest_162_8.2.1
theorem dX10_qGoesOnTest_179 : decode cX10_qGoesOnTest 179 = .ok (.iadd, 1) := dk_dX10_qGoesOnTest_162_8.2.2.1
theorem dX10_qGoesOnTest_180 : decode cX10_qGoesOnTest 180 = .ok (.putfield 372, 3) := dk_dX10_qGoesOnTest_162_8.2.2.2.1
theorem dX10_qGoesOnTest_183 : decode cX10_qGoesOnTest 183 = .ok (.iconst 1, 1) := dk_dX10_qGoesOnTest_162_8.2.2.2.2.1
theorem dX10_qGoesOnTest_184 : decode cX10_qGoesOnTest 184 = .ok (.ireturn, 1) := dk_dX10_qGoesOnTest_162_8.2.2.2.2.2.1
theorem dX10_qGoesOnTest_185 : decode cX10_qGoesOnTest 185 = .ok (.aload_n 0, 1) := dk_dX10_qGoesOnTest_162_8.2.2.2.2.2.2.1
theorem dX10_qGoesOnTest_186 : decode cX10_qGoesOnTest 186 = .ok (.getfield 279, 3) := dk_dX10_qGoesOnTest_162_8.2.2.2.2.2.2.2.1
theorem dk_dX10_qGoesOnTest_189 : dz_C cX10_qGoesOnTest [(189, .ifCond .ne 19, 3), (192, .aload_n 0, 1), (193, .invokevirtual 659, 3), (196, .ifCond .eq 12, 3), (199, .aload_n 0, 1), (200, .iconst 1, 1), (201, .aload_n 0, 1), (202, .getfield 285, 3), (205, .invokevirtual 308, 3), (208, .iconst 0, 1), (209, .ireturn, 1)] := dz_of (by decide +kernel)
theorem dX10_qGoesOnTest_189 : decode cX10_qGoesOnTest 189 = .ok (.ifCond .ne 19, 3) := dk_dX10_qGoesOnTest_189.1
theorem dX10_qGoesOnTest_192 : decode cX10_qGoesOnTest 192 = .ok (.aload_n 0, 1) := dk_dX10_qGoesOnTest_189.2.1
theorem dX10_qGoesOnTest_193 : decode cX10_qGoesOnTest 193 = .ok (.invokevirtual 659, 3) := dk_dX10_qGoesOnTest_189.2.2.1
theorem dX10_qGoesOnTest_196 : decode cX10_qGoesOnTest 196 = .ok (.ifCond .eq 12, 3) := dk_dX10_qGoesOnTest_189.2.2.2.1
theorem dX10_qGoesOnTest_199 : decode cX10_qGoesOnTest 199 = .ok (.aload_n 0, 1) := dk_dX10_qGoesOnTest_189.2.2.2.2.1
theorem dX10_qGoesOnTest_200 : decode cX10_qGoesOnTest 200 = .ok (.iconst 1, 1) := dk_dX10_qGoesOnTest_189.2.2.2.2.2.1
theorem dX10_qGoesOnTest_201 : decode cX10_qGoesOnTest 201 = .ok (.aload_n 0, 1) := dk_dX10_qGoesOnTest_189.2.2.2.2.2.2.1
theorem dX10_qGoesOnTest_202 : decode cX10_qGoesOnTest 202 = .ok (.getfield 285, 3) := dk_dX10_qGoesOnTest_189.2.2.2.2.2.2.2.1
theorem dk_dX10_qGoesOnTest_189_8 : dz_C cX10_qGoesOnTest [(205, .invokevirtual 308, 3), (208, .iconst 0, 1), (209, .ireturn, 1)] := dk_dX10_qGoesOnTest_189.2.2.2.2.2.2.2.2
theorem dX10_qGoesOnTest_205 : decode cX10_qGoesOnTest 205 = .ok (.invokevirtual 308, 3) := dk_dX10_qGoesOnTest_189_8.1
theorem dX10_qGoesOnTest_208 : decode cX10_qGoesOnTest 208 = .ok (.iconst 0, 1) := dk_dX10_qGoesOnTest_189_8.2.1
theorem dX10_qGoesOnTest_209 : decode cX10_qGoesOnTest 209 = .ok (.ireturn, 1) := dk_dX10_qGoesOnTest_189_8.2.2.1
theorem dk_dX10_qHasSquare_0 : dz_C cX10_qHasSquare [(0, .iconst 0, 1), (1, .istore_n 1, 1), (2, .iload_n 1, 1), (3, .aload_n 0, 1), (4, .getfield 372, 3), (7, .if_icmp .ge 22, 3), (10, .aload_n 0, 1), (11, .getfield 267, 3), (14, .iload_n 1, 1), (15, .iaload, 1), (16, .bipush 25, 2), (18, .if_icmp .ne 5, 3), (21, .iconst 1, 1), (22, .ireturn, 1), (23, .iinc 1 1, 3), (26, .goto (-24), 3)] := dz_of (by decide +kernel)
theorem dX10_qHasSquare_0 : decode cX10_qHasSquare 0 = .ok (.iconst 0, 1) := dk_dX10_qHasSquare_0.1
theorem dX10_qHasSquare_1 : decode cX10_qHasSquare 1 = .ok (.istore_n 1, 1) := dk_dX10_qHasSquare_0.2.1
theorem dX10_qHasSquare_2 : decode cX10_qHasSquare 2 = .ok (.iload_n 1, 1) := dk_dX10_qHasSquare_0.2.2.1
theorem dX10_qHasSquare_3 : decode cX10_qHasSquare 3 = .ok (.aload_n 0, 1) := dk_dX10_qHasSquare_0.2.2.2.1
theorem dX10_qHasSquare_4 : decode cX10_qHasSquare 4 = .ok (.getfield 372, 3) := dk_dX10_qHasSquare_0.2.2.2.2.1
theorem dX10_qHasSquare_7 : decode cX10_qHasSquare 7 = .ok (.if_icmp .ge 22, 3) := dk_dX10_qHasSquare_0.2.2.2.2.2.1
theorem dX10_qHasSquare_10 : decode cX10_qHasSquare 10 = .ok (.aload_n 0, 1) := dk_dX10_qHasSquare_0.2.2.2.2.2.2.1
theorem dX10_qHasSquare_11 : decode cX10_qHasSquare 11 = .ok (.getfield 267, 3) := dk_dX10_qHasSquare_0.2.2.2.2.2.2.2.1
theorem dk_dX10_qHasSquare_0_8 : dz_C cX10_qHasSquare [(14, .iload_n 1, 1), (15, .iaload, 1), (16, .bipush 25, 2), (18, .if_icmp .ne 5, 3), (21, .iconst 1, 1), (22, .ireturn, 1), (23, .iinc 1 1, 3), (26, .goto (-24), 3)] := dk_dX10_qHasSquare_0.2.2.2.2.2.2.2.2
theorem dX10_qHasSquare_14 : decode cX10_qHasSquare 14 = .ok (.iload_n 1, 1) := dk_dX10_qHasSquare_0_8.1
theorem dX10_qHasSquare_15 : decode cX10_qHasSquare 15 = .ok (.iaload, 1) := dk_dX10_qHasSquare_0_8.2.1
theorem dX10_qHasSquare_16 : decode cX10_qHasSquare 16 = .ok (.bipush 25, 2) := dk_dX10_qHasSquare_0_8.2.2.1
theorem dX10_qHasSquare_18 : decode cX10_qHasSquare 18 = .ok (.if_icmp .ne 5, 3) := dk_dX10_qHasSquare_0_8.2.2.2.1
theorem dX10_qHasSquare_21 : decode cX10_qHasSquare 21 = .ok (.iconst 1, 1) := dk_dX10_qHasSquare_0_8.2.2.2.2.1
theorem dX10_qHasSquare_22 : decode cX10_qHasSquare 22 = .ok (.ireturn, 1) := dk_dX10_qHasSquare_0_8.2.2.2.2.2.1
theorem dX10_qHasSquare_23 : decode cX10_qHasSquare 23 = .ok (.iinc 1 1, 3) := dk_dX10_qHasSquare_0_8.2.2.2.2.2.2.1
theorem dX10_qHasSquare_26 : decode cX10_qHasSquare 26 = .ok (.goto (-24), 3) := dk_dX10_qHasSquare_0_8.2.2.2.2.2.2.2.1
theorem dk_dX10_qHasSquare_29 : dz_C cX10_qHasSquare [(29, .iconst 0, 1), (30, .ireturn, 1)] := dz_of (by decide +kernel)
theorem dX10_qHasSquare_29 : decode cX10_qHasSquare 29 = .ok (.iconst 0, 1) := dk_dX10_qHasSquare_29.1
theorem dX10_qHasSquare_30 : decode cX10_qHasSquare 30 = .ok (.ireturn, 1) := dk_dX10_qHasSquare_29.2.1
theorem dk_dX10_qIsBracket_0 : dz_C cX10_qIsBracket [(0, .iload_n 0, 1), (1, .bipush 20, 2), (3, .if_icmp .lt 13, 3), (6, .iload_n 0, 1), (7, .bipush 24, 2), (9, .if_icmp .gt 7, 3), (12, .iconst 1, 1), (13, .goto 4, 3), (16, .iconst 0, 1), (17, .ireturn, 1)] := dz_of (by decide +kernel)
theorem dX10_qIsBracket_0 : decode cX10_qIsBracket 0 = .ok (.iload_n 0, 1) := dk_dX10_qIsBracket_0.1
theorem dX10_qIsBracket_1 : decode cX10_qIsBracket 1 = .ok (.bipush 20, 2) := dk_dX10_qIsBracket_0.2.1
theorem dX10_qIsBracket_3 : decode cX10_qIsBracket 3 = .ok (.if_icmp .lt 13, 3) := dk_dX10_qIsBracket_0.2.2.1
theorem dX10_qIsBracket_6 : decode cX10_qIsBracket 6 = .ok (.iload_n 0, 1) := dk_dX10_qIsBracket_0.2.2.2.1
theorem dX10_qIsBracket_7 : decode cX10_qIsBracket 7 = .ok (.bipush 24, 2) := dk_dX10_qIsBracket_0.2.2.2.2.1
theorem dX10_qIsBracket_9 : decode cX10_qIsBracket 9 = .ok (.if_icmp .gt 7, 3) := dk_dX10_qIsBracket_0.2.2.2.2.2.1
theorem dX10_qIsBracket_12 : decode cX10_qIsBracket 12 = .ok (.iconst 1, 1) := dk_dX10_qIsBracket_0.2.2.2.2.2.2.1
theorem dX10_qIsBracket_13 : decode cX10_qIsBracket 13 = .ok (.goto 4, 3) := dk_dX10_qIsBracket_0.2.2.2.2.2.2.2.1
theorem dk_dX10_qIsBracket_0_8 : dz_C cX10_qIsBracket [(16, .iconst 0, 1), (17, .ireturn, 1)] := dk_dX10_qIsBracket_0.2.2.2.2.2.2.2.2
theorem dX10_qIsBracket_16 : decode cX10_qIsBracket 16 = .ok (.iconst 0, 1) := dk_dX10_qIsBracket_0_8.1
theorem dX10_qIsBracket_17 : decode cX10_qIsBracket 17 = .ok (.ireturn, 1) := dk_dX10_qIsBracket_0_8.2.1
theorem dk_dX10_qIsOn_0 : dz_C cX10_qIsOn [(0, .aload_n 0, 1), (1, .getfield 372, 3), (4, .ifCond .le 22, 3), (7, .aload_n 0, 1), (8, .getfield 267, 3), (11, .aload_n 0, 1), (12, .getfield 372, 3), (15, .iconst 1, 1), (16, .isub, 1), (17, .iaload, 1), (18, .iload_n 1, 1), (19, .if_icmp .ne 7, 3), (22, .iconst 1, 1), (23, .goto 4, 3), (26, .iconst 0, 1), (27, .ireturn, 1)] := dz_of (by decide +kernel)
theorem dX10_qIsOn_0 : decode cX10_qIsOn 0 = .ok (.aload_n 0, 1) := dk_dX10_qIsOn_0.1
theorem dX10_qIsOn_1 : decode cX10_qIsOn 1 = .ok (.getfield 372, 3) := dk_dX10_qIsOn_0.2.1
theorem dX10_qIsOn_4 : decode cX10_qIsOn 4 = .ok (.ifCond .le 22, 3) := dk_dX10_qIsOn_0.2.2.1
theorem dX10_qIsOn_7 : decode cX10_qIsOn 7 = .ok (.aload_n 0, 1) := dk_dX10_qIsOn_0.2.2.2.1
theorem dX10_qIsOn_8 : decode cX10_qIsOn 8 = .ok (.getfield 267, 3) := dk_dX10_qIsOn_0.2.2.2.2.1
theorem dX10_qIsOn_11 : decode cX10_qIsOn 11 = .ok (.aload_n 0, 1) := dk_dX10_qIsOn_0.2.2.2.2.2.1
theorem dX10_qIsOn_12 : decode cX10_qIsOn 12 = .ok (.getfield 372, 3) := dk_dX10_qIsOn_0.2.2.2.2.2.2.1
theorem dX10_qIsOn_15 : decode cX10_qIsOn 15 = .ok (.iconst 1, 1) := dk_dX10_qIsOn_0.2.2.2.2.2.2.2.1
theorem dk_dX10_qIsOn_0_8 : dz_C cX10_qIsOn [(16, .isub, 1), (17, .iaload, 1), (18, .iload_n 1, 1), (19, .if_icmp .ne 7, 3), (22, .iconst 1, 1), (23, .goto 4, 3), (26, .iconst 0, 1), (27, .ireturn, 1)] := dk_dX10_qIsOn_0.2.2.2.2.2.2.2.2
theorem dX10_qIsOn_16 : decode cX10_qIsOn 16 = .ok (.isub, 1) := dk_dX10_qIsOn_0_8.1
theorem dX10_qIsOn_17 : decode cX10_qIsOn 17 = .ok (.iaload, 1) := dk_dX10_qIsOn_0_8.2.1
theorem dX10_qIsOn_18 : decode cX10_qIsOn 18 = .ok (.iload_n 1, 1) := dk_dX10_qIsOn_0_8.2.2.1
theorem dX10_qIsOn_19 : decode cX10_qIsOn 19 = .ok (.if_icmp .ne 7, 3) := dk_dX10_qIsOn_0_8.2.2.2.1
theorem dX10_qIsOn_22 : decode cX10_qIsOn 22 = .ok (.iconst 1, 1) := dk_dX10_qIsOn_0_8.2.2.2.2.1
theorem dX10_qIsOn_23 : decode cX10_qIsOn 23 = .ok (.goto 4, 3) := dk_dX10_qIsOn_0_8.2.2.2.2.2.1
theorem dX10_qIsOn_26 : decode cX10_qIsOn 26 = .ok (.iconst 0, 1) := dk_dX10_qIsOn_0_8.2.2.2.2.2.2.1
theorem dX10_qIsOn_27 : decode cX10_qIsOn 27 = .ok (.ireturn, 1) := dk_dX10_qIsOn_0_8.2.2.2.2.2.2.2.1
theorem dk_dX10_qJoins_0 : dz_C cX10_qJoins [(0, .aload_n 0, 1), (1, .getfield 270, 3), (4, .aload_n 0, 1), (5, .getfield 440, 3), (8, .iconst 1, 1), (9, .isub, 1), (10, .laload, 1), (11, .lstore_n 2, 1), (12, .aload_n 0, 1), (13, .getfield 270, 3), (16, .aload_n 0, 1), (17, .getfield 440, 3), (20, .iconst 2, 1), (21, .isub, 1), (22, .laload, 1), (23, .lstore 4, 2)] := dz_of (by decide +kernel)
theorem dX10_qJoins_0 : decode cX10_qJoins 0 = .ok (.aload_n 0, 1) := dk_dX10_qJoins_0.1
theorem dX10_qJoins_1 : decode cX10_qJoins 1 = .ok (.getfield 270, 3) := dk_dX10_qJoins_0.2.1
theorem dX10_qJoins_4 : decode cX10_qJoins 4 = .ok (.aload_n 0, 1) := dk_dX10_qJoins_0.2.2.1
theorem dX10_qJoins_5 : decode cX10_qJoins 5 = .ok (.getfield 440, 3) := dk_dX10_qJoins_0.2.2.2.1
theorem dX10_qJoins_8 : decode cX10_qJoins 8 = .ok (.iconst 1, 1) := dk_dX10_qJoins_0.2.2.2.2.1
theorem dX10_qJoins_9 : decode cX10_qJoins 9 = .ok (.isub, 1) := dk_dX10_qJoins_0.2.2.2.2.2.1
theorem dX10_qJoins_10 : decode cX10_qJoins 10 = .ok (.laload, 1) := dk_dX10_qJoins_0.2.2.2.2.2.2.1
theorem dX10_qJoins_11 : decode cX10_qJoins 11 = .ok (.lstore_n 2, 1) := dk_dX10_qJoins_0.2.2.2.2.2.2.2.1
theorem dk_dX10_qJoins_0_8 : dz_C cX10_qJoins [(12, .aload_n 0, 1), (13, .getfield 270, 3), (16, .aload_n 0, 1), (17, .getfield 440, 3), (20, .iconst 2, 1), (21, .isub, 1), (22, .laload, 1), (23, .lstore 4, 2)] := dk_dX10_qJoins_0.2.2.2.2.2.2.2.2
theorem dX10_qJoins_12 : decode cX10_qJoins 12 = .ok (.aload_n 0, 1) := dk_dX10_qJoins_0_8.1
theorem dX10_qJoins_13 : decode cX10_qJoins 13 = .ok (.getfield 270, 3) := dk_dX10_qJoins_0_8.2.1
theorem dX10_qJoins_16 : decode cX10_qJoins 16 = .ok (.aload_n 0, 1) := dk_dX10_qJoins_0_8.2.2.1
theorem dX10_qJoins_17 : decode cX10_qJoins 17 = .ok (.getfield 440, 3) := dk_dX10_qJoins_0_8.2.2.2.1
theorem dX10_qJoins_20 : decode cX10_qJoins 20 = .ok (.iconst 2, 1) := dk_dX10_qJoins_0_8.2.2.2.2.1
theorem dX10_qJoins_21 : decode cX10_qJoins 21 = .ok (.isub, 1) := dk_dX10_qJoins_0_8.2.2.2.2.2.1
theorem dX10_qJoins_22 : decode cX10_qJoins 22 = .ok (.laload, 1) := dk_dX10_qJoins_0_8.2.2.2.2.2.2.1
theorem dX10_qJoins_23 : decode cX10_qJoins 23 = .ok (.lstore 4, 2) := dk_dX10_qJoins_0_8.2.2.2.2.2.2.2.1
theorem dk_dX10_qJoins_25 : dz_C cX10_qJoins [(25, .aload_n 0, 1), (26, .dup, 1), (27, .getfield 440, 3), (30, .iconst 2, 1), (31, .isub, 1), (32, .putfield 440, 3), (35, .iload_n 1, 1), (92, .aload_n 0, 1), (93, .lload 4, 2), (95, .lload_n 2, 1), (96, .ladd, 1), (97, .invokestatic 666, 3), (100, .invokevirtual 443, 3), (103, .goto 170, 3), (106, .aload_n 0, 1), (107, .lload 4, 2)] := dz_of (by decide +kernel)
theorem dX10_qJoins_25 : decode cX10_qJoins 25 = .ok (.aload_n 0, 1) := dk_dX10_qJoins_25.1
theorem dX10_qJoins_26 : decode cX10_qJoins 26 = .ok (.dup, 1) := dk_dX10_qJoins_25.2.1
theorem dX10_qJoins_27 : decode cX10_qJoins 27 = .ok (.getfield 440, 3) := dk_dX10_qJoins_25.2.2.1
theorem dX10_qJoins_30 : decode cX10_qJoins 30 = .ok (.iconst 2, 1) := dk_dX10_qJoins_25.2.2.2.1
theorem dX10_qJoins_31 : decode cX10_qJoins 31 = .ok (.isub, 1) := dk_dX10_qJoins_25.2.2.2.2.1
theorem dX10_qJoins_32 : decode cX10_qJoins 32 = .ok (.putfield 440, 3) := dk_dX10_qJoins_25.2.2.2.2.2.1
theorem dX10_qJoins_35 : decode cX10_qJoins 35 = .ok (.iload_n 1, 1) := dk_dX10_qJoins_25.2.2.2.2.2.2.1
theorem dX10_qJoins_92 : decode cX10_qJoins 92 = .ok (.aload_n 0, 1) := dk_dX10_qJoins_25.2.2.2.2.2.2.2.1
theorem dk_dX10_qJoins_25_8 : dz_C cX10_qJoins [(93, .lload 4, 2), (95, .lload_n 2, 1), (96, .ladd, 1), (97, .invokestatic 666, 3), (100, .invokevirtual 443, 3), (103, .goto 170, 3), (106, .aload_n 0, 1), (107, .lload 4, 2)] := dk_dX10_qJoins_25.2.2.2.2.2.2.2.2
theorem dX10_qJoins_93 : decode cX10_qJoins 93 = .ok (.lload 4, 2) := dk_dX10_qJoins_25_8.1
theorem dX10_qJoins_95 : decode cX10_qJoins 95 = .ok (.lload_n 2, 1) := dk_dX10_qJoins_25_8.2.1
theorem dX10_qJoins_96 : decode cX10_qJoins 96 = .ok (.ladd, 1) := dk_dX10_qJoins_25_8.2.2.1
theorem dX10_qJoins_97 : decode cX10_qJoins 97 = .ok (.invokestatic 666, 3) := dk_dX10_qJoins_25_8.2.2.2.1
theorem dX10_qJoins_100 : decode cX10_qJoins 100 = .ok (.invokevirtual 443, 3) := dk_dX10_qJoins_25_8.2.2.2.2.1
theorem dX10_qJoins_103 : decode cX10_qJoins 103 = .ok (.goto 170, 3) := dk_dX10_qJoins_25_8.2.2.2.2.2.1
theorem dX10_qJoins_106 : decode cX10_qJoins 106 = .ok (.aload_n 0, 1) := dk_dX10_qJoins_25_8.2.2.2.2.2.2.1
theorem dX10_qJoins_107 : decode cX10_qJoins 107 = .ok (.lload 4, 2) := dk_dX10_qJoins_25_8.2.2.2.2.2.2.2.1
theorem dX10_qJoins_36 : decode cX10_qJoins 36 = .ok (.tableswitch 219 1 10 #[56, 70, 84, 98, 111, 131, 151, 170, 189, 208], 56) := by decide +kernel
theorem dk_dX10_qJoins_109 : dz_C cX10_qJoins [(109, .lload_n 2, 1), (110, .lsub, 1), (111, .invokestatic 666, 3), (114, .invokevirtual 443, 3), (117, .goto 156, 3), (120, .aload_n 0, 1), (121, .lload 4, 2), (123, .lload_n 2, 1)] := dz_of (by decide +kernel)
theorem dX10_qJoins_109 : decode cX10_qJoins 109 = .ok (.lload_n 2, 1) := dk_dX10_qJoins_109.1
theorem dX10_qJoins_110 : decode cX10_qJoins 110 = .ok (.lsub, 1) := dk_dX10_qJoins_109.2.1
theorem dX10_qJoins_111 : decode cX10_qJoins 111 = .ok (.invokestatic 666, 3) := dk_dX10_qJoins_109.2.2.1
theorem dX10_qJoins_114 : decode cX10_qJoins 114 = .ok (.invokevirtual 443, 3) := dk_dX10_qJoins_109.2.2.2.1
theorem dX10_qJoins_117 : decode cX10_qJoins 117 = .ok (.goto 156, 3) := dk_dX10_qJoins_109.2.2.2.2.1
theorem dX10_qJoins_120 : decode cX10_qJoins 120 = .ok (.aload_n 0, 1) := dk_dX10_qJoins_109.2.2.2.2.2.1
theorem dX10_qJoins_121 : decode cX10_qJoins 121 = .ok (.lload 4, 2) := dk_dX10_qJoins_109.2.2.2.2.2.2.1
theorem dX10_qJoins_123 : decode cX10_qJoins 123 = .ok (.lload_n 2, 1) := dk_dX10_qJoins_109.2.2.2.2.2.2.2.1
