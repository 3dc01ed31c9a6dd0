theorem dk_dJ0_charAt_5068e_0 : dz_C cJ0_charAt_5068e [(0, .aload_n 0, 1), (1, .invokevirtual 492, 3), (4, .ifCond .eq 12, 3), (7, .aload_n 0, 1), (8, .getfield 9, 3), (11, .iload_n 1, 1), (12, .invokestatic 495, 3), (15, .ireturn, 1), (16, .aload_n 0, 1), (17, .getfield 9, 3), (20, .iload_n 1, 1), (21, .invokestatic 498, 3), (24, .ireturn, 1)] := dz_of (by decide +kernel)
theorem dJ0_charAt_5068e_0 : decode cJ0_charAt_5068e 0 = .ok (.aload_n 0, 1) := dk_dJ0_charAt_5068e_0.1
theorem dJ0_charAt_5068e_1 : decode cJ0_charAt_5068e 1 = .ok (.invokevirtual 492, 3) := dk_dJ0_charAt_5068e_0.2.1
theorem dJ0_charAt_5068e_4 : decode cJ0_charAt_5068e 4 = .ok (.ifCond .eq 12, 3) := dk_dJ0_charAt_5068e_0.2.2.1
theorem dJ0_charAt_5068e_7 : decode cJ0_charAt_5068e 7 = .ok (.aload_n 0, 1) := dk_dJ0_charAt_5068e_0.2.2.2.1
theorem dJ0_charAt_5068e_8 : decode cJ0_charAt_5068e 8 = .ok (.getfield 9, 3) := dk_dJ0_charAt_5068e_0.2.2.2.2.1
theorem dJ0_charAt_5068e_11 : decode cJ0_charAt_5068e 11 = .ok (.iload_n 1, 1) := dk_dJ0_charAt_5068e_0.2.2.2.2.2.1
theorem dJ0_charAt_5068e_12 : decode cJ0_charAt_5068e 12 = .ok (.invokestatic 495, 3) := dk_dJ0_charAt_5068e_0.2.2.2.2.2.2.1
theorem dJ0_charAt_5068e_15 : decode cJ0_charAt_5068e 15 = .ok (.ireturn, 1) := dk_dJ0_charAt_5068e_0.2.2.2.2.2.2.2.1
theorem dk_dJ0_charAt_5068e_0_8 : dz_C cJ0_charAt_5068e [(16, .aload_n 0, 1), (17, .getfield 9, 3), (20, .iload_n 1, 1), (21, .invokestatic 498, 3), (24, .ireturn, 1)] := dk_dJ0_charAt_5068e_0.2.2.2.2.2.2.2.2
theorem dJ0_charAt_5068e_16 : decode cJ0_charAt_5068e 16 = .ok (.aload_n 0, 1) := dk_dJ0_charAt_5068e_0_8.1
theorem dJ0_charAt_5068e_17 : decode cJ0_charAt_5068e 17 = .ok (.getfield 9, 3) := dk_dJ0_charAt_5068e_0_8.2.1
theorem dJ0_charAt_5068e_20 : decode cJ0_charAt_5068e 20 = .ok (.iload_n 1, 1) := dk_dJ0_charAt_5068e_0_8.2.2.1
theorem dJ0_charAt_5068e_21 : decode cJ0_charAt_5068e 21 = .ok (.invokestatic 498, 3) := dk_dJ0_charAt_5068e_0_8.2.2.2.1
theorem dJ0_charAt_5068e_24 : decode cJ0_charAt_5068e 24 = .ok (.ireturn, 1) := dk_dJ0_charAt_5068e_0_8.2.2.2.2.1
theorem dk_dJ0_checkIndex_df160_0 : dz_C cJ0_checkIndex_df160 [(0, .iload_n 0, 1), (1, .iload_n 1, 1), (2, .getstatic 1053, 3), (5, .invokestatic 1059, 3), (8, .pop, 1), (9, .return_, 1)] := dz_of (by decide +kernel)
theorem dJ0_checkIndex_df160_0 : decode cJ0_checkIndex_df160 0 = .ok (.iload_n 0, 1) := dk_dJ0_checkIndex_df160_0.1
theorem dJ0_checkIndex_df160_1 : decode cJ0_checkIndex_df160 1 = .ok (.iload_n 1, 1) := dk_dJ0_checkIndex_df160_0.2.1
theorem dJ0_checkIndex_df160_2 : decode cJ0_checkIndex_df160 2 = .ok (.getstatic 1053, 3) := dk_dJ0_checkIndex_df160_0.2.2.1
theorem dJ0_checkIndex_df160_5 : decode cJ0_checkIndex_df160 5 = .ok (.invokestatic 1059, 3) := dk_dJ0_checkIndex_df160_0.2.2.2.1
theorem dJ0_checkIndex_df160_8 : decode cJ0_checkIndex_df160 8 = .ok (.pop, 1) := dk_dJ0_checkIndex_df160_0.2.2.2.2.1
theorem dJ0_checkIndex_df160_9 : decode cJ0_checkIndex_df160 9 = .ok (.return_, 1) := dk_dJ0_checkIndex_df160_0.2.2.2.2.2.1
theorem dk_dJ0_coder_7d493_0 : dz_C cJ0_coder_7d493 [(0, .getstatic 38, 3), (3, .ifCond .eq 10, 3), (6, .aload_n 0, 1), (7, .getfield 15, 3), (10, .goto 4, 3), (13, .iconst 1, 1), (14, .ireturn, 1)] := dz_of (by decide +kernel)
theorem dJ0_coder_7d493_0 : decode cJ0_coder_7d493 0 = .ok (.getstatic 38, 3) := dk_dJ0_coder_7d493_0.1
theorem dJ0_coder_7d493_3 : decode cJ0_coder_7d493 3 = .ok (.ifCond .eq 10, 3) := dk_dJ0_coder_7d493_0.2.1
theorem dJ0_coder_7d493_6 : decode cJ0_coder_7d493 6 = .ok (.aload_n 0, 1) := dk_dJ0_coder_7d493_0.2.2.1
theorem dJ0_coder_7d493_7 : decode cJ0_coder_7d493 7 = .ok (.getfield 15, 3) := dk_dJ0_coder_7d493_0.2.2.2.1
theorem dJ0_coder_7d493_10 : decode cJ0_coder_7d493 10 = .ok (.goto 4, 3) := dk_dJ0_coder_7d493_0.2.2.2.2.1
theorem dJ0_coder_7d493_13 : decode cJ0_coder_7d493 13 = .ok (.iconst 1, 1) := dk_dJ0_coder_7d493_0.2.2.2.2.2.1
theorem dJ0_coder_7d493_14 : decode cJ0_coder_7d493 14 = .ok (.ireturn, 1) := dk_dJ0_coder_7d493_0.2.2.2.2.2.2.1
theorem dk_dJ0_isLatin1_aae02_0 : dz_C cJ0_isLatin1_aae02 [(0, .getstatic 38, 3), (3, .ifCond .eq 14, 3), (6, .aload_n 0, 1), (7, .getfield 15, 3), (10, .ifCond .ne 7, 3), (13, .iconst 1, 1), (14, .goto 4, 3), (17, .iconst 0, 1), (18, .ireturn, 1)] := dz_of (by decide +kernel)
theorem dJ0_isLatin1_aae02_0 : decode cJ0_isLatin1_aae02 0 = .ok (.getstatic 38, 3) := dk_dJ0_isLatin1_aae02_0.1
theorem dJ0_isLatin1_aae02_3 : decode cJ0_isLatin1_aae02 3 = .ok (.ifCond .eq 14, 3) := dk_dJ0_isLatin1_aae02_0.2.1
theorem dJ0_isLatin1_aae02_6 : decode cJ0_isLatin1_aae02 6 = .ok (.aload_n 0, 1) := dk_dJ0_isLatin1_aae02_0.2.2.1
theorem dJ0_isLatin1_aae02_7 : decode cJ0_isLatin1_aae02 7 = .ok (.getfield 15, 3) := dk_dJ0_isLatin1_aae02_0.2.2.2.1
theorem dJ0_isLatin1_aae02_10 : decode cJ0_isLatin1_aae02 10 = .ok (.ifCond .ne 7, 3) := dk_dJ0_isLatin1_aae02_0.2.2.2.2.1
theorem dJ0_isLatin1_aae02_13 : decode cJ0_isLatin1_aae02 13 = .ok (.iconst 1, 1) := dk_dJ0_isLatin1_aae02_0.2.2.2.2.2.1
theorem dJ0_isLatin1_aae02_14 : decode cJ0_isLatin1_aae02 14 = .ok (.goto 4, 3) := dk_dJ0_isLatin1_aae02_0.2.2.2.2.2.2.1
theorem dJ0_isLatin1_aae02_17 : decode cJ0_isLatin1_aae02 17 = .ok (.iconst 0, 1) := dk_dJ0_isLatin1_aae02_0.2.2.2.2.2.2.2.1
theorem dk_dJ0_isLatin1_aae02_0_8 : dz_C cJ0_isLatin1_aae02 [(18, .ireturn, 1)] := dk_dJ0_isLatin1_aae02_0.2.2.2.2.2.2.2.2
theorem dJ0_isLatin1_aae02_18 : decode cJ0_isLatin1_aae02 18 = .ok (.ireturn, 1) := dk_dJ0_isLatin1_aae02_0_8.1
theorem dk_dJ0_length_8abf5_0 : dz_C cJ0_length_8abf5 [(0, .aload_n 0, 1), (1, .getfield 9, 3), (4, .arraylength, 1), (5, .aload_n 0, 1), (6, .invokevirtual 335, 3), (9, .ishr, 1), (10, .ireturn, 1)] := dz_of (by decide +kernel)
theorem dJ0_length_8abf5_0 : decode cJ0_length_8abf5 0 = .ok (.aload_n 0, 1) := dk_dJ0_length_8abf5_0.1
theorem dJ0_length_8abf5_1 : decode cJ0_length_8abf5 1 = .ok (.getfield 9, 3) := dk_dJ0_length_8abf5_0.2.1
theorem dJ0_length_8abf5_4 : decode cJ0_length_8abf5 4 = .ok (.arraylength, 1) := dk_dJ0_length_8abf5_0.2.2.1
theorem dJ0_length_8abf5_5 : decode cJ0_length_8abf5 5 = .ok (.aload_n 0, 1) := dk_dJ0_length_8abf5_0.2.2.2.1
theorem dJ0_length_8abf5_6 : decode cJ0_length_8abf5 6 = .ok (.invokevirtual 335, 3) := dk_dJ0_length_8abf5_0.2.2.2.2.1
theorem dJ0_length_8abf5_9 : decode cJ0_length_8abf5 9 = .ok (.ishr, 1) := dk_dJ0_length_8abf5_0.2.2.2.2.2.1
theorem dJ0_length_8abf5_10 : decode cJ0_length_8abf5 10 = .ok (.ireturn, 1) := dk_dJ0_length_8abf5_0.2.2.2.2.2.2.1
theorem dk_dJ1_charAt_3b067_0 : dz_C cJ1_charAt_3b067 [(0, .iload_n 1, 1), (1, .aload_n 0, 1), (2, .arraylength, 1), (3, .invokestatic 9, 3), (6, .aload_n 0, 1), (7, .iload_n 1, 1), (8, .baload, 1), (9, .sipush 255, 3), (12, .iand, 1), (13, .i2c, 1), (14, .ireturn, 1)] := dz_of (by decide +kernel)
theorem dJ1_charAt_3b067_0 : decode cJ1_charAt_3b067 0 = .ok (.iload_n 1, 1) := dk_dJ1_charAt_3b067_0.1
theorem dJ1_charAt_3b067_1 : decode cJ1_charAt_3b067 1 = .ok (.aload_n 0, 1) := dk_dJ1_charAt_3b067_0.2.1
theorem dJ1_charAt_3b067_2 : decode cJ1_charAt_3b067 2 = .ok (.arraylength, 1) := dk_dJ1_charAt_3b067_0.2.2.1
theorem dJ1_charAt_3b067_3 : decode cJ1_charAt_3b067 3 = .ok (.invokestatic 9, 3) := dk_dJ1_charAt_3b067_0.2.2.2.1
theorem dJ1_charAt_3b067_6 : decode cJ1_charAt_3b067 6 = .ok (.aload_n 0, 1) := dk_dJ1_charAt_3b067_0.2.2.2.2.1
theorem dJ1_charAt_3b067_7 : decode cJ1_charAt_3b067 7 = .ok (.iload_n 1, 1) := dk_dJ1_charAt_3b067_0.2.2.2.2.2.1
theorem dJ1_charAt_3b067_8 : decode cJ1_charAt_3b067 8 = .ok (.baload, 1) := dk_dJ1_charAt_3b067_0.2.2.2.2.2.2.1
theorem dJ1_charAt_3b067_9 : decode cJ1_charAt_3b067 9 = .ok (.sipush 255, 3) := dk_dJ1_charAt_3b067_0.2.2.2.2.2.2.2.1
theorem dk_dJ1_charAt_3b067_0_8 : dz_C cJ1_charAt_3b067 [(12, .iand, 1), (13, .i2c, 1), (14, .ireturn, 1)] := dk_dJ1_charAt_3b067_0.2.2.2.2.2.2.2.2
theorem dJ1_charAt_3b067_12 : decode cJ1_charAt_3b067 12 = .ok (.iand, 1) := dk_dJ1_charAt_3b067_0_8.1
theorem dJ1_charAt_3b067_13 : decode cJ1_charAt_3b067 13 = .ok (.i2c, 1) := dk_dJ1_charAt_3b067_0_8.2.1
theorem dJ1_charAt_3b067_14 : decode cJ1_charAt_3b067 14 = .ok (.ireturn, 1) := dk_dJ1_charAt_3b067_0_8.2.2.1
theorem dk_dJ2_charAt_3b067_0 : dz_C cJ2_charAt_3b067 [(0, .iload_n 1, 1), (1, .aload_n 0, 1), (2, .invokestatic 67, 3), (5, .aload_n 0, 1), (6, .iload_n 1, 1), (7, .invokestatic 71, 3), (10, .ireturn, 1)] := dz_of (by decide +kernel)
theorem dJ2_charAt_3b067_0 : decode cJ2_charAt_3b067 0 = .ok (.iload_n 1, 1) := dk_dJ2_charAt_3b067_0.1
theorem dJ2_charAt_3b067_1 : decode cJ2_charAt_3b067 1 = .ok (.aload_n 0, 1) := dk_dJ2_charAt_3b067_0.2.1
theorem dJ2_charAt_3b067_2 : decode cJ2_charAt_3b067 2 = .ok (.invokestatic 67, 3) := dk_dJ2_charAt_3b067_0.2.2.1
theorem dJ2_charAt_3b067_5 : decode cJ2_charAt_3b067 5 = .ok (.aload_n 0, 1) := dk_dJ2_charAt_3b067_0.2.2.2.1
theorem dJ2_charAt_3b067_6 : decode cJ2_charAt_3b067 6 = .ok (.iload_n 1, 1) := dk_dJ2_charAt_3b067_0.2.2.2.2.1
theorem dJ2_charAt_3b067_7 : decode cJ2_charAt_3b067 7 = .ok (.invokestatic 71, 3) := dk_dJ2_charAt_3b067_0.2.2.2.2.2.1
theorem dJ2_charAt_3b067_10 : decode cJ2_charAt_3b067 10 = .ok (.ireturn, 1) := dk_dJ2_charAt_3b067_0.2.2.2.2.2.2.1
theorem dk_dJ2_checkIndex_2214a_0 : dz_C cJ2_checkIndex_2214a [(0, .iload_n 0, 1), (1, .aload_n 1, 1), (2, .invokestatic 48, 3), (5, .invokestatic 414, 3), (8, .return_, 1)] := dz_of (by decide +kernel)
theorem dJ2_checkIndex_2214a_0 : decode cJ2_checkIndex_2214a 0 = .ok (.iload_n 0, 1) := dk_dJ2_checkIndex_2214a_0.1
theorem dJ2_checkIndex_2214a_1 : decode cJ2_checkIndex_2214a 1 = .ok (.aload_n 1, 1) := dk_dJ2_checkIndex_2214a_0.2.1
theorem dJ2_checkIndex_2214a_2 : decode cJ2_checkIndex_2214a 2 = .ok (.invokestatic 48, 3) := dk_dJ2_checkIndex_2214a_0.2.2.1
theorem dJ2_checkIndex_2214a_5 : decode cJ2_checkIndex_2214a 5 = .ok (.invokestatic 414, 3) := dk_dJ2_checkIndex_2214a_0.2.2.2.1
theorem dJ2_checkIndex_2214a_8 : decode cJ2_checkIndex_2214a 8 = .ok (.return_, 1) := dk_dJ2_checkIndex_2214a_0.2.2.2.2.1
theorem dk_dJ2_getChar_3b067_0 : dz_C cJ2_getChar_3b067 [(0, .getstatic 44, 3), (3, .ifCond .ne 25, 3), (6, .iload_n 1, 1), (7, .ifCond .lt 11, 3), (10, .iload_n 1, 1), (11, .aload_n 0, 1), (12, .invokestatic 48, 3), (15, .if_icmp .lt 13, 3), (18, .new 52, 3), (21, .dup, 1), (22, .ldc 54, 2), (24, .invokespecial 56, 3), (27, .athrow, 1), (28, .iload_n 1, 1), (29, .iconst 1, 1), (30, .ishl, 1)] := dz_of (by decide +kernel)
theorem dJ2_getChar_3b067_0 : decode cJ2_getChar_3b067 0 = .ok (.getstatic 44, 3) := dk_dJ2_getChar_3b067_0.1
theorem dJ2_getChar_3b067_3 : decode cJ2_getChar_3b067 3 = .ok (.ifCond .ne 25, 3) := dk_dJ2_getChar_3b067_0.2.1
theorem dJ2_getChar_3b067_6 : decode cJ2_getChar_3b067 6 = .ok (.iload_n 1, 1) := dk_dJ2_getChar_3b067_0.2.2.1
theorem dJ2_getChar_3b067_7 : decode cJ2_getChar_3b067 7 = .ok (.ifCond .lt 11, 3) := dk_dJ2_getChar_3b067_0.2.2.2.1
theorem dJ2_getChar_3b067_10 : decode cJ2_getChar_3b067 10 = .ok (.iload_n 1, 1) := dk_dJ2_getChar_3b067_0.2.2.2.2.1
theorem dJ2_getChar_3b067_11 : decode cJ2_getChar_3b067 11 = .ok (.aload_n 0, 1) := dk_dJ2_getChar_3b067_0.2.2.2.2.2.1
theorem dJ2_getChar_3b067_12 : decode cJ2_getChar_3b067 12 = .ok (.invokestatic 48, 3) := dk_dJ2_getChar_3b067_0.2.2.2.2.2.2.1
theorem dJ2_getChar_3b067_15 : decode cJ2_getChar_3b067 15 = .ok (.if_icmp .lt 13, 3) := dk_dJ2_getChar_3b067_0.2.2.2.2.2.2.2.1
theorem dk_dJ2_getChar_3b067_0_8 : dz_C cJ2_getChar_3b067 [(18, .new 52, 3), (21, .dup, 1), (22, .ldc 54, 2), (24, .invokespecial 56, 3), (27, .athrow, 1), (28, .iload_n 1, 1), (29, .iconst 1, 1), (30, .ishl, 1)] := dk_dJ2_getChar_3b067_0.2.2.2.2.2.2.2.2
theorem dJ2_getChar_3b067_18 : decode cJ2_getChar_3b067 18 = .ok (.new 52, 3) := dk_dJ2_getChar_3b067_0_8.1
theorem dJ2_getChar_3b067_21 : decode cJ2_getChar_3b067 21 = .ok (.dup, 1) := dk_dJ2_getChar_3b067_0_8.2.1
theorem dJ2_getChar_3b067_22 : decode cJ2_getChar_3b067 22 = .ok (.ldc 54, 2) := dk_dJ2_getChar_3b067_0_8.2.2.1
theorem dJ2_getChar_3b067_24 : decode cJ2_getChar_3b067 24 = .ok (.invokespecial 56, 3) := dk_dJ2_getChar_3b067_0_8.2.2.2.1
theorem dJ2_getChar_3b067_27 : decode cJ2_getChar_3b067 27 = .ok (.athrow, 1) := dk_dJ2_getChar_3b067_0_8.2.2.2.2.1
theorem dJ2_getChar_3b067_28 : decode cJ2_getChar_3b067 28 = .ok (.iload_n 1, 1) := dk_dJ2_getChar_3b067_0_8.2.2.2.2.2.1
theorem dJ2_getChar_3b067_29 : decode cJ2_getChar_3b067 29 = .ok (.iconst 1, 1) := dk_dJ2_getChar_3b067_0_8.2.2.2.2.2.2.1
theorem dJ2_getChar_3b067_30 : decode cJ2_getChar_3b067 30 = .ok (.ishl, 1) := dk_dJ2_getChar_3b067_0_8.2.2.2.2.2.2.2.1
theorem dk_dJ2_getChar_3b067_31 : dz_C cJ2_getChar_3b067 [(31, .istore_n 1, 1), (32, .aload_n 0, 1), (33, .iload_n 1, 1), (34, .iinc 1 1, 3), (37, .baload, 1), (38, .sipush 255, 3), (41, .iand, 1), (42, .getstatic 59, 3), (45, .ishl, 1), (46, .aload_n 0, 1), (47, .iload_n 1, 1), (48, .baload, 1), (49, .sipush 255, 3), (52, .iand, 1), (53, .getstatic 63, 3), (56, .ishl, 1)] := dz_of (by decide +kernel)
theorem dJ2_getChar_3b067_31 : decode cJ2_getChar_3b067 31 = .ok (.istore_n 1, 1) := dk_dJ2_getChar_3b067_31.1
theorem dJ2_getChar_3b067_32 : decode cJ2_getChar_3b067 32 = .ok (.aload_n 0, 1) := dk_dJ2_getChar_3b067_31.2.1
theorem dJ2_getChar_3b067_33 : decode cJ2_getChar_3b067 33 = .ok (.iload_n 1, 1) := dk_dJ2_getChar_3b067_31.2.2.1
theorem dJ2_getChar_3b067_34 : decode cJ2_getChar_3b067 34 = .ok (.iinc 1 1, 3) := dk_dJ2_getChar_3b067_31.2.2.2.1
theorem dJ2_getChar_3b067_37 : decode cJ2_getChar_3b067 37 = .ok (.baload, 1) := dk_dJ2_getChar_3b067_31.2.2.2.2.1
theorem dJ2_getChar_3b067_38 : decode cJ2_getChar_3b067 38 = .ok (.sipush 255, 3) := dk_dJ2_getChar_3b067_31.2.2.2.2.2.1
theorem dJ2_getChar_3b067_41 : decode cJ2_getChar_3b067 41 = .ok (.iand, 1) := dk_dJ2_getChar_3b067_31.2.2.2.2.2.2.1
theorem dJ2_getChar_3b067_42 : decode cJ2_getChar_3b067 42 = .ok (.getstatic 59, 3) := dk_dJ2_getChar_3b067_31.2.2.2.2.2.2.2.1
theorem dk_dJ2_getChar_3b067_31_8 : dz_C cJ2_getChar_3b067 [(45, .ishl, 1), (46, .aload_n 0, 1), (47, .iload_n 1, 1), (48, .baload, 1), (49, .sipush 255, 3), (52, .iand, 1), (53, .getstatic 63, 3), (56, .ishl, 1)] := dk_dJ2_getChar_3b067_31.2.2.2.2.2.2.2.2
theorem dJ2_getChar_3b067_45 : decode cJ2_getChar_3b067 45 = .ok (.ishl, 1) := dk_dJ2_getChar_3b067_31_8.1
theorem dJ2_getChar_3b067_46 : decode cJ2_getChar_3b067 46 = .ok (.aload_n 0, 1) := dk_dJ2_getChar_3b067_31_8.2.1
theorem dJ2_getChar_3b067_47 : decode cJ2_getChar_3b067 47 = .ok (.iload_n 1, 1) := dk_dJ2_getChar_3b067_31_8.2.2.1
theorem dJ2_getChar_3b067_48 : decode cJ2_getChar_3b067 48 = .ok (.baload, 1) := dk_dJ2_getChar_3b067_31_8.2.2.2.1
theorem dJ2_getChar_3b067_49 : decode cJ2_getChar_3b067 49 = .ok (.sipush 255, 3) := dk_dJ2_getChar_3b067_31_8.2.2.2.2.1
theorem dJ2_getChar_3b067_52 : decode cJ2_getChar_3b067 52 = .ok (.iand, 1) := dk_dJ2_getChar_3b067_31_8.2.2.2.2.2.1
theorem dJ2_getChar_3b067_53 : decode cJ2_getChar_3b067 53 = .ok (.getstatic 63, 3) := dk_dJ2_getChar_3b067_31_8.2.2.2.2.2.2.1
theorem dJ2_getChar_3b067_56 : decode cJ2_getChar_3b067 56 = .ok (.ishl, 1) := dk_dJ2_getChar_3b067_31_8.2.2.2.2.2.2.2.1
theorem dk_dJ2_getChar_3b067_57 : dz_C cJ2_getChar_3b067 [(57, .ior, 1), (58, .i2c, 1), (59, .ireturn, 1)] := dz_of (by decide +kernel)
theorem dJ2_getChar_3b067_57 : decode cJ2_getChar_3b067 57 = .ok (.ior, 1) := dk_dJ2_getChar_3b067_57.1
theorem dJ2_getChar_3b067_58 : decode cJ2_getChar_3b067 58 = .ok (.i2c, 1) := dk_dJ2_getChar_3b067_57.2.1
theorem dJ2_getChar_3b067_59 : decode cJ2_getChar_3b067 59 = .ok (.ireturn, 1) := dk_dJ2_getChar_3b067_57.2.2.1
theorem dk_dJ2_length_9d52b_0 : dz_C cJ2_length_9d52b [(0, .aload_n 0, 1), (1, .arraylength, 1), (2, .iconst 1, 1), (3, .ishr, 1), (4, .ireturn, 1)] := dz_of (by decide +kernel)
theorem dJ2_length_9d52b_0 : decode cJ2_length_9d52b 0 = .ok (.aload_n 0, 1) := dk_dJ2_length_9d52b_0.1
theorem dJ2_length_9d52b_1 : decode cJ2_length_9d52b 1 = .ok (.arraylength, 1) := dk_dJ2_length_9d52b_0.2.1
theorem dJ2_length_9d52b_2 : decode cJ2_length_9d52b 2 = .ok (.iconst 1, 1) := dk_dJ2_length_9d52b_0.2.2.1
theorem dJ2_length_9d52b_3 : decode cJ2_length_9d52b 3 = .ok (.ishr, 1) := dk_dJ2_length_9d52b_0.2.2.2.1
theorem dJ2_length_9d52b_4 : decode cJ2_length_9d52b 4 = .ok (.ireturn, 1) := dk_dJ2_length_9d52b_0.2.2.2.2.1
theorem dk_dJ3_checkIndex_8e157_0 : dz_C cJ3_checkIndex_8e157 [(0, .iload_n 0, 1), (1, .ifCond .lt 8, 3), (4, .iload_n 0, 1), (5, .iload_n 1, 1), (6, .if_icmp .lt 10, 3), (9, .aload_n 2, 1), (10, .iload_n 0, 1), (11, .iload_n 1, 1), (12, .invokestatic 95, 3), (15, .athrow, 1), (16, .iload_n 0, 1), (17, .ireturn, 1)] := dz_of (by decide +kernel)
theorem dJ3_checkIndex_8e157_0 : decode cJ3_checkIndex_8e157 0 = .ok (.iload_n 0, 1) := dk_dJ3_checkIndex_8e157_0.1
theorem dJ3_checkIndex_8e157_1 : decode cJ3_checkIndex_8e157 1 = .ok (.ifCond .lt 8, 3) := dk_dJ3_checkIndex_8e157_0.2.1
theorem dJ3_checkIndex_8e157_4 : decode cJ3_checkIndex_8e157 4 = .ok (.iload_n 0, 1) := dk_dJ3_checkIndex_8e157_0.2.2.1
theorem dJ3_checkIndex_8e157_5 : decode cJ3_checkIndex_8e157 5 = .ok (.iload_n 1, 1) := dk_dJ3_checkIndex_8e157_0.2.2.2.1
theorem dJ3_checkIndex_8e157_6 : decode cJ3_checkIndex_8e157 6 = .ok (.if_icmp .lt 10, 3) := dk_dJ3_checkIndex_8e157_0.2.2.2.2.1
theorem dJ3_checkIndex_8e157_9 : decode cJ3_checkIndex_8e157 9 = .ok (.aload_n 2, 1) := dk_dJ3_checkIndex_8e157_0.2.2.2.2.2.1
theorem dJ3_checkIndex_8e157_10 : decode cJ3_checkIndex_8e157 10 = .ok (.iload_n 0, 1) := dk_dJ3_checkIndex_8e157_0.2.2.2.2.2.2.1
theorem dJ3_checkIndex_8e157_11 : decode cJ3_checkIndex_8e157 11 = .ok (.iload_n 1, 1) := dk_dJ3_checkIndex_8e157_0.2.2.2.2.2.2.2.1
theorem dk_dJ3_checkIndex_8e157_0_8 : dz_C cJ3_checkIndex_8e157 [(12, .invokestatic 95, 3), (15, .athrow, 1), (16, .iload_n 0, 1), (17, .ireturn, 1)] := dk_dJ3_checkIndex_8e157_0.2.2.2.2.2.2.2.2
theorem dJ3_checkIndex_8e157_12 : decode cJ3_checkIndex_8e157 12 = .ok (.invokestatic 95, 3) := dk_dJ3_checkIndex_8e157_0_8.1
theorem dJ3_checkIndex_8e157_15 : decode cJ3_checkIndex_8e157 15 = .ok (.athrow, 1) := dk_dJ3_checkIndex_8e157_0_8.2.1
theorem dJ3_checkIndex_8e157_16 : decode cJ3_checkIndex_8e157 16 = .ok (.iload_n 0, 1) := dk_dJ3_checkIndex_8e157_0_8.2.2.1
theorem dJ3_checkIndex_8e157_17 : decode cJ3_checkIndex_8e157 17 = .ok (.ireturn, 1) := dk_dJ3_checkIndex_8e157_0_8.2.2.2.1
theorem dk_dJ6_bitCount_0f7a4_0 : dz_C cJ6_bitCount_0f7a4 [(0, .iload_n 0, 1), (1, .iload_n 0, 1), (2, .iconst 1, 1), (3, .iushr, 1), (4, .ldc_w 265, 3), (7, .iand, 1), (8, .isub, 1), (9, .istore_n 0, 1), (10, .iload_n 0, 1), (11, .ldc_w 266, 3), (14, .iand, 1), (15, .iload_n 0, 1), (16, .iconst 2, 1), (17, .iushr, 1), (18, .ldc_w 266, 3), (21, .iand, 1)] := dz_of (by decide +kernel)
theorem dJ6_bitCount_0f7a4_0 : decode cJ6_bitCount_0f7a4 0 = .ok (.iload_n 0, 1) := dk_dJ6_bitCount_0f7a4_0.1
theorem dJ6_bitCount_0f7a4_1 : decode cJ6_bitCount_0f7a4 1 = .ok (.iload_n 0, 1) := dk_dJ6_bitCount_0f7a4_0.2.1
theorem dJ6_bitCount_0f7a4_2 : decode cJ6_bitCount_0f7a4 2 = .ok (.iconst 1, 1) := dk_dJ6_bitCount_0f7a4_0.2.2.1
theorem dJ6_bitCount_0f7a4_3 : decode cJ6_bitCount_0f7a4 3 = .ok (.iushr, 1) := dk_dJ6_bitCount_0f7a4_0.2.2.2.1
theorem dJ6_bitCount_0f7a4_4 : decode cJ6_bitCount_0f7a4 4 = .ok (.ldc_w 265, 3) := dk_dJ6_bitCount_0f7a4_0.2.2.2.2.1
theorem dJ6_bitCount_0f7a4_7 : decode cJ6_bitCount_0f7a4 7 = .ok (.iand, 1) := dk_dJ6_bitCount_0f7a4_0.2.2.2.2.2.1
theorem dJ6_bitCount_0f7a4_8 : decode cJ6_bitCount_0f7a4 8 = .ok (.isub, 1) := dk_dJ6_bitCount_0f7a4_0.2.2.2.2.2.2.1
theorem dJ6_bitCount_0f7a4_9 : decode cJ6_bitCount_0f7a4 9 = .ok (.istore_n 0, 1) := dk_dJ6_bitCount_0f7a4_0.2.2.2.2.2.2.2.1
theorem dk_dJ6_bitCount_0f7a4_0_8 : dz_C cJ6_bitCount_0f7a4 [(10, .iload_n 0, 1), (11, .ldc_w 266, 3), (14, .iand, 1), (15, .iload_n 0, 1), (16, .iconst 2, 1), (17, .iushr, 1), (18, .ldc_w 266, 3), (21, .iand, 1)] := dk_dJ6_bitCount_0f7a4_0.2.2.2.2.2.2.2.2
theorem dJ6_bitCount_0f7a4_10 : decode cJ6_bitCount_0f7a4 10 = .ok (.iload_n 0, 1) := dk_dJ6_bitCount_0f7a4_0_8.1
theorem dJ6_bitCount_0f7a4_11 : decode cJ6_bitCount_0f7a4 11 = .ok (.ldc_w 266, 3) := dk_dJ6_bitCount_0f7a4_0_8.2.1
theorem dJ6_bitCount_0f7a4_14 : decode cJ6_bitCount_0f7a4 14 = .ok (.iand, 1) := dk_dJ6_bitCount_0f7a4_0_8.2.2.1
theorem dJ6_bitCount_0f7a4_15 : decode cJ6_bitCount_0f7a4 15 = .ok (.iload_n 0, 1) := dk_dJ6_bitCount_0f7a4_0_8.2.2.2.1
theorem dJ6_bitCount_0f7a4_16 : decode cJ6_bitCount_0f7a4 16 = .ok (.iconst 2, 1) := dk_dJ6_bitCount_0f7a4_0_8.2.2.2.2.1
theorem dJ6_bitCount_0f7a4_17 : decode cJ6_bitCount_0f7a4 17 = .ok (.iushr, 1) := dk_dJ6_bitCount_0f7a4_0_8.2.2.2.2.2.1
theorem dJ6_bitCount_0f7a4_18 : decode cJ6_bitCount_0f7a4 18 = .ok (.ldc_w 266, 3) := dk_dJ6_bitCount_0f7a4_0_8.2.2.2.2.2.2.1
theorem dJ6_bitCount_0f7a4_21 : decode cJ6_bitCount_0f7a4 21 = .ok (.iand, 1) := dk_dJ6_bitCount_0f7a4_0_8.2.2.2.2.2.2.2.1
theorem dk_dJ6_bitCount_0f7a4_22 : dz_C cJ6_bitCount_0f7a4 [(22, .iadd, 1), (23, .istore_n 0, 1), (24, .iload_n 0, 1), (25, .iload_n 0, 1), (26, .iconst 4, 1), (27, .iushr, 1), (28, .iadd, 1), (29, .ldc_w 267, 3), (32, .iand, 1), (33, .istore_n 0, 1), (34, .iload_n 0, 1), (35, .iload_n 0, 1), (36, .bipush 8, 2), (38, .iushr, 1), (39, .iadd, 1), (40, .istore_n 0, 1)] := dz_of (by decide +kernel)
theorem dJ6_bitCount_0f7a4_22 : decode cJ6_bitCount_0f7a4 22 = .ok (.iadd, 1) := dk_dJ6_bitCount_0f7a4_22.1
theorem dJ6_bitCount_0f7a4_23 : decode cJ6_bitCount_0f7a4 23 = .ok (.istore_n 0, 1) := dk_dJ6_bitCount_0f7a4_22.2.1
theorem dJ6_bitCount_0f7a4_24 : decode cJ6_bitCount_0f7a4 24 = .ok (.iload_n 0, 1) := dk_dJ6_bitCount_0f7a4_22.2.2.1
theorem dJ6_bitCount_0f7a4_25 : decode cJ6_bitCount_0f7a4 25 = .ok (.iload_n 0, 1) := dk_dJ6_bitCount_0f7a4_22.2.2.2.1
theorem dJ6_bitCount_0f7a4_26 : decode cJ6_bitCount_0f7a4 26 = .ok (.iconst 4, 1) := dk_dJ6_bitCount_0f7a4_22.2.2.2.2.1
theorem dJ6_bitCount_0f7a4_27 : decode cJ6_bitCount_0f7a4 27 = .ok (.iushr, 1) := dk_dJ6_bitCount_0f7a4_22.2.2.2.2.2.1
theorem dJ6_bitCount_0f7a4_28 : decode cJ6_bitCount_0f7a4 28 = .ok (.iadd, 1) := dk_dJ6_bitCount_0f7a4_22.2.2.2.2.2.2.1
theorem dJ6_bitCount_0f7a4_29 : decode cJ6_bitCount_0f7a4 29 = .ok (.ldc_w 267, 3) := dk_dJ6_bitCount_0f7a4_22.2.2.2.2.2.2.2.1
theorem dk_dJ6_bitCount_0f7a4_22_8 : dz_C cJ6_bitCount_0f7a4 [(32, .iand, 1), (33, .istore_n 0, 1), (34, .iload_n 0, 1), (35, .iload_n 0, 1), (36, .bipush 8, 2), (38, .iushr, 1), (39, .iadd, 1), (40, .istore_n 0, 1)] := dk_dJ6_bitCount_0f7a4_22.2.2.2.2.2.2.2.2
theorem dJ6_bitCount_0f7a4_32 : decode cJ6_bitCount_0f7a4 32 = .ok (.iand, 1) := dk_dJ6_bitCount_0f7a4_22_8.1
theorem dJ6_bitCount_0f7a4_33 : decode cJ6_bitCount_0f7a4 33 = .ok (.istore_n 0, 1) := dk_dJ6_bitCount_0f7a4_22_8.2.1
theorem dJ6_bitCount_0f7a4_34 : decode cJ6_bitCount_0f7a4 34 = .ok (.iload_n 0, 1) := dk_dJ6_bitCount_0f7a4_22_8.2.2.1
theorem dJ6_bitCount_0f7a4_35 : decode cJ6_bitCount_0f7a4 35 = .ok (.iload_n 0, 1) := dk_dJ6_bitCount_0f7a4_22_8.2.2.2.1
theorem dJ6_bitCount_0f7a4_36 : decode cJ6_bitCount_0f7a4 36 = .ok (.bipush 8, 2) := dk_dJ6_bitCount_0f7a4_22_8.2.2.2.2.1
theorem dJ6_bitCount_0f7a4_38 : decode cJ6_bitCount_0f7a4 38 = .ok (.iushr, 1) := dk_dJ6_bitCount_0f7a4_22_8.2.2.2.2.2.1
theorem dJ6_bitCount_0f7a4_39 : decode cJ6_bitCount_0f7a4 39 = .ok (.iadd, 1) := dk_dJ6_bitCount_0f7a4_22_8.2.2.2.2.2.2.1
theorem dJ6_bitCount_0f7a4_40 : decode cJ6_bitCount_0f7a4 40 = .ok (.istore_n 0, 1) := dk_dJ6_bitCount_0f7a4_22_8.2.2.2.2.2.2.2.1
theorem dk_dJ6_bitCount_0f7a4_41 : dz_C cJ6_bitCount_0f7a4 [(41, .iload_n 0, 1), (42, .iload_n 0, 1), (43, .bipush 16, 2), (45, .iushr, 1), (46, .iadd, 1), (47, .istore_n 0, 1), (48, .iload_n 0, 1), (49, .bipush 63, 2), (51, .iand, 1), (52, .ireturn, 1)] := dz_of (by decide +kernel)
theorem dJ6_bitCount_0f7a4_41 : decode cJ6_bitCount_0f7a4 41 = .ok (.iload_n 0, 1) := dk_dJ6_bitCount_0f7a4_41.1
theorem dJ6_bitCount_0f7a4_42 : decode cJ6_bitCount_0f7a4 42 = .ok (.iload_n 0, 1) := dk_dJ6_bitCount_0f7a4_41.2.1
theorem dJ6_bitCount_0f7a4_43 : decode cJ6_bitCount_0f7a4 43 = .ok (.bipush 16, 2) := dk_dJ6_bitCount_0f7a4_41.2.2.1
theorem dJ6_bitCount_0f7a4_45 : decode cJ6_bitCount_0f7a4 45 = .ok (.iushr, 1) := dk_dJ6_bitCount_0f7a4_41.2.2.2.1
theorem dJ6_bitCount_0f7a4_46 : decode cJ6_bitCount_0f7a4 46 = .ok (.iadd, 1) := dk_dJ6_bitCount_0f7a4_41.2.2.2.2.1
theorem dJ6_bitCount_0f7a4_47 : decode cJ6_bitCount_0f7a4 47 = .ok (.istore_n 0, 1) := dk_dJ6_bitCount_0f7a4_41.2.2.2.2.2.1
theorem dJ6_bitCount_0f7a4_48 : decode cJ6_bitCount_0f7a4 48 = .ok (.iload_n 0, 1) := dk_dJ6_bitCount_0f7a4_41.2.2.2.2.2.2.1
theorem dJ6_bitCount_0f7a4_49 : decode cJ6_bitCount_0f7a4 49 = .ok (.bipush 63, 2) := dk_dJ6_bitCount_0f7a4_41.2.2.2.2.2.2.2.1
theorem dk_dJ6_bitCount_0f7a4_41_8 : dz_C cJ6_bitCount_0f7a4 [(51, .iand, 1), (52, .ireturn, 1)] := dk_dJ6_bitCount_0f7a4_41.2.2.2.2.2.2.2.2
theorem dJ6_bitCount_0f7a4_51 : decode cJ6_bitCount_0f7a4 51 = .ok (.iand, 1) := dk_dJ6_bitCount_0f7a4_41_8.1
theorem dJ6_bitCount_0f7a4_52 : decode cJ6_bitCount_0f7a4 52 = .ok (.ireturn, 1) := dk_dJ6_bitCount_0f7a4_41_8.2.1
theorem dk_dJ7_fill_53178_0 : dz_C cJ7_fill_53178 [(0, .iconst 0, 1), (1, .istore_n 2, 1), (2, .aload_n 0, 1), (3, .arraylength, 1), (4, .istore_n 3, 1), (5, .iload_n 2, 1), (6, .iload_n 3, 1), (7, .if_icmp .ge 13, 3), (10, .aload_n 0, 1), (11, .iload_n 2, 1), (12, .iload_n 1, 1), (13, .iastore, 1), (14, .iinc 2 1, 3), (17, .goto (-12), 3), (20, .return_, 1)] := dz_of (by decide +kernel)
theorem dJ7_fill_53178_0 : decode cJ7_fill_53178 0 = .ok (.iconst 0, 1) := dk_dJ7_fill_53178_0.1
theorem dJ7_fill_53178_1 : decode cJ7_fill_53178 1 = .ok (.istore_n 2, 1) := dk_dJ7_fill_53178_0.2.1
theorem dJ7_fill_53178_2 : decode cJ7_fill_53178 2 = .ok (.aload_n 0, 1) := dk_dJ7_fill_53178_0.2.2.1
theorem dJ7_fill_53178_3 : decode cJ7_fill_53178 3 = .ok (.arraylength, 1) := dk_dJ7_fill_53178_0.2.2.2.1
theorem dJ7_fill_53178_4 : decode cJ7_fill_53178 4 = .ok (.istore_n 3, 1) := dk_dJ7_fill_53178_0.2.2.2.2.1
theorem dJ7_fill_53178_5 : decode cJ7_fill_53178 5 = .ok (.iload_n 2, 1) := dk_dJ7_fill_53178_0.2.2.2.2.2.1
theorem dJ7_fill_53178_6 : decode cJ7_fill_53178 6 = .ok (.iload_n 3, 1) := dk_dJ7_fill_53178_0.2.2.2.2.2.2.1
theorem dJ7_fill_53178_7 : decode cJ7_fill_53178 7 = .ok (.if_icmp .ge 13, 3) := dk_dJ7_fill_53178_0.2.2.2.2.2.2.2.1
theorem dk_dJ7_fill_53178_0_8 : dz_C cJ7_fill_53178 [(10, .aload_n 0, 1), (11, .iload_n 2, 1), (12, .iload_n 1, 1), (13, .iastore, 1), (14, .iinc 2 1, 3), (17, .goto (-12), 3), (20, .return_, 1)] := dk_dJ7_fill_53178_0.2.2.2.2.2.2.2.2
theorem dJ7_fill_53178_10 : decode cJ7_fill_53178 10 = .ok (.aload_n 0, 1) := dk_dJ7_fill_53178_0_8.1
theorem dJ7_fill_53178_11 : decode cJ7_fill_53178 11 = .ok (.iload_n 2, 1) := dk_dJ7_fill_53178_0_8.2.1
theorem dJ7_fill_53178_12 : decode cJ7_fill_53178 12 = .ok (.iload_n 1, 1) := dk_dJ7_fill_53178_0_8.2.2.1
theorem dJ7_fill_53178_13 : decode cJ7_fill_53178 13 = .ok (.iastore, 1) := dk_dJ7_fill_53178_0_8.2.2.2.1
theorem dJ7_fill_53178_14 : decode cJ7_fill_53178 14 = .ok (.iinc 2 1, 3) := dk_dJ7_fill_53178_0_8.2.2.2.2.1
theorem dJ7_fill_53178_17 : decode cJ7_fill_53178 17 = .ok (.goto (-12), 3) := dk_dJ7_fill_53178_0_8.2.2.2.2.2.1
theorem dJ7_fill_53178_20 : decode cJ7_fill_53178 20 = .ok (.return_, 1) := dk_dJ7_fill_53178_0_8.2.2.2.2.2.2.1
theorem dk_dJ9_floorDiv_7cf53_0 : dz_C cJ9_floorDiv_7cf53 [(0, .iload_n 0, 1), (1, .iload_n 1, 1), (2, .idiv, 1), (3, .istore_n 2, 1), (4, .iload_n 0, 1), (5, .iload_n 1, 1), (6, .ixor, 1), (7, .ifCond .ge 14, 3), (10, .iload_n 2, 1), (11, .iload_n 1, 1), (12, .imul, 1), (13, .iload_n 0, 1), (14, .if_icmp .eq 7, 3), (17, .iload_n 2, 1), (18, .iconst 1, 1), (19, .isub, 1)] := dz_of (by decide +kernel)
theorem dJ9_floorDiv_7cf53_0 : decode cJ9_floorDiv_7cf53 0 = .ok (.iload_n 0, 1) := dk_dJ9_floorDiv_7cf53_0.1
theorem dJ9_floorDiv_7cf53_1 : decode cJ9_floorDiv_7cf53 1 = .ok (.iload_n 1, 1) := dk_dJ9_floorDiv_7cf53_0.2.1
theorem dJ9_floorDiv_7cf53_2 : decode cJ9_floorDiv_7cf53 2 = .ok (.idiv, 1) := dk_dJ9_floorDiv_7cf53_0.2.2.1
theorem dJ9_floorDiv_7cf53_3 : decode cJ9_floorDiv_7cf53 3 = .ok (.istore_n 2, 1) := dk_dJ9_floorDiv_7cf53_0.2.2.2.1
theorem dJ9_floorDiv_7cf53_4 : decode cJ9_floorDiv_7cf53 4 = .ok (.iload_n 0, 1) := dk_dJ9_floorDiv_7cf53_0.2.2.2.2.1
theorem dJ9_floorDiv_7cf53_5 : decode cJ9_floorDiv_7cf53 5 = .ok (.iload_n 1, 1) := dk_dJ9_floorDiv_7cf53_0.2.2.2.2.2.1
theorem dJ9_floorDiv_7cf53_6 : decode cJ9_floorDiv_7cf53 6 = .ok (.ixor, 1) := dk_dJ9_floorDiv_7cf53_0.2.2.2.2.2.2.1
theorem dJ9_floorDiv_7cf53_7 : decode cJ9_floorDiv_7cf53 7 = .ok (.ifCond .ge 14, 3) := dk_dJ9_floorDiv_7cf53_0.2.2.2.2.2.2.2.1
theorem dk_dJ9_floorDiv_7cf53_0_8 : dz_C cJ9_floorDiv_7cf53 [(10, .iload_n 2, 1), (11, .iload_n 1, 1), (12, .imul, 1), (13, .iload_n 0, 1), (14, .if_icmp .eq 7, 3), (17, .iload_n 2, 1), (18, .iconst 1, 1), (19, .isub, 1)] := dk_dJ9_floorDiv_7cf53_0.2.2.2.2.2.2.2.2
theorem dJ9_floorDiv_7cf53_10 : decode cJ9_floorDiv_7cf53 10 = .ok (.iload_n 2, 1) := dk_dJ9_floorDiv_7cf53_0_8.1
theorem dJ9_floorDiv_7cf53_11 : decode cJ9_floorDiv_7cf53 11 = .ok (.iload_n 1, 1) := dk_dJ9_floorDiv_7cf53_0_8.2.1
theorem dJ9_floorDiv_7cf53_12 : decode cJ9_floorDiv_7cf53 12 = .ok (.imul, 1) := dk_dJ9_floorDiv_7cf53_0_8.2.2.1
theorem dJ9_floorDiv_7cf53_13 : decode cJ9_floorDiv_7cf53 13 = .ok (.iload_n 0, 1) := dk_dJ9_floorDiv_7cf53_0_8.2.2.2.1
theorem dJ9_floorDiv_7cf53_14 : decode cJ9_floorDiv_7cf53 14 = .ok (.if_icmp .eq 7, 3) := dk_dJ9_floorDiv_7cf53_0_8.2.2.2.2.1
theorem dJ9_floorDiv_7cf53_17 : decode cJ9_floorDiv_7cf53 17 = .ok (.iload_n 2, 1) := dk_dJ9_floorDiv_7cf53_0_8.2.2.2.2.2.1
theorem dJ9_floorDiv_7cf53_18 : decode cJ9_floorDiv_7cf53 18 = .ok (.iconst 1, 1) := dk_dJ9_floorDiv_7cf53_0_8.2.2.2.2.2.2.1
theorem dJ9_floorDiv_7cf53_19 : decode cJ9_floorDiv_7cf53 19 = .ok (.isub, 1) := dk_dJ9_floorDiv_7cf53_0_8.2.2.2.2.2.2.2.1
theorem dk_dJ9_floorDiv_7cf53_20 : dz_C cJ9_floorDiv_7cf53 [(20, .ireturn, 1), (21, .iload_n 2, 1), (22, .ireturn, 1)] := dz_of (by decide +kernel)
theorem dJ9_floorDiv_7cf53_20 : decode cJ9_floorDiv_7cf53 20 = .ok (.ireturn, 1) := dk_dJ9_floorDiv_7cf53_20.1
theorem dJ9_floorDiv_7cf53_21 : decode cJ9_floorDiv_7cf53 21 = .ok (.iload_n 2, 1) := dk_dJ9_floorDiv_7cf53_20.2.1
theorem dJ9_floorDiv_7cf53_22 : decode cJ9_floorDiv_7cf53 22 = .ok (.ireturn, 1) := dk_dJ9_floorDiv_7cf53_20.2.2.1
theorem dk_dJ9_max_7cf53_0 : dz_C cJ9_max_7cf53 [(0, .iload_n 0, 1), (1, .iload_n 1, 1), (2, .if_icmp .lt 7, 3), (5, .iload_n 0, 1), (6, .goto 4, 3), (9, .iload_n 1, 1), (10, .ireturn, 1)] := dz_of (by decide +kernel)
theorem dJ9_max_7cf53_0 : decode cJ9_max_7cf53 0 = .ok (.iload_n 0, 1) := dk_dJ9_max_7cf53_0.1
theorem dJ9_max_7cf53_1 : decode cJ9_max_7cf53 1 = .ok (.iload_n 1, 1) := dk_dJ9_max_7cf53_0.2.1
theorem dJ9_max_7cf53_2 : decode cJ9_max_7cf53 2 = .ok (.if_icmp .lt 7, 3) := dk_dJ9_max_7cf53_0.2.2.1
theorem dJ9_max_7cf53_5 : decode cJ9_max_7cf53 5 = .ok (.iload_n 0, 1) := dk_dJ9_max_7cf53_0.2.2.2.1
theorem dJ9_max_7cf53_6 : decode cJ9_max_7cf53 6 = .ok (.goto 4, 3) := dk_dJ9_max_7cf53_0.2.2.2.2.1
theorem dJ9_max_7cf53_9 : decode cJ9_max_7cf53 9 = .ok (.iload_n 1, 1) := dk_dJ9_max_7cf53_0.2.2.2.2.2.1
theorem dJ9_max_7cf53_10 : decode cJ9_max_7cf53 10 = .ok (.ireturn, 1) := dk_dJ9_max_7cf53_0.2.2.2.2.2.2.1
theorem dk_dJ9_min_7cf53_0 : dz_C cJ9_min_7cf53 [(0, .iload_n 0, 1), (1, .iload_n 1, 1), (2, .if_icmp .gt 7, 3), (5, .iload_n 0, 1), (6, .goto 4, 3), (9, .iload_n 1, 1), (10, .ireturn, 1)] := dz_of (by decide +kernel)
theorem dJ9_min_7cf53_0 : decode cJ9_min_7cf53 0 = .ok (.iload_n 0, 1) := dk_dJ9_min_7cf53_0.1
theorem dJ9_min_7cf53_1 : decode cJ9_min_7cf53 1 = .ok (.iload_n 1, 1) := dk_dJ9_min_7cf53_0.2.1
theorem dJ9_min_7cf53_2 : decode cJ9_min_7cf53 2 = .ok (.if_icmp .gt 7, 3) := dk_dJ9_min_7cf53_0.2.2.1
theorem dJ9_min_7cf53_5 : decode cJ9_min_7cf53 5 = .ok (.iload_n 0, 1) := dk_dJ9_min_7cf53_0.2.2.2.1
theorem dJ9_min_7cf53_6 : decode cJ9_min_7cf53 6 = .ok (.goto 4, 3) := dk_dJ9_min_7cf53_0.2.2.2.2.1
theorem dJ9_min_7cf53_9 : decode cJ9_min_7cf53 9 = .ok (.iload_n 1, 1) := dk_dJ9_min_7cf53_0.2.2.2.2.2.1
theorem dJ9_min_7cf53_10 : decode cJ9_min_7cf53 10 = .ok (.ireturn, 1) := dk_dJ9_min_7cf53_0.2.2.2.2.2.2.1
theorem dk_dX0_forget_0 : dz_C cX0_forget [(0, .aload_n 0, 1), (1, .iconst 0, 1), (2, .putfield 25, 3), (5, .return_, 1)] := dz_of (by decide +kernel)
theorem dX0_forget_0 : decode cX0_forget 0 = .ok (.aload_n 0, 1) := dk_dX0_forget_0.1
theorem dX0_forget_1 : decode cX0_forget 1 = .ok (.iconst 0, 1) := dk_dX0_forget_0.2.1
theorem dX0_forget_2 : decode cX0_forget 2 = .ok (.putfield 25, 3) := dk_dX0_forget_0.2.2.1
theorem dX0_forget_5 : decode cX0_forget 5 = .ok (.return_, 1) := dk_dX0_forget_0.2.2.2.1
theorem dk_dX0_goTo_0 : dz_C cX0_goTo [(0, .aload_n 0, 1), (1, .getfield 25, 3), (4, .ifCond .ne 11, 3), (7, .aload_n 0, 1), (8, .getfield 12, 3), (11, .aload_n 1, 1), (12, .invokevirtual 33, 3), (15, .aload_n 0, 1), (16, .getfield 25, 3), (19, .iload_n 2, 1), (20, .if_icmp .ge 122, 3), (23, .aload_n 0, 1), (24, .getfield 25, 3), (27, .bipush 30, 2), (29, .if_icmp .ge 113, 3), (32, .aload_n 0, 1)] := dz_of (by decide +kernel)
theorem dX0_goTo_0 : decode cX0_goTo 0 = .ok (.aload_n 0, 1) := dk_dX0_goTo_0.1
theorem dX0_goTo_1 : decode cX0_goTo 1 = .ok (.getfield 25, 3) := dk_dX0_goTo_0.2.1
theorem dX0_goTo_4 : decode cX0_goTo 4 = .ok (.ifCond .ne 11, 3) := dk_dX0_goTo_0.2.2.1
theorem dX0_goTo_7 : decode cX0_goTo 7 = .ok (.aload_n 0, 1) := dk_dX0_goTo_0.2.2.2.1
theorem dX0_goTo_8 : decode cX0_goTo 8 = .ok (.getfield 12, 3) := dk_dX0_goTo_0.2.2.2.2.1
theorem dX0_goTo_11 : decode cX0_goTo 11 = .ok (.aload_n 1, 1) := dk_dX0_goTo_0.2.2.2.2.2.1
theorem dX0_goTo_12 : decode cX0_goTo 12 = .ok (.invokevirtual 33, 3) := dk_dX0_goTo_0.2.2.2.2.2.2.1
theorem dX0_goTo_15 : decode cX0_goTo 15 = .ok (.aload_n 0, 1) := dk_dX0_goTo_0.2.2.2.2.2.2.2.1
theorem dk_dX0_goTo_0_8 : dz_C cX0_goTo [(16, .getfield 25, 3), (19, .iload_n 2, 1), (20, .if_icmp .ge 122, 3), (23, .aload_n 0, 1), (24, .getfield 25, 3), (27, .bipush 30, 2), (29, .if_icmp .ge 113, 3), (32, .aload_n 0, 1)] := dk_dX0_goTo_0.2.2.2.2.2.2.2.2
theorem dX0_goTo_16 : decode cX0_goTo 16 = .ok (.getfield 25, 3) := dk_dX0_goTo_0_8.1
theorem dX0_goTo_19 : decode cX0_goTo 19 = .ok (.iload_n 2, 1) := dk_dX0_goTo_0_8.2.1
theorem dX0_goTo_20 : decode cX0_goTo 20 = .ok (.if_icmp .ge 122, 3) := dk_dX0_goTo_0_8.2.2.1
theorem dX0_goTo_23 : decode cX0_goTo 23 = .ok (.aload_n 0, 1) := dk_dX0_goTo_0_8.2.2.2.1
theorem dX0_goTo_24 : decode cX0_goTo 24 = .ok (.getfield 25, 3) := dk_dX0_goTo_0_8.2.2.2.2.1
theorem dX0_goTo_27 : decode cX0_goTo 27 = .ok (.bipush 30, 2) := dk_dX0_goTo_0_8.2.2.2.2.2.1
theorem dX0_goTo_29 : decode cX0_goTo 29 = .ok (.if_icmp .ge 113, 3) := dk_dX0_goTo_0_8.2.2.2.2.2.2.1
theorem dX0_goTo_32 : decode cX0_goTo 32 = .ok (.aload_n 0, 1) := dk_dX0_goTo_0_8.2.2.2.2.2.2.2.1
theorem dk_dX0_goTo_33 : dz_C cX0_goTo [(33, .getfield 29, 3), (36, .aload_n 0, 1), (37, .getfield 12, 3), (40, .aload_n 0, 1), (41, .getfield 12, 3), (44, .getfield 37, 3), (47, .aload_n 0, 1), (48, .getfield 12, 3), (51, .getfield 40, 3), (54, .iconst 0, 1), (55, .invokevirtual 43, 3), (58, .iconst 0, 1), (59, .istore_n 3, 1), (60, .iload_n 3, 1), (61, .bipush 6, 2), (63, .if_icmp .ge 31, 3)] := dz_of (by decide +kernel)
theorem dX0_goTo_33 : decode cX0_goTo 33 = .ok (.getfield 29, 3) := dk_dX0_goTo_33.1
theorem dX0_goTo_36 : decode cX0_goTo 36 = .ok (.aload_n 0, 1) := dk_dX0_goTo_33.2.1
theorem dX0_goTo_37 : decode cX0_goTo 37 = .ok (.getfield 12, 3) := dk_dX0_goTo_33.2.2.1
theorem dX0_goTo_40 : decode cX0_goTo 40 = .ok (.aload_n 0, 1) := dk_dX0_goTo_33.2.2.2.1
theorem dX0_goTo_41 : decode cX0_goTo 41 = .ok (.getfield 12, 3) := dk_dX0_goTo_33.2.2.2.2.1
theorem dX0_goTo_44 : decode cX0_goTo 44 = .ok (.getfield 37, 3) := dk_dX0_goTo_33.2.2.2.2.2.1
theorem dX0_goTo_47 : decode cX0_goTo 47 = .ok (.aload_n 0, 1) := dk_dX0_goTo_33.2.2.2.2.2.2.1
theorem dX0_goTo_48 : decode cX0_goTo 48 = .ok (.getfield 12, 3) := dk_dX0_goTo_33.2.2.2.2.2.2.2.1
theorem dk_dX0_goTo_33_8 : dz_C cX0_goTo [(51, .getfield 40, 3), (54, .iconst 0, 1), (55, .invokevirtual 43, 3), (58, .iconst 0, 1), (59, .istore_n 3, 1), (60, .iload_n 3, 1), (61, .bipush 6, 2), (63, .if_icmp .ge 31, 3)] := dk_dX0_goTo_33.2.2.2.2.2.2.2.2
theorem dX0_goTo_51 : decode cX0_goTo 51 = .ok (.getfield 40, 3) := dk_dX0_goTo_33_8.1
theorem dX0_goTo_54 : decode cX0_goTo 54 = .ok (.iconst 0, 1) := dk_dX0_goTo_33_8.2.1
theorem dX0_goTo_55 : decode cX0_goTo 55 = .ok (.invokevirtual 43, 3) := dk_dX0_goTo_33_8.2.2.1
theorem dX0_goTo_58 : decode cX0_goTo 58 = .ok (.iconst 0, 1) := dk_dX0_goTo_33_8.2.2.2.1
theorem dX0_goTo_59 : decode cX0_goTo 59 = .ok (.istore_n 3, 1) := dk_dX0_goTo_33_8.2.2.2.2.1
theorem dX0_goTo_60 : decode cX0_goTo 60 = .ok (.iload_n 3, 1) := dk_dX0_goTo_33_8.2.2.2.2.2.1
theorem dX0_goTo_61 : decode cX0_goTo 61 = .ok (.bipush 6, 2) := dk_dX0_goTo_33_8.2.2.2.2.2.2.1
theorem dX0_goTo_63 : decode cX0_goTo 63 = .ok (.if_icmp .ge 31, 3) := dk_dX0_goTo_33_8.2.2.2.2.2.2.2.1
theorem dk_dX0_goTo_66 : dz_C cX0_goTo [(66, .aload_n 0, 1), (67, .getfield 18, 3), (70, .aload_n 0, 1), (71, .getfield 25, 3), (74, .bipush 6, 2), (76, .imul, 1), (77, .iload_n 3, 1), (78, .iadd, 1), (79, .aload_n 0, 1), (80, .getfield 29, 3), (83, .iload_n 3, 1), (84, .invokevirtual 49, 3), (87, .iastore, 1), (88, .iinc 3 1, 3), (91, .goto (-31), 3), (94, .aload_n 0, 1)] := dz_of (by decide +kernel)
theorem dX0_goTo_66 : decode cX0_goTo 66 = .ok (.aload_n 0, 1) := dk_dX0_goTo_66.1
theorem dX0_goTo_67 : decode cX0_goTo 67 = .ok (.getfield 18, 3) := dk_dX0_goTo_66.2.1
theorem dX0_goTo_70 : decode cX0_goTo 70 = .ok (.aload_n 0, 1) := dk_dX0_goTo_66.2.2.1
theorem dX0_goTo_71 : decode cX0_goTo 71 = .ok (.getfield 25, 3) := dk_dX0_goTo_66.2.2.2.1
theorem dX0_goTo_74 : decode cX0_goTo 74 = .ok (.bipush 6, 2) := dk_dX0_goTo_66.2.2.2.2.1
theorem dX0_goTo_76 : decode cX0_goTo 76 = .ok (.imul, 1) := dk_dX0_goTo_66.2.2.2.2.2.1
theorem dX0_goTo_77 : decode cX0_goTo 77 = .ok (.iload_n 3, 1) := dk_dX0_goTo_66.2.2.2.2.2.2.1
theorem dX0_goTo_78 : decode cX0_goTo 78 = .ok (.iadd, 1) := dk_dX0_goTo_66.2.2.2.2.2.2.2.1
theorem dk_dX0_goTo_66_8 : dz_C cX0_goTo [(79, .aload_n 0, 1), (80, .getfield 29, 3), (83, .iload_n 3, 1), (84, .invokevirtual 49, 3), (87, .iastore, 1), (88, .iinc 3 1, 3), (91, .goto (-31), 3), (94, .aload_n 0, 1)] := dk_dX0_goTo_66.2.2.2.2.2.2.2.2
theorem dX0_goTo_79 : decode cX0_goTo 79 = .ok (.aload_n 0, 1) := dk_dX0_goTo_66_8.1
theorem dX0_goTo_80 : decode cX0_goTo 80 = .ok (.getfield 29, 3) := dk_dX0_goTo_66_8.2.1
theorem dX0_goTo_83 : decode cX0_goTo 83 = .ok (.iload_n 3, 1) := dk_dX0_goTo_66_8.2.2.1
theorem dX0_goTo_84 : decode cX0_goTo 84 = .ok (.invokevirtual 49, 3) := dk_dX0_goTo_66_8.2.2.2.1
theorem dX0_goTo_87 : decode cX0_goTo 87 = .ok (.iastore, 1) := dk_dX0_goTo_66_8.2.2.2.2.1
theorem dX0_goTo_88 : decode cX0_goTo 88 = .ok (.iinc 3 1, 3) := dk_dX0_goTo_66_8.2.2.2.2.2.1
theorem dX0_goTo_91 : decode cX0_goTo 91 = .ok (.goto (-31), 3) := dk_dX0_goTo_66_8.2.2.2.2.2.2.1
theorem dX0_goTo_94 : decode cX0_goTo 94 = .ok (.aload_n 0, 1) := dk_dX0_goTo_66_8.2.2.2.2.2.2.2.1
theorem dk_dX0_goTo_95 : dz_C cX0_goTo [(95, .getfield 29, 3), (98, .aload_n 0, 1), (99, .getfield 12, 3), (102, .invokevirtual 52, 3), (105, .aload_n 0, 1), (106, .getfield 12, 3), (109, .getfield 55, 3), (112, .iconst 0, 1), (113, .aload_n 0, 1), (114, .getfield 22, 3), (117, .aload_n 0, 1), (118, .getfield 25, 3), (121, .bipush 6, 2), (123, .imul, 1), (124, .bipush 6, 2), (126, .invokestatic 56, 3)] := dz_of (by decide +kernel)
theorem dX0_goTo_95 : decode cX0_goTo 95 = .ok (.getfield 29, 3) := dk_dX0_goTo_95.1
theorem dX0_goTo_98 : decode cX0_goTo 98 = .ok (.aload_n 0, 1) := dk_dX0_goTo_95.2.1
theorem dX0_goTo_99 : decode cX0_goTo 99 = .ok (.getfield 12, 3) := dk_dX0_goTo_95.2.2.1
theorem dX0_goTo_102 : decode cX0_goTo 102 = .ok (.invokevirtual 52, 3) := dk_dX0_goTo_95.2.2.2.1
theorem dX0_goTo_105 : decode cX0_goTo 105 = .ok (.aload_n 0, 1) := dk_dX0_goTo_95.2.2.2.2.1
theorem dX0_goTo_106 : decode cX0_goTo 106 = .ok (.getfield 12, 3) := dk_dX0_goTo_95.2.2.2.2.2.1
theorem dX0_goTo_109 : decode cX0_goTo 109 = .ok (.getfield 55, 3) := dk_dX0_goTo_95.2.2.2.2.2.2.1
theorem dX0_goTo_112 : decode cX0_goTo 112 = .ok (.iconst 0, 1) := dk_dX0_goTo_95.2.2.2.2.2.2.2.1
theorem dk_dX0_goTo_95_8 : dz_C cX0_goTo [(113, .aload_n 0, 1), (114, .getfield 22, 3), (117, .aload_n 0, 1), (118, .getfield 25, 3), (121, .bipush 6, 2), (123, .imul, 1), (124, .bipush 6, 2), (126, .invokestatic 56, 3)] := dk_dX0_goTo_95.2.2.2.2.2.2.2.2
theorem dX0_goTo_113 : decode cX0_goTo 113 = .ok (.aload_n 0, 1) := dk_dX0_goTo_95_8.1
theorem dX0_goTo_114 : decode cX0_goTo 114 = .ok (.getfield 22, 3) := dk_dX0_goTo_95_8.2.1
theorem dX0_goTo_117 : decode cX0_goTo 117 = .ok (.aload_n 0, 1) := dk_dX0_goTo_95_8.2.2.1
theorem dX0_goTo_118 : decode cX0_goTo 118 = .ok (.getfield 25, 3) := dk_dX0_goTo_95_8.2.2.2.1
theorem dX0_goTo_121 : decode cX0_goTo 121 = .ok (.bipush 6, 2) := dk_dX0_goTo_95_8.2.2.2.2.1
theorem dX0_goTo_123 : decode cX0_goTo 123 = .ok (.imul, 1) := dk_dX0_goTo_95_8.2.2.2.2.2.1
theorem dX0_goTo_124 : decode cX0_goTo 124 = .ok (.bipush 6, 2) := dk_dX0_goTo_95_8.2.2.2.2.2.2.1
theorem dX0_goTo_126 : decode cX0_goTo 126 = .ok (.invokestatic 56, 3) := dk_dX0_goTo_95_8.2.2.2.2.2.2.2.1
theorem dk_dX0_goTo_129 : dz_C cX0_goTo [(129, .aload_n 0, 1), (130, .dup, 1), (131, .getfield 25, 3), (134, .iconst 1, 1), (135, .iadd, 1), (136, .putfield 25, 3), (139, .goto (-124), 3), (142, .return_, 1)] := dz_of (by decide +kernel)
theorem dX0_goTo_129 : decode cX0_goTo 129 = .ok (.aload_n 0, 1) := dk_dX0_goTo_129.1
theorem dX0_goTo_130 : decode cX0_goTo 130 = .ok (.dup, 1) := dk_dX0_goTo_129.2.1
theorem dX0_goTo_131 : decode cX0_goTo 131 = .ok (.getfield 25, 3) := dk_dX0_goTo_129.2.2.1
theorem dX0_goTo_134 : decode cX0_goTo 134 = .ok (.iconst 1, 1) := dk_dX0_goTo_129.2.2.2.1
theorem dX0_goTo_135 : decode cX0_goTo 135 = .ok (.iadd, 1) := dk_dX0_goTo_129.2.2.2.2.1
theorem dX0_goTo_136 : decode cX0_goTo 136 = .ok (.putfield 25, 3) := dk_dX0_goTo_129.2.2.2.2.2.1
theorem dX0_goTo_139 : decode cX0_goTo 139 = .ok (.goto (-124), 3) := dk_dX0_goTo_129.2.2.2.2.2.2.1
theorem dX0_goTo_142 : decode cX0_goTo 142 = .ok (.return_, 1) := dk_dX0_goTo_129.2.2.2.2.2.2.2.1
theorem dk_dX0_init_0 : dz_C cX0_init [(0, .aload_n 0, 1), (1, .invokespecial 3, 3), (4, .aload_n 0, 1), (5, .new 9, 3), (8, .dup, 1), (9, .invokespecial 11, 3), (12, .putfield 12, 3), (15, .aload_n 0, 1), (16, .sipush 180, 3), (19, .newarray .int, 2), (21, .putfield 18, 3), (24, .aload_n 0, 1), (25, .sipush 180, 3), (28, .newarray .int, 2), (30, .putfield 22, 3), (33, .aload_n 0, 1)] := dz_of (by decide +kernel)
theorem dX0_init_0 : decode cX0_init 0 = .ok (.aload_n 0, 1) := dk_dX0_init_0.1
theorem dX0_init_1 : decode cX0_init 1 = .ok (.invokespecial 3, 3) := dk_dX0_init_0.2.1
theorem dX0_init_4 : decode cX0_init 4 = .ok (.aload_n 0, 1) := dk_dX0_init_0.2.2.1
theorem dX0_init_5 : decode cX0_init 5 = .ok (.new 9, 3) := dk_dX0_init_0.2.2.2.1
theorem dX0_init_8 : decode cX0_init 8 = .ok (.dup, 1) := dk_dX0_init_0.2.2.2.2.1
theorem dX0_init_9 : decode cX0_init 9 = .ok (.invokespecial 11, 3) := dk_dX0_init_0.2.2.2.2.2.1
theorem dX0_init_12 : decode cX0_init 12 = .ok (.putfield 12, 3) := dk_dX0_init_0.2.2.2.2.2.2.1
theorem dX0_init_15 : decode cX0_init 15 = .ok (.aload_n 0, 1) := dk_dX0_init_0.2.2.2.2.2.2.2.1
theorem dk_dX0_init_0_8 : dz_C cX0_init [(16, .sipush 180, 3), (19, .newarray .int, 2), (21, .putfield 18, 3), (24, .aload_n 0, 1), (25, .sipush 180, 3), (28, .newarray .int, 2), (30, .putfield 22, 3), (33, .aload_n 0, 1)] := dk_dX0_init_0.2.2.2.2.2.2.2.2
theorem dX0_init_16 : decode cX0_init 16 = .ok (.sipush 180, 3) := dk_dX0_init_0_8.1
theorem dX0_init_19 : decode cX0_init 19 = .ok (.newarray .int, 2) := dk_dX0_init_0_8.2.1
theorem dX0_init_21 : decode cX0_init 21 = .ok (.putfield 18, 3) := dk_dX0_init_0_8.2.2.1
theorem dX0_init_24 : decode cX0_init 24 = .ok (.aload_n 0, 1) := dk_dX0_init_0_8.2.2.2.1
theorem dX0_init_25 : decode cX0_init 25 = .ok (.sipush 180, 3) := dk_dX0_init_0_8.2.2.2.2.1
theorem dX0_init_28 : decode cX0_init 28 = .ok (.newarray .int, 2) := dk_dX0_init_0_8.2.2.2.2.2.1
theorem dX0_init_30 : decode cX0_init 30 = .ok (.putfield 22, 3) := dk_dX0_init_0_8.2.2.2.2.2.2.1
theorem dX0_init_33 : decode cX0_init 33 = .ok (.aload_n 0, 1) := dk_dX0_init_0_8.2.2.2.2.2.2.2.1
theorem dk_dX0_init_34 : dz_C cX0_init [(34, .iconst 0, 1), (35, .putfield 25, 3), (38, .aload_n 0, 1), (39, .aload_n 1, 1), (40, .putfield 29, 3), (43, .return_, 1)] := dz_of (by decide +kernel)
theorem dX0_init_34 : decode cX0_init 34 = .ok (.iconst 0, 1) := dk_dX0_init_34.1
theorem dX0_init_35 : decode cX0_init 35 = .ok (.putfield 25, 3) := dk_dX0_init_34.2.1
theorem dX0_init_38 : decode cX0_init 38 = .ok (.aload_n 0, 1) := dk_dX0_init_34.2.2.1
theorem dX0_init_39 : decode cX0_init 39 = .ok (.aload_n 1, 1) := dk_dX0_init_34.2.2.2.1
theorem dX0_init_40 : decode cX0_init 40 = .ok (.putfield 29, 3) := dk_dX0_init_34.2.2.2.2.1
theorem dX0_init_43 : decode cX0_init 43 = .ok (.return_, 1) := dk_dX0_init_34.2.2.2.2.2.1
theorem dk_dX1_bestOf_0 : dz_C cX1_bestOf [(0, .aload_n 0, 1), (1, .getfield 15, 3), (4, .ifCond .ne 79, 3), (7, .aload_n 0, 1), (8, .getfield 11, 3), (11, .iconst (-1), 1), (12, .invokestatic 23, 3), (15, .aload_n 0, 1), (16, .getfield 19, 3), (19, .bipush 40, 2), (21, .invokevirtual 29, 3), (24, .istore 4, 2), (26, .iconst 1, 1), (27, .istore 5, 2), (29, .iload 5, 2), (31, .iload 4, 2)] := dz_of (by decide +kernel)
theorem dX1_bestOf_0 : decode cX1_bestOf 0 = .ok (.aload_n 0, 1) := dk_dX1_bestOf_0.1
theorem dX1_bestOf_1 : decode cX1_bestOf 1 = .ok (.getfield 15, 3) := dk_dX1_bestOf_0.2.1
theorem dX1_bestOf_4 : decode cX1_bestOf 4 = .ok (.ifCond .ne 79, 3) := dk_dX1_bestOf_0.2.2.1
theorem dX1_bestOf_7 : decode cX1_bestOf 7 = .ok (.aload_n 0, 1) := dk_dX1_bestOf_0.2.2.2.1
theorem dX1_bestOf_8 : decode cX1_bestOf 8 = .ok (.getfield 11, 3) := dk_dX1_bestOf_0.2.2.2.2.1
theorem dX1_bestOf_11 : decode cX1_bestOf 11 = .ok (.iconst (-1), 1) := dk_dX1_bestOf_0.2.2.2.2.2.1
theorem dX1_bestOf_12 : decode cX1_bestOf 12 = .ok (.invokestatic 23, 3) := dk_dX1_bestOf_0.2.2.2.2.2.2.1
theorem dX1_bestOf_15 : decode cX1_bestOf 15 = .ok (.aload_n 0, 1) := dk_dX1_bestOf_0.2.2.2.2.2.2.2.1
theorem dk_dX1_bestOf_0_8 : dz_C cX1_bestOf [(16, .getfield 19, 3), (19, .bipush 40, 2), (21, .invokevirtual 29, 3), (24, .istore 4, 2), (26, .iconst 1, 1), (27, .istore 5, 2), (29, .iload 5, 2), (31, .iload 4, 2)] := dk_dX1_bestOf_0.2.2.2.2.2.2.2.2
theorem dX1_bestOf_16 : decode cX1_bestOf 16 = .ok (.getfield 19, 3) := dk_dX1_bestOf_0_8.1
theorem dX1_bestOf_19 : decode cX1_bestOf 19 = .ok (.bipush 40, 2) := dk_dX1_bestOf_0_8.2.1
theorem dX1_bestOf_21 : decode cX1_bestOf 21 = .ok (.invokevirtual 29, 3) := dk_dX1_bestOf_0_8.2.2.1
theorem dX1_bestOf_24 : decode cX1_bestOf 24 = .ok (.istore 4, 2) := dk_dX1_bestOf_0_8.2.2.2.1
theorem dX1_bestOf_26 : decode cX1_bestOf 26 = .ok (.iconst 1, 1) := dk_dX1_bestOf_0_8.2.2.2.2.1
theorem dX1_bestOf_27 : decode cX1_bestOf 27 = .ok (.istore 5, 2) := dk_dX1_bestOf_0_8.2.2.2.2.2.1
theorem dX1_bestOf_29 : decode cX1_bestOf 29 = .ok (.iload 5, 2) := dk_dX1_bestOf_0_8.2.2.2.2.2.2.1
theorem dX1_bestOf_31 : decode cX1_bestOf 31 = .ok (.iload 4, 2) := dk_dX1_bestOf_0_8.2.2.2.2.2.2.2.1
theorem dk_dX1_bestOf_33 : dz_C cX1_bestOf [(33, .if_icmp .gt 45, 3), (36, .iconst 0, 1), (37, .istore 6, 2), (39, .iload 6, 2), (41, .iconst 3, 1), (42, .if_icmp .ge 30, 3), (45, .aload_n 0, 1), (46, .getfield 19, 3), (49, .aload_n 1, 1), (50, .iload 6, 2), (52, .iload 5, 2), (54, .iconst 0, 1), (55, .invokevirtual 35, 3), (58, .aload_n 0, 1), (59, .iload 6, 2), (61, .iload 5, 2)] := dz_of (by decide +kernel)
theorem dX1_bestOf_33 : decode cX1_bestOf 33 = .ok (.if_icmp .gt 45, 3) := dk_dX1_bestOf_33.1
theorem dX1_bestOf_36 : decode cX1_bestOf 36 = .ok (.iconst 0, 1) := dk_dX1_bestOf_33.2.1
theorem dX1_bestOf_37 : decode cX1_bestOf 37 = .ok (.istore 6, 2) := dk_dX1_bestOf_33.2.2.1
theorem dX1_bestOf_39 : decode cX1_bestOf 39 = .ok (.iload 6, 2) := dk_dX1_bestOf_33.2.2.2.1
theorem dX1_bestOf_41 : decode cX1_bestOf 41 = .ok (.iconst 3, 1) := dk_dX1_bestOf_33.2.2.2.2.1
theorem dX1_bestOf_42 : decode cX1_bestOf 42 = .ok (.if_icmp .ge 30, 3) := dk_dX1_bestOf_33.2.2.2.2.2.1
theorem dX1_bestOf_45 : decode cX1_bestOf 45 = .ok (.aload_n 0, 1) := dk_dX1_bestOf_33.2.2.2.2.2.2.1
theorem dX1_bestOf_46 : decode cX1_bestOf 46 = .ok (.getfield 19, 3) := dk_dX1_bestOf_33.2.2.2.2.2.2.2.1
theorem dk_dX1_bestOf_33_8 : dz_C cX1_bestOf [(49, .aload_n 1, 1), (50, .iload 6, 2), (52, .iload 5, 2), (54, .iconst 0, 1), (55, .invokevirtual 35, 3), (58, .aload_n 0, 1), (59, .iload 6, 2), (61, .iload 5, 2)] := dk_dX1_bestOf_33.2.2.2.2.2.2.2.2
theorem dX1_bestOf_49 : decode cX1_bestOf 49 = .ok (.aload_n 1, 1) := dk_dX1_bestOf_33_8.1
theorem dX1_bestOf_50 : decode cX1_bestOf 50 = .ok (.iload 6, 2) := dk_dX1_bestOf_33_8.2.1
theorem dX1_bestOf_52 : decode cX1_bestOf 52 = .ok (.iload 5, 2) := dk_dX1_bestOf_33_8.2.2.1
theorem dX1_bestOf_54 : decode cX1_bestOf 54 = .ok (.iconst 0, 1) := dk_dX1_bestOf_33_8.2.2.2.1
theorem dX1_bestOf_55 : decode cX1_bestOf 55 = .ok (.invokevirtual 35, 3) := dk_dX1_bestOf_33_8.2.2.2.2.1
theorem dX1_bestOf_58 : decode cX1_bestOf 58 = .ok (.aload_n 0, 1) := dk_dX1_bestOf_33_8.2.2.2.2.2.1
theorem dX1_bestOf_59 : decode cX1_bestOf 59 = .ok (.iload 6, 2) := dk_dX1_bestOf_33_8.2.2.2.2.2.2.1
theorem dX1_bestOf_61 : decode cX1_bestOf 61 = .ok (.iload 5, 2) := dk_dX1_bestOf_33_8.2.2.2.2.2.2.2.1
theorem dk_dX1_bestOf_63 : dz_C cX1_bestOf [(63, .invokevirtual 39, 3), (66, .iinc 6 1, 3), (69, .goto (-30), 3), (72, .iinc 5 1, 3), (75, .goto (-46), 3), (78, .aload_n 0, 1), (79, .iconst 1, 1), (80, .putfield 15, 3), (83, .aload_n 0, 1), (84, .getfield 11, 3), (87, .iload_n 2, 1), (88, .iconst 3, 1), (89, .imul, 1), (90, .iload_n 3, 1), (91, .iadd, 1), (92, .iaload, 1)] := dz_of (by decide +kernel)
theorem dX1_bestOf_63 : decode cX1_bestOf 63 = .ok (.invokevirtual 39, 3) := dk_dX1_bestOf_63.1
theorem dX1_bestOf_66 : decode cX1_bestOf 66 = .ok (.iinc 6 1, 3) := dk_dX1_bestOf_63.2.1
theorem dX1_bestOf_69 : decode cX1_bestOf 69 = .ok (.goto (-30), 3) := dk_dX1_bestOf_63.2.2.1
theorem dX1_bestOf_72 : decode cX1_bestOf 72 = .ok (.iinc 5 1, 3) := dk_dX1_bestOf_63.2.2.2.1
theorem dX1_bestOf_75 : decode cX1_bestOf 75 = .ok (.goto (-46), 3) := dk_dX1_bestOf_63.2.2.2.2.1
theorem dX1_bestOf_78 : decode cX1_bestOf 78 = .ok (.aload_n 0, 1) := dk_dX1_bestOf_63.2.2.2.2.2.1
theorem dX1_bestOf_79 : decode cX1_bestOf 79 = .ok (.iconst 1, 1) := dk_dX1_bestOf_63.2.2.2.2.2.2.1
theorem dX1_bestOf_80 : decode cX1_bestOf 80 = .ok (.putfield 15, 3) := dk_dX1_bestOf_63.2.2.2.2.2.2.2.1
theorem dk_dX1_bestOf_63_8 : dz_C cX1_bestOf [(83, .aload_n 0, 1), (84, .getfield 11, 3), (87, .iload_n 2, 1), (88, .iconst 3, 1), (89, .imul, 1), (90, .iload_n 3, 1), (91, .iadd, 1), (92, .iaload, 1)] := dk_dX1_bestOf_63.2.2.2.2.2.2.2.2
theorem dX1_bestOf_83 : decode cX1_bestOf 83 = .ok (.aload_n 0, 1) := dk_dX1_bestOf_63_8.1
theorem dX1_bestOf_84 : decode cX1_bestOf 84 = .ok (.getfield 11, 3) := dk_dX1_bestOf_63_8.2.1
theorem dX1_bestOf_87 : decode cX1_bestOf 87 = .ok (.iload_n 2, 1) := dk_dX1_bestOf_63_8.2.2.1
theorem dX1_bestOf_88 : decode cX1_bestOf 88 = .ok (.iconst 3, 1) := dk_dX1_bestOf_63_8.2.2.2.1
theorem dX1_bestOf_89 : decode cX1_bestOf 89 = .ok (.imul, 1) := dk_dX1_bestOf_63_8.2.2.2.2.1
theorem dX1_bestOf_90 : decode cX1_bestOf 90 = .ok (.iload_n 3, 1) := dk_dX1_bestOf_63_8.2.2.2.2.2.1
theorem dX1_bestOf_91 : decode cX1_bestOf 91 = .ok (.iadd, 1) := dk_dX1_bestOf_63_8.2.2.2.2.2.2.1
theorem dX1_bestOf_92 : decode cX1_bestOf 92 = .ok (.iaload, 1) := dk_dX1_bestOf_63_8.2.2.2.2.2.2.2.1
theorem dk_dX1_bestOf_93 : dz_C cX1_bestOf [(93, .ireturn, 1)] := dz_of (by decide +kernel)
theorem dX1_bestOf_93 : decode cX1_bestOf 93 = .ok (.ireturn, 1) := dk_dX1_bestOf_93.1
theorem dk_dX1_enter_0 : dz_C cX1_enter [(0, .aload_n 0, 1), (1, .getfield 19, 3), (4, .iconst 0, 1), (5, .invokevirtual 43, 3), (8, .istore_n 3, 1), (9, .aload_n 0, 1), (10, .getfield 19, 3), (13, .iconst 2, 1), (14, .invokevirtual 43, 3), (17, .istore 4, 2), (19, .iload 4, 2), (21, .bipush 12, 2), (23, .if_icmp .gt 67, 3), (26, .iload 4, 2), (28, .iconst 3, 1), (29, .imul, 1)] := dz_of (by decide +kernel)
theorem dX1_enter_0 : decode cX1_enter 0 = .ok (.aload_n 0, 1) := dk_dX1_enter_0.1
theorem dX1_enter_1 : decode cX1_enter 1 = .ok (.getfield 19, 3) := dk_dX1_enter_0.2.1
theorem dX1_enter_4 : decode cX1_enter 4 = .ok (.iconst 0, 1) := dk_dX1_enter_0.2.2.1
theorem dX1_enter_5 : decode cX1_enter 5 = .ok (.invokevirtual 43, 3) := dk_dX1_enter_0.2.2.2.1
theorem dX1_enter_8 : decode cX1_enter 8 = .ok (.istore_n 3, 1) := dk_dX1_enter_0.2.2.2.2.1
theorem dX1_enter_9 : decode cX1_enter 9 = .ok (.aload_n 0, 1) := dk_dX1_enter_0.2.2.2.2.2.1
theorem dX1_enter_10 : decode cX1_enter 10 = .ok (.getfield 19, 3) := dk_dX1_enter_0.2.2.2.2.2.2.1
theorem dX1_enter_13 : decode cX1_enter 13 = .ok (.iconst 2, 1) := dk_dX1_enter_0.2.2.2.2.2.2.2.1
theorem dk_dX1_enter_0_8 : dz_C cX1_enter [(14, .invokevirtual 43, 3), (17, .istore 4, 2), (19, .iload 4, 2), (21, .bipush 12, 2), (23, .if_icmp .gt 67, 3), (26, .iload 4, 2), (28, .iconst 3, 1), (29, .imul, 1)] := dk_dX1_enter_0.2.2.2.2.2.2.2.2
theorem dX1_enter_14 : decode cX1_enter 14 = .ok (.invokevirtual 43, 3) := dk_dX1_enter_0_8.1
theorem dX1_enter_17 : decode cX1_enter 17 = .ok (.istore 4, 2) := dk_dX1_enter_0_8.2.1
theorem dX1_enter_19 : decode cX1_enter 19 = .ok (.iload 4, 2) := dk_dX1_enter_0_8.2.2.1
theorem dX1_enter_21 : decode cX1_enter 21 = .ok (.bipush 12, 2) := dk_dX1_enter_0_8.2.2.2.1
theorem dX1_enter_23 : decode cX1_enter 23 = .ok (.if_icmp .gt 67, 3) := dk_dX1_enter_0_8.2.2.2.2.1
theorem dX1_enter_26 : decode cX1_enter 26 = .ok (.iload 4, 2) := dk_dX1_enter_0_8.2.2.2.2.2.1
theorem dX1_enter_28 : decode cX1_enter 28 = .ok (.iconst 3, 1) := dk_dX1_enter_0_8.2.2.2.2.2.2.1
theorem dX1_enter_29 : decode cX1_enter 29 = .ok (.imul, 1) := dk_dX1_enter_0_8.2.2.2.2.2.2.2.1
theorem dk_dX1_enter_30 : dz_C cX1_enter [(30, .istore 5, 2), (32, .aload_n 0, 1), (33, .getfield 11, 3), (36, .iload 5, 2), (38, .iaload, 1), (39, .iconst (-1), 1), (40, .if_icmp .eq 16, 3), (43, .iload_n 3, 1), (44, .aload_n 0, 1), (45, .getfield 11, 3), (48, .iload 5, 2), (50, .iconst 2, 1), (51, .iadd, 1), (52, .iaload, 1), (53, .if_icmp .ge 31, 3), (56, .aload_n 0, 1)] := dz_of (by decide +kernel)
theorem dX1_enter_30 : decode cX1_enter 30 = .ok (.istore 5, 2) := dk_dX1_enter_30.1
theorem dX1_enter_32 : decode cX1_enter 32 = .ok (.aload_n 0, 1) := dk_dX1_enter_30.2.1
theorem dX1_enter_33 : decode cX1_enter 33 = .ok (.getfield 11, 3) := dk_dX1_enter_30.2.2.1
theorem dX1_enter_36 : decode cX1_enter 36 = .ok (.iload 5, 2) := dk_dX1_enter_30.2.2.2.1
theorem dX1_enter_38 : decode cX1_enter 38 = .ok (.iaload, 1) := dk_dX1_enter_30.2.2.2.2.1
theorem dX1_enter_39 : decode cX1_enter 39 = .ok (.iconst (-1), 1) := dk_dX1_enter_30.2.2.2.2.2.1
theorem dX1_enter_40 : decode cX1_enter 40 = .ok (.if_icmp .eq 16, 3) := dk_dX1_enter_30.2.2.2.2.2.2.1
theorem dX1_enter_43 : decode cX1_enter 43 = .ok (.iload_n 3, 1) := dk_dX1_enter_30.2.2.2.2.2.2.2.1
theorem dk_dX1_enter_30_8 : dz_C cX1_enter [(44, .aload_n 0, 1), (45, .getfield 11, 3), (48, .iload 5, 2), (50, .iconst 2, 1), (51, .iadd, 1), (52, .iaload, 1), (53, .if_icmp .ge 31, 3), (56, .aload_n 0, 1)] := dk_dX1_enter_30.2.2.2.2.2.2.2.2
theorem dX1_enter_44 : decode cX1_enter 44 = .ok (.aload_n 0, 1) := dk_dX1_enter_30_8.1
theorem dX1_enter_45 : decode cX1_enter 45 = .ok (.getfield 11, 3) := dk_dX1_enter_30_8.2.1
theorem dX1_enter_48 : decode cX1_enter 48 = .ok (.iload 5, 2) := dk_dX1_enter_30_8.2.2.1
theorem dX1_enter_50 : decode cX1_enter 50 = .ok (.iconst 2, 1) := dk_dX1_enter_30_8.2.2.2.1
theorem dX1_enter_51 : decode cX1_enter 51 = .ok (.iadd, 1) := dk_dX1_enter_30_8.2.2.2.2.1
theorem dX1_enter_52 : decode cX1_enter 52 = .ok (.iaload, 1) := dk_dX1_enter_30_8.2.2.2.2.2.1
theorem dX1_enter_53 : decode cX1_enter 53 = .ok (.if_icmp .ge 31, 3) := dk_dX1_enter_30_8.2.2.2.2.2.2.1
theorem dX1_enter_56 : decode cX1_enter 56 = .ok (.aload_n 0, 1) := dk_dX1_enter_30_8.2.2.2.2.2.2.2.1
theorem dk_dX1_enter_57 : dz_C cX1_enter [(57, .getfield 11, 3), (60, .iload 5, 2), (62, .iload_n 1, 1), (63, .iastore, 1), (64, .aload_n 0, 1), (65, .getfield 11, 3), (68, .iload 5, 2), (70, .iconst 1, 1), (71, .iadd, 1), (72, .iload_n 2, 1), (73, .iastore, 1), (74, .aload_n 0, 1), (75, .getfield 11, 3), (78, .iload 5, 2), (80, .iconst 2, 1), (81, .iadd, 1)] := dz_of (by decide +kernel)
theorem dX1_enter_57 : decode cX1_enter 57 = .ok (.getfield 11, 3) := dk_dX1_enter_57.1
theorem dX1_enter_60 : decode cX1_enter 60 = .ok (.iload 5, 2) := dk_dX1_enter_57.2.1
theorem dX1_enter_62 : decode cX1_enter 62 = .ok (.iload_n 1, 1) := dk_dX1_enter_57.2.2.1
theorem dX1_enter_63 : decode cX1_enter 63 = .ok (.iastore, 1) := dk_dX1_enter_57.2.2.2.1
theorem dX1_enter_64 : decode cX1_enter 64 = .ok (.aload_n 0, 1) := dk_dX1_enter_57.2.2.2.2.1
theorem dX1_enter_65 : decode cX1_enter 65 = .ok (.getfield 11, 3) := dk_dX1_enter_57.2.2.2.2.2.1
theorem dX1_enter_68 : decode cX1_enter 68 = .ok (.iload 5, 2) := dk_dX1_enter_57.2.2.2.2.2.2.1
theorem dX1_enter_70 : decode cX1_enter 70 = .ok (.iconst 1, 1) := dk_dX1_enter_57.2.2.2.2.2.2.2.1
theorem dk_dX1_enter_57_8 : dz_C cX1_enter [(71, .iadd, 1), (72, .iload_n 2, 1), (73, .iastore, 1), (74, .aload_n 0, 1), (75, .getfield 11, 3), (78, .iload 5, 2), (80, .iconst 2, 1), (81, .iadd, 1)] := dk_dX1_enter_57.2.2.2.2.2.2.2.2
theorem dX1_enter_71 : decode cX1_enter 71 = .ok (.iadd, 1) := dk_dX1_enter_57_8.1
theorem dX1_enter_72 : decode cX1_enter 72 = .ok (.iload_n 2, 1) := dk_dX1_enter_57_8.2.1
theorem dX1_enter_73 : decode cX1_enter 73 = .ok (.iastore, 1) := dk_dX1_enter_57_8.2.2.1
theorem dX1_enter_74 : decode cX1_enter 74 = .ok (.aload_n 0, 1) := dk_dX1_enter_57_8.2.2.2.1
theorem dX1_enter_75 : decode cX1_enter 75 = .ok (.getfield 11, 3) := dk_dX1_enter_57_8.2.2.2.2.1
theorem dX1_enter_78 : decode cX1_enter 78 = .ok (.iload 5, 2) := dk_dX1_enter_57_8.2.2.2.2.2.1
theorem dX1_enter_80 : decode cX1_enter 80 = .ok (.iconst 2, 1) := dk_dX1_enter_57_8.2.2.2.2.2.2.1
theorem dX1_enter_81 : decode cX1_enter 81 = .ok (.iadd, 1) := dk_dX1_enter_57_8.2.2.2.2.2.2.2.1
theorem dk_dX1_enter_82 : dz_C cX1_enter [(82, .iload_n 3, 1), (83, .iastore, 1), (84, .iinc 4 1, 3), (87, .goto (-68), 3), (90, .return_, 1)] := dz_of (by decide +kernel)
theorem dX1_enter_82 : decode cX1_enter 82 = .ok (.iload_n 3, 1) := dk_dX1_enter_82.1
theorem dX1_enter_83 : decode cX1_enter 83 = .ok (.iastore, 1) := dk_dX1_enter_82.2.1
theorem dX1_enter_84 : decode cX1_enter 84 = .ok (.iinc 4 1, 3) := dk_dX1_enter_82.2.2.1
theorem dX1_enter_87 : decode cX1_enter 87 = .ok (.goto (-68), 3) := dk_dX1_enter_82.2.2.2.1
theorem dX1_enter_90 : decode cX1_enter 90 = .ok (.return_, 1) := dk_dX1_enter_82.2.2.2.2.1
theorem dk_dX1_forget_0 : dz_C cX1_forget [(0, .aload_n 0, 1), (1, .iconst 0, 1), (2, .putfield 15, 3), (5, .return_, 1)] := dz_of (by decide +kernel)
theorem dX1_forget_0 : decode cX1_forget 0 = .ok (.aload_n 0, 1) := dk_dX1_forget_0.1
theorem dX1_forget_1 : decode cX1_forget 1 = .ok (.iconst 0, 1) := dk_dX1_forget_0.2.1
theorem dX1_forget_2 : decode cX1_forget 2 = .ok (.putfield 15, 3) := dk_dX1_forget_0.2.2.1
theorem dX1_forget_5 : decode cX1_forget 5 = .ok (.return_, 1) := dk_dX1_forget_0.2.2.2.1
theorem dk_dX1_holders_0 : dz_C cX1_holders [(0, .aload_n 0, 1), (1, .getfield 19, 3), (4, .invokevirtual 56, 3), (7, .istore_n 1, 1), (8, .iload_n 1, 1), (9, .invokestatic 60, 3), (12, .iconst 3, 1), (13, .if_icmp .gt 7, 3), (16, .iload_n 1, 1), (17, .goto 4, 3), (20, .iconst (-1), 1), (21, .ireturn, 1)] := dz_of (by decide +kernel)
theorem dX1_holders_0 : decode cX1_holders 0 = .ok (.aload_n 0, 1) := dk_dX1_holders_0.1
theorem dX1_holders_1 : decode cX1_holders 1 = .ok (.getfield 19, 3) := dk_dX1_holders_0.2.1
theorem dX1_holders_4 : decode cX1_holders 4 = .ok (.invokevirtual 56, 3) := dk_dX1_holders_0.2.2.1
theorem dX1_holders_7 : decode cX1_holders 7 = .ok (.istore_n 1, 1) := dk_dX1_holders_0.2.2.2.1
theorem dX1_holders_8 : decode cX1_holders 8 = .ok (.iload_n 1, 1) := dk_dX1_holders_0.2.2.2.2.1
theorem dX1_holders_9 : decode cX1_holders 9 = .ok (.invokestatic 60, 3) := dk_dX1_holders_0.2.2.2.2.2.1
theorem dX1_holders_12 : decode cX1_holders 12 = .ok (.iconst 3, 1) := dk_dX1_holders_0.2.2.2.2.2.2.1
theorem dX1_holders_13 : decode cX1_holders 13 = .ok (.if_icmp .gt 7, 3) := dk_dX1_holders_0.2.2.2.2.2.2.2.1
theorem dk_dX1_holders_0_8 : dz_C cX1_holders [(16, .iload_n 1, 1), (17, .goto 4, 3), (20, .iconst (-1), 1), (21, .ireturn, 1)] := dk_dX1_holders_0.2.2.2.2.2.2.2.2
theorem dX1_holders_16 : decode cX1_holders 16 = .ok (.iload_n 1, 1) := dk_dX1_holders_0_8.1
theorem dX1_holders_17 : decode cX1_holders 17 = .ok (.goto 4, 3) := dk_dX1_holders_0_8.2.1
theorem dX1_holders_20 : decode cX1_holders 20 = .ok (.iconst (-1), 1) := dk_dX1_holders_0_8.2.2.1
theorem dX1_holders_21 : decode cX1_holders 21 = .ok (.ireturn, 1) := dk_dX1_holders_0_8.2.2.2.1
theorem dk_dX1_init_0 : dz_C cX1_init [(0, .aload_n 0, 1), (1, .invokespecial 3, 3), (4, .aload_n 0, 1), (5, .bipush 39, 2), (7, .newarray .int, 2), (9, .putfield 11, 3), (12, .aload_n 0, 1), (13, .iconst 0, 1), (14, .putfield 15, 3), (17, .aload_n 0, 1), (18, .aload_n 1, 1), (19, .putfield 19, 3), (22, .return_, 1)] := dz_of (by decide +kernel)
theorem dX1_init_0 : decode cX1_init 0 = .ok (.aload_n 0, 1) := dk_dX1_init_0.1
theorem dX1_init_1 : decode cX1_init 1 = .ok (.invokespecial 3, 3) := dk_dX1_init_0.2.1
theorem dX1_init_4 : decode cX1_init 4 = .ok (.aload_n 0, 1) := dk_dX1_init_0.2.2.1
theorem dX1_init_5 : decode cX1_init 5 = .ok (.bipush 39, 2) := dk_dX1_init_0.2.2.2.1
theorem dX1_init_7 : decode cX1_init 7 = .ok (.newarray .int, 2) := dk_dX1_init_0.2.2.2.2.1
theorem dX1_init_9 : decode cX1_init 9 = .ok (.putfield 11, 3) := dk_dX1_init_0.2.2.2.2.2.1
theorem dX1_init_12 : decode cX1_init 12 = .ok (.aload_n 0, 1) := dk_dX1_init_0.2.2.2.2.2.2.1
theorem dX1_init_13 : decode cX1_init 13 = .ok (.iconst 0, 1) := dk_dX1_init_0.2.2.2.2.2.2.2.1
theorem dk_dX1_init_0_8 : dz_C cX1_init [(14, .putfield 15, 3), (17, .aload_n 0, 1), (18, .aload_n 1, 1), (19, .putfield 19, 3), (22, .return_, 1)] := dk_dX1_init_0.2.2.2.2.2.2.2.2
theorem dX1_init_14 : decode cX1_init 14 = .ok (.putfield 15, 3) := dk_dX1_init_0_8.1
theorem dX1_init_17 : decode cX1_init 17 = .ok (.aload_n 0, 1) := dk_dX1_init_0_8.2.1
theorem dX1_init_18 : decode cX1_init 18 = .ok (.aload_n 1, 1) := dk_dX1_init_0_8.2.2.1
theorem dX1_init_19 : decode cX1_init 19 = .ok (.putfield 19, 3) := dk_dX1_init_0_8.2.2.2.1
theorem dX1_init_22 : decode cX1_init 22 = .ok (.return_, 1) := dk_dX1_init_0_8.2.2.2.2.1
theorem dk_dX1_leastGreen_0 : dz_C cX1_leastGreen [(0, .aload_n 0, 1), (1, .getfield 19, 3), (4, .bipush 60, 2), (6, .invokevirtual 29, 3), (9, .istore_n 2, 1), (10, .iconst 1, 1), (11, .istore_n 3, 1), (12, .iload_n 3, 1), (13, .iload_n 2, 1), (14, .if_icmp .gt 35, 3), (17, .aload_n 0, 1), (18, .getfield 19, 3), (21, .aload_n 1, 1), (22, .aload_n 1, 1), (23, .getfield 46, 3), (26, .iload_n 3, 1)] := dz_of (by decide +kernel)
theorem dX1_leastGreen_0 : decode cX1_leastGreen 0 = .ok (.aload_n 0, 1) := dk_dX1_leastGreen_0.1
theorem dX1_leastGreen_1 : decode cX1_leastGreen 1 = .ok (.getfield 19, 3) := dk_dX1_leastGreen_0.2.1
theorem dX1_leastGreen_4 : decode cX1_leastGreen 4 = .ok (.bipush 60, 2) := dk_dX1_leastGreen_0.2.2.1
theorem dX1_leastGreen_6 : decode cX1_leastGreen 6 = .ok (.invokevirtual 29, 3) := dk_dX1_leastGreen_0.2.2.2.1
theorem dX1_leastGreen_9 : decode cX1_leastGreen 9 = .ok (.istore_n 2, 1) := dk_dX1_leastGreen_0.2.2.2.2.1
theorem dX1_leastGreen_10 : decode cX1_leastGreen 10 = .ok (.iconst 1, 1) := dk_dX1_leastGreen_0.2.2.2.2.2.1
theorem dX1_leastGreen_11 : decode cX1_leastGreen 11 = .ok (.istore_n 3, 1) := dk_dX1_leastGreen_0.2.2.2.2.2.2.1
theorem dX1_leastGreen_12 : decode cX1_leastGreen 12 = .ok (.iload_n 3, 1) := dk_dX1_leastGreen_0.2.2.2.2.2.2.2.1
theorem dk_dX1_leastGreen_0_8 : dz_C cX1_leastGreen [(13, .iload_n 2, 1), (14, .if_icmp .gt 35, 3), (17, .aload_n 0, 1), (18, .getfield 19, 3), (21, .aload_n 1, 1), (22, .aload_n 1, 1), (23, .getfield 46, 3), (26, .iload_n 3, 1)] := dk_dX1_leastGreen_0.2.2.2.2.2.2.2.2
theorem dX1_leastGreen_13 : decode cX1_leastGreen 13 = .ok (.iload_n 2, 1) := dk_dX1_leastGreen_0_8.1
theorem dX1_leastGreen_14 : decode cX1_leastGreen 14 = .ok (.if_icmp .gt 35, 3) := dk_dX1_leastGreen_0_8.2.1
theorem dX1_leastGreen_17 : decode cX1_leastGreen 17 = .ok (.aload_n 0, 1) := dk_dX1_leastGreen_0_8.2.2.1
theorem dX1_leastGreen_18 : decode cX1_leastGreen 18 = .ok (.getfield 19, 3) := dk_dX1_leastGreen_0_8.2.2.2.1
theorem dX1_leastGreen_21 : decode cX1_leastGreen 21 = .ok (.aload_n 1, 1) := dk_dX1_leastGreen_0_8.2.2.2.2.1
theorem dX1_leastGreen_22 : decode cX1_leastGreen 22 = .ok (.aload_n 1, 1) := dk_dX1_leastGreen_0_8.2.2.2.2.2.1
theorem dX1_leastGreen_23 : decode cX1_leastGreen 23 = .ok (.getfield 46, 3) := dk_dX1_leastGreen_0_8.2.2.2.2.2.2.1
theorem dX1_leastGreen_26 : decode cX1_leastGreen 26 = .ok (.iload_n 3, 1) := dk_dX1_leastGreen_0_8.2.2.2.2.2.2.2.1
theorem dk_dX1_leastGreen_27 : dz_C cX1_leastGreen [(27, .iconst 0, 1), (28, .invokevirtual 35, 3), (31, .aload_n 0, 1), (32, .getfield 19, 3), (35, .invokevirtual 52, 3), (38, .ifCond .eq 5, 3), (41, .iload_n 3, 1), (42, .ireturn, 1), (43, .iinc 3 1, 3), (46, .goto (-34), 3), (49, .iconst (-1), 1), (50, .ireturn, 1)] := dz_of (by decide +kernel)
theorem dX1_leastGreen_27 : decode cX1_leastGreen 27 = .ok (.iconst 0, 1) := dk_dX1_leastGreen_27.1
theorem dX1_leastGreen_28 : decode cX1_leastGreen 28 = .ok (.invokevirtual 35, 3) := dk_dX1_leastGreen_27.2.1
theorem dX1_leastGreen_31 : decode cX1_leastGreen 31 = .ok (.aload_n 0, 1) := dk_dX1_leastGreen_27.2.2.1
theorem dX1_leastGreen_32 : decode cX1_leastGreen 32 = .ok (.getfield 19, 3) := dk_dX1_leastGreen_27.2.2.2.1
theorem dX1_leastGreen_35 : decode cX1_leastGreen 35 = .ok (.invokevirtual 52, 3) := dk_dX1_leastGreen_27.2.2.2.2.1
theorem dX1_leastGreen_38 : decode cX1_leastGreen 38 = .ok (.ifCond .eq 5, 3) := dk_dX1_leastGreen_27.2.2.2.2.2.1
theorem dX1_leastGreen_41 : decode cX1_leastGreen 41 = .ok (.iload_n 3, 1) := dk_dX1_leastGreen_27.2.2.2.2.2.2.1
theorem dX1_leastGreen_42 : decode cX1_leastGreen 42 = .ok (.ireturn, 1) := dk_dX1_leastGreen_27.2.2.2.2.2.2.2.1
theorem dk_dX1_leastGreen_27_8 : dz_C cX1_leastGreen [(43, .iinc 3 1, 3), (46, .goto (-34), 3), (49, .iconst (-1), 1), (50, .ireturn, 1)] := dk_dX1_leastGreen_27.2.2.2.2.2.2.2.2
theorem dX1_leastGreen_43 : decode cX1_leastGreen 43 = .ok (.iinc 3 1, 3) := dk_dX1_leastGreen_27_8.1
theorem dX1_leastGreen_46 : decode cX1_leastGreen 46 = .ok (.goto (-34), 3) := dk_dX1_leastGreen_27_8.2.1
theorem dX1_leastGreen_49 : decode cX1_leastGreen 49 = .ok (.iconst (-1), 1) := dk_dX1_leastGreen_27_8.2.2.1
theorem dX1_leastGreen_50 : decode cX1_leastGreen 50 = .ok (.ireturn, 1) := dk_dX1_leastGreen_27_8.2.2.2.1
theorem dk_dX2_clear_0 : dz_C cX2_clear [(0, .aload_n 0, 1), (1, .iconst 0, 1), (2, .putfield 21, 3), (5, .return_, 1)] := dz_of (by decide +kernel)
theorem dX2_clear_0 : decode cX2_clear 0 = .ok (.aload_n 0, 1) := dk_dX2_clear_0.1
theorem dX2_clear_1 : decode cX2_clear 1 = .ok (.iconst 0, 1) := dk_dX2_clear_0.2.1
theorem dX2_clear_2 : decode cX2_clear 2 = .ok (.putfield 21, 3) := dk_dX2_clear_0.2.2.1
theorem dX2_clear_5 : decode cX2_clear 5 = .ok (.return_, 1) := dk_dX2_clear_0.2.2.2.1
theorem dk_dX2_giveBack_0 : dz_C cX2_giveBack [(0, .aload_n 0, 1), (1, .getfield 21, 3), (4, .ifCond .ne 5, 3), (7, .iconst 0, 1), (8, .ireturn, 1), (9, .aload_n 0, 1), (10, .aload_n 0, 1), (11, .getfield 17, 3), (14, .bipush 20, 2), (16, .iadd, 1), (17, .iconst 1, 1), (18, .isub, 1), (19, .bipush 20, 2), (21, .irem, 1), (22, .putfield 17, 3), (25, .aload_n 0, 1)] := dz_of (by decide +kernel)
theorem dX2_giveBack_0 : decode cX2_giveBack 0 = .ok (.aload_n 0, 1) := dk_dX2_giveBack_0.1
theorem dX2_giveBack_1 : decode cX2_giveBack 1 = .ok (.getfield 21, 3) := dk_dX2_giveBack_0.2.1
theorem dX2_giveBack_4 : decode cX2_giveBack 4 = .ok (.ifCond .ne 5, 3) := dk_dX2_giveBack_0.2.2.1
theorem dX2_giveBack_7 : decode cX2_giveBack 7 = .ok (.iconst 0, 1) := dk_dX2_giveBack_0.2.2.2.1
theorem dX2_giveBack_8 : decode cX2_giveBack 8 = .ok (.ireturn, 1) := dk_dX2_giveBack_0.2.2.2.2.1
theorem dX2_giveBack_9 : decode cX2_giveBack 9 = .ok (.aload_n 0, 1) := dk_dX2_giveBack_0.2.2.2.2.2.1
theorem dX2_giveBack_10 : decode cX2_giveBack 10 = .ok (.aload_n 0, 1) := dk_dX2_giveBack_0.2.2.2.2.2.2.1
theorem dX2_giveBack_11 : decode cX2_giveBack 11 = .ok (.getfield 17, 3) := dk_dX2_giveBack_0.2.2.2.2.2.2.2.1
theorem dk_dX2_giveBack_0_8 : dz_C cX2_giveBack [(14, .bipush 20, 2), (16, .iadd, 1), (17, .iconst 1, 1), (18, .isub, 1), (19, .bipush 20, 2), (21, .irem, 1), (22, .putfield 17, 3), (25, .aload_n 0, 1)] := dk_dX2_giveBack_0.2.2.2.2.2.2.2.2
theorem dX2_giveBack_14 : decode cX2_giveBack 14 = .ok (.bipush 20, 2) := dk_dX2_giveBack_0_8.1
theorem dX2_giveBack_16 : decode cX2_giveBack 16 = .ok (.iadd, 1) := dk_dX2_giveBack_0_8.2.1
theorem dX2_giveBack_17 : decode cX2_giveBack 17 = .ok (.iconst 1, 1) := dk_dX2_giveBack_0_8.2.2.1
theorem dX2_giveBack_18 : decode cX2_giveBack 18 = .ok (.isub, 1) := dk_dX2_giveBack_0_8.2.2.2.1
theorem dX2_giveBack_19 : decode cX2_giveBack 19 = .ok (.bipush 20, 2) := dk_dX2_giveBack_0_8.2.2.2.2.1
theorem dX2_giveBack_21 : decode cX2_giveBack 21 = .ok (.irem, 1) := dk_dX2_giveBack_0_8.2.2.2.2.2.1
theorem dX2_giveBack_22 : decode cX2_giveBack 22 = .ok (.putfield 17, 3) := dk_dX2_giveBack_0_8.2.2.2.2.2.2.1
theorem dX2_giveBack_25 : decode cX2_giveBack 25 = .ok (.aload_n 0, 1) := dk_dX2_giveBack_0_8.2.2.2.2.2.2.2.1
theorem dk_dX2_giveBack_26 : dz_C cX2_giveBack [(26, .dup, 1), (27, .getfield 21, 3), (30, .iconst 1, 1), (31, .isub, 1), (32, .putfield 21, 3), (35, .aload_n 1, 1), (36, .aload_n 0, 1), (37, .getfield 11, 3), (40, .aload_n 0, 1), (41, .getfield 17, 3), (44, .aaload, 1), (45, .invokevirtual 25, 3), (48, .iconst 1, 1), (49, .ireturn, 1)] := dz_of (by decide +kernel)
theorem dX2_giveBack_26 : decode cX2_giveBack 26 = .ok (.dup, 1) := dk_dX2_giveBack_26.1
theorem dX2_giveBack_27 : decode cX2_giveBack 27 = .ok (.getfield 21, 3) := dk_dX2_giveBack_26.2.1
theorem dX2_giveBack_30 : decode cX2_giveBack 30 = .ok (.iconst 1, 1) := dk_dX2_giveBack_26.2.2.1
theorem dX2_giveBack_31 : decode cX2_giveBack 31 = .ok (.isub, 1) := dk_dX2_giveBack_26.2.2.2.1
theorem dX2_giveBack_32 : decode cX2_giveBack 32 = .ok (.putfield 21, 3) := dk_dX2_giveBack_26.2.2.2.2.1
theorem dX2_giveBack_35 : decode cX2_giveBack 35 = .ok (.aload_n 1, 1) := dk_dX2_giveBack_26.2.2.2.2.2.1
theorem dX2_giveBack_36 : decode cX2_giveBack 36 = .ok (.aload_n 0, 1) := dk_dX2_giveBack_26.2.2.2.2.2.2.1
theorem dX2_giveBack_37 : decode cX2_giveBack 37 = .ok (.getfield 11, 3) := dk_dX2_giveBack_26.2.2.2.2.2.2.2.1
theorem dk_dX2_giveBack_26_8 : dz_C cX2_giveBack [(40, .aload_n 0, 1), (41, .getfield 17, 3), (44, .aaload, 1), (45, .invokevirtual 25, 3), (48, .iconst 1, 1), (49, .ireturn, 1)] := dk_dX2_giveBack_26.2.2.2.2.2.2.2.2
theorem dX2_giveBack_40 : decode cX2_giveBack 40 = .ok (.aload_n 0, 1) := dk_dX2_giveBack_26_8.1
theorem dX2_giveBack_41 : decode cX2_giveBack 41 = .ok (.getfield 17, 3) := dk_dX2_giveBack_26_8.2.1
theorem dX2_giveBack_44 : decode cX2_giveBack 44 = .ok (.aaload, 1) := dk_dX2_giveBack_26_8.2.2.1
theorem dX2_giveBack_45 : decode cX2_giveBack 45 = .ok (.invokevirtual 25, 3) := dk_dX2_giveBack_26_8.2.2.2.1
theorem dX2_giveBack_48 : decode cX2_giveBack 48 = .ok (.iconst 1, 1) := dk_dX2_giveBack_26_8.2.2.2.2.1
theorem dX2_giveBack_49 : decode cX2_giveBack 49 = .ok (.ireturn, 1) := dk_dX2_giveBack_26_8.2.2.2.2.2.1
theorem dk_dX2_init_0 : dz_C cX2_init [(0, .aload_n 0, 1), (1, .invokespecial 3, 3), (4, .aload_n 0, 1), (5, .bipush 20, 2), (7, .anewarray 9, 3), (10, .putfield 11, 3), (13, .aload_n 0, 1), (14, .iconst 0, 1), (15, .putfield 17, 3), (18, .aload_n 0, 1), (19, .iconst 0, 1), (20, .putfield 21, 3), (23, .iconst 0, 1), (24, .istore_n 1, 1), (25, .iload_n 1, 1), (26, .bipush 20, 2)] := dz_of (by decide +kernel)
theorem dX2_init_0 : decode cX2_init 0 = .ok (.aload_n 0, 1) := dk_dX2_init_0.1
theorem dX2_init_1 : decode cX2_init 1 = .ok (.invokespecial 3, 3) := dk_dX2_init_0.2.1
theorem dX2_init_4 : decode cX2_init 4 = .ok (.aload_n 0, 1) := dk_dX2_init_0.2.2.1
theorem dX2_init_5 : decode cX2_init 5 = .ok (.bipush 20, 2) := dk_dX2_init_0.2.2.2.1
theorem dX2_init_7 : decode cX2_init 7 = .ok (.anewarray 9, 3) := dk_dX2_init_0.2.2.2.2.1
theorem dX2_init_10 : decode cX2_init 10 = .ok (.putfield 11, 3) := dk_dX2_init_0.2.2.2.2.2.1
theorem dX2_init_13 : decode cX2_init 13 = .ok (.aload_n 0, 1) := dk_dX2_init_0.2.2.2.2.2.2.1
theorem dX2_init_14 : decode cX2_init 14 = .ok (.iconst 0, 1) := dk_dX2_init_0.2.2.2.2.2.2.2.1
theorem dk_dX2_init_0_8 : dz_C cX2_init [(15, .putfield 17, 3), (18, .aload_n 0, 1), (19, .iconst 0, 1), (20, .putfield 21, 3), (23, .iconst 0, 1), (24, .istore_n 1, 1), (25, .iload_n 1, 1), (26, .bipush 20, 2)] := dk_dX2_init_0.2.2.2.2.2.2.2.2
theorem dX2_init_15 : decode cX2_init 15 = .ok (.putfield 17, 3) := dk_dX2_init_0_8.1
theorem dX2_init_18 : decode cX2_init 18 = .ok (.aload_n 0, 1) := dk_dX2_init_0_8.2.1
theorem dX2_init_19 : decode cX2_init 19 = .ok (.iconst 0, 1) := dk_dX2_init_0_8.2.2.1
theorem dX2_init_20 : decode cX2_init 20 = .ok (.putfield 21, 3) := dk_dX2_init_0_8.2.2.2.1
theorem dX2_init_23 : decode cX2_init 23 = .ok (.iconst 0, 1) := dk_dX2_init_0_8.2.2.2.2.1
theorem dX2_init_24 : decode cX2_init 24 = .ok (.istore_n 1, 1) := dk_dX2_init_0_8.2.2.2.2.2.1
theorem dX2_init_25 : decode cX2_init 25 = .ok (.iload_n 1, 1) := dk_dX2_init_0_8.2.2.2.2.2.2.1
theorem dX2_init_26 : decode cX2_init 26 = .ok (.bipush 20, 2) := dk_dX2_init_0_8.2.2.2.2.2.2.2.1
theorem dk_dX2_init_28 : dz_C cX2_init [(28, .if_icmp .ge 22, 3), (31, .aload_n 0, 1), (32, .getfield 11, 3), (35, .iload_n 1, 1), (36, .new 9, 3), (39, .dup, 1), (40, .invokespecial 24, 3), (43, .aastore, 1), (44, .iinc 1 1, 3), (47, .goto (-22), 3), (50, .return_, 1)] := dz_of (by decide +kernel)
theorem dX2_init_28 : decode cX2_init 28 = .ok (.if_icmp .ge 22, 3) := dk_dX2_init_28.1
theorem dX2_init_31 : decode cX2_init 31 = .ok (.aload_n 0, 1) := dk_dX2_init_28.2.1
theorem dX2_init_32 : decode cX2_init 32 = .ok (.getfield 11, 3) := dk_dX2_init_28.2.2.1
theorem dX2_init_35 : decode cX2_init 35 = .ok (.iload_n 1, 1) := dk_dX2_init_28.2.2.2.1
theorem dX2_init_36 : decode cX2_init 36 = .ok (.new 9, 3) := dk_dX2_init_28.2.2.2.2.1
theorem dX2_init_39 : decode cX2_init 39 = .ok (.dup, 1) := dk_dX2_init_28.2.2.2.2.2.1
theorem dX2_init_40 : decode cX2_init 40 = .ok (.invokespecial 24, 3) := dk_dX2_init_28.2.2.2.2.2.2.1
theorem dX2_init_43 : decode cX2_init 43 = .ok (.aastore, 1) := dk_dX2_init_28.2.2.2.2.2.2.2.1
theorem dk_dX2_init_28_8 : dz_C cX2_init [(44, .iinc 1 1, 3), (47, .goto (-22), 3), (50, .return_, 1)] := dk_dX2_init_28.2.2.2.2.2.2.2.2
theorem dX2_init_44 : decode cX2_init 44 = .ok (.iinc 1 1, 3) := dk_dX2_init_28_8.1
theorem dX2_init_47 : decode cX2_init 47 = .ok (.goto (-22), 3) := dk_dX2_init_28_8.2.1
theorem dX2_init_50 : decode cX2_init 50 = .ok (.return_, 1) := dk_dX2_init_28_8.2.2.1
theorem dk_dX2_keep_0 : dz_C cX2_keep [(0, .aload_n 0, 1), (1, .getfield 11, 3), (4, .aload_n 0, 1), (5, .getfield 17, 3), (8, .aaload, 1), (9, .aload_n 1, 1), (10, .invokevirtual 25, 3), (13, .aload_n 0, 1), (14, .aload_n 0, 1), (15, .getfield 17, 3), (18, .iconst 1, 1), (19, .iadd, 1), (20, .bipush 20, 2), (22, .irem, 1), (23, .putfield 17, 3), (26, .aload_n 0, 1)] := dz_of (by decide +kernel)
theorem dX2_keep_0 : decode cX2_keep 0 = .ok (.aload_n 0, 1) := dk_dX2_keep_0.1
theorem dX2_keep_1 : decode cX2_keep 1 = .ok (.getfield 11, 3) := dk_dX2_keep_0.2.1
theorem dX2_keep_4 : decode cX2_keep 4 = .ok (.aload_n 0, 1) := dk_dX2_keep_0.2.2.1
theorem dX2_keep_5 : decode cX2_keep 5 = .ok (.getfield 17, 3) := dk_dX2_keep_0.2.2.2.1
theorem dX2_keep_8 : decode cX2_keep 8 = .ok (.aaload, 1) := dk_dX2_keep_0.2.2.2.2.1
theorem dX2_keep_9 : decode cX2_keep 9 = .ok (.aload_n 1, 1) := dk_dX2_keep_0.2.2.2.2.2.1
theorem dX2_keep_10 : decode cX2_keep 10 = .ok (.invokevirtual 25, 3) := dk_dX2_keep_0.2.2.2.2.2.2.1
theorem dX2_keep_13 : decode cX2_keep 13 = .ok (.aload_n 0, 1) := dk_dX2_keep_0.2.2.2.2.2.2.2.1
theorem dk_dX2_keep_0_8 : dz_C cX2_keep [(14, .aload_n 0, 1), (15, .getfield 17, 3), (18, .iconst 1, 1), (19, .iadd, 1), (20, .bipush 20, 2), (22, .irem, 1), (23, .putfield 17, 3), (26, .aload_n 0, 1)] := dk_dX2_keep_0.2.2.2.2.2.2.2.2
theorem dX2_keep_14 : decode cX2_keep 14 = .ok (.aload_n 0, 1) := dk_dX2_keep_0_8.1
theorem dX2_keep_15 : decode cX2_keep 15 = .ok (.getfield 17, 3) := dk_dX2_keep_0_8.2.1
theorem dX2_keep_18 : decode cX2_keep 18 = .ok (.iconst 1, 1) := dk_dX2_keep_0_8.2.2.1
theorem dX2_keep_19 : decode cX2_keep 19 = .ok (.iadd, 1) := dk_dX2_keep_0_8.2.2.2.1
theorem dX2_keep_20 : decode cX2_keep 20 = .ok (.bipush 20, 2) := dk_dX2_keep_0_8.2.2.2.2.1
theorem dX2_keep_22 : decode cX2_keep 22 = .ok (.irem, 1) := dk_dX2_keep_0_8.2.2.2.2.2.1
theorem dX2_keep_23 : decode cX2_keep 23 = .ok (.putfield 17, 3) := dk_dX2_keep_0_8.2.2.2.2.2.2.1
theorem dX2_keep_26 : decode cX2_keep 26 = .ok (.aload_n 0, 1) := dk_dX2_keep_0_8.2.2.2.2.2.2.2.1
theorem dk_dX2_keep_27 : dz_C cX2_keep [(27, .aload_n 0, 1), (28, .getfield 21, 3), (31, .iconst 1, 1), (32, .iadd, 1), (33, .bipush 20, 2), (35, .invokestatic 29, 3), (38, .putfield 21, 3), (41, .return_, 1)] := dz_of (by decide +kernel)
theorem dX2_keep_27 : decode cX2_keep 27 = .ok (.aload_n 0, 1) := dk_dX2_keep_27.1
theorem dX2_keep_28 : decode cX2_keep 28 = .ok (.getfield 21, 3) := dk_dX2_keep_27.2.1
theorem dX2_keep_31 : decode cX2_keep 31 = .ok (.iconst 1, 1) := dk_dX2_keep_27.2.2.1
theorem dX2_keep_32 : decode cX2_keep 32 = .ok (.iadd, 1) := dk_dX2_keep_27.2.2.2.1
theorem dX2_keep_33 : decode cX2_keep 33 = .ok (.bipush 20, 2) := dk_dX2_keep_27.2.2.2.2.1
theorem dX2_keep_35 : decode cX2_keep 35 = .ok (.invokestatic 29, 3) := dk_dX2_keep_27.2.2.2.2.2.1
theorem dX2_keep_38 : decode cX2_keep 38 = .ok (.putfield 21, 3) := dk_dX2_keep_27.2.2.2.2.2.2.1
theorem dX2_keep_41 : decode cX2_keep 41 = .ok (.return_, 1) := dk_dX2_keep_27.2.2.2.2.2.2.2.1
theorem dk_dX3_init_0 : dz_C cX3_init [(0, .aload_n 0, 1), (1, .invokespecial 3, 3), (4, .aload_n 0, 1), (5, .bipush 13, 2), (7, .newarray .int, 2), (9, .putfield 9, 3), (12, .aload_n 0, 1), (13, .bipush 64, 2), (15, .newarray .int, 2), (17, .putfield 15, 3), (20, .return_, 1)] := dz_of (by decide +kernel)
theorem dX3_init_0 : decode cX3_init 0 = .ok (.aload_n 0, 1) := dk_dX3_init_0.1
theorem dX3_init_1 : decode cX3_init 1 = .ok (.invokespecial 3, 3) := dk_dX3_init_0.2.1
theorem dX3_init_4 : decode cX3_init 4 = .ok (.aload_n 0, 1) := dk_dX3_init_0.2.2.1
theorem dX3_init_5 : decode cX3_init 5 = .ok (.bipush 13, 2) := dk_dX3_init_0.2.2.2.1
theorem dX3_init_7 : decode cX3_init 7 = .ok (.newarray .int, 2) := dk_dX3_init_0.2.2.2.2.1
theorem dX3_init_9 : decode cX3_init 9 = .ok (.putfield 9, 3) := dk_dX3_init_0.2.2.2.2.2.1
theorem dX3_init_12 : decode cX3_init 12 = .ok (.aload_n 0, 1) := dk_dX3_init_0.2.2.2.2.2.2.1
theorem dX3_init_13 : decode cX3_init 13 = .ok (.bipush 64, 2) := dk_dX3_init_0.2.2.2.2.2.2.2.1
theorem dk_dX3_init_0_8 : dz_C cX3_init [(15, .newarray .int, 2), (17, .putfield 15, 3), (20, .return_, 1)] := dk_dX3_init_0.2.2.2.2.2.2.2.2
theorem dX3_init_15 : decode cX3_init 15 = .ok (.newarray .int, 2) := dk_dX3_init_0_8.1
theorem dX3_init_17 : decode cX3_init 17 = .ok (.putfield 15, 3) := dk_dX3_init_0_8.2.1
theorem dX3_init_20 : decode cX3_init 20 = .ok (.return_, 1) := dk_dX3_init_0_8.2.2.1
theorem dk_dX3_operate_0 : dz_C cX3_operate [(0, .iload_n 0, 1), (56, .iload_n 1, 1), (57, .i2l, 1), (58, .iload_n 2, 1), (59, .i2l, 1), (60, .ladd, 1), (61, .invokestatic 22, 3), (64, .ireturn, 1), (65, .iload_n 1, 1), (66, .i2l, 1), (67, .iload_n 2, 1), (68, .i2l, 1), (69, .lsub, 1), (70, .invokestatic 22, 3), (73, .ireturn, 1), (74, .iload_n 1, 1)] := dz_of (by decide +kernel)
theorem dX3_operate_0 : decode cX3_operate 0 = .ok (.iload_n 0, 1) := dk_dX3_operate_0.1
theorem dX3_operate_56 : decode cX3_operate 56 = .ok (.iload_n 1, 1) := dk_dX3_operate_0.2.1
theorem dX3_operate_57 : decode cX3_operate 57 = .ok (.i2l, 1) := dk_dX3_operate_0.2.2.1
theorem dX3_operate_58 : decode cX3_operate 58 = .ok (.iload_n 2, 1) := dk_dX3_operate_0.2.2.2.1
theorem dX3_operate_59 : decode cX3_operate 59 = .ok (.i2l, 1) := dk_dX3_operate_0.2.2.2.2.1
theorem dX3_operate_60 : decode cX3_operate 60 = .ok (.ladd, 1) := dk_dX3_operate_0.2.2.2.2.2.1
theorem dX3_operate_61 : decode cX3_operate 61 = .ok (.invokestatic 22, 3) := dk_dX3_operate_0.2.2.2.2.2.2.1
theorem dX3_operate_64 : decode cX3_operate 64 = .ok (.ireturn, 1) := dk_dX3_operate_0.2.2.2.2.2.2.2.1
theorem dk_dX3_operate_0_8 : dz_C cX3_operate [(65, .iload_n 1, 1), (66, .i2l, 1), (67, .iload_n 2, 1), (68, .i2l, 1), (69, .lsub, 1), (70, .invokestatic 22, 3), (73, .ireturn, 1), (74, .iload_n 1, 1)] := dk_dX3_operate_0.2.2.2.2.2.2.2.2
theorem dX3_operate_65 : decode cX3_operate 65 = .ok (.iload_n 1, 1) := dk_dX3_operate_0_8.1
theorem dX3_operate_66 : decode cX3_operate 66 = .ok (.i2l, 1) := dk_dX3_operate_0_8.2.1
theorem dX3_operate_67 : decode cX3_operate 67 = .ok (.iload_n 2, 1) := dk_dX3_operate_0_8.2.2.1
theorem dX3_operate_68 : decode cX3_operate 68 = .ok (.i2l, 1) := dk_dX3_operate_0_8.2.2.2.1
theorem dX3_operate_69 : decode cX3_operate 69 = .ok (.lsub, 1) := dk_dX3_operate_0_8.2.2.2.2.1
theorem dX3_operate_70 : decode cX3_operate 70 = .ok (.invokestatic 22, 3) := dk_dX3_operate_0_8.2.2.2.2.2.1
theorem dX3_operate_73 : decode cX3_operate 73 = .ok (.ireturn, 1) := dk_dX3_operate_0_8.2.2.2.2.2.2.1
theorem dX3_operate_74 : decode cX3_operate 74 = .ok (.iload_n 1, 1) := dk_dX3_operate_0_8.2.2.2.2.2.2.2.1
theorem dX3_operate_1 : decode cX3_operate 1 = .ok (.tableswitch 155 (-29) (-20) #[151, 140, 129, 118, 107, 96, 82, 73, 64, 55], 55) := by decide +kernel
theorem dk_dX3_operate_75 : dz_C cX3_operate [(75, .i2l, 1), (76, .iload_n 2, 1), (77, .i2l, 1), (78, .lmul, 1), (79, .invokestatic 22, 3), (82, .ireturn, 1), (83, .iload_n 2, 1), (84, .ifCond .ne 7, 3), (87, .iconst 0, 1), (88, .goto 8, 3), (91, .iload_n 1, 1), (92, .iload_n 2, 1), (93, .invokestatic 26, 3), (96, .ireturn, 1), (97, .iload_n 1, 1), (98, .iload_n 2, 1)] := dz_of (by decide +kernel)
theorem dX3_operate_75 : decode cX3_operate 75 = .ok (.i2l, 1) := dk_dX3_operate_75.1
theorem dX3_operate_76 : decode cX3_operate 76 = .ok (.iload_n 2, 1) := dk_dX3_operate_75.2.1
theorem dX3_operate_77 : decode cX3_operate 77 = .ok (.i2l, 1) := dk_dX3_operate_75.2.2.1
theorem dX3_operate_78 : decode cX3_operate 78 = .ok (.lmul, 1) := dk_dX3_operate_75.2.2.2.1
theorem dX3_operate_79 : decode cX3_operate 79 = .ok (.invokestatic 22, 3) := dk_dX3_operate_75.2.2.2.2.1
theorem dX3_operate_82 : decode cX3_operate 82 = .ok (.ireturn, 1) := dk_dX3_operate_75.2.2.2.2.2.1
theorem dX3_operate_83 : decode cX3_operate 83 = .ok (.iload_n 2, 1) := dk_dX3_operate_75.2.2.2.2.2.2.1
theorem dX3_operate_84 : decode cX3_operate 84 = .ok (.ifCond .ne 7, 3) := dk_dX3_operate_75.2.2.2.2.2.2.2.1
theorem dk_dX3_operate_75_8 : dz_C cX3_operate [(87, .iconst 0, 1), (88, .goto 8, 3), (91, .iload_n 1, 1), (92, .iload_n 2, 1), (93, .invokestatic 26, 3), (96, .ireturn, 1), (97, .iload_n 1, 1), (98, .iload_n 2, 1)] := dk_dX3_operate_75.2.2.2.2.2.2.2.2
theorem dX3_operate_87 : decode cX3_operate 87 = .ok (.iconst 0, 1) := dk_dX3_operate_75_8.1
theorem dX3_operate_88 : decode cX3_operate 88 = .ok (.goto 8, 3) := dk_dX3_operate_75_8.2.1
theorem dX3_operate_91 : decode cX3_operate 91 = .ok (.iload_n 1, 1) := dk_dX3_operate_75_8.2.2.1
theorem dX3_operate_92 : decode cX3_operate 92 = .ok (.iload_n 2, 1) := dk_dX3_operate_75_8.2.2.2.1
theorem dX3_operate_93 : decode cX3_operate 93 = .ok (.invokestatic 26, 3) := dk_dX3_operate_75_8.2.2.2.2.1
theorem dX3_operate_96 : decode cX3_operate 96 = .ok (.ireturn, 1) := dk_dX3_operate_75_8.2.2.2.2.2.1
theorem dX3_operate_97 : decode cX3_operate 97 = .ok (.iload_n 1, 1) := dk_dX3_operate_75_8.2.2.2.2.2.2.1
theorem dX3_operate_98 : decode cX3_operate 98 = .ok (.iload_n 2, 1) := dk_dX3_operate_75_8.2.2.2.2.2.2.2.1
theorem dk_dX3_operate_99 : dz_C cX3_operate [(99, .if_icmp .ge 7, 3), (102, .iload_n 1, 1), (103, .goto 4, 3), (106, .iload_n 2, 1), (107, .ireturn, 1), (108, .iload_n 1, 1), (109, .iload_n 2, 1), (110, .if_icmp .le 7, 3), (113, .iload_n 1, 1), (114, .goto 4, 3), (117, .iload_n 2, 1), (118, .ireturn, 1), (119, .iload_n 1, 1), (120, .iload_n 2, 1), (121, .if_icmp .ge 7, 3), (124, .iconst 1, 1)] := dz_of (by decide +kernel)
theorem dX3_operate_99 : decode cX3_operate 99 = .ok (.if_icmp .ge 7, 3) := dk_dX3_operate_99.1
theorem dX3_operate_102 : decode cX3_operate 102 = .ok (.iload_n 1, 1) := dk_dX3_operate_99.2.1
theorem dX3_operate_103 : decode cX3_operate 103 = .ok (.goto 4, 3) := dk_dX3_operate_99.2.2.1
theorem dX3_operate_106 : decode cX3_operate 106 = .ok (.iload_n 2, 1) := dk_dX3_operate_99.2.2.2.1
theorem dX3_operate_107 : decode cX3_operate 107 = .ok (.ireturn, 1) := dk_dX3_operate_99.2.2.2.2.1
theorem dX3_operate_108 : decode cX3_operate 108 = .ok (.iload_n 1, 1) := dk_dX3_operate_99.2.2.2.2.2.1
theorem dX3_operate_109 : decode cX3_operate 109 = .ok (.iload_n 2, 1) := dk_dX3_operate_99.2.2.2.2.2.2.1
theorem dX3_operate_110 : decode cX3_operate 110 = .ok (.if_icmp .le 7, 3) := dk_dX3_operate_99.2.2.2.2.2.2.2.1
theorem dk_dX3_operate_99_8 : dz_C cX3_operate [(113, .iload_n 1, 1), (114, .goto 4, 3), (117, .iload_n 2, 1), (118, .ireturn, 1), (119, .iload_n 1, 1), (120, .iload_n 2, 1), (121, .if_icmp .ge 7, 3), (124, .iconst 1, 1)] := dk_dX3_operate_99.2.2.2.2.2.2.2.2
theorem dX3_operate_113 : decode cX3_operate 113 = .ok (.iload_n 1, 1) := dk_dX3_operate_99_8.1
theorem dX3_operate_114 : decode cX3_operate 114 = .ok (.goto 4, 3) := dk_dX3_operate_99_8.2.1
theorem dX3_operate_117 : decode cX3_operate 117 = .ok (.iload_n 2, 1) := dk_dX3_operate_99_8.2.2.1
theorem dX3_operate_118 : decode cX3_operate 118 = .ok (.ireturn, 1) := dk_dX3_operate_99_8.2.2.2.1
theorem dX3_operate_119 : decode cX3_operate 119 = .ok (.iload_n 1, 1) := dk_dX3_operate_99_8.2.2.2.2.1
theorem dX3_operate_120 : decode cX3_operate 120 = .ok (.iload_n 2, 1) := dk_dX3_operate_99_8.2.2.2.2.2.1
theorem dX3_operate_121 : decode cX3_operate 121 = .ok (.if_icmp .ge 7, 3) := dk_dX3_operate_99_8.2.2.2.2.2.2.1
theorem dX3_operate_124 : decode cX3_operate 124 = .ok (.iconst 1, 1) := dk_dX3_operate_99_8.2.2.2.2.2.2.2.1
theorem dk_dX3_operate_125 : dz_C cX3_operate [(125, .goto 4, 3), (128, .iconst 0, 1), (129, .ireturn, 1), (130, .iload_n 1, 1), (131, .iload_n 2, 1), (132, .if_icmp .le 7, 3), (135, .iconst 1, 1), (136, .goto 4, 3), (139, .iconst 0, 1), (140, .ireturn, 1), (141, .iload_n 1, 1), (142, .iload_n 2, 1), (143, .if_icmp .ne 7, 3), (146, .iconst 1, 1), (147, .goto 4, 3), (150, .iconst 0, 1)] := dz_of (by decide +kernel)
theorem dX3_operate_125 : decode cX3_operate 125 = .ok (.goto 4, 3) := dk_dX3_operate_125.1
theorem dX3_operate_128 : decode cX3_operate 128 = .ok (.iconst 0, 1) := dk_dX3_operate_125.2.1
theorem dX3_operate_129 : decode cX3_operate 129 = .ok (.ireturn, 1) := dk_dX3_operate_125.2.2.1
theorem dX3_operate_130 : decode cX3_operate 130 = .ok (.iload_n 1, 1) := dk_dX3_operate_125.2.2.2.1
theorem dX3_operate_131 : decode cX3_operate 131 = .ok (.iload_n 2, 1) := dk_dX3_operate_125.2.2.2.2.1
theorem dX3_operate_132 : decode cX3_operate 132 = .ok (.if_icmp .le 7, 3) := dk_dX3_operate_125.2.2.2.2.2.1
theorem dX3_operate_135 : decode cX3_operate 135 = .ok (.iconst 1, 1) := dk_dX3_operate_125.2.2.2.2.2.2.1
theorem dX3_operate_136 : decode cX3_operate 136 = .ok (.goto 4, 3) := dk_dX3_operate_125.2.2.2.2.2.2.2.1
theorem dk_dX3_operate_125_8 : dz_C cX3_operate [(139, .iconst 0, 1), (140, .ireturn, 1), (141, .iload_n 1, 1), (142, .iload_n 2, 1), (143, .if_icmp .ne 7, 3), (146, .iconst 1, 1), (147, .goto 4, 3), (150, .iconst 0, 1)] := dk_dX3_operate_125.2.2.2.2.2.2.2.2
theorem dX3_operate_139 : decode cX3_operate 139 = .ok (.iconst 0, 1) := dk_dX3_operate_125_8.1
theorem dX3_operate_140 : decode cX3_operate 140 = .ok (.ireturn, 1) := dk_dX3_operate_125_8.2.1
theorem dX3_operate_141 : decode cX3_operate 141 = .ok (.iload_n 1, 1) := dk_dX3_operate_125_8.2.2.1
theorem dX3_operate_142 : decode cX3_operate 142 = .ok (.iload_n 2, 1) := dk_dX3_operate_125_8.2.2.2.1
theorem dX3_operate_143 : decode cX3_operate 143 = .ok (.if_icmp .ne 7, 3) := dk_dX3_operate_125_8.2.2.2.2.1
theorem dX3_operate_146 : decode cX3_operate 146 = .ok (.iconst 1, 1) := dk_dX3_operate_125_8.2.2.2.2.2.1
theorem dX3_operate_147 : decode cX3_operate 147 = .ok (.goto 4, 3) := dk_dX3_operate_125_8.2.2.2.2.2.2.1
theorem dX3_operate_150 : decode cX3_operate 150 = .ok (.iconst 0, 1) := dk_dX3_operate_125_8.2.2.2.2.2.2.2.1
theorem dk_dX3_operate_151 : dz_C cX3_operate [(151, .ireturn, 1), (152, .iload_n 1, 1), (153, .iload_n 2, 1), (154, .iand, 1), (155, .ireturn, 1), (156, .iload_n 1, 1), (157, .iload_n 2, 1), (158, .ior, 1), (159, .ireturn, 1)] := dz_of (by decide +kernel)
theorem dX3_operate_151 : decode cX3_operate 151 = .ok (.ireturn, 1) := dk_dX3_operate_151.1
theorem dX3_operate_152 : decode cX3_operate 152 = .ok (.iload_n 1, 1) := dk_dX3_operate_151.2.1
theorem dX3_operate_153 : decode cX3_operate 153 = .ok (.iload_n 2, 1) := dk_dX3_operate_151.2.2.1
theorem dX3_operate_154 : decode cX3_operate 154 = .ok (.iand, 1) := dk_dX3_operate_151.2.2.2.1
theorem dX3_operate_155 : decode cX3_operate 155 = .ok (.ireturn, 1) := dk_dX3_operate_151.2.2.2.2.1
theorem dX3_operate_156 : decode cX3_operate 156 = .ok (.iload_n 1, 1) := dk_dX3_operate_151.2.2.2.2.2.1
theorem dX3_operate_157 : decode cX3_operate 157 = .ok (.iload_n 2, 1) := dk_dX3_operate_151.2.2.2.2.2.2.1
theorem dX3_operate_158 : decode cX3_operate 158 = .ok (.ior, 1) := dk_dX3_operate_151.2.2.2.2.2.2.2.1
theorem dk_dX3_operate_151_8 : dz_C cX3_operate [(159, .ireturn, 1)] := dk_dX3_operate_151.2.2.2.2.2.2.2.2
theorem dX3_operate_159 : decode cX3_operate 159 = .ok (.ireturn, 1) := dk_dX3_operate_151_8.1
theorem dk_dX3_value_0 : dz_C cX3_value [(0, .iconst 0, 1), (1, .istore 4, 2), (3, .iload_n 2, 1), (4, .istore 5, 2), (6, .iload 5, 2), (8, .iload_n 3, 1), (9, .if_icmp .ge 190, 3), (12, .iload 5, 2), (14, .aload_n 1, 1), (15, .arraylength, 1), (16, .if_icmp .ge 183, 3), (19, .aload_n 1, 1), (20, .iload 5, 2), (22, .iaload, 1), (23, .istore 6, 2), (25, .iload 6, 2)] := dz_of (by decide +kernel)
theorem dX3_value_0 : decode cX3_value 0 = .ok (.iconst 0, 1) := dk_dX3_value_0.1
theorem dX3_value_1 : decode cX3_value 1 = .ok (.istore 4, 2) := dk_dX3_value_0.2.1
theorem dX3_value_3 : decode cX3_value 3 = .ok (.iload_n 2, 1) := dk_dX3_value_0.2.2.1
theorem dX3_value_4 : decode cX3_value 4 = .ok (.istore 5, 2) := dk_dX3_value_0.2.2.2.1
theorem dX3_value_6 : decode cX3_value 6 = .ok (.iload 5, 2) := dk_dX3_value_0.2.2.2.2.1
theorem dX3_value_8 : decode cX3_value 8 = .ok (.iload_n 3, 1) := dk_dX3_value_0.2.2.2.2.2.1
theorem dX3_value_9 : decode cX3_value 9 = .ok (.if_icmp .ge 190, 3) := dk_dX3_value_0.2.2.2.2.2.2.1
theorem dX3_value_12 : decode cX3_value 12 = .ok (.iload 5, 2) := dk_dX3_value_0.2.2.2.2.2.2.2.1
theorem dk_dX3_value_0_8 : dz_C cX3_value [(14, .aload_n 1, 1), (15, .arraylength, 1), (16, .if_icmp .ge 183, 3), (19, .aload_n 1, 1), (20, .iload 5, 2), (22, .iaload, 1), (23, .istore 6, 2), (25, .iload 6, 2)] := dk_dX3_value_0.2.2.2.2.2.2.2.2
theorem dX3_value_14 : decode cX3_value 14 = .ok (.aload_n 1, 1) := dk_dX3_value_0_8.1
theorem dX3_value_15 : decode cX3_value 15 = .ok (.arraylength, 1) := dk_dX3_value_0_8.2.1
theorem dX3_value_16 : decode cX3_value 16 = .ok (.if_icmp .ge 183, 3) := dk_dX3_value_0_8.2.2.1
theorem dX3_value_19 : decode cX3_value 19 = .ok (.aload_n 1, 1) := dk_dX3_value_0_8.2.2.2.1
theorem dX3_value_20 : decode cX3_value 20 = .ok (.iload 5, 2) := dk_dX3_value_0_8.2.2.2.2.1
theorem dX3_value_22 : decode cX3_value 22 = .ok (.iaload, 1) := dk_dX3_value_0_8.2.2.2.2.2.1
theorem dX3_value_23 : decode cX3_value 23 = .ok (.istore 6, 2) := dk_dX3_value_0_8.2.2.2.2.2.2.1
theorem dX3_value_25 : decode cX3_value 25 = .ok (.iload 6, 2) := dk_dX3_value_0_8.2.2.2.2.2.2.2.1
theorem dk_dX3_value_27 : dz_C cX3_value [(27, .bipush (-13), 2), (29, .if_icmp .lt 42, 3), (32, .iload 4, 2), (34, .bipush 64, 2), (36, .if_icmp .ge 157, 3), (39, .aload_n 0, 1), (40, .getfield 15, 3), (43, .iload 4, 2), (45, .iload 6, 2), (47, .ifCond .lt 8, 3), (50, .iload 6, 2), (52, .goto 12, 3), (55, .aload_n 0, 1), (56, .getfield 9, 3), (59, .iconst (-1), 1), (60, .iload 6, 2)] := dz_of (by decide +kernel)
theorem dX3_value_27 : decode cX3_value 27 = .ok (.bipush (-13), 2) := dk_dX3_value_27.1
theorem dX3_value_29 : decode cX3_value 29 = .ok (.if_icmp .lt 42, 3) := dk_dX3_value_27.2.1
theorem dX3_value_32 : decode cX3_value 32 = .ok (.iload 4, 2) := dk_dX3_value_27.2.2.1
theorem dX3_value_34 : decode cX3_value 34 = .ok (.bipush 64, 2) := dk_dX3_value_27.2.2.2.1
theorem dX3_value_36 : decode cX3_value 36 = .ok (.if_icmp .ge 157, 3) := dk_dX3_value_27.2.2.2.2.1
theorem dX3_value_39 : decode cX3_value 39 = .ok (.aload_n 0, 1) := dk_dX3_value_27.2.2.2.2.2.1
theorem dX3_value_40 : decode cX3_value 40 = .ok (.getfield 15, 3) := dk_dX3_value_27.2.2.2.2.2.2.1
theorem dX3_value_43 : decode cX3_value 43 = .ok (.iload 4, 2) := dk_dX3_value_27.2.2.2.2.2.2.2.1
theorem dk_dX3_value_27_8 : dz_C cX3_value [(45, .iload 6, 2), (47, .ifCond .lt 8, 3), (50, .iload 6, 2), (52, .goto 12, 3), (55, .aload_n 0, 1), (56, .getfield 9, 3), (59, .iconst (-1), 1), (60, .iload 6, 2)] := dk_dX3_value_27.2.2.2.2.2.2.2.2
theorem dX3_value_45 : decode cX3_value 45 = .ok (.iload 6, 2) := dk_dX3_value_27_8.1
theorem dX3_value_47 : decode cX3_value 47 = .ok (.ifCond .lt 8, 3) := dk_dX3_value_27_8.2.1
theorem dX3_value_50 : decode cX3_value 50 = .ok (.iload 6, 2) := dk_dX3_value_27_8.2.2.1
theorem dX3_value_52 : decode cX3_value 52 = .ok (.goto 12, 3) := dk_dX3_value_27_8.2.2.2.1
theorem dX3_value_55 : decode cX3_value 55 = .ok (.aload_n 0, 1) := dk_dX3_value_27_8.2.2.2.2.1
theorem dX3_value_56 : decode cX3_value 56 = .ok (.getfield 9, 3) := dk_dX3_value_27_8.2.2.2.2.2.1
theorem dX3_value_59 : decode cX3_value 59 = .ok (.iconst (-1), 1) := dk_dX3_value_27_8.2.2.2.2.2.2.1
theorem dX3_value_60 : decode cX3_value 60 = .ok (.iload 6, 2) := dk_dX3_value_27_8.2.2.2.2.2.2.2.1
theorem dk_dX3_value_62 : dz_C cX3_value [(62, .isub, 1), (63, .iaload, 1), (64, .iastore, 1), (65, .iinc 4 1, 3), (68, .goto 125, 3), (71, .iload 4, 2), (73, .ifCond .le 33, 3), (76, .iload 6, 2), (78, .bipush (-31), 2), (80, .if_icmp .ne 26, 3), (83, .aload_n 0, 1), (84, .getfield 15, 3), (87, .iload 4, 2), (89, .iconst 1, 1), (90, .isub, 1), (91, .iconst 1, 1)] := dz_of (by decide +kernel)
theorem dX3_value_62 : decode cX3_value 62 = .ok (.isub, 1) := dk_dX3_value_62.1
theorem dX3_value_63 : decode cX3_value 63 = .ok (.iaload, 1) := dk_dX3_value_62.2.1
theorem dX3_value_64 : decode cX3_value 64 = .ok (.iastore, 1) := dk_dX3_value_62.2.2.1
theorem dX3_value_65 : decode cX3_value 65 = .ok (.iinc 4 1, 3) := dk_dX3_value_62.2.2.2.1
theorem dX3_value_68 : decode cX3_value 68 = .ok (.goto 125, 3) := dk_dX3_value_62.2.2.2.2.1
theorem dX3_value_71 : decode cX3_value 71 = .ok (.iload 4, 2) := dk_dX3_value_62.2.2.2.2.2.1
theorem dX3_value_73 : decode cX3_value 73 = .ok (.ifCond .le 33, 3) := dk_dX3_value_62.2.2.2.2.2.2.1
theorem dX3_value_76 : decode cX3_value 76 = .ok (.iload 6, 2) := dk_dX3_value_62.2.2.2.2.2.2.2.1
theorem dk_dX3_value_62_8 : dz_C cX3_value [(78, .bipush (-31), 2), (80, .if_icmp .ne 26, 3), (83, .aload_n 0, 1), (84, .getfield 15, 3), (87, .iload 4, 2), (89, .iconst 1, 1), (90, .isub, 1), (91, .iconst 1, 1)] := dk_dX3_value_62.2.2.2.2.2.2.2.2
theorem dX3_value_78 : decode cX3_value 78 = .ok (.bipush (-31), 2) := dk_dX3_value_62_8.1
theorem dX3_value_80 : decode cX3_value 80 = .ok (.if_icmp .ne 26, 3) := dk_dX3_value_62_8.2.1
theorem dX3_value_83 : decode cX3_value 83 = .ok (.aload_n 0, 1) := dk_dX3_value_62_8.2.2.1
theorem dX3_value_84 : decode cX3_value 84 = .ok (.getfield 15, 3) := dk_dX3_value_62_8.2.2.2.1
theorem dX3_value_87 : decode cX3_value 87 = .ok (.iload 4, 2) := dk_dX3_value_62_8.2.2.2.2.1
theorem dX3_value_89 : decode cX3_value 89 = .ok (.iconst 1, 1) := dk_dX3_value_62_8.2.2.2.2.2.1
theorem dX3_value_90 : decode cX3_value 90 = .ok (.isub, 1) := dk_dX3_value_62_8.2.2.2.2.2.2.1
theorem dX3_value_91 : decode cX3_value 91 = .ok (.iconst 1, 1) := dk_dX3_value_62_8.2.2.2.2.2.2.2.1
theorem dk_dX3_value_92 : dz_C cX3_value [(92, .aload_n 0, 1), (93, .getfield 15, 3), (96, .iload 4, 2), (98, .iconst 1, 1), (99, .isub, 1), (100, .iaload, 1), (101, .isub, 1), (102, .iastore, 1), (103, .goto 90, 3), (106, .iload 4, 2), (108, .ifCond .le 46, 3), (111, .iload 6, 2), (113, .bipush (-32), 2), (115, .if_icmp .ne 39, 3), (118, .aload_n 0, 1), (119, .getfield 15, 3)] := dz_of (by decide +kernel)
theorem dX3_value_92 : decode cX3_value 92 = .ok (.aload_n 0, 1) := dk_dX3_value_92.1
theorem dX3_value_93 : decode cX3_value 93 = .ok (.getfield 15, 3) := dk_dX3_value_92.2.1
theorem dX3_value_96 : decode cX3_value 96 = .ok (.iload 4, 2) := dk_dX3_value_92.2.2.1
theorem dX3_value_98 : decode cX3_value 98 = .ok (.iconst 1, 1) := dk_dX3_value_92.2.2.2.1
theorem dX3_value_99 : decode cX3_value 99 = .ok (.isub, 1) := dk_dX3_value_92.2.2.2.2.1
theorem dX3_value_100 : decode cX3_value 100 = .ok (.iaload, 1) := dk_dX3_value_92.2.2.2.2.2.1
theorem dX3_value_101 : decode cX3_value 101 = .ok (.isub, 1) := dk_dX3_value_92.2.2.2.2.2.2.1
theorem dX3_value_102 : decode cX3_value 102 = .ok (.iastore, 1) := dk_dX3_value_92.2.2.2.2.2.2.2.1
theorem dk_dX3_value_92_8 : dz_C cX3_value [(103, .goto 90, 3), (106, .iload 4, 2), (108, .ifCond .le 46, 3), (111, .iload 6, 2), (113, .bipush (-32), 2), (115, .if_icmp .ne 39, 3), (118, .aload_n 0, 1), (119, .getfield 15, 3)] := dk_dX3_value_92.2.2.2.2.2.2.2.2
theorem dX3_value_103 : decode cX3_value 103 = .ok (.goto 90, 3) := dk_dX3_value_92_8.1
theorem dX3_value_106 : decode cX3_value 106 = .ok (.iload 4, 2) := dk_dX3_value_92_8.2.1
theorem dX3_value_108 : decode cX3_value 108 = .ok (.ifCond .le 46, 3) := dk_dX3_value_92_8.2.2.1
theorem dX3_value_111 : decode cX3_value 111 = .ok (.iload 6, 2) := dk_dX3_value_92_8.2.2.2.1
theorem dX3_value_113 : decode cX3_value 113 = .ok (.bipush (-32), 2) := dk_dX3_value_92_8.2.2.2.2.1
theorem dX3_value_115 : decode cX3_value 115 = .ok (.if_icmp .ne 39, 3) := dk_dX3_value_92_8.2.2.2.2.2.1
theorem dX3_value_118 : decode cX3_value 118 = .ok (.aload_n 0, 1) := dk_dX3_value_92_8.2.2.2.2.2.2.1
theorem dX3_value_119 : decode cX3_value 119 = .ok (.getfield 15, 3) := dk_dX3_value_92_8.2.2.2.2.2.2.2.1
theorem dk_dX3_value_122 : dz_C cX3_value [(122, .iload 4, 2), (124, .iconst 1, 1), (125, .isub, 1), (126, .aload_n 0, 1), (127, .getfield 15, 3), (130, .iload 4, 2), (132, .iconst 1, 1), (133, .isub, 1), (134, .iaload, 1), (135, .aload_n 0, 1), (136, .getfield 9, 3), (139, .bipush 12, 2), (141, .iaload, 1), (142, .if_icmp .ne 7, 3), (145, .iconst 1, 1), (146, .goto 4, 3)] := dz_of (by decide +kernel)
theorem dX3_value_122 : decode cX3_value 122 = .ok (.iload 4, 2) := dk_dX3_value_122.1
theorem dX3_value_124 : decode cX3_value 124 = .ok (.iconst 1, 1) := dk_dX3_value_122.2.1
theorem dX3_value_125 : decode cX3_value 125 = .ok (.isub, 1) := dk_dX3_value_122.2.2.1
theorem dX3_value_126 : decode cX3_value 126 = .ok (.aload_n 0, 1) := dk_dX3_value_122.2.2.2.1
theorem dX3_value_127 : decode cX3_value 127 = .ok (.getfield 15, 3) := dk_dX3_value_122.2.2.2.2.1
theorem dX3_value_130 : decode cX3_value 130 = .ok (.iload 4, 2) := dk_dX3_value_122.2.2.2.2.2.1
theorem dX3_value_132 : decode cX3_value 132 = .ok (.iconst 1, 1) := dk_dX3_value_122.2.2.2.2.2.2.1
theorem dX3_value_133 : decode cX3_value 133 = .ok (.isub, 1) := dk_dX3_value_122.2.2.2.2.2.2.2.1
theorem dk_dX3_value_122_8 : dz_C cX3_value [(134, .iaload, 1), (135, .aload_n 0, 1), (136, .getfield 9, 3), (139, .bipush 12, 2), (141, .iaload, 1), (142, .if_icmp .ne 7, 3), (145, .iconst 1, 1), (146, .goto 4, 3)] := dk_dX3_value_122.2.2.2.2.2.2.2.2
theorem dX3_value_134 : decode cX3_value 134 = .ok (.iaload, 1) := dk_dX3_value_122_8.1
theorem dX3_value_135 : decode cX3_value 135 = .ok (.aload_n 0, 1) := dk_dX3_value_122_8.2.1
theorem dX3_value_136 : decode cX3_value 136 = .ok (.getfield 9, 3) := dk_dX3_value_122_8.2.2.1
theorem dX3_value_139 : decode cX3_value 139 = .ok (.bipush 12, 2) := dk_dX3_value_122_8.2.2.2.1
theorem dX3_value_141 : decode cX3_value 141 = .ok (.iaload, 1) := dk_dX3_value_122_8.2.2.2.2.1
theorem dX3_value_142 : decode cX3_value 142 = .ok (.if_icmp .ne 7, 3) := dk_dX3_value_122_8.2.2.2.2.2.1
theorem dX3_value_145 : decode cX3_value 145 = .ok (.iconst 1, 1) := dk_dX3_value_122_8.2.2.2.2.2.2.1
theorem dX3_value_146 : decode cX3_value 146 = .ok (.goto 4, 3) := dk_dX3_value_122_8.2.2.2.2.2.2.2.1
theorem dk_dX3_value_149 : dz_C cX3_value [(149, .iconst 0, 1), (150, .iastore, 1), (151, .goto 42, 3), (154, .iload 4, 2), (156, .iconst 1, 1), (157, .if_icmp .le 36, 3), (160, .iinc 4 (-1), 3), (163, .aload_n 0, 1), (164, .getfield 15, 3), (167, .iload 4, 2), (169, .iconst 1, 1), (170, .isub, 1), (171, .iload 6, 2), (173, .aload_n 0, 1), (174, .getfield 15, 3), (177, .iload 4, 2)] := dz_of (by decide +kernel)
theorem dX3_value_149 : decode cX3_value 149 = .ok (.iconst 0, 1) := dk_dX3_value_149.1
theorem dX3_value_150 : decode cX3_value 150 = .ok (.iastore, 1) := dk_dX3_value_149.2.1
theorem dX3_value_151 : decode cX3_value 151 = .ok (.goto 42, 3) := dk_dX3_value_149.2.2.1
theorem dX3_value_154 : decode cX3_value 154 = .ok (.iload 4, 2) := dk_dX3_value_149.2.2.2.1
theorem dX3_value_156 : decode cX3_value 156 = .ok (.iconst 1, 1) := dk_dX3_value_149.2.2.2.2.1
theorem dX3_value_157 : decode cX3_value 157 = .ok (.if_icmp .le 36, 3) := dk_dX3_value_149.2.2.2.2.2.1
theorem dX3_value_160 : decode cX3_value 160 = .ok (.iinc 4 (-1), 3) := dk_dX3_value_149.2.2.2.2.2.2.1
theorem dX3_value_163 : decode cX3_value 163 = .ok (.aload_n 0, 1) := dk_dX3_value_149.2.2.2.2.2.2.2.1
theorem dk_dX3_value_149_8 : dz_C cX3_value [(164, .getfield 15, 3), (167, .iload 4, 2), (169, .iconst 1, 1), (170, .isub, 1), (171, .iload 6, 2), (173, .aload_n 0, 1), (174, .getfield 15, 3), (177, .iload 4, 2)] := dk_dX3_value_149.2.2.2.2.2.2.2.2
theorem dX3_value_164 : decode cX3_value 164 = .ok (.getfield 15, 3) := dk_dX3_value_149_8.1
theorem dX3_value_167 : decode cX3_value 167 = .ok (.iload 4, 2) := dk_dX3_value_149_8.2.1
theorem dX3_value_169 : decode cX3_value 169 = .ok (.iconst 1, 1) := dk_dX3_value_149_8.2.2.1
theorem dX3_value_170 : decode cX3_value 170 = .ok (.isub, 1) := dk_dX3_value_149_8.2.2.2.1
theorem dX3_value_171 : decode cX3_value 171 = .ok (.iload 6, 2) := dk_dX3_value_149_8.2.2.2.2.1
theorem dX3_value_173 : decode cX3_value 173 = .ok (.aload_n 0, 1) := dk_dX3_value_149_8.2.2.2.2.2.1
theorem dX3_value_174 : decode cX3_value 174 = .ok (.getfield 15, 3) := dk_dX3_value_149_8.2.2.2.2.2.2.1
theorem dX3_value_177 : decode cX3_value 177 = .ok (.iload 4, 2) := dk_dX3_value_149_8.2.2.2.2.2.2.2.1
theorem dk_dX3_value_179 : dz_C cX3_value [(179, .iconst 1, 1), (180, .isub, 1), (181, .iaload, 1), (182, .aload_n 0, 1), (183, .getfield 15, 3), (186, .iload 4, 2), (188, .iaload, 1), (189, .invokestatic 18, 3), (192, .iastore, 1), (193, .iinc 5 1, 3), (196, .goto (-190), 3), (199, .iload 4, 2), (201, .ifCond .le 15, 3), (204, .aload_n 0, 1), (205, .getfield 15, 3), (208, .iload 4, 2)] := dz_of (by decide +kernel)
theorem dX3_value_179 : decode cX3_value 179 = .ok (.iconst 1, 1) := dk_dX3_value_179.1
theorem dX3_value_180 : decode cX3_value 180 = .ok (.isub, 1) := dk_dX3_value_179.2.1
theorem dX3_value_181 : decode cX3_value 181 = .ok (.iaload, 1) := dk_dX3_value_179.2.2.1
theorem dX3_value_182 : decode cX3_value 182 = .ok (.aload_n 0, 1) := dk_dX3_value_179.2.2.2.1
theorem dX3_value_183 : decode cX3_value 183 = .ok (.getfield 15, 3) := dk_dX3_value_179.2.2.2.2.1
theorem dX3_value_186 : decode cX3_value 186 = .ok (.iload 4, 2) := dk_dX3_value_179.2.2.2.2.2.1
theorem dX3_value_188 : decode cX3_value 188 = .ok (.iaload, 1) := dk_dX3_value_179.2.2.2.2.2.2.1
theorem dX3_value_189 : decode cX3_value 189 = .ok (.invokestatic 18, 3) := dk_dX3_value_179.2.2.2.2.2.2.2.1
theorem dk_dX3_value_179_8 : dz_C cX3_value [(192, .iastore, 1), (193, .iinc 5 1, 3), (196, .goto (-190), 3), (199, .iload 4, 2), (201, .ifCond .le 15, 3), (204, .aload_n 0, 1), (205, .getfield 15, 3), (208, .iload 4, 2)] := dk_dX3_value_179.2.2.2.2.2.2.2.2
theorem dX3_value_192 : decode cX3_value 192 = .ok (.iastore, 1) := dk_dX3_value_179_8.1
theorem dX3_value_193 : decode cX3_value 193 = .ok (.iinc 5 1, 3) := dk_dX3_value_179_8.2.1
theorem dX3_value_196 : decode cX3_value 196 = .ok (.goto (-190), 3) := dk_dX3_value_179_8.2.2.1
theorem dX3_value_199 : decode cX3_value 199 = .ok (.iload 4, 2) := dk_dX3_value_179_8.2.2.2.1
theorem dX3_value_201 : decode cX3_value 201 = .ok (.ifCond .le 15, 3) := dk_dX3_value_179_8.2.2.2.2.1
theorem dX3_value_204 : decode cX3_value 204 = .ok (.aload_n 0, 1) := dk_dX3_value_179_8.2.2.2.2.2.1
theorem dX3_value_205 : decode cX3_value 205 = .ok (.getfield 15, 3) := dk_dX3_value_179_8.2.2.2.2.2.2.1
theorem dX3_value_208 : decode cX3_value 208 = .ok (.iload 4, 2) := dk_dX3_value_179_8.2.2.2.2.2.2.2.1
theorem dk_dX3_value_210 : dz_C cX3_value [(210, .iconst 1, 1), (211, .isub, 1), (212, .iaload, 1), (213, .goto 4, 3), (216, .iconst 0, 1), (217, .ireturn, 1)] := dz_of (by decide +kernel)
theorem dX3_value_210 : decode cX3_value 210 = .ok (.iconst 1, 1) := dk_dX3_value_210.1
theorem dX3_value_211 : decode cX3_value 211 = .ok (.isub, 1) := dk_dX3_value_210.2.1
theorem dX3_value_212 : decode cX3_value 212 = .ok (.iaload, 1) := dk_dX3_value_210.2.2.1
theorem dX3_value_213 : decode cX3_value 213 = .ok (.goto 4, 3) := dk_dX3_value_210.2.2.2.1
theorem dX3_value_216 : decode cX3_value 216 = .ok (.iconst 0, 1) := dk_dX3_value_210.2.2.2.2.1
theorem dX3_value_217 : decode cX3_value 217 = .ok (.ireturn, 1) := dk_dX3_value_210.2.2.2.2.2.1
theorem dk_dX3_within_0 : dz_C cX3_within [(0, .lload_n 0, 1), (1, .ldc2_w 32, 3), (4, .lcmp, 1), (5, .ifCond .le 6, 3), (8, .ldc 34, 2), (10, .ireturn, 1), (11, .lload_n 0, 1), (12, .ldc2_w 35, 3), (15, .lcmp, 1), (16, .ifCond .ge 8, 3), (19, .ldc 37, 2), (21, .goto 5, 3), (24, .lload_n 0, 1), (25, .l2i, 1), (26, .ireturn, 1)] := dz_of (by decide +kernel)
theorem dX3_within_0 : decode cX3_within 0 = .ok (.lload_n 0, 1) := dk_dX3_within_0.1
theorem dX3_within_1 : decode cX3_within 1 = .ok (.ldc2_w 32, 3) := dk_dX3_within_0.2.1
theorem dX3_within_4 : decode cX3_within 4 = .ok (.lcmp, 1) := dk_dX3_within_0.2.2.1
theorem dX3_within_5 : decode cX3_within 5 = .ok (.ifCond .le 6, 3) := dk_dX3_within_0.2.2.2.1
theorem dX3_within_8 : decode cX3_within 8 = .ok (.ldc 34, 2) := dk_dX3_within_0.2.2.2.2.1
theorem dX3_within_10 : decode cX3_within 10 = .ok (.ireturn, 1) := dk_dX3_within_0.2.2.2.2.2.1
theorem dX3_within_11 : decode cX3_within 11 = .ok (.lload_n 0, 1) := dk_dX3_within_0.2.2.2.2.2.2.1
theorem dX3_within_12 : decode cX3_within 12 = .ok (.ldc2_w 35, 3) := dk_dX3_within_0.2.2.2.2.2.2.2.1
theorem dk_dX3_within_0_8 : dz_C cX3_within [(15, .lcmp, 1), (16, .ifCond .ge 8, 3), (19, .ldc 37, 2), (21, .goto 5, 3), (24, .lload_n 0, 1), (25, .l2i, 1), (26, .ireturn, 1)] := dk_dX3_within_0.2.2.2.2.2.2.2.2
theorem dX3_within_15 : decode cX3_within 15 = .ok (.lcmp, 1) := dk_dX3_within_0_8.1
theorem dX3_within_16 : decode cX3_within 16 = .ok (.ifCond .ge 8, 3) := dk_dX3_within_0_8.2.1
theorem dX3_within_19 : decode cX3_within 19 = .ok (.ldc 37, 2) := dk_dX3_within_0_8.2.2.1
theorem dX3_within_21 : decode cX3_within 21 = .ok (.goto 5, 3) := dk_dX3_within_0_8.2.2.2.1
theorem dX3_within_24 : decode cX3_within 24 = .ok (.lload_n 0, 1) := dk_dX3_within_0_8.2.2.2.2.1
theorem dX3_within_25 : decode cX3_within 25 = .ok (.l2i, 1) := dk_dX3_within_0_8.2.2.2.2.2.1
theorem dX3_within_26 : decode cX3_within 26 = .ok (.ireturn, 1) := dk_dX3_within_0_8.2.2.2.2.2.2.1
theorem dk_dX4_allowsGreen_0 : dz_C cX4_allowsGreen [(0, .iload_n 1, 1), (1, .iconst 1, 1), (2, .if_icmp .lt 21, 3), (5, .iload_n 1, 1), (6, .bipush 60, 2), (8, .if_icmp .gt 15, 3), (11, .iload_n 1, 1), (12, .aload_n 0, 1), (13, .getfield 39, 3), (16, .if_icmp .ge 7, 3), (19, .iconst 1, 1), (20, .goto 4, 3), (23, .iconst 0, 1), (24, .ireturn, 1)] := dz_of (by decide +kernel)
theorem dX4_allowsGreen_0 : decode cX4_allowsGreen 0 = .ok (.iload_n 1, 1) := dk_dX4_allowsGreen_0.1
theorem dX4_allowsGreen_1 : decode cX4_allowsGreen 1 = .ok (.iconst 1, 1) := dk_dX4_allowsGreen_0.2.1
theorem dX4_allowsGreen_2 : decode cX4_allowsGreen 2 = .ok (.if_icmp .lt 21, 3) := dk_dX4_allowsGreen_0.2.2.1
theorem dX4_allowsGreen_5 : decode cX4_allowsGreen 5 = .ok (.iload_n 1, 1) := dk_dX4_allowsGreen_0.2.2.2.1
theorem dX4_allowsGreen_6 : decode cX4_allowsGreen 6 = .ok (.bipush 60, 2) := dk_dX4_allowsGreen_0.2.2.2.2.1
theorem dX4_allowsGreen_8 : decode cX4_allowsGreen 8 = .ok (.if_icmp .gt 15, 3) := dk_dX4_allowsGreen_0.2.2.2.2.2.1
theorem dX4_allowsGreen_11 : decode cX4_allowsGreen 11 = .ok (.iload_n 1, 1) := dk_dX4_allowsGreen_0.2.2.2.2.2.2.1
theorem dX4_allowsGreen_12 : decode cX4_allowsGreen 12 = .ok (.aload_n 0, 1) := dk_dX4_allowsGreen_0.2.2.2.2.2.2.2.1
theorem dk_dX4_allowsGreen_0_8 : dz_C cX4_allowsGreen [(13, .getfield 39, 3), (16, .if_icmp .ge 7, 3), (19, .iconst 1, 1), (20, .goto 4, 3), (23, .iconst 0, 1), (24, .ireturn, 1)] := dk_dX4_allowsGreen_0.2.2.2.2.2.2.2.2
theorem dX4_allowsGreen_13 : decode cX4_allowsGreen 13 = .ok (.getfield 39, 3) := dk_dX4_allowsGreen_0_8.1
theorem dX4_allowsGreen_16 : decode cX4_allowsGreen 16 = .ok (.if_icmp .ge 7, 3) := dk_dX4_allowsGreen_0_8.2.1
theorem dX4_allowsGreen_19 : decode cX4_allowsGreen 19 = .ok (.iconst 1, 1) := dk_dX4_allowsGreen_0_8.2.2.1
theorem dX4_allowsGreen_20 : decode cX4_allowsGreen 20 = .ok (.goto 4, 3) := dk_dX4_allowsGreen_0_8.2.2.2.1
theorem dX4_allowsGreen_23 : decode cX4_allowsGreen 23 = .ok (.iconst 0, 1) := dk_dX4_allowsGreen_0_8.2.2.2.2.1
theorem dX4_allowsGreen_24 : decode cX4_allowsGreen 24 = .ok (.ireturn, 1) := dk_dX4_allowsGreen_0_8.2.2.2.2.2.1
theorem dk_dX4_clear_0 : dz_C cX4_clear [(0, .aload_n 0, 1), (1, .iconst 0, 1), (2, .putfield 39, 3), (5, .aload_n 0, 1), (6, .iconst 0, 1), (7, .putfield 43, 3), (10, .aload_n 0, 1), (11, .iconst 0, 1), (12, .putfield 46, 3), (15, .aload_n 0, 1), (16, .iconst 0, 1), (17, .putfield 49, 3), (20, .aload_n 0, 1), (21, .iconst 0, 1), (22, .putfield 52, 3), (25, .aload_n 0, 1)] := dz_of (by decide +kernel)
theorem dX4_clear_0 : decode cX4_clear 0 = .ok (.aload_n 0, 1) := dk_dX4_clear_0.1
theorem dX4_clear_1 : decode cX4_clear 1 = .ok (.iconst 0, 1) := dk_dX4_clear_0.2.1
theorem dX4_clear_2 : decode cX4_clear 2 = .ok (.putfield 39, 3) := dk_dX4_clear_0.2.2.1
theorem dX4_clear_5 : decode cX4_clear 5 = .ok (.aload_n 0, 1) := dk_dX4_clear_0.2.2.2.1
theorem dX4_clear_6 : decode cX4_clear 6 = .ok (.iconst 0, 1) := dk_dX4_clear_0.2.2.2.2.1
theorem dX4_clear_7 : decode cX4_clear 7 = .ok (.putfield 43, 3) := dk_dX4_clear_0.2.2.2.2.2.1
theorem dX4_clear_10 : decode cX4_clear 10 = .ok (.aload_n 0, 1) := dk_dX4_clear_0.2.2.2.2.2.2.1
theorem dX4_clear_11 : decode cX4_clear 11 = .ok (.iconst 0, 1) := dk_dX4_clear_0.2.2.2.2.2.2.2.1
theorem dk_dX4_clear_0_8 : dz_C cX4_clear [(12, .putfield 46, 3), (15, .aload_n 0, 1), (16, .iconst 0, 1), (17, .putfield 49, 3), (20, .aload_n 0, 1), (21, .iconst 0, 1), (22, .putfield 52, 3), (25, .aload_n 0, 1)] := dk_dX4_clear_0.2.2.2.2.2.2.2.2
theorem dX4_clear_12 : decode cX4_clear 12 = .ok (.putfield 46, 3) := dk_dX4_clear_0_8.1
theorem dX4_clear_15 : decode cX4_clear 15 = .ok (.aload_n 0, 1) := dk_dX4_clear_0_8.2.1
theorem dX4_clear_16 : decode cX4_clear 16 = .ok (.iconst 0, 1) := dk_dX4_clear_0_8.2.2.1
theorem dX4_clear_17 : decode cX4_clear 17 = .ok (.putfield 49, 3) := dk_dX4_clear_0_8.2.2.2.1
theorem dX4_clear_20 : decode cX4_clear 20 = .ok (.aload_n 0, 1) := dk_dX4_clear_0_8.2.2.2.2.1
theorem dX4_clear_21 : decode cX4_clear 21 = .ok (.iconst 0, 1) := dk_dX4_clear_0_8.2.2.2.2.2.1
theorem dX4_clear_22 : decode cX4_clear 22 = .ok (.putfield 52, 3) := dk_dX4_clear_0_8.2.2.2.2.2.2.1
theorem dX4_clear_25 : decode cX4_clear 25 = .ok (.aload_n 0, 1) := dk_dX4_clear_0_8.2.2.2.2.2.2.2.1
theorem dk_dX4_clear_26 : dz_C cX4_clear [(26, .iconst 0, 1), (27, .putfield 55, 3), (30, .aload_n 0, 1), (31, .getfield 27, 3), (34, .iconst 0, 1), (35, .invokestatic 58, 3), (38, .aload_n 0, 1), (39, .getfield 36, 3), (42, .iconst 0, 1), (43, .invokestatic 58, 3), (46, .return_, 1)] := dz_of (by decide +kernel)
theorem dX4_clear_26 : decode cX4_clear 26 = .ok (.iconst 0, 1) := dk_dX4_clear_26.1
theorem dX4_clear_27 : decode cX4_clear 27 = .ok (.putfield 55, 3) := dk_dX4_clear_26.2.1
theorem dX4_clear_30 : decode cX4_clear 30 = .ok (.aload_n 0, 1) := dk_dX4_clear_26.2.2.1
theorem dX4_clear_31 : decode cX4_clear 31 = .ok (.getfield 27, 3) := dk_dX4_clear_26.2.2.2.1
theorem dX4_clear_34 : decode cX4_clear 34 = .ok (.iconst 0, 1) := dk_dX4_clear_26.2.2.2.2.1
theorem dX4_clear_35 : decode cX4_clear 35 = .ok (.invokestatic 58, 3) := dk_dX4_clear_26.2.2.2.2.2.1
theorem dX4_clear_38 : decode cX4_clear 38 = .ok (.aload_n 0, 1) := dk_dX4_clear_26.2.2.2.2.2.2.1
theorem dX4_clear_39 : decode cX4_clear 39 = .ok (.getfield 36, 3) := dk_dX4_clear_26.2.2.2.2.2.2.2.1
theorem dk_dX4_clear_26_8 : dz_C cX4_clear [(42, .iconst 0, 1), (43, .invokestatic 58, 3), (46, .return_, 1)] := dk_dX4_clear_26.2.2.2.2.2.2.2.2
theorem dX4_clear_42 : decode cX4_clear 42 = .ok (.iconst 0, 1) := dk_dX4_clear_26_8.1
theorem dX4_clear_43 : decode cX4_clear 43 = .ok (.invokestatic 58, 3) := dk_dX4_clear_26_8.2.1
theorem dX4_clear_46 : decode cX4_clear 46 = .ok (.return_, 1) := dk_dX4_clear_26_8.2.2.1
theorem dk_dX4_comersIn_0 : dz_C cX4_comersIn [(0, .iload_n 1, 1), (1, .ifCond .lt 19, 3), (4, .iload_n 1, 1), (5, .sipush 200, 3), (8, .if_icmp .ge 12, 3), (11, .aload_n 0, 1), (12, .getfield 27, 3), (15, .iload_n 1, 1), (16, .iaload, 1), (17, .goto 4, 3), (20, .iconst 0, 1), (21, .ireturn, 1)] := dz_of (by decide +kernel)
theorem dX4_comersIn_0 : decode cX4_comersIn 0 = .ok (.iload_n 1, 1) := dk_dX4_comersIn_0.1
theorem dX4_comersIn_1 : decode cX4_comersIn 1 = .ok (.ifCond .lt 19, 3) := dk_dX4_comersIn_0.2.1
theorem dX4_comersIn_4 : decode cX4_comersIn 4 = .ok (.iload_n 1, 1) := dk_dX4_comersIn_0.2.2.1
theorem dX4_comersIn_5 : decode cX4_comersIn 5 = .ok (.sipush 200, 3) := dk_dX4_comersIn_0.2.2.2.1
theorem dX4_comersIn_8 : decode cX4_comersIn 8 = .ok (.if_icmp .ge 12, 3) := dk_dX4_comersIn_0.2.2.2.2.1
theorem dX4_comersIn_11 : decode cX4_comersIn 11 = .ok (.aload_n 0, 1) := dk_dX4_comersIn_0.2.2.2.2.2.1
theorem dX4_comersIn_12 : decode cX4_comersIn 12 = .ok (.getfield 27, 3) := dk_dX4_comersIn_0.2.2.2.2.2.2.1
theorem dX4_comersIn_15 : decode cX4_comersIn 15 = .ok (.iload_n 1, 1) := dk_dX4_comersIn_0.2.2.2.2.2.2.2.1
theorem dk_dX4_comersIn_0_8 : dz_C cX4_comersIn [(16, .iaload, 1), (17, .goto 4, 3), (20, .iconst 0, 1), (21, .ireturn, 1)] := dk_dX4_comersIn_0.2.2.2.2.2.2.2.2
theorem dX4_comersIn_16 : decode cX4_comersIn 16 = .ok (.iaload, 1) := dk_dX4_comersIn_0_8.1
theorem dX4_comersIn_17 : decode cX4_comersIn 17 = .ok (.goto 4, 3) := dk_dX4_comersIn_0_8.2.1
theorem dX4_comersIn_20 : decode cX4_comersIn 20 = .ok (.iconst 0, 1) := dk_dX4_comersIn_0_8.2.2.1
theorem dX4_comersIn_21 : decode cX4_comersIn 21 = .ok (.ireturn, 1) := dk_dX4_comersIn_0_8.2.2.2.1
theorem dk_dX4_everyone_0 : dz_C cX4_everyone [(0, .iconst 1, 1), (1, .aload_n 0, 1), (2, .getfield 52, 3), (5, .ishl, 1), (6, .iconst 1, 1), (7, .isub, 1), (8, .ireturn, 1)] := dz_of (by decide +kernel)
theorem dX4_everyone_0 : decode cX4_everyone 0 = .ok (.iconst 1, 1) := dk_dX4_everyone_0.1
theorem dX4_everyone_1 : decode cX4_everyone 1 = .ok (.aload_n 0, 1) := dk_dX4_everyone_0.2.1
theorem dX4_everyone_2 : decode cX4_everyone 2 = .ok (.getfield 52, 3) := dk_dX4_everyone_0.2.2.1
theorem dX4_everyone_5 : decode cX4_everyone 5 = .ok (.ishl, 1) := dk_dX4_everyone_0.2.2.2.1
theorem dX4_everyone_6 : decode cX4_everyone 6 = .ok (.iconst 1, 1) := dk_dX4_everyone_0.2.2.2.2.1
theorem dX4_everyone_7 : decode cX4_everyone 7 = .ok (.isub, 1) := dk_dX4_everyone_0.2.2.2.2.2.1
theorem dX4_everyone_8 : decode cX4_everyone 8 = .ok (.ireturn, 1) := dk_dX4_everyone_0.2.2.2.2.2.2.1
theorem dk_dX4_init_0 : dz_C cX4_init [(0, .aload_n 0, 1), (1, .invokespecial 3, 3), (4, .aload_n 0, 1), (5, .bipush 6, 2), (7, .newarray .int, 2), (9, .putfield 9, 3), (12, .aload_n 0, 1), (13, .bipush 6, 2), (15, .newarray .int, 2), (17, .putfield 15, 3), (20, .aload_n 0, 1), (21, .bipush 6, 2), (23, .newarray .int, 2), (25, .putfield 18, 3), (28, .aload_n 0, 1), (29, .bipush 12, 2)] := dz_of (by decide +kernel)
theorem dX4_init_0 : decode cX4_init 0 = .ok (.aload_n 0, 1) := dk_dX4_init_0.1
theorem dX4_init_1 : decode cX4_init 1 = .ok (.invokespecial 3, 3) := dk_dX4_init_0.2.1
theorem dX4_init_4 : decode cX4_init 4 = .ok (.aload_n 0, 1) := dk_dX4_init_0.2.2.1
theorem dX4_init_5 : decode cX4_init 5 = .ok (.bipush 6, 2) := dk_dX4_init_0.2.2.2.1
theorem dX4_init_7 : decode cX4_init 7 = .ok (.newarray .int, 2) := dk_dX4_init_0.2.2.2.2.1
theorem dX4_init_9 : decode cX4_init 9 = .ok (.putfield 9, 3) := dk_dX4_init_0.2.2.2.2.2.1
theorem dX4_init_12 : decode cX4_init 12 = .ok (.aload_n 0, 1) := dk_dX4_init_0.2.2.2.2.2.2.1
theorem dX4_init_13 : decode cX4_init 13 = .ok (.bipush 6, 2) := dk_dX4_init_0.2.2.2.2.2.2.2.1
theorem dk_dX4_init_0_8 : dz_C cX4_init [(15, .newarray .int, 2), (17, .putfield 15, 3), (20, .aload_n 0, 1), (21, .bipush 6, 2), (23, .newarray .int, 2), (25, .putfield 18, 3), (28, .aload_n 0, 1), (29, .bipush 12, 2)] := dk_dX4_init_0.2.2.2.2.2.2.2.2
theorem dX4_init_15 : decode cX4_init 15 = .ok (.newarray .int, 2) := dk_dX4_init_0_8.1
theorem dX4_init_17 : decode cX4_init 17 = .ok (.putfield 15, 3) := dk_dX4_init_0_8.2.1
theorem dX4_init_20 : decode cX4_init 20 = .ok (.aload_n 0, 1) := dk_dX4_init_0_8.2.2.1
theorem dX4_init_21 : decode cX4_init 21 = .ok (.bipush 6, 2) := dk_dX4_init_0_8.2.2.2.1
theorem dX4_init_23 : decode cX4_init 23 = .ok (.newarray .int, 2) := dk_dX4_init_0_8.2.2.2.2.1
theorem dX4_init_25 : decode cX4_init 25 = .ok (.putfield 18, 3) := dk_dX4_init_0_8.2.2.2.2.2.1
theorem dX4_init_28 : decode cX4_init 28 = .ok (.aload_n 0, 1) := dk_dX4_init_0_8.2.2.2.2.2.2.1
theorem dX4_init_29 : decode cX4_init 29 = .ok (.bipush 12, 2) := dk_dX4_init_0_8.2.2.2.2.2.2.2.1
theorem dk_dX4_init_31 : dz_C cX4_init [(31, .newarray .int, 2), (33, .putfield 21, 3), (36, .aload_n 0, 1), (37, .bipush 12, 2), (39, .newarray .int, 2), (41, .putfield 24, 3), (44, .aload_n 0, 1), (45, .sipush 200, 3), (48, .newarray .int, 2), (50, .putfield 27, 3), (53, .aload_n 0, 1), (54, .bipush 108, 2), (56, .newarray .int, 2), (58, .putfield 30, 3), (61, .aload_n 0, 1), (62, .sipush 1600, 3)] := dz_of (by decide +kernel)
theorem dX4_init_31 : decode cX4_init 31 = .ok (.newarray .int, 2) := dk_dX4_init_31.1
theorem dX4_init_33 : decode cX4_init 33 = .ok (.putfield 21, 3) := dk_dX4_init_31.2.1
theorem dX4_init_36 : decode cX4_init 36 = .ok (.aload_n 0, 1) := dk_dX4_init_31.2.2.1
theorem dX4_init_37 : decode cX4_init 37 = .ok (.bipush 12, 2) := dk_dX4_init_31.2.2.2.1
theorem dX4_init_39 : decode cX4_init 39 = .ok (.newarray .int, 2) := dk_dX4_init_31.2.2.2.2.1
theorem dX4_init_41 : decode cX4_init 41 = .ok (.putfield 24, 3) := dk_dX4_init_31.2.2.2.2.2.1
theorem dX4_init_44 : decode cX4_init 44 = .ok (.aload_n 0, 1) := dk_dX4_init_31.2.2.2.2.2.2.1
theorem dX4_init_45 : decode cX4_init 45 = .ok (.sipush 200, 3) := dk_dX4_init_31.2.2.2.2.2.2.2.1
theorem dk_dX4_init_31_8 : dz_C cX4_init [(48, .newarray .int, 2), (50, .putfield 27, 3), (53, .aload_n 0, 1), (54, .bipush 108, 2), (56, .newarray .int, 2), (58, .putfield 30, 3), (61, .aload_n 0, 1), (62, .sipush 1600, 3)] := dk_dX4_init_31.2.2.2.2.2.2.2.2
theorem dX4_init_48 : decode cX4_init 48 = .ok (.newarray .int, 2) := dk_dX4_init_31_8.1
theorem dX4_init_50 : decode cX4_init 50 = .ok (.putfield 27, 3) := dk_dX4_init_31_8.2.1
theorem dX4_init_53 : decode cX4_init 53 = .ok (.aload_n 0, 1) := dk_dX4_init_31_8.2.2.1
theorem dX4_init_54 : decode cX4_init 54 = .ok (.bipush 108, 2) := dk_dX4_init_31_8.2.2.2.1
theorem dX4_init_56 : decode cX4_init 56 = .ok (.newarray .int, 2) := dk_dX4_init_31_8.2.2.2.2.1
theorem dX4_init_58 : decode cX4_init 58 = .ok (.putfield 30, 3) := dk_dX4_init_31_8.2.2.2.2.2.1
theorem dX4_init_61 : decode cX4_init 61 = .ok (.aload_n 0, 1) := dk_dX4_init_31_8.2.2.2.2.2.2.1
theorem dX4_init_62 : decode cX4_init 62 = .ok (.sipush 1600, 3) := dk_dX4_init_31_8.2.2.2.2.2.2.2.1
theorem dk_dX4_init_65 : dz_C cX4_init [(65, .newarray .int, 2), (67, .putfield 33, 3), (70, .aload_n 0, 1), (71, .bipush 6, 2), (73, .newarray .int, 2), (75, .putfield 36, 3), (78, .return_, 1)] := dz_of (by decide +kernel)
theorem dX4_init_65 : decode cX4_init 65 = .ok (.newarray .int, 2) := dk_dX4_init_65.1
theorem dX4_init_67 : decode cX4_init 67 = .ok (.putfield 33, 3) := dk_dX4_init_65.2.1
theorem dX4_init_70 : decode cX4_init 70 = .ok (.aload_n 0, 1) := dk_dX4_init_65.2.2.1
theorem dX4_init_71 : decode cX4_init 71 = .ok (.bipush 6, 2) := dk_dX4_init_65.2.2.2.1
theorem dX4_init_73 : decode cX4_init 73 = .ok (.newarray .int, 2) := dk_dX4_init_65.2.2.2.2.1
theorem dX4_init_75 : decode cX4_init 75 = .ok (.putfield 36, 3) := dk_dX4_init_65.2.2.2.2.2.1
theorem dX4_init_78 : decode cX4_init 78 = .ok (.return_, 1) := dk_dX4_init_65.2.2.2.2.2.2.1
theorem dk_dX4_uses_0 : dz_C cX4_uses [(0, .aload_n 0, 1), (1, .getfield 36, 3), (4, .iload_n 1, 1), (5, .iaload, 1), (6, .istore_n 3, 1), (7, .iload_n 3, 1), (8, .aload_n 0, 1), (9, .getfield 36, 3), (12, .iload_n 1, 1), (13, .iconst 1, 1), (14, .iadd, 1), (15, .iaload, 1), (16, .if_icmp .ge 21, 3), (19, .aload_n 0, 1), (20, .getfield 33, 3), (23, .iload_n 3, 1)] := dz_of (by decide +kernel)
theorem dX4_uses_0 : decode cX4_uses 0 = .ok (.aload_n 0, 1) := dk_dX4_uses_0.1
theorem dX4_uses_1 : decode cX4_uses 1 = .ok (.getfield 36, 3) := dk_dX4_uses_0.2.1
theorem dX4_uses_4 : decode cX4_uses 4 = .ok (.iload_n 1, 1) := dk_dX4_uses_0.2.2.1
theorem dX4_uses_5 : decode cX4_uses 5 = .ok (.iaload, 1) := dk_dX4_uses_0.2.2.2.1
theorem dX4_uses_6 : decode cX4_uses 6 = .ok (.istore_n 3, 1) := dk_dX4_uses_0.2.2.2.2.1
theorem dX4_uses_7 : decode cX4_uses 7 = .ok (.iload_n 3, 1) := dk_dX4_uses_0.2.2.2.2.2.1
theorem dX4_uses_8 : decode cX4_uses 8 = .ok (.aload_n 0, 1) := dk_dX4_uses_0.2.2.2.2.2.2.1
theorem dX4_uses_9 : decode cX4_uses 9 = .ok (.getfield 36, 3) := dk_dX4_uses_0.2.2.2.2.2.2.2.1
theorem dk_dX4_uses_0_8 : dz_C cX4_uses [(12, .iload_n 1, 1), (13, .iconst 1, 1), (14, .iadd, 1), (15, .iaload, 1), (16, .if_icmp .ge 21, 3), (19, .aload_n 0, 1), (20, .getfield 33, 3), (23, .iload_n 3, 1)] := dk_dX4_uses_0.2.2.2.2.2.2.2.2
theorem dX4_uses_12 : decode cX4_uses 12 = .ok (.iload_n 1, 1) := dk_dX4_uses_0_8.1
theorem dX4_uses_13 : decode cX4_uses 13 = .ok (.iconst 1, 1) := dk_dX4_uses_0_8.2.1
theorem dX4_uses_14 : decode cX4_uses 14 = .ok (.iadd, 1) := dk_dX4_uses_0_8.2.2.1
theorem dX4_uses_15 : decode cX4_uses 15 = .ok (.iaload, 1) := dk_dX4_uses_0_8.2.2.2.1
theorem dX4_uses_16 : decode cX4_uses 16 = .ok (.if_icmp .ge 21, 3) := dk_dX4_uses_0_8.2.2.2.2.1
theorem dX4_uses_19 : decode cX4_uses 19 = .ok (.aload_n 0, 1) := dk_dX4_uses_0_8.2.2.2.2.2.1
theorem dX4_uses_20 : decode cX4_uses 20 = .ok (.getfield 33, 3) := dk_dX4_uses_0_8.2.2.2.2.2.2.1
theorem dX4_uses_23 : decode cX4_uses 23 = .ok (.iload_n 3, 1) := dk_dX4_uses_0_8.2.2.2.2.2.2.2.1
theorem dk_dX4_uses_24 : dz_C cX4_uses [(24, .iaload, 1), (25, .iload_n 2, 1), (26, .if_icmp .ne 5, 3), (29, .iconst 1, 1), (30, .ireturn, 1), (31, .iinc 3 1, 3), (34, .goto (-27), 3), (37, .iconst 0, 1), (38, .ireturn, 1)] := dz_of (by decide +kernel)
theorem dX4_uses_24 : decode cX4_uses 24 = .ok (.iaload, 1) := dk_dX4_uses_24.1
theorem dX4_uses_25 : decode cX4_uses 25 = .ok (.iload_n 2, 1) := dk_dX4_uses_24.2.1
theorem dX4_uses_26 : decode cX4_uses 26 = .ok (.if_icmp .ne 5, 3) := dk_dX4_uses_24.2.2.1
theorem dX4_uses_29 : decode cX4_uses 29 = .ok (.iconst 1, 1) := dk_dX4_uses_24.2.2.2.1
theorem dX4_uses_30 : decode cX4_uses 30 = .ok (.ireturn, 1) := dk_dX4_uses_24.2.2.2.2.1
theorem dX4_uses_31 : decode cX4_uses 31 = .ok (.iinc 3 1, 3) := dk_dX4_uses_24.2.2.2.2.2.1
theorem dX4_uses_34 : decode cX4_uses 34 = .ok (.goto (-27), 3) := dk_dX4_uses_24.2.2.2.2.2.2.1
theorem dX4_uses_37 : decode cX4_uses 37 = .ok (.iconst 0, 1) := dk_dX4_uses_24.2.2.2.2.2.2.2.1
theorem dk_dX4_uses_24_8 : dz_C cX4_uses [(38, .ireturn, 1)] := dk_dX4_uses_24.2.2.2.2.2.2.2.2
theorem dX4_uses_38 : decode cX4_uses 38 = .ok (.ireturn, 1) := dk_dX4_uses_24_8.1
theorem dk_dX4_walkersOf_0 : dz_C cX4_walkersOf [(0, .iconst 0, 1), (1, .istore_n 2, 1), (2, .iconst 0, 1), (3, .istore_n 3, 1), (4, .iload_n 3, 1), (5, .aload_n 0, 1), (6, .getfield 52, 3), (9, .if_icmp .ge 25, 3), (12, .aload_n 0, 1), (13, .getfield 21, 3), (16, .iload_n 3, 1), (17, .iaload, 1), (18, .iload_n 1, 1), (19, .if_icmp .ne 9, 3), (22, .iload_n 2, 1), (23, .iconst 1, 1)] := dz_of (by decide +kernel)
theorem dX4_walkersOf_0 : decode cX4_walkersOf 0 = .ok (.iconst 0, 1) := dk_dX4_walkersOf_0.1
theorem dX4_walkersOf_1 : decode cX4_walkersOf 1 = .ok (.istore_n 2, 1) := dk_dX4_walkersOf_0.2.1
theorem dX4_walkersOf_2 : decode cX4_walkersOf 2 = .ok (.iconst 0, 1) := dk_dX4_walkersOf_0.2.2.1
theorem dX4_walkersOf_3 : decode cX4_walkersOf 3 = .ok (.istore_n 3, 1) := dk_dX4_walkersOf_0.2.2.2.1
theorem dX4_walkersOf_4 : decode cX4_walkersOf 4 = .ok (.iload_n 3, 1) := dk_dX4_walkersOf_0.2.2.2.2.1
theorem dX4_walkersOf_5 : decode cX4_walkersOf 5 = .ok (.aload_n 0, 1) := dk_dX4_walkersOf_0.2.2.2.2.2.1
theorem dX4_walkersOf_6 : decode cX4_walkersOf 6 = .ok (.getfield 52, 3) := dk_dX4_walkersOf_0.2.2.2.2.2.2.1
theorem dX4_walkersOf_9 : decode cX4_walkersOf 9 = .ok (.if_icmp .ge 25, 3) := dk_dX4_walkersOf_0.2.2.2.2.2.2.2.1
theorem dk_dX4_walkersOf_0_8 : dz_C cX4_walkersOf [(12, .aload_n 0, 1), (13, .getfield 21, 3), (16, .iload_n 3, 1), (17, .iaload, 1), (18, .iload_n 1, 1), (19, .if_icmp .ne 9, 3), (22, .iload_n 2, 1), (23, .iconst 1, 1)] := dk_dX4_walkersOf_0.2.2.2.2.2.2.2.2
theorem dX4_walkersOf_12 : decode cX4_walkersOf 12 = .ok (.aload_n 0, 1) := dk_dX4_walkersOf_0_8.1
theorem dX4_walkersOf_13 : decode cX4_walkersOf 13 = .ok (.getfield 21, 3) := dk_dX4_walkersOf_0_8.2.1
theorem dX4_walkersOf_16 : decode cX4_walkersOf 16 = .ok (.iload_n 3, 1) := dk_dX4_walkersOf_0_8.2.2.1
theorem dX4_walkersOf_17 : decode cX4_walkersOf 17 = .ok (.iaload, 1) := dk_dX4_walkersOf_0_8.2.2.2.1
theorem dX4_walkersOf_18 : decode cX4_walkersOf 18 = .ok (.iload_n 1, 1) := dk_dX4_walkersOf_0_8.2.2.2.2.1
theorem dX4_walkersOf_19 : decode cX4_walkersOf 19 = .ok (.if_icmp .ne 9, 3) := dk_dX4_walkersOf_0_8.2.2.2.2.2.1
theorem dX4_walkersOf_22 : decode cX4_walkersOf 22 = .ok (.iload_n 2, 1) := dk_dX4_walkersOf_0_8.2.2.2.2.2.2.1
theorem dX4_walkersOf_23 : decode cX4_walkersOf 23 = .ok (.iconst 1, 1) := dk_dX4_walkersOf_0_8.2.2.2.2.2.2.2.1
theorem dk_dX4_walkersOf_24 : dz_C cX4_walkersOf [(24, .iload_n 3, 1), (25, .ishl, 1), (26, .ior, 1), (27, .istore_n 2, 1), (28, .iinc 3 1, 3), (31, .goto (-27), 3), (34, .iload_n 2, 1), (35, .ireturn, 1)] := dz_of (by decide +kernel)
theorem dX4_walkersOf_24 : decode cX4_walkersOf 24 = .ok (.iload_n 3, 1) := dk_dX4_walkersOf_24.1
theorem dX4_walkersOf_25 : decode cX4_walkersOf 25 = .ok (.ishl, 1) := dk_dX4_walkersOf_24.2.1
theorem dX4_walkersOf_26 : decode cX4_walkersOf 26 = .ok (.ior, 1) := dk_dX4_walkersOf_24.2.2.1
theorem dX4_walkersOf_27 : decode cX4_walkersOf 27 = .ok (.istore_n 2, 1) := dk_dX4_walkersOf_24.2.2.2.1
theorem dX4_walkersOf_28 : decode cX4_walkersOf 28 = .ok (.iinc 3 1, 3) := dk_dX4_walkersOf_24.2.2.2.2.1
theorem dX4_walkersOf_31 : decode cX4_walkersOf 31 = .ok (.goto (-27), 3) := dk_dX4_walkersOf_24.2.2.2.2.2.1
theorem dX4_walkersOf_34 : decode cX4_walkersOf 34 = .ok (.iload_n 2, 1) := dk_dX4_walkersOf_24.2.2.2.2.2.2.1
theorem dX4_walkersOf_35 : decode cX4_walkersOf 35 = .ok (.ireturn, 1) := dk_dX4_walkersOf_24.2.2.2.2.2.2.2.1
theorem dk_dX5_begin_0 : dz_C cX5_begin [(0, .aload_n 1, 1), (1, .invokevirtual 96, 3), (4, .aload_n 0, 1), (5, .aload_n 1, 1), (6, .putfield 37, 3), (9, .aload_n 0, 1), (10, .iload_n 2, 1), (11, .aload_n 0, 1), (12, .getfield 33, 3), (15, .arraylength, 1), (16, .invokestatic 99, 3), (19, .putfield 11, 3), (22, .aload_n 0, 1), (23, .iconst 0, 1), (24, .putfield 27, 3), (27, .aload_n 0, 1)] := dz_of (by decide +kernel)
theorem dX5_begin_0 : decode cX5_begin 0 = .ok (.aload_n 1, 1) := dk_dX5_begin_0.1
theorem dX5_begin_1 : decode cX5_begin 1 = .ok (.invokevirtual 96, 3) := dk_dX5_begin_0.2.1
theorem dX5_begin_4 : decode cX5_begin 4 = .ok (.aload_n 0, 1) := dk_dX5_begin_0.2.2.1
theorem dX5_begin_5 : decode cX5_begin 5 = .ok (.aload_n 1, 1) := dk_dX5_begin_0.2.2.2.1
theorem dX5_begin_6 : decode cX5_begin 6 = .ok (.putfield 37, 3) := dk_dX5_begin_0.2.2.2.2.1
theorem dX5_begin_9 : decode cX5_begin 9 = .ok (.aload_n 0, 1) := dk_dX5_begin_0.2.2.2.2.2.1
theorem dX5_begin_10 : decode cX5_begin 10 = .ok (.iload_n 2, 1) := dk_dX5_begin_0.2.2.2.2.2.2.1
theorem dX5_begin_11 : decode cX5_begin 11 = .ok (.aload_n 0, 1) := dk_dX5_begin_0.2.2.2.2.2.2.2.1
theorem dk_dX5_begin_0_8 : dz_C cX5_begin [(12, .getfield 33, 3), (15, .arraylength, 1), (16, .invokestatic 99, 3), (19, .putfield 11, 3), (22, .aload_n 0, 1), (23, .iconst 0, 1), (24, .putfield 27, 3), (27, .aload_n 0, 1)] := dk_dX5_begin_0.2.2.2.2.2.2.2.2
theorem dX5_begin_12 : decode cX5_begin 12 = .ok (.getfield 33, 3) := dk_dX5_begin_0_8.1
theorem dX5_begin_15 : decode cX5_begin 15 = .ok (.arraylength, 1) := dk_dX5_begin_0_8.2.1
theorem dX5_begin_16 : decode cX5_begin 16 = .ok (.invokestatic 99, 3) := dk_dX5_begin_0_8.2.2.1
theorem dX5_begin_19 : decode cX5_begin 19 = .ok (.putfield 11, 3) := dk_dX5_begin_0_8.2.2.2.1
theorem dX5_begin_22 : decode cX5_begin 22 = .ok (.aload_n 0, 1) := dk_dX5_begin_0_8.2.2.2.2.1
theorem dX5_begin_23 : decode cX5_begin 23 = .ok (.iconst 0, 1) := dk_dX5_begin_0_8.2.2.2.2.2.1
theorem dX5_begin_24 : decode cX5_begin 24 = .ok (.putfield 27, 3) := dk_dX5_begin_0_8.2.2.2.2.2.2.1
theorem dX5_begin_27 : decode cX5_begin 27 = .ok (.aload_n 0, 1) := dk_dX5_begin_0_8.2.2.2.2.2.2.2.1
theorem dk_dX5_begin_28 : dz_C cX5_begin [(28, .iconst (-1), 1), (29, .putfield 30, 3), (32, .aload_n 0, 1), (33, .iconst 0, 1), (34, .invokevirtual 86, 3), (37, .return_, 1)] := dz_of (by decide +kernel)
theorem dX5_begin_28 : decode cX5_begin 28 = .ok (.iconst (-1), 1) := dk_dX5_begin_28.1
theorem dX5_begin_29 : decode cX5_begin 29 = .ok (.putfield 30, 3) := dk_dX5_begin_28.2.1
theorem dX5_begin_32 : decode cX5_begin 32 = .ok (.aload_n 0, 1) := dk_dX5_begin_28.2.2.1
theorem dX5_begin_33 : decode cX5_begin 33 = .ok (.iconst 0, 1) := dk_dX5_begin_28.2.2.2.1
theorem dX5_begin_34 : decode cX5_begin 34 = .ok (.invokevirtual 86, 3) := dk_dX5_begin_28.2.2.2.2.1
theorem dX5_begin_37 : decode cX5_begin 37 = .ok (.return_, 1) := dk_dX5_begin_28.2.2.2.2.2.1
theorem dk_dX5_both_0 : dz_C cX5_both [(0, .aload_n 0, 1), (1, .iload_n 1, 1), (2, .invokevirtual 202, 3), (5, .iconst 0, 1), (6, .istore_n 2, 1), (7, .iload_n 2, 1), (8, .sipush 1600, 3), (11, .if_icmp .ge 29, 3), (14, .aload_n 0, 1), (15, .ldc 205, 2), (17, .invokevirtual 195, 3), (20, .ifCond .eq 20, 3), (23, .aload_n 0, 1), (24, .iload_n 1, 1), (25, .invokevirtual 202, 3), (28, .aload_n 0, 1)] := dz_of (by decide +kernel)
theorem dX5_both_0 : decode cX5_both 0 = .ok (.aload_n 0, 1) := dk_dX5_both_0.1
theorem dX5_both_1 : decode cX5_both 1 = .ok (.iload_n 1, 1) := dk_dX5_both_0.2.1
theorem dX5_both_2 : decode cX5_both 2 = .ok (.invokevirtual 202, 3) := dk_dX5_both_0.2.2.1
theorem dX5_both_5 : decode cX5_both 5 = .ok (.iconst 0, 1) := dk_dX5_both_0.2.2.2.1
theorem dX5_both_6 : decode cX5_both 6 = .ok (.istore_n 2, 1) := dk_dX5_both_0.2.2.2.2.1
theorem dX5_both_7 : decode cX5_both 7 = .ok (.iload_n 2, 1) := dk_dX5_both_0.2.2.2.2.2.1
theorem dX5_both_8 : decode cX5_both 8 = .ok (.sipush 1600, 3) := dk_dX5_both_0.2.2.2.2.2.2.1
theorem dX5_both_11 : decode cX5_both 11 = .ok (.if_icmp .ge 29, 3) := dk_dX5_both_0.2.2.2.2.2.2.2.1
theorem dk_dX5_both_0_8 : dz_C cX5_both [(14, .aload_n 0, 1), (15, .ldc 205, 2), (17, .invokevirtual 195, 3), (20, .ifCond .eq 20, 3), (23, .aload_n 0, 1), (24, .iload_n 1, 1), (25, .invokevirtual 202, 3), (28, .aload_n 0, 1)] := dk_dX5_both_0.2.2.2.2.2.2.2.2
theorem dX5_both_14 : decode cX5_both 14 = .ok (.aload_n 0, 1) := dk_dX5_both_0_8.1
theorem dX5_both_15 : decode cX5_both 15 = .ok (.ldc 205, 2) := dk_dX5_both_0_8.2.1
theorem dX5_both_17 : decode cX5_both 17 = .ok (.invokevirtual 195, 3) := dk_dX5_both_0_8.2.2.1
theorem dX5_both_20 : decode cX5_both 20 = .ok (.ifCond .eq 20, 3) := dk_dX5_both_0_8.2.2.2.1
theorem dX5_both_23 : decode cX5_both 23 = .ok (.aload_n 0, 1) := dk_dX5_both_0_8.2.2.2.2.1
theorem dX5_both_24 : decode cX5_both 24 = .ok (.iload_n 1, 1) := dk_dX5_both_0_8.2.2.2.2.2.1
theorem dX5_both_25 : decode cX5_both 25 = .ok (.invokevirtual 202, 3) := dk_dX5_both_0_8.2.2.2.2.2.2.1
theorem dX5_both_28 : decode cX5_both 28 = .ok (.aload_n 0, 1) := dk_dX5_both_0_8.2.2.2.2.2.2.2.1
theorem dk_dX5_both_29 : dz_C cX5_both [(29, .bipush (-29), 2), (31, .invokevirtual 199, 3), (34, .iinc 2 1, 3), (37, .goto (-30), 3), (40, .return_, 1)] := dz_of (by decide +kernel)
theorem dX5_both_29 : decode cX5_both 29 = .ok (.bipush (-29), 2) := dk_dX5_both_29.1
theorem dX5_both_31 : decode cX5_both 31 = .ok (.invokevirtual 199, 3) := dk_dX5_both_29.2.1
theorem dX5_both_34 : decode cX5_both 34 = .ok (.iinc 2 1, 3) := dk_dX5_both_29.2.2.1
theorem dX5_both_37 : decode cX5_both 37 = .ok (.goto (-30), 3) := dk_dX5_both_29.2.2.2.1
theorem dX5_both_40 : decode cX5_both 40 = .ok (.return_, 1) := dk_dX5_both_29.2.2.2.2.1
theorem dk_dX5_codeStatement_0 : dz_C cX5_codeStatement [(0, .aload_n 0, 1), (1, .getfield 37, 3), (4, .getfield 162, 3), (7, .iload_n 1, 1), (8, .iconst 1, 1), (9, .iadd, 1), (10, .iaload, 1), (11, .aload_n 0, 1), (12, .getfield 37, 3), (15, .getfield 162, 3), (18, .iload_n 1, 1), (19, .iaload, 1), (20, .if_icmp .le 13, 3), (23, .aload_n 0, 1), (24, .iconst 5, 1), (25, .aload_n 0, 1)] := dz_of (by decide +kernel)
theorem dX5_codeStatement_0 : decode cX5_codeStatement 0 = .ok (.aload_n 0, 1) := dk_dX5_codeStatement_0.1
theorem dX5_codeStatement_1 : decode cX5_codeStatement 1 = .ok (.getfield 37, 3) := dk_dX5_codeStatement_0.2.1
theorem dX5_codeStatement_4 : decode cX5_codeStatement 4 = .ok (.getfield 162, 3) := dk_dX5_codeStatement_0.2.2.1
theorem dX5_codeStatement_7 : decode cX5_codeStatement 7 = .ok (.iload_n 1, 1) := dk_dX5_codeStatement_0.2.2.2.1
theorem dX5_codeStatement_8 : decode cX5_codeStatement 8 = .ok (.iconst 1, 1) := dk_dX5_codeStatement_0.2.2.2.2.1
theorem dX5_codeStatement_9 : decode cX5_codeStatement 9 = .ok (.iadd, 1) := dk_dX5_codeStatement_0.2.2.2.2.2.1
theorem dX5_codeStatement_10 : decode cX5_codeStatement 10 = .ok (.iaload, 1) := dk_dX5_codeStatement_0.2.2.2.2.2.2.1
theorem dX5_codeStatement_11 : decode cX5_codeStatement 11 = .ok (.aload_n 0, 1) := dk_dX5_codeStatement_0.2.2.2.2.2.2.2.1
theorem dk_dX5_codeStatement_0_8 : dz_C cX5_codeStatement [(12, .getfield 37, 3), (15, .getfield 162, 3), (18, .iload_n 1, 1), (19, .iaload, 1), (20, .if_icmp .le 13, 3), (23, .aload_n 0, 1), (24, .iconst 5, 1), (25, .aload_n 0, 1)] := dk_dX5_codeStatement_0.2.2.2.2.2.2.2.2
theorem dX5_codeStatement_12 : decode cX5_codeStatement 12 = .ok (.getfield 37, 3) := dk_dX5_codeStatement_0_8.1
theorem dX5_codeStatement_15 : decode cX5_codeStatement 15 = .ok (.getfield 162, 3) := dk_dX5_codeStatement_0_8.2.1
theorem dX5_codeStatement_18 : decode cX5_codeStatement 18 = .ok (.iload_n 1, 1) := dk_dX5_codeStatement_0_8.2.2.1
theorem dX5_codeStatement_19 : decode cX5_codeStatement 19 = .ok (.iaload, 1) := dk_dX5_codeStatement_0_8.2.2.2.1
theorem dX5_codeStatement_20 : decode cX5_codeStatement 20 = .ok (.if_icmp .le 13, 3) := dk_dX5_codeStatement_0_8.2.2.2.2.1
theorem dX5_codeStatement_23 : decode cX5_codeStatement 23 = .ok (.aload_n 0, 1) := dk_dX5_codeStatement_0_8.2.2.2.2.2.1
theorem dX5_codeStatement_24 : decode cX5_codeStatement 24 = .ok (.iconst 5, 1) := dk_dX5_codeStatement_0_8.2.2.2.2.2.2.1
theorem dX5_codeStatement_25 : decode cX5_codeStatement 25 = .ok (.aload_n 0, 1) := dk_dX5_codeStatement_0_8.2.2.2.2.2.2.2.1
theorem dk_dX5_codeStatement_26 : dz_C cX5_codeStatement [(26, .getfield 15, 3), (29, .invokevirtual 78, 3), (32, .return_, 1), (33, .aload_n 0, 1), (34, .aload_n 0, 1), (35, .getfield 18, 3), (38, .invokevirtual 86, 3), (41, .aload_n 0, 1), (42, .iload_n 2, 1), (43, .putfield 24, 3), (46, .aload_n 0, 1), (47, .getfield 37, 3), (50, .getfield 162, 3), (53, .iload_n 1, 1), (54, .aload_n 0, 1), (55, .getfield 37, 3)] := dz_of (by decide +kernel)
theorem dX5_codeStatement_26 : decode cX5_codeStatement 26 = .ok (.getfield 15, 3) := dk_dX5_codeStatement_26.1
theorem dX5_codeStatement_29 : decode cX5_codeStatement 29 = .ok (.invokevirtual 78, 3) := dk_dX5_codeStatement_26.2.1
theorem dX5_codeStatement_32 : decode cX5_codeStatement 32 = .ok (.return_, 1) := dk_dX5_codeStatement_26.2.2.1
theorem dX5_codeStatement_33 : decode cX5_codeStatement 33 = .ok (.aload_n 0, 1) := dk_dX5_codeStatement_26.2.2.2.1
theorem dX5_codeStatement_34 : decode cX5_codeStatement 34 = .ok (.aload_n 0, 1) := dk_dX5_codeStatement_26.2.2.2.2.1
theorem dX5_codeStatement_35 : decode cX5_codeStatement 35 = .ok (.getfield 18, 3) := dk_dX5_codeStatement_26.2.2.2.2.2.1
theorem dX5_codeStatement_38 : decode cX5_codeStatement 38 = .ok (.invokevirtual 86, 3) := dk_dX5_codeStatement_26.2.2.2.2.2.2.1
theorem dX5_codeStatement_41 : decode cX5_codeStatement 41 = .ok (.aload_n 0, 1) := dk_dX5_codeStatement_26.2.2.2.2.2.2.2.1
theorem dk_dX5_codeStatement_26_8 : dz_C cX5_codeStatement [(42, .iload_n 2, 1), (43, .putfield 24, 3), (46, .aload_n 0, 1), (47, .getfield 37, 3), (50, .getfield 162, 3), (53, .iload_n 1, 1), (54, .aload_n 0, 1), (55, .getfield 37, 3)] := dk_dX5_codeStatement_26.2.2.2.2.2.2.2.2
theorem dX5_codeStatement_42 : decode cX5_codeStatement 42 = .ok (.iload_n 2, 1) := dk_dX5_codeStatement_26_8.1
theorem dX5_codeStatement_43 : decode cX5_codeStatement 43 = .ok (.putfield 24, 3) := dk_dX5_codeStatement_26_8.2.1
theorem dX5_codeStatement_46 : decode cX5_codeStatement 46 = .ok (.aload_n 0, 1) := dk_dX5_codeStatement_26_8.2.2.1
theorem dX5_codeStatement_47 : decode cX5_codeStatement 47 = .ok (.getfield 37, 3) := dk_dX5_codeStatement_26_8.2.2.2.1
theorem dX5_codeStatement_50 : decode cX5_codeStatement 50 = .ok (.getfield 162, 3) := dk_dX5_codeStatement_26_8.2.2.2.2.1
theorem dX5_codeStatement_53 : decode cX5_codeStatement 53 = .ok (.iload_n 1, 1) := dk_dX5_codeStatement_26_8.2.2.2.2.2.1
theorem dX5_codeStatement_54 : decode cX5_codeStatement 54 = .ok (.aload_n 0, 1) := dk_dX5_codeStatement_26_8.2.2.2.2.2.2.1
theorem dX5_codeStatement_55 : decode cX5_codeStatement 55 = .ok (.getfield 37, 3) := dk_dX5_codeStatement_26_8.2.2.2.2.2.2.2.1
theorem dk_dX5_codeStatement_58 : dz_C cX5_codeStatement [(58, .getfield 165, 3), (61, .iastore, 1), (62, .iload_n 1, 1), (63, .iconst 4, 1), (64, .if_icmp .ne 11, 3), (67, .aload_n 0, 1), (68, .iconst 0, 1), (69, .invokevirtual 93, 3), (72, .goto 8, 3), (75, .aload_n 0, 1), (76, .iconst 0, 1), (77, .invokevirtual 90, 3), (80, .aload_n 0, 1), (81, .getfield 37, 3), (84, .getfield 162, 3), (87, .iload_n 1, 1)] := dz_of (by decide +kernel)
theorem dX5_codeStatement_58 : decode cX5_codeStatement 58 = .ok (.getfield 165, 3) := dk_dX5_codeStatement_58.1
theorem dX5_codeStatement_61 : decode cX5_codeStatement 61 = .ok (.iastore, 1) := dk_dX5_codeStatement_58.2.1
theorem dX5_codeStatement_62 : decode cX5_codeStatement 62 = .ok (.iload_n 1, 1) := dk_dX5_codeStatement_58.2.2.1
theorem dX5_codeStatement_63 : decode cX5_codeStatement 63 = .ok (.iconst 4, 1) := dk_dX5_codeStatement_58.2.2.2.1
theorem dX5_codeStatement_64 : decode cX5_codeStatement 64 = .ok (.if_icmp .ne 11, 3) := dk_dX5_codeStatement_58.2.2.2.2.1
theorem dX5_codeStatement_67 : decode cX5_codeStatement 67 = .ok (.aload_n 0, 1) := dk_dX5_codeStatement_58.2.2.2.2.2.1
theorem dX5_codeStatement_68 : decode cX5_codeStatement 68 = .ok (.iconst 0, 1) := dk_dX5_codeStatement_58.2.2.2.2.2.2.1
theorem dX5_codeStatement_69 : decode cX5_codeStatement 69 = .ok (.invokevirtual 93, 3) := dk_dX5_codeStatement_58.2.2.2.2.2.2.2.1
theorem dk_dX5_codeStatement_58_8 : dz_C cX5_codeStatement [(72, .goto 8, 3), (75, .aload_n 0, 1), (76, .iconst 0, 1), (77, .invokevirtual 90, 3), (80, .aload_n 0, 1), (81, .getfield 37, 3), (84, .getfield 162, 3), (87, .iload_n 1, 1)] := dk_dX5_codeStatement_58.2.2.2.2.2.2.2.2
theorem dX5_codeStatement_72 : decode cX5_codeStatement 72 = .ok (.goto 8, 3) := dk_dX5_codeStatement_58_8.1
theorem dX5_codeStatement_75 : decode cX5_codeStatement 75 = .ok (.aload_n 0, 1) := dk_dX5_codeStatement_58_8.2.1
theorem dX5_codeStatement_76 : decode cX5_codeStatement 76 = .ok (.iconst 0, 1) := dk_dX5_codeStatement_58_8.2.2.1
theorem dX5_codeStatement_77 : decode cX5_codeStatement 77 = .ok (.invokevirtual 90, 3) := dk_dX5_codeStatement_58_8.2.2.2.1
theorem dX5_codeStatement_80 : decode cX5_codeStatement 80 = .ok (.aload_n 0, 1) := dk_dX5_codeStatement_58_8.2.2.2.2.1
theorem dX5_codeStatement_81 : decode cX5_codeStatement 81 = .ok (.getfield 37, 3) := dk_dX5_codeStatement_58_8.2.2.2.2.2.1
theorem dX5_codeStatement_84 : decode cX5_codeStatement 84 = .ok (.getfield 162, 3) := dk_dX5_codeStatement_58_8.2.2.2.2.2.2.1
theorem dX5_codeStatement_87 : decode cX5_codeStatement 87 = .ok (.iload_n 1, 1) := dk_dX5_codeStatement_58_8.2.2.2.2.2.2.2.1
theorem dk_dX5_codeStatement_88 : dz_C cX5_codeStatement [(88, .iconst 1, 1), (89, .iadd, 1), (90, .aload_n 0, 1), (91, .getfield 37, 3), (94, .getfield 165, 3), (97, .iastore, 1), (98, .return_, 1)] := dz_of (by decide +kernel)
theorem dX5_codeStatement_88 : decode cX5_codeStatement 88 = .ok (.iconst 1, 1) := dk_dX5_codeStatement_88.1
theorem dX5_codeStatement_89 : decode cX5_codeStatement 89 = .ok (.iadd, 1) := dk_dX5_codeStatement_88.2.1
theorem dX5_codeStatement_90 : decode cX5_codeStatement 90 = .ok (.aload_n 0, 1) := dk_dX5_codeStatement_88.2.2.1
theorem dX5_codeStatement_91 : decode cX5_codeStatement 91 = .ok (.getfield 37, 3) := dk_dX5_codeStatement_88.2.2.2.1
theorem dX5_codeStatement_94 : decode cX5_codeStatement 94 = .ok (.getfield 165, 3) := dk_dX5_codeStatement_88.2.2.2.2.1
theorem dX5_codeStatement_97 : decode cX5_codeStatement 97 = .ok (.iastore, 1) := dk_dX5_codeStatement_88.2.2.2.2.2.1
theorem dX5_codeStatement_98 : decode cX5_codeStatement 98 = .ok (.return_, 1) := dk_dX5_codeStatement_88.2.2.2.2.2.2.1
theorem dk_dX5_comesStatement_0 : dz_C cX5_comesStatement [(0, .aload_n 0, 1), (1, .getfield 37, 3), (4, .getfield 139, 3), (7, .istore_n 1, 1), (8, .iload_n 1, 1), (9, .bipush 12, 2), (11, .if_icmp .lt 13, 3), (14, .aload_n 0, 1), (15, .iconst 5, 1), (16, .aload_n 0, 1), (17, .getfield 15, 3), (20, .invokevirtual 78, 3), (23, .return_, 1), (24, .aload_n 0, 1), (25, .aload_n 0, 1), (26, .getfield 18, 3)] := dz_of (by decide +kernel)
theorem dX5_comesStatement_0 : decode cX5_comesStatement 0 = .ok (.aload_n 0, 1) := dk_dX5_comesStatement_0.1
theorem dX5_comesStatement_1 : decode cX5_comesStatement 1 = .ok (.getfield 37, 3) := dk_dX5_comesStatement_0.2.1
theorem dX5_comesStatement_4 : decode cX5_comesStatement 4 = .ok (.getfield 139, 3) := dk_dX5_comesStatement_0.2.2.1
theorem dX5_comesStatement_7 : decode cX5_comesStatement 7 = .ok (.istore_n 1, 1) := dk_dX5_comesStatement_0.2.2.2.1
theorem dX5_comesStatement_8 : decode cX5_comesStatement 8 = .ok (.iload_n 1, 1) := dk_dX5_comesStatement_0.2.2.2.2.1
theorem dX5_comesStatement_9 : decode cX5_comesStatement 9 = .ok (.bipush 12, 2) := dk_dX5_comesStatement_0.2.2.2.2.2.1
theorem dX5_comesStatement_11 : decode cX5_comesStatement 11 = .ok (.if_icmp .lt 13, 3) := dk_dX5_comesStatement_0.2.2.2.2.2.2.1
theorem dX5_comesStatement_14 : decode cX5_comesStatement 14 = .ok (.aload_n 0, 1) := dk_dX5_comesStatement_0.2.2.2.2.2.2.2.1
theorem dk_dX5_comesStatement_0_8 : dz_C cX5_comesStatement [(15, .iconst 5, 1), (16, .aload_n 0, 1), (17, .getfield 15, 3), (20, .invokevirtual 78, 3), (23, .return_, 1), (24, .aload_n 0, 1), (25, .aload_n 0, 1), (26, .getfield 18, 3)] := dk_dX5_comesStatement_0.2.2.2.2.2.2.2.2
theorem dX5_comesStatement_15 : decode cX5_comesStatement 15 = .ok (.iconst 5, 1) := dk_dX5_comesStatement_0_8.1
theorem dX5_comesStatement_16 : decode cX5_comesStatement 16 = .ok (.aload_n 0, 1) := dk_dX5_comesStatement_0_8.2.1
theorem dX5_comesStatement_17 : decode cX5_comesStatement 17 = .ok (.getfield 15, 3) := dk_dX5_comesStatement_0_8.2.2.1
theorem dX5_comesStatement_20 : decode cX5_comesStatement 20 = .ok (.invokevirtual 78, 3) := dk_dX5_comesStatement_0_8.2.2.2.1
theorem dX5_comesStatement_23 : decode cX5_comesStatement 23 = .ok (.return_, 1) := dk_dX5_comesStatement_0_8.2.2.2.2.1
theorem dX5_comesStatement_24 : decode cX5_comesStatement 24 = .ok (.aload_n 0, 1) := dk_dX5_comesStatement_0_8.2.2.2.2.2.1
theorem dX5_comesStatement_25 : decode cX5_comesStatement 25 = .ok (.aload_n 0, 1) := dk_dX5_comesStatement_0_8.2.2.2.2.2.2.1
theorem dX5_comesStatement_26 : decode cX5_comesStatement 26 = .ok (.getfield 18, 3) := dk_dX5_comesStatement_0_8.2.2.2.2.2.2.2.1
theorem dk_dX5_comesStatement_29 : dz_C cX5_comesStatement [(29, .invokevirtual 86, 3), (32, .aload_n 0, 1), (33, .bipush 6, 2), (35, .iload_n 1, 1), (36, .iadd, 1), (37, .invokevirtual 124, 3), (40, .aload_n 0, 1), (41, .ldc 142, 2), (43, .invokevirtual 144, 3), (46, .aload_n 0, 1), (47, .getfield 37, 3), (50, .getfield 148, 3), (53, .iload_n 1, 1), (54, .aload_n 0, 1), (55, .invokevirtual 151, 3), (58, .iastore, 1)] := dz_of (by decide +kernel)
theorem dX5_comesStatement_29 : decode cX5_comesStatement 29 = .ok (.invokevirtual 86, 3) := dk_dX5_comesStatement_29.1
theorem dX5_comesStatement_32 : decode cX5_comesStatement 32 = .ok (.aload_n 0, 1) := dk_dX5_comesStatement_29.2.1
theorem dX5_comesStatement_33 : decode cX5_comesStatement 33 = .ok (.bipush 6, 2) := dk_dX5_comesStatement_29.2.2.1
theorem dX5_comesStatement_35 : decode cX5_comesStatement 35 = .ok (.iload_n 1, 1) := dk_dX5_comesStatement_29.2.2.2.1
theorem dX5_comesStatement_36 : decode cX5_comesStatement 36 = .ok (.iadd, 1) := dk_dX5_comesStatement_29.2.2.2.2.1
theorem dX5_comesStatement_37 : decode cX5_comesStatement 37 = .ok (.invokevirtual 124, 3) := dk_dX5_comesStatement_29.2.2.2.2.2.1
theorem dX5_comesStatement_40 : decode cX5_comesStatement 40 = .ok (.aload_n 0, 1) := dk_dX5_comesStatement_29.2.2.2.2.2.2.1
theorem dX5_comesStatement_41 : decode cX5_comesStatement 41 = .ok (.ldc 142, 2) := dk_dX5_comesStatement_29.2.2.2.2.2.2.2.1
theorem dk_dX5_comesStatement_29_8 : dz_C cX5_comesStatement [(43, .invokevirtual 144, 3), (46, .aload_n 0, 1), (47, .getfield 37, 3), (50, .getfield 148, 3), (53, .iload_n 1, 1), (54, .aload_n 0, 1), (55, .invokevirtual 151, 3), (58, .iastore, 1)] := dk_dX5_comesStatement_29.2.2.2.2.2.2.2.2
theorem dX5_comesStatement_43 : decode cX5_comesStatement 43 = .ok (.invokevirtual 144, 3) := dk_dX5_comesStatement_29_8.1
theorem dX5_comesStatement_46 : decode cX5_comesStatement 46 = .ok (.aload_n 0, 1) := dk_dX5_comesStatement_29_8.2.1
theorem dX5_comesStatement_47 : decode cX5_comesStatement 47 = .ok (.getfield 37, 3) := dk_dX5_comesStatement_29_8.2.2.1
theorem dX5_comesStatement_50 : decode cX5_comesStatement 50 = .ok (.getfield 148, 3) := dk_dX5_comesStatement_29_8.2.2.2.1
theorem dX5_comesStatement_53 : decode cX5_comesStatement 53 = .ok (.iload_n 1, 1) := dk_dX5_comesStatement_29_8.2.2.2.2.1
theorem dX5_comesStatement_54 : decode cX5_comesStatement 54 = .ok (.aload_n 0, 1) := dk_dX5_comesStatement_29_8.2.2.2.2.2.1
theorem dX5_comesStatement_55 : decode cX5_comesStatement 55 = .ok (.invokevirtual 151, 3) := dk_dX5_comesStatement_29_8.2.2.2.2.2.2.1
theorem dX5_comesStatement_58 : decode cX5_comesStatement 58 = .ok (.iastore, 1) := dk_dX5_comesStatement_29_8.2.2.2.2.2.2.2.1
theorem dk_dX5_comesStatement_59 : dz_C cX5_comesStatement [(59, .aload_n 0, 1), (60, .ldc 155, 2), (62, .iconst 0, 1), (63, .sipush 199, 3), (66, .invokevirtual 70, 3), (69, .istore_n 2, 1), (70, .aload_n 0, 1), (71, .getfield 37, 3), (74, .getfield 156, 3), (77, .iload_n 1, 1), (78, .iload_n 2, 1), (79, .iastore, 1), (80, .aload_n 0, 1), (81, .getfield 37, 3), (84, .getfield 159, 3), (87, .iload_n 2, 1)] := dz_of (by decide +kernel)
theorem dX5_comesStatement_59 : decode cX5_comesStatement 59 = .ok (.aload_n 0, 1) := dk_dX5_comesStatement_59.1
theorem dX5_comesStatement_60 : decode cX5_comesStatement 60 = .ok (.ldc 155, 2) := dk_dX5_comesStatement_59.2.1
theorem dX5_comesStatement_62 : decode cX5_comesStatement 62 = .ok (.iconst 0, 1) := dk_dX5_comesStatement_59.2.2.1
theorem dX5_comesStatement_63 : decode cX5_comesStatement 63 = .ok (.sipush 199, 3) := dk_dX5_comesStatement_59.2.2.2.1
theorem dX5_comesStatement_66 : decode cX5_comesStatement 66 = .ok (.invokevirtual 70, 3) := dk_dX5_comesStatement_59.2.2.2.2.1
theorem dX5_comesStatement_69 : decode cX5_comesStatement 69 = .ok (.istore_n 2, 1) := dk_dX5_comesStatement_59.2.2.2.2.2.1
theorem dX5_comesStatement_70 : decode cX5_comesStatement 70 = .ok (.aload_n 0, 1) := dk_dX5_comesStatement_59.2.2.2.2.2.2.1
theorem dX5_comesStatement_71 : decode cX5_comesStatement 71 = .ok (.getfield 37, 3) := dk_dX5_comesStatement_59.2.2.2.2.2.2.2.1
theorem dk_dX5_comesStatement_59_8 : dz_C cX5_comesStatement [(74, .getfield 156, 3), (77, .iload_n 1, 1), (78, .iload_n 2, 1), (79, .iastore, 1), (80, .aload_n 0, 1), (81, .getfield 37, 3), (84, .getfield 159, 3), (87, .iload_n 2, 1)] := dk_dX5_comesStatement_59.2.2.2.2.2.2.2.2
theorem dX5_comesStatement_74 : decode cX5_comesStatement 74 = .ok (.getfield 156, 3) := dk_dX5_comesStatement_59_8.1
theorem dX5_comesStatement_77 : decode cX5_comesStatement 77 = .ok (.iload_n 1, 1) := dk_dX5_comesStatement_59_8.2.1
theorem dX5_comesStatement_78 : decode cX5_comesStatement 78 = .ok (.iload_n 2, 1) := dk_dX5_comesStatement_59_8.2.2.1
theorem dX5_comesStatement_79 : decode cX5_comesStatement 79 = .ok (.iastore, 1) := dk_dX5_comesStatement_59_8.2.2.2.1
theorem dX5_comesStatement_80 : decode cX5_comesStatement 80 = .ok (.aload_n 0, 1) := dk_dX5_comesStatement_59_8.2.2.2.2.1
theorem dX5_comesStatement_81 : decode cX5_comesStatement 81 = .ok (.getfield 37, 3) := dk_dX5_comesStatement_59_8.2.2.2.2.2.1
theorem dX5_comesStatement_84 : decode cX5_comesStatement 84 = .ok (.getfield 159, 3) := dk_dX5_comesStatement_59_8.2.2.2.2.2.2.1
theorem dX5_comesStatement_87 : decode cX5_comesStatement 87 = .ok (.iload_n 2, 1) := dk_dX5_comesStatement_59_8.2.2.2.2.2.2.2.1
theorem dk_dX5_comesStatement_88 : dz_C cX5_comesStatement [(88, .dup2, 1), (89, .iaload, 1), (90, .iconst 1, 1), (91, .iload_n 1, 1), (92, .ishl, 1), (93, .ior, 1), (94, .iastore, 1), (95, .aload_n 0, 1), (96, .getfield 37, 3), (99, .dup, 1), (100, .getfield 139, 3), (103, .iconst 1, 1), (104, .iadd, 1), (105, .putfield 139, 3), (108, .return_, 1)] := dz_of (by decide +kernel)
theorem dX5_comesStatement_88 : decode cX5_comesStatement 88 = .ok (.dup2, 1) := dk_dX5_comesStatement_88.1
theorem dX5_comesStatement_89 : decode cX5_comesStatement 89 = .ok (.iaload, 1) := dk_dX5_comesStatement_88.2.1
theorem dX5_comesStatement_90 : decode cX5_comesStatement 90 = .ok (.iconst 1, 1) := dk_dX5_comesStatement_88.2.2.1
theorem dX5_comesStatement_91 : decode cX5_comesStatement 91 = .ok (.iload_n 1, 1) := dk_dX5_comesStatement_88.2.2.2.1
theorem dX5_comesStatement_92 : decode cX5_comesStatement 92 = .ok (.ishl, 1) := dk_dX5_comesStatement_88.2.2.2.2.1
theorem dX5_comesStatement_93 : decode cX5_comesStatement 93 = .ok (.ior, 1) := dk_dX5_comesStatement_88.2.2.2.2.2.1
theorem dX5_comesStatement_94 : decode cX5_comesStatement 94 = .ok (.iastore, 1) := dk_dX5_comesStatement_88.2.2.2.2.2.2.1
theorem dX5_comesStatement_95 : decode cX5_comesStatement 95 = .ok (.aload_n 0, 1) := dk_dX5_comesStatement_88.2.2.2.2.2.2.2.1
theorem dk_dX5_comesStatement_88_8 : dz_C cX5_comesStatement [(96, .getfield 37, 3), (99, .dup, 1), (100, .getfield 139, 3), (103, .iconst 1, 1), (104, .iadd, 1), (105, .putfield 139, 3), (108, .return_, 1)] := dk_dX5_comesStatement_88.2.2.2.2.2.2.2.2
theorem dX5_comesStatement_96 : decode cX5_comesStatement 96 = .ok (.getfield 37, 3) := dk_dX5_comesStatement_88_8.1
theorem dX5_comesStatement_99 : decode cX5_comesStatement 99 = .ok (.dup, 1) := dk_dX5_comesStatement_88_8.2.1
theorem dX5_comesStatement_100 : decode cX5_comesStatement 100 = .ok (.getfield 139, 3) := dk_dX5_comesStatement_88_8.2.2.1
theorem dX5_comesStatement_103 : decode cX5_comesStatement 103 = .ok (.iconst 1, 1) := dk_dX5_comesStatement_88_8.2.2.2.1
theorem dX5_comesStatement_104 : decode cX5_comesStatement 104 = .ok (.iadd, 1) := dk_dX5_comesStatement_88_8.2.2.2.2.1
theorem dX5_comesStatement_105 : decode cX5_comesStatement 105 = .ok (.putfield 139, 3) := dk_dX5_comesStatement_88_8.2.2.2.2.2.1
theorem dX5_comesStatement_108 : decode cX5_comesStatement 108 = .ok (.return_, 1) := dk_dX5_comesStatement_88_8.2.2.2.2.2.2.1
theorem dk_dX5_emit_0 : dz_C cX5_emit [(0, .aload_n 0, 1), (1, .getfield 37, 3), (4, .getfield 165, 3), (7, .aload_n 0, 1), (8, .getfield 37, 3), (11, .getfield 241, 3), (14, .arraylength, 1), (15, .if_icmp .ge 32, 3), (18, .aload_n 0, 1), (19, .getfield 37, 3), (22, .getfield 241, 3), (25, .aload_n 0, 1), (26, .getfield 37, 3), (29, .getfield 165, 3), (32, .iload_n 1, 1), (33, .iastore, 1)] := dz_of (by decide +kernel)
theorem dX5_emit_0 : decode cX5_emit 0 = .ok (.aload_n 0, 1) := dk_dX5_emit_0.1
theorem dX5_emit_1 : decode cX5_emit 1 = .ok (.getfield 37, 3) := dk_dX5_emit_0.2.1
theorem dX5_emit_4 : decode cX5_emit 4 = .ok (.getfield 165, 3) := dk_dX5_emit_0.2.2.1
theorem dX5_emit_7 : decode cX5_emit 7 = .ok (.aload_n 0, 1) := dk_dX5_emit_0.2.2.2.1
theorem dX5_emit_8 : decode cX5_emit 8 = .ok (.getfield 37, 3) := dk_dX5_emit_0.2.2.2.2.1
theorem dX5_emit_11 : decode cX5_emit 11 = .ok (.getfield 241, 3) := dk_dX5_emit_0.2.2.2.2.2.1
theorem dX5_emit_14 : decode cX5_emit 14 = .ok (.arraylength, 1) := dk_dX5_emit_0.2.2.2.2.2.2.1
theorem dX5_emit_15 : decode cX5_emit 15 = .ok (.if_icmp .ge 32, 3) := dk_dX5_emit_0.2.2.2.2.2.2.2.1
theorem dk_dX5_emit_0_8 : dz_C cX5_emit [(18, .aload_n 0, 1), (19, .getfield 37, 3), (22, .getfield 241, 3), (25, .aload_n 0, 1), (26, .getfield 37, 3), (29, .getfield 165, 3), (32, .iload_n 1, 1), (33, .iastore, 1)] := dk_dX5_emit_0.2.2.2.2.2.2.2.2
theorem dX5_emit_18 : decode cX5_emit 18 = .ok (.aload_n 0, 1) := dk_dX5_emit_0_8.1
theorem dX5_emit_19 : decode cX5_emit 19 = .ok (.getfield 37, 3) := dk_dX5_emit_0_8.2.1
theorem dX5_emit_22 : decode cX5_emit 22 = .ok (.getfield 241, 3) := dk_dX5_emit_0_8.2.2.1
theorem dX5_emit_25 : decode cX5_emit 25 = .ok (.aload_n 0, 1) := dk_dX5_emit_0_8.2.2.2.1
theorem dX5_emit_26 : decode cX5_emit 26 = .ok (.getfield 37, 3) := dk_dX5_emit_0_8.2.2.2.2.1
theorem dX5_emit_29 : decode cX5_emit 29 = .ok (.getfield 165, 3) := dk_dX5_emit_0_8.2.2.2.2.2.1
theorem dX5_emit_32 : decode cX5_emit 32 = .ok (.iload_n 1, 1) := dk_dX5_emit_0_8.2.2.2.2.2.2.1
theorem dX5_emit_33 : decode cX5_emit 33 = .ok (.iastore, 1) := dk_dX5_emit_0_8.2.2.2.2.2.2.2.1
theorem dk_dX5_emit_34 : dz_C cX5_emit [(34, .aload_n 0, 1), (35, .getfield 37, 3), (38, .dup, 1), (39, .getfield 165, 3), (42, .iconst 1, 1), (43, .iadd, 1), (44, .putfield 165, 3), (47, .return_, 1)] := dz_of (by decide +kernel)
theorem dX5_emit_34 : decode cX5_emit 34 = .ok (.aload_n 0, 1) := dk_dX5_emit_34.1
theorem dX5_emit_35 : decode cX5_emit 35 = .ok (.getfield 37, 3) := dk_dX5_emit_34.2.1
theorem dX5_emit_38 : decode cX5_emit 38 = .ok (.dup, 1) := dk_dX5_emit_34.2.2.1
theorem dX5_emit_39 : decode cX5_emit 39 = .ok (.getfield 165, 3) := dk_dX5_emit_34.2.2.2.1
theorem dX5_emit_42 : decode cX5_emit 42 = .ok (.iconst 1, 1) := dk_dX5_emit_34.2.2.2.2.1
theorem dX5_emit_43 : decode cX5_emit 43 = .ok (.iadd, 1) := dk_dX5_emit_34.2.2.2.2.2.1
theorem dX5_emit_44 : decode cX5_emit 44 = .ok (.putfield 165, 3) := dk_dX5_emit_34.2.2.2.2.2.2.1
theorem dX5_emit_47 : decode cX5_emit 47 = .ok (.return_, 1) := dk_dX5_emit_34.2.2.2.2.2.2.2.1
theorem dk_dX5_enters_0 : dz_C cX5_enters [(0, .iload_n 1, 1), (1, .bipush 6, 2), (3, .if_icmp .lt 14, 3), (6, .aload_n 0, 1), (7, .iconst 4, 1), (8, .aload_n 0, 1), (9, .getfield 15, 3), (12, .invokevirtual 78, 3), (15, .iconst 0, 1), (16, .ireturn, 1), (17, .aload_n 0, 1), (18, .aload_n 0, 1), (19, .getfield 18, 3), (22, .invokevirtual 86, 3), (25, .iconst 1, 1), (26, .ireturn, 1)] := dz_of (by decide +kernel)
theorem dX5_enters_0 : decode cX5_enters 0 = .ok (.iload_n 1, 1) := dk_dX5_enters_0.1
theorem dX5_enters_1 : decode cX5_enters 1 = .ok (.bipush 6, 2) := dk_dX5_enters_0.2.1
theorem dX5_enters_3 : decode cX5_enters 3 = .ok (.if_icmp .lt 14, 3) := dk_dX5_enters_0.2.2.1
theorem dX5_enters_6 : decode cX5_enters 6 = .ok (.aload_n 0, 1) := dk_dX5_enters_0.2.2.2.1
theorem dX5_enters_7 : decode cX5_enters 7 = .ok (.iconst 4, 1) := dk_dX5_enters_0.2.2.2.2.1
theorem dX5_enters_8 : decode cX5_enters 8 = .ok (.aload_n 0, 1) := dk_dX5_enters_0.2.2.2.2.2.1
theorem dX5_enters_9 : decode cX5_enters 9 = .ok (.getfield 15, 3) := dk_dX5_enters_0.2.2.2.2.2.2.1
theorem dX5_enters_12 : decode cX5_enters 12 = .ok (.invokevirtual 78, 3) := dk_dX5_enters_0.2.2.2.2.2.2.2.1
theorem dk_dX5_enters_0_8 : dz_C cX5_enters [(15, .iconst 0, 1), (16, .ireturn, 1), (17, .aload_n 0, 1), (18, .aload_n 0, 1), (19, .getfield 18, 3), (22, .invokevirtual 86, 3), (25, .iconst 1, 1), (26, .ireturn, 1)] := dk_dX5_enters_0.2.2.2.2.2.2.2.2
theorem dX5_enters_15 : decode cX5_enters 15 = .ok (.iconst 0, 1) := dk_dX5_enters_0_8.1
theorem dX5_enters_16 : decode cX5_enters 16 = .ok (.ireturn, 1) := dk_dX5_enters_0_8.2.1
theorem dX5_enters_17 : decode cX5_enters 17 = .ok (.aload_n 0, 1) := dk_dX5_enters_0_8.2.2.1
theorem dX5_enters_18 : decode cX5_enters 18 = .ok (.aload_n 0, 1) := dk_dX5_enters_0_8.2.2.2.1
theorem dX5_enters_19 : decode cX5_enters 19 = .ok (.getfield 18, 3) := dk_dX5_enters_0_8.2.2.2.2.1
theorem dX5_enters_22 : decode cX5_enters 22 = .ok (.invokevirtual 86, 3) := dk_dX5_enters_0_8.2.2.2.2.2.1
theorem dX5_enters_25 : decode cX5_enters 25 = .ok (.iconst 1, 1) := dk_dX5_enters_0_8.2.2.2.2.2.2.1
theorem dX5_enters_26 : decode cX5_enters 26 = .ok (.ireturn, 1) := dk_dX5_enters_0_8.2.2.2.2.2.2.2.1
theorem dk_dX5_fact_0 : dz_C cX5_fact [(0, .aload_n 0, 1), (1, .ldc 207, 2), (3, .invokevirtual 54, 3), (6, .iconst (-1), 1), (7, .if_icmp .eq 27, 3), (10, .aload_n 0, 1), (11, .iload_n 1, 1), (12, .invokevirtual 209, 3), (15, .ifCond .eq 97, 3), (18, .aload_n 0, 1), (19, .iload_n 1, 1), (20, .iconst 1, 1), (21, .iadd, 1), (22, .invokevirtual 202, 3), (25, .aload_n 0, 1), (26, .bipush (-31), 2)] := dz_of (by decide +kernel)
theorem dX5_fact_0 : decode cX5_fact 0 = .ok (.aload_n 0, 1) := dk_dX5_fact_0.1
theorem dX5_fact_1 : decode cX5_fact 1 = .ok (.ldc 207, 2) := dk_dX5_fact_0.2.1
theorem dX5_fact_3 : decode cX5_fact 3 = .ok (.invokevirtual 54, 3) := dk_dX5_fact_0.2.2.1
theorem dX5_fact_6 : decode cX5_fact 6 = .ok (.iconst (-1), 1) := dk_dX5_fact_0.2.2.2.1
theorem dX5_fact_7 : decode cX5_fact 7 = .ok (.if_icmp .eq 27, 3) := dk_dX5_fact_0.2.2.2.2.1
theorem dX5_fact_10 : decode cX5_fact 10 = .ok (.aload_n 0, 1) := dk_dX5_fact_0.2.2.2.2.2.1
theorem dX5_fact_11 : decode cX5_fact 11 = .ok (.iload_n 1, 1) := dk_dX5_fact_0.2.2.2.2.2.2.1
theorem dX5_fact_12 : decode cX5_fact 12 = .ok (.invokevirtual 209, 3) := dk_dX5_fact_0.2.2.2.2.2.2.2.1
theorem dk_dX5_fact_0_8 : dz_C cX5_fact [(15, .ifCond .eq 97, 3), (18, .aload_n 0, 1), (19, .iload_n 1, 1), (20, .iconst 1, 1), (21, .iadd, 1), (22, .invokevirtual 202, 3), (25, .aload_n 0, 1), (26, .bipush (-31), 2)] := dk_dX5_fact_0.2.2.2.2.2.2.2.2
theorem dX5_fact_15 : decode cX5_fact 15 = .ok (.ifCond .eq 97, 3) := dk_dX5_fact_0_8.1
theorem dX5_fact_18 : decode cX5_fact 18 = .ok (.aload_n 0, 1) := dk_dX5_fact_0_8.2.1
theorem dX5_fact_19 : decode cX5_fact 19 = .ok (.iload_n 1, 1) := dk_dX5_fact_0_8.2.2.1
theorem dX5_fact_20 : decode cX5_fact 20 = .ok (.iconst 1, 1) := dk_dX5_fact_0_8.2.2.2.1
theorem dX5_fact_21 : decode cX5_fact 21 = .ok (.iadd, 1) := dk_dX5_fact_0_8.2.2.2.2.1
theorem dX5_fact_22 : decode cX5_fact 22 = .ok (.invokevirtual 202, 3) := dk_dX5_fact_0_8.2.2.2.2.2.1
theorem dX5_fact_25 : decode cX5_fact 25 = .ok (.aload_n 0, 1) := dk_dX5_fact_0_8.2.2.2.2.2.2.1
theorem dX5_fact_26 : decode cX5_fact 26 = .ok (.bipush (-31), 2) := dk_dX5_fact_0_8.2.2.2.2.2.2.2.1
theorem dk_dX5_fact_28 : dz_C cX5_fact [(28, .invokevirtual 199, 3), (31, .goto 81, 3), (34, .aload_n 0, 1), (35, .bipush 91, 2), (37, .invokevirtual 213, 3), (40, .ifCond .eq 27, 3), (43, .aload_n 0, 1), (44, .iload_n 1, 1), (45, .invokevirtual 209, 3), (48, .ifCond .eq 64, 3), (51, .aload_n 0, 1), (52, .iload_n 1, 1), (53, .iconst 1, 1), (54, .iadd, 1), (55, .invokevirtual 90, 3), (58, .aload_n 0, 1)] := dz_of (by decide +kernel)
theorem dX5_fact_28 : decode cX5_fact 28 = .ok (.invokevirtual 199, 3) := dk_dX5_fact_28.1
theorem dX5_fact_31 : decode cX5_fact 31 = .ok (.goto 81, 3) := dk_dX5_fact_28.2.1
theorem dX5_fact_34 : decode cX5_fact 34 = .ok (.aload_n 0, 1) := dk_dX5_fact_28.2.2.1
theorem dX5_fact_35 : decode cX5_fact 35 = .ok (.bipush 91, 2) := dk_dX5_fact_28.2.2.2.1
theorem dX5_fact_37 : decode cX5_fact 37 = .ok (.invokevirtual 213, 3) := dk_dX5_fact_28.2.2.2.2.1
theorem dX5_fact_40 : decode cX5_fact 40 = .ok (.ifCond .eq 27, 3) := dk_dX5_fact_28.2.2.2.2.2.1
theorem dX5_fact_43 : decode cX5_fact 43 = .ok (.aload_n 0, 1) := dk_dX5_fact_28.2.2.2.2.2.2.1
theorem dX5_fact_44 : decode cX5_fact 44 = .ok (.iload_n 1, 1) := dk_dX5_fact_28.2.2.2.2.2.2.2.1
theorem dk_dX5_fact_28_8 : dz_C cX5_fact [(45, .invokevirtual 209, 3), (48, .ifCond .eq 64, 3), (51, .aload_n 0, 1), (52, .iload_n 1, 1), (53, .iconst 1, 1), (54, .iadd, 1), (55, .invokevirtual 90, 3), (58, .aload_n 0, 1)] := dk_dX5_fact_28.2.2.2.2.2.2.2.2
theorem dX5_fact_45 : decode cX5_fact 45 = .ok (.invokevirtual 209, 3) := dk_dX5_fact_28_8.1
theorem dX5_fact_48 : decode cX5_fact 48 = .ok (.ifCond .eq 64, 3) := dk_dX5_fact_28_8.2.1
theorem dX5_fact_51 : decode cX5_fact 51 = .ok (.aload_n 0, 1) := dk_dX5_fact_28_8.2.2.1
theorem dX5_fact_52 : decode cX5_fact 52 = .ok (.iload_n 1, 1) := dk_dX5_fact_28_8.2.2.2.1
theorem dX5_fact_53 : decode cX5_fact 53 = .ok (.iconst 1, 1) := dk_dX5_fact_28_8.2.2.2.2.1
theorem dX5_fact_54 : decode cX5_fact 54 = .ok (.iadd, 1) := dk_dX5_fact_28_8.2.2.2.2.2.1
theorem dX5_fact_55 : decode cX5_fact 55 = .ok (.invokevirtual 90, 3) := dk_dX5_fact_28_8.2.2.2.2.2.2.1
theorem dX5_fact_58 : decode cX5_fact 58 = .ok (.aload_n 0, 1) := dk_dX5_fact_28_8.2.2.2.2.2.2.2.1
theorem dk_dX5_fact_59 : dz_C cX5_fact [(59, .bipush 93, 2), (61, .invokevirtual 48, 3), (64, .goto 48, 3), (67, .aload_n 0, 1), (68, .ldc 217, 2), (70, .invokevirtual 195, 3), (73, .ifCond .eq 11, 3), (76, .aload_n 0, 1), (77, .iconst 1, 1), (78, .invokevirtual 199, 3), (81, .goto 31, 3), (84, .aload_n 0, 1), (85, .iload_n 1, 1), (86, .invokevirtual 93, 3), (89, .aload_n 0, 1), (90, .invokevirtual 219, 3)] := dz_of (by decide +kernel)
theorem dX5_fact_59 : decode cX5_fact 59 = .ok (.bipush 93, 2) := dk_dX5_fact_59.1
theorem dX5_fact_61 : decode cX5_fact 61 = .ok (.invokevirtual 48, 3) := dk_dX5_fact_59.2.1
theorem dX5_fact_64 : decode cX5_fact 64 = .ok (.goto 48, 3) := dk_dX5_fact_59.2.2.1
theorem dX5_fact_67 : decode cX5_fact 67 = .ok (.aload_n 0, 1) := dk_dX5_fact_59.2.2.2.1
theorem dX5_fact_68 : decode cX5_fact 68 = .ok (.ldc 217, 2) := dk_dX5_fact_59.2.2.2.2.1
theorem dX5_fact_70 : decode cX5_fact 70 = .ok (.invokevirtual 195, 3) := dk_dX5_fact_59.2.2.2.2.2.1
theorem dX5_fact_73 : decode cX5_fact 73 = .ok (.ifCond .eq 11, 3) := dk_dX5_fact_59.2.2.2.2.2.2.1
theorem dX5_fact_76 : decode cX5_fact 76 = .ok (.aload_n 0, 1) := dk_dX5_fact_59.2.2.2.2.2.2.2.1
theorem dk_dX5_fact_59_8 : dz_C cX5_fact [(77, .iconst 1, 1), (78, .invokevirtual 199, 3), (81, .goto 31, 3), (84, .aload_n 0, 1), (85, .iload_n 1, 1), (86, .invokevirtual 93, 3), (89, .aload_n 0, 1), (90, .invokevirtual 219, 3)] := dk_dX5_fact_59.2.2.2.2.2.2.2.2
theorem dX5_fact_77 : decode cX5_fact 77 = .ok (.iconst 1, 1) := dk_dX5_fact_59_8.1
theorem dX5_fact_78 : decode cX5_fact 78 = .ok (.invokevirtual 199, 3) := dk_dX5_fact_59_8.2.1
theorem dX5_fact_81 : decode cX5_fact 81 = .ok (.goto 31, 3) := dk_dX5_fact_59_8.2.2.1
theorem dX5_fact_84 : decode cX5_fact 84 = .ok (.aload_n 0, 1) := dk_dX5_fact_59_8.2.2.2.1
theorem dX5_fact_85 : decode cX5_fact 85 = .ok (.iload_n 1, 1) := dk_dX5_fact_59_8.2.2.2.2.1
theorem dX5_fact_86 : decode cX5_fact 86 = .ok (.invokevirtual 93, 3) := dk_dX5_fact_59_8.2.2.2.2.2.1
theorem dX5_fact_89 : decode cX5_fact 89 = .ok (.aload_n 0, 1) := dk_dX5_fact_59_8.2.2.2.2.2.2.1
theorem dX5_fact_90 : decode cX5_fact 90 = .ok (.invokevirtual 219, 3) := dk_dX5_fact_59_8.2.2.2.2.2.2.2.1
theorem dk_dX5_fact_93 : dz_C cX5_fact [(93, .istore_n 2, 1), (94, .aload_n 0, 1), (95, .aload_n 0, 1), (96, .getfield 18, 3), (99, .invokevirtual 86, 3), (102, .aload_n 0, 1), (103, .iload_n 1, 1), (104, .invokevirtual 93, 3), (107, .aload_n 0, 1), (108, .iload_n 2, 1), (109, .invokevirtual 199, 3), (112, .return_, 1)] := dz_of (by decide +kernel)
theorem dX5_fact_93 : decode cX5_fact 93 = .ok (.istore_n 2, 1) := dk_dX5_fact_93.1
theorem dX5_fact_94 : decode cX5_fact 94 = .ok (.aload_n 0, 1) := dk_dX5_fact_93.2.1
theorem dX5_fact_95 : decode cX5_fact 95 = .ok (.aload_n 0, 1) := dk_dX5_fact_93.2.2.1
theorem dX5_fact_96 : decode cX5_fact 96 = .ok (.getfield 18, 3) := dk_dX5_fact_93.2.2.2.1
theorem dX5_fact_99 : decode cX5_fact 99 = .ok (.invokevirtual 86, 3) := dk_dX5_fact_93.2.2.2.2.1
theorem dX5_fact_102 : decode cX5_fact 102 = .ok (.aload_n 0, 1) := dk_dX5_fact_93.2.2.2.2.2.1
theorem dX5_fact_103 : decode cX5_fact 103 = .ok (.iload_n 1, 1) := dk_dX5_fact_93.2.2.2.2.2.2.1
theorem dX5_fact_104 : decode cX5_fact 104 = .ok (.invokevirtual 93, 3) := dk_dX5_fact_93.2.2.2.2.2.2.2.1
theorem dk_dX5_fact_93_8 : dz_C cX5_fact [(107, .aload_n 0, 1), (108, .iload_n 2, 1), (109, .invokevirtual 199, 3), (112, .return_, 1)] := dk_dX5_fact_93.2.2.2.2.2.2.2.2
theorem dX5_fact_107 : decode cX5_fact 107 = .ok (.aload_n 0, 1) := dk_dX5_fact_93_8.1
theorem dX5_fact_108 : decode cX5_fact 108 = .ok (.iload_n 2, 1) := dk_dX5_fact_93_8.2.1
theorem dX5_fact_109 : decode cX5_fact 109 = .ok (.invokevirtual 199, 3) := dk_dX5_fact_93_8.2.2.1
theorem dX5_fact_112 : decode cX5_fact 112 = .ok (.return_, 1) := dk_dX5_fact_93_8.2.2.2.1
theorem dk_dX5_fail_0 : dz_C cX5_fail [(0, .aload_n 0, 1), (1, .getfield 27, 3), (4, .ifCond .ne 13, 3), (7, .aload_n 0, 1), (8, .iload_n 1, 1), (9, .putfield 27, 3), (12, .aload_n 0, 1), (13, .iload_n 2, 1), (14, .putfield 30, 3), (17, .aload_n 0, 1), (18, .aload_n 0, 1), (19, .getfield 11, 3), (22, .putfield 15, 3), (25, .aload_n 0, 1), (26, .aload_n 0, 1), (27, .getfield 11, 3)] := dz_of (by decide +kernel)
theorem dX5_fail_0 : decode cX5_fail 0 = .ok (.aload_n 0, 1) := dk_dX5_fail_0.1
theorem dX5_fail_1 : decode cX5_fail 1 = .ok (.getfield 27, 3) := dk_dX5_fail_0.2.1
theorem dX5_fail_4 : decode cX5_fail 4 = .ok (.ifCond .ne 13, 3) := dk_dX5_fail_0.2.2.1
theorem dX5_fail_7 : decode cX5_fail 7 = .ok (.aload_n 0, 1) := dk_dX5_fail_0.2.2.2.1
theorem dX5_fail_8 : decode cX5_fail 8 = .ok (.iload_n 1, 1) := dk_dX5_fail_0.2.2.2.2.1
theorem dX5_fail_9 : decode cX5_fail 9 = .ok (.putfield 27, 3) := dk_dX5_fail_0.2.2.2.2.2.1
theorem dX5_fail_12 : decode cX5_fail 12 = .ok (.aload_n 0, 1) := dk_dX5_fail_0.2.2.2.2.2.2.1
theorem dX5_fail_13 : decode cX5_fail 13 = .ok (.iload_n 2, 1) := dk_dX5_fail_0.2.2.2.2.2.2.2.1
theorem dk_dX5_fail_0_8 : dz_C cX5_fail [(14, .putfield 30, 3), (17, .aload_n 0, 1), (18, .aload_n 0, 1), (19, .getfield 11, 3), (22, .putfield 15, 3), (25, .aload_n 0, 1), (26, .aload_n 0, 1), (27, .getfield 11, 3)] := dk_dX5_fail_0.2.2.2.2.2.2.2.2
theorem dX5_fail_14 : decode cX5_fail 14 = .ok (.putfield 30, 3) := dk_dX5_fail_0_8.1
theorem dX5_fail_17 : decode cX5_fail 17 = .ok (.aload_n 0, 1) := dk_dX5_fail_0_8.2.1
theorem dX5_fail_18 : decode cX5_fail 18 = .ok (.aload_n 0, 1) := dk_dX5_fail_0_8.2.2.1
theorem dX5_fail_19 : decode cX5_fail 19 = .ok (.getfield 11, 3) := dk_dX5_fail_0_8.2.2.2.1
theorem dX5_fail_22 : decode cX5_fail 22 = .ok (.putfield 15, 3) := dk_dX5_fail_0_8.2.2.2.2.1
theorem dX5_fail_25 : decode cX5_fail 25 = .ok (.aload_n 0, 1) := dk_dX5_fail_0_8.2.2.2.2.2.1
theorem dX5_fail_26 : decode cX5_fail 26 = .ok (.aload_n 0, 1) := dk_dX5_fail_0_8.2.2.2.2.2.2.1
theorem dX5_fail_27 : decode cX5_fail 27 = .ok (.getfield 11, 3) := dk_dX5_fail_0_8.2.2.2.2.2.2.2.1
theorem dk_dX5_fail_30 : dz_C cX5_fail [(30, .putfield 18, 3), (33, .aload_n 0, 1), (34, .iconst 0, 1), (35, .putfield 21, 3), (38, .return_, 1)] := dz_of (by decide +kernel)
theorem dX5_fail_30 : decode cX5_fail 30 = .ok (.putfield 18, 3) := dk_dX5_fail_30.1
theorem dX5_fail_33 : decode cX5_fail 33 = .ok (.aload_n 0, 1) := dk_dX5_fail_30.2.1
theorem dX5_fail_34 : decode cX5_fail 34 = .ok (.iconst 0, 1) := dk_dX5_fail_30.2.2.1
theorem dX5_fail_35 : decode cX5_fail 35 = .ok (.putfield 21, 3) := dk_dX5_fail_30.2.2.2.1
theorem dX5_fail_38 : decode cX5_fail 38 = .ok (.return_, 1) := dk_dX5_fail_30.2.2.2.2.1
theorem dk_dX5_firstStatement_0 : dz_C cX5_firstStatement [(0, .aload_n 0, 1), (1, .getfield 37, 3), (4, .aload_n 0, 1), (5, .ldc 105, 2), (7, .bipush 10, 2), (9, .bipush 120, 2), (11, .invokevirtual 70, 3), (14, .putfield 107, 3), (17, .aload_n 0, 1), (18, .getfield 37, 3), (21, .aload_n 0, 1), (22, .ldc 109, 2), (24, .iconst 1, 1), (25, .bipush 60, 2), (27, .aload_n 0, 1), (28, .getfield 37, 3)] := dz_of (by decide +kernel)
theorem dX5_firstStatement_0 : decode cX5_firstStatement 0 = .ok (.aload_n 0, 1) := dk_dX5_firstStatement_0.1
theorem dX5_firstStatement_1 : decode cX5_firstStatement 1 = .ok (.getfield 37, 3) := dk_dX5_firstStatement_0.2.1
theorem dX5_firstStatement_4 : decode cX5_firstStatement 4 = .ok (.aload_n 0, 1) := dk_dX5_firstStatement_0.2.2.1
theorem dX5_firstStatement_5 : decode cX5_firstStatement 5 = .ok (.ldc 105, 2) := dk_dX5_firstStatement_0.2.2.2.1
theorem dX5_firstStatement_7 : decode cX5_firstStatement 7 = .ok (.bipush 10, 2) := dk_dX5_firstStatement_0.2.2.2.2.1
theorem dX5_firstStatement_9 : decode cX5_firstStatement 9 = .ok (.bipush 120, 2) := dk_dX5_firstStatement_0.2.2.2.2.2.1
theorem dX5_firstStatement_11 : decode cX5_firstStatement 11 = .ok (.invokevirtual 70, 3) := dk_dX5_firstStatement_0.2.2.2.2.2.2.1
theorem dX5_firstStatement_14 : decode cX5_firstStatement 14 = .ok (.putfield 107, 3) := dk_dX5_firstStatement_0.2.2.2.2.2.2.2.1
theorem dk_dX5_firstStatement_0_8 : dz_C cX5_firstStatement [(17, .aload_n 0, 1), (18, .getfield 37, 3), (21, .aload_n 0, 1), (22, .ldc 109, 2), (24, .iconst 1, 1), (25, .bipush 60, 2), (27, .aload_n 0, 1), (28, .getfield 37, 3)] := dk_dX5_firstStatement_0.2.2.2.2.2.2.2.2
theorem dX5_firstStatement_17 : decode cX5_firstStatement 17 = .ok (.aload_n 0, 1) := dk_dX5_firstStatement_0_8.1
theorem dX5_firstStatement_18 : decode cX5_firstStatement 18 = .ok (.getfield 37, 3) := dk_dX5_firstStatement_0_8.2.1
theorem dX5_firstStatement_21 : decode cX5_firstStatement 21 = .ok (.aload_n 0, 1) := dk_dX5_firstStatement_0_8.2.2.1
theorem dX5_firstStatement_22 : decode cX5_firstStatement 22 = .ok (.ldc 109, 2) := dk_dX5_firstStatement_0_8.2.2.2.1
theorem dX5_firstStatement_24 : decode cX5_firstStatement 24 = .ok (.iconst 1, 1) := dk_dX5_firstStatement_0_8.2.2.2.2.1
theorem dX5_firstStatement_25 : decode cX5_firstStatement 25 = .ok (.bipush 60, 2) := dk_dX5_firstStatement_0_8.2.2.2.2.2.1
theorem dX5_firstStatement_27 : decode cX5_firstStatement 27 = .ok (.aload_n 0, 1) := dk_dX5_firstStatement_0_8.2.2.2.2.2.2.1
theorem dX5_firstStatement_28 : decode cX5_firstStatement 28 = .ok (.getfield 37, 3) := dk_dX5_firstStatement_0_8.2.2.2.2.2.2.2.1
theorem dk_dX5_firstStatement_31 : dz_C cX5_firstStatement [(31, .getfield 107, 3), (34, .iconst 1, 1), (35, .isub, 1), (36, .invokestatic 99, 3), (39, .invokevirtual 70, 3), (42, .putfield 111, 3), (45, .aload_n 0, 1), (46, .getfield 37, 3), (49, .aload_n 0, 1), (50, .ldc 113, 2), (52, .iconst 0, 1), (53, .iconst 2, 1), (54, .invokevirtual 70, 3), (57, .putfield 115, 3), (60, .aload_n 0, 1), (61, .getfield 37, 3)] := dz_of (by decide +kernel)
theorem dX5_firstStatement_31 : decode cX5_firstStatement 31 = .ok (.getfield 107, 3) := dk_dX5_firstStatement_31.1
theorem dX5_firstStatement_34 : decode cX5_firstStatement 34 = .ok (.iconst 1, 1) := dk_dX5_firstStatement_31.2.1
theorem dX5_firstStatement_35 : decode cX5_firstStatement 35 = .ok (.isub, 1) := dk_dX5_firstStatement_31.2.2.1
theorem dX5_firstStatement_36 : decode cX5_firstStatement 36 = .ok (.invokestatic 99, 3) := dk_dX5_firstStatement_31.2.2.2.1
theorem dX5_firstStatement_39 : decode cX5_firstStatement 39 = .ok (.invokevirtual 70, 3) := dk_dX5_firstStatement_31.2.2.2.2.1
theorem dX5_firstStatement_42 : decode cX5_firstStatement 42 = .ok (.putfield 111, 3) := dk_dX5_firstStatement_31.2.2.2.2.2.1
theorem dX5_firstStatement_45 : decode cX5_firstStatement 45 = .ok (.aload_n 0, 1) := dk_dX5_firstStatement_31.2.2.2.2.2.2.1
theorem dX5_firstStatement_46 : decode cX5_firstStatement 46 = .ok (.getfield 37, 3) := dk_dX5_firstStatement_31.2.2.2.2.2.2.2.1
theorem dk_dX5_firstStatement_31_8 : dz_C cX5_firstStatement [(49, .aload_n 0, 1), (50, .ldc 113, 2), (52, .iconst 0, 1), (53, .iconst 2, 1), (54, .invokevirtual 70, 3), (57, .putfield 115, 3), (60, .aload_n 0, 1), (61, .getfield 37, 3)] := dk_dX5_firstStatement_31.2.2.2.2.2.2.2.2
theorem dX5_firstStatement_49 : decode cX5_firstStatement 49 = .ok (.aload_n 0, 1) := dk_dX5_firstStatement_31_8.1
theorem dX5_firstStatement_50 : decode cX5_firstStatement 50 = .ok (.ldc 113, 2) := dk_dX5_firstStatement_31_8.2.1
theorem dX5_firstStatement_52 : decode cX5_firstStatement 52 = .ok (.iconst 0, 1) := dk_dX5_firstStatement_31_8.2.2.1
theorem dX5_firstStatement_53 : decode cX5_firstStatement 53 = .ok (.iconst 2, 1) := dk_dX5_firstStatement_31_8.2.2.2.1
theorem dX5_firstStatement_54 : decode cX5_firstStatement 54 = .ok (.invokevirtual 70, 3) := dk_dX5_firstStatement_31_8.2.2.2.2.1
theorem dX5_firstStatement_57 : decode cX5_firstStatement 57 = .ok (.putfield 115, 3) := dk_dX5_firstStatement_31_8.2.2.2.2.2.1
theorem dX5_firstStatement_60 : decode cX5_firstStatement 60 = .ok (.aload_n 0, 1) := dk_dX5_firstStatement_31_8.2.2.2.2.2.2.1
theorem dX5_firstStatement_61 : decode cX5_firstStatement 61 = .ok (.getfield 37, 3) := dk_dX5_firstStatement_31_8.2.2.2.2.2.2.2.1
theorem dk_dX5_firstStatement_64 : dz_C cX5_firstStatement [(64, .aload_n 0, 1), (65, .ldc 117, 2), (67, .iconst 0, 1), (68, .bipush 99, 2), (70, .invokevirtual 70, 3), (73, .putfield 119, 3), (76, .return_, 1)] := dz_of (by decide +kernel)
theorem dX5_firstStatement_64 : decode cX5_firstStatement 64 = .ok (.aload_n 0, 1) := dk_dX5_firstStatement_64.1
theorem dX5_firstStatement_65 : decode cX5_firstStatement 65 = .ok (.ldc 117, 2) := dk_dX5_firstStatement_64.2.1
theorem dX5_firstStatement_67 : decode cX5_firstStatement 67 = .ok (.iconst 0, 1) := dk_dX5_firstStatement_64.2.2.1
theorem dX5_firstStatement_68 : decode cX5_firstStatement 68 = .ok (.bipush 99, 2) := dk_dX5_firstStatement_64.2.2.2.1
theorem dX5_firstStatement_70 : decode cX5_firstStatement 70 = .ok (.invokevirtual 70, 3) := dk_dX5_firstStatement_64.2.2.2.2.1
theorem dX5_firstStatement_73 : decode cX5_firstStatement 73 = .ok (.putfield 119, 3) := dk_dX5_firstStatement_64.2.2.2.2.2.1
theorem dX5_firstStatement_76 : decode cX5_firstStatement 76 = .ok (.return_, 1) := dk_dX5_firstStatement_64.2.2.2.2.2.2.1
theorem dk_dX5_init_0 : dz_C cX5_init [(0, .aload_n 0, 1), (1, .invokespecial 5, 3), (4, .aload_n 0, 1), (5, .iconst 0, 1), (6, .putfield 11, 3), (9, .aload_n 0, 1), (10, .iconst 0, 1), (11, .putfield 15, 3), (14, .aload_n 0, 1), (15, .iconst 0, 1), (16, .putfield 18, 3), (19, .aload_n 0, 1), (20, .iconst 0, 1), (21, .putfield 21, 3), (24, .aload_n 0, 1), (25, .iconst 0, 1)] := dz_of (by decide +kernel)
theorem dX5_init_0 : decode cX5_init 0 = .ok (.aload_n 0, 1) := dk_dX5_init_0.1
theorem dX5_init_1 : decode cX5_init 1 = .ok (.invokespecial 5, 3) := dk_dX5_init_0.2.1
theorem dX5_init_4 : decode cX5_init 4 = .ok (.aload_n 0, 1) := dk_dX5_init_0.2.2.1
theorem dX5_init_5 : decode cX5_init 5 = .ok (.iconst 0, 1) := dk_dX5_init_0.2.2.2.1
theorem dX5_init_6 : decode cX5_init 6 = .ok (.putfield 11, 3) := dk_dX5_init_0.2.2.2.2.1
theorem dX5_init_9 : decode cX5_init 9 = .ok (.aload_n 0, 1) := dk_dX5_init_0.2.2.2.2.2.1
theorem dX5_init_10 : decode cX5_init 10 = .ok (.iconst 0, 1) := dk_dX5_init_0.2.2.2.2.2.2.1
theorem dX5_init_11 : decode cX5_init 11 = .ok (.putfield 15, 3) := dk_dX5_init_0.2.2.2.2.2.2.2.1
theorem dk_dX5_init_0_8 : dz_C cX5_init [(14, .aload_n 0, 1), (15, .iconst 0, 1), (16, .putfield 18, 3), (19, .aload_n 0, 1), (20, .iconst 0, 1), (21, .putfield 21, 3), (24, .aload_n 0, 1), (25, .iconst 0, 1)] := dk_dX5_init_0.2.2.2.2.2.2.2.2
theorem dX5_init_14 : decode cX5_init 14 = .ok (.aload_n 0, 1) := dk_dX5_init_0_8.1
theorem dX5_init_15 : decode cX5_init 15 = .ok (.iconst 0, 1) := dk_dX5_init_0_8.2.1
theorem dX5_init_16 : decode cX5_init 16 = .ok (.putfield 18, 3) := dk_dX5_init_0_8.2.2.1
theorem dX5_init_19 : decode cX5_init 19 = .ok (.aload_n 0, 1) := dk_dX5_init_0_8.2.2.2.1
theorem dX5_init_20 : decode cX5_init 20 = .ok (.iconst 0, 1) := dk_dX5_init_0_8.2.2.2.2.1
theorem dX5_init_21 : decode cX5_init 21 = .ok (.putfield 21, 3) := dk_dX5_init_0_8.2.2.2.2.2.1
theorem dX5_init_24 : decode cX5_init 24 = .ok (.aload_n 0, 1) := dk_dX5_init_0_8.2.2.2.2.2.2.1
theorem dX5_init_25 : decode cX5_init 25 = .ok (.iconst 0, 1) := dk_dX5_init_0_8.2.2.2.2.2.2.2.1
theorem dk_dX5_init_26 : dz_C cX5_init [(26, .putfield 24, 3), (29, .aload_n 0, 1), (30, .iconst 0, 1), (31, .putfield 27, 3), (34, .aload_n 0, 1), (35, .iconst (-1), 1), (36, .putfield 30, 3), (39, .aload_n 0, 1), (40, .aload_n 1, 1), (41, .putfield 33, 3), (44, .aload_n 0, 1), (45, .aload_n 2, 1), (46, .putfield 37, 3), (49, .return_, 1)] := dz_of (by decide +kernel)
theorem dX5_init_26 : decode cX5_init 26 = .ok (.putfield 24, 3) := dk_dX5_init_26.1
theorem dX5_init_29 : decode cX5_init 29 = .ok (.aload_n 0, 1) := dk_dX5_init_26.2.1
theorem dX5_init_30 : decode cX5_init 30 = .ok (.iconst 0, 1) := dk_dX5_init_26.2.2.1
theorem dX5_init_31 : decode cX5_init 31 = .ok (.putfield 27, 3) := dk_dX5_init_26.2.2.2.1
theorem dX5_init_34 : decode cX5_init 34 = .ok (.aload_n 0, 1) := dk_dX5_init_26.2.2.2.2.1
theorem dX5_init_35 : decode cX5_init 35 = .ok (.iconst (-1), 1) := dk_dX5_init_26.2.2.2.2.2.1
theorem dX5_init_36 : decode cX5_init 36 = .ok (.putfield 30, 3) := dk_dX5_init_26.2.2.2.2.2.2.1
theorem dX5_init_39 : decode cX5_init 39 = .ok (.aload_n 0, 1) := dk_dX5_init_26.2.2.2.2.2.2.2.1
theorem dk_dX5_init_26_8 : dz_C cX5_init [(40, .aload_n 1, 1), (41, .putfield 33, 3), (44, .aload_n 0, 1), (45, .aload_n 2, 1), (46, .putfield 37, 3), (49, .return_, 1)] := dk_dX5_init_26.2.2.2.2.2.2.2.2
theorem dX5_init_40 : decode cX5_init 40 = .ok (.aload_n 1, 1) := dk_dX5_init_26_8.1
theorem dX5_init_41 : decode cX5_init 41 = .ok (.putfield 33, 3) := dk_dX5_init_26_8.2.1
theorem dX5_init_44 : decode cX5_init 44 = .ok (.aload_n 0, 1) := dk_dX5_init_26_8.2.2.1
theorem dX5_init_45 : decode cX5_init 45 = .ok (.aload_n 2, 1) := dk_dX5_init_26_8.2.2.2.1
theorem dX5_init_46 : decode cX5_init 46 = .ok (.putfield 37, 3) := dk_dX5_init_26_8.2.2.2.2.1
theorem dX5_init_49 : decode cX5_init 49 = .ok (.return_, 1) := dk_dX5_init_26_8.2.2.2.2.2.1
theorem dk_dX5_isName_0 : dz_C cX5_isName [(0, .aload_n 0, 1), (1, .getfield 21, 3), (4, .iconst 1, 1), (5, .if_icmp .ne 31, 3), (8, .aload_n 0, 1), (9, .getfield 18, 3), (12, .aload_n 0, 1), (13, .getfield 15, 3), (16, .isub, 1), (17, .bipush 6, 2), (19, .if_icmp .gt 17, 3), (22, .aload_n 0, 1), (23, .ldc 188, 2), (25, .invokevirtual 54, 3), (28, .iconst (-1), 1), (29, .if_icmp .ne 7, 3)] := dz_of (by decide +kernel)
theorem dX5_isName_0 : decode cX5_isName 0 = .ok (.aload_n 0, 1) := dk_dX5_isName_0.1
theorem dX5_isName_1 : decode cX5_isName 1 = .ok (.getfield 21, 3) := dk_dX5_isName_0.2.1
theorem dX5_isName_4 : decode cX5_isName 4 = .ok (.iconst 1, 1) := dk_dX5_isName_0.2.2.1
theorem dX5_isName_5 : decode cX5_isName 5 = .ok (.if_icmp .ne 31, 3) := dk_dX5_isName_0.2.2.2.1
theorem dX5_isName_8 : decode cX5_isName 8 = .ok (.aload_n 0, 1) := dk_dX5_isName_0.2.2.2.2.1
theorem dX5_isName_9 : decode cX5_isName 9 = .ok (.getfield 18, 3) := dk_dX5_isName_0.2.2.2.2.2.1
theorem dX5_isName_12 : decode cX5_isName 12 = .ok (.aload_n 0, 1) := dk_dX5_isName_0.2.2.2.2.2.2.1
theorem dX5_isName_13 : decode cX5_isName 13 = .ok (.getfield 15, 3) := dk_dX5_isName_0.2.2.2.2.2.2.2.1
theorem dk_dX5_isName_0_8 : dz_C cX5_isName [(16, .isub, 1), (17, .bipush 6, 2), (19, .if_icmp .gt 17, 3), (22, .aload_n 0, 1), (23, .ldc 188, 2), (25, .invokevirtual 54, 3), (28, .iconst (-1), 1), (29, .if_icmp .ne 7, 3)] := dk_dX5_isName_0.2.2.2.2.2.2.2.2
theorem dX5_isName_16 : decode cX5_isName 16 = .ok (.isub, 1) := dk_dX5_isName_0_8.1
theorem dX5_isName_17 : decode cX5_isName 17 = .ok (.bipush 6, 2) := dk_dX5_isName_0_8.2.1
theorem dX5_isName_19 : decode cX5_isName 19 = .ok (.if_icmp .gt 17, 3) := dk_dX5_isName_0_8.2.2.1
theorem dX5_isName_22 : decode cX5_isName 22 = .ok (.aload_n 0, 1) := dk_dX5_isName_0_8.2.2.2.1
theorem dX5_isName_23 : decode cX5_isName 23 = .ok (.ldc 188, 2) := dk_dX5_isName_0_8.2.2.2.2.1
theorem dX5_isName_25 : decode cX5_isName 25 = .ok (.invokevirtual 54, 3) := dk_dX5_isName_0_8.2.2.2.2.2.1
theorem dX5_isName_28 : decode cX5_isName 28 = .ok (.iconst (-1), 1) := dk_dX5_isName_0_8.2.2.2.2.2.2.1
theorem dX5_isName_29 : decode cX5_isName 29 = .ok (.if_icmp .ne 7, 3) := dk_dX5_isName_0_8.2.2.2.2.2.2.2.1
theorem dk_dX5_isName_32 : dz_C cX5_isName [(32, .iconst 1, 1), (33, .goto 4, 3), (36, .iconst 0, 1), (37, .ireturn, 1)] := dz_of (by decide +kernel)
theorem dX5_isName_32 : decode cX5_isName 32 = .ok (.iconst 1, 1) := dk_dX5_isName_32.1
theorem dX5_isName_33 : decode cX5_isName 33 = .ok (.goto 4, 3) := dk_dX5_isName_32.2.1
theorem dX5_isName_36 : decode cX5_isName 36 = .ok (.iconst 0, 1) := dk_dX5_isName_32.2.2.1
theorem dX5_isName_37 : decode cX5_isName 37 = .ok (.ireturn, 1) := dk_dX5_isName_32.2.2.2.1
theorem dk_dX5_kindStatement_0 : dz_C cX5_kindStatement [(0, .aload_n 0, 1), (1, .getfield 37, 3), (4, .getfield 121, 3), (7, .istore_n 1, 1), (8, .iload_n 1, 1), (9, .bipush 6, 2), (11, .if_icmp .lt 13, 3), (14, .aload_n 0, 1), (15, .iconst 5, 1), (16, .aload_n 0, 1), (17, .getfield 15, 3), (20, .invokevirtual 78, 3), (23, .return_, 1), (24, .aload_n 0, 1), (25, .aload_n 0, 1), (26, .getfield 18, 3)] := dz_of (by decide +kernel)
theorem dX5_kindStatement_0 : decode cX5_kindStatement 0 = .ok (.aload_n 0, 1) := dk_dX5_kindStatement_0.1
theorem dX5_kindStatement_1 : decode cX5_kindStatement 1 = .ok (.getfield 37, 3) := dk_dX5_kindStatement_0.2.1
theorem dX5_kindStatement_4 : decode cX5_kindStatement 4 = .ok (.getfield 121, 3) := dk_dX5_kindStatement_0.2.2.1
theorem dX5_kindStatement_7 : decode cX5_kindStatement 7 = .ok (.istore_n 1, 1) := dk_dX5_kindStatement_0.2.2.2.1
theorem dX5_kindStatement_8 : decode cX5_kindStatement 8 = .ok (.iload_n 1, 1) := dk_dX5_kindStatement_0.2.2.2.2.1
theorem dX5_kindStatement_9 : decode cX5_kindStatement 9 = .ok (.bipush 6, 2) := dk_dX5_kindStatement_0.2.2.2.2.2.1
theorem dX5_kindStatement_11 : decode cX5_kindStatement 11 = .ok (.if_icmp .lt 13, 3) := dk_dX5_kindStatement_0.2.2.2.2.2.2.1
theorem dX5_kindStatement_14 : decode cX5_kindStatement 14 = .ok (.aload_n 0, 1) := dk_dX5_kindStatement_0.2.2.2.2.2.2.2.1
theorem dk_dX5_kindStatement_0_8 : dz_C cX5_kindStatement [(15, .iconst 5, 1), (16, .aload_n 0, 1), (17, .getfield 15, 3), (20, .invokevirtual 78, 3), (23, .return_, 1), (24, .aload_n 0, 1), (25, .aload_n 0, 1), (26, .getfield 18, 3)] := dk_dX5_kindStatement_0.2.2.2.2.2.2.2.2
theorem dX5_kindStatement_15 : decode cX5_kindStatement 15 = .ok (.iconst 5, 1) := dk_dX5_kindStatement_0_8.1
theorem dX5_kindStatement_16 : decode cX5_kindStatement 16 = .ok (.aload_n 0, 1) := dk_dX5_kindStatement_0_8.2.1
theorem dX5_kindStatement_17 : decode cX5_kindStatement 17 = .ok (.getfield 15, 3) := dk_dX5_kindStatement_0_8.2.2.1
theorem dX5_kindStatement_20 : decode cX5_kindStatement 20 = .ok (.invokevirtual 78, 3) := dk_dX5_kindStatement_0_8.2.2.2.1
theorem dX5_kindStatement_23 : decode cX5_kindStatement 23 = .ok (.return_, 1) := dk_dX5_kindStatement_0_8.2.2.2.2.1
theorem dX5_kindStatement_24 : decode cX5_kindStatement 24 = .ok (.aload_n 0, 1) := dk_dX5_kindStatement_0_8.2.2.2.2.2.1
theorem dX5_kindStatement_25 : decode cX5_kindStatement 25 = .ok (.aload_n 0, 1) := dk_dX5_kindStatement_0_8.2.2.2.2.2.2.1
theorem dX5_kindStatement_26 : decode cX5_kindStatement 26 = .ok (.getfield 18, 3) := dk_dX5_kindStatement_0_8.2.2.2.2.2.2.2.1
theorem dk_dX5_kindStatement_29 : dz_C cX5_kindStatement [(29, .invokevirtual 86, 3), (32, .aload_n 0, 1), (33, .iload_n 1, 1), (34, .invokevirtual 124, 3), (37, .aload_n 0, 1), (38, .getfield 37, 3), (41, .getfield 127, 3), (44, .iload_n 1, 1), (45, .aload_n 0, 1), (46, .ldc 130, 2), (48, .iconst 0, 1), (49, .bipush 99, 2), (51, .invokevirtual 70, 3), (54, .iastore, 1), (55, .aload_n 0, 1), (56, .getfield 37, 3)] := dz_of (by decide +kernel)
theorem dX5_kindStatement_29 : decode cX5_kindStatement 29 = .ok (.invokevirtual 86, 3) := dk_dX5_kindStatement_29.1
theorem dX5_kindStatement_32 : decode cX5_kindStatement 32 = .ok (.aload_n 0, 1) := dk_dX5_kindStatement_29.2.1
theorem dX5_kindStatement_33 : decode cX5_kindStatement 33 = .ok (.iload_n 1, 1) := dk_dX5_kindStatement_29.2.2.1
theorem dX5_kindStatement_34 : decode cX5_kindStatement 34 = .ok (.invokevirtual 124, 3) := dk_dX5_kindStatement_29.2.2.2.1
theorem dX5_kindStatement_37 : decode cX5_kindStatement 37 = .ok (.aload_n 0, 1) := dk_dX5_kindStatement_29.2.2.2.2.1
theorem dX5_kindStatement_38 : decode cX5_kindStatement 38 = .ok (.getfield 37, 3) := dk_dX5_kindStatement_29.2.2.2.2.2.1
theorem dX5_kindStatement_41 : decode cX5_kindStatement 41 = .ok (.getfield 127, 3) := dk_dX5_kindStatement_29.2.2.2.2.2.2.1
theorem dX5_kindStatement_44 : decode cX5_kindStatement 44 = .ok (.iload_n 1, 1) := dk_dX5_kindStatement_29.2.2.2.2.2.2.2.1
theorem dk_dX5_kindStatement_29_8 : dz_C cX5_kindStatement [(45, .aload_n 0, 1), (46, .ldc 130, 2), (48, .iconst 0, 1), (49, .bipush 99, 2), (51, .invokevirtual 70, 3), (54, .iastore, 1), (55, .aload_n 0, 1), (56, .getfield 37, 3)] := dk_dX5_kindStatement_29.2.2.2.2.2.2.2.2
theorem dX5_kindStatement_45 : decode cX5_kindStatement 45 = .ok (.aload_n 0, 1) := dk_dX5_kindStatement_29_8.1
theorem dX5_kindStatement_46 : decode cX5_kindStatement 46 = .ok (.ldc 130, 2) := dk_dX5_kindStatement_29_8.2.1
theorem dX5_kindStatement_48 : decode cX5_kindStatement 48 = .ok (.iconst 0, 1) := dk_dX5_kindStatement_29_8.2.2.1
theorem dX5_kindStatement_49 : decode cX5_kindStatement 49 = .ok (.bipush 99, 2) := dk_dX5_kindStatement_29_8.2.2.2.1
theorem dX5_kindStatement_51 : decode cX5_kindStatement 51 = .ok (.invokevirtual 70, 3) := dk_dX5_kindStatement_29_8.2.2.2.2.1
theorem dX5_kindStatement_54 : decode cX5_kindStatement 54 = .ok (.iastore, 1) := dk_dX5_kindStatement_29_8.2.2.2.2.2.1
theorem dX5_kindStatement_55 : decode cX5_kindStatement 55 = .ok (.aload_n 0, 1) := dk_dX5_kindStatement_29_8.2.2.2.2.2.2.1
theorem dX5_kindStatement_56 : decode cX5_kindStatement 56 = .ok (.getfield 37, 3) := dk_dX5_kindStatement_29_8.2.2.2.2.2.2.2.1
theorem dk_dX5_kindStatement_59 : dz_C cX5_kindStatement [(59, .getfield 131, 3), (62, .iload_n 1, 1), (63, .aload_n 0, 1), (64, .ldc 134, 2), (66, .iconst 1, 1), (67, .bipush 20, 2), (69, .invokevirtual 70, 3), (72, .iastore, 1), (73, .aload_n 0, 1), (74, .getfield 37, 3), (77, .getfield 135, 3), (80, .iload_n 1, 1), (81, .aload_n 0, 1), (82, .ldc 138, 2), (84, .iconst 0, 1), (85, .bipush 9, 2)] := dz_of (by decide +kernel)
theorem dX5_kindStatement_59 : decode cX5_kindStatement 59 = .ok (.getfield 131, 3) := dk_dX5_kindStatement_59.1
theorem dX5_kindStatement_62 : decode cX5_kindStatement 62 = .ok (.iload_n 1, 1) := dk_dX5_kindStatement_59.2.1
theorem dX5_kindStatement_63 : decode cX5_kindStatement 63 = .ok (.aload_n 0, 1) := dk_dX5_kindStatement_59.2.2.1
theorem dX5_kindStatement_64 : decode cX5_kindStatement 64 = .ok (.ldc 134, 2) := dk_dX5_kindStatement_59.2.2.2.1
theorem dX5_kindStatement_66 : decode cX5_kindStatement 66 = .ok (.iconst 1, 1) := dk_dX5_kindStatement_59.2.2.2.2.1
theorem dX5_kindStatement_67 : decode cX5_kindStatement 67 = .ok (.bipush 20, 2) := dk_dX5_kindStatement_59.2.2.2.2.2.1
theorem dX5_kindStatement_69 : decode cX5_kindStatement 69 = .ok (.invokevirtual 70, 3) := dk_dX5_kindStatement_59.2.2.2.2.2.2.1
theorem dX5_kindStatement_72 : decode cX5_kindStatement 72 = .ok (.iastore, 1) := dk_dX5_kindStatement_59.2.2.2.2.2.2.2.1
theorem dk_dX5_kindStatement_59_8 : dz_C cX5_kindStatement [(73, .aload_n 0, 1), (74, .getfield 37, 3), (77, .getfield 135, 3), (80, .iload_n 1, 1), (81, .aload_n 0, 1), (82, .ldc 138, 2), (84, .iconst 0, 1), (85, .bipush 9, 2)] := dk_dX5_kindStatement_59.2.2.2.2.2.2.2.2
theorem dX5_kindStatement_73 : decode cX5_kindStatement 73 = .ok (.aload_n 0, 1) := dk_dX5_kindStatement_59_8.1
theorem dX5_kindStatement_74 : decode cX5_kindStatement 74 = .ok (.getfield 37, 3) := dk_dX5_kindStatement_59_8.2.1
theorem dX5_kindStatement_77 : decode cX5_kindStatement 77 = .ok (.getfield 135, 3) := dk_dX5_kindStatement_59_8.2.2.1
theorem dX5_kindStatement_80 : decode cX5_kindStatement 80 = .ok (.iload_n 1, 1) := dk_dX5_kindStatement_59_8.2.2.2.1
theorem dX5_kindStatement_81 : decode cX5_kindStatement 81 = .ok (.aload_n 0, 1) := dk_dX5_kindStatement_59_8.2.2.2.2.1
theorem dX5_kindStatement_82 : decode cX5_kindStatement 82 = .ok (.ldc 138, 2) := dk_dX5_kindStatement_59_8.2.2.2.2.2.1
theorem dX5_kindStatement_84 : decode cX5_kindStatement 84 = .ok (.iconst 0, 1) := dk_dX5_kindStatement_59_8.2.2.2.2.2.2.1
theorem dX5_kindStatement_85 : decode cX5_kindStatement 85 = .ok (.bipush 9, 2) := dk_dX5_kindStatement_59_8.2.2.2.2.2.2.2.1
theorem dk_dX5_kindStatement_87 : dz_C cX5_kindStatement [(87, .invokevirtual 70, 3), (90, .iastore, 1), (91, .aload_n 0, 1), (92, .getfield 37, 3), (95, .dup, 1), (96, .getfield 121, 3), (99, .iconst 1, 1), (100, .iadd, 1), (101, .putfield 121, 3), (104, .return_, 1)] := dz_of (by decide +kernel)
theorem dX5_kindStatement_87 : decode cX5_kindStatement 87 = .ok (.invokevirtual 70, 3) := dk_dX5_kindStatement_87.1
theorem dX5_kindStatement_90 : decode cX5_kindStatement 90 = .ok (.iastore, 1) := dk_dX5_kindStatement_87.2.1
theorem dX5_kindStatement_91 : decode cX5_kindStatement 91 = .ok (.aload_n 0, 1) := dk_dX5_kindStatement_87.2.2.1
theorem dX5_kindStatement_92 : decode cX5_kindStatement 92 = .ok (.getfield 37, 3) := dk_dX5_kindStatement_87.2.2.2.1
theorem dX5_kindStatement_95 : decode cX5_kindStatement 95 = .ok (.dup, 1) := dk_dX5_kindStatement_87.2.2.2.2.1
theorem dX5_kindStatement_96 : decode cX5_kindStatement 96 = .ok (.getfield 121, 3) := dk_dX5_kindStatement_87.2.2.2.2.2.1
theorem dX5_kindStatement_99 : decode cX5_kindStatement 99 = .ok (.iconst 1, 1) := dk_dX5_kindStatement_87.2.2.2.2.2.2.1
theorem dX5_kindStatement_100 : decode cX5_kindStatement 100 = .ok (.iadd, 1) := dk_dX5_kindStatement_87.2.2.2.2.2.2.2.1
theorem dk_dX5_kindStatement_87_8 : dz_C cX5_kindStatement [(101, .putfield 121, 3), (104, .return_, 1)] := dk_dX5_kindStatement_87.2.2.2.2.2.2.2.2
theorem dX5_kindStatement_101 : decode cX5_kindStatement 101 = .ok (.putfield 121, 3) := dk_dX5_kindStatement_87_8.1
theorem dX5_kindStatement_104 : decode cX5_kindStatement 104 = .ok (.return_, 1) := dk_dX5_kindStatement_87_8.2.1
theorem dk_dX5_knownKind_0 : dz_C cX5_knownKind [(0, .aload_n 0, 1), (1, .invokevirtual 171, 3), (4, .ifCond .ne 14, 3), (7, .aload_n 0, 1), (8, .iconst 1, 1), (9, .aload_n 0, 1), (10, .invokevirtual 175, 3), (13, .invokevirtual 78, 3), (16, .iconst 0, 1), (17, .ireturn, 1), (18, .aload_n 0, 1), (19, .iconst 0, 1), (20, .aload_n 0, 1), (21, .getfield 37, 3), (24, .getfield 121, 3), (27, .invokevirtual 178, 3)] := dz_of (by decide +kernel)
theorem dX5_knownKind_0 : decode cX5_knownKind 0 = .ok (.aload_n 0, 1) := dk_dX5_knownKind_0.1
theorem dX5_knownKind_1 : decode cX5_knownKind 1 = .ok (.invokevirtual 171, 3) := dk_dX5_knownKind_0.2.1
theorem dX5_knownKind_4 : decode cX5_knownKind 4 = .ok (.ifCond .ne 14, 3) := dk_dX5_knownKind_0.2.2.1
theorem dX5_knownKind_7 : decode cX5_knownKind 7 = .ok (.aload_n 0, 1) := dk_dX5_knownKind_0.2.2.2.1
theorem dX5_knownKind_8 : decode cX5_knownKind 8 = .ok (.iconst 1, 1) := dk_dX5_knownKind_0.2.2.2.2.1
theorem dX5_knownKind_9 : decode cX5_knownKind 9 = .ok (.aload_n 0, 1) := dk_dX5_knownKind_0.2.2.2.2.2.1
theorem dX5_knownKind_10 : decode cX5_knownKind 10 = .ok (.invokevirtual 175, 3) := dk_dX5_knownKind_0.2.2.2.2.2.2.1
theorem dX5_knownKind_13 : decode cX5_knownKind 13 = .ok (.invokevirtual 78, 3) := dk_dX5_knownKind_0.2.2.2.2.2.2.2.1
theorem dk_dX5_knownKind_0_8 : dz_C cX5_knownKind [(16, .iconst 0, 1), (17, .ireturn, 1), (18, .aload_n 0, 1), (19, .iconst 0, 1), (20, .aload_n 0, 1), (21, .getfield 37, 3), (24, .getfield 121, 3), (27, .invokevirtual 178, 3)] := dk_dX5_knownKind_0.2.2.2.2.2.2.2.2
theorem dX5_knownKind_16 : decode cX5_knownKind 16 = .ok (.iconst 0, 1) := dk_dX5_knownKind_0_8.1
theorem dX5_knownKind_17 : decode cX5_knownKind 17 = .ok (.ireturn, 1) := dk_dX5_knownKind_0_8.2.1
theorem dX5_knownKind_18 : decode cX5_knownKind 18 = .ok (.aload_n 0, 1) := dk_dX5_knownKind_0_8.2.2.1
theorem dX5_knownKind_19 : decode cX5_knownKind 19 = .ok (.iconst 0, 1) := dk_dX5_knownKind_0_8.2.2.2.1
theorem dX5_knownKind_20 : decode cX5_knownKind 20 = .ok (.aload_n 0, 1) := dk_dX5_knownKind_0_8.2.2.2.2.1
theorem dX5_knownKind_21 : decode cX5_knownKind 21 = .ok (.getfield 37, 3) := dk_dX5_knownKind_0_8.2.2.2.2.2.1
theorem dX5_knownKind_24 : decode cX5_knownKind 24 = .ok (.getfield 121, 3) := dk_dX5_knownKind_0_8.2.2.2.2.2.2.1
theorem dX5_knownKind_27 : decode cX5_knownKind 27 = .ok (.invokevirtual 178, 3) := dk_dX5_knownKind_0_8.2.2.2.2.2.2.2.1
theorem dk_dX5_knownKind_30 : dz_C cX5_knownKind [(30, .istore_n 1, 1), (31, .iload_n 1, 1), (32, .iconst (-1), 1), (33, .if_icmp .ne 14, 3), (36, .aload_n 0, 1), (37, .iconst 3, 1), (38, .aload_n 0, 1), (39, .getfield 15, 3), (42, .invokevirtual 78, 3), (45, .iconst 0, 1), (46, .ireturn, 1), (47, .aload_n 0, 1), (48, .aload_n 0, 1), (49, .getfield 18, 3), (52, .invokevirtual 86, 3), (55, .iload_n 1, 1)] := dz_of (by decide +kernel)
theorem dX5_knownKind_30 : decode cX5_knownKind 30 = .ok (.istore_n 1, 1) := dk_dX5_knownKind_30.1
theorem dX5_knownKind_31 : decode cX5_knownKind 31 = .ok (.iload_n 1, 1) := dk_dX5_knownKind_30.2.1
theorem dX5_knownKind_32 : decode cX5_knownKind 32 = .ok (.iconst (-1), 1) := dk_dX5_knownKind_30.2.2.1
theorem dX5_knownKind_33 : decode cX5_knownKind 33 = .ok (.if_icmp .ne 14, 3) := dk_dX5_knownKind_30.2.2.2.1
theorem dX5_knownKind_36 : decode cX5_knownKind 36 = .ok (.aload_n 0, 1) := dk_dX5_knownKind_30.2.2.2.2.1
theorem dX5_knownKind_37 : decode cX5_knownKind 37 = .ok (.iconst 3, 1) := dk_dX5_knownKind_30.2.2.2.2.2.1
theorem dX5_knownKind_38 : decode cX5_knownKind 38 = .ok (.aload_n 0, 1) := dk_dX5_knownKind_30.2.2.2.2.2.2.1
theorem dX5_knownKind_39 : decode cX5_knownKind 39 = .ok (.getfield 15, 3) := dk_dX5_knownKind_30.2.2.2.2.2.2.2.1
theorem dk_dX5_knownKind_30_8 : dz_C cX5_knownKind [(42, .invokevirtual 78, 3), (45, .iconst 0, 1), (46, .ireturn, 1), (47, .aload_n 0, 1), (48, .aload_n 0, 1), (49, .getfield 18, 3), (52, .invokevirtual 86, 3), (55, .iload_n 1, 1)] := dk_dX5_knownKind_30.2.2.2.2.2.2.2.2
theorem dX5_knownKind_42 : decode cX5_knownKind 42 = .ok (.invokevirtual 78, 3) := dk_dX5_knownKind_30_8.1
theorem dX5_knownKind_45 : decode cX5_knownKind 45 = .ok (.iconst 0, 1) := dk_dX5_knownKind_30_8.2.1
theorem dX5_knownKind_46 : decode cX5_knownKind 46 = .ok (.ireturn, 1) := dk_dX5_knownKind_30_8.2.2.1
theorem dX5_knownKind_47 : decode cX5_knownKind 47 = .ok (.aload_n 0, 1) := dk_dX5_knownKind_30_8.2.2.2.1
theorem dX5_knownKind_48 : decode cX5_knownKind 48 = .ok (.aload_n 0, 1) := dk_dX5_knownKind_30_8.2.2.2.2.1
theorem dX5_knownKind_49 : decode cX5_knownKind 49 = .ok (.getfield 18, 3) := dk_dX5_knownKind_30_8.2.2.2.2.2.1
theorem dX5_knownKind_52 : decode cX5_knownKind 52 = .ok (.invokevirtual 86, 3) := dk_dX5_knownKind_30_8.2.2.2.2.2.2.1
theorem dX5_knownKind_55 : decode cX5_knownKind 55 = .ok (.iload_n 1, 1) := dk_dX5_knownKind_30_8.2.2.2.2.2.2.2.1
theorem dk_dX5_knownKind_56 : dz_C cX5_knownKind [(56, .ireturn, 1)] := dz_of (by decide +kernel)
theorem dX5_knownKind_56 : decode cX5_knownKind 56 = .ok (.ireturn, 1) := dk_dX5_knownKind_56.1
theorem dk_dX5_moveTo_0 : dz_C cX5_moveTo [(0, .aload_n 0, 1), (1, .iload_n 1, 1), (2, .putfield 15, 3), (5, .aload_n 0, 1), (6, .getfield 15, 3), (9, .aload_n 0, 1), (10, .getfield 11, 3), (13, .if_icmp .ge 44, 3), (16, .aload_n 0, 1), (17, .getfield 33, 3), (20, .aload_n 0, 1), (21, .getfield 15, 3), (24, .iaload, 1), (25, .bipush 10, 2), (27, .if_icmp .eq 17, 3), (30, .aload_n 0, 1)] := dz_of (by decide +kernel)
theorem dX5_moveTo_0 : decode cX5_moveTo 0 = .ok (.aload_n 0, 1) := dk_dX5_moveTo_0.1
theorem dX5_moveTo_1 : decode cX5_moveTo 1 = .ok (.iload_n 1, 1) := dk_dX5_moveTo_0.2.1
theorem dX5_moveTo_2 : decode cX5_moveTo 2 = .ok (.putfield 15, 3) := dk_dX5_moveTo_0.2.2.1
theorem dX5_moveTo_5 : decode cX5_moveTo 5 = .ok (.aload_n 0, 1) := dk_dX5_moveTo_0.2.2.2.1
theorem dX5_moveTo_6 : decode cX5_moveTo 6 = .ok (.getfield 15, 3) := dk_dX5_moveTo_0.2.2.2.2.1
theorem dX5_moveTo_9 : decode cX5_moveTo 9 = .ok (.aload_n 0, 1) := dk_dX5_moveTo_0.2.2.2.2.2.1
theorem dX5_moveTo_10 : decode cX5_moveTo 10 = .ok (.getfield 11, 3) := dk_dX5_moveTo_0.2.2.2.2.2.2.1
theorem dX5_moveTo_13 : decode cX5_moveTo 13 = .ok (.if_icmp .ge 44, 3) := dk_dX5_moveTo_0.2.2.2.2.2.2.2.1
theorem dk_dX5_moveTo_0_8 : dz_C cX5_moveTo [(16, .aload_n 0, 1), (17, .getfield 33, 3), (20, .aload_n 0, 1), (21, .getfield 15, 3), (24, .iaload, 1), (25, .bipush 10, 2), (27, .if_icmp .eq 17, 3), (30, .aload_n 0, 1)] := dk_dX5_moveTo_0.2.2.2.2.2.2.2.2
theorem dX5_moveTo_16 : decode cX5_moveTo 16 = .ok (.aload_n 0, 1) := dk_dX5_moveTo_0_8.1
theorem dX5_moveTo_17 : decode cX5_moveTo 17 = .ok (.getfield 33, 3) := dk_dX5_moveTo_0_8.2.1
theorem dX5_moveTo_20 : decode cX5_moveTo 20 = .ok (.aload_n 0, 1) := dk_dX5_moveTo_0_8.2.2.1
theorem dX5_moveTo_21 : decode cX5_moveTo 21 = .ok (.getfield 15, 3) := dk_dX5_moveTo_0_8.2.2.2.1
theorem dX5_moveTo_24 : decode cX5_moveTo 24 = .ok (.iaload, 1) := dk_dX5_moveTo_0_8.2.2.2.2.1
theorem dX5_moveTo_25 : decode cX5_moveTo 25 = .ok (.bipush 10, 2) := dk_dX5_moveTo_0_8.2.2.2.2.2.1
theorem dX5_moveTo_27 : decode cX5_moveTo 27 = .ok (.if_icmp .eq 17, 3) := dk_dX5_moveTo_0_8.2.2.2.2.2.2.1
theorem dX5_moveTo_30 : decode cX5_moveTo 30 = .ok (.aload_n 0, 1) := dk_dX5_moveTo_0_8.2.2.2.2.2.2.2.1
theorem dk_dX5_moveTo_31 : dz_C cX5_moveTo [(31, .getfield 33, 3), (34, .aload_n 0, 1), (35, .getfield 15, 3), (38, .iaload, 1), (39, .bipush 32, 2), (41, .if_icmp .ne 16, 3), (44, .aload_n 0, 1), (45, .dup, 1), (46, .getfield 15, 3), (49, .iconst 1, 1), (50, .iadd, 1), (51, .putfield 15, 3), (54, .goto (-49), 3), (57, .aload_n 0, 1), (58, .aload_n 0, 1), (59, .aload_n 0, 1)] := dz_of (by decide +kernel)
theorem dX5_moveTo_31 : decode cX5_moveTo 31 = .ok (.getfield 33, 3) := dk_dX5_moveTo_31.1
theorem dX5_moveTo_34 : decode cX5_moveTo 34 = .ok (.aload_n 0, 1) := dk_dX5_moveTo_31.2.1
theorem dX5_moveTo_35 : decode cX5_moveTo 35 = .ok (.getfield 15, 3) := dk_dX5_moveTo_31.2.2.1
theorem dX5_moveTo_38 : decode cX5_moveTo 38 = .ok (.iaload, 1) := dk_dX5_moveTo_31.2.2.2.1
theorem dX5_moveTo_39 : decode cX5_moveTo 39 = .ok (.bipush 32, 2) := dk_dX5_moveTo_31.2.2.2.2.1
theorem dX5_moveTo_41 : decode cX5_moveTo 41 = .ok (.if_icmp .ne 16, 3) := dk_dX5_moveTo_31.2.2.2.2.2.1
theorem dX5_moveTo_44 : decode cX5_moveTo 44 = .ok (.aload_n 0, 1) := dk_dX5_moveTo_31.2.2.2.2.2.2.1
theorem dX5_moveTo_45 : decode cX5_moveTo 45 = .ok (.dup, 1) := dk_dX5_moveTo_31.2.2.2.2.2.2.2.1
theorem dk_dX5_moveTo_31_8 : dz_C cX5_moveTo [(46, .getfield 15, 3), (49, .iconst 1, 1), (50, .iadd, 1), (51, .putfield 15, 3), (54, .goto (-49), 3), (57, .aload_n 0, 1), (58, .aload_n 0, 1), (59, .aload_n 0, 1)] := dk_dX5_moveTo_31.2.2.2.2.2.2.2.2
theorem dX5_moveTo_46 : decode cX5_moveTo 46 = .ok (.getfield 15, 3) := dk_dX5_moveTo_31_8.1
theorem dX5_moveTo_49 : decode cX5_moveTo 49 = .ok (.iconst 1, 1) := dk_dX5_moveTo_31_8.2.1
theorem dX5_moveTo_50 : decode cX5_moveTo 50 = .ok (.iadd, 1) := dk_dX5_moveTo_31_8.2.2.1
theorem dX5_moveTo_51 : decode cX5_moveTo 51 = .ok (.putfield 15, 3) := dk_dX5_moveTo_31_8.2.2.2.1
theorem dX5_moveTo_54 : decode cX5_moveTo 54 = .ok (.goto (-49), 3) := dk_dX5_moveTo_31_8.2.2.2.2.1
theorem dX5_moveTo_57 : decode cX5_moveTo 57 = .ok (.aload_n 0, 1) := dk_dX5_moveTo_31_8.2.2.2.2.2.1
theorem dX5_moveTo_58 : decode cX5_moveTo 58 = .ok (.aload_n 0, 1) := dk_dX5_moveTo_31_8.2.2.2.2.2.2.1
theorem dX5_moveTo_59 : decode cX5_moveTo 59 = .ok (.aload_n 0, 1) := dk_dX5_moveTo_31_8.2.2.2.2.2.2.2.1
theorem dk_dX5_moveTo_60 : dz_C cX5_moveTo [(60, .getfield 15, 3), (63, .invokevirtual 252, 3), (66, .putfield 21, 3), (69, .aload_n 0, 1), (70, .aload_n 0, 1), (71, .getfield 15, 3), (74, .iconst 1, 1), (75, .iadd, 1), (76, .aload_n 0, 1), (77, .getfield 11, 3), (80, .invokestatic 99, 3), (83, .putfield 18, 3), (86, .aload_n 0, 1), (87, .getfield 18, 3), (90, .aload_n 0, 1), (91, .getfield 11, 3)] := dz_of (by decide +kernel)
theorem dX5_moveTo_60 : decode cX5_moveTo 60 = .ok (.getfield 15, 3) := dk_dX5_moveTo_60.1
theorem dX5_moveTo_63 : decode cX5_moveTo 63 = .ok (.invokevirtual 252, 3) := dk_dX5_moveTo_60.2.1
theorem dX5_moveTo_66 : decode cX5_moveTo 66 = .ok (.putfield 21, 3) := dk_dX5_moveTo_60.2.2.1
theorem dX5_moveTo_69 : decode cX5_moveTo 69 = .ok (.aload_n 0, 1) := dk_dX5_moveTo_60.2.2.2.1
theorem dX5_moveTo_70 : decode cX5_moveTo 70 = .ok (.aload_n 0, 1) := dk_dX5_moveTo_60.2.2.2.2.1
theorem dX5_moveTo_71 : decode cX5_moveTo 71 = .ok (.getfield 15, 3) := dk_dX5_moveTo_60.2.2.2.2.2.1
theorem dX5_moveTo_74 : decode cX5_moveTo 74 = .ok (.iconst 1, 1) := dk_dX5_moveTo_60.2.2.2.2.2.2.1
theorem dX5_moveTo_75 : decode cX5_moveTo 75 = .ok (.iadd, 1) := dk_dX5_moveTo_60.2.2.2.2.2.2.2.1
theorem dk_dX5_moveTo_60_8 : dz_C cX5_moveTo [(76, .aload_n 0, 1), (77, .getfield 11, 3), (80, .invokestatic 99, 3), (83, .putfield 18, 3), (86, .aload_n 0, 1), (87, .getfield 18, 3), (90, .aload_n 0, 1), (91, .getfield 11, 3)] := dk_dX5_moveTo_60.2.2.2.2.2.2.2.2
theorem dX5_moveTo_76 : decode cX5_moveTo 76 = .ok (.aload_n 0, 1) := dk_dX5_moveTo_60_8.1
theorem dX5_moveTo_77 : decode cX5_moveTo 77 = .ok (.getfield 11, 3) := dk_dX5_moveTo_60_8.2.1
theorem dX5_moveTo_80 : decode cX5_moveTo 80 = .ok (.invokestatic 99, 3) := dk_dX5_moveTo_60_8.2.2.1
theorem dX5_moveTo_83 : decode cX5_moveTo 83 = .ok (.putfield 18, 3) := dk_dX5_moveTo_60_8.2.2.2.1
theorem dX5_moveTo_86 : decode cX5_moveTo 86 = .ok (.aload_n 0, 1) := dk_dX5_moveTo_60_8.2.2.2.2.1
theorem dX5_moveTo_87 : decode cX5_moveTo 87 = .ok (.getfield 18, 3) := dk_dX5_moveTo_60_8.2.2.2.2.2.1
theorem dX5_moveTo_90 : decode cX5_moveTo 90 = .ok (.aload_n 0, 1) := dk_dX5_moveTo_60_8.2.2.2.2.2.2.1
theorem dX5_moveTo_91 : decode cX5_moveTo 91 = .ok (.getfield 11, 3) := dk_dX5_moveTo_60_8.2.2.2.2.2.2.2.1
theorem dk_dX5_moveTo_94 : dz_C cX5_moveTo [(94, .if_icmp .ge 39, 3), (97, .aload_n 0, 1), (98, .getfield 21, 3), (101, .iconst 3, 1), (102, .if_icmp .eq 31, 3), (105, .aload_n 0, 1), (106, .aload_n 0, 1), (107, .getfield 18, 3), (110, .invokevirtual 252, 3), (113, .aload_n 0, 1), (114, .getfield 21, 3), (117, .if_icmp .ne 16, 3), (120, .aload_n 0, 1), (121, .dup, 1), (122, .getfield 18, 3), (125, .iconst 1, 1)] := dz_of (by decide +kernel)
theorem dX5_moveTo_94 : decode cX5_moveTo 94 = .ok (.if_icmp .ge 39, 3) := dk_dX5_moveTo_94.1
theorem dX5_moveTo_97 : decode cX5_moveTo 97 = .ok (.aload_n 0, 1) := dk_dX5_moveTo_94.2.1
theorem dX5_moveTo_98 : decode cX5_moveTo 98 = .ok (.getfield 21, 3) := dk_dX5_moveTo_94.2.2.1
theorem dX5_moveTo_101 : decode cX5_moveTo 101 = .ok (.iconst 3, 1) := dk_dX5_moveTo_94.2.2.2.1
theorem dX5_moveTo_102 : decode cX5_moveTo 102 = .ok (.if_icmp .eq 31, 3) := dk_dX5_moveTo_94.2.2.2.2.1
theorem dX5_moveTo_105 : decode cX5_moveTo 105 = .ok (.aload_n 0, 1) := dk_dX5_moveTo_94.2.2.2.2.2.1
theorem dX5_moveTo_106 : decode cX5_moveTo 106 = .ok (.aload_n 0, 1) := dk_dX5_moveTo_94.2.2.2.2.2.2.1
theorem dX5_moveTo_107 : decode cX5_moveTo 107 = .ok (.getfield 18, 3) := dk_dX5_moveTo_94.2.2.2.2.2.2.2.1
theorem dk_dX5_moveTo_94_8 : dz_C cX5_moveTo [(110, .invokevirtual 252, 3), (113, .aload_n 0, 1), (114, .getfield 21, 3), (117, .if_icmp .ne 16, 3), (120, .aload_n 0, 1), (121, .dup, 1), (122, .getfield 18, 3), (125, .iconst 1, 1)] := dk_dX5_moveTo_94.2.2.2.2.2.2.2.2
theorem dX5_moveTo_110 : decode cX5_moveTo 110 = .ok (.invokevirtual 252, 3) := dk_dX5_moveTo_94_8.1
theorem dX5_moveTo_113 : decode cX5_moveTo 113 = .ok (.aload_n 0, 1) := dk_dX5_moveTo_94_8.2.1
theorem dX5_moveTo_114 : decode cX5_moveTo 114 = .ok (.getfield 21, 3) := dk_dX5_moveTo_94_8.2.2.1
theorem dX5_moveTo_117 : decode cX5_moveTo 117 = .ok (.if_icmp .ne 16, 3) := dk_dX5_moveTo_94_8.2.2.2.1
theorem dX5_moveTo_120 : decode cX5_moveTo 120 = .ok (.aload_n 0, 1) := dk_dX5_moveTo_94_8.2.2.2.2.1
theorem dX5_moveTo_121 : decode cX5_moveTo 121 = .ok (.dup, 1) := dk_dX5_moveTo_94_8.2.2.2.2.2.1
theorem dX5_moveTo_122 : decode cX5_moveTo 122 = .ok (.getfield 18, 3) := dk_dX5_moveTo_94_8.2.2.2.2.2.2.1
theorem dX5_moveTo_125 : decode cX5_moveTo 125 = .ok (.iconst 1, 1) := dk_dX5_moveTo_94_8.2.2.2.2.2.2.2.1
theorem dk_dX5_moveTo_126 : dz_C cX5_moveTo [(126, .iadd, 1), (127, .putfield 18, 3), (130, .goto (-44), 3), (133, .aload_n 0, 1), (134, .getfield 15, 3), (137, .iload_n 1, 1), (138, .if_icmp .gt 24, 3), (141, .aload_n 0, 1), (142, .getfield 15, 3), (145, .ifCond .eq 17, 3), (148, .aload_n 0, 1), (149, .aload_n 0, 1), (150, .getfield 15, 3), (153, .iconst 1, 1), (154, .isub, 1), (155, .invokevirtual 252, 3)] := dz_of (by decide +kernel)
theorem dX5_moveTo_126 : decode cX5_moveTo 126 = .ok (.iadd, 1) := dk_dX5_moveTo_126.1
theorem dX5_moveTo_127 : decode cX5_moveTo 127 = .ok (.putfield 18, 3) := dk_dX5_moveTo_126.2.1
theorem dX5_moveTo_130 : decode cX5_moveTo 130 = .ok (.goto (-44), 3) := dk_dX5_moveTo_126.2.2.1
theorem dX5_moveTo_133 : decode cX5_moveTo 133 = .ok (.aload_n 0, 1) := dk_dX5_moveTo_126.2.2.2.1
theorem dX5_moveTo_134 : decode cX5_moveTo 134 = .ok (.getfield 15, 3) := dk_dX5_moveTo_126.2.2.2.2.1
theorem dX5_moveTo_137 : decode cX5_moveTo 137 = .ok (.iload_n 1, 1) := dk_dX5_moveTo_126.2.2.2.2.2.1
theorem dX5_moveTo_138 : decode cX5_moveTo 138 = .ok (.if_icmp .gt 24, 3) := dk_dX5_moveTo_126.2.2.2.2.2.2.1
theorem dX5_moveTo_141 : decode cX5_moveTo 141 = .ok (.aload_n 0, 1) := dk_dX5_moveTo_126.2.2.2.2.2.2.2.1
theorem dk_dX5_moveTo_126_8 : dz_C cX5_moveTo [(142, .getfield 15, 3), (145, .ifCond .eq 17, 3), (148, .aload_n 0, 1), (149, .aload_n 0, 1), (150, .getfield 15, 3), (153, .iconst 1, 1), (154, .isub, 1), (155, .invokevirtual 252, 3)] := dk_dX5_moveTo_126.2.2.2.2.2.2.2.2
theorem dX5_moveTo_142 : decode cX5_moveTo 142 = .ok (.getfield 15, 3) := dk_dX5_moveTo_126_8.1
theorem dX5_moveTo_145 : decode cX5_moveTo 145 = .ok (.ifCond .eq 17, 3) := dk_dX5_moveTo_126_8.2.1
theorem dX5_moveTo_148 : decode cX5_moveTo 148 = .ok (.aload_n 0, 1) := dk_dX5_moveTo_126_8.2.2.1
theorem dX5_moveTo_149 : decode cX5_moveTo 149 = .ok (.aload_n 0, 1) := dk_dX5_moveTo_126_8.2.2.2.1
theorem dX5_moveTo_150 : decode cX5_moveTo 150 = .ok (.getfield 15, 3) := dk_dX5_moveTo_126_8.2.2.2.2.1
theorem dX5_moveTo_153 : decode cX5_moveTo 153 = .ok (.iconst 1, 1) := dk_dX5_moveTo_126_8.2.2.2.2.2.1
theorem dX5_moveTo_154 : decode cX5_moveTo 154 = .ok (.isub, 1) := dk_dX5_moveTo_126_8.2.2.2.2.2.2.1
theorem dX5_moveTo_155 : decode cX5_moveTo 155 = .ok (.invokevirtual 252, 3) := dk_dX5_moveTo_126_8.2.2.2.2.2.2.2.1
theorem dk_dX5_moveTo_158 : dz_C cX5_moveTo [(158, .iconst 3, 1), (159, .if_icmp .ne 7, 3), (162, .iconst 1, 1), (163, .goto 4, 3), (166, .iconst 0, 1), (167, .istore_n 2, 1), (168, .iload_n 2, 1), (169, .ifCond .ne 24, 3), (172, .aload_n 0, 1), (173, .getfield 21, 3), (176, .iconst 1, 1), (177, .if_icmp .eq 11, 3), (180, .aload_n 0, 1), (181, .getfield 21, 3), (184, .iconst 2, 1), (185, .if_icmp .ne 8, 3)] := dz_of (by decide +kernel)
theorem dX5_moveTo_158 : decode cX5_moveTo 158 = .ok (.iconst 3, 1) := dk_dX5_moveTo_158.1
theorem dX5_moveTo_159 : decode cX5_moveTo 159 = .ok (.if_icmp .ne 7, 3) := dk_dX5_moveTo_158.2.1
theorem dX5_moveTo_162 : decode cX5_moveTo 162 = .ok (.iconst 1, 1) := dk_dX5_moveTo_158.2.2.1
theorem dX5_moveTo_163 : decode cX5_moveTo 163 = .ok (.goto 4, 3) := dk_dX5_moveTo_158.2.2.2.1
theorem dX5_moveTo_166 : decode cX5_moveTo 166 = .ok (.iconst 0, 1) := dk_dX5_moveTo_158.2.2.2.2.1
theorem dX5_moveTo_167 : decode cX5_moveTo 167 = .ok (.istore_n 2, 1) := dk_dX5_moveTo_158.2.2.2.2.2.1
theorem dX5_moveTo_168 : decode cX5_moveTo 168 = .ok (.iload_n 2, 1) := dk_dX5_moveTo_158.2.2.2.2.2.2.1
theorem dX5_moveTo_169 : decode cX5_moveTo 169 = .ok (.ifCond .ne 24, 3) := dk_dX5_moveTo_158.2.2.2.2.2.2.2.1
theorem dk_dX5_moveTo_158_8 : dz_C cX5_moveTo [(172, .aload_n 0, 1), (173, .getfield 21, 3), (176, .iconst 1, 1), (177, .if_icmp .eq 11, 3), (180, .aload_n 0, 1), (181, .getfield 21, 3), (184, .iconst 2, 1), (185, .if_icmp .ne 8, 3)] := dk_dX5_moveTo_158.2.2.2.2.2.2.2.2
theorem dX5_moveTo_172 : decode cX5_moveTo 172 = .ok (.aload_n 0, 1) := dk_dX5_moveTo_158_8.1
theorem dX5_moveTo_173 : decode cX5_moveTo 173 = .ok (.getfield 21, 3) := dk_dX5_moveTo_158_8.2.1
theorem dX5_moveTo_176 : decode cX5_moveTo 176 = .ok (.iconst 1, 1) := dk_dX5_moveTo_158_8.2.2.1
theorem dX5_moveTo_177 : decode cX5_moveTo 177 = .ok (.if_icmp .eq 11, 3) := dk_dX5_moveTo_158_8.2.2.2.1
theorem dX5_moveTo_180 : decode cX5_moveTo 180 = .ok (.aload_n 0, 1) := dk_dX5_moveTo_158_8.2.2.2.2.1
theorem dX5_moveTo_181 : decode cX5_moveTo 181 = .ok (.getfield 21, 3) := dk_dX5_moveTo_158_8.2.2.2.2.2.1
theorem dX5_moveTo_184 : decode cX5_moveTo 184 = .ok (.iconst 2, 1) := dk_dX5_moveTo_158_8.2.2.2.2.2.2.1
theorem dX5_moveTo_185 : decode cX5_moveTo 185 = .ok (.if_icmp .ne 8, 3) := dk_dX5_moveTo_158_8.2.2.2.2.2.2.2.1
theorem dk_dX5_moveTo_188 : dz_C cX5_moveTo [(188, .aload_n 0, 1), (189, .iconst 4, 1), (190, .putfield 21, 3), (193, .return_, 1)] := dz_of (by decide +kernel)
theorem dX5_moveTo_188 : decode cX5_moveTo 188 = .ok (.aload_n 0, 1) := dk_dX5_moveTo_188.1
theorem dX5_moveTo_189 : decode cX5_moveTo 189 = .ok (.iconst 4, 1) := dk_dX5_moveTo_188.2.1
theorem dX5_moveTo_190 : decode cX5_moveTo 190 = .ok (.putfield 21, 3) := dk_dX5_moveTo_188.2.2.1
theorem dX5_moveTo_193 : decode cX5_moveTo 193 = .ok (.return_, 1) := dk_dX5_moveTo_188.2.2.2.1
theorem dk_dX5_nameLetter_0 : dz_C cX5_nameLetter [(0, .aload_n 0, 1), (1, .getfield 15, 3), (4, .iload_n 1, 1), (5, .iadd, 1), (6, .aload_n 0, 1), (7, .getfield 18, 3), (10, .if_icmp .ge 22, 3), (13, .aload_n 0, 1), (14, .getfield 33, 3), (17, .aload_n 0, 1), (18, .getfield 15, 3), (21, .iload_n 1, 1), (22, .iadd, 1), (23, .iaload, 1), (24, .bipush 97, 2), (26, .isub, 1)] := dz_of (by decide +kernel)
theorem dX5_nameLetter_0 : decode cX5_nameLetter 0 = .ok (.aload_n 0, 1) := dk_dX5_nameLetter_0.1
theorem dX5_nameLetter_1 : decode cX5_nameLetter 1 = .ok (.getfield 15, 3) := dk_dX5_nameLetter_0.2.1
theorem dX5_nameLetter_4 : decode cX5_nameLetter 4 = .ok (.iload_n 1, 1) := dk_dX5_nameLetter_0.2.2.1
theorem dX5_nameLetter_5 : decode cX5_nameLetter 5 = .ok (.iadd, 1) := dk_dX5_nameLetter_0.2.2.2.1
theorem dX5_nameLetter_6 : decode cX5_nameLetter 6 = .ok (.aload_n 0, 1) := dk_dX5_nameLetter_0.2.2.2.2.1
theorem dX5_nameLetter_7 : decode cX5_nameLetter 7 = .ok (.getfield 18, 3) := dk_dX5_nameLetter_0.2.2.2.2.2.1
theorem dX5_nameLetter_10 : decode cX5_nameLetter 10 = .ok (.if_icmp .ge 22, 3) := dk_dX5_nameLetter_0.2.2.2.2.2.2.1
theorem dX5_nameLetter_13 : decode cX5_nameLetter 13 = .ok (.aload_n 0, 1) := dk_dX5_nameLetter_0.2.2.2.2.2.2.2.1
theorem dk_dX5_nameLetter_0_8 : dz_C cX5_nameLetter [(14, .getfield 33, 3), (17, .aload_n 0, 1), (18, .getfield 15, 3), (21, .iload_n 1, 1), (22, .iadd, 1), (23, .iaload, 1), (24, .bipush 97, 2), (26, .isub, 1)] := dk_dX5_nameLetter_0.2.2.2.2.2.2.2.2
theorem dX5_nameLetter_14 : decode cX5_nameLetter 14 = .ok (.getfield 33, 3) := dk_dX5_nameLetter_0_8.1
theorem dX5_nameLetter_17 : decode cX5_nameLetter 17 = .ok (.aload_n 0, 1) := dk_dX5_nameLetter_0_8.2.1
theorem dX5_nameLetter_18 : decode cX5_nameLetter 18 = .ok (.getfield 15, 3) := dk_dX5_nameLetter_0_8.2.2.1
theorem dX5_nameLetter_21 : decode cX5_nameLetter 21 = .ok (.iload_n 1, 1) := dk_dX5_nameLetter_0_8.2.2.2.1
theorem dX5_nameLetter_22 : decode cX5_nameLetter 22 = .ok (.iadd, 1) := dk_dX5_nameLetter_0_8.2.2.2.2.1
theorem dX5_nameLetter_23 : decode cX5_nameLetter 23 = .ok (.iaload, 1) := dk_dX5_nameLetter_0_8.2.2.2.2.2.1
theorem dX5_nameLetter_24 : decode cX5_nameLetter 24 = .ok (.bipush 97, 2) := dk_dX5_nameLetter_0_8.2.2.2.2.2.2.1
theorem dX5_nameLetter_26 : decode cX5_nameLetter 26 = .ok (.isub, 1) := dk_dX5_nameLetter_0_8.2.2.2.2.2.2.2.1
theorem dk_dX5_nameLetter_27 : dz_C cX5_nameLetter [(27, .iconst 1, 1), (28, .iadd, 1), (29, .goto 4, 3), (32, .iconst 0, 1), (33, .ireturn, 1)] := dz_of (by decide +kernel)
theorem dX5_nameLetter_27 : decode cX5_nameLetter 27 = .ok (.iconst 1, 1) := dk_dX5_nameLetter_27.1
theorem dX5_nameLetter_28 : decode cX5_nameLetter 28 = .ok (.iadd, 1) := dk_dX5_nameLetter_27.2.1
theorem dX5_nameLetter_29 : decode cX5_nameLetter 29 = .ok (.goto 4, 3) := dk_dX5_nameLetter_27.2.2.1
theorem dX5_nameLetter_32 : decode cX5_nameLetter 32 = .ok (.iconst 0, 1) := dk_dX5_nameLetter_27.2.2.2.1
theorem dX5_nameLetter_33 : decode cX5_nameLetter 33 = .ok (.ireturn, 1) := dk_dX5_nameLetter_27.2.2.2.2.1
theorem dk_dX5_need_0 : dz_C cX5_need [(0, .aload_n 0, 1), (1, .iload_n 1, 1), (2, .invokevirtual 213, 3), (5, .ifCond .eq 14, 3), (8, .aload_n 0, 1), (9, .aload_n 0, 1), (10, .getfield 18, 3), (13, .invokevirtual 86, 3), (16, .goto 12, 3), (19, .aload_n 0, 1), (20, .iconst 1, 1), (21, .aload_n 0, 1), (22, .getfield 15, 3), (25, .invokevirtual 78, 3), (28, .return_, 1)] := dz_of (by decide +kernel)
theorem dX5_need_0 : decode cX5_need 0 = .ok (.aload_n 0, 1) := dk_dX5_need_0.1
theorem dX5_need_1 : decode cX5_need 1 = .ok (.iload_n 1, 1) := dk_dX5_need_0.2.1
theorem dX5_need_2 : decode cX5_need 2 = .ok (.invokevirtual 213, 3) := dk_dX5_need_0.2.2.1
theorem dX5_need_5 : decode cX5_need 5 = .ok (.ifCond .eq 14, 3) := dk_dX5_need_0.2.2.2.1
theorem dX5_need_8 : decode cX5_need 8 = .ok (.aload_n 0, 1) := dk_dX5_need_0.2.2.2.2.1
theorem dX5_need_9 : decode cX5_need 9 = .ok (.aload_n 0, 1) := dk_dX5_need_0.2.2.2.2.2.1
theorem dX5_need_10 : decode cX5_need 10 = .ok (.getfield 18, 3) := dk_dX5_need_0.2.2.2.2.2.2.1
theorem dX5_need_13 : decode cX5_need 13 = .ok (.invokevirtual 86, 3) := dk_dX5_need_0.2.2.2.2.2.2.2.1
theorem dk_dX5_need_0_8 : dz_C cX5_need [(16, .goto 12, 3), (19, .aload_n 0, 1), (20, .iconst 1, 1), (21, .aload_n 0, 1), (22, .getfield 15, 3), (25, .invokevirtual 78, 3), (28, .return_, 1)] := dk_dX5_need_0.2.2.2.2.2.2.2.2
theorem dX5_need_16 : decode cX5_need 16 = .ok (.goto 12, 3) := dk_dX5_need_0_8.1
theorem dX5_need_19 : decode cX5_need 19 = .ok (.aload_n 0, 1) := dk_dX5_need_0_8.2.1
theorem dX5_need_20 : decode cX5_need 20 = .ok (.iconst 1, 1) := dk_dX5_need_0_8.2.2.1
theorem dX5_need_21 : decode cX5_need 21 = .ok (.aload_n 0, 1) := dk_dX5_need_0_8.2.2.2.1
theorem dX5_need_22 : decode cX5_need 22 = .ok (.getfield 15, 3) := dk_dX5_need_0_8.2.2.2.2.1
theorem dX5_need_25 : decode cX5_need 25 = .ok (.invokevirtual 78, 3) := dk_dX5_need_0_8.2.2.2.2.2.1
theorem dX5_need_28 : decode cX5_need 28 = .ok (.return_, 1) := dk_dX5_need_0_8.2.2.2.2.2.2.1
theorem dk_dX5_needWord_0 : dz_C cX5_needWord [(0, .aload_n 0, 1), (1, .aload_n 1, 1), (2, .invokevirtual 54, 3), (5, .iconst (-1), 1), (6, .if_icmp .ne 15, 3), (9, .aload_n 0, 1), (10, .iconst 1, 1), (11, .aload_n 0, 1), (12, .getfield 15, 3), (15, .invokevirtual 78, 3), (18, .goto 11, 3), (21, .aload_n 0, 1), (22, .aload_n 0, 1), (23, .getfield 18, 3), (26, .invokevirtual 86, 3), (29, .return_, 1)] := dz_of (by decide +kernel)
theorem dX5_needWord_0 : decode cX5_needWord 0 = .ok (.aload_n 0, 1) := dk_dX5_needWord_0.1
theorem dX5_needWord_1 : decode cX5_needWord 1 = .ok (.aload_n 1, 1) := dk_dX5_needWord_0.2.1
theorem dX5_needWord_2 : decode cX5_needWord 2 = .ok (.invokevirtual 54, 3) := dk_dX5_needWord_0.2.2.1
theorem dX5_needWord_5 : decode cX5_needWord 5 = .ok (.iconst (-1), 1) := dk_dX5_needWord_0.2.2.2.1
theorem dX5_needWord_6 : decode cX5_needWord 6 = .ok (.if_icmp .ne 15, 3) := dk_dX5_needWord_0.2.2.2.2.1
theorem dX5_needWord_9 : decode cX5_needWord 9 = .ok (.aload_n 0, 1) := dk_dX5_needWord_0.2.2.2.2.2.1
theorem dX5_needWord_10 : decode cX5_needWord 10 = .ok (.iconst 1, 1) := dk_dX5_needWord_0.2.2.2.2.2.2.1
theorem dX5_needWord_11 : decode cX5_needWord 11 = .ok (.aload_n 0, 1) := dk_dX5_needWord_0.2.2.2.2.2.2.2.1
theorem dk_dX5_needWord_0_8 : dz_C cX5_needWord [(12, .getfield 15, 3), (15, .invokevirtual 78, 3), (18, .goto 11, 3), (21, .aload_n 0, 1), (22, .aload_n 0, 1), (23, .getfield 18, 3), (26, .invokevirtual 86, 3), (29, .return_, 1)] := dk_dX5_needWord_0.2.2.2.2.2.2.2.2
theorem dX5_needWord_12 : decode cX5_needWord 12 = .ok (.getfield 15, 3) := dk_dX5_needWord_0_8.1
theorem dX5_needWord_15 : decode cX5_needWord 15 = .ok (.invokevirtual 78, 3) := dk_dX5_needWord_0_8.2.1
theorem dX5_needWord_18 : decode cX5_needWord 18 = .ok (.goto 11, 3) := dk_dX5_needWord_0_8.2.2.1
theorem dX5_needWord_21 : decode cX5_needWord 21 = .ok (.aload_n 0, 1) := dk_dX5_needWord_0_8.2.2.2.1
theorem dX5_needWord_22 : decode cX5_needWord 22 = .ok (.aload_n 0, 1) := dk_dX5_needWord_0_8.2.2.2.2.1
theorem dX5_needWord_23 : decode cX5_needWord 23 = .ok (.getfield 18, 3) := dk_dX5_needWord_0_8.2.2.2.2.2.1
theorem dX5_needWord_26 : decode cX5_needWord 26 = .ok (.invokevirtual 86, 3) := dk_dX5_needWord_0_8.2.2.2.2.2.2.1
theorem dX5_needWord_29 : decode cX5_needWord 29 = .ok (.return_, 1) := dk_dX5_needWord_0_8.2.2.2.2.2.2.2.1
theorem dk_dX5_newName_0 : dz_C cX5_newName [(0, .aload_n 0, 1), (1, .invokevirtual 171, 3), (4, .ifCond .ne 15, 3), (7, .aload_n 0, 1), (8, .iconst 1, 1), (9, .aload_n 0, 1), (10, .invokevirtual 175, 3), (13, .invokevirtual 78, 3), (16, .goto 89, 3), (19, .aload_n 0, 1), (20, .iconst 0, 1), (21, .aload_n 0, 1), (22, .getfield 37, 3), (25, .getfield 121, 3), (28, .invokevirtual 178, 3), (31, .iconst (-1), 1)] := dz_of (by decide +kernel)
theorem dX5_newName_0 : decode cX5_newName 0 = .ok (.aload_n 0, 1) := dk_dX5_newName_0.1
theorem dX5_newName_1 : decode cX5_newName 1 = .ok (.invokevirtual 171, 3) := dk_dX5_newName_0.2.1
theorem dX5_newName_4 : decode cX5_newName 4 = .ok (.ifCond .ne 15, 3) := dk_dX5_newName_0.2.2.1
theorem dX5_newName_7 : decode cX5_newName 7 = .ok (.aload_n 0, 1) := dk_dX5_newName_0.2.2.2.1
theorem dX5_newName_8 : decode cX5_newName 8 = .ok (.iconst 1, 1) := dk_dX5_newName_0.2.2.2.2.1
theorem dX5_newName_9 : decode cX5_newName 9 = .ok (.aload_n 0, 1) := dk_dX5_newName_0.2.2.2.2.2.1
theorem dX5_newName_10 : decode cX5_newName 10 = .ok (.invokevirtual 175, 3) := dk_dX5_newName_0.2.2.2.2.2.2.1
theorem dX5_newName_13 : decode cX5_newName 13 = .ok (.invokevirtual 78, 3) := dk_dX5_newName_0.2.2.2.2.2.2.2.1
theorem dk_dX5_newName_0_8 : dz_C cX5_newName [(16, .goto 89, 3), (19, .aload_n 0, 1), (20, .iconst 0, 1), (21, .aload_n 0, 1), (22, .getfield 37, 3), (25, .getfield 121, 3), (28, .invokevirtual 178, 3), (31, .iconst (-1), 1)] := dk_dX5_newName_0.2.2.2.2.2.2.2.2
theorem dX5_newName_16 : decode cX5_newName 16 = .ok (.goto 89, 3) := dk_dX5_newName_0_8.1
theorem dX5_newName_19 : decode cX5_newName 19 = .ok (.aload_n 0, 1) := dk_dX5_newName_0_8.2.1
theorem dX5_newName_20 : decode cX5_newName 20 = .ok (.iconst 0, 1) := dk_dX5_newName_0_8.2.2.1
theorem dX5_newName_21 : decode cX5_newName 21 = .ok (.aload_n 0, 1) := dk_dX5_newName_0_8.2.2.2.1
theorem dX5_newName_22 : decode cX5_newName 22 = .ok (.getfield 37, 3) := dk_dX5_newName_0_8.2.2.2.2.1
theorem dX5_newName_25 : decode cX5_newName 25 = .ok (.getfield 121, 3) := dk_dX5_newName_0_8.2.2.2.2.2.1
theorem dX5_newName_28 : decode cX5_newName 28 = .ok (.invokevirtual 178, 3) := dk_dX5_newName_0_8.2.2.2.2.2.2.1
theorem dX5_newName_31 : decode cX5_newName 31 = .ok (.iconst (-1), 1) := dk_dX5_newName_0_8.2.2.2.2.2.2.2.1
theorem dk_dX5_newName_32 : dz_C cX5_newName [(32, .if_icmp .ne 20, 3), (35, .aload_n 0, 1), (36, .bipush 6, 2), (38, .aload_n 0, 1), (39, .getfield 37, 3), (42, .getfield 139, 3), (45, .invokevirtual 178, 3), (48, .iconst (-1), 1), (49, .if_icmp .eq 15, 3), (52, .aload_n 0, 1), (53, .iconst 3, 1), (54, .aload_n 0, 1), (55, .getfield 15, 3), (58, .invokevirtual 78, 3), (61, .goto 44, 3), (64, .iconst 0, 1)] := dz_of (by decide +kernel)
theorem dX5_newName_32 : decode cX5_newName 32 = .ok (.if_icmp .ne 20, 3) := dk_dX5_newName_32.1
theorem dX5_newName_35 : decode cX5_newName 35 = .ok (.aload_n 0, 1) := dk_dX5_newName_32.2.1
theorem dX5_newName_36 : decode cX5_newName 36 = .ok (.bipush 6, 2) := dk_dX5_newName_32.2.2.1
theorem dX5_newName_38 : decode cX5_newName 38 = .ok (.aload_n 0, 1) := dk_dX5_newName_32.2.2.2.1
theorem dX5_newName_39 : decode cX5_newName 39 = .ok (.getfield 37, 3) := dk_dX5_newName_32.2.2.2.2.1
theorem dX5_newName_42 : decode cX5_newName 42 = .ok (.getfield 139, 3) := dk_dX5_newName_32.2.2.2.2.2.1
theorem dX5_newName_45 : decode cX5_newName 45 = .ok (.invokevirtual 178, 3) := dk_dX5_newName_32.2.2.2.2.2.2.1
theorem dX5_newName_48 : decode cX5_newName 48 = .ok (.iconst (-1), 1) := dk_dX5_newName_32.2.2.2.2.2.2.2.1
theorem dk_dX5_newName_32_8 : dz_C cX5_newName [(49, .if_icmp .eq 15, 3), (52, .aload_n 0, 1), (53, .iconst 3, 1), (54, .aload_n 0, 1), (55, .getfield 15, 3), (58, .invokevirtual 78, 3), (61, .goto 44, 3), (64, .iconst 0, 1)] := dk_dX5_newName_32.2.2.2.2.2.2.2.2
theorem dX5_newName_49 : decode cX5_newName 49 = .ok (.if_icmp .eq 15, 3) := dk_dX5_newName_32_8.1
theorem dX5_newName_52 : decode cX5_newName 52 = .ok (.aload_n 0, 1) := dk_dX5_newName_32_8.2.1
theorem dX5_newName_53 : decode cX5_newName 53 = .ok (.iconst 3, 1) := dk_dX5_newName_32_8.2.2.1
theorem dX5_newName_54 : decode cX5_newName 54 = .ok (.aload_n 0, 1) := dk_dX5_newName_32_8.2.2.2.1
theorem dX5_newName_55 : decode cX5_newName 55 = .ok (.getfield 15, 3) := dk_dX5_newName_32_8.2.2.2.2.1
theorem dX5_newName_58 : decode cX5_newName 58 = .ok (.invokevirtual 78, 3) := dk_dX5_newName_32_8.2.2.2.2.2.1
theorem dX5_newName_61 : decode cX5_newName 61 = .ok (.goto 44, 3) := dk_dX5_newName_32_8.2.2.2.2.2.2.1
theorem dX5_newName_64 : decode cX5_newName 64 = .ok (.iconst 0, 1) := dk_dX5_newName_32_8.2.2.2.2.2.2.2.1
theorem dk_dX5_newName_65 : dz_C cX5_newName [(65, .istore_n 2, 1), (66, .iload_n 2, 1), (67, .bipush 6, 2), (69, .if_icmp .ge 28, 3), (72, .aload_n 0, 1), (73, .getfield 37, 3), (76, .getfield 181, 3), (79, .iload_n 1, 1), (80, .bipush 6, 2), (82, .imul, 1), (83, .iload_n 2, 1), (84, .iadd, 1), (85, .aload_n 0, 1), (86, .iload_n 2, 1), (87, .invokevirtual 184, 3), (90, .iastore, 1)] := dz_of (by decide +kernel)
theorem dX5_newName_65 : decode cX5_newName 65 = .ok (.istore_n 2, 1) := dk_dX5_newName_65.1
theorem dX5_newName_66 : decode cX5_newName 66 = .ok (.iload_n 2, 1) := dk_dX5_newName_65.2.1
theorem dX5_newName_67 : decode cX5_newName 67 = .ok (.bipush 6, 2) := dk_dX5_newName_65.2.2.1
theorem dX5_newName_69 : decode cX5_newName 69 = .ok (.if_icmp .ge 28, 3) := dk_dX5_newName_65.2.2.2.1
theorem dX5_newName_72 : decode cX5_newName 72 = .ok (.aload_n 0, 1) := dk_dX5_newName_65.2.2.2.2.1
theorem dX5_newName_73 : decode cX5_newName 73 = .ok (.getfield 37, 3) := dk_dX5_newName_65.2.2.2.2.2.1
theorem dX5_newName_76 : decode cX5_newName 76 = .ok (.getfield 181, 3) := dk_dX5_newName_65.2.2.2.2.2.2.1
theorem dX5_newName_79 : decode cX5_newName 79 = .ok (.iload_n 1, 1) := dk_dX5_newName_65.2.2.2.2.2.2.2.1
theorem dk_dX5_newName_65_8 : dz_C cX5_newName [(80, .bipush 6, 2), (82, .imul, 1), (83, .iload_n 2, 1), (84, .iadd, 1), (85, .aload_n 0, 1), (86, .iload_n 2, 1), (87, .invokevirtual 184, 3), (90, .iastore, 1)] := dk_dX5_newName_65.2.2.2.2.2.2.2.2
theorem dX5_newName_80 : decode cX5_newName 80 = .ok (.bipush 6, 2) := dk_dX5_newName_65_8.1
theorem dX5_newName_82 : decode cX5_newName 82 = .ok (.imul, 1) := dk_dX5_newName_65_8.2.1
theorem dX5_newName_83 : decode cX5_newName 83 = .ok (.iload_n 2, 1) := dk_dX5_newName_65_8.2.2.1
theorem dX5_newName_84 : decode cX5_newName 84 = .ok (.iadd, 1) := dk_dX5_newName_65_8.2.2.2.1
theorem dX5_newName_85 : decode cX5_newName 85 = .ok (.aload_n 0, 1) := dk_dX5_newName_65_8.2.2.2.2.1
theorem dX5_newName_86 : decode cX5_newName 86 = .ok (.iload_n 2, 1) := dk_dX5_newName_65_8.2.2.2.2.2.1
theorem dX5_newName_87 : decode cX5_newName 87 = .ok (.invokevirtual 184, 3) := dk_dX5_newName_65_8.2.2.2.2.2.2.1
theorem dX5_newName_90 : decode cX5_newName 90 = .ok (.iastore, 1) := dk_dX5_newName_65_8.2.2.2.2.2.2.2.1
theorem dk_dX5_newName_91 : dz_C cX5_newName [(91, .iinc 2 1, 3), (94, .goto (-28), 3), (97, .aload_n 0, 1), (98, .aload_n 0, 1), (99, .getfield 18, 3), (102, .invokevirtual 86, 3), (105, .return_, 1)] := dz_of (by decide +kernel)
theorem dX5_newName_91 : decode cX5_newName 91 = .ok (.iinc 2 1, 3) := dk_dX5_newName_91.1
theorem dX5_newName_94 : decode cX5_newName 94 = .ok (.goto (-28), 3) := dk_dX5_newName_91.2.1
theorem dX5_newName_97 : decode cX5_newName 97 = .ok (.aload_n 0, 1) := dk_dX5_newName_91.2.2.1
theorem dX5_newName_98 : decode cX5_newName 98 = .ok (.aload_n 0, 1) := dk_dX5_newName_91.2.2.2.1
theorem dX5_newName_99 : decode cX5_newName 99 = .ok (.getfield 18, 3) := dk_dX5_newName_91.2.2.2.2.1
theorem dX5_newName_102 : decode cX5_newName 102 = .ok (.invokevirtual 86, 3) := dk_dX5_newName_91.2.2.2.2.2.1
theorem dX5_newName_105 : decode cX5_newName 105 = .ok (.return_, 1) := dk_dX5_newName_91.2.2.2.2.2.2.1
theorem dk_dX5_number_0 : dz_C cX5_number [(0, .aload_n 0, 1), (1, .getfield 21, 3), (4, .iconst 2, 1), (5, .if_icmp .eq 14, 3), (8, .aload_n 0, 1), (9, .iconst 1, 1), (10, .aload_n 0, 1), (11, .getfield 15, 3), (14, .invokevirtual 78, 3), (17, .iload_n 1, 1), (18, .ireturn, 1), (19, .aload_n 0, 1), (20, .getfield 18, 3), (23, .aload_n 0, 1), (24, .getfield 15, 3), (27, .isub, 1)] := dz_of (by decide +kernel)
theorem dX5_number_0 : decode cX5_number 0 = .ok (.aload_n 0, 1) := dk_dX5_number_0.1
theorem dX5_number_1 : decode cX5_number 1 = .ok (.getfield 21, 3) := dk_dX5_number_0.2.1
theorem dX5_number_4 : decode cX5_number 4 = .ok (.iconst 2, 1) := dk_dX5_number_0.2.2.1
theorem dX5_number_5 : decode cX5_number 5 = .ok (.if_icmp .eq 14, 3) := dk_dX5_number_0.2.2.2.1
theorem dX5_number_8 : decode cX5_number 8 = .ok (.aload_n 0, 1) := dk_dX5_number_0.2.2.2.2.1
theorem dX5_number_9 : decode cX5_number 9 = .ok (.iconst 1, 1) := dk_dX5_number_0.2.2.2.2.2.1
theorem dX5_number_10 : decode cX5_number 10 = .ok (.aload_n 0, 1) := dk_dX5_number_0.2.2.2.2.2.2.1
theorem dX5_number_11 : decode cX5_number 11 = .ok (.getfield 15, 3) := dk_dX5_number_0.2.2.2.2.2.2.2.1
theorem dk_dX5_number_0_8 : dz_C cX5_number [(14, .invokevirtual 78, 3), (17, .iload_n 1, 1), (18, .ireturn, 1), (19, .aload_n 0, 1), (20, .getfield 18, 3), (23, .aload_n 0, 1), (24, .getfield 15, 3), (27, .isub, 1)] := dk_dX5_number_0.2.2.2.2.2.2.2.2
theorem dX5_number_14 : decode cX5_number 14 = .ok (.invokevirtual 78, 3) := dk_dX5_number_0_8.1
theorem dX5_number_17 : decode cX5_number 17 = .ok (.iload_n 1, 1) := dk_dX5_number_0_8.2.1
theorem dX5_number_18 : decode cX5_number 18 = .ok (.ireturn, 1) := dk_dX5_number_0_8.2.2.1
theorem dX5_number_19 : decode cX5_number 19 = .ok (.aload_n 0, 1) := dk_dX5_number_0_8.2.2.2.1
theorem dX5_number_20 : decode cX5_number 20 = .ok (.getfield 18, 3) := dk_dX5_number_0_8.2.2.2.2.1
theorem dX5_number_23 : decode cX5_number 23 = .ok (.aload_n 0, 1) := dk_dX5_number_0_8.2.2.2.2.2.1
theorem dX5_number_24 : decode cX5_number 24 = .ok (.getfield 15, 3) := dk_dX5_number_0_8.2.2.2.2.2.2.1
theorem dX5_number_27 : decode cX5_number 27 = .ok (.isub, 1) := dk_dX5_number_0_8.2.2.2.2.2.2.2.1
theorem dk_dX5_number_28 : dz_C cX5_number [(28, .iconst 4, 1), (29, .if_icmp .le 16, 3), (32, .aload_n 0, 1), (33, .iconst 1, 1), (34, .aload_n 0, 1), (35, .getfield 15, 3), (38, .iconst 4, 1), (39, .iadd, 1), (40, .invokevirtual 78, 3), (43, .iload_n 1, 1), (44, .ireturn, 1), (45, .iconst 0, 1), (46, .istore_n 3, 1), (47, .aload_n 0, 1), (48, .getfield 15, 3), (51, .istore 4, 2)] := dz_of (by decide +kernel)
theorem dX5_number_28 : decode cX5_number 28 = .ok (.iconst 4, 1) := dk_dX5_number_28.1
theorem dX5_number_29 : decode cX5_number 29 = .ok (.if_icmp .le 16, 3) := dk_dX5_number_28.2.1
theorem dX5_number_32 : decode cX5_number 32 = .ok (.aload_n 0, 1) := dk_dX5_number_28.2.2.1
theorem dX5_number_33 : decode cX5_number 33 = .ok (.iconst 1, 1) := dk_dX5_number_28.2.2.2.1
theorem dX5_number_34 : decode cX5_number 34 = .ok (.aload_n 0, 1) := dk_dX5_number_28.2.2.2.2.1
theorem dX5_number_35 : decode cX5_number 35 = .ok (.getfield 15, 3) := dk_dX5_number_28.2.2.2.2.2.1
theorem dX5_number_38 : decode cX5_number 38 = .ok (.iconst 4, 1) := dk_dX5_number_28.2.2.2.2.2.2.1
theorem dX5_number_39 : decode cX5_number 39 = .ok (.iadd, 1) := dk_dX5_number_28.2.2.2.2.2.2.2.1
theorem dk_dX5_number_28_8 : dz_C cX5_number [(40, .invokevirtual 78, 3), (43, .iload_n 1, 1), (44, .ireturn, 1), (45, .iconst 0, 1), (46, .istore_n 3, 1), (47, .aload_n 0, 1), (48, .getfield 15, 3), (51, .istore 4, 2)] := dk_dX5_number_28.2.2.2.2.2.2.2.2
theorem dX5_number_40 : decode cX5_number 40 = .ok (.invokevirtual 78, 3) := dk_dX5_number_28_8.1
theorem dX5_number_43 : decode cX5_number 43 = .ok (.iload_n 1, 1) := dk_dX5_number_28_8.2.1
theorem dX5_number_44 : decode cX5_number 44 = .ok (.ireturn, 1) := dk_dX5_number_28_8.2.2.1
theorem dX5_number_45 : decode cX5_number 45 = .ok (.iconst 0, 1) := dk_dX5_number_28_8.2.2.2.1
theorem dX5_number_46 : decode cX5_number 46 = .ok (.istore_n 3, 1) := dk_dX5_number_28_8.2.2.2.2.1
theorem dX5_number_47 : decode cX5_number 47 = .ok (.aload_n 0, 1) := dk_dX5_number_28_8.2.2.2.2.2.1
theorem dX5_number_48 : decode cX5_number 48 = .ok (.getfield 15, 3) := dk_dX5_number_28_8.2.2.2.2.2.2.1
theorem dX5_number_51 : decode cX5_number 51 = .ok (.istore 4, 2) := dk_dX5_number_28_8.2.2.2.2.2.2.2.1
theorem dk_dX5_number_53 : dz_C cX5_number [(53, .iload 4, 2), (55, .aload_n 0, 1), (56, .getfield 18, 3), (59, .if_icmp .ge 25, 3), (62, .iload_n 3, 1), (63, .bipush 10, 2), (65, .imul, 1), (66, .aload_n 0, 1), (67, .getfield 33, 3), (70, .iload 4, 2), (72, .iaload, 1), (73, .iadd, 1), (74, .bipush 48, 2), (76, .isub, 1), (77, .istore_n 3, 1), (78, .iinc 4 1, 3)] := dz_of (by decide +kernel)
theorem dX5_number_53 : decode cX5_number 53 = .ok (.iload 4, 2) := dk_dX5_number_53.1
theorem dX5_number_55 : decode cX5_number 55 = .ok (.aload_n 0, 1) := dk_dX5_number_53.2.1
theorem dX5_number_56 : decode cX5_number 56 = .ok (.getfield 18, 3) := dk_dX5_number_53.2.2.1
theorem dX5_number_59 : decode cX5_number 59 = .ok (.if_icmp .ge 25, 3) := dk_dX5_number_53.2.2.2.1
theorem dX5_number_62 : decode cX5_number 62 = .ok (.iload_n 3, 1) := dk_dX5_number_53.2.2.2.2.1
theorem dX5_number_63 : decode cX5_number 63 = .ok (.bipush 10, 2) := dk_dX5_number_53.2.2.2.2.2.1
theorem dX5_number_65 : decode cX5_number 65 = .ok (.imul, 1) := dk_dX5_number_53.2.2.2.2.2.2.1
theorem dX5_number_66 : decode cX5_number 66 = .ok (.aload_n 0, 1) := dk_dX5_number_53.2.2.2.2.2.2.2.1
theorem dk_dX5_number_53_8 : dz_C cX5_number [(67, .getfield 33, 3), (70, .iload 4, 2), (72, .iaload, 1), (73, .iadd, 1), (74, .bipush 48, 2), (76, .isub, 1), (77, .istore_n 3, 1), (78, .iinc 4 1, 3)] := dk_dX5_number_53.2.2.2.2.2.2.2.2
theorem dX5_number_67 : decode cX5_number 67 = .ok (.getfield 33, 3) := dk_dX5_number_53_8.1
theorem dX5_number_70 : decode cX5_number 70 = .ok (.iload 4, 2) := dk_dX5_number_53_8.2.1
theorem dX5_number_72 : decode cX5_number 72 = .ok (.iaload, 1) := dk_dX5_number_53_8.2.2.1
theorem dX5_number_73 : decode cX5_number 73 = .ok (.iadd, 1) := dk_dX5_number_53_8.2.2.2.1
theorem dX5_number_74 : decode cX5_number 74 = .ok (.bipush 48, 2) := dk_dX5_number_53_8.2.2.2.2.1
theorem dX5_number_76 : decode cX5_number 76 = .ok (.isub, 1) := dk_dX5_number_53_8.2.2.2.2.2.1
theorem dX5_number_77 : decode cX5_number 77 = .ok (.istore_n 3, 1) := dk_dX5_number_53_8.2.2.2.2.2.2.1
theorem dX5_number_78 : decode cX5_number 78 = .ok (.iinc 4 1, 3) := dk_dX5_number_53_8.2.2.2.2.2.2.2.1
theorem dk_dX5_number_81 : dz_C cX5_number [(81, .goto (-28), 3), (84, .iload_n 3, 1), (85, .iload_n 1, 1), (86, .if_icmp .lt 8, 3), (89, .iload_n 3, 1), (90, .iload_n 2, 1), (91, .if_icmp .le 14, 3), (94, .aload_n 0, 1), (95, .iconst 2, 1), (96, .aload_n 0, 1), (97, .getfield 15, 3), (100, .invokevirtual 78, 3), (103, .iload_n 1, 1), (104, .ireturn, 1), (105, .aload_n 0, 1), (106, .aload_n 0, 1)] := dz_of (by decide +kernel)
theorem dX5_number_81 : decode cX5_number 81 = .ok (.goto (-28), 3) := dk_dX5_number_81.1
theorem dX5_number_84 : decode cX5_number 84 = .ok (.iload_n 3, 1) := dk_dX5_number_81.2.1
theorem dX5_number_85 : decode cX5_number 85 = .ok (.iload_n 1, 1) := dk_dX5_number_81.2.2.1
theorem dX5_number_86 : decode cX5_number 86 = .ok (.if_icmp .lt 8, 3) := dk_dX5_number_81.2.2.2.1
theorem dX5_number_89 : decode cX5_number 89 = .ok (.iload_n 3, 1) := dk_dX5_number_81.2.2.2.2.1
theorem dX5_number_90 : decode cX5_number 90 = .ok (.iload_n 2, 1) := dk_dX5_number_81.2.2.2.2.2.1
theorem dX5_number_91 : decode cX5_number 91 = .ok (.if_icmp .le 14, 3) := dk_dX5_number_81.2.2.2.2.2.2.1
theorem dX5_number_94 : decode cX5_number 94 = .ok (.aload_n 0, 1) := dk_dX5_number_81.2.2.2.2.2.2.2.1
theorem dk_dX5_number_81_8 : dz_C cX5_number [(95, .iconst 2, 1), (96, .aload_n 0, 1), (97, .getfield 15, 3), (100, .invokevirtual 78, 3), (103, .iload_n 1, 1), (104, .ireturn, 1), (105, .aload_n 0, 1), (106, .aload_n 0, 1)] := dk_dX5_number_81.2.2.2.2.2.2.2.2
theorem dX5_number_95 : decode cX5_number 95 = .ok (.iconst 2, 1) := dk_dX5_number_81_8.1
theorem dX5_number_96 : decode cX5_number 96 = .ok (.aload_n 0, 1) := dk_dX5_number_81_8.2.1
theorem dX5_number_97 : decode cX5_number 97 = .ok (.getfield 15, 3) := dk_dX5_number_81_8.2.2.1
theorem dX5_number_100 : decode cX5_number 100 = .ok (.invokevirtual 78, 3) := dk_dX5_number_81_8.2.2.2.1
theorem dX5_number_103 : decode cX5_number 103 = .ok (.iload_n 1, 1) := dk_dX5_number_81_8.2.2.2.2.1
theorem dX5_number_104 : decode cX5_number 104 = .ok (.ireturn, 1) := dk_dX5_number_81_8.2.2.2.2.2.1
theorem dX5_number_105 : decode cX5_number 105 = .ok (.aload_n 0, 1) := dk_dX5_number_81_8.2.2.2.2.2.2.1
theorem dX5_number_106 : decode cX5_number 106 = .ok (.aload_n 0, 1) := dk_dX5_number_81_8.2.2.2.2.2.2.2.1
theorem dk_dX5_number_107 : dz_C cX5_number [(107, .getfield 18, 3), (110, .invokevirtual 86, 3), (113, .iload_n 3, 1), (114, .ireturn, 1)] := dz_of (by decide +kernel)
theorem dX5_number_107 : decode cX5_number 107 = .ok (.getfield 18, 3) := dk_dX5_number_107.1
theorem dX5_number_110 : decode cX5_number 110 = .ok (.invokevirtual 86, 3) := dk_dX5_number_107.2.1
theorem dX5_number_113 : decode cX5_number 113 = .ok (.iload_n 3, 1) := dk_dX5_number_107.2.2.1
theorem dX5_number_114 : decode cX5_number 114 = .ok (.ireturn, 1) := dk_dX5_number_107.2.2.2.1
theorem dk_dX5_numberBehind_0 : dz_C cX5_numberBehind [(0, .aload_n 0, 1), (1, .aload_n 1, 1), (2, .invokevirtual 144, 3), (5, .aload_n 0, 1), (6, .iload_n 2, 1), (7, .iload_n 3, 1), (8, .invokevirtual 168, 3), (11, .ireturn, 1)] := dz_of (by decide +kernel)
theorem dX5_numberBehind_0 : decode cX5_numberBehind 0 = .ok (.aload_n 0, 1) := dk_dX5_numberBehind_0.1
theorem dX5_numberBehind_1 : decode cX5_numberBehind 1 = .ok (.aload_n 1, 1) := dk_dX5_numberBehind_0.2.1
theorem dX5_numberBehind_2 : decode cX5_numberBehind 2 = .ok (.invokevirtual 144, 3) := dk_dX5_numberBehind_0.2.2.1
theorem dX5_numberBehind_5 : decode cX5_numberBehind 5 = .ok (.aload_n 0, 1) := dk_dX5_numberBehind_0.2.2.2.1
theorem dX5_numberBehind_6 : decode cX5_numberBehind 6 = .ok (.iload_n 2, 1) := dk_dX5_numberBehind_0.2.2.2.2.1
theorem dX5_numberBehind_7 : decode cX5_numberBehind 7 = .ok (.iload_n 3, 1) := dk_dX5_numberBehind_0.2.2.2.2.2.1
theorem dX5_numberBehind_8 : decode cX5_numberBehind 8 = .ok (.invokevirtual 168, 3) := dk_dX5_numberBehind_0.2.2.2.2.2.2.1
theorem dX5_numberBehind_11 : decode cX5_numberBehind 11 = .ok (.ireturn, 1) := dk_dX5_numberBehind_0.2.2.2.2.2.2.2.1
theorem dk_dX5_pair_0 : dz_C cX5_pair [(0, .aload_n 0, 1), (1, .bipush 40, 2), (3, .invokevirtual 213, 3), (6, .ifCond .ne 15, 3), (9, .aload_n 0, 1), (10, .iconst 1, 1), (11, .aload_n 0, 1), (12, .getfield 15, 3), (15, .invokevirtual 78, 3), (18, .goto 42, 3), (21, .aload_n 0, 1), (22, .iload_n 1, 1), (23, .invokevirtual 209, 3), (26, .ifCond .eq 34, 3), (29, .aload_n 0, 1), (30, .iload_n 1, 1)] := dz_of (by decide +kernel)
theorem dX5_pair_0 : decode cX5_pair 0 = .ok (.aload_n 0, 1) := dk_dX5_pair_0.1
theorem dX5_pair_1 : decode cX5_pair 1 = .ok (.bipush 40, 2) := dk_dX5_pair_0.2.1
theorem dX5_pair_3 : decode cX5_pair 3 = .ok (.invokevirtual 213, 3) := dk_dX5_pair_0.2.2.1
theorem dX5_pair_6 : decode cX5_pair 6 = .ok (.ifCond .ne 15, 3) := dk_dX5_pair_0.2.2.2.1
theorem dX5_pair_9 : decode cX5_pair 9 = .ok (.aload_n 0, 1) := dk_dX5_pair_0.2.2.2.2.1
theorem dX5_pair_10 : decode cX5_pair 10 = .ok (.iconst 1, 1) := dk_dX5_pair_0.2.2.2.2.2.1
theorem dX5_pair_11 : decode cX5_pair 11 = .ok (.aload_n 0, 1) := dk_dX5_pair_0.2.2.2.2.2.2.1
theorem dX5_pair_12 : decode cX5_pair 12 = .ok (.getfield 15, 3) := dk_dX5_pair_0.2.2.2.2.2.2.2.1
theorem dk_dX5_pair_0_8 : dz_C cX5_pair [(15, .invokevirtual 78, 3), (18, .goto 42, 3), (21, .aload_n 0, 1), (22, .iload_n 1, 1), (23, .invokevirtual 209, 3), (26, .ifCond .eq 34, 3), (29, .aload_n 0, 1), (30, .iload_n 1, 1)] := dk_dX5_pair_0.2.2.2.2.2.2.2.2
theorem dX5_pair_15 : decode cX5_pair 15 = .ok (.invokevirtual 78, 3) := dk_dX5_pair_0_8.1
theorem dX5_pair_18 : decode cX5_pair 18 = .ok (.goto 42, 3) := dk_dX5_pair_0_8.2.1
theorem dX5_pair_21 : decode cX5_pair 21 = .ok (.aload_n 0, 1) := dk_dX5_pair_0_8.2.2.1
theorem dX5_pair_22 : decode cX5_pair 22 = .ok (.iload_n 1, 1) := dk_dX5_pair_0_8.2.2.2.1
theorem dX5_pair_23 : decode cX5_pair 23 = .ok (.invokevirtual 209, 3) := dk_dX5_pair_0_8.2.2.2.2.1
theorem dX5_pair_26 : decode cX5_pair 26 = .ok (.ifCond .eq 34, 3) := dk_dX5_pair_0_8.2.2.2.2.2.1
theorem dX5_pair_29 : decode cX5_pair 29 = .ok (.aload_n 0, 1) := dk_dX5_pair_0_8.2.2.2.2.2.2.1
theorem dX5_pair_30 : decode cX5_pair 30 = .ok (.iload_n 1, 1) := dk_dX5_pair_0_8.2.2.2.2.2.2.2.1
theorem dk_dX5_pair_31 : dz_C cX5_pair [(31, .iconst 1, 1), (32, .iadd, 1), (33, .invokevirtual 93, 3), (36, .aload_n 0, 1), (37, .bipush 44, 2), (39, .invokevirtual 48, 3), (42, .aload_n 0, 1), (43, .iload_n 1, 1), (44, .iconst 1, 1), (45, .iadd, 1), (46, .invokevirtual 93, 3), (49, .aload_n 0, 1), (50, .bipush 41, 2), (52, .invokevirtual 48, 3), (55, .aload_n 0, 1), (56, .iload_n 2, 1)] := dz_of (by decide +kernel)
theorem dX5_pair_31 : decode cX5_pair 31 = .ok (.iconst 1, 1) := dk_dX5_pair_31.1
theorem dX5_pair_32 : decode cX5_pair 32 = .ok (.iadd, 1) := dk_dX5_pair_31.2.1
theorem dX5_pair_33 : decode cX5_pair 33 = .ok (.invokevirtual 93, 3) := dk_dX5_pair_31.2.2.1
theorem dX5_pair_36 : decode cX5_pair 36 = .ok (.aload_n 0, 1) := dk_dX5_pair_31.2.2.2.1
theorem dX5_pair_37 : decode cX5_pair 37 = .ok (.bipush 44, 2) := dk_dX5_pair_31.2.2.2.2.1
theorem dX5_pair_39 : decode cX5_pair 39 = .ok (.invokevirtual 48, 3) := dk_dX5_pair_31.2.2.2.2.2.1
theorem dX5_pair_42 : decode cX5_pair 42 = .ok (.aload_n 0, 1) := dk_dX5_pair_31.2.2.2.2.2.2.1
theorem dX5_pair_43 : decode cX5_pair 43 = .ok (.iload_n 1, 1) := dk_dX5_pair_31.2.2.2.2.2.2.2.1
theorem dk_dX5_pair_31_8 : dz_C cX5_pair [(44, .iconst 1, 1), (45, .iadd, 1), (46, .invokevirtual 93, 3), (49, .aload_n 0, 1), (50, .bipush 41, 2), (52, .invokevirtual 48, 3), (55, .aload_n 0, 1), (56, .iload_n 2, 1)] := dk_dX5_pair_31.2.2.2.2.2.2.2.2
theorem dX5_pair_44 : decode cX5_pair 44 = .ok (.iconst 1, 1) := dk_dX5_pair_31_8.1
theorem dX5_pair_45 : decode cX5_pair 45 = .ok (.iadd, 1) := dk_dX5_pair_31_8.2.1
theorem dX5_pair_46 : decode cX5_pair 46 = .ok (.invokevirtual 93, 3) := dk_dX5_pair_31_8.2.2.1
theorem dX5_pair_49 : decode cX5_pair 49 = .ok (.aload_n 0, 1) := dk_dX5_pair_31_8.2.2.2.1
theorem dX5_pair_50 : decode cX5_pair 50 = .ok (.bipush 41, 2) := dk_dX5_pair_31_8.2.2.2.2.1
theorem dX5_pair_52 : decode cX5_pair 52 = .ok (.invokevirtual 48, 3) := dk_dX5_pair_31_8.2.2.2.2.2.1
theorem dX5_pair_55 : decode cX5_pair 55 = .ok (.aload_n 0, 1) := dk_dX5_pair_31_8.2.2.2.2.2.2.1
theorem dX5_pair_56 : decode cX5_pair 56 = .ok (.iload_n 2, 1) := dk_dX5_pair_31_8.2.2.2.2.2.2.2.1
theorem dk_dX5_pair_57 : dz_C cX5_pair [(57, .invokevirtual 199, 3), (60, .return_, 1)] := dz_of (by decide +kernel)
theorem dX5_pair_57 : decode cX5_pair 57 = .ok (.invokevirtual 199, 3) := dk_dX5_pair_57.1
theorem dX5_pair_60 : decode cX5_pair 60 = .ok (.return_, 1) := dk_dX5_pair_57.2.1
theorem dk_dX5_part_0 : dz_C cX5_part [(0, .aload_n 0, 1), (1, .getfield 21, 3), (4, .iconst 2, 1), (5, .if_icmp .ne 18, 3), (8, .aload_n 0, 1), (9, .aload_n 0, 1), (10, .iconst 0, 1), (11, .sipush 9999, 3), (14, .invokevirtual 168, 3), (17, .invokevirtual 199, 3), (20, .goto 122, 3), (23, .aload_n 0, 1), (24, .bipush 40, 2), (26, .invokevirtual 213, 3), (29, .ifCond .eq 27, 3), (32, .aload_n 0, 1)] := dz_of (by decide +kernel)
theorem dX5_part_0 : decode cX5_part 0 = .ok (.aload_n 0, 1) := dk_dX5_part_0.1
theorem dX5_part_1 : decode cX5_part 1 = .ok (.getfield 21, 3) := dk_dX5_part_0.2.1
theorem dX5_part_4 : decode cX5_part 4 = .ok (.iconst 2, 1) := dk_dX5_part_0.2.2.1
theorem dX5_part_5 : decode cX5_part 5 = .ok (.if_icmp .ne 18, 3) := dk_dX5_part_0.2.2.2.1
theorem dX5_part_8 : decode cX5_part 8 = .ok (.aload_n 0, 1) := dk_dX5_part_0.2.2.2.2.1
theorem dX5_part_9 : decode cX5_part 9 = .ok (.aload_n 0, 1) := dk_dX5_part_0.2.2.2.2.2.1
theorem dX5_part_10 : decode cX5_part 10 = .ok (.iconst 0, 1) := dk_dX5_part_0.2.2.2.2.2.2.1
theorem dX5_part_11 : decode cX5_part 11 = .ok (.sipush 9999, 3) := dk_dX5_part_0.2.2.2.2.2.2.2.1
theorem dk_dX5_part_0_8 : dz_C cX5_part [(14, .invokevirtual 168, 3), (17, .invokevirtual 199, 3), (20, .goto 122, 3), (23, .aload_n 0, 1), (24, .bipush 40, 2), (26, .invokevirtual 213, 3), (29, .ifCond .eq 27, 3), (32, .aload_n 0, 1)] := dk_dX5_part_0.2.2.2.2.2.2.2.2
theorem dX5_part_14 : decode cX5_part 14 = .ok (.invokevirtual 168, 3) := dk_dX5_part_0_8.1
theorem dX5_part_17 : decode cX5_part 17 = .ok (.invokevirtual 199, 3) := dk_dX5_part_0_8.2.1
theorem dX5_part_20 : decode cX5_part 20 = .ok (.goto 122, 3) := dk_dX5_part_0_8.2.2.1
theorem dX5_part_23 : decode cX5_part 23 = .ok (.aload_n 0, 1) := dk_dX5_part_0_8.2.2.2.1
theorem dX5_part_24 : decode cX5_part 24 = .ok (.bipush 40, 2) := dk_dX5_part_0_8.2.2.2.2.1
theorem dX5_part_26 : decode cX5_part 26 = .ok (.invokevirtual 213, 3) := dk_dX5_part_0_8.2.2.2.2.2.1
theorem dX5_part_29 : decode cX5_part 29 = .ok (.ifCond .eq 27, 3) := dk_dX5_part_0_8.2.2.2.2.2.2.1
theorem dX5_part_32 : decode cX5_part 32 = .ok (.aload_n 0, 1) := dk_dX5_part_0_8.2.2.2.2.2.2.2.1
theorem dk_dX5_part_33 : dz_C cX5_part [(33, .iload_n 1, 1), (34, .invokevirtual 209, 3), (37, .ifCond .eq 105, 3), (40, .aload_n 0, 1), (41, .iload_n 1, 1), (42, .iconst 1, 1), (43, .iadd, 1), (44, .invokevirtual 93, 3), (47, .aload_n 0, 1), (48, .bipush 41, 2), (50, .invokevirtual 48, 3), (53, .goto 89, 3), (56, .aload_n 0, 1), (57, .ldc 228, 2), (59, .invokevirtual 195, 3), (62, .ifCond .eq 13, 3)] := dz_of (by decide +kernel)
theorem dX5_part_33 : decode cX5_part 33 = .ok (.iload_n 1, 1) := dk_dX5_part_33.1
theorem dX5_part_34 : decode cX5_part 34 = .ok (.invokevirtual 209, 3) := dk_dX5_part_33.2.1
theorem dX5_part_37 : decode cX5_part 37 = .ok (.ifCond .eq 105, 3) := dk_dX5_part_33.2.2.1
theorem dX5_part_40 : decode cX5_part 40 = .ok (.aload_n 0, 1) := dk_dX5_part_33.2.2.2.1
theorem dX5_part_41 : decode cX5_part 41 = .ok (.iload_n 1, 1) := dk_dX5_part_33.2.2.2.2.1
theorem dX5_part_42 : decode cX5_part 42 = .ok (.iconst 1, 1) := dk_dX5_part_33.2.2.2.2.2.1
theorem dX5_part_43 : decode cX5_part 43 = .ok (.iadd, 1) := dk_dX5_part_33.2.2.2.2.2.2.1
theorem dX5_part_44 : decode cX5_part 44 = .ok (.invokevirtual 93, 3) := dk_dX5_part_33.2.2.2.2.2.2.2.1
theorem dk_dX5_part_33_8 : dz_C cX5_part [(47, .aload_n 0, 1), (48, .bipush 41, 2), (50, .invokevirtual 48, 3), (53, .goto 89, 3), (56, .aload_n 0, 1), (57, .ldc 228, 2), (59, .invokevirtual 195, 3), (62, .ifCond .eq 13, 3)] := dk_dX5_part_33.2.2.2.2.2.2.2.2
theorem dX5_part_47 : decode cX5_part 47 = .ok (.aload_n 0, 1) := dk_dX5_part_33_8.1
theorem dX5_part_48 : decode cX5_part 48 = .ok (.bipush 41, 2) := dk_dX5_part_33_8.2.1
theorem dX5_part_50 : decode cX5_part 50 = .ok (.invokevirtual 48, 3) := dk_dX5_part_33_8.2.2.1
theorem dX5_part_53 : decode cX5_part 53 = .ok (.goto 89, 3) := dk_dX5_part_33_8.2.2.2.1
theorem dX5_part_56 : decode cX5_part 56 = .ok (.aload_n 0, 1) := dk_dX5_part_33_8.2.2.2.2.1
theorem dX5_part_57 : decode cX5_part 57 = .ok (.ldc 228, 2) := dk_dX5_part_33_8.2.2.2.2.2.1
theorem dX5_part_59 : decode cX5_part 59 = .ok (.invokevirtual 195, 3) := dk_dX5_part_33_8.2.2.2.2.2.2.1
theorem dX5_part_62 : decode cX5_part 62 = .ok (.ifCond .eq 13, 3) := dk_dX5_part_33_8.2.2.2.2.2.2.2.1
theorem dk_dX5_part_65 : dz_C cX5_part [(65, .aload_n 0, 1), (66, .iload_n 1, 1), (67, .bipush (-24), 2), (69, .invokevirtual 229, 3), (72, .goto 70, 3), (75, .aload_n 0, 1), (76, .ldc 232, 2), (78, .invokevirtual 195, 3), (81, .ifCond .eq 13, 3), (84, .aload_n 0, 1), (85, .iload_n 1, 1), (86, .bipush (-25), 2), (88, .invokevirtual 229, 3), (91, .goto 51, 3), (94, .aload_n 0, 1), (95, .getfield 24, 3)] := dz_of (by decide +kernel)
theorem dX5_part_65 : decode cX5_part 65 = .ok (.aload_n 0, 1) := dk_dX5_part_65.1
theorem dX5_part_66 : decode cX5_part 66 = .ok (.iload_n 1, 1) := dk_dX5_part_65.2.1
theorem dX5_part_67 : decode cX5_part 67 = .ok (.bipush (-24), 2) := dk_dX5_part_65.2.2.1
theorem dX5_part_69 : decode cX5_part 69 = .ok (.invokevirtual 229, 3) := dk_dX5_part_65.2.2.2.1
theorem dX5_part_72 : decode cX5_part 72 = .ok (.goto 70, 3) := dk_dX5_part_65.2.2.2.2.1
theorem dX5_part_75 : decode cX5_part 75 = .ok (.aload_n 0, 1) := dk_dX5_part_65.2.2.2.2.2.1
theorem dX5_part_76 : decode cX5_part 76 = .ok (.ldc 232, 2) := dk_dX5_part_65.2.2.2.2.2.2.1
theorem dX5_part_78 : decode cX5_part 78 = .ok (.invokevirtual 195, 3) := dk_dX5_part_65.2.2.2.2.2.2.2.1
theorem dk_dX5_part_65_8 : dz_C cX5_part [(81, .ifCond .eq 13, 3), (84, .aload_n 0, 1), (85, .iload_n 1, 1), (86, .bipush (-25), 2), (88, .invokevirtual 229, 3), (91, .goto 51, 3), (94, .aload_n 0, 1), (95, .getfield 24, 3)] := dk_dX5_part_65.2.2.2.2.2.2.2.2
theorem dX5_part_81 : decode cX5_part 81 = .ok (.ifCond .eq 13, 3) := dk_dX5_part_65_8.1
theorem dX5_part_84 : decode cX5_part 84 = .ok (.aload_n 0, 1) := dk_dX5_part_65_8.2.1
theorem dX5_part_85 : decode cX5_part 85 = .ok (.iload_n 1, 1) := dk_dX5_part_65_8.2.2.1
theorem dX5_part_86 : decode cX5_part 86 = .ok (.bipush (-25), 2) := dk_dX5_part_65_8.2.2.2.1
theorem dX5_part_88 : decode cX5_part 88 = .ok (.invokevirtual 229, 3) := dk_dX5_part_65_8.2.2.2.2.1
theorem dX5_part_91 : decode cX5_part 91 = .ok (.goto 51, 3) := dk_dX5_part_65_8.2.2.2.2.2.1
theorem dX5_part_94 : decode cX5_part 94 = .ok (.aload_n 0, 1) := dk_dX5_part_65_8.2.2.2.2.2.2.1
theorem dX5_part_95 : decode cX5_part 95 = .ok (.getfield 24, 3) := dk_dX5_part_65_8.2.2.2.2.2.2.2.1
theorem dk_dX5_part_98 : dz_C cX5_part [(98, .sipush 3707, 3), (101, .if_icmp .ne 37, 3), (104, .aload_n 0, 1), (105, .ldc 234, 2), (107, .invokevirtual 54, 3), (110, .iconst (-1), 1), (111, .if_icmp .eq 27, 3), (114, .aload_n 0, 1), (115, .iload_n 1, 1), (116, .invokevirtual 209, 3), (119, .ifCond .eq 23, 3), (122, .aload_n 0, 1), (123, .iload_n 1, 1), (124, .iconst 1, 1), (125, .iadd, 1), (126, .invokevirtual 225, 3)] := dz_of (by decide +kernel)
theorem dX5_part_98 : decode cX5_part 98 = .ok (.sipush 3707, 3) := dk_dX5_part_98.1
theorem dX5_part_101 : decode cX5_part 101 = .ok (.if_icmp .ne 37, 3) := dk_dX5_part_98.2.1
theorem dX5_part_104 : decode cX5_part 104 = .ok (.aload_n 0, 1) := dk_dX5_part_98.2.2.1
theorem dX5_part_105 : decode cX5_part 105 = .ok (.ldc 234, 2) := dk_dX5_part_98.2.2.2.1
theorem dX5_part_107 : decode cX5_part 107 = .ok (.invokevirtual 54, 3) := dk_dX5_part_98.2.2.2.2.1
theorem dX5_part_110 : decode cX5_part 110 = .ok (.iconst (-1), 1) := dk_dX5_part_98.2.2.2.2.2.1
theorem dX5_part_111 : decode cX5_part 111 = .ok (.if_icmp .eq 27, 3) := dk_dX5_part_98.2.2.2.2.2.2.1
theorem dX5_part_114 : decode cX5_part 114 = .ok (.aload_n 0, 1) := dk_dX5_part_98.2.2.2.2.2.2.2.1
theorem dk_dX5_part_98_8 : dz_C cX5_part [(115, .iload_n 1, 1), (116, .invokevirtual 209, 3), (119, .ifCond .eq 23, 3), (122, .aload_n 0, 1), (123, .iload_n 1, 1), (124, .iconst 1, 1), (125, .iadd, 1), (126, .invokevirtual 225, 3)] := dk_dX5_part_98.2.2.2.2.2.2.2.2
theorem dX5_part_115 : decode cX5_part 115 = .ok (.iload_n 1, 1) := dk_dX5_part_98_8.1
theorem dX5_part_116 : decode cX5_part 116 = .ok (.invokevirtual 209, 3) := dk_dX5_part_98_8.2.1
theorem dX5_part_119 : decode cX5_part 119 = .ok (.ifCond .eq 23, 3) := dk_dX5_part_98_8.2.2.1
theorem dX5_part_122 : decode cX5_part 122 = .ok (.aload_n 0, 1) := dk_dX5_part_98_8.2.2.2.1
theorem dX5_part_123 : decode cX5_part 123 = .ok (.iload_n 1, 1) := dk_dX5_part_98_8.2.2.2.2.1
theorem dX5_part_124 : decode cX5_part 124 = .ok (.iconst 1, 1) := dk_dX5_part_98_8.2.2.2.2.2.1
theorem dX5_part_125 : decode cX5_part 125 = .ok (.iadd, 1) := dk_dX5_part_98_8.2.2.2.2.2.2.1
theorem dX5_part_126 : decode cX5_part 126 = .ok (.invokevirtual 225, 3) := dk_dX5_part_98_8.2.2.2.2.2.2.2.1
theorem dk_dX5_part_129 : dz_C cX5_part [(129, .aload_n 0, 1), (130, .bipush (-32), 2), (132, .invokevirtual 199, 3), (135, .goto 7, 3), (138, .aload_n 0, 1), (139, .invokevirtual 236, 3), (142, .return_, 1)] := dz_of (by decide +kernel)
theorem dX5_part_129 : decode cX5_part 129 = .ok (.aload_n 0, 1) := dk_dX5_part_129.1
theorem dX5_part_130 : decode cX5_part 130 = .ok (.bipush (-32), 2) := dk_dX5_part_129.2.1
theorem dX5_part_132 : decode cX5_part 132 = .ok (.invokevirtual 199, 3) := dk_dX5_part_129.2.2.1
theorem dX5_part_135 : decode cX5_part 135 = .ok (.goto 7, 3) := dk_dX5_part_129.2.2.2.1
theorem dX5_part_138 : decode cX5_part 138 = .ok (.aload_n 0, 1) := dk_dX5_part_129.2.2.2.2.1
theorem dX5_part_139 : decode cX5_part 139 = .ok (.invokevirtual 236, 3) := dk_dX5_part_129.2.2.2.2.2.1
theorem dX5_part_142 : decode cX5_part 142 = .ok (.return_, 1) := dk_dX5_part_129.2.2.2.2.2.2.1
theorem dk_dX5_partWord_0 : dz_C cX5_partWord [(0, .aload_n 0, 1), (1, .ldc 239, 2), (3, .invokevirtual 54, 3), (6, .istore_n 1, 1), (7, .iload_n 1, 1), (8, .iconst (-1), 1), (9, .if_icmp .eq 14, 3), (12, .aload_n 0, 1), (13, .getfield 24, 3), (16, .iload_n 1, 1), (17, .ishr, 1), (18, .iconst 1, 1), (19, .iand, 1), (20, .ifCond .ne 15, 3), (23, .aload_n 0, 1), (24, .iconst 1, 1)] := dz_of (by decide +kernel)
theorem dX5_partWord_0 : decode cX5_partWord 0 = .ok (.aload_n 0, 1) := dk_dX5_partWord_0.1
theorem dX5_partWord_1 : decode cX5_partWord 1 = .ok (.ldc 239, 2) := dk_dX5_partWord_0.2.1
theorem dX5_partWord_3 : decode cX5_partWord 3 = .ok (.invokevirtual 54, 3) := dk_dX5_partWord_0.2.2.1
theorem dX5_partWord_6 : decode cX5_partWord 6 = .ok (.istore_n 1, 1) := dk_dX5_partWord_0.2.2.2.1
theorem dX5_partWord_7 : decode cX5_partWord 7 = .ok (.iload_n 1, 1) := dk_dX5_partWord_0.2.2.2.2.1
theorem dX5_partWord_8 : decode cX5_partWord 8 = .ok (.iconst (-1), 1) := dk_dX5_partWord_0.2.2.2.2.2.1
theorem dX5_partWord_9 : decode cX5_partWord 9 = .ok (.if_icmp .eq 14, 3) := dk_dX5_partWord_0.2.2.2.2.2.2.1
theorem dX5_partWord_12 : decode cX5_partWord 12 = .ok (.aload_n 0, 1) := dk_dX5_partWord_0.2.2.2.2.2.2.2.1
theorem dk_dX5_partWord_0_8 : dz_C cX5_partWord [(13, .getfield 24, 3), (16, .iload_n 1, 1), (17, .ishr, 1), (18, .iconst 1, 1), (19, .iand, 1), (20, .ifCond .ne 15, 3), (23, .aload_n 0, 1), (24, .iconst 1, 1)] := dk_dX5_partWord_0.2.2.2.2.2.2.2.2
theorem dX5_partWord_13 : decode cX5_partWord 13 = .ok (.getfield 24, 3) := dk_dX5_partWord_0_8.1
theorem dX5_partWord_16 : decode cX5_partWord 16 = .ok (.iload_n 1, 1) := dk_dX5_partWord_0_8.2.1
theorem dX5_partWord_17 : decode cX5_partWord 17 = .ok (.ishr, 1) := dk_dX5_partWord_0_8.2.2.1
theorem dX5_partWord_18 : decode cX5_partWord 18 = .ok (.iconst 1, 1) := dk_dX5_partWord_0_8.2.2.2.1
theorem dX5_partWord_19 : decode cX5_partWord 19 = .ok (.iand, 1) := dk_dX5_partWord_0_8.2.2.2.2.1
theorem dX5_partWord_20 : decode cX5_partWord 20 = .ok (.ifCond .ne 15, 3) := dk_dX5_partWord_0_8.2.2.2.2.2.1
theorem dX5_partWord_23 : decode cX5_partWord 23 = .ok (.aload_n 0, 1) := dk_dX5_partWord_0_8.2.2.2.2.2.2.1
theorem dX5_partWord_24 : decode cX5_partWord 24 = .ok (.iconst 1, 1) := dk_dX5_partWord_0_8.2.2.2.2.2.2.2.1
theorem dk_dX5_partWord_25 : dz_C cX5_partWord [(25, .aload_n 0, 1), (26, .getfield 15, 3), (29, .invokevirtual 78, 3), (32, .goto 18, 3), (35, .aload_n 0, 1), (36, .aload_n 0, 1), (37, .getfield 18, 3), (40, .invokevirtual 86, 3), (43, .aload_n 0, 1), (44, .iconst (-1), 1), (45, .iload_n 1, 1), (46, .isub, 1), (47, .invokevirtual 199, 3), (50, .return_, 1)] := dz_of (by decide +kernel)
theorem dX5_partWord_25 : decode cX5_partWord 25 = .ok (.aload_n 0, 1) := dk_dX5_partWord_25.1
theorem dX5_partWord_26 : decode cX5_partWord 26 = .ok (.getfield 15, 3) := dk_dX5_partWord_25.2.1
theorem dX5_partWord_29 : decode cX5_partWord 29 = .ok (.invokevirtual 78, 3) := dk_dX5_partWord_25.2.2.1
theorem dX5_partWord_32 : decode cX5_partWord 32 = .ok (.goto 18, 3) := dk_dX5_partWord_25.2.2.2.1
theorem dX5_partWord_35 : decode cX5_partWord 35 = .ok (.aload_n 0, 1) := dk_dX5_partWord_25.2.2.2.2.1
theorem dX5_partWord_36 : decode cX5_partWord 36 = .ok (.aload_n 0, 1) := dk_dX5_partWord_25.2.2.2.2.2.1
theorem dX5_partWord_37 : decode cX5_partWord 37 = .ok (.getfield 18, 3) := dk_dX5_partWord_25.2.2.2.2.2.2.1
theorem dX5_partWord_40 : decode cX5_partWord 40 = .ok (.invokevirtual 86, 3) := dk_dX5_partWord_25.2.2.2.2.2.2.2.1
theorem dk_dX5_partWord_25_8 : dz_C cX5_partWord [(43, .aload_n 0, 1), (44, .iconst (-1), 1), (45, .iload_n 1, 1), (46, .isub, 1), (47, .invokevirtual 199, 3), (50, .return_, 1)] := dk_dX5_partWord_25.2.2.2.2.2.2.2.2
theorem dX5_partWord_43 : decode cX5_partWord 43 = .ok (.aload_n 0, 1) := dk_dX5_partWord_25_8.1
theorem dX5_partWord_44 : decode cX5_partWord 44 = .ok (.iconst (-1), 1) := dk_dX5_partWord_25_8.2.1
theorem dX5_partWord_45 : decode cX5_partWord 45 = .ok (.iload_n 1, 1) := dk_dX5_partWord_25_8.2.2.1
theorem dX5_partWord_46 : decode cX5_partWord 46 = .ok (.isub, 1) := dk_dX5_partWord_25_8.2.2.2.1
theorem dX5_partWord_47 : decode cX5_partWord 47 = .ok (.invokevirtual 199, 3) := dk_dX5_partWord_25_8.2.2.2.2.1
theorem dX5_partWord_50 : decode cX5_partWord 50 = .ok (.return_, 1) := dk_dX5_partWord_25_8.2.2.2.2.2.1
theorem dk_dX5_product_0 : dz_C cX5_product [(0, .aload_n 0, 1), (1, .iload_n 1, 1), (2, .invokevirtual 225, 3), (5, .iconst 0, 1), (6, .istore_n 2, 1), (7, .iload_n 2, 1), (8, .sipush 1600, 3), (11, .if_icmp .ge 62, 3), (14, .aload_n 0, 1), (15, .bipush 42, 2), (17, .invokevirtual 213, 3), (20, .ifCond .ne 12, 3), (23, .aload_n 0, 1), (24, .bipush 47, 2), (26, .invokevirtual 213, 3), (29, .ifCond .eq 44, 3)] := dz_of (by decide +kernel)
theorem dX5_product_0 : decode cX5_product 0 = .ok (.aload_n 0, 1) := dk_dX5_product_0.1
theorem dX5_product_1 : decode cX5_product 1 = .ok (.iload_n 1, 1) := dk_dX5_product_0.2.1
theorem dX5_product_2 : decode cX5_product 2 = .ok (.invokevirtual 225, 3) := dk_dX5_product_0.2.2.1
theorem dX5_product_5 : decode cX5_product 5 = .ok (.iconst 0, 1) := dk_dX5_product_0.2.2.2.1
theorem dX5_product_6 : decode cX5_product 6 = .ok (.istore_n 2, 1) := dk_dX5_product_0.2.2.2.2.1
theorem dX5_product_7 : decode cX5_product 7 = .ok (.iload_n 2, 1) := dk_dX5_product_0.2.2.2.2.2.1
theorem dX5_product_8 : decode cX5_product 8 = .ok (.sipush 1600, 3) := dk_dX5_product_0.2.2.2.2.2.2.1
theorem dX5_product_11 : decode cX5_product 11 = .ok (.if_icmp .ge 62, 3) := dk_dX5_product_0.2.2.2.2.2.2.2.1
theorem dk_dX5_product_0_8 : dz_C cX5_product [(14, .aload_n 0, 1), (15, .bipush 42, 2), (17, .invokevirtual 213, 3), (20, .ifCond .ne 12, 3), (23, .aload_n 0, 1), (24, .bipush 47, 2), (26, .invokevirtual 213, 3), (29, .ifCond .eq 44, 3)] := dk_dX5_product_0.2.2.2.2.2.2.2.2
theorem dX5_product_14 : decode cX5_product 14 = .ok (.aload_n 0, 1) := dk_dX5_product_0_8.1
theorem dX5_product_15 : decode cX5_product 15 = .ok (.bipush 42, 2) := dk_dX5_product_0_8.2.1
theorem dX5_product_17 : decode cX5_product 17 = .ok (.invokevirtual 213, 3) := dk_dX5_product_0_8.2.2.1
theorem dX5_product_20 : decode cX5_product 20 = .ok (.ifCond .ne 12, 3) := dk_dX5_product_0_8.2.2.2.1
theorem dX5_product_23 : decode cX5_product 23 = .ok (.aload_n 0, 1) := dk_dX5_product_0_8.2.2.2.2.1
theorem dX5_product_24 : decode cX5_product 24 = .ok (.bipush 47, 2) := dk_dX5_product_0_8.2.2.2.2.2.1
theorem dX5_product_26 : decode cX5_product 26 = .ok (.invokevirtual 213, 3) := dk_dX5_product_0_8.2.2.2.2.2.2.1
theorem dX5_product_29 : decode cX5_product 29 = .ok (.ifCond .eq 44, 3) := dk_dX5_product_0_8.2.2.2.2.2.2.2.1
theorem dk_dX5_product_32 : dz_C cX5_product [(32, .aload_n 0, 1), (33, .bipush 42, 2), (35, .invokevirtual 213, 3), (38, .ifCond .eq 8, 3), (41, .bipush (-22), 2), (43, .goto 5, 3), (46, .bipush (-23), 2), (48, .istore_n 3, 1), (49, .aload_n 0, 1), (50, .aload_n 0, 1), (51, .getfield 18, 3), (54, .invokevirtual 86, 3), (57, .aload_n 0, 1), (58, .iload_n 1, 1), (59, .invokevirtual 225, 3), (62, .aload_n 0, 1)] := dz_of (by decide +kernel)
theorem dX5_product_32 : decode cX5_product 32 = .ok (.aload_n 0, 1) := dk_dX5_product_32.1
theorem dX5_product_33 : decode cX5_product 33 = .ok (.bipush 42, 2) := dk_dX5_product_32.2.1
theorem dX5_product_35 : decode cX5_product 35 = .ok (.invokevirtual 213, 3) := dk_dX5_product_32.2.2.1
theorem dX5_product_38 : decode cX5_product 38 = .ok (.ifCond .eq 8, 3) := dk_dX5_product_32.2.2.2.1
theorem dX5_product_41 : decode cX5_product 41 = .ok (.bipush (-22), 2) := dk_dX5_product_32.2.2.2.2.1
theorem dX5_product_43 : decode cX5_product 43 = .ok (.goto 5, 3) := dk_dX5_product_32.2.2.2.2.2.1
theorem dX5_product_46 : decode cX5_product 46 = .ok (.bipush (-23), 2) := dk_dX5_product_32.2.2.2.2.2.2.1
theorem dX5_product_48 : decode cX5_product 48 = .ok (.istore_n 3, 1) := dk_dX5_product_32.2.2.2.2.2.2.2.1
theorem dk_dX5_product_32_8 : dz_C cX5_product [(49, .aload_n 0, 1), (50, .aload_n 0, 1), (51, .getfield 18, 3), (54, .invokevirtual 86, 3), (57, .aload_n 0, 1), (58, .iload_n 1, 1), (59, .invokevirtual 225, 3), (62, .aload_n 0, 1)] := dk_dX5_product_32.2.2.2.2.2.2.2.2
theorem dX5_product_49 : decode cX5_product 49 = .ok (.aload_n 0, 1) := dk_dX5_product_32_8.1
theorem dX5_product_50 : decode cX5_product 50 = .ok (.aload_n 0, 1) := dk_dX5_product_32_8.2.1
theorem dX5_product_51 : decode cX5_product 51 = .ok (.getfield 18, 3) := dk_dX5_product_32_8.2.2.1
theorem dX5_product_54 : decode cX5_product 54 = .ok (.invokevirtual 86, 3) := dk_dX5_product_32_8.2.2.2.1
theorem dX5_product_57 : decode cX5_product 57 = .ok (.aload_n 0, 1) := dk_dX5_product_32_8.2.2.2.2.1
theorem dX5_product_58 : decode cX5_product 58 = .ok (.iload_n 1, 1) := dk_dX5_product_32_8.2.2.2.2.2.1
theorem dX5_product_59 : decode cX5_product 59 = .ok (.invokevirtual 225, 3) := dk_dX5_product_32_8.2.2.2.2.2.2.1
theorem dX5_product_62 : decode cX5_product 62 = .ok (.aload_n 0, 1) := dk_dX5_product_32_8.2.2.2.2.2.2.2.1
theorem dk_dX5_product_63 : dz_C cX5_product [(63, .iload_n 3, 1), (64, .invokevirtual 199, 3), (67, .iinc 2 1, 3), (70, .goto (-63), 3), (73, .return_, 1)] := dz_of (by decide +kernel)
theorem dX5_product_63 : decode cX5_product 63 = .ok (.iload_n 3, 1) := dk_dX5_product_63.1
theorem dX5_product_64 : decode cX5_product 64 = .ok (.invokevirtual 199, 3) := dk_dX5_product_63.2.1
theorem dX5_product_67 : decode cX5_product 67 = .ok (.iinc 2 1, 3) := dk_dX5_product_63.2.2.1
theorem dX5_product_70 : decode cX5_product 70 = .ok (.goto (-63), 3) := dk_dX5_product_63.2.2.2.1
theorem dX5_product_73 : decode cX5_product 73 = .ok (.return_, 1) := dk_dX5_product_63.2.2.2.2.1
theorem dk_dX5_readCrossing_0 : dz_C cX5_readCrossing [(0, .aload_n 0, 1), (1, .aload_n 1, 1), (2, .iload_n 2, 1), (3, .invokevirtual 41, 3), (6, .aload_n 0, 1), (7, .invokevirtual 45, 3), (10, .aload_n 0, 1), (11, .bipush 59, 2), (13, .invokevirtual 48, 3), (16, .iconst 1, 1), (17, .istore_n 3, 1), (18, .aload_n 0, 1), (19, .getfield 21, 3), (22, .ifCond .eq 136, 3), (25, .iload_n 3, 1), (26, .bipush 80, 2)] := dz_of (by decide +kernel)
theorem dX5_readCrossing_0 : decode cX5_readCrossing 0 = .ok (.aload_n 0, 1) := dk_dX5_readCrossing_0.1
theorem dX5_readCrossing_1 : decode cX5_readCrossing 1 = .ok (.aload_n 1, 1) := dk_dX5_readCrossing_0.2.1
theorem dX5_readCrossing_2 : decode cX5_readCrossing 2 = .ok (.iload_n 2, 1) := dk_dX5_readCrossing_0.2.2.1
theorem dX5_readCrossing_3 : decode cX5_readCrossing 3 = .ok (.invokevirtual 41, 3) := dk_dX5_readCrossing_0.2.2.2.1
theorem dX5_readCrossing_6 : decode cX5_readCrossing 6 = .ok (.aload_n 0, 1) := dk_dX5_readCrossing_0.2.2.2.2.1
theorem dX5_readCrossing_7 : decode cX5_readCrossing 7 = .ok (.invokevirtual 45, 3) := dk_dX5_readCrossing_0.2.2.2.2.2.1
theorem dX5_readCrossing_10 : decode cX5_readCrossing 10 = .ok (.aload_n 0, 1) := dk_dX5_readCrossing_0.2.2.2.2.2.2.1
theorem dX5_readCrossing_11 : decode cX5_readCrossing 11 = .ok (.bipush 59, 2) := dk_dX5_readCrossing_0.2.2.2.2.2.2.2.1
theorem dk_dX5_readCrossing_0_8 : dz_C cX5_readCrossing [(13, .invokevirtual 48, 3), (16, .iconst 1, 1), (17, .istore_n 3, 1), (18, .aload_n 0, 1), (19, .getfield 21, 3), (22, .ifCond .eq 136, 3), (25, .iload_n 3, 1), (26, .bipush 80, 2)] := dk_dX5_readCrossing_0.2.2.2.2.2.2.2.2
theorem dX5_readCrossing_13 : decode cX5_readCrossing 13 = .ok (.invokevirtual 48, 3) := dk_dX5_readCrossing_0_8.1
theorem dX5_readCrossing_16 : decode cX5_readCrossing 16 = .ok (.iconst 1, 1) := dk_dX5_readCrossing_0_8.2.1
theorem dX5_readCrossing_17 : decode cX5_readCrossing 17 = .ok (.istore_n 3, 1) := dk_dX5_readCrossing_0_8.2.2.1
theorem dX5_readCrossing_18 : decode cX5_readCrossing 18 = .ok (.aload_n 0, 1) := dk_dX5_readCrossing_0_8.2.2.2.1
theorem dX5_readCrossing_19 : decode cX5_readCrossing 19 = .ok (.getfield 21, 3) := dk_dX5_readCrossing_0_8.2.2.2.2.1
theorem dX5_readCrossing_22 : decode cX5_readCrossing 22 = .ok (.ifCond .eq 136, 3) := dk_dX5_readCrossing_0_8.2.2.2.2.2.1
theorem dX5_readCrossing_25 : decode cX5_readCrossing 25 = .ok (.iload_n 3, 1) := dk_dX5_readCrossing_0_8.2.2.2.2.2.2.1
theorem dX5_readCrossing_26 : decode cX5_readCrossing 26 = .ok (.bipush 80, 2) := dk_dX5_readCrossing_0_8.2.2.2.2.2.2.2.1
theorem dk_dX5_readCrossing_28 : dz_C cX5_readCrossing [(28, .if_icmp .ge 130, 3), (31, .aload_n 0, 1), (32, .ldc 52, 2), (34, .invokevirtual 54, 3), (76, .aload_n 0, 1), (77, .invokevirtual 58, 3), (80, .goto 66, 3), (83, .aload_n 0, 1), (84, .invokevirtual 61, 3), (87, .goto 59, 3), (90, .aload_n 0, 1), (91, .iconst 0, 1), (92, .bipush 7, 2), (94, .invokevirtual 64, 3), (97, .goto 49, 3), (100, .aload_n 0, 1)] := dz_of (by decide +kernel)
theorem dX5_readCrossing_28 : decode cX5_readCrossing 28 = .ok (.if_icmp .ge 130, 3) := dk_dX5_readCrossing_28.1
theorem dX5_readCrossing_31 : decode cX5_readCrossing 31 = .ok (.aload_n 0, 1) := dk_dX5_readCrossing_28.2.1
theorem dX5_readCrossing_32 : decode cX5_readCrossing 32 = .ok (.ldc 52, 2) := dk_dX5_readCrossing_28.2.2.1
theorem dX5_readCrossing_34 : decode cX5_readCrossing 34 = .ok (.invokevirtual 54, 3) := dk_dX5_readCrossing_28.2.2.2.1
theorem dX5_readCrossing_76 : decode cX5_readCrossing 76 = .ok (.aload_n 0, 1) := dk_dX5_readCrossing_28.2.2.2.2.1
theorem dX5_readCrossing_77 : decode cX5_readCrossing 77 = .ok (.invokevirtual 58, 3) := dk_dX5_readCrossing_28.2.2.2.2.2.1
theorem dX5_readCrossing_80 : decode cX5_readCrossing 80 = .ok (.goto 66, 3) := dk_dX5_readCrossing_28.2.2.2.2.2.2.1
theorem dX5_readCrossing_83 : decode cX5_readCrossing 83 = .ok (.aload_n 0, 1) := dk_dX5_readCrossing_28.2.2.2.2.2.2.2.1
theorem dk_dX5_readCrossing_28_8 : dz_C cX5_readCrossing [(84, .invokevirtual 61, 3), (87, .goto 59, 3), (90, .aload_n 0, 1), (91, .iconst 0, 1), (92, .bipush 7, 2), (94, .invokevirtual 64, 3), (97, .goto 49, 3), (100, .aload_n 0, 1)] := dk_dX5_readCrossing_28.2.2.2.2.2.2.2.2
theorem dX5_readCrossing_84 : decode cX5_readCrossing 84 = .ok (.invokevirtual 61, 3) := dk_dX5_readCrossing_28_8.1
theorem dX5_readCrossing_87 : decode cX5_readCrossing 87 = .ok (.goto 59, 3) := dk_dX5_readCrossing_28_8.2.1
theorem dX5_readCrossing_90 : decode cX5_readCrossing 90 = .ok (.aload_n 0, 1) := dk_dX5_readCrossing_28_8.2.2.1
theorem dX5_readCrossing_91 : decode cX5_readCrossing 91 = .ok (.iconst 0, 1) := dk_dX5_readCrossing_28_8.2.2.2.1
theorem dX5_readCrossing_92 : decode cX5_readCrossing 92 = .ok (.bipush 7, 2) := dk_dX5_readCrossing_28_8.2.2.2.2.1
theorem dX5_readCrossing_94 : decode cX5_readCrossing 94 = .ok (.invokevirtual 64, 3) := dk_dX5_readCrossing_28_8.2.2.2.2.2.1
theorem dX5_readCrossing_97 : decode cX5_readCrossing 97 = .ok (.goto 49, 3) := dk_dX5_readCrossing_28_8.2.2.2.2.2.2.1
theorem dX5_readCrossing_100 : decode cX5_readCrossing 100 = .ok (.aload_n 0, 1) := dk_dX5_readCrossing_28_8.2.2.2.2.2.2.2.1
theorem dX5_readCrossing_37 : decode cX5_readCrossing 37 = .ok (.tableswitch 100 0 5 #[39, 46, 53, 63, 74, 84], 39) := by decide +kernel
theorem dk_dX5_readCrossing_101 : dz_C cX5_readCrossing [(101, .iconst 2, 1), (102, .sipush 507, 3), (105, .invokevirtual 64, 3), (108, .goto 38, 3), (111, .aload_n 0, 1), (112, .iconst 4, 1), (113, .bipush 123, 2), (115, .invokevirtual 64, 3), (118, .goto 28, 3), (121, .aload_n 1, 1), (122, .aload_n 0, 1), (123, .ldc 68, 2), (125, .iconst 0, 1), (126, .bipush 100, 2), (128, .invokevirtual 70, 3), (131, .putfield 74, 3)] := dz_of (by decide +kernel)
theorem dX5_readCrossing_101 : decode cX5_readCrossing 101 = .ok (.iconst 2, 1) := dk_dX5_readCrossing_101.1
theorem dX5_readCrossing_102 : decode cX5_readCrossing 102 = .ok (.sipush 507, 3) := dk_dX5_readCrossing_101.2.1
theorem dX5_readCrossing_105 : decode cX5_readCrossing 105 = .ok (.invokevirtual 64, 3) := dk_dX5_readCrossing_101.2.2.1
theorem dX5_readCrossing_108 : decode cX5_readCrossing 108 = .ok (.goto 38, 3) := dk_dX5_readCrossing_101.2.2.2.1
theorem dX5_readCrossing_111 : decode cX5_readCrossing 111 = .ok (.aload_n 0, 1) := dk_dX5_readCrossing_101.2.2.2.2.1
theorem dX5_readCrossing_112 : decode cX5_readCrossing 112 = .ok (.iconst 4, 1) := dk_dX5_readCrossing_101.2.2.2.2.2.1
theorem dX5_readCrossing_113 : decode cX5_readCrossing 113 = .ok (.bipush 123, 2) := dk_dX5_readCrossing_101.2.2.2.2.2.2.1
theorem dX5_readCrossing_115 : decode cX5_readCrossing 115 = .ok (.invokevirtual 64, 3) := dk_dX5_readCrossing_101.2.2.2.2.2.2.2.1
theorem dk_dX5_readCrossing_101_8 : dz_C cX5_readCrossing [(118, .goto 28, 3), (121, .aload_n 1, 1), (122, .aload_n 0, 1), (123, .ldc 68, 2), (125, .iconst 0, 1), (126, .bipush 100, 2), (128, .invokevirtual 70, 3), (131, .putfield 74, 3)] := dk_dX5_readCrossing_101.2.2.2.2.2.2.2.2
theorem dX5_readCrossing_118 : decode cX5_readCrossing 118 = .ok (.goto 28, 3) := dk_dX5_readCrossing_101_8.1
theorem dX5_readCrossing_121 : decode cX5_readCrossing 121 = .ok (.aload_n 1, 1) := dk_dX5_readCrossing_101_8.2.1
theorem dX5_readCrossing_122 : decode cX5_readCrossing 122 = .ok (.aload_n 0, 1) := dk_dX5_readCrossing_101_8.2.2.1
theorem dX5_readCrossing_123 : decode cX5_readCrossing 123 = .ok (.ldc 68, 2) := dk_dX5_readCrossing_101_8.2.2.2.1
theorem dX5_readCrossing_125 : decode cX5_readCrossing 125 = .ok (.iconst 0, 1) := dk_dX5_readCrossing_101_8.2.2.2.2.1
theorem dX5_readCrossing_126 : decode cX5_readCrossing 126 = .ok (.bipush 100, 2) := dk_dX5_readCrossing_101_8.2.2.2.2.2.1
theorem dX5_readCrossing_128 : decode cX5_readCrossing 128 = .ok (.invokevirtual 70, 3) := dk_dX5_readCrossing_101_8.2.2.2.2.2.2.1
theorem dX5_readCrossing_131 : decode cX5_readCrossing 131 = .ok (.putfield 74, 3) := dk_dX5_readCrossing_101_8.2.2.2.2.2.2.2.1
theorem dk_dX5_readCrossing_134 : dz_C cX5_readCrossing [(134, .goto 12, 3), (137, .aload_n 0, 1), (138, .iconst 1, 1), (139, .aload_n 0, 1), (140, .getfield 15, 3), (143, .invokevirtual 78, 3), (146, .aload_n 0, 1), (147, .bipush 59, 2), (149, .invokevirtual 48, 3), (152, .iinc 3 1, 3), (155, .goto (-137), 3), (158, .aload_n 0, 1), (159, .getfield 21, 3), (162, .ifCond .eq 12, 3), (165, .aload_n 0, 1), (166, .iconst 5, 1)] := dz_of (by decide +kernel)
theorem dX5_readCrossing_134 : decode cX5_readCrossing 134 = .ok (.goto 12, 3) := dk_dX5_readCrossing_134.1
theorem dX5_readCrossing_137 : decode cX5_readCrossing 137 = .ok (.aload_n 0, 1) := dk_dX5_readCrossing_134.2.1
theorem dX5_readCrossing_138 : decode cX5_readCrossing 138 = .ok (.iconst 1, 1) := dk_dX5_readCrossing_134.2.2.1
theorem dX5_readCrossing_139 : decode cX5_readCrossing 139 = .ok (.aload_n 0, 1) := dk_dX5_readCrossing_134.2.2.2.1
theorem dX5_readCrossing_140 : decode cX5_readCrossing 140 = .ok (.getfield 15, 3) := dk_dX5_readCrossing_134.2.2.2.2.1
theorem dX5_readCrossing_143 : decode cX5_readCrossing 143 = .ok (.invokevirtual 78, 3) := dk_dX5_readCrossing_134.2.2.2.2.2.1
theorem dX5_readCrossing_146 : decode cX5_readCrossing 146 = .ok (.aload_n 0, 1) := dk_dX5_readCrossing_134.2.2.2.2.2.2.1
theorem dX5_readCrossing_147 : decode cX5_readCrossing 147 = .ok (.bipush 59, 2) := dk_dX5_readCrossing_134.2.2.2.2.2.2.2.1
theorem dk_dX5_readCrossing_134_8 : dz_C cX5_readCrossing [(149, .invokevirtual 48, 3), (152, .iinc 3 1, 3), (155, .goto (-137), 3), (158, .aload_n 0, 1), (159, .getfield 21, 3), (162, .ifCond .eq 12, 3), (165, .aload_n 0, 1), (166, .iconst 5, 1)] := dk_dX5_readCrossing_134.2.2.2.2.2.2.2.2
theorem dX5_readCrossing_149 : decode cX5_readCrossing 149 = .ok (.invokevirtual 48, 3) := dk_dX5_readCrossing_134_8.1
theorem dX5_readCrossing_152 : decode cX5_readCrossing 152 = .ok (.iinc 3 1, 3) := dk_dX5_readCrossing_134_8.2.1
theorem dX5_readCrossing_155 : decode cX5_readCrossing 155 = .ok (.goto (-137), 3) := dk_dX5_readCrossing_134_8.2.2.1
theorem dX5_readCrossing_158 : decode cX5_readCrossing 158 = .ok (.aload_n 0, 1) := dk_dX5_readCrossing_134_8.2.2.2.1
theorem dX5_readCrossing_159 : decode cX5_readCrossing 159 = .ok (.getfield 21, 3) := dk_dX5_readCrossing_134_8.2.2.2.2.1
theorem dX5_readCrossing_162 : decode cX5_readCrossing 162 = .ok (.ifCond .eq 12, 3) := dk_dX5_readCrossing_134_8.2.2.2.2.2.1
theorem dX5_readCrossing_165 : decode cX5_readCrossing 165 = .ok (.aload_n 0, 1) := dk_dX5_readCrossing_134_8.2.2.2.2.2.2.1
theorem dX5_readCrossing_166 : decode cX5_readCrossing 166 = .ok (.iconst 5, 1) := dk_dX5_readCrossing_134_8.2.2.2.2.2.2.2.1
theorem dk_dX5_readCrossing_167 : dz_C cX5_readCrossing [(167, .aload_n 0, 1), (168, .getfield 15, 3), (171, .invokevirtual 78, 3), (174, .aload_n 1, 1), (175, .iload_n 3, 1), (176, .putfield 81, 3), (179, .return_, 1)] := dz_of (by decide +kernel)
theorem dX5_readCrossing_167 : decode cX5_readCrossing 167 = .ok (.aload_n 0, 1) := dk_dX5_readCrossing_167.1
theorem dX5_readCrossing_168 : decode cX5_readCrossing 168 = .ok (.getfield 15, 3) := dk_dX5_readCrossing_167.2.1
theorem dX5_readCrossing_171 : decode cX5_readCrossing 171 = .ok (.invokevirtual 78, 3) := dk_dX5_readCrossing_167.2.2.1
theorem dX5_readCrossing_174 : decode cX5_readCrossing 174 = .ok (.aload_n 1, 1) := dk_dX5_readCrossing_167.2.2.2.1
theorem dX5_readCrossing_175 : decode cX5_readCrossing 175 = .ok (.iload_n 3, 1) := dk_dX5_readCrossing_167.2.2.2.2.1
theorem dX5_readCrossing_176 : decode cX5_readCrossing 176 = .ok (.putfield 81, 3) := dk_dX5_readCrossing_167.2.2.2.2.2.1
theorem dX5_readCrossing_179 : decode cX5_readCrossing 179 = .ok (.return_, 1) := dk_dX5_readCrossing_167.2.2.2.2.2.2.1
theorem dk_dX5_readQuestion_0 : dz_C cX5_readQuestion [(0, .aload_n 0, 1), (1, .aload_n 1, 1), (2, .iload_n 2, 1), (3, .invokevirtual 41, 3), (6, .aload_n 0, 1), (7, .sipush 3707, 3), (10, .putfield 24, 3), (13, .aload_n 0, 1), (14, .ldc 84, 2), (16, .invokevirtual 54, 3), (19, .istore_n 3, 1), (20, .iload_n 3, 1), (21, .iconst (-1), 1), (22, .if_icmp .ne 15, 3), (25, .aload_n 0, 1), (26, .iconst 1, 1)] := dz_of (by decide +kernel)
theorem dX5_readQuestion_0 : decode cX5_readQuestion 0 = .ok (.aload_n 0, 1) := dk_dX5_readQuestion_0.1
theorem dX5_readQuestion_1 : decode cX5_readQuestion 1 = .ok (.aload_n 1, 1) := dk_dX5_readQuestion_0.2.1
theorem dX5_readQuestion_2 : decode cX5_readQuestion 2 = .ok (.iload_n 2, 1) := dk_dX5_readQuestion_0.2.2.1
theorem dX5_readQuestion_3 : decode cX5_readQuestion 3 = .ok (.invokevirtual 41, 3) := dk_dX5_readQuestion_0.2.2.2.1
theorem dX5_readQuestion_6 : decode cX5_readQuestion 6 = .ok (.aload_n 0, 1) := dk_dX5_readQuestion_0.2.2.2.2.1
theorem dX5_readQuestion_7 : decode cX5_readQuestion 7 = .ok (.sipush 3707, 3) := dk_dX5_readQuestion_0.2.2.2.2.2.1
theorem dX5_readQuestion_10 : decode cX5_readQuestion 10 = .ok (.putfield 24, 3) := dk_dX5_readQuestion_0.2.2.2.2.2.2.1
theorem dX5_readQuestion_13 : decode cX5_readQuestion 13 = .ok (.aload_n 0, 1) := dk_dX5_readQuestion_0.2.2.2.2.2.2.2.1
theorem dk_dX5_readQuestion_0_8 : dz_C cX5_readQuestion [(14, .ldc 84, 2), (16, .invokevirtual 54, 3), (19, .istore_n 3, 1), (20, .iload_n 3, 1), (21, .iconst (-1), 1), (22, .if_icmp .ne 15, 3), (25, .aload_n 0, 1), (26, .iconst 1, 1)] := dk_dX5_readQuestion_0.2.2.2.2.2.2.2.2
theorem dX5_readQuestion_14 : decode cX5_readQuestion 14 = .ok (.ldc 84, 2) := dk_dX5_readQuestion_0_8.1
theorem dX5_readQuestion_16 : decode cX5_readQuestion 16 = .ok (.invokevirtual 54, 3) := dk_dX5_readQuestion_0_8.2.1
theorem dX5_readQuestion_19 : decode cX5_readQuestion 19 = .ok (.istore_n 3, 1) := dk_dX5_readQuestion_0_8.2.2.1
theorem dX5_readQuestion_20 : decode cX5_readQuestion 20 = .ok (.iload_n 3, 1) := dk_dX5_readQuestion_0_8.2.2.2.1
theorem dX5_readQuestion_21 : decode cX5_readQuestion 21 = .ok (.iconst (-1), 1) := dk_dX5_readQuestion_0_8.2.2.2.2.1
theorem dX5_readQuestion_22 : decode cX5_readQuestion 22 = .ok (.if_icmp .ne 15, 3) := dk_dX5_readQuestion_0_8.2.2.2.2.2.1
theorem dX5_readQuestion_25 : decode cX5_readQuestion 25 = .ok (.aload_n 0, 1) := dk_dX5_readQuestion_0_8.2.2.2.2.2.2.1
theorem dX5_readQuestion_26 : decode cX5_readQuestion 26 = .ok (.iconst 1, 1) := dk_dX5_readQuestion_0_8.2.2.2.2.2.2.2.1
theorem dk_dX5_readQuestion_27 : dz_C cX5_readQuestion [(27, .aload_n 0, 1), (28, .getfield 15, 3), (31, .invokevirtual 78, 3), (34, .goto 29, 3), (37, .aload_n 0, 1), (38, .aload_n 0, 1), (39, .getfield 18, 3), (42, .invokevirtual 86, 3), (45, .iload_n 3, 1), (46, .iconst 2, 1), (47, .if_icmp .gt 11, 3), (50, .aload_n 0, 1), (51, .iconst 0, 1), (52, .invokevirtual 90, 3), (55, .goto 8, 3), (58, .aload_n 0, 1)] := dz_of (by decide +kernel)
theorem dX5_readQuestion_27 : decode cX5_readQuestion 27 = .ok (.aload_n 0, 1) := dk_dX5_readQuestion_27.1
theorem dX5_readQuestion_28 : decode cX5_readQuestion 28 = .ok (.getfield 15, 3) := dk_dX5_readQuestion_27.2.1
theorem dX5_readQuestion_31 : decode cX5_readQuestion 31 = .ok (.invokevirtual 78, 3) := dk_dX5_readQuestion_27.2.2.1
theorem dX5_readQuestion_34 : decode cX5_readQuestion 34 = .ok (.goto 29, 3) := dk_dX5_readQuestion_27.2.2.2.1
theorem dX5_readQuestion_37 : decode cX5_readQuestion 37 = .ok (.aload_n 0, 1) := dk_dX5_readQuestion_27.2.2.2.2.1
theorem dX5_readQuestion_38 : decode cX5_readQuestion 38 = .ok (.aload_n 0, 1) := dk_dX5_readQuestion_27.2.2.2.2.2.1
theorem dX5_readQuestion_39 : decode cX5_readQuestion 39 = .ok (.getfield 18, 3) := dk_dX5_readQuestion_27.2.2.2.2.2.2.1
theorem dX5_readQuestion_42 : decode cX5_readQuestion 42 = .ok (.invokevirtual 86, 3) := dk_dX5_readQuestion_27.2.2.2.2.2.2.2.1
theorem dk_dX5_readQuestion_27_8 : dz_C cX5_readQuestion [(45, .iload_n 3, 1), (46, .iconst 2, 1), (47, .if_icmp .gt 11, 3), (50, .aload_n 0, 1), (51, .iconst 0, 1), (52, .invokevirtual 90, 3), (55, .goto 8, 3), (58, .aload_n 0, 1)] := dk_dX5_readQuestion_27.2.2.2.2.2.2.2.2
theorem dX5_readQuestion_45 : decode cX5_readQuestion 45 = .ok (.iload_n 3, 1) := dk_dX5_readQuestion_27_8.1
theorem dX5_readQuestion_46 : decode cX5_readQuestion 46 = .ok (.iconst 2, 1) := dk_dX5_readQuestion_27_8.2.1
theorem dX5_readQuestion_47 : decode cX5_readQuestion 47 = .ok (.if_icmp .gt 11, 3) := dk_dX5_readQuestion_27_8.2.2.1
theorem dX5_readQuestion_50 : decode cX5_readQuestion 50 = .ok (.aload_n 0, 1) := dk_dX5_readQuestion_27_8.2.2.2.1
theorem dX5_readQuestion_51 : decode cX5_readQuestion 51 = .ok (.iconst 0, 1) := dk_dX5_readQuestion_27_8.2.2.2.2.1
theorem dX5_readQuestion_52 : decode cX5_readQuestion 52 = .ok (.invokevirtual 90, 3) := dk_dX5_readQuestion_27_8.2.2.2.2.2.1
theorem dX5_readQuestion_55 : decode cX5_readQuestion 55 = .ok (.goto 8, 3) := dk_dX5_readQuestion_27_8.2.2.2.2.2.2.1
theorem dX5_readQuestion_58 : decode cX5_readQuestion 58 = .ok (.aload_n 0, 1) := dk_dX5_readQuestion_27_8.2.2.2.2.2.2.2.1
theorem dk_dX5_readQuestion_59 : dz_C cX5_readQuestion [(59, .iconst 0, 1), (60, .invokevirtual 93, 3), (63, .aload_n 0, 1), (64, .getfield 21, 3), (67, .ifCond .eq 12, 3), (70, .aload_n 0, 1), (71, .iconst 1, 1), (72, .aload_n 0, 1), (73, .getfield 15, 3), (76, .invokevirtual 78, 3), (79, .iload_n 3, 1), (80, .ireturn, 1)] := dz_of (by decide +kernel)
theorem dX5_readQuestion_59 : decode cX5_readQuestion 59 = .ok (.iconst 0, 1) := dk_dX5_readQuestion_59.1
theorem dX5_readQuestion_60 : decode cX5_readQuestion 60 = .ok (.invokevirtual 93, 3) := dk_dX5_readQuestion_59.2.1
theorem dX5_readQuestion_63 : decode cX5_readQuestion 63 = .ok (.aload_n 0, 1) := dk_dX5_readQuestion_59.2.2.1
theorem dX5_readQuestion_64 : decode cX5_readQuestion 64 = .ok (.getfield 21, 3) := dk_dX5_readQuestion_59.2.2.2.1
theorem dX5_readQuestion_67 : decode cX5_readQuestion 67 = .ok (.ifCond .eq 12, 3) := dk_dX5_readQuestion_59.2.2.2.2.1
theorem dX5_readQuestion_70 : decode cX5_readQuestion 70 = .ok (.aload_n 0, 1) := dk_dX5_readQuestion_59.2.2.2.2.2.1
theorem dX5_readQuestion_71 : decode cX5_readQuestion 71 = .ok (.iconst 1, 1) := dk_dX5_readQuestion_59.2.2.2.2.2.2.1
theorem dX5_readQuestion_72 : decode cX5_readQuestion 72 = .ok (.aload_n 0, 1) := dk_dX5_readQuestion_59.2.2.2.2.2.2.2.1
theorem dk_dX5_readQuestion_59_8 : dz_C cX5_readQuestion [(73, .getfield 15, 3), (76, .invokevirtual 78, 3), (79, .iload_n 3, 1), (80, .ireturn, 1)] := dk_dX5_readQuestion_59.2.2.2.2.2.2.2.2
theorem dX5_readQuestion_73 : decode cX5_readQuestion 73 = .ok (.getfield 15, 3) := dk_dX5_readQuestion_59_8.1
theorem dX5_readQuestion_76 : decode cX5_readQuestion 76 = .ok (.invokevirtual 78, 3) := dk_dX5_readQuestion_59_8.2.1
theorem dX5_readQuestion_79 : decode cX5_readQuestion 79 = .ok (.iload_n 3, 1) := dk_dX5_readQuestion_59_8.2.2.1
theorem dX5_readQuestion_80 : decode cX5_readQuestion 80 = .ok (.ireturn, 1) := dk_dX5_readQuestion_59_8.2.2.2.1
theorem dk_dX5_sees_0 : dz_C cX5_sees [(0, .aload_n 0, 1), (1, .getfield 21, 3), (4, .iconst 3, 1), (5, .if_icmp .ne 20, 3), (8, .aload_n 0, 1), (9, .getfield 33, 3), (12, .aload_n 0, 1), (13, .getfield 15, 3), (16, .iaload, 1), (17, .iload_n 1, 1), (18, .if_icmp .ne 7, 3), (21, .iconst 1, 1), (22, .goto 4, 3), (25, .iconst 0, 1), (26, .ireturn, 1)] := dz_of (by decide +kernel)
theorem dX5_sees_0 : decode cX5_sees 0 = .ok (.aload_n 0, 1) := dk_dX5_sees_0.1
theorem dX5_sees_1 : decode cX5_sees 1 = .ok (.getfield 21, 3) := dk_dX5_sees_0.2.1
theorem dX5_sees_4 : decode cX5_sees 4 = .ok (.iconst 3, 1) := dk_dX5_sees_0.2.2.1
theorem dX5_sees_5 : decode cX5_sees 5 = .ok (.if_icmp .ne 20, 3) := dk_dX5_sees_0.2.2.2.1
theorem dX5_sees_8 : decode cX5_sees 8 = .ok (.aload_n 0, 1) := dk_dX5_sees_0.2.2.2.2.1
theorem dX5_sees_9 : decode cX5_sees 9 = .ok (.getfield 33, 3) := dk_dX5_sees_0.2.2.2.2.2.1
theorem dX5_sees_12 : decode cX5_sees 12 = .ok (.aload_n 0, 1) := dk_dX5_sees_0.2.2.2.2.2.2.1
theorem dX5_sees_13 : decode cX5_sees 13 = .ok (.getfield 15, 3) := dk_dX5_sees_0.2.2.2.2.2.2.2.1
theorem dk_dX5_sees_0_8 : dz_C cX5_sees [(16, .iaload, 1), (17, .iload_n 1, 1), (18, .if_icmp .ne 7, 3), (21, .iconst 1, 1), (22, .goto 4, 3), (25, .iconst 0, 1), (26, .ireturn, 1)] := dk_dX5_sees_0.2.2.2.2.2.2.2.2
theorem dX5_sees_16 : decode cX5_sees 16 = .ok (.iaload, 1) := dk_dX5_sees_0_8.1
theorem dX5_sees_17 : decode cX5_sees 17 = .ok (.iload_n 1, 1) := dk_dX5_sees_0_8.2.1
theorem dX5_sees_18 : decode cX5_sees 18 = .ok (.if_icmp .ne 7, 3) := dk_dX5_sees_0_8.2.2.1
theorem dX5_sees_21 : decode cX5_sees 21 = .ok (.iconst 1, 1) := dk_dX5_sees_0_8.2.2.2.1
theorem dX5_sees_22 : decode cX5_sees 22 = .ok (.goto 4, 3) := dk_dX5_sees_0_8.2.2.2.2.1
theorem dX5_sees_25 : decode cX5_sees 25 = .ok (.iconst 0, 1) := dk_dX5_sees_0_8.2.2.2.2.2.1
theorem dX5_sees_26 : decode cX5_sees 26 = .ok (.ireturn, 1) := dk_dX5_sees_0_8.2.2.2.2.2.2.1
theorem dk_dX5_signHere_0 : dz_C cX5_signHere [(0, .aload_n 0, 1), (1, .bipush 60, 2), (3, .invokevirtual 213, 3), (6, .ifCond .eq 6, 3), (9, .bipush (-26), 2), (11, .ireturn, 1), (12, .aload_n 0, 1), (13, .bipush 62, 2), (15, .invokevirtual 213, 3), (18, .ifCond .eq 6, 3), (21, .bipush (-27), 2), (23, .ireturn, 1), (24, .aload_n 0, 1), (25, .bipush 61, 2), (27, .invokevirtual 213, 3), (30, .ifCond .ne 12, 3)] := dz_of (by decide +kernel)
theorem dX5_signHere_0 : decode cX5_signHere 0 = .ok (.aload_n 0, 1) := dk_dX5_signHere_0.1
theorem dX5_signHere_1 : decode cX5_signHere 1 = .ok (.bipush 60, 2) := dk_dX5_signHere_0.2.1
theorem dX5_signHere_3 : decode cX5_signHere 3 = .ok (.invokevirtual 213, 3) := dk_dX5_signHere_0.2.2.1
theorem dX5_signHere_6 : decode cX5_signHere 6 = .ok (.ifCond .eq 6, 3) := dk_dX5_signHere_0.2.2.2.1
theorem dX5_signHere_9 : decode cX5_signHere 9 = .ok (.bipush (-26), 2) := dk_dX5_signHere_0.2.2.2.2.1
theorem dX5_signHere_11 : decode cX5_signHere 11 = .ok (.ireturn, 1) := dk_dX5_signHere_0.2.2.2.2.2.1
theorem dX5_signHere_12 : decode cX5_signHere 12 = .ok (.aload_n 0, 1) := dk_dX5_signHere_0.2.2.2.2.2.2.1
theorem dX5_signHere_13 : decode cX5_signHere 13 = .ok (.bipush 62, 2) := dk_dX5_signHere_0.2.2.2.2.2.2.2.1
theorem dk_dX5_signHere_0_8 : dz_C cX5_signHere [(15, .invokevirtual 213, 3), (18, .ifCond .eq 6, 3), (21, .bipush (-27), 2), (23, .ireturn, 1), (24, .aload_n 0, 1), (25, .bipush 61, 2), (27, .invokevirtual 213, 3), (30, .ifCond .ne 12, 3)] := dk_dX5_signHere_0.2.2.2.2.2.2.2.2
theorem dX5_signHere_15 : decode cX5_signHere 15 = .ok (.invokevirtual 213, 3) := dk_dX5_signHere_0_8.1
theorem dX5_signHere_18 : decode cX5_signHere 18 = .ok (.ifCond .eq 6, 3) := dk_dX5_signHere_0_8.2.1
theorem dX5_signHere_21 : decode cX5_signHere 21 = .ok (.bipush (-27), 2) := dk_dX5_signHere_0_8.2.2.1
theorem dX5_signHere_23 : decode cX5_signHere 23 = .ok (.ireturn, 1) := dk_dX5_signHere_0_8.2.2.2.1
theorem dX5_signHere_24 : decode cX5_signHere 24 = .ok (.aload_n 0, 1) := dk_dX5_signHere_0_8.2.2.2.2.1
theorem dX5_signHere_25 : decode cX5_signHere 25 = .ok (.bipush 61, 2) := dk_dX5_signHere_0_8.2.2.2.2.2.1
theorem dX5_signHere_27 : decode cX5_signHere 27 = .ok (.invokevirtual 213, 3) := dk_dX5_signHere_0_8.2.2.2.2.2.2.1
theorem dX5_signHere_30 : decode cX5_signHere 30 = .ok (.ifCond .ne 12, 3) := dk_dX5_signHere_0_8.2.2.2.2.2.2.2.1
theorem dk_dX5_signHere_33 : dz_C cX5_signHere [(33, .aload_n 0, 1), (34, .iconst 1, 1), (35, .aload_n 0, 1), (36, .getfield 15, 3), (39, .invokevirtual 78, 3), (42, .bipush (-28), 2), (44, .ireturn, 1)] := dz_of (by decide +kernel)
theorem dX5_signHere_33 : decode cX5_signHere 33 = .ok (.aload_n 0, 1) := dk_dX5_signHere_33.1
theorem dX5_signHere_34 : decode cX5_signHere 34 = .ok (.iconst 1, 1) := dk_dX5_signHere_33.2.1
theorem dX5_signHere_35 : decode cX5_signHere 35 = .ok (.aload_n 0, 1) := dk_dX5_signHere_33.2.2.1
theorem dX5_signHere_36 : decode cX5_signHere 36 = .ok (.getfield 15, 3) := dk_dX5_signHere_33.2.2.2.1
theorem dX5_signHere_39 : decode cX5_signHere 39 = .ok (.invokevirtual 78, 3) := dk_dX5_signHere_33.2.2.2.2.1
theorem dX5_signHere_42 : decode cX5_signHere 42 = .ok (.bipush (-28), 2) := dk_dX5_signHere_33.2.2.2.2.2.1
theorem dX5_signHere_44 : decode cX5_signHere 44 = .ok (.ireturn, 1) := dk_dX5_signHere_33.2.2.2.2.2.2.1
theorem dk_dX5_slotOf_0 : dz_C cX5_slotOf [(0, .iload_n 1, 1), (1, .istore_n 3, 1), (2, .iload_n 3, 1), (3, .iload_n 1, 1), (4, .iload_n 2, 1), (5, .iadd, 1), (6, .if_icmp .ge 58, 3), (9, .iconst 0, 1), (10, .istore 4, 2), (12, .iload 4, 2), (14, .bipush 6, 2), (16, .if_icmp .ge 33, 3), (19, .aload_n 0, 1), (20, .getfield 37, 3), (23, .getfield 181, 3), (26, .iload_n 3, 1)] := dz_of (by decide +kernel)
theorem dX5_slotOf_0 : decode cX5_slotOf 0 = .ok (.iload_n 1, 1) := dk_dX5_slotOf_0.1
theorem dX5_slotOf_1 : decode cX5_slotOf 1 = .ok (.istore_n 3, 1) := dk_dX5_slotOf_0.2.1
theorem dX5_slotOf_2 : decode cX5_slotOf 2 = .ok (.iload_n 3, 1) := dk_dX5_slotOf_0.2.2.1
theorem dX5_slotOf_3 : decode cX5_slotOf 3 = .ok (.iload_n 1, 1) := dk_dX5_slotOf_0.2.2.2.1
theorem dX5_slotOf_4 : decode cX5_slotOf 4 = .ok (.iload_n 2, 1) := dk_dX5_slotOf_0.2.2.2.2.1
theorem dX5_slotOf_5 : decode cX5_slotOf 5 = .ok (.iadd, 1) := dk_dX5_slotOf_0.2.2.2.2.2.1
theorem dX5_slotOf_6 : decode cX5_slotOf 6 = .ok (.if_icmp .ge 58, 3) := dk_dX5_slotOf_0.2.2.2.2.2.2.1
theorem dX5_slotOf_9 : decode cX5_slotOf 9 = .ok (.iconst 0, 1) := dk_dX5_slotOf_0.2.2.2.2.2.2.2.1
theorem dk_dX5_slotOf_0_8 : dz_C cX5_slotOf [(10, .istore 4, 2), (12, .iload 4, 2), (14, .bipush 6, 2), (16, .if_icmp .ge 33, 3), (19, .aload_n 0, 1), (20, .getfield 37, 3), (23, .getfield 181, 3), (26, .iload_n 3, 1)] := dk_dX5_slotOf_0.2.2.2.2.2.2.2.2
theorem dX5_slotOf_10 : decode cX5_slotOf 10 = .ok (.istore 4, 2) := dk_dX5_slotOf_0_8.1
theorem dX5_slotOf_12 : decode cX5_slotOf 12 = .ok (.iload 4, 2) := dk_dX5_slotOf_0_8.2.1
theorem dX5_slotOf_14 : decode cX5_slotOf 14 = .ok (.bipush 6, 2) := dk_dX5_slotOf_0_8.2.2.1
theorem dX5_slotOf_16 : decode cX5_slotOf 16 = .ok (.if_icmp .ge 33, 3) := dk_dX5_slotOf_0_8.2.2.2.1
theorem dX5_slotOf_19 : decode cX5_slotOf 19 = .ok (.aload_n 0, 1) := dk_dX5_slotOf_0_8.2.2.2.2.1
theorem dX5_slotOf_20 : decode cX5_slotOf 20 = .ok (.getfield 37, 3) := dk_dX5_slotOf_0_8.2.2.2.2.2.1
theorem dX5_slotOf_23 : decode cX5_slotOf 23 = .ok (.getfield 181, 3) := dk_dX5_slotOf_0_8.2.2.2.2.2.2.1
theorem dX5_slotOf_26 : decode cX5_slotOf 26 = .ok (.iload_n 3, 1) := dk_dX5_slotOf_0_8.2.2.2.2.2.2.2.1
theorem dk_dX5_slotOf_27 : dz_C cX5_slotOf [(27, .bipush 6, 2), (29, .imul, 1), (30, .iload 4, 2), (32, .iadd, 1), (33, .iaload, 1), (34, .aload_n 0, 1), (35, .iload 4, 2), (37, .invokevirtual 184, 3), (40, .if_icmp .ne 9, 3), (43, .iinc 4 1, 3), (46, .goto (-34), 3), (49, .iload 4, 2), (51, .bipush 6, 2), (53, .if_icmp .ne 5, 3), (56, .iload_n 3, 1), (57, .ireturn, 1)] := dz_of (by decide +kernel)
theorem dX5_slotOf_27 : decode cX5_slotOf 27 = .ok (.bipush 6, 2) := dk_dX5_slotOf_27.1
theorem dX5_slotOf_29 : decode cX5_slotOf 29 = .ok (.imul, 1) := dk_dX5_slotOf_27.2.1
theorem dX5_slotOf_30 : decode cX5_slotOf 30 = .ok (.iload 4, 2) := dk_dX5_slotOf_27.2.2.1
theorem dX5_slotOf_32 : decode cX5_slotOf 32 = .ok (.iadd, 1) := dk_dX5_slotOf_27.2.2.2.1
theorem dX5_slotOf_33 : decode cX5_slotOf 33 = .ok (.iaload, 1) := dk_dX5_slotOf_27.2.2.2.2.1
theorem dX5_slotOf_34 : decode cX5_slotOf 34 = .ok (.aload_n 0, 1) := dk_dX5_slotOf_27.2.2.2.2.2.1
theorem dX5_slotOf_35 : decode cX5_slotOf 35 = .ok (.iload 4, 2) := dk_dX5_slotOf_27.2.2.2.2.2.2.1
theorem dX5_slotOf_37 : decode cX5_slotOf 37 = .ok (.invokevirtual 184, 3) := dk_dX5_slotOf_27.2.2.2.2.2.2.2.1
theorem dk_dX5_slotOf_27_8 : dz_C cX5_slotOf [(40, .if_icmp .ne 9, 3), (43, .iinc 4 1, 3), (46, .goto (-34), 3), (49, .iload 4, 2), (51, .bipush 6, 2), (53, .if_icmp .ne 5, 3), (56, .iload_n 3, 1), (57, .ireturn, 1)] := dk_dX5_slotOf_27.2.2.2.2.2.2.2.2
theorem dX5_slotOf_40 : decode cX5_slotOf 40 = .ok (.if_icmp .ne 9, 3) := dk_dX5_slotOf_27_8.1
theorem dX5_slotOf_43 : decode cX5_slotOf 43 = .ok (.iinc 4 1, 3) := dk_dX5_slotOf_27_8.2.1
theorem dX5_slotOf_46 : decode cX5_slotOf 46 = .ok (.goto (-34), 3) := dk_dX5_slotOf_27_8.2.2.1
theorem dX5_slotOf_49 : decode cX5_slotOf 49 = .ok (.iload 4, 2) := dk_dX5_slotOf_27_8.2.2.2.1
theorem dX5_slotOf_51 : decode cX5_slotOf 51 = .ok (.bipush 6, 2) := dk_dX5_slotOf_27_8.2.2.2.2.1
theorem dX5_slotOf_53 : decode cX5_slotOf 53 = .ok (.if_icmp .ne 5, 3) := dk_dX5_slotOf_27_8.2.2.2.2.2.1
theorem dX5_slotOf_56 : decode cX5_slotOf 56 = .ok (.iload_n 3, 1) := dk_dX5_slotOf_27_8.2.2.2.2.2.2.1
theorem dX5_slotOf_57 : decode cX5_slotOf 57 = .ok (.ireturn, 1) := dk_dX5_slotOf_27_8.2.2.2.2.2.2.2.1
theorem dk_dX5_slotOf_58 : dz_C cX5_slotOf [(58, .iinc 3 1, 3), (61, .goto (-59), 3), (64, .iconst (-1), 1), (65, .ireturn, 1)] := dz_of (by decide +kernel)
theorem dX5_slotOf_58 : decode cX5_slotOf 58 = .ok (.iinc 3 1, 3) := dk_dX5_slotOf_58.1
theorem dX5_slotOf_61 : decode cX5_slotOf 61 = .ok (.goto (-59), 3) := dk_dX5_slotOf_58.2.1
theorem dX5_slotOf_64 : decode cX5_slotOf 64 = .ok (.iconst (-1), 1) := dk_dX5_slotOf_58.2.2.1
theorem dX5_slotOf_65 : decode cX5_slotOf 65 = .ok (.ireturn, 1) := dk_dX5_slotOf_58.2.2.2.1
theorem dk_dX5_sortOf_0 : dz_C cX5_sortOf [(0, .iload_n 1, 1), (1, .ifCond .lt 11, 3), (4, .iload_n 1, 1), (5, .aload_n 0, 1), (6, .getfield 11, 3), (9, .if_icmp .lt 5, 3), (12, .iconst 0, 1), (13, .ireturn, 1), (14, .aload_n 0, 1), (15, .getfield 33, 3), (18, .iload_n 1, 1), (19, .iaload, 1), (20, .bipush 97, 2), (22, .if_icmp .lt 16, 3), (25, .aload_n 0, 1), (26, .getfield 33, 3)] := dz_of (by decide +kernel)
theorem dX5_sortOf_0 : decode cX5_sortOf 0 = .ok (.iload_n 1, 1) := dk_dX5_sortOf_0.1
theorem dX5_sortOf_1 : decode cX5_sortOf 1 = .ok (.ifCond .lt 11, 3) := dk_dX5_sortOf_0.2.1
theorem dX5_sortOf_4 : decode cX5_sortOf 4 = .ok (.iload_n 1, 1) := dk_dX5_sortOf_0.2.2.1
theorem dX5_sortOf_5 : decode cX5_sortOf 5 = .ok (.aload_n 0, 1) := dk_dX5_sortOf_0.2.2.2.1
theorem dX5_sortOf_6 : decode cX5_sortOf 6 = .ok (.getfield 11, 3) := dk_dX5_sortOf_0.2.2.2.2.1
theorem dX5_sortOf_9 : decode cX5_sortOf 9 = .ok (.if_icmp .lt 5, 3) := dk_dX5_sortOf_0.2.2.2.2.2.1
theorem dX5_sortOf_12 : decode cX5_sortOf 12 = .ok (.iconst 0, 1) := dk_dX5_sortOf_0.2.2.2.2.2.2.1
theorem dX5_sortOf_13 : decode cX5_sortOf 13 = .ok (.ireturn, 1) := dk_dX5_sortOf_0.2.2.2.2.2.2.2.1
theorem dk_dX5_sortOf_0_8 : dz_C cX5_sortOf [(14, .aload_n 0, 1), (15, .getfield 33, 3), (18, .iload_n 1, 1), (19, .iaload, 1), (20, .bipush 97, 2), (22, .if_icmp .lt 16, 3), (25, .aload_n 0, 1), (26, .getfield 33, 3)] := dk_dX5_sortOf_0.2.2.2.2.2.2.2.2
theorem dX5_sortOf_14 : decode cX5_sortOf 14 = .ok (.aload_n 0, 1) := dk_dX5_sortOf_0_8.1
theorem dX5_sortOf_15 : decode cX5_sortOf 15 = .ok (.getfield 33, 3) := dk_dX5_sortOf_0_8.2.1
theorem dX5_sortOf_18 : decode cX5_sortOf 18 = .ok (.iload_n 1, 1) := dk_dX5_sortOf_0_8.2.2.1
theorem dX5_sortOf_19 : decode cX5_sortOf 19 = .ok (.iaload, 1) := dk_dX5_sortOf_0_8.2.2.2.1
theorem dX5_sortOf_20 : decode cX5_sortOf 20 = .ok (.bipush 97, 2) := dk_dX5_sortOf_0_8.2.2.2.2.1
theorem dX5_sortOf_22 : decode cX5_sortOf 22 = .ok (.if_icmp .lt 16, 3) := dk_dX5_sortOf_0_8.2.2.2.2.2.1
theorem dX5_sortOf_25 : decode cX5_sortOf 25 = .ok (.aload_n 0, 1) := dk_dX5_sortOf_0_8.2.2.2.2.2.2.1
theorem dX5_sortOf_26 : decode cX5_sortOf 26 = .ok (.getfield 33, 3) := dk_dX5_sortOf_0_8.2.2.2.2.2.2.2.1
theorem dk_dX5_sortOf_29 : dz_C cX5_sortOf [(29, .iload_n 1, 1), (30, .iaload, 1), (31, .bipush 122, 2), (33, .if_icmp .gt 5, 3), (36, .iconst 1, 1), (37, .ireturn, 1), (38, .aload_n 0, 1), (39, .getfield 33, 3), (42, .iload_n 1, 1), (43, .iaload, 1), (44, .bipush 48, 2), (46, .if_icmp .lt 18, 3), (49, .aload_n 0, 1), (50, .getfield 33, 3), (53, .iload_n 1, 1), (54, .iaload, 1)] := dz_of (by decide +kernel)
theorem dX5_sortOf_29 : decode cX5_sortOf 29 = .ok (.iload_n 1, 1) := dk_dX5_sortOf_29.1
theorem dX5_sortOf_30 : decode cX5_sortOf 30 = .ok (.iaload, 1) := dk_dX5_sortOf_29.2.1
theorem dX5_sortOf_31 : decode cX5_sortOf 31 = .ok (.bipush 122, 2) := dk_dX5_sortOf_29.2.2.1
theorem dX5_sortOf_33 : decode cX5_sortOf 33 = .ok (.if_icmp .gt 5, 3) := dk_dX5_sortOf_29.2.2.2.1
theorem dX5_sortOf_36 : decode cX5_sortOf 36 = .ok (.iconst 1, 1) := dk_dX5_sortOf_29.2.2.2.2.1
theorem dX5_sortOf_37 : decode cX5_sortOf 37 = .ok (.ireturn, 1) := dk_dX5_sortOf_29.2.2.2.2.2.1
theorem dX5_sortOf_38 : decode cX5_sortOf 38 = .ok (.aload_n 0, 1) := dk_dX5_sortOf_29.2.2.2.2.2.2.1
theorem dX5_sortOf_39 : decode cX5_sortOf 39 = .ok (.getfield 33, 3) := dk_dX5_sortOf_29.2.2.2.2.2.2.2.1
theorem dk_dX5_sortOf_29_8 : dz_C cX5_sortOf [(42, .iload_n 1, 1), (43, .iaload, 1), (44, .bipush 48, 2), (46, .if_icmp .lt 18, 3), (49, .aload_n 0, 1), (50, .getfield 33, 3), (53, .iload_n 1, 1), (54, .iaload, 1)] := dk_dX5_sortOf_29.2.2.2.2.2.2.2.2
theorem dX5_sortOf_42 : decode cX5_sortOf 42 = .ok (.iload_n 1, 1) := dk_dX5_sortOf_29_8.1
theorem dX5_sortOf_43 : decode cX5_sortOf 43 = .ok (.iaload, 1) := dk_dX5_sortOf_29_8.2.1
theorem dX5_sortOf_44 : decode cX5_sortOf 44 = .ok (.bipush 48, 2) := dk_dX5_sortOf_29_8.2.2.1
theorem dX5_sortOf_46 : decode cX5_sortOf 46 = .ok (.if_icmp .lt 18, 3) := dk_dX5_sortOf_29_8.2.2.2.1
theorem dX5_sortOf_49 : decode cX5_sortOf 49 = .ok (.aload_n 0, 1) := dk_dX5_sortOf_29_8.2.2.2.2.1
theorem dX5_sortOf_50 : decode cX5_sortOf 50 = .ok (.getfield 33, 3) := dk_dX5_sortOf_29_8.2.2.2.2.2.1
theorem dX5_sortOf_53 : decode cX5_sortOf 53 = .ok (.iload_n 1, 1) := dk_dX5_sortOf_29_8.2.2.2.2.2.2.1
theorem dX5_sortOf_54 : decode cX5_sortOf 54 = .ok (.iaload, 1) := dk_dX5_sortOf_29_8.2.2.2.2.2.2.2.1
theorem dk_dX5_sortOf_55 : dz_C cX5_sortOf [(55, .bipush 57, 2), (57, .if_icmp .gt 7, 3), (60, .iconst 2, 1), (61, .goto 4, 3), (64, .iconst 3, 1), (65, .ireturn, 1)] := dz_of (by decide +kernel)
theorem dX5_sortOf_55 : decode cX5_sortOf 55 = .ok (.bipush 57, 2) := dk_dX5_sortOf_55.1
theorem dX5_sortOf_57 : decode cX5_sortOf 57 = .ok (.if_icmp .gt 7, 3) := dk_dX5_sortOf_55.2.1
theorem dX5_sortOf_60 : decode cX5_sortOf 60 = .ok (.iconst 2, 1) := dk_dX5_sortOf_55.2.2.1
theorem dX5_sortOf_61 : decode cX5_sortOf 61 = .ok (.goto 4, 3) := dk_dX5_sortOf_55.2.2.2.1
theorem dX5_sortOf_64 : decode cX5_sortOf 64 = .ok (.iconst 3, 1) := dk_dX5_sortOf_55.2.2.2.2.1
theorem dX5_sortOf_65 : decode cX5_sortOf 65 = .ok (.ireturn, 1) := dk_dX5_sortOf_55.2.2.2.2.2.1
theorem dk_dX5_sum_0 : dz_C cX5_sum [(0, .aload_n 0, 1), (1, .iload_n 1, 1), (2, .invokevirtual 222, 3), (5, .iconst 0, 1), (6, .istore_n 2, 1), (7, .iload_n 2, 1), (8, .sipush 1600, 3), (11, .if_icmp .ge 62, 3), (14, .aload_n 0, 1), (15, .bipush 43, 2), (17, .invokevirtual 213, 3), (20, .ifCond .ne 12, 3), (23, .aload_n 0, 1), (24, .bipush 45, 2), (26, .invokevirtual 213, 3), (29, .ifCond .eq 44, 3)] := dz_of (by decide +kernel)
theorem dX5_sum_0 : decode cX5_sum 0 = .ok (.aload_n 0, 1) := dk_dX5_sum_0.1
theorem dX5_sum_1 : decode cX5_sum 1 = .ok (.iload_n 1, 1) := dk_dX5_sum_0.2.1
theorem dX5_sum_2 : decode cX5_sum 2 = .ok (.invokevirtual 222, 3) := dk_dX5_sum_0.2.2.1
theorem dX5_sum_5 : decode cX5_sum 5 = .ok (.iconst 0, 1) := dk_dX5_sum_0.2.2.2.1
theorem dX5_sum_6 : decode cX5_sum 6 = .ok (.istore_n 2, 1) := dk_dX5_sum_0.2.2.2.2.1
theorem dX5_sum_7 : decode cX5_sum 7 = .ok (.iload_n 2, 1) := dk_dX5_sum_0.2.2.2.2.2.1
theorem dX5_sum_8 : decode cX5_sum 8 = .ok (.sipush 1600, 3) := dk_dX5_sum_0.2.2.2.2.2.2.1
theorem dX5_sum_11 : decode cX5_sum 11 = .ok (.if_icmp .ge 62, 3) := dk_dX5_sum_0.2.2.2.2.2.2.2.1
theorem dk_dX5_sum_0_8 : dz_C cX5_sum [(14, .aload_n 0, 1), (15, .bipush 43, 2), (17, .invokevirtual 213, 3), (20, .ifCond .ne 12, 3), (23, .aload_n 0, 1), (24, .bipush 45, 2), (26, .invokevirtual 213, 3), (29, .ifCond .eq 44, 3)] := dk_dX5_sum_0.2.2.2.2.2.2.2.2
theorem dX5_sum_14 : decode cX5_sum 14 = .ok (.aload_n 0, 1) := dk_dX5_sum_0_8.1
theorem dX5_sum_15 : decode cX5_sum 15 = .ok (.bipush 43, 2) := dk_dX5_sum_0_8.2.1
theorem dX5_sum_17 : decode cX5_sum 17 = .ok (.invokevirtual 213, 3) := dk_dX5_sum_0_8.2.2.1
theorem dX5_sum_20 : decode cX5_sum 20 = .ok (.ifCond .ne 12, 3) := dk_dX5_sum_0_8.2.2.2.1
theorem dX5_sum_23 : decode cX5_sum 23 = .ok (.aload_n 0, 1) := dk_dX5_sum_0_8.2.2.2.2.1
theorem dX5_sum_24 : decode cX5_sum 24 = .ok (.bipush 45, 2) := dk_dX5_sum_0_8.2.2.2.2.2.1
theorem dX5_sum_26 : decode cX5_sum 26 = .ok (.invokevirtual 213, 3) := dk_dX5_sum_0_8.2.2.2.2.2.2.1
theorem dX5_sum_29 : decode cX5_sum 29 = .ok (.ifCond .eq 44, 3) := dk_dX5_sum_0_8.2.2.2.2.2.2.2.1
theorem dk_dX5_sum_32 : dz_C cX5_sum [(32, .aload_n 0, 1), (33, .bipush 43, 2), (35, .invokevirtual 213, 3), (38, .ifCond .eq 8, 3), (41, .bipush (-20), 2), (43, .goto 5, 3), (46, .bipush (-21), 2), (48, .istore_n 3, 1), (49, .aload_n 0, 1), (50, .aload_n 0, 1), (51, .getfield 18, 3), (54, .invokevirtual 86, 3), (57, .aload_n 0, 1), (58, .iload_n 1, 1), (59, .invokevirtual 222, 3), (62, .aload_n 0, 1)] := dz_of (by decide +kernel)
theorem dX5_sum_32 : decode cX5_sum 32 = .ok (.aload_n 0, 1) := dk_dX5_sum_32.1
theorem dX5_sum_33 : decode cX5_sum 33 = .ok (.bipush 43, 2) := dk_dX5_sum_32.2.1
theorem dX5_sum_35 : decode cX5_sum 35 = .ok (.invokevirtual 213, 3) := dk_dX5_sum_32.2.2.1
theorem dX5_sum_38 : decode cX5_sum 38 = .ok (.ifCond .eq 8, 3) := dk_dX5_sum_32.2.2.2.1
theorem dX5_sum_41 : decode cX5_sum 41 = .ok (.bipush (-20), 2) := dk_dX5_sum_32.2.2.2.2.1
theorem dX5_sum_43 : decode cX5_sum 43 = .ok (.goto 5, 3) := dk_dX5_sum_32.2.2.2.2.2.1
theorem dX5_sum_46 : decode cX5_sum 46 = .ok (.bipush (-21), 2) := dk_dX5_sum_32.2.2.2.2.2.2.1
theorem dX5_sum_48 : decode cX5_sum 48 = .ok (.istore_n 3, 1) := dk_dX5_sum_32.2.2.2.2.2.2.2.1
theorem dk_dX5_sum_32_8 : dz_C cX5_sum [(49, .aload_n 0, 1), (50, .aload_n 0, 1), (51, .getfield 18, 3), (54, .invokevirtual 86, 3), (57, .aload_n 0, 1), (58, .iload_n 1, 1), (59, .invokevirtual 222, 3), (62, .aload_n 0, 1)] := dk_dX5_sum_32.2.2.2.2.2.2.2.2
theorem dX5_sum_49 : decode cX5_sum 49 = .ok (.aload_n 0, 1) := dk_dX5_sum_32_8.1
theorem dX5_sum_50 : decode cX5_sum 50 = .ok (.aload_n 0, 1) := dk_dX5_sum_32_8.2.1
theorem dX5_sum_51 : decode cX5_sum 51 = .ok (.getfield 18, 3) := dk_dX5_sum_32_8.2.2.1
theorem dX5_sum_54 : decode cX5_sum 54 = .ok (.invokevirtual 86, 3) := dk_dX5_sum_32_8.2.2.2.1
theorem dX5_sum_57 : decode cX5_sum 57 = .ok (.aload_n 0, 1) := dk_dX5_sum_32_8.2.2.2.2.1
theorem dX5_sum_58 : decode cX5_sum 58 = .ok (.iload_n 1, 1) := dk_dX5_sum_32_8.2.2.2.2.2.1
theorem dX5_sum_59 : decode cX5_sum 59 = .ok (.invokevirtual 222, 3) := dk_dX5_sum_32_8.2.2.2.2.2.2.1
theorem dX5_sum_62 : decode cX5_sum 62 = .ok (.aload_n 0, 1) := dk_dX5_sum_32_8.2.2.2.2.2.2.2.1
theorem dk_dX5_sum_63 : dz_C cX5_sum [(63, .iload_n 3, 1), (64, .invokevirtual 199, 3), (67, .iinc 2 1, 3), (70, .goto (-63), 3), (73, .return_, 1)] := dz_of (by decide +kernel)
theorem dX5_sum_63 : decode cX5_sum 63 = .ok (.iload_n 3, 1) := dk_dX5_sum_63.1
theorem dX5_sum_64 : decode cX5_sum 64 = .ok (.invokevirtual 199, 3) := dk_dX5_sum_63.2.1
theorem dX5_sum_67 : decode cX5_sum 67 = .ok (.iinc 2 1, 3) := dk_dX5_sum_63.2.2.1
theorem dX5_sum_70 : decode cX5_sum 70 = .ok (.goto (-63), 3) := dk_dX5_sum_63.2.2.2.1
theorem dX5_sum_73 : decode cX5_sum 73 = .ok (.return_, 1) := dk_dX5_sum_63.2.2.2.2.1
theorem dk_dX5_takeWord_0 : dz_C cX5_takeWord [(0, .aload_n 0, 1), (1, .aload_n 1, 1), (2, .invokevirtual 54, 3), (5, .iconst (-1), 1), (6, .if_icmp .eq 7, 3), (9, .iconst 1, 1), (10, .goto 4, 3), (13, .iconst 0, 1), (14, .istore_n 2, 1), (15, .iload_n 2, 1), (16, .ifCond .eq 11, 3), (19, .aload_n 0, 1), (20, .aload_n 0, 1), (21, .getfield 18, 3), (24, .invokevirtual 86, 3), (27, .iload_n 2, 1)] := dz_of (by decide +kernel)
theorem dX5_takeWord_0 : decode cX5_takeWord 0 = .ok (.aload_n 0, 1) := dk_dX5_takeWord_0.1
theorem dX5_takeWord_1 : decode cX5_takeWord 1 = .ok (.aload_n 1, 1) := dk_dX5_takeWord_0.2.1
theorem dX5_takeWord_2 : decode cX5_takeWord 2 = .ok (.invokevirtual 54, 3) := dk_dX5_takeWord_0.2.2.1
theorem dX5_takeWord_5 : decode cX5_takeWord 5 = .ok (.iconst (-1), 1) := dk_dX5_takeWord_0.2.2.2.1
theorem dX5_takeWord_6 : decode cX5_takeWord 6 = .ok (.if_icmp .eq 7, 3) := dk_dX5_takeWord_0.2.2.2.2.1
theorem dX5_takeWord_9 : decode cX5_takeWord 9 = .ok (.iconst 1, 1) := dk_dX5_takeWord_0.2.2.2.2.2.1
theorem dX5_takeWord_10 : decode cX5_takeWord 10 = .ok (.goto 4, 3) := dk_dX5_takeWord_0.2.2.2.2.2.2.1
theorem dX5_takeWord_13 : decode cX5_takeWord 13 = .ok (.iconst 0, 1) := dk_dX5_takeWord_0.2.2.2.2.2.2.2.1
theorem dk_dX5_takeWord_0_8 : dz_C cX5_takeWord [(14, .istore_n 2, 1), (15, .iload_n 2, 1), (16, .ifCond .eq 11, 3), (19, .aload_n 0, 1), (20, .aload_n 0, 1), (21, .getfield 18, 3), (24, .invokevirtual 86, 3), (27, .iload_n 2, 1)] := dk_dX5_takeWord_0.2.2.2.2.2.2.2.2
theorem dX5_takeWord_14 : decode cX5_takeWord 14 = .ok (.istore_n 2, 1) := dk_dX5_takeWord_0_8.1
theorem dX5_takeWord_15 : decode cX5_takeWord 15 = .ok (.iload_n 2, 1) := dk_dX5_takeWord_0_8.2.1
theorem dX5_takeWord_16 : decode cX5_takeWord 16 = .ok (.ifCond .eq 11, 3) := dk_dX5_takeWord_0_8.2.2.1
theorem dX5_takeWord_19 : decode cX5_takeWord 19 = .ok (.aload_n 0, 1) := dk_dX5_takeWord_0_8.2.2.2.1
theorem dX5_takeWord_20 : decode cX5_takeWord 20 = .ok (.aload_n 0, 1) := dk_dX5_takeWord_0_8.2.2.2.2.1
theorem dX5_takeWord_21 : decode cX5_takeWord 21 = .ok (.getfield 18, 3) := dk_dX5_takeWord_0_8.2.2.2.2.2.1
theorem dX5_takeWord_24 : decode cX5_takeWord 24 = .ok (.invokevirtual 86, 3) := dk_dX5_takeWord_0_8.2.2.2.2.2.2.1
theorem dX5_takeWord_27 : decode cX5_takeWord 27 = .ok (.iload_n 2, 1) := dk_dX5_takeWord_0_8.2.2.2.2.2.2.2.1
theorem dk_dX5_takeWord_28 : dz_C cX5_takeWord [(28, .ireturn, 1)] := dz_of (by decide +kernel)
theorem dX5_takeWord_28 : decode cX5_takeWord 28 = .ok (.ireturn, 1) := dk_dX5_takeWord_28.1
theorem dk_dX5_test_0 : dz_C cX5_test [(0, .aload_n 0, 1), (1, .iload_n 1, 1), (2, .invokevirtual 190, 3), (5, .iconst 0, 1), (6, .istore_n 2, 1), (7, .iload_n 2, 1), (8, .sipush 1600, 3), (11, .if_icmp .ge 29, 3), (14, .aload_n 0, 1), (15, .ldc 193, 2), (17, .invokevirtual 195, 3), (20, .ifCond .eq 20, 3), (23, .aload_n 0, 1), (24, .iload_n 1, 1), (25, .invokevirtual 190, 3), (28, .aload_n 0, 1)] := dz_of (by decide +kernel)
theorem dX5_test_0 : decode cX5_test 0 = .ok (.aload_n 0, 1) := dk_dX5_test_0.1
theorem dX5_test_1 : decode cX5_test 1 = .ok (.iload_n 1, 1) := dk_dX5_test_0.2.1
theorem dX5_test_2 : decode cX5_test 2 = .ok (.invokevirtual 190, 3) := dk_dX5_test_0.2.2.1
theorem dX5_test_5 : decode cX5_test 5 = .ok (.iconst 0, 1) := dk_dX5_test_0.2.2.2.1
theorem dX5_test_6 : decode cX5_test 6 = .ok (.istore_n 2, 1) := dk_dX5_test_0.2.2.2.2.1
theorem dX5_test_7 : decode cX5_test 7 = .ok (.iload_n 2, 1) := dk_dX5_test_0.2.2.2.2.2.1
theorem dX5_test_8 : decode cX5_test 8 = .ok (.sipush 1600, 3) := dk_dX5_test_0.2.2.2.2.2.2.1
theorem dX5_test_11 : decode cX5_test 11 = .ok (.if_icmp .ge 29, 3) := dk_dX5_test_0.2.2.2.2.2.2.2.1
theorem dk_dX5_test_0_8 : dz_C cX5_test [(14, .aload_n 0, 1), (15, .ldc 193, 2), (17, .invokevirtual 195, 3), (20, .ifCond .eq 20, 3), (23, .aload_n 0, 1), (24, .iload_n 1, 1), (25, .invokevirtual 190, 3), (28, .aload_n 0, 1)] := dk_dX5_test_0.2.2.2.2.2.2.2.2
theorem dX5_test_14 : decode cX5_test 14 = .ok (.aload_n 0, 1) := dk_dX5_test_0_8.1
theorem dX5_test_15 : decode cX5_test 15 = .ok (.ldc 193, 2) := dk_dX5_test_0_8.2.1
theorem dX5_test_17 : decode cX5_test 17 = .ok (.invokevirtual 195, 3) := dk_dX5_test_0_8.2.2.1
theorem dX5_test_20 : decode cX5_test 20 = .ok (.ifCond .eq 20, 3) := dk_dX5_test_0_8.2.2.2.1
theorem dX5_test_23 : decode cX5_test 23 = .ok (.aload_n 0, 1) := dk_dX5_test_0_8.2.2.2.2.1
theorem dX5_test_24 : decode cX5_test 24 = .ok (.iload_n 1, 1) := dk_dX5_test_0_8.2.2.2.2.2.1
theorem dX5_test_25 : decode cX5_test 25 = .ok (.invokevirtual 190, 3) := dk_dX5_test_0_8.2.2.2.2.2.2.1
theorem dX5_test_28 : decode cX5_test 28 = .ok (.aload_n 0, 1) := dk_dX5_test_0_8.2.2.2.2.2.2.2.1
theorem dk_dX5_test_29 : dz_C cX5_test [(29, .bipush (-30), 2), (31, .invokevirtual 199, 3), (34, .iinc 2 1, 3), (37, .goto (-30), 3), (40, .return_, 1)] := dz_of (by decide +kernel)
theorem dX5_test_29 : decode cX5_test 29 = .ok (.bipush (-30), 2) := dk_dX5_test_29.1
theorem dX5_test_31 : decode cX5_test 31 = .ok (.invokevirtual 199, 3) := dk_dX5_test_29.2.1
theorem dX5_test_34 : decode cX5_test 34 = .ok (.iinc 2 1, 3) := dk_dX5_test_29.2.2.1
theorem dX5_test_37 : decode cX5_test 37 = .ok (.goto (-30), 3) := dk_dX5_test_29.2.2.2.1
theorem dX5_test_40 : decode cX5_test 40 = .ok (.return_, 1) := dk_dX5_test_29.2.2.2.2.1
theorem dk_dX5_wordIn_0 : dz_C cX5_wordIn [(0, .aload_n 0, 1), (1, .getfield 21, 3), (4, .iconst 1, 1), (5, .if_icmp .eq 5, 3), (8, .iconst (-1), 1), (9, .ireturn, 1), (10, .iconst 0, 1), (11, .istore_n 2, 1), (12, .aload_n 0, 1), (13, .getfield 15, 3), (16, .istore_n 3, 1), (17, .iconst 1, 1), (18, .istore 4, 2), (20, .iconst 0, 1), (21, .istore 5, 2), (23, .iload 5, 2)] := dz_of (by decide +kernel)
theorem dX5_wordIn_0 : decode cX5_wordIn 0 = .ok (.aload_n 0, 1) := dk_dX5_wordIn_0.1
theorem dX5_wordIn_1 : decode cX5_wordIn 1 = .ok (.getfield 21, 3) := dk_dX5_wordIn_0.2.1
theorem dX5_wordIn_4 : decode cX5_wordIn 4 = .ok (.iconst 1, 1) := dk_dX5_wordIn_0.2.2.1
theorem dX5_wordIn_5 : decode cX5_wordIn 5 = .ok (.if_icmp .eq 5, 3) := dk_dX5_wordIn_0.2.2.2.1
theorem dX5_wordIn_8 : decode cX5_wordIn 8 = .ok (.iconst (-1), 1) := dk_dX5_wordIn_0.2.2.2.2.1
theorem dX5_wordIn_9 : decode cX5_wordIn 9 = .ok (.ireturn, 1) := dk_dX5_wordIn_0.2.2.2.2.2.1
theorem dX5_wordIn_10 : decode cX5_wordIn 10 = .ok (.iconst 0, 1) := dk_dX5_wordIn_0.2.2.2.2.2.2.1
theorem dX5_wordIn_11 : decode cX5_wordIn 11 = .ok (.istore_n 2, 1) := dk_dX5_wordIn_0.2.2.2.2.2.2.2.1
theorem dk_dX5_wordIn_0_8 : dz_C cX5_wordIn [(12, .aload_n 0, 1), (13, .getfield 15, 3), (16, .istore_n 3, 1), (17, .iconst 1, 1), (18, .istore 4, 2), (20, .iconst 0, 1), (21, .istore 5, 2), (23, .iload 5, 2)] := dk_dX5_wordIn_0.2.2.2.2.2.2.2.2
theorem dX5_wordIn_12 : decode cX5_wordIn 12 = .ok (.aload_n 0, 1) := dk_dX5_wordIn_0_8.1
theorem dX5_wordIn_13 : decode cX5_wordIn 13 = .ok (.getfield 15, 3) := dk_dX5_wordIn_0_8.2.1
theorem dX5_wordIn_16 : decode cX5_wordIn 16 = .ok (.istore_n 3, 1) := dk_dX5_wordIn_0_8.2.2.1
theorem dX5_wordIn_17 : decode cX5_wordIn 17 = .ok (.iconst 1, 1) := dk_dX5_wordIn_0_8.2.2.2.1
theorem dX5_wordIn_18 : decode cX5_wordIn 18 = .ok (.istore 4, 2) := dk_dX5_wordIn_0_8.2.2.2.2.1
theorem dX5_wordIn_20 : decode cX5_wordIn 20 = .ok (.iconst 0, 1) := dk_dX5_wordIn_0_8.2.2.2.2.2.1
theorem dX5_wordIn_21 : decode cX5_wordIn 21 = .ok (.istore 5, 2) := dk_dX5_wordIn_0_8.2.2.2.2.2.2.1
theorem dX5_wordIn_23 : decode cX5_wordIn 23 = .ok (.iload 5, 2) := dk_dX5_wordIn_0_8.2.2.2.2.2.2.2.1
theorem dk_dX5_wordIn_25 : dz_C cX5_wordIn [(25, .aload_n 1, 1), (26, .invokevirtual 244, 3), (29, .if_icmp .gt 96, 3), (32, .iload 5, 2), (34, .aload_n 1, 1), (35, .invokevirtual 244, 3), (38, .if_icmp .eq 14, 3), (41, .aload_n 1, 1), (42, .iload 5, 2), (44, .invokevirtual 248, 3), (47, .bipush 32, 2), (49, .if_icmp .ne 32, 3), (52, .iload 4, 2), (54, .ifCond .eq 13, 3), (57, .iload_n 3, 1), (58, .aload_n 0, 1)] := dz_of (by decide +kernel)
theorem dX5_wordIn_25 : decode cX5_wordIn 25 = .ok (.aload_n 1, 1) := dk_dX5_wordIn_25.1
theorem dX5_wordIn_26 : decode cX5_wordIn 26 = .ok (.invokevirtual 244, 3) := dk_dX5_wordIn_25.2.1
theorem dX5_wordIn_29 : decode cX5_wordIn 29 = .ok (.if_icmp .gt 96, 3) := dk_dX5_wordIn_25.2.2.1
theorem dX5_wordIn_32 : decode cX5_wordIn 32 = .ok (.iload 5, 2) := dk_dX5_wordIn_25.2.2.2.1
theorem dX5_wordIn_34 : decode cX5_wordIn 34 = .ok (.aload_n 1, 1) := dk_dX5_wordIn_25.2.2.2.2.1
theorem dX5_wordIn_35 : decode cX5_wordIn 35 = .ok (.invokevirtual 244, 3) := dk_dX5_wordIn_25.2.2.2.2.2.1
theorem dX5_wordIn_38 : decode cX5_wordIn 38 = .ok (.if_icmp .eq 14, 3) := dk_dX5_wordIn_25.2.2.2.2.2.2.1
theorem dX5_wordIn_41 : decode cX5_wordIn 41 = .ok (.aload_n 1, 1) := dk_dX5_wordIn_25.2.2.2.2.2.2.2.1
theorem dk_dX5_wordIn_25_8 : dz_C cX5_wordIn [(42, .iload 5, 2), (44, .invokevirtual 248, 3), (47, .bipush 32, 2), (49, .if_icmp .ne 32, 3), (52, .iload 4, 2), (54, .ifCond .eq 13, 3), (57, .iload_n 3, 1), (58, .aload_n 0, 1)] := dk_dX5_wordIn_25.2.2.2.2.2.2.2.2
theorem dX5_wordIn_42 : decode cX5_wordIn 42 = .ok (.iload 5, 2) := dk_dX5_wordIn_25_8.1
theorem dX5_wordIn_44 : decode cX5_wordIn 44 = .ok (.invokevirtual 248, 3) := dk_dX5_wordIn_25_8.2.1
theorem dX5_wordIn_47 : decode cX5_wordIn 47 = .ok (.bipush 32, 2) := dk_dX5_wordIn_25_8.2.2.1
theorem dX5_wordIn_49 : decode cX5_wordIn 49 = .ok (.if_icmp .ne 32, 3) := dk_dX5_wordIn_25_8.2.2.2.1
theorem dX5_wordIn_52 : decode cX5_wordIn 52 = .ok (.iload 4, 2) := dk_dX5_wordIn_25_8.2.2.2.2.1
theorem dX5_wordIn_54 : decode cX5_wordIn 54 = .ok (.ifCond .eq 13, 3) := dk_dX5_wordIn_25_8.2.2.2.2.2.1
theorem dX5_wordIn_57 : decode cX5_wordIn 57 = .ok (.iload_n 3, 1) := dk_dX5_wordIn_25_8.2.2.2.2.2.2.1
theorem dX5_wordIn_58 : decode cX5_wordIn 58 = .ok (.aload_n 0, 1) := dk_dX5_wordIn_25_8.2.2.2.2.2.2.2.1
theorem dk_dX5_wordIn_59 : dz_C cX5_wordIn [(59, .getfield 18, 3), (62, .if_icmp .ne 5, 3), (65, .iload_n 2, 1), (66, .ireturn, 1), (67, .iinc 2 1, 3), (70, .aload_n 0, 1), (71, .getfield 15, 3), (74, .istore_n 3, 1), (75, .iconst 1, 1), (76, .istore 4, 2), (78, .goto 41, 3), (81, .iload 4, 2), (83, .ifCond .eq 30, 3), (86, .iload_n 3, 1), (87, .aload_n 0, 1), (88, .getfield 18, 3)] := dz_of (by decide +kernel)
theorem dX5_wordIn_59 : decode cX5_wordIn 59 = .ok (.getfield 18, 3) := dk_dX5_wordIn_59.1
theorem dX5_wordIn_62 : decode cX5_wordIn 62 = .ok (.if_icmp .ne 5, 3) := dk_dX5_wordIn_59.2.1
theorem dX5_wordIn_65 : decode cX5_wordIn 65 = .ok (.iload_n 2, 1) := dk_dX5_wordIn_59.2.2.1
theorem dX5_wordIn_66 : decode cX5_wordIn 66 = .ok (.ireturn, 1) := dk_dX5_wordIn_59.2.2.2.1
theorem dX5_wordIn_67 : decode cX5_wordIn 67 = .ok (.iinc 2 1, 3) := dk_dX5_wordIn_59.2.2.2.2.1
theorem dX5_wordIn_70 : decode cX5_wordIn 70 = .ok (.aload_n 0, 1) := dk_dX5_wordIn_59.2.2.2.2.2.1
theorem dX5_wordIn_71 : decode cX5_wordIn 71 = .ok (.getfield 15, 3) := dk_dX5_wordIn_59.2.2.2.2.2.2.1
theorem dX5_wordIn_74 : decode cX5_wordIn 74 = .ok (.istore_n 3, 1) := dk_dX5_wordIn_59.2.2.2.2.2.2.2.1
theorem dk_dX5_wordIn_59_8 : dz_C cX5_wordIn [(75, .iconst 1, 1), (76, .istore 4, 2), (78, .goto 41, 3), (81, .iload 4, 2), (83, .ifCond .eq 30, 3), (86, .iload_n 3, 1), (87, .aload_n 0, 1), (88, .getfield 18, 3)] := dk_dX5_wordIn_59.2.2.2.2.2.2.2.2
theorem dX5_wordIn_75 : decode cX5_wordIn 75 = .ok (.iconst 1, 1) := dk_dX5_wordIn_59_8.1
theorem dX5_wordIn_76 : decode cX5_wordIn 76 = .ok (.istore 4, 2) := dk_dX5_wordIn_59_8.2.1
theorem dX5_wordIn_78 : decode cX5_wordIn 78 = .ok (.goto 41, 3) := dk_dX5_wordIn_59_8.2.2.1
theorem dX5_wordIn_81 : decode cX5_wordIn 81 = .ok (.iload 4, 2) := dk_dX5_wordIn_59_8.2.2.2.1
theorem dX5_wordIn_83 : decode cX5_wordIn 83 = .ok (.ifCond .eq 30, 3) := dk_dX5_wordIn_59_8.2.2.2.2.1
theorem dX5_wordIn_86 : decode cX5_wordIn 86 = .ok (.iload_n 3, 1) := dk_dX5_wordIn_59_8.2.2.2.2.2.1
theorem dX5_wordIn_87 : decode cX5_wordIn 87 = .ok (.aload_n 0, 1) := dk_dX5_wordIn_59_8.2.2.2.2.2.2.1
theorem dX5_wordIn_88 : decode cX5_wordIn 88 = .ok (.getfield 18, 3) := dk_dX5_wordIn_59_8.2.2.2.2.2.2.2.1
theorem dk_dX5_wordIn_91 : dz_C cX5_wordIn [(91, .if_icmp .ge 22, 3), (94, .aload_n 0, 1), (95, .getfield 33, 3), (98, .iload_n 3, 1), (99, .iaload, 1), (100, .aload_n 1, 1), (101, .iload 5, 2), (103, .invokevirtual 248, 3), (106, .if_icmp .ne 7, 3), (109, .iconst 1, 1), (110, .goto 4, 3), (113, .iconst 0, 1), (114, .istore 4, 2), (116, .iinc 3 1, 3), (119, .iinc 5 1, 3), (122, .goto (-99), 3)] := dz_of (by decide +kernel)
theorem dX5_wordIn_91 : decode cX5_wordIn 91 = .ok (.if_icmp .ge 22, 3) := dk_dX5_wordIn_91.1
theorem dX5_wordIn_94 : decode cX5_wordIn 94 = .ok (.aload_n 0, 1) := dk_dX5_wordIn_91.2.1
theorem dX5_wordIn_95 : decode cX5_wordIn 95 = .ok (.getfield 33, 3) := dk_dX5_wordIn_91.2.2.1
theorem dX5_wordIn_98 : decode cX5_wordIn 98 = .ok (.iload_n 3, 1) := dk_dX5_wordIn_91.2.2.2.1
theorem dX5_wordIn_99 : decode cX5_wordIn 99 = .ok (.iaload, 1) := dk_dX5_wordIn_91.2.2.2.2.1
theorem dX5_wordIn_100 : decode cX5_wordIn 100 = .ok (.aload_n 1, 1) := dk_dX5_wordIn_91.2.2.2.2.2.1
theorem dX5_wordIn_101 : decode cX5_wordIn 101 = .ok (.iload 5, 2) := dk_dX5_wordIn_91.2.2.2.2.2.2.1
theorem dX5_wordIn_103 : decode cX5_wordIn 103 = .ok (.invokevirtual 248, 3) := dk_dX5_wordIn_91.2.2.2.2.2.2.2.1
theorem dk_dX5_wordIn_91_8 : dz_C cX5_wordIn [(106, .if_icmp .ne 7, 3), (109, .iconst 1, 1), (110, .goto 4, 3), (113, .iconst 0, 1), (114, .istore 4, 2), (116, .iinc 3 1, 3), (119, .iinc 5 1, 3), (122, .goto (-99), 3)] := dk_dX5_wordIn_91.2.2.2.2.2.2.2.2
theorem dX5_wordIn_106 : decode cX5_wordIn 106 = .ok (.if_icmp .ne 7, 3) := dk_dX5_wordIn_91_8.1
theorem dX5_wordIn_109 : decode cX5_wordIn 109 = .ok (.iconst 1, 1) := dk_dX5_wordIn_91_8.2.1
theorem dX5_wordIn_110 : decode cX5_wordIn 110 = .ok (.goto 4, 3) := dk_dX5_wordIn_91_8.2.2.1
theorem dX5_wordIn_113 : decode cX5_wordIn 113 = .ok (.iconst 0, 1) := dk_dX5_wordIn_91_8.2.2.2.1
theorem dX5_wordIn_114 : decode cX5_wordIn 114 = .ok (.istore 4, 2) := dk_dX5_wordIn_91_8.2.2.2.2.1
theorem dX5_wordIn_116 : decode cX5_wordIn 116 = .ok (.iinc 3 1, 3) := dk_dX5_wordIn_91_8.2.2.2.2.2.1
theorem dX5_wordIn_119 : decode cX5_wordIn 119 = .ok (.iinc 5 1, 3) := dk_dX5_wordIn_91_8.2.2.2.2.2.2.1
theorem dX5_wordIn_122 : decode cX5_wordIn 122 = .ok (.goto (-99), 3) := dk_dX5_wordIn_91_8.2.2.2.2.2.2.2.1
theorem dk_dX5_wordIn_125 : dz_C cX5_wordIn [(125, .iconst (-1), 1), (126, .ireturn, 1)] := dz_of (by decide +kernel)
theorem dX5_wordIn_125 : decode cX5_wordIn 125 = .ok (.iconst (-1), 1) := dk_dX5_wordIn_125.1
theorem dX5_wordIn_126 : decode cX5_wordIn 126 = .ok (.ireturn, 1) := dk_dX5_wordIn_125.2.1
theorem dk_dX5_wrongInName_0 : dz_C cX5_wrongInName [(0, .aload_n 0, 1), (1, .getfield 21, 3), (4, .iconst 1, 1), (5, .if_icmp .ne 27, 3), (8, .aload_n 0, 1), (9, .getfield 18, 3), (12, .aload_n 0, 1), (13, .getfield 15, 3), (16, .isub, 1), (17, .bipush 6, 2), (19, .if_icmp .le 13, 3), (22, .aload_n 0, 1), (23, .getfield 15, 3), (26, .bipush 6, 2), (28, .iadd, 1), (29, .goto 7, 3)] := dz_of (by decide +kernel)
theorem dX5_wrongInName_0 : decode cX5_wrongInName 0 = .ok (.aload_n 0, 1) := dk_dX5_wrongInName_0.1
theorem dX5_wrongInName_1 : decode cX5_wrongInName 1 = .ok (.getfield 21, 3) := dk_dX5_wrongInName_0.2.1
theorem dX5_wrongInName_4 : decode cX5_wrongInName 4 = .ok (.iconst 1, 1) := dk_dX5_wrongInName_0.2.2.1
theorem dX5_wrongInName_5 : decode cX5_wrongInName 5 = .ok (.if_icmp .ne 27, 3) := dk_dX5_wrongInName_0.2.2.2.1
theorem dX5_wrongInName_8 : decode cX5_wrongInName 8 = .ok (.aload_n 0, 1) := dk_dX5_wrongInName_0.2.2.2.2.1
theorem dX5_wrongInName_9 : decode cX5_wrongInName 9 = .ok (.getfield 18, 3) := dk_dX5_wrongInName_0.2.2.2.2.2.1
theorem dX5_wrongInName_12 : decode cX5_wrongInName 12 = .ok (.aload_n 0, 1) := dk_dX5_wrongInName_0.2.2.2.2.2.2.1
theorem dX5_wrongInName_13 : decode cX5_wrongInName 13 = .ok (.getfield 15, 3) := dk_dX5_wrongInName_0.2.2.2.2.2.2.2.1
theorem dk_dX5_wrongInName_0_8 : dz_C cX5_wrongInName [(16, .isub, 1), (17, .bipush 6, 2), (19, .if_icmp .le 13, 3), (22, .aload_n 0, 1), (23, .getfield 15, 3), (26, .bipush 6, 2), (28, .iadd, 1), (29, .goto 7, 3)] := dk_dX5_wrongInName_0.2.2.2.2.2.2.2.2
theorem dX5_wrongInName_16 : decode cX5_wrongInName 16 = .ok (.isub, 1) := dk_dX5_wrongInName_0_8.1
theorem dX5_wrongInName_17 : decode cX5_wrongInName 17 = .ok (.bipush 6, 2) := dk_dX5_wrongInName_0_8.2.1
theorem dX5_wrongInName_19 : decode cX5_wrongInName 19 = .ok (.if_icmp .le 13, 3) := dk_dX5_wrongInName_0_8.2.2.1
theorem dX5_wrongInName_22 : decode cX5_wrongInName 22 = .ok (.aload_n 0, 1) := dk_dX5_wrongInName_0_8.2.2.2.1
theorem dX5_wrongInName_23 : decode cX5_wrongInName 23 = .ok (.getfield 15, 3) := dk_dX5_wrongInName_0_8.2.2.2.2.1
theorem dX5_wrongInName_26 : decode cX5_wrongInName 26 = .ok (.bipush 6, 2) := dk_dX5_wrongInName_0_8.2.2.2.2.2.1
theorem dX5_wrongInName_28 : decode cX5_wrongInName 28 = .ok (.iadd, 1) := dk_dX5_wrongInName_0_8.2.2.2.2.2.2.1
theorem dX5_wrongInName_29 : decode cX5_wrongInName 29 = .ok (.goto 7, 3) := dk_dX5_wrongInName_0_8.2.2.2.2.2.2.2.1
theorem dk_dX5_wrongInName_32 : dz_C cX5_wrongInName [(32, .aload_n 0, 1), (33, .getfield 15, 3), (36, .ireturn, 1)] := dz_of (by decide +kernel)
theorem dX5_wrongInName_32 : decode cX5_wrongInName 32 = .ok (.aload_n 0, 1) := dk_dX5_wrongInName_32.1
theorem dX5_wrongInName_33 : decode cX5_wrongInName 33 = .ok (.getfield 15, 3) := dk_dX5_wrongInName_32.2.1
theorem dX5_wrongInName_36 : decode cX5_wrongInName 36 = .ok (.ireturn, 1) := dk_dX5_wrongInName_32.2.2.1
theorem dk_dX6_begin_0 : dz_C cX6_begin [(0, .aload_n 0, 1), (1, .iconst 0, 1), (2, .putfield 9, 3), (5, .aload_n 0, 1), (6, .aload_n 1, 1), (7, .getfield 25, 3), (10, .putfield 15, 3), (13, .aload_n 0, 1), (14, .aload_n 1, 1), (15, .getfield 28, 3), (18, .putfield 18, 3), (21, .aload_n 1, 1), (22, .getfield 29, 3), (25, .iconst 0, 1), (26, .aload_n 0, 1), (27, .getfield 21, 3)] := dz_of (by decide +kernel)
theorem dX6_begin_0 : decode cX6_begin 0 = .ok (.aload_n 0, 1) := dk_dX6_begin_0.1
theorem dX6_begin_1 : decode cX6_begin 1 = .ok (.iconst 0, 1) := dk_dX6_begin_0.2.1
theorem dX6_begin_2 : decode cX6_begin 2 = .ok (.putfield 9, 3) := dk_dX6_begin_0.2.2.1
theorem dX6_begin_5 : decode cX6_begin 5 = .ok (.aload_n 0, 1) := dk_dX6_begin_0.2.2.2.1
theorem dX6_begin_6 : decode cX6_begin 6 = .ok (.aload_n 1, 1) := dk_dX6_begin_0.2.2.2.2.1
theorem dX6_begin_7 : decode cX6_begin 7 = .ok (.getfield 25, 3) := dk_dX6_begin_0.2.2.2.2.2.1
theorem dX6_begin_10 : decode cX6_begin 10 = .ok (.putfield 15, 3) := dk_dX6_begin_0.2.2.2.2.2.2.1
theorem dX6_begin_13 : decode cX6_begin 13 = .ok (.aload_n 0, 1) := dk_dX6_begin_0.2.2.2.2.2.2.2.1
theorem dk_dX6_begin_0_8 : dz_C cX6_begin [(14, .aload_n 1, 1), (15, .getfield 28, 3), (18, .putfield 18, 3), (21, .aload_n 1, 1), (22, .getfield 29, 3), (25, .iconst 0, 1), (26, .aload_n 0, 1), (27, .getfield 21, 3)] := dk_dX6_begin_0.2.2.2.2.2.2.2.2
theorem dX6_begin_14 : decode cX6_begin 14 = .ok (.aload_n 1, 1) := dk_dX6_begin_0_8.1
theorem dX6_begin_15 : decode cX6_begin 15 = .ok (.getfield 28, 3) := dk_dX6_begin_0_8.2.1
theorem dX6_begin_18 : decode cX6_begin 18 = .ok (.putfield 18, 3) := dk_dX6_begin_0_8.2.2.1
theorem dX6_begin_21 : decode cX6_begin 21 = .ok (.aload_n 1, 1) := dk_dX6_begin_0_8.2.2.2.1
theorem dX6_begin_22 : decode cX6_begin 22 = .ok (.getfield 29, 3) := dk_dX6_begin_0_8.2.2.2.2.1
theorem dX6_begin_25 : decode cX6_begin 25 = .ok (.iconst 0, 1) := dk_dX6_begin_0_8.2.2.2.2.2.1
theorem dX6_begin_26 : decode cX6_begin 26 = .ok (.aload_n 0, 1) := dk_dX6_begin_0_8.2.2.2.2.2.2.1
theorem dX6_begin_27 : decode cX6_begin 27 = .ok (.getfield 21, 3) := dk_dX6_begin_0_8.2.2.2.2.2.2.2.1
theorem dk_dX6_begin_30 : dz_C cX6_begin [(30, .iconst 0, 1), (31, .bipush 6, 2), (33, .invokestatic 30, 3), (36, .return_, 1)] := dz_of (by decide +kernel)
theorem dX6_begin_30 : decode cX6_begin 30 = .ok (.iconst 0, 1) := dk_dX6_begin_30.1
theorem dX6_begin_31 : decode cX6_begin 31 = .ok (.bipush 6, 2) := dk_dX6_begin_30.2.1
theorem dX6_begin_33 : decode cX6_begin 33 = .ok (.invokestatic 30, 3) := dk_dX6_begin_30.2.2.1
theorem dX6_begin_36 : decode cX6_begin 36 = .ok (.return_, 1) := dk_dX6_begin_30.2.2.2.1
theorem dk_dX6_copy_0 : dz_C cX6_copy [(0, .aload_n 0, 1), (1, .aload_n 1, 1), (2, .getfield 9, 3), (5, .putfield 9, 3), (8, .aload_n 0, 1), (9, .aload_n 1, 1), (10, .getfield 15, 3), (13, .putfield 15, 3), (16, .aload_n 0, 1), (17, .aload_n 1, 1), (18, .getfield 18, 3), (21, .putfield 18, 3), (24, .aload_n 1, 1), (25, .getfield 21, 3), (28, .iconst 0, 1), (29, .aload_n 0, 1)] := dz_of (by decide +kernel)
theorem dX6_copy_0 : decode cX6_copy 0 = .ok (.aload_n 0, 1) := dk_dX6_copy_0.1
theorem dX6_copy_1 : decode cX6_copy 1 = .ok (.aload_n 1, 1) := dk_dX6_copy_0.2.1
theorem dX6_copy_2 : decode cX6_copy 2 = .ok (.getfield 9, 3) := dk_dX6_copy_0.2.2.1
theorem dX6_copy_5 : decode cX6_copy 5 = .ok (.putfield 9, 3) := dk_dX6_copy_0.2.2.2.1
theorem dX6_copy_8 : decode cX6_copy 8 = .ok (.aload_n 0, 1) := dk_dX6_copy_0.2.2.2.2.1
theorem dX6_copy_9 : decode cX6_copy 9 = .ok (.aload_n 1, 1) := dk_dX6_copy_0.2.2.2.2.2.1
theorem dX6_copy_10 : decode cX6_copy 10 = .ok (.getfield 15, 3) := dk_dX6_copy_0.2.2.2.2.2.2.1
theorem dX6_copy_13 : decode cX6_copy 13 = .ok (.putfield 15, 3) := dk_dX6_copy_0.2.2.2.2.2.2.2.1
theorem dk_dX6_copy_0_8 : dz_C cX6_copy [(16, .aload_n 0, 1), (17, .aload_n 1, 1), (18, .getfield 18, 3), (21, .putfield 18, 3), (24, .aload_n 1, 1), (25, .getfield 21, 3), (28, .iconst 0, 1), (29, .aload_n 0, 1)] := dk_dX6_copy_0.2.2.2.2.2.2.2.2
theorem dX6_copy_16 : decode cX6_copy 16 = .ok (.aload_n 0, 1) := dk_dX6_copy_0_8.1
theorem dX6_copy_17 : decode cX6_copy 17 = .ok (.aload_n 1, 1) := dk_dX6_copy_0_8.2.1
theorem dX6_copy_18 : decode cX6_copy 18 = .ok (.getfield 18, 3) := dk_dX6_copy_0_8.2.2.1
theorem dX6_copy_21 : decode cX6_copy 21 = .ok (.putfield 18, 3) := dk_dX6_copy_0_8.2.2.2.1
theorem dX6_copy_24 : decode cX6_copy 24 = .ok (.aload_n 1, 1) := dk_dX6_copy_0_8.2.2.2.2.1
theorem dX6_copy_25 : decode cX6_copy 25 = .ok (.getfield 21, 3) := dk_dX6_copy_0_8.2.2.2.2.2.1
theorem dX6_copy_28 : decode cX6_copy 28 = .ok (.iconst 0, 1) := dk_dX6_copy_0_8.2.2.2.2.2.2.1
theorem dX6_copy_29 : decode cX6_copy 29 = .ok (.aload_n 0, 1) := dk_dX6_copy_0_8.2.2.2.2.2.2.2.1
theorem dk_dX6_copy_30 : dz_C cX6_copy [(30, .getfield 21, 3), (33, .iconst 0, 1), (34, .bipush 6, 2), (36, .invokestatic 30, 3), (39, .return_, 1)] := dz_of (by decide +kernel)
theorem dX6_copy_30 : decode cX6_copy 30 = .ok (.getfield 21, 3) := dk_dX6_copy_30.1
theorem dX6_copy_33 : decode cX6_copy 33 = .ok (.iconst 0, 1) := dk_dX6_copy_30.2.1
theorem dX6_copy_34 : decode cX6_copy 34 = .ok (.bipush 6, 2) := dk_dX6_copy_30.2.2.1
theorem dX6_copy_36 : decode cX6_copy 36 = .ok (.invokestatic 30, 3) := dk_dX6_copy_30.2.2.2.1
theorem dX6_copy_39 : decode cX6_copy 39 = .ok (.return_, 1) := dk_dX6_copy_30.2.2.2.2.1
theorem dk_dX6_init_0 : dz_C cX6_init [(0, .aload_n 0, 1), (1, .invokespecial 3, 3), (4, .aload_n 0, 1), (5, .iconst 0, 1), (6, .putfield 9, 3), (9, .aload_n 0, 1), (10, .iconst 0, 1), (11, .putfield 15, 3), (14, .aload_n 0, 1), (15, .iconst 0, 1), (16, .putfield 18, 3), (19, .aload_n 0, 1), (20, .bipush 6, 2), (22, .newarray .int, 2), (24, .putfield 21, 3), (27, .return_, 1)] := dz_of (by decide +kernel)
theorem dX6_init_0 : decode cX6_init 0 = .ok (.aload_n 0, 1) := dk_dX6_init_0.1
theorem dX6_init_1 : decode cX6_init 1 = .ok (.invokespecial 3, 3) := dk_dX6_init_0.2.1
theorem dX6_init_4 : decode cX6_init 4 = .ok (.aload_n 0, 1) := dk_dX6_init_0.2.2.1
theorem dX6_init_5 : decode cX6_init 5 = .ok (.iconst 0, 1) := dk_dX6_init_0.2.2.2.1
theorem dX6_init_6 : decode cX6_init 6 = .ok (.putfield 9, 3) := dk_dX6_init_0.2.2.2.2.1
theorem dX6_init_9 : decode cX6_init 9 = .ok (.aload_n 0, 1) := dk_dX6_init_0.2.2.2.2.2.1
theorem dX6_init_10 : decode cX6_init 10 = .ok (.iconst 0, 1) := dk_dX6_init_0.2.2.2.2.2.2.1
theorem dX6_init_11 : decode cX6_init 11 = .ok (.putfield 15, 3) := dk_dX6_init_0.2.2.2.2.2.2.2.1
theorem dk_dX6_init_0_8 : dz_C cX6_init [(14, .aload_n 0, 1), (15, .iconst 0, 1), (16, .putfield 18, 3), (19, .aload_n 0, 1), (20, .bipush 6, 2), (22, .newarray .int, 2), (24, .putfield 21, 3), (27, .return_, 1)] := dk_dX6_init_0.2.2.2.2.2.2.2.2
theorem dX6_init_14 : decode cX6_init 14 = .ok (.aload_n 0, 1) := dk_dX6_init_0_8.1
theorem dX6_init_15 : decode cX6_init 15 = .ok (.iconst 0, 1) := dk_dX6_init_0_8.2.1
theorem dX6_init_16 : decode cX6_init 16 = .ok (.putfield 18, 3) := dk_dX6_init_0_8.2.2.1
theorem dX6_init_19 : decode cX6_init 19 = .ok (.aload_n 0, 1) := dk_dX6_init_0_8.2.2.2.1
theorem dX6_init_20 : decode cX6_init 20 = .ok (.bipush 6, 2) := dk_dX6_init_0_8.2.2.2.2.1
theorem dX6_init_22 : decode cX6_init 22 = .ok (.newarray .int, 2) := dk_dX6_init_0_8.2.2.2.2.2.1
theorem dX6_init_24 : decode cX6_init 24 = .ok (.putfield 21, 3) := dk_dX6_init_0_8.2.2.2.2.2.2.1
theorem dX6_init_27 : decode cX6_init 27 = .ok (.return_, 1) := dk_dX6_init_0_8.2.2.2.2.2.2.2.1
theorem dk_dX7_allCross_0 : dz_C cX7_allCross [(0, .aload_n 0, 1), (1, .getfield 50, 3), (4, .aload_n 0, 1), (5, .getfield 63, 3), (8, .invokevirtual 143, 3), (11, .if_icmp .ne 7, 3), (14, .iconst 1, 1), (15, .goto 4, 3), (18, .iconst 0, 1), (19, .ireturn, 1)] := dz_of (by decide +kernel)
theorem dX7_allCross_0 : decode cX7_allCross 0 = .ok (.aload_n 0, 1) := dk_dX7_allCross_0.1
theorem dX7_allCross_1 : decode cX7_allCross 1 = .ok (.getfield 50, 3) := dk_dX7_allCross_0.2.1
theorem dX7_allCross_4 : decode cX7_allCross 4 = .ok (.aload_n 0, 1) := dk_dX7_allCross_0.2.2.1
theorem dX7_allCross_5 : decode cX7_allCross 5 = .ok (.getfield 63, 3) := dk_dX7_allCross_0.2.2.2.1
theorem dX7_allCross_8 : decode cX7_allCross 8 = .ok (.invokevirtual 143, 3) := dk_dX7_allCross_0.2.2.2.2.1
theorem dX7_allCross_11 : decode cX7_allCross 11 = .ok (.if_icmp .ne 7, 3) := dk_dX7_allCross_0.2.2.2.2.2.1
theorem dX7_allCross_14 : decode cX7_allCross 14 = .ok (.iconst 1, 1) := dk_dX7_allCross_0.2.2.2.2.2.2.1
theorem dX7_allCross_15 : decode cX7_allCross 15 = .ok (.goto 4, 3) := dk_dX7_allCross_0.2.2.2.2.2.2.2.1
theorem dk_dX7_allCross_0_8 : dz_C cX7_allCross [(18, .iconst 0, 1), (19, .ireturn, 1)] := dk_dX7_allCross_0.2.2.2.2.2.2.2.2
theorem dX7_allCross_18 : decode cX7_allCross 18 = .ok (.iconst 0, 1) := dk_dX7_allCross_0_8.1
theorem dX7_allCross_19 : decode cX7_allCross 19 = .ok (.ireturn, 1) := dk_dX7_allCross_0_8.2.1
theorem dk_dX7_describe_0 : dz_C cX7_describe [(0, .aload_n 0, 1), (1, .getfield 63, 3), (4, .getfield 140, 3), (7, .iload_n 1, 1), (8, .iaload, 1), (9, .istore 5, 2), (11, .aload_n 0, 1), (12, .getfield 59, 3), (15, .getfield 102, 3), (18, .astore 6, 2), (20, .aload 6, 2), (22, .iconst 0, 1), (23, .iload_n 2, 1), (24, .iastore, 1), (25, .aload 6, 2), (27, .iconst 1, 1)] := dz_of (by decide +kernel)
theorem dX7_describe_0 : decode cX7_describe 0 = .ok (.aload_n 0, 1) := dk_dX7_describe_0.1
theorem dX7_describe_1 : decode cX7_describe 1 = .ok (.getfield 63, 3) := dk_dX7_describe_0.2.1
theorem dX7_describe_4 : decode cX7_describe 4 = .ok (.getfield 140, 3) := dk_dX7_describe_0.2.2.1
theorem dX7_describe_7 : decode cX7_describe 7 = .ok (.iload_n 1, 1) := dk_dX7_describe_0.2.2.2.1
theorem dX7_describe_8 : decode cX7_describe 8 = .ok (.iaload, 1) := dk_dX7_describe_0.2.2.2.2.1
theorem dX7_describe_9 : decode cX7_describe 9 = .ok (.istore 5, 2) := dk_dX7_describe_0.2.2.2.2.2.1
theorem dX7_describe_11 : decode cX7_describe 11 = .ok (.aload_n 0, 1) := dk_dX7_describe_0.2.2.2.2.2.2.1
theorem dX7_describe_12 : decode cX7_describe 12 = .ok (.getfield 59, 3) := dk_dX7_describe_0.2.2.2.2.2.2.2.1
theorem dk_dX7_describe_0_8 : dz_C cX7_describe [(15, .getfield 102, 3), (18, .astore 6, 2), (20, .aload 6, 2), (22, .iconst 0, 1), (23, .iload_n 2, 1), (24, .iastore, 1), (25, .aload 6, 2), (27, .iconst 1, 1)] := dk_dX7_describe_0.2.2.2.2.2.2.2.2
theorem dX7_describe_15 : decode cX7_describe 15 = .ok (.getfield 102, 3) := dk_dX7_describe_0_8.1
theorem dX7_describe_18 : decode cX7_describe 18 = .ok (.astore 6, 2) := dk_dX7_describe_0_8.2.1
theorem dX7_describe_20 : decode cX7_describe 20 = .ok (.aload 6, 2) := dk_dX7_describe_0_8.2.2.1
theorem dX7_describe_22 : decode cX7_describe 22 = .ok (.iconst 0, 1) := dk_dX7_describe_0_8.2.2.2.1
theorem dX7_describe_23 : decode cX7_describe 23 = .ok (.iload_n 2, 1) := dk_dX7_describe_0_8.2.2.2.2.1
theorem dX7_describe_24 : decode cX7_describe 24 = .ok (.iastore, 1) := dk_dX7_describe_0_8.2.2.2.2.2.1
theorem dX7_describe_25 : decode cX7_describe 25 = .ok (.aload 6, 2) := dk_dX7_describe_0_8.2.2.2.2.2.2.1
theorem dX7_describe_27 : decode cX7_describe 27 = .ok (.iconst 1, 1) := dk_dX7_describe_0_8.2.2.2.2.2.2.2.1
theorem dk_dX7_describe_28 : dz_C cX7_describe [(28, .aload_n 0, 1), (29, .getfield 9, 3), (32, .iastore, 1), (33, .aload 6, 2), (35, .iconst 3, 1), (36, .iload_n 3, 1), (37, .iastore, 1), (38, .aload 6, 2), (40, .iconst 4, 1), (41, .aload_n 0, 1), (42, .getfield 63, 3), (45, .getfield 160, 3), (48, .iload 5, 2), (50, .iaload, 1), (51, .iastore, 1), (52, .aload 6, 2)] := dz_of (by decide +kernel)
theorem dX7_describe_28 : decode cX7_describe 28 = .ok (.aload_n 0, 1) := dk_dX7_describe_28.1
theorem dX7_describe_29 : decode cX7_describe 29 = .ok (.getfield 9, 3) := dk_dX7_describe_28.2.1
theorem dX7_describe_32 : decode cX7_describe 32 = .ok (.iastore, 1) := dk_dX7_describe_28.2.2.1
theorem dX7_describe_33 : decode cX7_describe 33 = .ok (.aload 6, 2) := dk_dX7_describe_28.2.2.2.1
theorem dX7_describe_35 : decode cX7_describe 35 = .ok (.iconst 3, 1) := dk_dX7_describe_28.2.2.2.2.1
theorem dX7_describe_36 : decode cX7_describe 36 = .ok (.iload_n 3, 1) := dk_dX7_describe_28.2.2.2.2.2.1
theorem dX7_describe_37 : decode cX7_describe 37 = .ok (.iastore, 1) := dk_dX7_describe_28.2.2.2.2.2.2.1
theorem dX7_describe_38 : decode cX7_describe 38 = .ok (.aload 6, 2) := dk_dX7_describe_28.2.2.2.2.2.2.2.1
theorem dk_dX7_describe_28_8 : dz_C cX7_describe [(40, .iconst 4, 1), (41, .aload_n 0, 1), (42, .getfield 63, 3), (45, .getfield 160, 3), (48, .iload 5, 2), (50, .iaload, 1), (51, .iastore, 1), (52, .aload 6, 2)] := dk_dX7_describe_28.2.2.2.2.2.2.2.2
theorem dX7_describe_40 : decode cX7_describe 40 = .ok (.iconst 4, 1) := dk_dX7_describe_28_8.1
theorem dX7_describe_41 : decode cX7_describe 41 = .ok (.aload_n 0, 1) := dk_dX7_describe_28_8.2.1
theorem dX7_describe_42 : decode cX7_describe 42 = .ok (.getfield 63, 3) := dk_dX7_describe_28_8.2.2.1
theorem dX7_describe_45 : decode cX7_describe 45 = .ok (.getfield 160, 3) := dk_dX7_describe_28_8.2.2.2.1
theorem dX7_describe_48 : decode cX7_describe 48 = .ok (.iload 5, 2) := dk_dX7_describe_28_8.2.2.2.2.1
theorem dX7_describe_50 : decode cX7_describe 50 = .ok (.iaload, 1) := dk_dX7_describe_28_8.2.2.2.2.2.1
theorem dX7_describe_51 : decode cX7_describe 51 = .ok (.iastore, 1) := dk_dX7_describe_28_8.2.2.2.2.2.2.1
theorem dX7_describe_52 : decode cX7_describe 52 = .ok (.aload 6, 2) := dk_dX7_describe_28_8.2.2.2.2.2.2.2.1
theorem dk_dX7_describe_54 : dz_C cX7_describe [(54, .iconst 5, 1), (55, .aload_n 0, 1), (56, .getfield 63, 3), (59, .getfield 146, 3), (62, .iload 5, 2), (64, .iaload, 1), (65, .iastore, 1), (66, .aload 6, 2), (68, .bipush 6, 2), (70, .iload 4, 2), (72, .iastore, 1), (73, .return_, 1)] := dz_of (by decide +kernel)
theorem dX7_describe_54 : decode cX7_describe 54 = .ok (.iconst 5, 1) := dk_dX7_describe_54.1
theorem dX7_describe_55 : decode cX7_describe 55 = .ok (.aload_n 0, 1) := dk_dX7_describe_54.2.1
theorem dX7_describe_56 : decode cX7_describe 56 = .ok (.getfield 63, 3) := dk_dX7_describe_54.2.2.1
theorem dX7_describe_59 : decode cX7_describe 59 = .ok (.getfield 146, 3) := dk_dX7_describe_54.2.2.2.1
theorem dX7_describe_62 : decode cX7_describe 62 = .ok (.iload 5, 2) := dk_dX7_describe_54.2.2.2.2.1
theorem dX7_describe_64 : decode cX7_describe 64 = .ok (.iaload, 1) := dk_dX7_describe_54.2.2.2.2.2.1
theorem dX7_describe_65 : decode cX7_describe 65 = .ok (.iastore, 1) := dk_dX7_describe_54.2.2.2.2.2.2.1
theorem dX7_describe_66 : decode cX7_describe 66 = .ok (.aload 6, 2) := dk_dX7_describe_54.2.2.2.2.2.2.2.1
theorem dk_dX7_describe_54_8 : dz_C cX7_describe [(68, .bipush 6, 2), (70, .iload 4, 2), (72, .iastore, 1), (73, .return_, 1)] := dk_dX7_describe_54.2.2.2.2.2.2.2.2
theorem dX7_describe_68 : decode cX7_describe 68 = .ok (.bipush 6, 2) := dk_dX7_describe_54_8.1
theorem dX7_describe_70 : decode cX7_describe 70 = .ok (.iload 4, 2) := dk_dX7_describe_54_8.2.1
theorem dX7_describe_72 : decode cX7_describe 72 = .ok (.iastore, 1) := dk_dX7_describe_54_8.2.2.1
theorem dX7_describe_73 : decode cX7_describe 73 = .ok (.return_, 1) := dk_dX7_describe_54_8.2.2.2.1
theorem dk_dX7_describeWhole_0 : dz_C cX7_describeWhole [(0, .aload_n 0, 1), (1, .getfield 63, 3), (4, .getfield 140, 3), (7, .iload_n 1, 1), (8, .iaload, 1), (9, .istore_n 2, 1), (10, .aload_n 0, 1), (11, .getfield 59, 3), (14, .getfield 102, 3), (17, .astore_n 3, 1), (18, .aload_n 0, 1), (19, .iload_n 1, 1), (20, .aload_n 0, 1), (21, .getfield 63, 3), (24, .getfield 153, 3), (27, .iload_n 1, 1)] := dz_of (by decide +kernel)
theorem dX7_describeWhole_0 : decode cX7_describeWhole 0 = .ok (.aload_n 0, 1) := dk_dX7_describeWhole_0.1
theorem dX7_describeWhole_1 : decode cX7_describeWhole 1 = .ok (.getfield 63, 3) := dk_dX7_describeWhole_0.2.1
theorem dX7_describeWhole_4 : decode cX7_describeWhole 4 = .ok (.getfield 140, 3) := dk_dX7_describeWhole_0.2.2.1
theorem dX7_describeWhole_7 : decode cX7_describeWhole 7 = .ok (.iload_n 1, 1) := dk_dX7_describeWhole_0.2.2.2.1
theorem dX7_describeWhole_8 : decode cX7_describeWhole 8 = .ok (.iaload, 1) := dk_dX7_describeWhole_0.2.2.2.2.1
theorem dX7_describeWhole_9 : decode cX7_describeWhole 9 = .ok (.istore_n 2, 1) := dk_dX7_describeWhole_0.2.2.2.2.2.1
theorem dX7_describeWhole_10 : decode cX7_describeWhole 10 = .ok (.aload_n 0, 1) := dk_dX7_describeWhole_0.2.2.2.2.2.2.1
theorem dX7_describeWhole_11 : decode cX7_describeWhole 11 = .ok (.getfield 59, 3) := dk_dX7_describeWhole_0.2.2.2.2.2.2.2.1
theorem dk_dX7_describeWhole_0_8 : dz_C cX7_describeWhole [(14, .getfield 102, 3), (17, .astore_n 3, 1), (18, .aload_n 0, 1), (19, .iload_n 1, 1), (20, .aload_n 0, 1), (21, .getfield 63, 3), (24, .getfield 153, 3), (27, .iload_n 1, 1)] := dk_dX7_describeWhole_0.2.2.2.2.2.2.2.2
theorem dX7_describeWhole_14 : decode cX7_describeWhole 14 = .ok (.getfield 102, 3) := dk_dX7_describeWhole_0_8.1
theorem dX7_describeWhole_17 : decode cX7_describeWhole 17 = .ok (.astore_n 3, 1) := dk_dX7_describeWhole_0_8.2.1
theorem dX7_describeWhole_18 : decode cX7_describeWhole 18 = .ok (.aload_n 0, 1) := dk_dX7_describeWhole_0_8.2.2.1
theorem dX7_describeWhole_19 : decode cX7_describeWhole 19 = .ok (.iload_n 1, 1) := dk_dX7_describeWhole_0_8.2.2.2.1
theorem dX7_describeWhole_20 : decode cX7_describeWhole 20 = .ok (.aload_n 0, 1) := dk_dX7_describeWhole_0_8.2.2.2.2.1
theorem dX7_describeWhole_21 : decode cX7_describeWhole 21 = .ok (.getfield 63, 3) := dk_dX7_describeWhole_0_8.2.2.2.2.2.1
theorem dX7_describeWhole_24 : decode cX7_describeWhole 24 = .ok (.getfield 153, 3) := dk_dX7_describeWhole_0_8.2.2.2.2.2.2.1
theorem dX7_describeWhole_27 : decode cX7_describeWhole 27 = .ok (.iload_n 1, 1) := dk_dX7_describeWhole_0_8.2.2.2.2.2.2.2.1
theorem dk_dX7_describeWhole_28 : dz_C cX7_describeWhole [(28, .iaload, 1), (29, .aload_n 0, 1), (30, .iload_n 1, 1), (31, .invokevirtual 163, 3), (34, .aload_n 0, 1), (35, .getfield 15, 3), (38, .iload_n 2, 1), (39, .iaload, 1), (40, .invokevirtual 156, 3), (43, .aload_n 3, 1), (44, .bipush 9, 2), (46, .iload_n 1, 1), (47, .iastore, 1), (48, .aload_n 3, 1), (49, .bipush 10, 2), (51, .aload_n 0, 1)] := dz_of (by decide +kernel)
theorem dX7_describeWhole_28 : decode cX7_describeWhole 28 = .ok (.iaload, 1) := dk_dX7_describeWhole_28.1
theorem dX7_describeWhole_29 : decode cX7_describeWhole 29 = .ok (.aload_n 0, 1) := dk_dX7_describeWhole_28.2.1
theorem dX7_describeWhole_30 : decode cX7_describeWhole 30 = .ok (.iload_n 1, 1) := dk_dX7_describeWhole_28.2.2.1
theorem dX7_describeWhole_31 : decode cX7_describeWhole 31 = .ok (.invokevirtual 163, 3) := dk_dX7_describeWhole_28.2.2.2.1
theorem dX7_describeWhole_34 : decode cX7_describeWhole 34 = .ok (.aload_n 0, 1) := dk_dX7_describeWhole_28.2.2.2.2.1
theorem dX7_describeWhole_35 : decode cX7_describeWhole 35 = .ok (.getfield 15, 3) := dk_dX7_describeWhole_28.2.2.2.2.2.1
theorem dX7_describeWhole_38 : decode cX7_describeWhole 38 = .ok (.iload_n 2, 1) := dk_dX7_describeWhole_28.2.2.2.2.2.2.1
theorem dX7_describeWhole_39 : decode cX7_describeWhole 39 = .ok (.iaload, 1) := dk_dX7_describeWhole_28.2.2.2.2.2.2.2.1
theorem dk_dX7_describeWhole_28_8 : dz_C cX7_describeWhole [(40, .invokevirtual 156, 3), (43, .aload_n 3, 1), (44, .bipush 9, 2), (46, .iload_n 1, 1), (47, .iastore, 1), (48, .aload_n 3, 1), (49, .bipush 10, 2), (51, .aload_n 0, 1)] := dk_dX7_describeWhole_28.2.2.2.2.2.2.2.2
theorem dX7_describeWhole_40 : decode cX7_describeWhole 40 = .ok (.invokevirtual 156, 3) := dk_dX7_describeWhole_28_8.1
theorem dX7_describeWhole_43 : decode cX7_describeWhole 43 = .ok (.aload_n 3, 1) := dk_dX7_describeWhole_28_8.2.1
theorem dX7_describeWhole_44 : decode cX7_describeWhole 44 = .ok (.bipush 9, 2) := dk_dX7_describeWhole_28_8.2.2.1
theorem dX7_describeWhole_46 : decode cX7_describeWhole 46 = .ok (.iload_n 1, 1) := dk_dX7_describeWhole_28_8.2.2.2.1
theorem dX7_describeWhole_47 : decode cX7_describeWhole 47 = .ok (.iastore, 1) := dk_dX7_describeWhole_28_8.2.2.2.2.1
theorem dX7_describeWhole_48 : decode cX7_describeWhole 48 = .ok (.aload_n 3, 1) := dk_dX7_describeWhole_28_8.2.2.2.2.2.1
theorem dX7_describeWhole_49 : decode cX7_describeWhole 49 = .ok (.bipush 10, 2) := dk_dX7_describeWhole_28_8.2.2.2.2.2.2.1
theorem dX7_describeWhole_51 : decode cX7_describeWhole 51 = .ok (.aload_n 0, 1) := dk_dX7_describeWhole_28_8.2.2.2.2.2.2.2.1
theorem dk_dX7_describeWhole_52 : dz_C cX7_describeWhole [(52, .getfield 53, 3), (55, .iload_n 1, 1), (56, .ishr, 1), (57, .iconst 1, 1), (58, .iand, 1), (59, .iastore, 1), (60, .aload_n 3, 1), (61, .bipush 11, 2), (63, .aload_n 0, 1), (64, .getfield 56, 3), (67, .iload_n 1, 1), (68, .ishr, 1), (69, .iconst 1, 1), (70, .iand, 1), (71, .iastore, 1), (72, .aload_n 3, 1)] := dz_of (by decide +kernel)
theorem dX7_describeWhole_52 : decode cX7_describeWhole 52 = .ok (.getfield 53, 3) := dk_dX7_describeWhole_52.1
theorem dX7_describeWhole_55 : decode cX7_describeWhole 55 = .ok (.iload_n 1, 1) := dk_dX7_describeWhole_52.2.1
theorem dX7_describeWhole_56 : decode cX7_describeWhole 56 = .ok (.ishr, 1) := dk_dX7_describeWhole_52.2.2.1
theorem dX7_describeWhole_57 : decode cX7_describeWhole 57 = .ok (.iconst 1, 1) := dk_dX7_describeWhole_52.2.2.2.1
theorem dX7_describeWhole_58 : decode cX7_describeWhole 58 = .ok (.iand, 1) := dk_dX7_describeWhole_52.2.2.2.2.1
theorem dX7_describeWhole_59 : decode cX7_describeWhole 59 = .ok (.iastore, 1) := dk_dX7_describeWhole_52.2.2.2.2.2.1
theorem dX7_describeWhole_60 : decode cX7_describeWhole 60 = .ok (.aload_n 3, 1) := dk_dX7_describeWhole_52.2.2.2.2.2.2.1
theorem dX7_describeWhole_61 : decode cX7_describeWhole 61 = .ok (.bipush 11, 2) := dk_dX7_describeWhole_52.2.2.2.2.2.2.2.1
theorem dk_dX7_describeWhole_52_8 : dz_C cX7_describeWhole [(63, .aload_n 0, 1), (64, .getfield 56, 3), (67, .iload_n 1, 1), (68, .ishr, 1), (69, .iconst 1, 1), (70, .iand, 1), (71, .iastore, 1), (72, .aload_n 3, 1)] := dk_dX7_describeWhole_52.2.2.2.2.2.2.2.2
theorem dX7_describeWhole_63 : decode cX7_describeWhole 63 = .ok (.aload_n 0, 1) := dk_dX7_describeWhole_52_8.1
theorem dX7_describeWhole_64 : decode cX7_describeWhole 64 = .ok (.getfield 56, 3) := dk_dX7_describeWhole_52_8.2.1
theorem dX7_describeWhole_67 : decode cX7_describeWhole 67 = .ok (.iload_n 1, 1) := dk_dX7_describeWhole_52_8.2.2.1
theorem dX7_describeWhole_68 : decode cX7_describeWhole 68 = .ok (.ishr, 1) := dk_dX7_describeWhole_52_8.2.2.2.1
theorem dX7_describeWhole_69 : decode cX7_describeWhole 69 = .ok (.iconst 1, 1) := dk_dX7_describeWhole_52_8.2.2.2.2.1
theorem dX7_describeWhole_70 : decode cX7_describeWhole 70 = .ok (.iand, 1) := dk_dX7_describeWhole_52_8.2.2.2.2.2.1
theorem dX7_describeWhole_71 : decode cX7_describeWhole 71 = .ok (.iastore, 1) := dk_dX7_describeWhole_52_8.2.2.2.2.2.2.1
theorem dX7_describeWhole_72 : decode cX7_describeWhole 72 = .ok (.aload_n 3, 1) := dk_dX7_describeWhole_52_8.2.2.2.2.2.2.2.1
theorem dk_dX7_describeWhole_73 : dz_C cX7_describeWhole [(73, .bipush 12, 2), (75, .iload_n 2, 1), (76, .iastore, 1), (77, .return_, 1)] := dz_of (by decide +kernel)
theorem dX7_describeWhole_73 : decode cX7_describeWhole 73 = .ok (.bipush 12, 2) := dk_dX7_describeWhole_73.1
theorem dX7_describeWhole_75 : decode cX7_describeWhole 75 = .ok (.iload_n 2, 1) := dk_dX7_describeWhole_73.2.1
theorem dX7_describeWhole_76 : decode cX7_describeWhole 76 = .ok (.iastore, 1) := dk_dX7_describeWhole_73.2.2.1
theorem dX7_describeWhole_77 : decode cX7_describeWhole 77 = .ok (.return_, 1) := dk_dX7_describeWhole_73.2.2.2.1
theorem dk_dX7_drive_0 : dz_C cX7_drive [(0, .aload_n 0, 1), (1, .getfield 59, 3), (4, .getfield 102, 3), (7, .astore_n 1, 1), (8, .aload_n 1, 1), (9, .iconst 1, 1), (10, .aload_n 0, 1), (11, .getfield 9, 3), (14, .iastore, 1), (15, .iconst 0, 1), (16, .istore_n 2, 1), (17, .sipush 319, 3), (20, .istore_n 3, 1), (21, .iload_n 3, 1), (22, .ifCond .lt 93, 3), (25, .aload_n 1, 1)] := dz_of (by decide +kernel)
theorem dX7_drive_0 : decode cX7_drive 0 = .ok (.aload_n 0, 1) := dk_dX7_drive_0.1
theorem dX7_drive_1 : decode cX7_drive 1 = .ok (.getfield 59, 3) := dk_dX7_drive_0.2.1
theorem dX7_drive_4 : decode cX7_drive 4 = .ok (.getfield 102, 3) := dk_dX7_drive_0.2.2.1
theorem dX7_drive_7 : decode cX7_drive 7 = .ok (.astore_n 1, 1) := dk_dX7_drive_0.2.2.2.1
theorem dX7_drive_8 : decode cX7_drive 8 = .ok (.aload_n 1, 1) := dk_dX7_drive_0.2.2.2.2.1
theorem dX7_drive_9 : decode cX7_drive 9 = .ok (.iconst 1, 1) := dk_dX7_drive_0.2.2.2.2.2.1
theorem dX7_drive_10 : decode cX7_drive 10 = .ok (.aload_n 0, 1) := dk_dX7_drive_0.2.2.2.2.2.2.1
theorem dX7_drive_11 : decode cX7_drive 11 = .ok (.getfield 9, 3) := dk_dX7_drive_0.2.2.2.2.2.2.2.1
theorem dk_dX7_drive_0_8 : dz_C cX7_drive [(14, .iastore, 1), (15, .iconst 0, 1), (16, .istore_n 2, 1), (17, .sipush 319, 3), (20, .istore_n 3, 1), (21, .iload_n 3, 1), (22, .ifCond .lt 93, 3), (25, .aload_n 1, 1)] := dk_dX7_drive_0.2.2.2.2.2.2.2.2
theorem dX7_drive_14 : decode cX7_drive 14 = .ok (.iastore, 1) := dk_dX7_drive_0_8.1
theorem dX7_drive_15 : decode cX7_drive 15 = .ok (.iconst 0, 1) := dk_dX7_drive_0_8.2.1
theorem dX7_drive_16 : decode cX7_drive 16 = .ok (.istore_n 2, 1) := dk_dX7_drive_0_8.2.2.1
theorem dX7_drive_17 : decode cX7_drive 17 = .ok (.sipush 319, 3) := dk_dX7_drive_0_8.2.2.2.1
theorem dX7_drive_20 : decode cX7_drive 20 = .ok (.istore_n 3, 1) := dk_dX7_drive_0_8.2.2.2.2.1
theorem dX7_drive_21 : decode cX7_drive 21 = .ok (.iload_n 3, 1) := dk_dX7_drive_0_8.2.2.2.2.2.1
theorem dX7_drive_22 : decode cX7_drive 22 = .ok (.ifCond .lt 93, 3) := dk_dX7_drive_0_8.2.2.2.2.2.2.1
theorem dX7_drive_25 : decode cX7_drive 25 = .ok (.aload_n 1, 1) := dk_dX7_drive_0_8.2.2.2.2.2.2.2.1
theorem dk_dX7_drive_26 : dz_C cX7_drive [(26, .iconst 0, 1), (27, .iload_n 3, 1), (28, .iastore, 1), (29, .aload_n 1, 1), (30, .iconst 2, 1), (31, .iload_n 3, 1), (32, .aload_n 0, 1), (33, .getfield 63, 3), (36, .getfield 73, 3), (39, .irem, 1), (40, .iastore, 1), (41, .aload_n 0, 1), (42, .getfield 32, 3), (45, .iload_n 3, 1), (46, .aload_n 0, 1), (47, .getfield 59, 3)] := dz_of (by decide +kernel)
theorem dX7_drive_26 : decode cX7_drive 26 = .ok (.iconst 0, 1) := dk_dX7_drive_26.1
theorem dX7_drive_27 : decode cX7_drive 27 = .ok (.iload_n 3, 1) := dk_dX7_drive_26.2.1
theorem dX7_drive_28 : decode cX7_drive 28 = .ok (.iastore, 1) := dk_dX7_drive_26.2.2.1
theorem dX7_drive_29 : decode cX7_drive 29 = .ok (.aload_n 1, 1) := dk_dX7_drive_26.2.2.2.1
theorem dX7_drive_30 : decode cX7_drive 30 = .ok (.iconst 2, 1) := dk_dX7_drive_26.2.2.2.2.1
theorem dX7_drive_31 : decode cX7_drive 31 = .ok (.iload_n 3, 1) := dk_dX7_drive_26.2.2.2.2.2.1
theorem dX7_drive_32 : decode cX7_drive 32 = .ok (.aload_n 0, 1) := dk_dX7_drive_26.2.2.2.2.2.2.1
theorem dX7_drive_33 : decode cX7_drive 33 = .ok (.getfield 63, 3) := dk_dX7_drive_26.2.2.2.2.2.2.2.1
theorem dk_dX7_drive_26_8 : dz_C cX7_drive [(36, .getfield 73, 3), (39, .irem, 1), (40, .iastore, 1), (41, .aload_n 0, 1), (42, .getfield 32, 3), (45, .iload_n 3, 1), (46, .aload_n 0, 1), (47, .getfield 59, 3)] := dk_dX7_drive_26.2.2.2.2.2.2.2.2
theorem dX7_drive_36 : decode cX7_drive 36 = .ok (.getfield 73, 3) := dk_dX7_drive_26_8.1
theorem dX7_drive_39 : decode cX7_drive 39 = .ok (.irem, 1) := dk_dX7_drive_26_8.2.1
theorem dX7_drive_40 : decode cX7_drive 40 = .ok (.iastore, 1) := dk_dX7_drive_26_8.2.2.1
theorem dX7_drive_41 : decode cX7_drive 41 = .ok (.aload_n 0, 1) := dk_dX7_drive_26_8.2.2.2.1
theorem dX7_drive_42 : decode cX7_drive 42 = .ok (.getfield 32, 3) := dk_dX7_drive_26_8.2.2.2.2.1
theorem dX7_drive_45 : decode cX7_drive 45 = .ok (.iload_n 3, 1) := dk_dX7_drive_26_8.2.2.2.2.2.1
theorem dX7_drive_46 : decode cX7_drive 46 = .ok (.aload_n 0, 1) := dk_dX7_drive_26_8.2.2.2.2.2.2.1
theorem dX7_drive_47 : decode cX7_drive 47 = .ok (.getfield 59, 3) := dk_dX7_drive_26_8.2.2.2.2.2.2.2.1
theorem dk_dX7_drive_50 : dz_C cX7_drive [(50, .aload_n 0, 1), (51, .getfield 63, 3), (54, .getfield 107, 3), (57, .aload_n 0, 1), (58, .getfield 63, 3), (61, .getfield 110, 3), (64, .iconst 0, 1), (65, .iaload, 1), (66, .aload_n 0, 1), (67, .getfield 63, 3), (70, .getfield 110, 3), (73, .iconst 1, 1), (74, .iaload, 1), (75, .invokevirtual 113, 3), (78, .iastore, 1), (79, .aload_n 0, 1)] := dz_of (by decide +kernel)
theorem dX7_drive_50 : decode cX7_drive 50 = .ok (.aload_n 0, 1) := dk_dX7_drive_50.1
theorem dX7_drive_51 : decode cX7_drive 51 = .ok (.getfield 63, 3) := dk_dX7_drive_50.2.1
theorem dX7_drive_54 : decode cX7_drive 54 = .ok (.getfield 107, 3) := dk_dX7_drive_50.2.2.1
theorem dX7_drive_57 : decode cX7_drive 57 = .ok (.aload_n 0, 1) := dk_dX7_drive_50.2.2.2.1
theorem dX7_drive_58 : decode cX7_drive 58 = .ok (.getfield 63, 3) := dk_dX7_drive_50.2.2.2.2.1
theorem dX7_drive_61 : decode cX7_drive 61 = .ok (.getfield 110, 3) := dk_dX7_drive_50.2.2.2.2.2.1
theorem dX7_drive_64 : decode cX7_drive 64 = .ok (.iconst 0, 1) := dk_dX7_drive_50.2.2.2.2.2.2.1
theorem dX7_drive_65 : decode cX7_drive 65 = .ok (.iaload, 1) := dk_dX7_drive_50.2.2.2.2.2.2.2.1
theorem dk_dX7_drive_50_8 : dz_C cX7_drive [(66, .aload_n 0, 1), (67, .getfield 63, 3), (70, .getfield 110, 3), (73, .iconst 1, 1), (74, .iaload, 1), (75, .invokevirtual 113, 3), (78, .iastore, 1), (79, .aload_n 0, 1)] := dk_dX7_drive_50.2.2.2.2.2.2.2.2
theorem dX7_drive_66 : decode cX7_drive 66 = .ok (.aload_n 0, 1) := dk_dX7_drive_50_8.1
theorem dX7_drive_67 : decode cX7_drive 67 = .ok (.getfield 63, 3) := dk_dX7_drive_50_8.2.1
theorem dX7_drive_70 : decode cX7_drive 70 = .ok (.getfield 110, 3) := dk_dX7_drive_50_8.2.2.1
theorem dX7_drive_73 : decode cX7_drive 73 = .ok (.iconst 1, 1) := dk_dX7_drive_50_8.2.2.2.1
theorem dX7_drive_74 : decode cX7_drive 74 = .ok (.iaload, 1) := dk_dX7_drive_50_8.2.2.2.2.1
theorem dX7_drive_75 : decode cX7_drive 75 = .ok (.invokevirtual 113, 3) := dk_dX7_drive_50_8.2.2.2.2.2.1
theorem dX7_drive_78 : decode cX7_drive 78 = .ok (.iastore, 1) := dk_dX7_drive_50_8.2.2.2.2.2.2.1
theorem dX7_drive_79 : decode cX7_drive 79 = .ok (.aload_n 0, 1) := dk_dX7_drive_50_8.2.2.2.2.2.2.2.1
theorem dk_dX7_drive_80 : dz_C cX7_drive [(80, .getfield 32, 3), (83, .iload_n 3, 1), (84, .iaload, 1), (85, .iconst 1, 1), (86, .if_icmp .ne 7, 3), (89, .iconst 0, 1), (90, .goto 11, 3), (93, .iload_n 2, 1), (94, .iconst 1, 1), (95, .iadd, 1), (96, .bipush 20, 2), (98, .invokestatic 117, 3), (101, .istore_n 2, 1), (102, .aload_n 0, 1), (103, .getfield 35, 3), (106, .iload_n 3, 1)] := dz_of (by decide +kernel)
theorem dX7_drive_80 : decode cX7_drive 80 = .ok (.getfield 32, 3) := dk_dX7_drive_80.1
theorem dX7_drive_83 : decode cX7_drive 83 = .ok (.iload_n 3, 1) := dk_dX7_drive_80.2.1
theorem dX7_drive_84 : decode cX7_drive 84 = .ok (.iaload, 1) := dk_dX7_drive_80.2.2.1
theorem dX7_drive_85 : decode cX7_drive 85 = .ok (.iconst 1, 1) := dk_dX7_drive_80.2.2.2.1
theorem dX7_drive_86 : decode cX7_drive 86 = .ok (.if_icmp .ne 7, 3) := dk_dX7_drive_80.2.2.2.2.1
theorem dX7_drive_89 : decode cX7_drive 89 = .ok (.iconst 0, 1) := dk_dX7_drive_80.2.2.2.2.2.1
theorem dX7_drive_90 : decode cX7_drive 90 = .ok (.goto 11, 3) := dk_dX7_drive_80.2.2.2.2.2.2.1
theorem dX7_drive_93 : decode cX7_drive 93 = .ok (.iload_n 2, 1) := dk_dX7_drive_80.2.2.2.2.2.2.2.1
theorem dk_dX7_drive_80_8 : dz_C cX7_drive [(94, .iconst 1, 1), (95, .iadd, 1), (96, .bipush 20, 2), (98, .invokestatic 117, 3), (101, .istore_n 2, 1), (102, .aload_n 0, 1), (103, .getfield 35, 3), (106, .iload_n 3, 1)] := dk_dX7_drive_80.2.2.2.2.2.2.2.2
theorem dX7_drive_94 : decode cX7_drive 94 = .ok (.iconst 1, 1) := dk_dX7_drive_80_8.1
theorem dX7_drive_95 : decode cX7_drive 95 = .ok (.iadd, 1) := dk_dX7_drive_80_8.2.1
theorem dX7_drive_96 : decode cX7_drive 96 = .ok (.bipush 20, 2) := dk_dX7_drive_80_8.2.2.1
theorem dX7_drive_98 : decode cX7_drive 98 = .ok (.invokestatic 117, 3) := dk_dX7_drive_80_8.2.2.2.1
theorem dX7_drive_101 : decode cX7_drive 101 = .ok (.istore_n 2, 1) := dk_dX7_drive_80_8.2.2.2.2.1
theorem dX7_drive_102 : decode cX7_drive 102 = .ok (.aload_n 0, 1) := dk_dX7_drive_80_8.2.2.2.2.2.1
theorem dX7_drive_103 : decode cX7_drive 103 = .ok (.getfield 35, 3) := dk_dX7_drive_80_8.2.2.2.2.2.2.1
theorem dX7_drive_106 : decode cX7_drive 106 = .ok (.iload_n 3, 1) := dk_dX7_drive_80_8.2.2.2.2.2.2.2.1
theorem dk_dX7_drive_107 : dz_C cX7_drive [(107, .iload_n 2, 1), (108, .iastore, 1), (109, .iinc 3 (-1), 3), (112, .goto (-91), 3), (115, .return_, 1)] := dz_of (by decide +kernel)
theorem dX7_drive_107 : decode cX7_drive 107 = .ok (.iload_n 2, 1) := dk_dX7_drive_107.1
theorem dX7_drive_108 : decode cX7_drive 108 = .ok (.iastore, 1) := dk_dX7_drive_107.2.1
theorem dX7_drive_109 : decode cX7_drive 109 = .ok (.iinc 3 (-1), 3) := dk_dX7_drive_107.2.2.1
theorem dX7_drive_112 : decode cX7_drive 112 = .ok (.goto (-91), 3) := dk_dX7_drive_107.2.2.2.1
theorem dX7_drive_115 : decode cX7_drive 115 = .ok (.return_, 1) := dk_dX7_drive_107.2.2.2.2.1
theorem dk_dX7_goersByThemselves_0 : dz_C cX7_goersByThemselves [(0, .iconst 0, 1), (1, .istore_n 1, 1), (2, .iconst 0, 1), (3, .istore_n 2, 1), (4, .iload_n 2, 1), (5, .aload_n 0, 1), (6, .getfield 63, 3), (9, .getfield 137, 3), (12, .if_icmp .ge 83, 3), (15, .aload_n 0, 1), (16, .getfield 63, 3), (19, .getfield 146, 3), (22, .aload_n 0, 1), (23, .getfield 63, 3), (26, .getfield 140, 3), (29, .iload_n 2, 1)] := dz_of (by decide +kernel)
theorem dX7_goersByThemselves_0 : decode cX7_goersByThemselves 0 = .ok (.iconst 0, 1) := dk_dX7_goersByThemselves_0.1
theorem dX7_goersByThemselves_1 : decode cX7_goersByThemselves 1 = .ok (.istore_n 1, 1) := dk_dX7_goersByThemselves_0.2.1
theorem dX7_goersByThemselves_2 : decode cX7_goersByThemselves 2 = .ok (.iconst 0, 1) := dk_dX7_goersByThemselves_0.2.2.1
theorem dX7_goersByThemselves_3 : decode cX7_goersByThemselves 3 = .ok (.istore_n 2, 1) := dk_dX7_goersByThemselves_0.2.2.2.1
theorem dX7_goersByThemselves_4 : decode cX7_goersByThemselves 4 = .ok (.iload_n 2, 1) := dk_dX7_goersByThemselves_0.2.2.2.2.1
theorem dX7_goersByThemselves_5 : decode cX7_goersByThemselves 5 = .ok (.aload_n 0, 1) := dk_dX7_goersByThemselves_0.2.2.2.2.2.1
theorem dX7_goersByThemselves_6 : decode cX7_goersByThemselves 6 = .ok (.getfield 63, 3) := dk_dX7_goersByThemselves_0.2.2.2.2.2.2.1
theorem dX7_goersByThemselves_9 : decode cX7_goersByThemselves 9 = .ok (.getfield 137, 3) := dk_dX7_goersByThemselves_0.2.2.2.2.2.2.2.1
theorem dk_dX7_goersByThemselves_0_8 : dz_C cX7_goersByThemselves [(12, .if_icmp .ge 83, 3), (15, .aload_n 0, 1), (16, .getfield 63, 3), (19, .getfield 146, 3), (22, .aload_n 0, 1), (23, .getfield 63, 3), (26, .getfield 140, 3), (29, .iload_n 2, 1)] := dk_dX7_goersByThemselves_0.2.2.2.2.2.2.2.2
theorem dX7_goersByThemselves_12 : decode cX7_goersByThemselves 12 = .ok (.if_icmp .ge 83, 3) := dk_dX7_goersByThemselves_0_8.1
theorem dX7_goersByThemselves_15 : decode cX7_goersByThemselves 15 = .ok (.aload_n 0, 1) := dk_dX7_goersByThemselves_0_8.2.1
theorem dX7_goersByThemselves_16 : decode cX7_goersByThemselves 16 = .ok (.getfield 63, 3) := dk_dX7_goersByThemselves_0_8.2.2.1
theorem dX7_goersByThemselves_19 : decode cX7_goersByThemselves 19 = .ok (.getfield 146, 3) := dk_dX7_goersByThemselves_0_8.2.2.2.1
theorem dX7_goersByThemselves_22 : decode cX7_goersByThemselves 22 = .ok (.aload_n 0, 1) := dk_dX7_goersByThemselves_0_8.2.2.2.2.1
theorem dX7_goersByThemselves_23 : decode cX7_goersByThemselves 23 = .ok (.getfield 63, 3) := dk_dX7_goersByThemselves_0_8.2.2.2.2.2.1
theorem dX7_goersByThemselves_26 : decode cX7_goersByThemselves 26 = .ok (.getfield 140, 3) := dk_dX7_goersByThemselves_0_8.2.2.2.2.2.2.1
theorem dX7_goersByThemselves_29 : decode cX7_goersByThemselves 29 = .ok (.iload_n 2, 1) := dk_dX7_goersByThemselves_0_8.2.2.2.2.2.2.2.1
theorem dk_dX7_goersByThemselves_30 : dz_C cX7_goersByThemselves [(30, .iaload, 1), (31, .iaload, 1), (32, .istore_n 3, 1), (33, .aload_n 0, 1), (34, .getfield 63, 3), (37, .getfield 153, 3), (40, .iload_n 2, 1), (41, .iaload, 1), (42, .istore 4, 2), (44, .iload 4, 2), (46, .sipush 300, 3), (49, .if_icmp .ge 40, 3), (52, .aload_n 0, 1), (53, .getfield 41, 3), (56, .iload 4, 2), (58, .iaload, 1)] := dz_of (by decide +kernel)
theorem dX7_goersByThemselves_30 : decode cX7_goersByThemselves 30 = .ok (.iaload, 1) := dk_dX7_goersByThemselves_30.1
theorem dX7_goersByThemselves_31 : decode cX7_goersByThemselves 31 = .ok (.iaload, 1) := dk_dX7_goersByThemselves_30.2.1
theorem dX7_goersByThemselves_32 : decode cX7_goersByThemselves 32 = .ok (.istore_n 3, 1) := dk_dX7_goersByThemselves_30.2.2.1
theorem dX7_goersByThemselves_33 : decode cX7_goersByThemselves 33 = .ok (.aload_n 0, 1) := dk_dX7_goersByThemselves_30.2.2.2.1
theorem dX7_goersByThemselves_34 : decode cX7_goersByThemselves 34 = .ok (.getfield 63, 3) := dk_dX7_goersByThemselves_30.2.2.2.2.1
theorem dX7_goersByThemselves_37 : decode cX7_goersByThemselves 37 = .ok (.getfield 153, 3) := dk_dX7_goersByThemselves_30.2.2.2.2.2.1
theorem dX7_goersByThemselves_40 : decode cX7_goersByThemselves 40 = .ok (.iload_n 2, 1) := dk_dX7_goersByThemselves_30.2.2.2.2.2.2.1
theorem dX7_goersByThemselves_41 : decode cX7_goersByThemselves 41 = .ok (.iaload, 1) := dk_dX7_goersByThemselves_30.2.2.2.2.2.2.2.1
theorem dk_dX7_goersByThemselves_30_8 : dz_C cX7_goersByThemselves [(42, .istore 4, 2), (44, .iload 4, 2), (46, .sipush 300, 3), (49, .if_icmp .ge 40, 3), (52, .aload_n 0, 1), (53, .getfield 41, 3), (56, .iload 4, 2), (58, .iaload, 1)] := dk_dX7_goersByThemselves_30.2.2.2.2.2.2.2.2
theorem dX7_goersByThemselves_42 : decode cX7_goersByThemselves 42 = .ok (.istore 4, 2) := dk_dX7_goersByThemselves_30_8.1
theorem dX7_goersByThemselves_44 : decode cX7_goersByThemselves 44 = .ok (.iload 4, 2) := dk_dX7_goersByThemselves_30_8.2.1
theorem dX7_goersByThemselves_46 : decode cX7_goersByThemselves 46 = .ok (.sipush 300, 3) := dk_dX7_goersByThemselves_30_8.2.2.1
theorem dX7_goersByThemselves_49 : decode cX7_goersByThemselves 49 = .ok (.if_icmp .ge 40, 3) := dk_dX7_goersByThemselves_30_8.2.2.2.1
theorem dX7_goersByThemselves_52 : decode cX7_goersByThemselves 52 = .ok (.aload_n 0, 1) := dk_dX7_goersByThemselves_30_8.2.2.2.2.1
theorem dX7_goersByThemselves_53 : decode cX7_goersByThemselves 53 = .ok (.getfield 41, 3) := dk_dX7_goersByThemselves_30_8.2.2.2.2.2.1
theorem dX7_goersByThemselves_56 : decode cX7_goersByThemselves 56 = .ok (.iload 4, 2) := dk_dX7_goersByThemselves_30_8.2.2.2.2.2.2.1
theorem dX7_goersByThemselves_58 : decode cX7_goersByThemselves 58 = .ok (.iaload, 1) := dk_dX7_goersByThemselves_30_8.2.2.2.2.2.2.2.1
theorem dk_dX7_goersByThemselves_59 : dz_C cX7_goersByThemselves [(59, .iload_n 3, 1), (60, .if_icmp .ge 29, 3), (63, .aload_n 0, 1), (64, .iload_n 2, 1), (65, .iload 4, 2), (67, .iconst 0, 1), (68, .invokevirtual 149, 3), (71, .ifCond .eq 12, 3), (74, .iload_n 1, 1), (75, .iconst 1, 1), (76, .iload_n 2, 1), (77, .ishl, 1), (78, .ior, 1), (79, .istore_n 1, 1), (80, .goto 9, 3), (83, .iinc 4 1, 3)] := dz_of (by decide +kernel)
theorem dX7_goersByThemselves_59 : decode cX7_goersByThemselves 59 = .ok (.iload_n 3, 1) := dk_dX7_goersByThemselves_59.1
theorem dX7_goersByThemselves_60 : decode cX7_goersByThemselves 60 = .ok (.if_icmp .ge 29, 3) := dk_dX7_goersByThemselves_59.2.1
theorem dX7_goersByThemselves_63 : decode cX7_goersByThemselves 63 = .ok (.aload_n 0, 1) := dk_dX7_goersByThemselves_59.2.2.1
theorem dX7_goersByThemselves_64 : decode cX7_goersByThemselves 64 = .ok (.iload_n 2, 1) := dk_dX7_goersByThemselves_59.2.2.2.1
theorem dX7_goersByThemselves_65 : decode cX7_goersByThemselves 65 = .ok (.iload 4, 2) := dk_dX7_goersByThemselves_59.2.2.2.2.1
theorem dX7_goersByThemselves_67 : decode cX7_goersByThemselves 67 = .ok (.iconst 0, 1) := dk_dX7_goersByThemselves_59.2.2.2.2.2.1
theorem dX7_goersByThemselves_68 : decode cX7_goersByThemselves 68 = .ok (.invokevirtual 149, 3) := dk_dX7_goersByThemselves_59.2.2.2.2.2.2.1
theorem dX7_goersByThemselves_71 : decode cX7_goersByThemselves 71 = .ok (.ifCond .eq 12, 3) := dk_dX7_goersByThemselves_59.2.2.2.2.2.2.2.1
theorem dk_dX7_goersByThemselves_59_8 : dz_C cX7_goersByThemselves [(74, .iload_n 1, 1), (75, .iconst 1, 1), (76, .iload_n 2, 1), (77, .ishl, 1), (78, .ior, 1), (79, .istore_n 1, 1), (80, .goto 9, 3), (83, .iinc 4 1, 3)] := dk_dX7_goersByThemselves_59.2.2.2.2.2.2.2.2
theorem dX7_goersByThemselves_74 : decode cX7_goersByThemselves 74 = .ok (.iload_n 1, 1) := dk_dX7_goersByThemselves_59_8.1
theorem dX7_goersByThemselves_75 : decode cX7_goersByThemselves 75 = .ok (.iconst 1, 1) := dk_dX7_goersByThemselves_59_8.2.1
theorem dX7_goersByThemselves_76 : decode cX7_goersByThemselves 76 = .ok (.iload_n 2, 1) := dk_dX7_goersByThemselves_59_8.2.2.1
theorem dX7_goersByThemselves_77 : decode cX7_goersByThemselves 77 = .ok (.ishl, 1) := dk_dX7_goersByThemselves_59_8.2.2.2.1
theorem dX7_goersByThemselves_78 : decode cX7_goersByThemselves 78 = .ok (.ior, 1) := dk_dX7_goersByThemselves_59_8.2.2.2.2.1
theorem dX7_goersByThemselves_79 : decode cX7_goersByThemselves 79 = .ok (.istore_n 1, 1) := dk_dX7_goersByThemselves_59_8.2.2.2.2.2.1
theorem dX7_goersByThemselves_80 : decode cX7_goersByThemselves 80 = .ok (.goto 9, 3) := dk_dX7_goersByThemselves_59_8.2.2.2.2.2.2.1
theorem dX7_goersByThemselves_83 : decode cX7_goersByThemselves 83 = .ok (.iinc 4 1, 3) := dk_dX7_goersByThemselves_59_8.2.2.2.2.2.2.2.1
theorem dk_dX7_goersByThemselves_86 : dz_C cX7_goersByThemselves [(86, .goto (-42), 3), (89, .iinc 2 1, 3), (92, .goto (-88), 3), (95, .iload_n 1, 1), (96, .ireturn, 1)] := dz_of (by decide +kernel)
theorem dX7_goersByThemselves_86 : decode cX7_goersByThemselves 86 = .ok (.goto (-42), 3) := dk_dX7_goersByThemselves_86.1
theorem dX7_goersByThemselves_89 : decode cX7_goersByThemselves 89 = .ok (.iinc 2 1, 3) := dk_dX7_goersByThemselves_86.2.1
theorem dX7_goersByThemselves_92 : decode cX7_goersByThemselves 92 = .ok (.goto (-88), 3) := dk_dX7_goersByThemselves_86.2.2.1
theorem dX7_goersByThemselves_95 : decode cX7_goersByThemselves 95 = .ok (.iload_n 1, 1) := dk_dX7_goersByThemselves_86.2.2.2.1
theorem dX7_goersByThemselves_96 : decode cX7_goersByThemselves 96 = .ok (.ireturn, 1) := dk_dX7_goersByThemselves_86.2.2.2.2.1
theorem dk_dX7_goes_0 : dz_C cX7_goes [(0, .iload_n 1, 1), (1, .sipush 300, 3), (4, .imul, 1), (5, .iload_n 2, 1), (6, .iadd, 1), (7, .istore 4, 2), (9, .aload_n 0, 1), (10, .getfield 28, 3), (13, .ifCond .eq 9, 3), (16, .iconst 2, 1), (17, .iload_n 3, 1), (18, .imul, 1), (19, .goto 4, 3), (22, .iconst 0, 1), (23, .istore 5, 2), (25, .aload_n 0, 1)] := dz_of (by decide +kernel)
theorem dX7_goes_0 : decode cX7_goes 0 = .ok (.iload_n 1, 1) := dk_dX7_goes_0.1
theorem dX7_goes_1 : decode cX7_goes 1 = .ok (.sipush 300, 3) := dk_dX7_goes_0.2.1
theorem dX7_goes_4 : decode cX7_goes 4 = .ok (.imul, 1) := dk_dX7_goes_0.2.2.1
theorem dX7_goes_5 : decode cX7_goes 5 = .ok (.iload_n 2, 1) := dk_dX7_goes_0.2.2.2.1
theorem dX7_goes_6 : decode cX7_goes 6 = .ok (.iadd, 1) := dk_dX7_goes_0.2.2.2.2.1
theorem dX7_goes_7 : decode cX7_goes 7 = .ok (.istore 4, 2) := dk_dX7_goes_0.2.2.2.2.2.1
theorem dX7_goes_9 : decode cX7_goes 9 = .ok (.aload_n 0, 1) := dk_dX7_goes_0.2.2.2.2.2.2.1
theorem dX7_goes_10 : decode cX7_goes 10 = .ok (.getfield 28, 3) := dk_dX7_goes_0.2.2.2.2.2.2.2.1
theorem dk_dX7_goes_0_8 : dz_C cX7_goes [(13, .ifCond .eq 9, 3), (16, .iconst 2, 1), (17, .iload_n 3, 1), (18, .imul, 1), (19, .goto 4, 3), (22, .iconst 0, 1), (23, .istore 5, 2), (25, .aload_n 0, 1)] := dk_dX7_goes_0.2.2.2.2.2.2.2.2
theorem dX7_goes_13 : decode cX7_goes 13 = .ok (.ifCond .eq 9, 3) := dk_dX7_goes_0_8.1
theorem dX7_goes_16 : decode cX7_goes 16 = .ok (.iconst 2, 1) := dk_dX7_goes_0_8.2.1
theorem dX7_goes_17 : decode cX7_goes 17 = .ok (.iload_n 3, 1) := dk_dX7_goes_0_8.2.2.1
theorem dX7_goes_18 : decode cX7_goes 18 = .ok (.imul, 1) := dk_dX7_goes_0_8.2.2.2.1
theorem dX7_goes_19 : decode cX7_goes 19 = .ok (.goto 4, 3) := dk_dX7_goes_0_8.2.2.2.2.1
theorem dX7_goes_22 : decode cX7_goes 22 = .ok (.iconst 0, 1) := dk_dX7_goes_0_8.2.2.2.2.2.1
theorem dX7_goes_23 : decode cX7_goes 23 = .ok (.istore 5, 2) := dk_dX7_goes_0_8.2.2.2.2.2.2.1
theorem dX7_goes_25 : decode cX7_goes 25 = .ok (.aload_n 0, 1) := dk_dX7_goes_0_8.2.2.2.2.2.2.2.1
theorem dk_dX7_goes_26 : dz_C cX7_goes [(26, .getfield 38, 3), (29, .iload 4, 2), (31, .iaload, 1), (32, .iload 5, 2), (34, .ishr, 1), (35, .iconst 1, 1), (36, .iand, 1), (37, .ifCond .ne 113, 3), (40, .aload_n 0, 1), (41, .getfield 59, 3), (44, .getfield 102, 3), (47, .astore 6, 2), (49, .aload 6, 2), (51, .bipush 7, 2), (53, .aload_n 0, 1), (54, .getfield 35, 3)] := dz_of (by decide +kernel)
theorem dX7_goes_26 : decode cX7_goes 26 = .ok (.getfield 38, 3) := dk_dX7_goes_26.1
theorem dX7_goes_29 : decode cX7_goes 29 = .ok (.iload 4, 2) := dk_dX7_goes_26.2.1
theorem dX7_goes_31 : decode cX7_goes 31 = .ok (.iaload, 1) := dk_dX7_goes_26.2.2.1
theorem dX7_goes_32 : decode cX7_goes 32 = .ok (.iload 5, 2) := dk_dX7_goes_26.2.2.2.1
theorem dX7_goes_34 : decode cX7_goes 34 = .ok (.ishr, 1) := dk_dX7_goes_26.2.2.2.2.1
theorem dX7_goes_35 : decode cX7_goes 35 = .ok (.iconst 1, 1) := dk_dX7_goes_26.2.2.2.2.2.1
theorem dX7_goes_36 : decode cX7_goes 36 = .ok (.iand, 1) := dk_dX7_goes_26.2.2.2.2.2.2.1
theorem dX7_goes_37 : decode cX7_goes 37 = .ok (.ifCond .ne 113, 3) := dk_dX7_goes_26.2.2.2.2.2.2.2.1
theorem dk_dX7_goes_26_8 : dz_C cX7_goes [(40, .aload_n 0, 1), (41, .getfield 59, 3), (44, .getfield 102, 3), (47, .astore 6, 2), (49, .aload 6, 2), (51, .bipush 7, 2), (53, .aload_n 0, 1), (54, .getfield 35, 3)] := dk_dX7_goes_26.2.2.2.2.2.2.2.2
theorem dX7_goes_40 : decode cX7_goes 40 = .ok (.aload_n 0, 1) := dk_dX7_goes_26_8.1
theorem dX7_goes_41 : decode cX7_goes 41 = .ok (.getfield 59, 3) := dk_dX7_goes_26_8.2.1
theorem dX7_goes_44 : decode cX7_goes 44 = .ok (.getfield 102, 3) := dk_dX7_goes_26_8.2.2.1
theorem dX7_goes_47 : decode cX7_goes 47 = .ok (.astore 6, 2) := dk_dX7_goes_26_8.2.2.2.1
theorem dX7_goes_49 : decode cX7_goes 49 = .ok (.aload 6, 2) := dk_dX7_goes_26_8.2.2.2.2.1
theorem dX7_goes_51 : decode cX7_goes 51 = .ok (.bipush 7, 2) := dk_dX7_goes_26_8.2.2.2.2.2.1
theorem dX7_goes_53 : decode cX7_goes 53 = .ok (.aload_n 0, 1) := dk_dX7_goes_26_8.2.2.2.2.2.2.1
theorem dX7_goes_54 : decode cX7_goes 54 = .ok (.getfield 35, 3) := dk_dX7_goes_26_8.2.2.2.2.2.2.2.1
theorem dk_dX7_goes_57 : dz_C cX7_goes [(57, .iload_n 2, 1), (58, .iaload, 1), (59, .iastore, 1), (60, .aload 6, 2), (62, .bipush 8, 2), (64, .iload_n 3, 1), (65, .iastore, 1), (66, .aload_n 0, 1), (67, .iload_n 1, 1), (68, .iload_n 2, 1), (69, .iload_n 2, 1), (70, .aload_n 0, 1), (71, .getfield 63, 3), (74, .getfield 153, 3), (77, .iload_n 1, 1), (78, .iaload, 1)] := dz_of (by decide +kernel)
theorem dX7_goes_57 : decode cX7_goes 57 = .ok (.iload_n 2, 1) := dk_dX7_goes_57.1
theorem dX7_goes_58 : decode cX7_goes 58 = .ok (.iaload, 1) := dk_dX7_goes_57.2.1
theorem dX7_goes_59 : decode cX7_goes 59 = .ok (.iastore, 1) := dk_dX7_goes_57.2.2.1
theorem dX7_goes_60 : decode cX7_goes 60 = .ok (.aload 6, 2) := dk_dX7_goes_57.2.2.2.1
theorem dX7_goes_62 : decode cX7_goes 62 = .ok (.bipush 8, 2) := dk_dX7_goes_57.2.2.2.2.1
theorem dX7_goes_64 : decode cX7_goes 64 = .ok (.iload_n 3, 1) := dk_dX7_goes_57.2.2.2.2.2.1
theorem dX7_goes_65 : decode cX7_goes 65 = .ok (.iastore, 1) := dk_dX7_goes_57.2.2.2.2.2.2.1
theorem dX7_goes_66 : decode cX7_goes 66 = .ok (.aload_n 0, 1) := dk_dX7_goes_57.2.2.2.2.2.2.2.1
theorem dk_dX7_goes_57_8 : dz_C cX7_goes [(67, .iload_n 1, 1), (68, .iload_n 2, 1), (69, .iload_n 2, 1), (70, .aload_n 0, 1), (71, .getfield 63, 3), (74, .getfield 153, 3), (77, .iload_n 1, 1), (78, .iaload, 1)] := dk_dX7_goes_57.2.2.2.2.2.2.2.2
theorem dX7_goes_67 : decode cX7_goes 67 = .ok (.iload_n 1, 1) := dk_dX7_goes_57_8.1
theorem dX7_goes_68 : decode cX7_goes 68 = .ok (.iload_n 2, 1) := dk_dX7_goes_57_8.2.1
theorem dX7_goes_69 : decode cX7_goes 69 = .ok (.iload_n 2, 1) := dk_dX7_goes_57_8.2.2.1
theorem dX7_goes_70 : decode cX7_goes 70 = .ok (.aload_n 0, 1) := dk_dX7_goes_57_8.2.2.2.1
theorem dX7_goes_71 : decode cX7_goes 71 = .ok (.getfield 63, 3) := dk_dX7_goes_57_8.2.2.2.2.1
theorem dX7_goes_74 : decode cX7_goes 74 = .ok (.getfield 153, 3) := dk_dX7_goes_57_8.2.2.2.2.2.1
theorem dX7_goes_77 : decode cX7_goes 77 = .ok (.iload_n 1, 1) := dk_dX7_goes_57_8.2.2.2.2.2.2.1
theorem dX7_goes_78 : decode cX7_goes 78 = .ok (.iaload, 1) := dk_dX7_goes_57_8.2.2.2.2.2.2.2.1
theorem dk_dX7_goes_79 : dz_C cX7_goes [(79, .isub, 1), (80, .aload_n 0, 1), (81, .getfield 15, 3), (84, .aload_n 0, 1), (85, .getfield 63, 3), (88, .getfield 140, 3), (91, .iload_n 1, 1), (92, .iaload, 1), (93, .iaload, 1), (94, .invokevirtual 156, 3), (97, .aload_n 0, 1), (98, .getfield 59, 3), (101, .aload_n 0, 1), (102, .getfield 63, 3), (105, .getfield 107, 3), (108, .aload_n 0, 1)] := dz_of (by decide +kernel)
theorem dX7_goes_79 : decode cX7_goes 79 = .ok (.isub, 1) := dk_dX7_goes_79.1
theorem dX7_goes_80 : decode cX7_goes 80 = .ok (.aload_n 0, 1) := dk_dX7_goes_79.2.1
theorem dX7_goes_81 : decode cX7_goes 81 = .ok (.getfield 15, 3) := dk_dX7_goes_79.2.2.1
theorem dX7_goes_84 : decode cX7_goes 84 = .ok (.aload_n 0, 1) := dk_dX7_goes_79.2.2.2.1
theorem dX7_goes_85 : decode cX7_goes 85 = .ok (.getfield 63, 3) := dk_dX7_goes_79.2.2.2.2.1
theorem dX7_goes_88 : decode cX7_goes 88 = .ok (.getfield 140, 3) := dk_dX7_goes_79.2.2.2.2.2.1
theorem dX7_goes_91 : decode cX7_goes 91 = .ok (.iload_n 1, 1) := dk_dX7_goes_79.2.2.2.2.2.2.1
theorem dX7_goes_92 : decode cX7_goes 92 = .ok (.iaload, 1) := dk_dX7_goes_79.2.2.2.2.2.2.2.1
theorem dk_dX7_goes_79_8 : dz_C cX7_goes [(93, .iaload, 1), (94, .invokevirtual 156, 3), (97, .aload_n 0, 1), (98, .getfield 59, 3), (101, .aload_n 0, 1), (102, .getfield 63, 3), (105, .getfield 107, 3), (108, .aload_n 0, 1)] := dk_dX7_goes_79.2.2.2.2.2.2.2.2
theorem dX7_goes_93 : decode cX7_goes 93 = .ok (.iaload, 1) := dk_dX7_goes_79_8.1
theorem dX7_goes_94 : decode cX7_goes 94 = .ok (.invokevirtual 156, 3) := dk_dX7_goes_79_8.2.1
theorem dX7_goes_97 : decode cX7_goes 97 = .ok (.aload_n 0, 1) := dk_dX7_goes_79_8.2.2.1
theorem dX7_goes_98 : decode cX7_goes 98 = .ok (.getfield 59, 3) := dk_dX7_goes_79_8.2.2.2.1
theorem dX7_goes_101 : decode cX7_goes 101 = .ok (.aload_n 0, 1) := dk_dX7_goes_79_8.2.2.2.2.1
theorem dX7_goes_102 : decode cX7_goes 102 = .ok (.getfield 63, 3) := dk_dX7_goes_79_8.2.2.2.2.2.1
theorem dX7_goes_105 : decode cX7_goes 105 = .ok (.getfield 107, 3) := dk_dX7_goes_79_8.2.2.2.2.2.2.1
theorem dX7_goes_108 : decode cX7_goes 108 = .ok (.aload_n 0, 1) := dk_dX7_goes_79_8.2.2.2.2.2.2.2.1
theorem dk_dX7_goes_109 : dz_C cX7_goes [(109, .getfield 63, 3), (112, .getfield 110, 3), (115, .iconst 2, 1), (116, .iaload, 1), (117, .aload_n 0, 1), (118, .getfield 63, 3), (121, .getfield 110, 3), (124, .iconst 3, 1), (125, .iaload, 1), (126, .invokevirtual 113, 3), (129, .istore 7, 2), (131, .aload_n 0, 1), (132, .getfield 38, 3), (135, .iload 4, 2), (137, .dup2, 1), (138, .iaload, 1)] := dz_of (by decide +kernel)
theorem dX7_goes_109 : decode cX7_goes 109 = .ok (.getfield 63, 3) := dk_dX7_goes_109.1
theorem dX7_goes_112 : decode cX7_goes 112 = .ok (.getfield 110, 3) := dk_dX7_goes_109.2.1
theorem dX7_goes_115 : decode cX7_goes 115 = .ok (.iconst 2, 1) := dk_dX7_goes_109.2.2.1
theorem dX7_goes_116 : decode cX7_goes 116 = .ok (.iaload, 1) := dk_dX7_goes_109.2.2.2.1
theorem dX7_goes_117 : decode cX7_goes 117 = .ok (.aload_n 0, 1) := dk_dX7_goes_109.2.2.2.2.1
theorem dX7_goes_118 : decode cX7_goes 118 = .ok (.getfield 63, 3) := dk_dX7_goes_109.2.2.2.2.2.1
theorem dX7_goes_121 : decode cX7_goes 121 = .ok (.getfield 110, 3) := dk_dX7_goes_109.2.2.2.2.2.2.1
theorem dX7_goes_124 : decode cX7_goes 124 = .ok (.iconst 3, 1) := dk_dX7_goes_109.2.2.2.2.2.2.2.1
theorem dk_dX7_goes_109_8 : dz_C cX7_goes [(125, .iaload, 1), (126, .invokevirtual 113, 3), (129, .istore 7, 2), (131, .aload_n 0, 1), (132, .getfield 38, 3), (135, .iload 4, 2), (137, .dup2, 1), (138, .iaload, 1)] := dk_dX7_goes_109.2.2.2.2.2.2.2.2
theorem dX7_goes_125 : decode cX7_goes 125 = .ok (.iaload, 1) := dk_dX7_goes_109_8.1
theorem dX7_goes_126 : decode cX7_goes 126 = .ok (.invokevirtual 113, 3) := dk_dX7_goes_109_8.2.1
theorem dX7_goes_129 : decode cX7_goes 129 = .ok (.istore 7, 2) := dk_dX7_goes_109_8.2.2.1
theorem dX7_goes_131 : decode cX7_goes 131 = .ok (.aload_n 0, 1) := dk_dX7_goes_109_8.2.2.2.1
theorem dX7_goes_132 : decode cX7_goes 132 = .ok (.getfield 38, 3) := dk_dX7_goes_109_8.2.2.2.2.1
theorem dX7_goes_135 : decode cX7_goes 135 = .ok (.iload 4, 2) := dk_dX7_goes_109_8.2.2.2.2.2.1
theorem dX7_goes_137 : decode cX7_goes 137 = .ok (.dup2, 1) := dk_dX7_goes_109_8.2.2.2.2.2.2.1
theorem dX7_goes_138 : decode cX7_goes 138 = .ok (.iaload, 1) := dk_dX7_goes_109_8.2.2.2.2.2.2.2.1
theorem dk_dX7_goes_139 : dz_C cX7_goes [(139, .iconst 1, 1), (140, .iload 7, 2), (142, .iconst 1, 1), (143, .ishl, 1), (144, .ior, 1), (145, .iload 5, 2), (147, .ishl, 1), (148, .ior, 1), (149, .iastore, 1), (150, .aload_n 0, 1), (151, .getfield 38, 3), (154, .iload 4, 2), (156, .iaload, 1), (157, .iload 5, 2), (159, .ishr, 1), (160, .iconst 2, 1)] := dz_of (by decide +kernel)
theorem dX7_goes_139 : decode cX7_goes 139 = .ok (.iconst 1, 1) := dk_dX7_goes_139.1
theorem dX7_goes_140 : decode cX7_goes 140 = .ok (.iload 7, 2) := dk_dX7_goes_139.2.1
theorem dX7_goes_142 : decode cX7_goes 142 = .ok (.iconst 1, 1) := dk_dX7_goes_139.2.2.1
theorem dX7_goes_143 : decode cX7_goes 143 = .ok (.ishl, 1) := dk_dX7_goes_139.2.2.2.1
theorem dX7_goes_144 : decode cX7_goes 144 = .ok (.ior, 1) := dk_dX7_goes_139.2.2.2.2.1
theorem dX7_goes_145 : decode cX7_goes 145 = .ok (.iload 5, 2) := dk_dX7_goes_139.2.2.2.2.2.1
theorem dX7_goes_147 : decode cX7_goes 147 = .ok (.ishl, 1) := dk_dX7_goes_139.2.2.2.2.2.2.1
theorem dX7_goes_148 : decode cX7_goes 148 = .ok (.ior, 1) := dk_dX7_goes_139.2.2.2.2.2.2.2.1
theorem dk_dX7_goes_139_8 : dz_C cX7_goes [(149, .iastore, 1), (150, .aload_n 0, 1), (151, .getfield 38, 3), (154, .iload 4, 2), (156, .iaload, 1), (157, .iload 5, 2), (159, .ishr, 1), (160, .iconst 2, 1)] := dk_dX7_goes_139.2.2.2.2.2.2.2.2
theorem dX7_goes_149 : decode cX7_goes 149 = .ok (.iastore, 1) := dk_dX7_goes_139_8.1
theorem dX7_goes_150 : decode cX7_goes 150 = .ok (.aload_n 0, 1) := dk_dX7_goes_139_8.2.1
theorem dX7_goes_151 : decode cX7_goes 151 = .ok (.getfield 38, 3) := dk_dX7_goes_139_8.2.2.1
theorem dX7_goes_154 : decode cX7_goes 154 = .ok (.iload 4, 2) := dk_dX7_goes_139_8.2.2.2.1
theorem dX7_goes_156 : decode cX7_goes 156 = .ok (.iaload, 1) := dk_dX7_goes_139_8.2.2.2.2.1
theorem dX7_goes_157 : decode cX7_goes 157 = .ok (.iload 5, 2) := dk_dX7_goes_139_8.2.2.2.2.2.1
theorem dX7_goes_159 : decode cX7_goes 159 = .ok (.ishr, 1) := dk_dX7_goes_139_8.2.2.2.2.2.2.1
theorem dX7_goes_160 : decode cX7_goes 160 = .ok (.iconst 2, 1) := dk_dX7_goes_139_8.2.2.2.2.2.2.2.1
theorem dk_dX7_goes_161 : dz_C cX7_goes [(161, .iand, 1), (162, .ifCond .eq 7, 3), (165, .iconst 1, 1), (166, .goto 4, 3), (169, .iconst 0, 1), (170, .ireturn, 1)] := dz_of (by decide +kernel)
theorem dX7_goes_161 : decode cX7_goes 161 = .ok (.iand, 1) := dk_dX7_goes_161.1
theorem dX7_goes_162 : decode cX7_goes 162 = .ok (.ifCond .eq 7, 3) := dk_dX7_goes_161.2.1
theorem dX7_goes_165 : decode cX7_goes 165 = .ok (.iconst 1, 1) := dk_dX7_goes_161.2.2.1
theorem dX7_goes_166 : decode cX7_goes 166 = .ok (.goto 4, 3) := dk_dX7_goes_161.2.2.2.1
theorem dX7_goes_169 : decode cX7_goes 169 = .ok (.iconst 0, 1) := dk_dX7_goes_161.2.2.2.2.1
theorem dX7_goes_170 : decode cX7_goes 170 = .ok (.ireturn, 1) := dk_dX7_goes_161.2.2.2.2.2.1
theorem dk_dX7_greensForNobody_0 : dz_C cX7_greensForNobody [(0, .iconst 0, 1), (1, .istore_n 1, 1), (2, .iconst 0, 1), (3, .istore_n 2, 1), (4, .iconst 0, 1), (5, .istore_n 3, 1), (6, .iload_n 3, 1), (7, .sipush 300, 3), (10, .if_icmp .ge 76, 3), (13, .aload_n 0, 1), (14, .getfield 41, 3), (17, .iload_n 3, 1), (18, .iaload, 1), (19, .ifCond .le 22, 3), (22, .iload_n 3, 1), (23, .ifCond .eq 14, 3)] := dz_of (by decide +kernel)
theorem dX7_greensForNobody_0 : decode cX7_greensForNobody 0 = .ok (.iconst 0, 1) := dk_dX7_greensForNobody_0.1
theorem dX7_greensForNobody_1 : decode cX7_greensForNobody 1 = .ok (.istore_n 1, 1) := dk_dX7_greensForNobody_0.2.1
theorem dX7_greensForNobody_2 : decode cX7_greensForNobody 2 = .ok (.iconst 0, 1) := dk_dX7_greensForNobody_0.2.2.1
theorem dX7_greensForNobody_3 : decode cX7_greensForNobody 3 = .ok (.istore_n 2, 1) := dk_dX7_greensForNobody_0.2.2.2.1
theorem dX7_greensForNobody_4 : decode cX7_greensForNobody 4 = .ok (.iconst 0, 1) := dk_dX7_greensForNobody_0.2.2.2.2.1
theorem dX7_greensForNobody_5 : decode cX7_greensForNobody 5 = .ok (.istore_n 3, 1) := dk_dX7_greensForNobody_0.2.2.2.2.2.1
theorem dX7_greensForNobody_6 : decode cX7_greensForNobody 6 = .ok (.iload_n 3, 1) := dk_dX7_greensForNobody_0.2.2.2.2.2.2.1
theorem dX7_greensForNobody_7 : decode cX7_greensForNobody 7 = .ok (.sipush 300, 3) := dk_dX7_greensForNobody_0.2.2.2.2.2.2.2.1
theorem dk_dX7_greensForNobody_0_8 : dz_C cX7_greensForNobody [(10, .if_icmp .ge 76, 3), (13, .aload_n 0, 1), (14, .getfield 41, 3), (17, .iload_n 3, 1), (18, .iaload, 1), (19, .ifCond .le 22, 3), (22, .iload_n 3, 1), (23, .ifCond .eq 14, 3)] := dk_dX7_greensForNobody_0.2.2.2.2.2.2.2.2
theorem dX7_greensForNobody_10 : decode cX7_greensForNobody 10 = .ok (.if_icmp .ge 76, 3) := dk_dX7_greensForNobody_0_8.1
theorem dX7_greensForNobody_13 : decode cX7_greensForNobody 13 = .ok (.aload_n 0, 1) := dk_dX7_greensForNobody_0_8.2.1
theorem dX7_greensForNobody_14 : decode cX7_greensForNobody 14 = .ok (.getfield 41, 3) := dk_dX7_greensForNobody_0_8.2.2.1
theorem dX7_greensForNobody_17 : decode cX7_greensForNobody 17 = .ok (.iload_n 3, 1) := dk_dX7_greensForNobody_0_8.2.2.2.1
theorem dX7_greensForNobody_18 : decode cX7_greensForNobody 18 = .ok (.iaload, 1) := dk_dX7_greensForNobody_0_8.2.2.2.2.1
theorem dX7_greensForNobody_19 : decode cX7_greensForNobody 19 = .ok (.ifCond .le 22, 3) := dk_dX7_greensForNobody_0_8.2.2.2.2.2.1
theorem dX7_greensForNobody_22 : decode cX7_greensForNobody 22 = .ok (.iload_n 3, 1) := dk_dX7_greensForNobody_0_8.2.2.2.2.2.2.1
theorem dX7_greensForNobody_23 : decode cX7_greensForNobody 23 = .ok (.ifCond .eq 14, 3) := dk_dX7_greensForNobody_0_8.2.2.2.2.2.2.2.1
theorem dk_dX7_greensForNobody_26 : dz_C cX7_greensForNobody [(26, .aload_n 0, 1), (27, .getfield 41, 3), (30, .iload_n 3, 1), (31, .iconst 1, 1), (32, .isub, 1), (33, .iaload, 1), (34, .ifCond .ne 7, 3), (37, .iconst 1, 1), (38, .goto 4, 3), (41, .iconst 0, 1), (42, .istore 4, 2), (44, .iload 4, 2), (46, .ifCond .eq 8, 3), (49, .iinc 1 1, 3), (52, .iconst 0, 1), (53, .istore_n 2, 1)] := dz_of (by decide +kernel)
theorem dX7_greensForNobody_26 : decode cX7_greensForNobody 26 = .ok (.aload_n 0, 1) := dk_dX7_greensForNobody_26.1
theorem dX7_greensForNobody_27 : decode cX7_greensForNobody 27 = .ok (.getfield 41, 3) := dk_dX7_greensForNobody_26.2.1
theorem dX7_greensForNobody_30 : decode cX7_greensForNobody 30 = .ok (.iload_n 3, 1) := dk_dX7_greensForNobody_26.2.2.1
theorem dX7_greensForNobody_31 : decode cX7_greensForNobody 31 = .ok (.iconst 1, 1) := dk_dX7_greensForNobody_26.2.2.2.1
theorem dX7_greensForNobody_32 : decode cX7_greensForNobody 32 = .ok (.isub, 1) := dk_dX7_greensForNobody_26.2.2.2.2.1
theorem dX7_greensForNobody_33 : decode cX7_greensForNobody 33 = .ok (.iaload, 1) := dk_dX7_greensForNobody_26.2.2.2.2.2.1
theorem dX7_greensForNobody_34 : decode cX7_greensForNobody 34 = .ok (.ifCond .ne 7, 3) := dk_dX7_greensForNobody_26.2.2.2.2.2.2.1
theorem dX7_greensForNobody_37 : decode cX7_greensForNobody 37 = .ok (.iconst 1, 1) := dk_dX7_greensForNobody_26.2.2.2.2.2.2.2.1
theorem dk_dX7_greensForNobody_26_8 : dz_C cX7_greensForNobody [(38, .goto 4, 3), (41, .iconst 0, 1), (42, .istore 4, 2), (44, .iload 4, 2), (46, .ifCond .eq 8, 3), (49, .iinc 1 1, 3), (52, .iconst 0, 1), (53, .istore_n 2, 1)] := dk_dX7_greensForNobody_26.2.2.2.2.2.2.2.2
theorem dX7_greensForNobody_38 : decode cX7_greensForNobody 38 = .ok (.goto 4, 3) := dk_dX7_greensForNobody_26_8.1
theorem dX7_greensForNobody_41 : decode cX7_greensForNobody 41 = .ok (.iconst 0, 1) := dk_dX7_greensForNobody_26_8.2.1
theorem dX7_greensForNobody_42 : decode cX7_greensForNobody 42 = .ok (.istore 4, 2) := dk_dX7_greensForNobody_26_8.2.2.1
theorem dX7_greensForNobody_44 : decode cX7_greensForNobody 44 = .ok (.iload 4, 2) := dk_dX7_greensForNobody_26_8.2.2.2.1
theorem dX7_greensForNobody_46 : decode cX7_greensForNobody 46 = .ok (.ifCond .eq 8, 3) := dk_dX7_greensForNobody_26_8.2.2.2.2.1
theorem dX7_greensForNobody_49 : decode cX7_greensForNobody 49 = .ok (.iinc 1 1, 3) := dk_dX7_greensForNobody_26_8.2.2.2.2.2.1
theorem dX7_greensForNobody_52 : decode cX7_greensForNobody 52 = .ok (.iconst 0, 1) := dk_dX7_greensForNobody_26_8.2.2.2.2.2.2.1
theorem dX7_greensForNobody_53 : decode cX7_greensForNobody 53 = .ok (.istore_n 2, 1) := dk_dX7_greensForNobody_26_8.2.2.2.2.2.2.2.1
theorem dk_dX7_greensForNobody_54 : dz_C cX7_greensForNobody [(54, .aload_n 0, 1), (55, .getfield 41, 3), (58, .iload_n 3, 1), (59, .iaload, 1), (60, .ifCond .le 20, 3), (63, .iload_n 2, 1), (64, .ifCond .ne 16, 3), (67, .aload_n 0, 1), (68, .iload_n 3, 1), (69, .invokevirtual 177, 3), (72, .ifCond .eq 8, 3), (75, .iinc 1 (-1), 3), (78, .iconst 1, 1), (79, .istore_n 2, 1), (80, .iinc 3 1, 3), (83, .goto (-77), 3)] := dz_of (by decide +kernel)
theorem dX7_greensForNobody_54 : decode cX7_greensForNobody 54 = .ok (.aload_n 0, 1) := dk_dX7_greensForNobody_54.1
theorem dX7_greensForNobody_55 : decode cX7_greensForNobody 55 = .ok (.getfield 41, 3) := dk_dX7_greensForNobody_54.2.1
theorem dX7_greensForNobody_58 : decode cX7_greensForNobody 58 = .ok (.iload_n 3, 1) := dk_dX7_greensForNobody_54.2.2.1
theorem dX7_greensForNobody_59 : decode cX7_greensForNobody 59 = .ok (.iaload, 1) := dk_dX7_greensForNobody_54.2.2.2.1
theorem dX7_greensForNobody_60 : decode cX7_greensForNobody 60 = .ok (.ifCond .le 20, 3) := dk_dX7_greensForNobody_54.2.2.2.2.1
theorem dX7_greensForNobody_63 : decode cX7_greensForNobody 63 = .ok (.iload_n 2, 1) := dk_dX7_greensForNobody_54.2.2.2.2.2.1
theorem dX7_greensForNobody_64 : decode cX7_greensForNobody 64 = .ok (.ifCond .ne 16, 3) := dk_dX7_greensForNobody_54.2.2.2.2.2.2.1
theorem dX7_greensForNobody_67 : decode cX7_greensForNobody 67 = .ok (.aload_n 0, 1) := dk_dX7_greensForNobody_54.2.2.2.2.2.2.2.1
theorem dk_dX7_greensForNobody_54_8 : dz_C cX7_greensForNobody [(68, .iload_n 3, 1), (69, .invokevirtual 177, 3), (72, .ifCond .eq 8, 3), (75, .iinc 1 (-1), 3), (78, .iconst 1, 1), (79, .istore_n 2, 1), (80, .iinc 3 1, 3), (83, .goto (-77), 3)] := dk_dX7_greensForNobody_54.2.2.2.2.2.2.2.2
theorem dX7_greensForNobody_68 : decode cX7_greensForNobody 68 = .ok (.iload_n 3, 1) := dk_dX7_greensForNobody_54_8.1
theorem dX7_greensForNobody_69 : decode cX7_greensForNobody 69 = .ok (.invokevirtual 177, 3) := dk_dX7_greensForNobody_54_8.2.1
theorem dX7_greensForNobody_72 : decode cX7_greensForNobody 72 = .ok (.ifCond .eq 8, 3) := dk_dX7_greensForNobody_54_8.2.2.1
theorem dX7_greensForNobody_75 : decode cX7_greensForNobody 75 = .ok (.iinc 1 (-1), 3) := dk_dX7_greensForNobody_54_8.2.2.2.1
theorem dX7_greensForNobody_78 : decode cX7_greensForNobody 78 = .ok (.iconst 1, 1) := dk_dX7_greensForNobody_54_8.2.2.2.2.1
theorem dX7_greensForNobody_79 : decode cX7_greensForNobody 79 = .ok (.istore_n 2, 1) := dk_dX7_greensForNobody_54_8.2.2.2.2.2.1
theorem dX7_greensForNobody_80 : decode cX7_greensForNobody 80 = .ok (.iinc 3 1, 3) := dk_dX7_greensForNobody_54_8.2.2.2.2.2.2.1
theorem dX7_greensForNobody_83 : decode cX7_greensForNobody 83 = .ok (.goto (-77), 3) := dk_dX7_greensForNobody_54_8.2.2.2.2.2.2.2.1
theorem dk_dX7_greensForNobody_86 : dz_C cX7_greensForNobody [(86, .iload_n 1, 1), (87, .ireturn, 1)] := dz_of (by decide +kernel)
theorem dX7_greensForNobody_86 : decode cX7_greensForNobody 86 = .ok (.iload_n 1, 1) := dk_dX7_greensForNobody_86.1
theorem dX7_greensForNobody_87 : decode cX7_greensForNobody 87 = .ok (.ireturn, 1) := dk_dX7_greensForNobody_86.2.1
theorem dk_dX7_greensUpTo_0 : dz_C cX7_greensUpTo [(0, .iload_n 1, 1), (1, .aload_n 0, 1), (2, .getfield 63, 3), (5, .getfield 73, 3), (8, .iconst 1, 1), (9, .isub, 1), (10, .invokestatic 117, 3), (13, .ireturn, 1)] := dz_of (by decide +kernel)
theorem dX7_greensUpTo_0 : decode cX7_greensUpTo 0 = .ok (.iload_n 1, 1) := dk_dX7_greensUpTo_0.1
theorem dX7_greensUpTo_1 : decode cX7_greensUpTo 1 = .ok (.aload_n 0, 1) := dk_dX7_greensUpTo_0.2.1
theorem dX7_greensUpTo_2 : decode cX7_greensUpTo 2 = .ok (.getfield 63, 3) := dk_dX7_greensUpTo_0.2.2.1
theorem dX7_greensUpTo_5 : decode cX7_greensUpTo 5 = .ok (.getfield 73, 3) := dk_dX7_greensUpTo_0.2.2.2.1
theorem dX7_greensUpTo_8 : decode cX7_greensUpTo 8 = .ok (.iconst 1, 1) := dk_dX7_greensUpTo_0.2.2.2.2.1
theorem dX7_greensUpTo_9 : decode cX7_greensUpTo 9 = .ok (.isub, 1) := dk_dX7_greensUpTo_0.2.2.2.2.2.1
theorem dX7_greensUpTo_10 : decode cX7_greensUpTo 10 = .ok (.invokestatic 117, 3) := dk_dX7_greensUpTo_0.2.2.2.2.2.2.1
theorem dX7_greensUpTo_13 : decode cX7_greensUpTo 13 = .ok (.ireturn, 1) := dk_dX7_greensUpTo_0.2.2.2.2.2.2.2.1
theorem dk_dX7_init_0 : dz_C cX7_init [(0, .aload_n 0, 1), (1, .invokespecial 3, 3), (4, .aload_n 0, 1), (5, .iconst (-1), 1), (6, .putfield 9, 3), (9, .aload_n 0, 1), (10, .bipush 6, 2), (12, .newarray .int, 2), (14, .putfield 15, 3), (17, .aload_n 0, 1), (18, .iconst (-1), 1), (19, .putfield 19, 3), (22, .aload_n 0, 1), (23, .iconst 0, 1), (24, .putfield 22, 3), (27, .aload_n 0, 1)] := dz_of (by decide +kernel)
theorem dX7_init_0 : decode cX7_init 0 = .ok (.aload_n 0, 1) := dk_dX7_init_0.1
theorem dX7_init_1 : decode cX7_init 1 = .ok (.invokespecial 3, 3) := dk_dX7_init_0.2.1
theorem dX7_init_4 : decode cX7_init 4 = .ok (.aload_n 0, 1) := dk_dX7_init_0.2.2.1
theorem dX7_init_5 : decode cX7_init 5 = .ok (.iconst (-1), 1) := dk_dX7_init_0.2.2.2.1
theorem dX7_init_6 : decode cX7_init 6 = .ok (.putfield 9, 3) := dk_dX7_init_0.2.2.2.2.1
theorem dX7_init_9 : decode cX7_init 9 = .ok (.aload_n 0, 1) := dk_dX7_init_0.2.2.2.2.2.1
theorem dX7_init_10 : decode cX7_init 10 = .ok (.bipush 6, 2) := dk_dX7_init_0.2.2.2.2.2.2.1
theorem dX7_init_12 : decode cX7_init 12 = .ok (.newarray .int, 2) := dk_dX7_init_0.2.2.2.2.2.2.2.1
theorem dk_dX7_init_0_8 : dz_C cX7_init [(14, .putfield 15, 3), (17, .aload_n 0, 1), (18, .iconst (-1), 1), (19, .putfield 19, 3), (22, .aload_n 0, 1), (23, .iconst 0, 1), (24, .putfield 22, 3), (27, .aload_n 0, 1)] := dk_dX7_init_0.2.2.2.2.2.2.2.2
theorem dX7_init_14 : decode cX7_init 14 = .ok (.putfield 15, 3) := dk_dX7_init_0_8.1
theorem dX7_init_17 : decode cX7_init 17 = .ok (.aload_n 0, 1) := dk_dX7_init_0_8.2.1
theorem dX7_init_18 : decode cX7_init 18 = .ok (.iconst (-1), 1) := dk_dX7_init_0_8.2.2.1
theorem dX7_init_19 : decode cX7_init 19 = .ok (.putfield 19, 3) := dk_dX7_init_0_8.2.2.2.1
theorem dX7_init_22 : decode cX7_init 22 = .ok (.aload_n 0, 1) := dk_dX7_init_0_8.2.2.2.2.1
theorem dX7_init_23 : decode cX7_init 23 = .ok (.iconst 0, 1) := dk_dX7_init_0_8.2.2.2.2.2.1
theorem dX7_init_24 : decode cX7_init 24 = .ok (.putfield 22, 3) := dk_dX7_init_0_8.2.2.2.2.2.2.1
theorem dX7_init_27 : decode cX7_init 27 = .ok (.aload_n 0, 1) := dk_dX7_init_0_8.2.2.2.2.2.2.2.1
theorem dk_dX7_init_28 : dz_C cX7_init [(28, .iconst 0, 1), (29, .putfield 25, 3), (32, .aload_n 0, 1), (33, .iconst 0, 1), (34, .putfield 28, 3), (37, .aload_n 0, 1), (38, .sipush 320, 3), (41, .newarray .int, 2), (43, .putfield 32, 3), (46, .aload_n 0, 1), (47, .sipush 320, 3), (50, .newarray .int, 2), (52, .putfield 35, 3), (55, .aload_n 0, 1), (56, .sipush 3600, 3), (59, .newarray .int, 2)] := dz_of (by decide +kernel)
theorem dX7_init_28 : decode cX7_init 28 = .ok (.iconst 0, 1) := dk_dX7_init_28.1
theorem dX7_init_29 : decode cX7_init 29 = .ok (.putfield 25, 3) := dk_dX7_init_28.2.1
theorem dX7_init_32 : decode cX7_init 32 = .ok (.aload_n 0, 1) := dk_dX7_init_28.2.2.1
theorem dX7_init_33 : decode cX7_init 33 = .ok (.iconst 0, 1) := dk_dX7_init_28.2.2.2.1
theorem dX7_init_34 : decode cX7_init 34 = .ok (.putfield 28, 3) := dk_dX7_init_28.2.2.2.2.1
theorem dX7_init_37 : decode cX7_init 37 = .ok (.aload_n 0, 1) := dk_dX7_init_28.2.2.2.2.2.1
theorem dX7_init_38 : decode cX7_init 38 = .ok (.sipush 320, 3) := dk_dX7_init_28.2.2.2.2.2.2.1
theorem dX7_init_41 : decode cX7_init 41 = .ok (.newarray .int, 2) := dk_dX7_init_28.2.2.2.2.2.2.2.1
theorem dk_dX7_init_28_8 : dz_C cX7_init [(43, .putfield 32, 3), (46, .aload_n 0, 1), (47, .sipush 320, 3), (50, .newarray .int, 2), (52, .putfield 35, 3), (55, .aload_n 0, 1), (56, .sipush 3600, 3), (59, .newarray .int, 2)] := dk_dX7_init_28.2.2.2.2.2.2.2.2
theorem dX7_init_43 : decode cX7_init 43 = .ok (.putfield 32, 3) := dk_dX7_init_28_8.1
theorem dX7_init_46 : decode cX7_init 46 = .ok (.aload_n 0, 1) := dk_dX7_init_28_8.2.1
theorem dX7_init_47 : decode cX7_init 47 = .ok (.sipush 320, 3) := dk_dX7_init_28_8.2.2.1
theorem dX7_init_50 : decode cX7_init 50 = .ok (.newarray .int, 2) := dk_dX7_init_28_8.2.2.2.1
theorem dX7_init_52 : decode cX7_init 52 = .ok (.putfield 35, 3) := dk_dX7_init_28_8.2.2.2.2.1
theorem dX7_init_55 : decode cX7_init 55 = .ok (.aload_n 0, 1) := dk_dX7_init_28_8.2.2.2.2.2.1
theorem dX7_init_56 : decode cX7_init 56 = .ok (.sipush 3600, 3) := dk_dX7_init_28_8.2.2.2.2.2.2.1
theorem dX7_init_59 : decode cX7_init 59 = .ok (.newarray .int, 2) := dk_dX7_init_28_8.2.2.2.2.2.2.2.1
theorem dk_dX7_init_61 : dz_C cX7_init [(61, .putfield 38, 3), (64, .aload_n 0, 1), (65, .sipush 300, 3), (68, .newarray .int, 2), (70, .putfield 41, 3), (73, .aload_n 0, 1), (74, .bipush 12, 2), (76, .newarray .int, 2), (78, .putfield 44, 3), (81, .aload_n 0, 1), (82, .iconst 0, 1), (83, .putfield 47, 3), (86, .aload_n 0, 1), (87, .iconst 0, 1), (88, .putfield 50, 3), (91, .aload_n 0, 1)] := dz_of (by decide +kernel)
theorem dX7_init_61 : decode cX7_init 61 = .ok (.putfield 38, 3) := dk_dX7_init_61.1
theorem dX7_init_64 : decode cX7_init 64 = .ok (.aload_n 0, 1) := dk_dX7_init_61.2.1
theorem dX7_init_65 : decode cX7_init 65 = .ok (.sipush 300, 3) := dk_dX7_init_61.2.2.1
theorem dX7_init_68 : decode cX7_init 68 = .ok (.newarray .int, 2) := dk_dX7_init_61.2.2.2.1
theorem dX7_init_70 : decode cX7_init 70 = .ok (.putfield 41, 3) := dk_dX7_init_61.2.2.2.2.1
theorem dX7_init_73 : decode cX7_init 73 = .ok (.aload_n 0, 1) := dk_dX7_init_61.2.2.2.2.2.1
theorem dX7_init_74 : decode cX7_init 74 = .ok (.bipush 12, 2) := dk_dX7_init_61.2.2.2.2.2.2.1
theorem dX7_init_76 : decode cX7_init 76 = .ok (.newarray .int, 2) := dk_dX7_init_61.2.2.2.2.2.2.2.1
theorem dk_dX7_init_61_8 : dz_C cX7_init [(78, .putfield 44, 3), (81, .aload_n 0, 1), (82, .iconst 0, 1), (83, .putfield 47, 3), (86, .aload_n 0, 1), (87, .iconst 0, 1), (88, .putfield 50, 3), (91, .aload_n 0, 1)] := dk_dX7_init_61.2.2.2.2.2.2.2.2
theorem dX7_init_78 : decode cX7_init 78 = .ok (.putfield 44, 3) := dk_dX7_init_61_8.1
theorem dX7_init_81 : decode cX7_init 81 = .ok (.aload_n 0, 1) := dk_dX7_init_61_8.2.1
theorem dX7_init_82 : decode cX7_init 82 = .ok (.iconst 0, 1) := dk_dX7_init_61_8.2.2.1
theorem dX7_init_83 : decode cX7_init 83 = .ok (.putfield 47, 3) := dk_dX7_init_61_8.2.2.2.1
theorem dX7_init_86 : decode cX7_init 86 = .ok (.aload_n 0, 1) := dk_dX7_init_61_8.2.2.2.2.1
theorem dX7_init_87 : decode cX7_init 87 = .ok (.iconst 0, 1) := dk_dX7_init_61_8.2.2.2.2.2.1
theorem dX7_init_88 : decode cX7_init 88 = .ok (.putfield 50, 3) := dk_dX7_init_61_8.2.2.2.2.2.2.1
theorem dX7_init_91 : decode cX7_init 91 = .ok (.aload_n 0, 1) := dk_dX7_init_61_8.2.2.2.2.2.2.2.1
theorem dk_dX7_init_92 : dz_C cX7_init [(92, .iconst 0, 1), (93, .putfield 53, 3), (96, .aload_n 0, 1), (97, .iconst 0, 1), (98, .putfield 56, 3), (101, .aload_n 0, 1), (102, .aload_n 1, 1), (103, .putfield 59, 3), (106, .aload_n 0, 1), (107, .aload_n 2, 1), (108, .putfield 63, 3), (111, .return_, 1)] := dz_of (by decide +kernel)
theorem dX7_init_92 : decode cX7_init 92 = .ok (.iconst 0, 1) := dk_dX7_init_92.1
theorem dX7_init_93 : decode cX7_init 93 = .ok (.putfield 53, 3) := dk_dX7_init_92.2.1
theorem dX7_init_96 : decode cX7_init 96 = .ok (.aload_n 0, 1) := dk_dX7_init_92.2.2.1
theorem dX7_init_97 : decode cX7_init 97 = .ok (.iconst 0, 1) := dk_dX7_init_92.2.2.2.1
theorem dX7_init_98 : decode cX7_init 98 = .ok (.putfield 56, 3) := dk_dX7_init_92.2.2.2.2.1
theorem dX7_init_101 : decode cX7_init 101 = .ok (.aload_n 0, 1) := dk_dX7_init_92.2.2.2.2.2.1
theorem dX7_init_102 : decode cX7_init 102 = .ok (.aload_n 1, 1) := dk_dX7_init_92.2.2.2.2.2.2.1
theorem dX7_init_103 : decode cX7_init 103 = .ok (.putfield 59, 3) := dk_dX7_init_92.2.2.2.2.2.2.2.1
theorem dk_dX7_init_92_8 : dz_C cX7_init [(106, .aload_n 0, 1), (107, .aload_n 2, 1), (108, .putfield 63, 3), (111, .return_, 1)] := dk_dX7_init_92.2.2.2.2.2.2.2.2
theorem dX7_init_106 : decode cX7_init 106 = .ok (.aload_n 0, 1) := dk_dX7_init_92_8.1
theorem dX7_init_107 : decode cX7_init 107 = .ok (.aload_n 2, 1) := dk_dX7_init_92_8.2.1
theorem dX7_init_108 : decode cX7_init 108 = .ok (.putfield 63, 3) := dk_dX7_init_92_8.2.2.1
theorem dX7_init_111 : decode cX7_init 111 = .ok (.return_, 1) := dk_dX7_init_92_8.2.2.2.1
theorem dk_dX7_lay_0 : dz_C cX7_lay [(0, .aload_n 0, 1), (1, .getfield 63, 3), (4, .getfield 73, 3), (7, .ifCond .gt 4, 3), (10, .return_, 1), (11, .aload_n 0, 1), (12, .aload_n 1, 1), (13, .invokevirtual 76, 3), (16, .aload_n 0, 1), (17, .getfield 19, 3), (20, .iload_n 2, 1), (21, .if_icmp .ne 21, 3), (24, .aload_n 0, 1), (25, .getfield 22, 3), (28, .iload_n 3, 1), (29, .if_icmp .ne 13, 3)] := dz_of (by decide +kernel)
theorem dX7_lay_0 : decode cX7_lay 0 = .ok (.aload_n 0, 1) := dk_dX7_lay_0.1
theorem dX7_lay_1 : decode cX7_lay 1 = .ok (.getfield 63, 3) := dk_dX7_lay_0.2.1
theorem dX7_lay_4 : decode cX7_lay 4 = .ok (.getfield 73, 3) := dk_dX7_lay_0.2.2.1
theorem dX7_lay_7 : decode cX7_lay 7 = .ok (.ifCond .gt 4, 3) := dk_dX7_lay_0.2.2.2.1
theorem dX7_lay_10 : decode cX7_lay 10 = .ok (.return_, 1) := dk_dX7_lay_0.2.2.2.2.1
theorem dX7_lay_11 : decode cX7_lay 11 = .ok (.aload_n 0, 1) := dk_dX7_lay_0.2.2.2.2.2.1
theorem dX7_lay_12 : decode cX7_lay 12 = .ok (.aload_n 1, 1) := dk_dX7_lay_0.2.2.2.2.2.2.1
theorem dX7_lay_13 : decode cX7_lay 13 = .ok (.invokevirtual 76, 3) := dk_dX7_lay_0.2.2.2.2.2.2.2.1
theorem dk_dX7_lay_0_8 : dz_C cX7_lay [(16, .aload_n 0, 1), (17, .getfield 19, 3), (20, .iload_n 2, 1), (21, .if_icmp .ne 21, 3), (24, .aload_n 0, 1), (25, .getfield 22, 3), (28, .iload_n 3, 1), (29, .if_icmp .ne 13, 3)] := dk_dX7_lay_0.2.2.2.2.2.2.2.2
theorem dX7_lay_16 : decode cX7_lay 16 = .ok (.aload_n 0, 1) := dk_dX7_lay_0_8.1
theorem dX7_lay_17 : decode cX7_lay 17 = .ok (.getfield 19, 3) := dk_dX7_lay_0_8.2.1
theorem dX7_lay_20 : decode cX7_lay 20 = .ok (.iload_n 2, 1) := dk_dX7_lay_0_8.2.2.1
theorem dX7_lay_21 : decode cX7_lay 21 = .ok (.if_icmp .ne 21, 3) := dk_dX7_lay_0_8.2.2.2.1
theorem dX7_lay_24 : decode cX7_lay 24 = .ok (.aload_n 0, 1) := dk_dX7_lay_0_8.2.2.2.2.1
theorem dX7_lay_25 : decode cX7_lay 25 = .ok (.getfield 22, 3) := dk_dX7_lay_0_8.2.2.2.2.2.1
theorem dX7_lay_28 : decode cX7_lay 28 = .ok (.iload_n 3, 1) := dk_dX7_lay_0_8.2.2.2.2.2.2.1
theorem dX7_lay_29 : decode cX7_lay 29 = .ok (.if_icmp .ne 13, 3) := dk_dX7_lay_0_8.2.2.2.2.2.2.2.1
theorem dk_dX7_lay_32 : dz_C cX7_lay [(32, .aload_n 0, 1), (33, .getfield 25, 3), (36, .iload 4, 2), (38, .if_icmp .ne 4, 3), (41, .return_, 1), (42, .aload_n 0, 1), (43, .iload_n 2, 1), (44, .putfield 19, 3), (47, .aload_n 0, 1), (48, .iload_n 3, 1), (49, .putfield 22, 3), (52, .aload_n 0, 1), (53, .iload 4, 2), (55, .putfield 25, 3), (58, .aload_n 0, 1), (59, .invokevirtual 80, 3)] := dz_of (by decide +kernel)
theorem dX7_lay_32 : decode cX7_lay 32 = .ok (.aload_n 0, 1) := dk_dX7_lay_32.1
theorem dX7_lay_33 : decode cX7_lay 33 = .ok (.getfield 25, 3) := dk_dX7_lay_32.2.1
theorem dX7_lay_36 : decode cX7_lay 36 = .ok (.iload 4, 2) := dk_dX7_lay_32.2.2.1
theorem dX7_lay_38 : decode cX7_lay 38 = .ok (.if_icmp .ne 4, 3) := dk_dX7_lay_32.2.2.2.1
theorem dX7_lay_41 : decode cX7_lay 41 = .ok (.return_, 1) := dk_dX7_lay_32.2.2.2.2.1
theorem dX7_lay_42 : decode cX7_lay 42 = .ok (.aload_n 0, 1) := dk_dX7_lay_32.2.2.2.2.2.1
theorem dX7_lay_43 : decode cX7_lay 43 = .ok (.iload_n 2, 1) := dk_dX7_lay_32.2.2.2.2.2.2.1
theorem dX7_lay_44 : decode cX7_lay 44 = .ok (.putfield 19, 3) := dk_dX7_lay_32.2.2.2.2.2.2.2.1
theorem dk_dX7_lay_32_8 : dz_C cX7_lay [(47, .aload_n 0, 1), (48, .iload_n 3, 1), (49, .putfield 22, 3), (52, .aload_n 0, 1), (53, .iload 4, 2), (55, .putfield 25, 3), (58, .aload_n 0, 1), (59, .invokevirtual 80, 3)] := dk_dX7_lay_32.2.2.2.2.2.2.2.2
theorem dX7_lay_47 : decode cX7_lay 47 = .ok (.aload_n 0, 1) := dk_dX7_lay_32_8.1
theorem dX7_lay_48 : decode cX7_lay 48 = .ok (.iload_n 3, 1) := dk_dX7_lay_32_8.2.1
theorem dX7_lay_49 : decode cX7_lay 49 = .ok (.putfield 22, 3) := dk_dX7_lay_32_8.2.2.1
theorem dX7_lay_52 : decode cX7_lay 52 = .ok (.aload_n 0, 1) := dk_dX7_lay_32_8.2.2.2.1
theorem dX7_lay_53 : decode cX7_lay 53 = .ok (.iload 4, 2) := dk_dX7_lay_32_8.2.2.2.2.1
theorem dX7_lay_55 : decode cX7_lay 55 = .ok (.putfield 25, 3) := dk_dX7_lay_32_8.2.2.2.2.2.1
theorem dX7_lay_58 : decode cX7_lay 58 = .ok (.aload_n 0, 1) := dk_dX7_lay_32_8.2.2.2.2.2.2.1
theorem dX7_lay_59 : decode cX7_lay 59 = .ok (.invokevirtual 80, 3) := dk_dX7_lay_32_8.2.2.2.2.2.2.2.1
theorem dk_dX7_lay_62 : dz_C cX7_lay [(62, .aload_n 0, 1), (63, .invokevirtual 83, 3), (66, .return_, 1)] := dz_of (by decide +kernel)
theorem dX7_lay_62 : decode cX7_lay 62 = .ok (.aload_n 0, 1) := dk_dX7_lay_62.1
theorem dX7_lay_63 : decode cX7_lay 63 = .ok (.invokevirtual 83, 3) := dk_dX7_lay_62.2.1
theorem dX7_lay_66 : decode cX7_lay 66 = .ok (.return_, 1) := dk_dX7_lay_62.2.2.1
theorem dk_dX7_pass_0 : dz_C cX7_pass [(0, .iconst 0, 1), (1, .istore_n 2, 1), (2, .iload_n 2, 1), (3, .aload_n 0, 1), (4, .getfield 63, 3), (7, .getfield 137, 3), (10, .if_icmp .ge 117, 3), (13, .aload_n 0, 1), (14, .getfield 25, 3), (17, .iload_n 2, 1), (18, .ishr, 1), (19, .iconst 1, 1), (20, .iand, 1), (21, .ifCond .ne 100, 3), (24, .aload_n 0, 1), (25, .getfield 63, 3)] := dz_of (by decide +kernel)
theorem dX7_pass_0 : decode cX7_pass 0 = .ok (.iconst 0, 1) := dk_dX7_pass_0.1
theorem dX7_pass_1 : decode cX7_pass 1 = .ok (.istore_n 2, 1) := dk_dX7_pass_0.2.1
theorem dX7_pass_2 : decode cX7_pass 2 = .ok (.iload_n 2, 1) := dk_dX7_pass_0.2.2.1
theorem dX7_pass_3 : decode cX7_pass 3 = .ok (.aload_n 0, 1) := dk_dX7_pass_0.2.2.2.1
theorem dX7_pass_4 : decode cX7_pass 4 = .ok (.getfield 63, 3) := dk_dX7_pass_0.2.2.2.2.1
theorem dX7_pass_7 : decode cX7_pass 7 = .ok (.getfield 137, 3) := dk_dX7_pass_0.2.2.2.2.2.1
theorem dX7_pass_10 : decode cX7_pass 10 = .ok (.if_icmp .ge 117, 3) := dk_dX7_pass_0.2.2.2.2.2.2.1
theorem dX7_pass_13 : decode cX7_pass 13 = .ok (.aload_n 0, 1) := dk_dX7_pass_0.2.2.2.2.2.2.2.1
theorem dk_dX7_pass_0_8 : dz_C cX7_pass [(14, .getfield 25, 3), (17, .iload_n 2, 1), (18, .ishr, 1), (19, .iconst 1, 1), (20, .iand, 1), (21, .ifCond .ne 100, 3), (24, .aload_n 0, 1), (25, .getfield 63, 3)] := dk_dX7_pass_0.2.2.2.2.2.2.2.2
theorem dX7_pass_14 : decode cX7_pass 14 = .ok (.getfield 25, 3) := dk_dX7_pass_0_8.1
theorem dX7_pass_17 : decode cX7_pass 17 = .ok (.iload_n 2, 1) := dk_dX7_pass_0_8.2.1
theorem dX7_pass_18 : decode cX7_pass 18 = .ok (.ishr, 1) := dk_dX7_pass_0_8.2.2.1
theorem dX7_pass_19 : decode cX7_pass 19 = .ok (.iconst 1, 1) := dk_dX7_pass_0_8.2.2.2.1
theorem dX7_pass_20 : decode cX7_pass 20 = .ok (.iand, 1) := dk_dX7_pass_0_8.2.2.2.2.1
theorem dX7_pass_21 : decode cX7_pass 21 = .ok (.ifCond .ne 100, 3) := dk_dX7_pass_0_8.2.2.2.2.2.1
theorem dX7_pass_24 : decode cX7_pass 24 = .ok (.aload_n 0, 1) := dk_dX7_pass_0_8.2.2.2.2.2.2.1
theorem dX7_pass_25 : decode cX7_pass 25 = .ok (.getfield 63, 3) := dk_dX7_pass_0_8.2.2.2.2.2.2.2.1
theorem dk_dX7_pass_28 : dz_C cX7_pass [(28, .getfield 140, 3), (31, .iload_n 2, 1), (32, .iaload, 1), (33, .istore_n 3, 1), (34, .aload_n 0, 1), (35, .iload_n 2, 1), (36, .aload_n 0, 1), (37, .getfield 63, 3), (40, .getfield 153, 3), (43, .iload_n 2, 1), (44, .iaload, 1), (45, .aload_n 0, 1), (46, .iload_n 2, 1), (47, .invokevirtual 163, 3), (50, .aload_n 1, 1), (51, .getfield 92, 3)] := dz_of (by decide +kernel)
theorem dX7_pass_28 : decode cX7_pass 28 = .ok (.getfield 140, 3) := dk_dX7_pass_28.1
theorem dX7_pass_31 : decode cX7_pass 31 = .ok (.iload_n 2, 1) := dk_dX7_pass_28.2.1
theorem dX7_pass_32 : decode cX7_pass 32 = .ok (.iaload, 1) := dk_dX7_pass_28.2.2.1
theorem dX7_pass_33 : decode cX7_pass 33 = .ok (.istore_n 3, 1) := dk_dX7_pass_28.2.2.2.1
theorem dX7_pass_34 : decode cX7_pass 34 = .ok (.aload_n 0, 1) := dk_dX7_pass_28.2.2.2.2.1
theorem dX7_pass_35 : decode cX7_pass 35 = .ok (.iload_n 2, 1) := dk_dX7_pass_28.2.2.2.2.2.1
theorem dX7_pass_36 : decode cX7_pass 36 = .ok (.aload_n 0, 1) := dk_dX7_pass_28.2.2.2.2.2.2.1
theorem dX7_pass_37 : decode cX7_pass 37 = .ok (.getfield 63, 3) := dk_dX7_pass_28.2.2.2.2.2.2.2.1
theorem dk_dX7_pass_28_8 : dz_C cX7_pass [(40, .getfield 153, 3), (43, .iload_n 2, 1), (44, .iaload, 1), (45, .aload_n 0, 1), (46, .iload_n 2, 1), (47, .invokevirtual 163, 3), (50, .aload_n 1, 1), (51, .getfield 92, 3)] := dk_dX7_pass_28.2.2.2.2.2.2.2.2
theorem dX7_pass_40 : decode cX7_pass 40 = .ok (.getfield 153, 3) := dk_dX7_pass_28_8.1
theorem dX7_pass_43 : decode cX7_pass 43 = .ok (.iload_n 2, 1) := dk_dX7_pass_28_8.2.1
theorem dX7_pass_44 : decode cX7_pass 44 = .ok (.iaload, 1) := dk_dX7_pass_28_8.2.2.1
theorem dX7_pass_45 : decode cX7_pass 45 = .ok (.aload_n 0, 1) := dk_dX7_pass_28_8.2.2.2.1
theorem dX7_pass_46 : decode cX7_pass 46 = .ok (.iload_n 2, 1) := dk_dX7_pass_28_8.2.2.2.2.1
theorem dX7_pass_47 : decode cX7_pass 47 = .ok (.invokevirtual 163, 3) := dk_dX7_pass_28_8.2.2.2.2.2.1
theorem dX7_pass_50 : decode cX7_pass 50 = .ok (.aload_n 1, 1) := dk_dX7_pass_28_8.2.2.2.2.2.2.1
theorem dX7_pass_51 : decode cX7_pass 51 = .ok (.getfield 92, 3) := dk_dX7_pass_28_8.2.2.2.2.2.2.2.1
theorem dk_dX7_pass_54 : dz_C cX7_pass [(54, .iload_n 3, 1), (55, .iaload, 1), (56, .invokevirtual 156, 3), (59, .aload_n 0, 1), (60, .getfield 59, 3), (63, .aload_n 0, 1), (64, .getfield 63, 3), (67, .getfield 107, 3), (70, .aload_n 0, 1), (71, .getfield 63, 3), (74, .getfield 110, 3), (77, .iconst 4, 1), (78, .iaload, 1), (79, .aload_n 0, 1), (80, .getfield 63, 3), (83, .getfield 110, 3)] := dz_of (by decide +kernel)
theorem dX7_pass_54 : decode cX7_pass 54 = .ok (.iload_n 3, 1) := dk_dX7_pass_54.1
theorem dX7_pass_55 : decode cX7_pass 55 = .ok (.iaload, 1) := dk_dX7_pass_54.2.1
theorem dX7_pass_56 : decode cX7_pass 56 = .ok (.invokevirtual 156, 3) := dk_dX7_pass_54.2.2.1
theorem dX7_pass_59 : decode cX7_pass 59 = .ok (.aload_n 0, 1) := dk_dX7_pass_54.2.2.2.1
theorem dX7_pass_60 : decode cX7_pass 60 = .ok (.getfield 59, 3) := dk_dX7_pass_54.2.2.2.2.1
theorem dX7_pass_63 : decode cX7_pass 63 = .ok (.aload_n 0, 1) := dk_dX7_pass_54.2.2.2.2.2.1
theorem dX7_pass_64 : decode cX7_pass 64 = .ok (.getfield 63, 3) := dk_dX7_pass_54.2.2.2.2.2.2.1
theorem dX7_pass_67 : decode cX7_pass 67 = .ok (.getfield 107, 3) := dk_dX7_pass_54.2.2.2.2.2.2.2.1
theorem dk_dX7_pass_54_8 : dz_C cX7_pass [(70, .aload_n 0, 1), (71, .getfield 63, 3), (74, .getfield 110, 3), (77, .iconst 4, 1), (78, .iaload, 1), (79, .aload_n 0, 1), (80, .getfield 63, 3), (83, .getfield 110, 3)] := dk_dX7_pass_54.2.2.2.2.2.2.2.2
theorem dX7_pass_70 : decode cX7_pass 70 = .ok (.aload_n 0, 1) := dk_dX7_pass_54_8.1
theorem dX7_pass_71 : decode cX7_pass 71 = .ok (.getfield 63, 3) := dk_dX7_pass_54_8.2.1
theorem dX7_pass_74 : decode cX7_pass 74 = .ok (.getfield 110, 3) := dk_dX7_pass_54_8.2.2.1
theorem dX7_pass_77 : decode cX7_pass 77 = .ok (.iconst 4, 1) := dk_dX7_pass_54_8.2.2.2.1
theorem dX7_pass_78 : decode cX7_pass 78 = .ok (.iaload, 1) := dk_dX7_pass_54_8.2.2.2.2.1
theorem dX7_pass_79 : decode cX7_pass 79 = .ok (.aload_n 0, 1) := dk_dX7_pass_54_8.2.2.2.2.2.1
theorem dX7_pass_80 : decode cX7_pass 80 = .ok (.getfield 63, 3) := dk_dX7_pass_54_8.2.2.2.2.2.2.1
theorem dX7_pass_83 : decode cX7_pass 83 = .ok (.getfield 110, 3) := dk_dX7_pass_54_8.2.2.2.2.2.2.2.1
theorem dk_dX7_pass_86 : dz_C cX7_pass [(86, .iconst 5, 1), (87, .iaload, 1), (88, .invokevirtual 113, 3), (91, .istore 4, 2), (93, .aload_n 1, 1), (94, .getfield 92, 3), (97, .iload_n 3, 1), (98, .iaload, 1), (99, .iload 4, 2), (101, .iadd, 1), (102, .istore 5, 2), (104, .aload_n 1, 1), (105, .getfield 92, 3), (108, .iload_n 3, 1), (109, .iconst 0, 1), (110, .iload 5, 2)] := dz_of (by decide +kernel)
theorem dX7_pass_86 : decode cX7_pass 86 = .ok (.iconst 5, 1) := dk_dX7_pass_86.1
theorem dX7_pass_87 : decode cX7_pass 87 = .ok (.iaload, 1) := dk_dX7_pass_86.2.1
theorem dX7_pass_88 : decode cX7_pass 88 = .ok (.invokevirtual 113, 3) := dk_dX7_pass_86.2.2.1
theorem dX7_pass_91 : decode cX7_pass 91 = .ok (.istore 4, 2) := dk_dX7_pass_86.2.2.2.1
theorem dX7_pass_93 : decode cX7_pass 93 = .ok (.aload_n 1, 1) := dk_dX7_pass_86.2.2.2.2.1
theorem dX7_pass_94 : decode cX7_pass 94 = .ok (.getfield 92, 3) := dk_dX7_pass_86.2.2.2.2.2.1
theorem dX7_pass_97 : decode cX7_pass 97 = .ok (.iload_n 3, 1) := dk_dX7_pass_86.2.2.2.2.2.2.1
theorem dX7_pass_98 : decode cX7_pass 98 = .ok (.iaload, 1) := dk_dX7_pass_86.2.2.2.2.2.2.2.1
theorem dk_dX7_pass_86_8 : dz_C cX7_pass [(99, .iload 4, 2), (101, .iadd, 1), (102, .istore 5, 2), (104, .aload_n 1, 1), (105, .getfield 92, 3), (108, .iload_n 3, 1), (109, .iconst 0, 1), (110, .iload 5, 2)] := dk_dX7_pass_86.2.2.2.2.2.2.2.2
theorem dX7_pass_99 : decode cX7_pass 99 = .ok (.iload 4, 2) := dk_dX7_pass_86_8.1
theorem dX7_pass_101 : decode cX7_pass 101 = .ok (.iadd, 1) := dk_dX7_pass_86_8.2.1
theorem dX7_pass_102 : decode cX7_pass 102 = .ok (.istore 5, 2) := dk_dX7_pass_86_8.2.2.1
theorem dX7_pass_104 : decode cX7_pass 104 = .ok (.aload_n 1, 1) := dk_dX7_pass_86_8.2.2.2.1
theorem dX7_pass_105 : decode cX7_pass 105 = .ok (.getfield 92, 3) := dk_dX7_pass_86_8.2.2.2.2.1
theorem dX7_pass_108 : decode cX7_pass 108 = .ok (.iload_n 3, 1) := dk_dX7_pass_86_8.2.2.2.2.2.1
theorem dX7_pass_109 : decode cX7_pass 109 = .ok (.iconst 0, 1) := dk_dX7_pass_86_8.2.2.2.2.2.2.1
theorem dX7_pass_110 : decode cX7_pass 110 = .ok (.iload 5, 2) := dk_dX7_pass_86_8.2.2.2.2.2.2.2.1
theorem dk_dX7_pass_112 : dz_C cX7_pass [(112, .bipush 9, 2), (114, .invokestatic 117, 3), (117, .invokestatic 134, 3), (120, .iastore, 1), (121, .iinc 2 1, 3), (124, .goto (-122), 3), (127, .aload_n 1, 1), (128, .dup, 1), (129, .getfield 86, 3), (132, .iconst 1, 1), (133, .iadd, 1), (134, .putfield 86, 3), (137, .return_, 1)] := dz_of (by decide +kernel)
theorem dX7_pass_112 : decode cX7_pass 112 = .ok (.bipush 9, 2) := dk_dX7_pass_112.1
theorem dX7_pass_114 : decode cX7_pass 114 = .ok (.invokestatic 117, 3) := dk_dX7_pass_112.2.1
theorem dX7_pass_117 : decode cX7_pass 117 = .ok (.invokestatic 134, 3) := dk_dX7_pass_112.2.2.1
theorem dX7_pass_120 : decode cX7_pass 120 = .ok (.iastore, 1) := dk_dX7_pass_112.2.2.2.1
theorem dX7_pass_121 : decode cX7_pass 121 = .ok (.iinc 2 1, 3) := dk_dX7_pass_112.2.2.2.2.1
theorem dX7_pass_124 : decode cX7_pass 124 = .ok (.goto (-122), 3) := dk_dX7_pass_112.2.2.2.2.2.1
theorem dX7_pass_127 : decode cX7_pass 127 = .ok (.aload_n 1, 1) := dk_dX7_pass_112.2.2.2.2.2.2.1
theorem dX7_pass_128 : decode cX7_pass 128 = .ok (.dup, 1) := dk_dX7_pass_112.2.2.2.2.2.2.2.1
theorem dk_dX7_pass_112_8 : dz_C cX7_pass [(129, .getfield 86, 3), (132, .iconst 1, 1), (133, .iadd, 1), (134, .putfield 86, 3), (137, .return_, 1)] := dk_dX7_pass_112.2.2.2.2.2.2.2.2
theorem dX7_pass_129 : decode cX7_pass 129 = .ok (.getfield 86, 3) := dk_dX7_pass_112_8.1
theorem dX7_pass_132 : decode cX7_pass 132 = .ok (.iconst 1, 1) := dk_dX7_pass_112_8.2.1
theorem dX7_pass_133 : decode cX7_pass 133 = .ok (.iadd, 1) := dk_dX7_pass_112_8.2.2.1
theorem dX7_pass_134 : decode cX7_pass 134 = .ok (.putfield 86, 3) := dk_dX7_pass_112_8.2.2.2.1
theorem dX7_pass_137 : decode cX7_pass 137 = .ok (.return_, 1) := dk_dX7_pass_112_8.2.2.2.2.1
theorem dk_dX7_prepare_0 : dz_C cX7_prepare [(0, .aload_n 0, 1), (1, .getfield 9, 3), (4, .aload_n 1, 1), (5, .getfield 86, 3), (8, .if_icmp .ne 7, 3), (11, .iconst 1, 1), (12, .goto 4, 3), (15, .iconst 0, 1), (16, .istore_n 2, 1), (17, .iload_n 2, 1), (18, .istore_n 3, 1), (19, .iconst 0, 1), (20, .istore 4, 2), (22, .iload 4, 2), (24, .aload_n 0, 1), (25, .getfield 63, 3)] := dz_of (by decide +kernel)
theorem dX7_prepare_0 : decode cX7_prepare 0 = .ok (.aload_n 0, 1) := dk_dX7_prepare_0.1
theorem dX7_prepare_1 : decode cX7_prepare 1 = .ok (.getfield 9, 3) := dk_dX7_prepare_0.2.1
theorem dX7_prepare_4 : decode cX7_prepare 4 = .ok (.aload_n 1, 1) := dk_dX7_prepare_0.2.2.1
theorem dX7_prepare_5 : decode cX7_prepare 5 = .ok (.getfield 86, 3) := dk_dX7_prepare_0.2.2.2.1
theorem dX7_prepare_8 : decode cX7_prepare 8 = .ok (.if_icmp .ne 7, 3) := dk_dX7_prepare_0.2.2.2.2.1
theorem dX7_prepare_11 : decode cX7_prepare 11 = .ok (.iconst 1, 1) := dk_dX7_prepare_0.2.2.2.2.2.1
theorem dX7_prepare_12 : decode cX7_prepare 12 = .ok (.goto 4, 3) := dk_dX7_prepare_0.2.2.2.2.2.2.1
theorem dX7_prepare_15 : decode cX7_prepare 15 = .ok (.iconst 0, 1) := dk_dX7_prepare_0.2.2.2.2.2.2.2.1
theorem dk_dX7_prepare_0_8 : dz_C cX7_prepare [(16, .istore_n 2, 1), (17, .iload_n 2, 1), (18, .istore_n 3, 1), (19, .iconst 0, 1), (20, .istore 4, 2), (22, .iload 4, 2), (24, .aload_n 0, 1), (25, .getfield 63, 3)] := dk_dX7_prepare_0.2.2.2.2.2.2.2.2
theorem dX7_prepare_16 : decode cX7_prepare 16 = .ok (.istore_n 2, 1) := dk_dX7_prepare_0_8.1
theorem dX7_prepare_17 : decode cX7_prepare 17 = .ok (.iload_n 2, 1) := dk_dX7_prepare_0_8.2.1
theorem dX7_prepare_18 : decode cX7_prepare 18 = .ok (.istore_n 3, 1) := dk_dX7_prepare_0_8.2.2.1
theorem dX7_prepare_19 : decode cX7_prepare 19 = .ok (.iconst 0, 1) := dk_dX7_prepare_0_8.2.2.2.1
theorem dX7_prepare_20 : decode cX7_prepare 20 = .ok (.istore 4, 2) := dk_dX7_prepare_0_8.2.2.2.2.1
theorem dX7_prepare_22 : decode cX7_prepare 22 = .ok (.iload 4, 2) := dk_dX7_prepare_0_8.2.2.2.2.2.1
theorem dX7_prepare_24 : decode cX7_prepare 24 = .ok (.aload_n 0, 1) := dk_dX7_prepare_0_8.2.2.2.2.2.2.1
theorem dX7_prepare_25 : decode cX7_prepare 25 = .ok (.getfield 63, 3) := dk_dX7_prepare_0_8.2.2.2.2.2.2.2.1
theorem dk_dX7_prepare_28 : dz_C cX7_prepare [(28, .getfield 89, 3), (31, .if_icmp .ge 50, 3), (34, .iload_n 3, 1), (35, .ifCond .eq 24, 3), (38, .aload_n 0, 1), (39, .getfield 15, 3), (42, .iload 4, 2), (44, .iaload, 1), (45, .aload_n 1, 1), (46, .getfield 92, 3), (49, .iload 4, 2), (51, .iaload, 1), (52, .if_icmp .ne 7, 3), (55, .iconst 1, 1), (56, .goto 4, 3), (59, .iconst 0, 1)] := dz_of (by decide +kernel)
theorem dX7_prepare_28 : decode cX7_prepare 28 = .ok (.getfield 89, 3) := dk_dX7_prepare_28.1
theorem dX7_prepare_31 : decode cX7_prepare 31 = .ok (.if_icmp .ge 50, 3) := dk_dX7_prepare_28.2.1
theorem dX7_prepare_34 : decode cX7_prepare 34 = .ok (.iload_n 3, 1) := dk_dX7_prepare_28.2.2.1
theorem dX7_prepare_35 : decode cX7_prepare 35 = .ok (.ifCond .eq 24, 3) := dk_dX7_prepare_28.2.2.2.1
theorem dX7_prepare_38 : decode cX7_prepare 38 = .ok (.aload_n 0, 1) := dk_dX7_prepare_28.2.2.2.2.1
theorem dX7_prepare_39 : decode cX7_prepare 39 = .ok (.getfield 15, 3) := dk_dX7_prepare_28.2.2.2.2.2.1
theorem dX7_prepare_42 : decode cX7_prepare 42 = .ok (.iload 4, 2) := dk_dX7_prepare_28.2.2.2.2.2.2.1
theorem dX7_prepare_44 : decode cX7_prepare 44 = .ok (.iaload, 1) := dk_dX7_prepare_28.2.2.2.2.2.2.2.1
theorem dk_dX7_prepare_28_8 : dz_C cX7_prepare [(45, .aload_n 1, 1), (46, .getfield 92, 3), (49, .iload 4, 2), (51, .iaload, 1), (52, .if_icmp .ne 7, 3), (55, .iconst 1, 1), (56, .goto 4, 3), (59, .iconst 0, 1)] := dk_dX7_prepare_28.2.2.2.2.2.2.2.2
theorem dX7_prepare_45 : decode cX7_prepare 45 = .ok (.aload_n 1, 1) := dk_dX7_prepare_28_8.1
theorem dX7_prepare_46 : decode cX7_prepare 46 = .ok (.getfield 92, 3) := dk_dX7_prepare_28_8.2.1
theorem dX7_prepare_49 : decode cX7_prepare 49 = .ok (.iload 4, 2) := dk_dX7_prepare_28_8.2.2.1
theorem dX7_prepare_51 : decode cX7_prepare 51 = .ok (.iaload, 1) := dk_dX7_prepare_28_8.2.2.2.1
theorem dX7_prepare_52 : decode cX7_prepare 52 = .ok (.if_icmp .ne 7, 3) := dk_dX7_prepare_28_8.2.2.2.2.1
theorem dX7_prepare_55 : decode cX7_prepare 55 = .ok (.iconst 1, 1) := dk_dX7_prepare_28_8.2.2.2.2.2.1
theorem dX7_prepare_56 : decode cX7_prepare 56 = .ok (.goto 4, 3) := dk_dX7_prepare_28_8.2.2.2.2.2.2.1
theorem dX7_prepare_59 : decode cX7_prepare 59 = .ok (.iconst 0, 1) := dk_dX7_prepare_28_8.2.2.2.2.2.2.2.1
theorem dk_dX7_prepare_60 : dz_C cX7_prepare [(60, .istore_n 3, 1), (61, .aload_n 0, 1), (62, .getfield 15, 3), (65, .iload 4, 2), (67, .aload_n 1, 1), (68, .getfield 92, 3), (71, .iload 4, 2), (73, .iaload, 1), (74, .iastore, 1), (75, .iinc 4 1, 3), (78, .goto (-56), 3), (81, .iload_n 2, 1), (82, .ifCond .ne 15, 3), (85, .aload_n 0, 1), (86, .aload_n 1, 1), (87, .getfield 86, 3)] := dz_of (by decide +kernel)
theorem dX7_prepare_60 : decode cX7_prepare 60 = .ok (.istore_n 3, 1) := dk_dX7_prepare_60.1
theorem dX7_prepare_61 : decode cX7_prepare 61 = .ok (.aload_n 0, 1) := dk_dX7_prepare_60.2.1
theorem dX7_prepare_62 : decode cX7_prepare 62 = .ok (.getfield 15, 3) := dk_dX7_prepare_60.2.2.1
theorem dX7_prepare_65 : decode cX7_prepare 65 = .ok (.iload 4, 2) := dk_dX7_prepare_60.2.2.2.1
theorem dX7_prepare_67 : decode cX7_prepare 67 = .ok (.aload_n 1, 1) := dk_dX7_prepare_60.2.2.2.2.1
theorem dX7_prepare_68 : decode cX7_prepare 68 = .ok (.getfield 92, 3) := dk_dX7_prepare_60.2.2.2.2.2.1
theorem dX7_prepare_71 : decode cX7_prepare 71 = .ok (.iload 4, 2) := dk_dX7_prepare_60.2.2.2.2.2.2.1
theorem dX7_prepare_73 : decode cX7_prepare 73 = .ok (.iaload, 1) := dk_dX7_prepare_60.2.2.2.2.2.2.2.1
theorem dk_dX7_prepare_60_8 : dz_C cX7_prepare [(74, .iastore, 1), (75, .iinc 4 1, 3), (78, .goto (-56), 3), (81, .iload_n 2, 1), (82, .ifCond .ne 15, 3), (85, .aload_n 0, 1), (86, .aload_n 1, 1), (87, .getfield 86, 3)] := dk_dX7_prepare_60.2.2.2.2.2.2.2.2
theorem dX7_prepare_74 : decode cX7_prepare 74 = .ok (.iastore, 1) := dk_dX7_prepare_60_8.1
theorem dX7_prepare_75 : decode cX7_prepare 75 = .ok (.iinc 4 1, 3) := dk_dX7_prepare_60_8.2.1
theorem dX7_prepare_78 : decode cX7_prepare 78 = .ok (.goto (-56), 3) := dk_dX7_prepare_60_8.2.2.1
theorem dX7_prepare_81 : decode cX7_prepare 81 = .ok (.iload_n 2, 1) := dk_dX7_prepare_60_8.2.2.2.1
theorem dX7_prepare_82 : decode cX7_prepare 82 = .ok (.ifCond .ne 15, 3) := dk_dX7_prepare_60_8.2.2.2.2.1
theorem dX7_prepare_85 : decode cX7_prepare 85 = .ok (.aload_n 0, 1) := dk_dX7_prepare_60_8.2.2.2.2.2.1
theorem dX7_prepare_86 : decode cX7_prepare 86 = .ok (.aload_n 1, 1) := dk_dX7_prepare_60_8.2.2.2.2.2.2.1
theorem dX7_prepare_87 : decode cX7_prepare 87 = .ok (.getfield 86, 3) := dk_dX7_prepare_60_8.2.2.2.2.2.2.2.1
theorem dk_dX7_prepare_90 : dz_C cX7_prepare [(90, .putfield 9, 3), (93, .aload_n 0, 1), (94, .invokevirtual 93, 3), (97, .iload_n 3, 1), (98, .ifCond .ne 16, 3), (101, .aload_n 0, 1), (102, .getfield 38, 3), (105, .iconst 0, 1), (106, .invokestatic 96, 3), (109, .aload_n 0, 1), (110, .iconst (-1), 1), (111, .putfield 19, 3), (114, .return_, 1)] := dz_of (by decide +kernel)
theorem dX7_prepare_90 : decode cX7_prepare 90 = .ok (.putfield 9, 3) := dk_dX7_prepare_90.1
theorem dX7_prepare_93 : decode cX7_prepare 93 = .ok (.aload_n 0, 1) := dk_dX7_prepare_90.2.1
theorem dX7_prepare_94 : decode cX7_prepare 94 = .ok (.invokevirtual 93, 3) := dk_dX7_prepare_90.2.2.1
theorem dX7_prepare_97 : decode cX7_prepare 97 = .ok (.iload_n 3, 1) := dk_dX7_prepare_90.2.2.2.1
theorem dX7_prepare_98 : decode cX7_prepare 98 = .ok (.ifCond .ne 16, 3) := dk_dX7_prepare_90.2.2.2.2.1
theorem dX7_prepare_101 : decode cX7_prepare 101 = .ok (.aload_n 0, 1) := dk_dX7_prepare_90.2.2.2.2.2.1
theorem dX7_prepare_102 : decode cX7_prepare 102 = .ok (.getfield 38, 3) := dk_dX7_prepare_90.2.2.2.2.2.2.1
theorem dX7_prepare_105 : decode cX7_prepare 105 = .ok (.iconst 0, 1) := dk_dX7_prepare_90.2.2.2.2.2.2.2.1
theorem dk_dX7_prepare_90_8 : dz_C cX7_prepare [(106, .invokestatic 96, 3), (109, .aload_n 0, 1), (110, .iconst (-1), 1), (111, .putfield 19, 3), (114, .return_, 1)] := dk_dX7_prepare_90.2.2.2.2.2.2.2.2
theorem dX7_prepare_106 : decode cX7_prepare 106 = .ok (.invokestatic 96, 3) := dk_dX7_prepare_90_8.1
theorem dX7_prepare_109 : decode cX7_prepare 109 = .ok (.aload_n 0, 1) := dk_dX7_prepare_90_8.2.1
theorem dX7_prepare_110 : decode cX7_prepare 110 = .ok (.iconst (-1), 1) := dk_dX7_prepare_90_8.2.2.1
theorem dX7_prepare_111 : decode cX7_prepare 111 = .ok (.putfield 19, 3) := dk_dX7_prepare_90_8.2.2.2.1
theorem dX7_prepare_114 : decode cX7_prepare 114 = .ok (.return_, 1) := dk_dX7_prepare_90_8.2.2.2.2.1
theorem dk_dX7_shine_0 : dz_C cX7_shine [(0, .aload_n 0, 1), (1, .invokevirtual 123, 3), (4, .istore_n 1, 1), (5, .aload_n 0, 1), (6, .iconst 0, 1), (7, .putfield 47, 3), (10, .iconst 0, 1), (11, .istore_n 2, 1), (12, .iconst 0, 1), (13, .istore_n 3, 1), (14, .iconst (-1), 1), (15, .istore 4, 2), (17, .iconst 0, 1), (18, .istore 5, 2), (20, .iload 5, 2), (22, .sipush 300, 3)] := dz_of (by decide +kernel)
theorem dX7_shine_0 : decode cX7_shine 0 = .ok (.aload_n 0, 1) := dk_dX7_shine_0.1
theorem dX7_shine_1 : decode cX7_shine 1 = .ok (.invokevirtual 123, 3) := dk_dX7_shine_0.2.1
theorem dX7_shine_4 : decode cX7_shine 4 = .ok (.istore_n 1, 1) := dk_dX7_shine_0.2.2.1
theorem dX7_shine_5 : decode cX7_shine 5 = .ok (.aload_n 0, 1) := dk_dX7_shine_0.2.2.2.1
theorem dX7_shine_6 : decode cX7_shine 6 = .ok (.iconst 0, 1) := dk_dX7_shine_0.2.2.2.2.1
theorem dX7_shine_7 : decode cX7_shine 7 = .ok (.putfield 47, 3) := dk_dX7_shine_0.2.2.2.2.2.1
theorem dX7_shine_10 : decode cX7_shine 10 = .ok (.iconst 0, 1) := dk_dX7_shine_0.2.2.2.2.2.2.1
theorem dX7_shine_11 : decode cX7_shine 11 = .ok (.istore_n 2, 1) := dk_dX7_shine_0.2.2.2.2.2.2.2.1
theorem dk_dX7_shine_0_8 : dz_C cX7_shine [(12, .iconst 0, 1), (13, .istore_n 3, 1), (14, .iconst (-1), 1), (15, .istore 4, 2), (17, .iconst 0, 1), (18, .istore 5, 2), (20, .iload 5, 2), (22, .sipush 300, 3)] := dk_dX7_shine_0.2.2.2.2.2.2.2.2
theorem dX7_shine_12 : decode cX7_shine 12 = .ok (.iconst 0, 1) := dk_dX7_shine_0_8.1
theorem dX7_shine_13 : decode cX7_shine 13 = .ok (.istore_n 3, 1) := dk_dX7_shine_0_8.2.1
theorem dX7_shine_14 : decode cX7_shine 14 = .ok (.iconst (-1), 1) := dk_dX7_shine_0_8.2.2.1
theorem dX7_shine_15 : decode cX7_shine 15 = .ok (.istore 4, 2) := dk_dX7_shine_0_8.2.2.2.1
theorem dX7_shine_17 : decode cX7_shine 17 = .ok (.iconst 0, 1) := dk_dX7_shine_0_8.2.2.2.2.1
theorem dX7_shine_18 : decode cX7_shine 18 = .ok (.istore 5, 2) := dk_dX7_shine_0_8.2.2.2.2.2.1
theorem dX7_shine_20 : decode cX7_shine 20 = .ok (.iload 5, 2) := dk_dX7_shine_0_8.2.2.2.2.2.2.1
theorem dX7_shine_22 : decode cX7_shine 22 = .ok (.sipush 300, 3) := dk_dX7_shine_0_8.2.2.2.2.2.2.2.1
theorem dk_dX7_shine_25 : dz_C cX7_shine [(25, .if_icmp .ge 242, 3), (28, .iload 5, 2), (30, .ifCond .le 15, 3), (33, .aload_n 0, 1), (34, .getfield 41, 3), (37, .iload 5, 2), (39, .iconst 1, 1), (40, .isub, 1), (41, .iaload, 1), (42, .goto 4, 3), (45, .iconst 0, 1), (46, .istore 6, 2), (48, .iload 6, 2), (50, .ifCond .ne 17, 3), (53, .aload_n 0, 1), (54, .getfield 63, 3)] := dz_of (by decide +kernel)
theorem dX7_shine_25 : decode cX7_shine 25 = .ok (.if_icmp .ge 242, 3) := dk_dX7_shine_25.1
theorem dX7_shine_28 : decode cX7_shine 28 = .ok (.iload 5, 2) := dk_dX7_shine_25.2.1
theorem dX7_shine_30 : decode cX7_shine 30 = .ok (.ifCond .le 15, 3) := dk_dX7_shine_25.2.2.1
theorem dX7_shine_33 : decode cX7_shine 33 = .ok (.aload_n 0, 1) := dk_dX7_shine_25.2.2.2.1
theorem dX7_shine_34 : decode cX7_shine 34 = .ok (.getfield 41, 3) := dk_dX7_shine_25.2.2.2.2.1
theorem dX7_shine_37 : decode cX7_shine 37 = .ok (.iload 5, 2) := dk_dX7_shine_25.2.2.2.2.2.1
theorem dX7_shine_39 : decode cX7_shine 39 = .ok (.iconst 1, 1) := dk_dX7_shine_25.2.2.2.2.2.2.1
theorem dX7_shine_40 : decode cX7_shine 40 = .ok (.isub, 1) := dk_dX7_shine_25.2.2.2.2.2.2.2.1
theorem dk_dX7_shine_25_8 : dz_C cX7_shine [(41, .iaload, 1), (42, .goto 4, 3), (45, .iconst 0, 1), (46, .istore 6, 2), (48, .iload 6, 2), (50, .ifCond .ne 17, 3), (53, .aload_n 0, 1), (54, .getfield 63, 3)] := dk_dX7_shine_25.2.2.2.2.2.2.2.2
theorem dX7_shine_41 : decode cX7_shine 41 = .ok (.iaload, 1) := dk_dX7_shine_25_8.1
theorem dX7_shine_42 : decode cX7_shine 42 = .ok (.goto 4, 3) := dk_dX7_shine_25_8.2.1
theorem dX7_shine_45 : decode cX7_shine 45 = .ok (.iconst 0, 1) := dk_dX7_shine_25_8.2.2.1
theorem dX7_shine_46 : decode cX7_shine 46 = .ok (.istore 6, 2) := dk_dX7_shine_25_8.2.2.2.1
theorem dX7_shine_48 : decode cX7_shine 48 = .ok (.iload 6, 2) := dk_dX7_shine_25_8.2.2.2.2.1
theorem dX7_shine_50 : decode cX7_shine 50 = .ok (.ifCond .ne 17, 3) := dk_dX7_shine_25_8.2.2.2.2.2.1
theorem dX7_shine_53 : decode cX7_shine 53 = .ok (.aload_n 0, 1) := dk_dX7_shine_25_8.2.2.2.2.2.2.1
theorem dX7_shine_54 : decode cX7_shine 54 = .ok (.getfield 63, 3) := dk_dX7_shine_25_8.2.2.2.2.2.2.2.1
theorem dk_dX7_shine_57 : dz_C cX7_shine [(57, .iload 5, 2), (59, .invokevirtual 127, 3), (62, .iload_n 1, 1), (63, .iand, 1), (64, .goto 4, 3), (67, .iconst 0, 1), (68, .istore 7, 2), (70, .aload_n 0, 1), (71, .dup, 1), (72, .getfield 47, 3), (75, .iload 7, 2), (77, .ior, 1), (78, .putfield 47, 3), (81, .iload_n 2, 1), (82, .ifCond .ne 8, 3), (85, .iload 7, 2)] := dz_of (by decide +kernel)
theorem dX7_shine_57 : decode cX7_shine 57 = .ok (.iload 5, 2) := dk_dX7_shine_57.1
theorem dX7_shine_59 : decode cX7_shine 59 = .ok (.invokevirtual 127, 3) := dk_dX7_shine_57.2.1
theorem dX7_shine_62 : decode cX7_shine 62 = .ok (.iload_n 1, 1) := dk_dX7_shine_57.2.2.1
theorem dX7_shine_63 : decode cX7_shine 63 = .ok (.iand, 1) := dk_dX7_shine_57.2.2.2.1
theorem dX7_shine_64 : decode cX7_shine 64 = .ok (.goto 4, 3) := dk_dX7_shine_57.2.2.2.2.1
theorem dX7_shine_67 : decode cX7_shine 67 = .ok (.iconst 0, 1) := dk_dX7_shine_57.2.2.2.2.2.1
theorem dX7_shine_68 : decode cX7_shine 68 = .ok (.istore 7, 2) := dk_dX7_shine_57.2.2.2.2.2.2.1
theorem dX7_shine_70 : decode cX7_shine 70 = .ok (.aload_n 0, 1) := dk_dX7_shine_57.2.2.2.2.2.2.2.1
theorem dk_dX7_shine_57_8 : dz_C cX7_shine [(71, .dup, 1), (72, .getfield 47, 3), (75, .iload 7, 2), (77, .ior, 1), (78, .putfield 47, 3), (81, .iload_n 2, 1), (82, .ifCond .ne 8, 3), (85, .iload 7, 2)] := dk_dX7_shine_57.2.2.2.2.2.2.2.2
theorem dX7_shine_71 : decode cX7_shine 71 = .ok (.dup, 1) := dk_dX7_shine_57_8.1
theorem dX7_shine_72 : decode cX7_shine 72 = .ok (.getfield 47, 3) := dk_dX7_shine_57_8.2.1
theorem dX7_shine_75 : decode cX7_shine 75 = .ok (.iload 7, 2) := dk_dX7_shine_57_8.2.2.1
theorem dX7_shine_77 : decode cX7_shine 77 = .ok (.ior, 1) := dk_dX7_shine_57_8.2.2.2.1
theorem dX7_shine_78 : decode cX7_shine 78 = .ok (.putfield 47, 3) := dk_dX7_shine_57_8.2.2.2.2.1
theorem dX7_shine_81 : decode cX7_shine 81 = .ok (.iload_n 2, 1) := dk_dX7_shine_57_8.2.2.2.2.2.1
theorem dX7_shine_82 : decode cX7_shine 82 = .ok (.ifCond .ne 8, 3) := dk_dX7_shine_57_8.2.2.2.2.2.2.1
theorem dX7_shine_85 : decode cX7_shine 85 = .ok (.iload 7, 2) := dk_dX7_shine_57_8.2.2.2.2.2.2.2.1
theorem dk_dX7_shine_87 : dz_C cX7_shine [(87, .ifCond .eq 7, 3), (90, .iconst 1, 1), (91, .goto 4, 3), (94, .iconst 0, 1), (95, .istore_n 2, 1), (96, .iload 5, 2), (98, .aload_n 0, 1), (99, .getfield 63, 3), (102, .getfield 73, 3), (105, .irem, 1), (106, .istore 8, 2), (108, .aload_n 0, 1), (109, .getfield 19, 3), (112, .iconst 1, 1), (113, .if_icmp .ne 98, 3), (116, .iload 6, 2)] := dz_of (by decide +kernel)
theorem dX7_shine_87 : decode cX7_shine 87 = .ok (.ifCond .eq 7, 3) := dk_dX7_shine_87.1
theorem dX7_shine_90 : decode cX7_shine 90 = .ok (.iconst 1, 1) := dk_dX7_shine_87.2.1
theorem dX7_shine_91 : decode cX7_shine 91 = .ok (.goto 4, 3) := dk_dX7_shine_87.2.2.1
theorem dX7_shine_94 : decode cX7_shine 94 = .ok (.iconst 0, 1) := dk_dX7_shine_87.2.2.2.1
theorem dX7_shine_95 : decode cX7_shine 95 = .ok (.istore_n 2, 1) := dk_dX7_shine_87.2.2.2.2.1
theorem dX7_shine_96 : decode cX7_shine 96 = .ok (.iload 5, 2) := dk_dX7_shine_87.2.2.2.2.2.1
theorem dX7_shine_98 : decode cX7_shine 98 = .ok (.aload_n 0, 1) := dk_dX7_shine_87.2.2.2.2.2.2.1
theorem dX7_shine_99 : decode cX7_shine 99 = .ok (.getfield 63, 3) := dk_dX7_shine_87.2.2.2.2.2.2.2.1
theorem dk_dX7_shine_87_8 : dz_C cX7_shine [(102, .getfield 73, 3), (105, .irem, 1), (106, .istore 8, 2), (108, .aload_n 0, 1), (109, .getfield 19, 3), (112, .iconst 1, 1), (113, .if_icmp .ne 98, 3), (116, .iload 6, 2)] := dk_dX7_shine_87.2.2.2.2.2.2.2.2
theorem dX7_shine_102 : decode cX7_shine 102 = .ok (.getfield 73, 3) := dk_dX7_shine_87_8.1
theorem dX7_shine_105 : decode cX7_shine 105 = .ok (.irem, 1) := dk_dX7_shine_87_8.2.1
theorem dX7_shine_106 : decode cX7_shine 106 = .ok (.istore 8, 2) := dk_dX7_shine_87_8.2.2.1
theorem dX7_shine_108 : decode cX7_shine 108 = .ok (.aload_n 0, 1) := dk_dX7_shine_87_8.2.2.2.1
theorem dX7_shine_109 : decode cX7_shine 109 = .ok (.getfield 19, 3) := dk_dX7_shine_87_8.2.2.2.2.1
theorem dX7_shine_112 : decode cX7_shine 112 = .ok (.iconst 1, 1) := dk_dX7_shine_87_8.2.2.2.2.2.1
theorem dX7_shine_113 : decode cX7_shine 113 = .ok (.if_icmp .ne 98, 3) := dk_dX7_shine_87_8.2.2.2.2.2.2.1
theorem dX7_shine_116 : decode cX7_shine 116 = .ok (.iload 6, 2) := dk_dX7_shine_87_8.2.2.2.2.2.2.2.1
theorem dk_dX7_shine_118 : dz_C cX7_shine [(118, .iconst 1, 1), (119, .if_icmp .gt 28, 3), (122, .iload_n 2, 1), (123, .ifCond .eq 24, 3), (126, .iload 5, 2), (128, .iload 4, 2), (130, .isub, 1), (131, .iconst 1, 1), (132, .isub, 1), (133, .aload_n 0, 1), (134, .getfield 63, 3), (137, .getfield 131, 3), (140, .if_icmp .lt 7, 3), (143, .iconst 1, 1), (144, .goto 4, 3), (147, .iconst 0, 1)] := dz_of (by decide +kernel)
theorem dX7_shine_118 : decode cX7_shine 118 = .ok (.iconst 1, 1) := dk_dX7_shine_118.1
theorem dX7_shine_119 : decode cX7_shine 119 = .ok (.if_icmp .gt 28, 3) := dk_dX7_shine_118.2.1
theorem dX7_shine_122 : decode cX7_shine 122 = .ok (.iload_n 2, 1) := dk_dX7_shine_118.2.2.1
theorem dX7_shine_123 : decode cX7_shine 123 = .ok (.ifCond .eq 24, 3) := dk_dX7_shine_118.2.2.2.1
theorem dX7_shine_126 : decode cX7_shine 126 = .ok (.iload 5, 2) := dk_dX7_shine_118.2.2.2.2.1
theorem dX7_shine_128 : decode cX7_shine 128 = .ok (.iload 4, 2) := dk_dX7_shine_118.2.2.2.2.2.1
theorem dX7_shine_130 : decode cX7_shine 130 = .ok (.isub, 1) := dk_dX7_shine_118.2.2.2.2.2.2.1
theorem dX7_shine_131 : decode cX7_shine 131 = .ok (.iconst 1, 1) := dk_dX7_shine_118.2.2.2.2.2.2.2.1
theorem dk_dX7_shine_118_8 : dz_C cX7_shine [(132, .isub, 1), (133, .aload_n 0, 1), (134, .getfield 63, 3), (137, .getfield 131, 3), (140, .if_icmp .lt 7, 3), (143, .iconst 1, 1), (144, .goto 4, 3), (147, .iconst 0, 1)] := dk_dX7_shine_118.2.2.2.2.2.2.2.2
theorem dX7_shine_132 : decode cX7_shine 132 = .ok (.isub, 1) := dk_dX7_shine_118_8.1
theorem dX7_shine_133 : decode cX7_shine 133 = .ok (.aload_n 0, 1) := dk_dX7_shine_118_8.2.1
theorem dX7_shine_134 : decode cX7_shine 134 = .ok (.getfield 63, 3) := dk_dX7_shine_118_8.2.2.1
theorem dX7_shine_137 : decode cX7_shine 137 = .ok (.getfield 131, 3) := dk_dX7_shine_118_8.2.2.2.1
theorem dX7_shine_140 : decode cX7_shine 140 = .ok (.if_icmp .lt 7, 3) := dk_dX7_shine_118_8.2.2.2.2.1
theorem dX7_shine_143 : decode cX7_shine 143 = .ok (.iconst 1, 1) := dk_dX7_shine_118_8.2.2.2.2.2.1
theorem dX7_shine_144 : decode cX7_shine 144 = .ok (.goto 4, 3) := dk_dX7_shine_118_8.2.2.2.2.2.2.1
theorem dX7_shine_147 : decode cX7_shine 147 = .ok (.iconst 0, 1) := dk_dX7_shine_118_8.2.2.2.2.2.2.2.1
theorem dk_dX7_shine_148 : dz_C cX7_shine [(148, .istore_n 3, 1), (149, .iload_n 2, 1), (150, .ifCond .eq 11, 3), (153, .iload_n 3, 1), (154, .ifCond .ne 7, 3), (157, .iconst 1, 1), (158, .goto 4, 3), (161, .iconst 0, 1), (162, .istore_n 2, 1), (163, .aload_n 0, 1), (164, .getfield 41, 3), (167, .iload 5, 2), (169, .iload_n 3, 1), (170, .ifCond .eq 10, 3), (173, .aload_n 0, 1), (174, .getfield 22, 3)] := dz_of (by decide +kernel)
theorem dX7_shine_148 : decode cX7_shine 148 = .ok (.istore_n 3, 1) := dk_dX7_shine_148.1
theorem dX7_shine_149 : decode cX7_shine 149 = .ok (.iload_n 2, 1) := dk_dX7_shine_148.2.1
theorem dX7_shine_150 : decode cX7_shine 150 = .ok (.ifCond .eq 11, 3) := dk_dX7_shine_148.2.2.1
theorem dX7_shine_153 : decode cX7_shine 153 = .ok (.iload_n 3, 1) := dk_dX7_shine_148.2.2.2.1
theorem dX7_shine_154 : decode cX7_shine 154 = .ok (.ifCond .ne 7, 3) := dk_dX7_shine_148.2.2.2.2.1
theorem dX7_shine_157 : decode cX7_shine 157 = .ok (.iconst 1, 1) := dk_dX7_shine_148.2.2.2.2.2.1
theorem dX7_shine_158 : decode cX7_shine 158 = .ok (.goto 4, 3) := dk_dX7_shine_148.2.2.2.2.2.2.1
theorem dX7_shine_161 : decode cX7_shine 161 = .ok (.iconst 0, 1) := dk_dX7_shine_148.2.2.2.2.2.2.2.1
theorem dk_dX7_shine_148_8 : dz_C cX7_shine [(162, .istore_n 2, 1), (163, .aload_n 0, 1), (164, .getfield 41, 3), (167, .iload 5, 2), (169, .iload_n 3, 1), (170, .ifCond .eq 10, 3), (173, .aload_n 0, 1), (174, .getfield 22, 3)] := dk_dX7_shine_148.2.2.2.2.2.2.2.2
theorem dX7_shine_162 : decode cX7_shine 162 = .ok (.istore_n 2, 1) := dk_dX7_shine_148_8.1
theorem dX7_shine_163 : decode cX7_shine 163 = .ok (.aload_n 0, 1) := dk_dX7_shine_148_8.2.1
theorem dX7_shine_164 : decode cX7_shine 164 = .ok (.getfield 41, 3) := dk_dX7_shine_148_8.2.2.1
theorem dX7_shine_167 : decode cX7_shine 167 = .ok (.iload 5, 2) := dk_dX7_shine_148_8.2.2.2.1
theorem dX7_shine_169 : decode cX7_shine 169 = .ok (.iload_n 3, 1) := dk_dX7_shine_148_8.2.2.2.2.1
theorem dX7_shine_170 : decode cX7_shine 170 = .ok (.ifCond .eq 10, 3) := dk_dX7_shine_148_8.2.2.2.2.2.1
theorem dX7_shine_173 : decode cX7_shine 173 = .ok (.aload_n 0, 1) := dk_dX7_shine_148_8.2.2.2.2.2.2.1
theorem dX7_shine_174 : decode cX7_shine 174 = .ok (.getfield 22, 3) := dk_dX7_shine_148_8.2.2.2.2.2.2.2.1
theorem dk_dX7_shine_177 : dz_C cX7_shine [(177, .goto 11, 3), (180, .iload 6, 2), (182, .iconst 1, 1), (183, .isub, 1), (184, .iconst 0, 1), (185, .invokestatic 134, 3), (188, .iastore, 1), (189, .aload_n 0, 1), (190, .getfield 41, 3), (193, .iload 5, 2), (195, .iaload, 1), (196, .ifCond .le 8, 3), (199, .iload 5, 2), (201, .goto 5, 3), (204, .iload 4, 2), (206, .istore 4, 2)] := dz_of (by decide +kernel)
theorem dX7_shine_177 : decode cX7_shine 177 = .ok (.goto 11, 3) := dk_dX7_shine_177.1
theorem dX7_shine_180 : decode cX7_shine 180 = .ok (.iload 6, 2) := dk_dX7_shine_177.2.1
theorem dX7_shine_182 : decode cX7_shine 182 = .ok (.iconst 1, 1) := dk_dX7_shine_177.2.2.1
theorem dX7_shine_183 : decode cX7_shine 183 = .ok (.isub, 1) := dk_dX7_shine_177.2.2.2.1
theorem dX7_shine_184 : decode cX7_shine 184 = .ok (.iconst 0, 1) := dk_dX7_shine_177.2.2.2.2.1
theorem dX7_shine_185 : decode cX7_shine 185 = .ok (.invokestatic 134, 3) := dk_dX7_shine_177.2.2.2.2.2.1
theorem dX7_shine_188 : decode cX7_shine 188 = .ok (.iastore, 1) := dk_dX7_shine_177.2.2.2.2.2.2.1
theorem dX7_shine_189 : decode cX7_shine 189 = .ok (.aload_n 0, 1) := dk_dX7_shine_177.2.2.2.2.2.2.2.1
theorem dk_dX7_shine_177_8 : dz_C cX7_shine [(190, .getfield 41, 3), (193, .iload 5, 2), (195, .iaload, 1), (196, .ifCond .le 8, 3), (199, .iload 5, 2), (201, .goto 5, 3), (204, .iload 4, 2), (206, .istore 4, 2)] := dk_dX7_shine_177.2.2.2.2.2.2.2.2
theorem dX7_shine_190 : decode cX7_shine 190 = .ok (.getfield 41, 3) := dk_dX7_shine_177_8.1
theorem dX7_shine_193 : decode cX7_shine 193 = .ok (.iload 5, 2) := dk_dX7_shine_177_8.2.1
theorem dX7_shine_195 : decode cX7_shine 195 = .ok (.iaload, 1) := dk_dX7_shine_177_8.2.2.1
theorem dX7_shine_196 : decode cX7_shine 196 = .ok (.ifCond .le 8, 3) := dk_dX7_shine_177_8.2.2.2.1
theorem dX7_shine_199 : decode cX7_shine 199 = .ok (.iload 5, 2) := dk_dX7_shine_177_8.2.2.2.2.1
theorem dX7_shine_201 : decode cX7_shine 201 = .ok (.goto 5, 3) := dk_dX7_shine_177_8.2.2.2.2.2.1
theorem dX7_shine_204 : decode cX7_shine 204 = .ok (.iload 4, 2) := dk_dX7_shine_177_8.2.2.2.2.2.2.1
theorem dX7_shine_206 : decode cX7_shine 206 = .ok (.istore 4, 2) := dk_dX7_shine_177_8.2.2.2.2.2.2.2.1
theorem dk_dX7_shine_208 : dz_C cX7_shine [(208, .goto 53, 3), (211, .iload 8, 2), (213, .ifCond .ne 22, 3), (216, .aload_n 0, 1), (217, .getfield 19, 3), (220, .ifCond .eq 7, 3), (223, .iload_n 2, 1), (224, .ifCond .eq 7, 3), (227, .iconst 1, 1), (228, .goto 4, 3), (231, .iconst 0, 1), (232, .istore_n 3, 1), (233, .iconst 0, 1), (234, .istore_n 2, 1), (235, .aload_n 0, 1), (236, .getfield 41, 3)] := dz_of (by decide +kernel)
theorem dX7_shine_208 : decode cX7_shine 208 = .ok (.goto 53, 3) := dk_dX7_shine_208.1
theorem dX7_shine_211 : decode cX7_shine 211 = .ok (.iload 8, 2) := dk_dX7_shine_208.2.1
theorem dX7_shine_213 : decode cX7_shine 213 = .ok (.ifCond .ne 22, 3) := dk_dX7_shine_208.2.2.1
theorem dX7_shine_216 : decode cX7_shine 216 = .ok (.aload_n 0, 1) := dk_dX7_shine_208.2.2.2.1
theorem dX7_shine_217 : decode cX7_shine 217 = .ok (.getfield 19, 3) := dk_dX7_shine_208.2.2.2.2.1
theorem dX7_shine_220 : decode cX7_shine 220 = .ok (.ifCond .eq 7, 3) := dk_dX7_shine_208.2.2.2.2.2.1
theorem dX7_shine_223 : decode cX7_shine 223 = .ok (.iload_n 2, 1) := dk_dX7_shine_208.2.2.2.2.2.2.1
theorem dX7_shine_224 : decode cX7_shine 224 = .ok (.ifCond .eq 7, 3) := dk_dX7_shine_208.2.2.2.2.2.2.2.1
theorem dk_dX7_shine_208_8 : dz_C cX7_shine [(227, .iconst 1, 1), (228, .goto 4, 3), (231, .iconst 0, 1), (232, .istore_n 3, 1), (233, .iconst 0, 1), (234, .istore_n 2, 1), (235, .aload_n 0, 1), (236, .getfield 41, 3)] := dk_dX7_shine_208.2.2.2.2.2.2.2.2
theorem dX7_shine_227 : decode cX7_shine 227 = .ok (.iconst 1, 1) := dk_dX7_shine_208_8.1
theorem dX7_shine_228 : decode cX7_shine 228 = .ok (.goto 4, 3) := dk_dX7_shine_208_8.2.1
theorem dX7_shine_231 : decode cX7_shine 231 = .ok (.iconst 0, 1) := dk_dX7_shine_208_8.2.2.1
theorem dX7_shine_232 : decode cX7_shine 232 = .ok (.istore_n 3, 1) := dk_dX7_shine_208_8.2.2.2.1
theorem dX7_shine_233 : decode cX7_shine 233 = .ok (.iconst 0, 1) := dk_dX7_shine_208_8.2.2.2.2.1
theorem dX7_shine_234 : decode cX7_shine 234 = .ok (.istore_n 2, 1) := dk_dX7_shine_208_8.2.2.2.2.2.1
theorem dX7_shine_235 : decode cX7_shine 235 = .ok (.aload_n 0, 1) := dk_dX7_shine_208_8.2.2.2.2.2.2.1
theorem dX7_shine_236 : decode cX7_shine 236 = .ok (.getfield 41, 3) := dk_dX7_shine_208_8.2.2.2.2.2.2.2.1
theorem dk_dX7_shine_239 : dz_C cX7_shine [(239, .iload 5, 2), (241, .iload_n 3, 1), (242, .ifCond .eq 17, 3), (245, .aload_n 0, 1), (246, .getfield 22, 3), (249, .iload 8, 2), (251, .isub, 1), (252, .iconst 0, 1), (253, .invokestatic 134, 3), (256, .goto 4, 3), (259, .iconst 0, 1), (260, .iastore, 1), (261, .iinc 5 1, 3), (264, .goto (-244), 3), (267, .return_, 1)] := dz_of (by decide +kernel)
theorem dX7_shine_239 : decode cX7_shine 239 = .ok (.iload 5, 2) := dk_dX7_shine_239.1
theorem dX7_shine_241 : decode cX7_shine 241 = .ok (.iload_n 3, 1) := dk_dX7_shine_239.2.1
theorem dX7_shine_242 : decode cX7_shine 242 = .ok (.ifCond .eq 17, 3) := dk_dX7_shine_239.2.2.1
theorem dX7_shine_245 : decode cX7_shine 245 = .ok (.aload_n 0, 1) := dk_dX7_shine_239.2.2.2.1
theorem dX7_shine_246 : decode cX7_shine 246 = .ok (.getfield 22, 3) := dk_dX7_shine_239.2.2.2.2.1
theorem dX7_shine_249 : decode cX7_shine 249 = .ok (.iload 8, 2) := dk_dX7_shine_239.2.2.2.2.2.1
theorem dX7_shine_251 : decode cX7_shine 251 = .ok (.isub, 1) := dk_dX7_shine_239.2.2.2.2.2.2.1
theorem dX7_shine_252 : decode cX7_shine 252 = .ok (.iconst 0, 1) := dk_dX7_shine_239.2.2.2.2.2.2.2.1
theorem dk_dX7_shine_239_8 : dz_C cX7_shine [(253, .invokestatic 134, 3), (256, .goto 4, 3), (259, .iconst 0, 1), (260, .iastore, 1), (261, .iinc 5 1, 3), (264, .goto (-244), 3), (267, .return_, 1)] := dk_dX7_shine_239.2.2.2.2.2.2.2.2
theorem dX7_shine_253 : decode cX7_shine 253 = .ok (.invokestatic 134, 3) := dk_dX7_shine_239_8.1
theorem dX7_shine_256 : decode cX7_shine 256 = .ok (.goto 4, 3) := dk_dX7_shine_239_8.2.1
theorem dX7_shine_259 : decode cX7_shine 259 = .ok (.iconst 0, 1) := dk_dX7_shine_239_8.2.2.1
theorem dX7_shine_260 : decode cX7_shine 260 = .ok (.iastore, 1) := dk_dX7_shine_239_8.2.2.2.1
theorem dX7_shine_261 : decode cX7_shine 261 = .ok (.iinc 5 1, 3) := dk_dX7_shine_239_8.2.2.2.2.1
theorem dX7_shine_264 : decode cX7_shine 264 = .ok (.goto (-244), 3) := dk_dX7_shine_239_8.2.2.2.2.2.1
theorem dX7_shine_267 : decode cX7_shine 267 = .ok (.return_, 1) := dk_dX7_shine_239_8.2.2.2.2.2.2.1
theorem dk_dX7_someoneCrosses_0 : dz_C cX7_someoneCrosses [(0, .iconst 0, 1), (1, .istore_n 2, 1), (2, .iload_n 2, 1), (3, .aload_n 0, 1), (4, .getfield 63, 3), (7, .getfield 137, 3), (10, .if_icmp .ge 33, 3), (13, .aload_n 0, 1), (14, .getfield 44, 3), (17, .iload_n 2, 1), (18, .iaload, 1), (19, .iload_n 1, 1), (20, .if_icmp .ne 17, 3), (23, .aload_n 0, 1), (24, .getfield 50, 3), (27, .iload_n 2, 1)] := dz_of (by decide +kernel)
theorem dX7_someoneCrosses_0 : decode cX7_someoneCrosses 0 = .ok (.iconst 0, 1) := dk_dX7_someoneCrosses_0.1
theorem dX7_someoneCrosses_1 : decode cX7_someoneCrosses 1 = .ok (.istore_n 2, 1) := dk_dX7_someoneCrosses_0.2.1
theorem dX7_someoneCrosses_2 : decode cX7_someoneCrosses 2 = .ok (.iload_n 2, 1) := dk_dX7_someoneCrosses_0.2.2.1
theorem dX7_someoneCrosses_3 : decode cX7_someoneCrosses 3 = .ok (.aload_n 0, 1) := dk_dX7_someoneCrosses_0.2.2.2.1
theorem dX7_someoneCrosses_4 : decode cX7_someoneCrosses 4 = .ok (.getfield 63, 3) := dk_dX7_someoneCrosses_0.2.2.2.2.1
theorem dX7_someoneCrosses_7 : decode cX7_someoneCrosses 7 = .ok (.getfield 137, 3) := dk_dX7_someoneCrosses_0.2.2.2.2.2.1
theorem dX7_someoneCrosses_10 : decode cX7_someoneCrosses 10 = .ok (.if_icmp .ge 33, 3) := dk_dX7_someoneCrosses_0.2.2.2.2.2.2.1
theorem dX7_someoneCrosses_13 : decode cX7_someoneCrosses 13 = .ok (.aload_n 0, 1) := dk_dX7_someoneCrosses_0.2.2.2.2.2.2.2.1
theorem dk_dX7_someoneCrosses_0_8 : dz_C cX7_someoneCrosses [(14, .getfield 44, 3), (17, .iload_n 2, 1), (18, .iaload, 1), (19, .iload_n 1, 1), (20, .if_icmp .ne 17, 3), (23, .aload_n 0, 1), (24, .getfield 50, 3), (27, .iload_n 2, 1)] := dk_dX7_someoneCrosses_0.2.2.2.2.2.2.2.2
theorem dX7_someoneCrosses_14 : decode cX7_someoneCrosses 14 = .ok (.getfield 44, 3) := dk_dX7_someoneCrosses_0_8.1
theorem dX7_someoneCrosses_17 : decode cX7_someoneCrosses 17 = .ok (.iload_n 2, 1) := dk_dX7_someoneCrosses_0_8.2.1
theorem dX7_someoneCrosses_18 : decode cX7_someoneCrosses 18 = .ok (.iaload, 1) := dk_dX7_someoneCrosses_0_8.2.2.1
theorem dX7_someoneCrosses_19 : decode cX7_someoneCrosses 19 = .ok (.iload_n 1, 1) := dk_dX7_someoneCrosses_0_8.2.2.2.1
theorem dX7_someoneCrosses_20 : decode cX7_someoneCrosses 20 = .ok (.if_icmp .ne 17, 3) := dk_dX7_someoneCrosses_0_8.2.2.2.2.1
theorem dX7_someoneCrosses_23 : decode cX7_someoneCrosses 23 = .ok (.aload_n 0, 1) := dk_dX7_someoneCrosses_0_8.2.2.2.2.2.1
theorem dX7_someoneCrosses_24 : decode cX7_someoneCrosses 24 = .ok (.getfield 50, 3) := dk_dX7_someoneCrosses_0_8.2.2.2.2.2.2.1
theorem dX7_someoneCrosses_27 : decode cX7_someoneCrosses 27 = .ok (.iload_n 2, 1) := dk_dX7_someoneCrosses_0_8.2.2.2.2.2.2.2.1
theorem dk_dX7_someoneCrosses_28 : dz_C cX7_someoneCrosses [(28, .ishr, 1), (29, .iconst 1, 1), (30, .iand, 1), (31, .iconst 1, 1), (32, .if_icmp .ne 5, 3), (35, .iconst 1, 1), (36, .ireturn, 1), (37, .iinc 2 1, 3), (40, .goto (-38), 3), (43, .iconst 0, 1), (44, .ireturn, 1)] := dz_of (by decide +kernel)
theorem dX7_someoneCrosses_28 : decode cX7_someoneCrosses 28 = .ok (.ishr, 1) := dk_dX7_someoneCrosses_28.1
theorem dX7_someoneCrosses_29 : decode cX7_someoneCrosses 29 = .ok (.iconst 1, 1) := dk_dX7_someoneCrosses_28.2.1
theorem dX7_someoneCrosses_30 : decode cX7_someoneCrosses 30 = .ok (.iand, 1) := dk_dX7_someoneCrosses_28.2.2.1
theorem dX7_someoneCrosses_31 : decode cX7_someoneCrosses 31 = .ok (.iconst 1, 1) := dk_dX7_someoneCrosses_28.2.2.2.1
theorem dX7_someoneCrosses_32 : decode cX7_someoneCrosses 32 = .ok (.if_icmp .ne 5, 3) := dk_dX7_someoneCrosses_28.2.2.2.2.1
theorem dX7_someoneCrosses_35 : decode cX7_someoneCrosses 35 = .ok (.iconst 1, 1) := dk_dX7_someoneCrosses_28.2.2.2.2.2.1
theorem dX7_someoneCrosses_36 : decode cX7_someoneCrosses 36 = .ok (.ireturn, 1) := dk_dX7_someoneCrosses_28.2.2.2.2.2.2.1
theorem dX7_someoneCrosses_37 : decode cX7_someoneCrosses 37 = .ok (.iinc 2 1, 3) := dk_dX7_someoneCrosses_28.2.2.2.2.2.2.2.1
theorem dk_dX7_someoneCrosses_28_8 : dz_C cX7_someoneCrosses [(40, .goto (-38), 3), (43, .iconst 0, 1), (44, .ireturn, 1)] := dk_dX7_someoneCrosses_28.2.2.2.2.2.2.2.2
theorem dX7_someoneCrosses_40 : decode cX7_someoneCrosses 40 = .ok (.goto (-38), 3) := dk_dX7_someoneCrosses_28_8.1
theorem dX7_someoneCrosses_43 : decode cX7_someoneCrosses 43 = .ok (.iconst 0, 1) := dk_dX7_someoneCrosses_28_8.2.1
theorem dX7_someoneCrosses_44 : decode cX7_someoneCrosses 44 = .ok (.ireturn, 1) := dk_dX7_someoneCrosses_28_8.2.2.1
theorem dk_dX7_take_0 : dz_C cX7_take [(0, .aload_n 0, 1), (1, .aload_n 1, 1), (2, .putfield 63, 3), (5, .aload_n 0, 1), (6, .aload_n 1, 1), (7, .iconst 2, 1), (8, .bipush (-9), 2), (10, .invokevirtual 67, 3), (13, .putfield 28, 3), (16, .aload_n 0, 1), (17, .iconst (-1), 1), (18, .putfield 9, 3), (21, .return_, 1)] := dz_of (by decide +kernel)
theorem dX7_take_0 : decode cX7_take 0 = .ok (.aload_n 0, 1) := dk_dX7_take_0.1
theorem dX7_take_1 : decode cX7_take 1 = .ok (.aload_n 1, 1) := dk_dX7_take_0.2.1
theorem dX7_take_2 : decode cX7_take 2 = .ok (.putfield 63, 3) := dk_dX7_take_0.2.2.1
theorem dX7_take_5 : decode cX7_take 5 = .ok (.aload_n 0, 1) := dk_dX7_take_0.2.2.2.1
theorem dX7_take_6 : decode cX7_take 6 = .ok (.aload_n 1, 1) := dk_dX7_take_0.2.2.2.2.1
theorem dX7_take_7 : decode cX7_take 7 = .ok (.iconst 2, 1) := dk_dX7_take_0.2.2.2.2.2.1
theorem dX7_take_8 : decode cX7_take 8 = .ok (.bipush (-9), 2) := dk_dX7_take_0.2.2.2.2.2.2.1
theorem dX7_take_10 : decode cX7_take 10 = .ok (.invokevirtual 67, 3) := dk_dX7_take_0.2.2.2.2.2.2.2.1
theorem dk_dX7_take_0_8 : dz_C cX7_take [(13, .putfield 28, 3), (16, .aload_n 0, 1), (17, .iconst (-1), 1), (18, .putfield 9, 3), (21, .return_, 1)] := dk_dX7_take_0.2.2.2.2.2.2.2.2
theorem dX7_take_13 : decode cX7_take 13 = .ok (.putfield 28, 3) := dk_dX7_take_0_8.1
theorem dX7_take_16 : decode cX7_take 16 = .ok (.aload_n 0, 1) := dk_dX7_take_0_8.2.1
theorem dX7_take_17 : decode cX7_take 17 = .ok (.iconst (-1), 1) := dk_dX7_take_0_8.2.2.1
theorem dX7_take_18 : decode cX7_take 18 = .ok (.putfield 9, 3) := dk_dX7_take_0_8.2.2.2.1
theorem dX7_take_21 : decode cX7_take 21 = .ok (.return_, 1) := dk_dX7_take_0_8.2.2.2.2.1
theorem dk_dX7_told_0 : dz_C cX7_told [(0, .iload_n 1, 1), (40, .aload_n 0, 1), (41, .invokevirtual 166, 3), (44, .ireturn, 1), (45, .aload_n 0, 1), (46, .getfield 53, 3), (49, .invokestatic 169, 3), (52, .ireturn, 1), (53, .aload_n 0, 1), (54, .getfield 56, 3), (57, .invokestatic 169, 3), (60, .ireturn, 1), (61, .aload_n 0, 1), (62, .getfield 63, 3), (65, .invokevirtual 143, 3), (68, .aload_n 0, 1)] := dz_of (by decide +kernel)
theorem dX7_told_0 : decode cX7_told 0 = .ok (.iload_n 1, 1) := dk_dX7_told_0.1
theorem dX7_told_40 : decode cX7_told 40 = .ok (.aload_n 0, 1) := dk_dX7_told_0.2.1
theorem dX7_told_41 : decode cX7_told 41 = .ok (.invokevirtual 166, 3) := dk_dX7_told_0.2.2.1
theorem dX7_told_44 : decode cX7_told 44 = .ok (.ireturn, 1) := dk_dX7_told_0.2.2.2.1
theorem dX7_told_45 : decode cX7_told 45 = .ok (.aload_n 0, 1) := dk_dX7_told_0.2.2.2.2.1
theorem dX7_told_46 : decode cX7_told 46 = .ok (.getfield 53, 3) := dk_dX7_told_0.2.2.2.2.2.1
theorem dX7_told_49 : decode cX7_told 49 = .ok (.invokestatic 169, 3) := dk_dX7_told_0.2.2.2.2.2.2.1
theorem dX7_told_52 : decode cX7_told 52 = .ok (.ireturn, 1) := dk_dX7_told_0.2.2.2.2.2.2.2.1
theorem dk_dX7_told_0_8 : dz_C cX7_told [(53, .aload_n 0, 1), (54, .getfield 56, 3), (57, .invokestatic 169, 3), (60, .ireturn, 1), (61, .aload_n 0, 1), (62, .getfield 63, 3), (65, .invokevirtual 143, 3), (68, .aload_n 0, 1)] := dk_dX7_told_0.2.2.2.2.2.2.2.2
theorem dX7_told_53 : decode cX7_told 53 = .ok (.aload_n 0, 1) := dk_dX7_told_0_8.1
theorem dX7_told_54 : decode cX7_told 54 = .ok (.getfield 56, 3) := dk_dX7_told_0_8.2.1
theorem dX7_told_57 : decode cX7_told 57 = .ok (.invokestatic 169, 3) := dk_dX7_told_0_8.2.2.1
theorem dX7_told_60 : decode cX7_told 60 = .ok (.ireturn, 1) := dk_dX7_told_0_8.2.2.2.1
theorem dX7_told_61 : decode cX7_told 61 = .ok (.aload_n 0, 1) := dk_dX7_told_0_8.2.2.2.2.1
theorem dX7_told_62 : decode cX7_told 62 = .ok (.getfield 63, 3) := dk_dX7_told_0_8.2.2.2.2.2.1
theorem dX7_told_65 : decode cX7_told 65 = .ok (.invokevirtual 143, 3) := dk_dX7_told_0_8.2.2.2.2.2.2.1
theorem dX7_told_68 : decode cX7_told 68 = .ok (.aload_n 0, 1) := dk_dX7_told_0_8.2.2.2.2.2.2.2.1
theorem dX7_told_1 : decode cX7_told 1 = .ok (.tableswitch 105 0 5 #[39, 44, 52, 60, 92, 97], 39) := by decide +kernel
theorem dk_dX7_told_69 : dz_C cX7_told [(69, .getfield 25, 3), (72, .iconst (-1), 1), (73, .ixor, 1), (74, .iand, 1), (75, .aload_n 0, 1), (76, .getfield 50, 3), (79, .iconst (-1), 1), (80, .ixor, 1), (81, .iand, 1), (82, .aload_n 0, 1), (83, .getfield 53, 3), (86, .iconst (-1), 1), (87, .ixor, 1), (88, .iand, 1), (89, .invokestatic 169, 3), (92, .ireturn, 1)] := dz_of (by decide +kernel)
theorem dX7_told_69 : decode cX7_told 69 = .ok (.getfield 25, 3) := dk_dX7_told_69.1
theorem dX7_told_72 : decode cX7_told 72 = .ok (.iconst (-1), 1) := dk_dX7_told_69.2.1
theorem dX7_told_73 : decode cX7_told 73 = .ok (.ixor, 1) := dk_dX7_told_69.2.2.1
theorem dX7_told_74 : decode cX7_told 74 = .ok (.iand, 1) := dk_dX7_told_69.2.2.2.1
theorem dX7_told_75 : decode cX7_told 75 = .ok (.aload_n 0, 1) := dk_dX7_told_69.2.2.2.2.1
theorem dX7_told_76 : decode cX7_told 76 = .ok (.getfield 50, 3) := dk_dX7_told_69.2.2.2.2.2.1
theorem dX7_told_79 : decode cX7_told 79 = .ok (.iconst (-1), 1) := dk_dX7_told_69.2.2.2.2.2.2.1
theorem dX7_told_80 : decode cX7_told 80 = .ok (.ixor, 1) := dk_dX7_told_69.2.2.2.2.2.2.2.1
theorem dk_dX7_told_69_8 : dz_C cX7_told [(81, .iand, 1), (82, .aload_n 0, 1), (83, .getfield 53, 3), (86, .iconst (-1), 1), (87, .ixor, 1), (88, .iand, 1), (89, .invokestatic 169, 3), (92, .ireturn, 1)] := dk_dX7_told_69.2.2.2.2.2.2.2.2
theorem dX7_told_81 : decode cX7_told 81 = .ok (.iand, 1) := dk_dX7_told_69_8.1
theorem dX7_told_82 : decode cX7_told 82 = .ok (.aload_n 0, 1) := dk_dX7_told_69_8.2.1
theorem dX7_told_83 : decode cX7_told 83 = .ok (.getfield 53, 3) := dk_dX7_told_69_8.2.2.1
theorem dX7_told_86 : decode cX7_told 86 = .ok (.iconst (-1), 1) := dk_dX7_told_69_8.2.2.2.1
theorem dX7_told_87 : decode cX7_told 87 = .ok (.ixor, 1) := dk_dX7_told_69_8.2.2.2.2.1
theorem dX7_told_88 : decode cX7_told 88 = .ok (.iand, 1) := dk_dX7_told_69_8.2.2.2.2.2.1
theorem dX7_told_89 : decode cX7_told 89 = .ok (.invokestatic 169, 3) := dk_dX7_told_69_8.2.2.2.2.2.2.1
theorem dX7_told_92 : decode cX7_told 92 = .ok (.ireturn, 1) := dk_dX7_told_69_8.2.2.2.2.2.2.2.1
theorem dk_dX7_told_93 : dz_C cX7_told [(93, .aload_n 0, 1), (94, .invokevirtual 174, 3), (97, .ireturn, 1), (98, .aload_n 0, 1), (99, .getfield 47, 3), (102, .invokestatic 169, 3), (105, .ireturn, 1), (106, .iconst (-1), 1), (107, .ireturn, 1)] := dz_of (by decide +kernel)
theorem dX7_told_93 : decode cX7_told 93 = .ok (.aload_n 0, 1) := dk_dX7_told_93.1
theorem dX7_told_94 : decode cX7_told 94 = .ok (.invokevirtual 174, 3) := dk_dX7_told_93.2.1
theorem dX7_told_97 : decode cX7_told 97 = .ok (.ireturn, 1) := dk_dX7_told_93.2.2.1
theorem dX7_told_98 : decode cX7_told 98 = .ok (.aload_n 0, 1) := dk_dX7_told_93.2.2.2.1
theorem dX7_told_99 : decode cX7_told 99 = .ok (.getfield 47, 3) := dk_dX7_told_93.2.2.2.2.1
theorem dX7_told_102 : decode cX7_told 102 = .ok (.invokestatic 169, 3) := dk_dX7_told_93.2.2.2.2.2.1
theorem dX7_told_105 : decode cX7_told 105 = .ok (.ireturn, 1) := dk_dX7_told_93.2.2.2.2.2.2.1
theorem dX7_told_106 : decode cX7_told 106 = .ok (.iconst (-1), 1) := dk_dX7_told_93.2.2.2.2.2.2.2.1
theorem dk_dX7_told_93_8 : dz_C cX7_told [(107, .ireturn, 1)] := dk_dX7_told_93.2.2.2.2.2.2.2.2
theorem dX7_told_107 : decode cX7_told 107 = .ok (.ireturn, 1) := dk_dX7_told_93_8.1
theorem dk_dX7_waitedBy_0 : dz_C cX7_waitedBy [(0, .aload_n 0, 1), (1, .getfield 44, 3), (4, .iload_n 1, 1), (5, .iaload, 1), (6, .iconst (-1), 1), (7, .if_icmp .ne 9, 3), (10, .sipush 300, 3), (13, .goto 9, 3), (16, .aload_n 0, 1), (17, .getfield 44, 3), (20, .iload_n 1, 1), (21, .iaload, 1), (22, .aload_n 0, 1), (23, .getfield 63, 3), (26, .getfield 153, 3), (29, .iload_n 1, 1)] := dz_of (by decide +kernel)
theorem dX7_waitedBy_0 : decode cX7_waitedBy 0 = .ok (.aload_n 0, 1) := dk_dX7_waitedBy_0.1
theorem dX7_waitedBy_1 : decode cX7_waitedBy 1 = .ok (.getfield 44, 3) := dk_dX7_waitedBy_0.2.1
theorem dX7_waitedBy_4 : decode cX7_waitedBy 4 = .ok (.iload_n 1, 1) := dk_dX7_waitedBy_0.2.2.1
theorem dX7_waitedBy_5 : decode cX7_waitedBy 5 = .ok (.iaload, 1) := dk_dX7_waitedBy_0.2.2.2.1
theorem dX7_waitedBy_6 : decode cX7_waitedBy 6 = .ok (.iconst (-1), 1) := dk_dX7_waitedBy_0.2.2.2.2.1
theorem dX7_waitedBy_7 : decode cX7_waitedBy 7 = .ok (.if_icmp .ne 9, 3) := dk_dX7_waitedBy_0.2.2.2.2.2.1
theorem dX7_waitedBy_10 : decode cX7_waitedBy 10 = .ok (.sipush 300, 3) := dk_dX7_waitedBy_0.2.2.2.2.2.2.1
theorem dX7_waitedBy_13 : decode cX7_waitedBy 13 = .ok (.goto 9, 3) := dk_dX7_waitedBy_0.2.2.2.2.2.2.2.1
theorem dk_dX7_waitedBy_0_8 : dz_C cX7_waitedBy [(16, .aload_n 0, 1), (17, .getfield 44, 3), (20, .iload_n 1, 1), (21, .iaload, 1), (22, .aload_n 0, 1), (23, .getfield 63, 3), (26, .getfield 153, 3), (29, .iload_n 1, 1)] := dk_dX7_waitedBy_0.2.2.2.2.2.2.2.2
theorem dX7_waitedBy_16 : decode cX7_waitedBy 16 = .ok (.aload_n 0, 1) := dk_dX7_waitedBy_0_8.1
theorem dX7_waitedBy_17 : decode cX7_waitedBy 17 = .ok (.getfield 44, 3) := dk_dX7_waitedBy_0_8.2.1
theorem dX7_waitedBy_20 : decode cX7_waitedBy 20 = .ok (.iload_n 1, 1) := dk_dX7_waitedBy_0_8.2.2.1
theorem dX7_waitedBy_21 : decode cX7_waitedBy 21 = .ok (.iaload, 1) := dk_dX7_waitedBy_0_8.2.2.2.1
theorem dX7_waitedBy_22 : decode cX7_waitedBy 22 = .ok (.aload_n 0, 1) := dk_dX7_waitedBy_0_8.2.2.2.2.1
theorem dX7_waitedBy_23 : decode cX7_waitedBy 23 = .ok (.getfield 63, 3) := dk_dX7_waitedBy_0_8.2.2.2.2.2.1
theorem dX7_waitedBy_26 : decode cX7_waitedBy 26 = .ok (.getfield 153, 3) := dk_dX7_waitedBy_0_8.2.2.2.2.2.2.1
theorem dX7_waitedBy_29 : decode cX7_waitedBy 29 = .ok (.iload_n 1, 1) := dk_dX7_waitedBy_0_8.2.2.2.2.2.2.2.1
theorem dk_dX7_waitedBy_30 : dz_C cX7_waitedBy [(30, .iaload, 1), (31, .isub, 1), (32, .ireturn, 1)] := dz_of (by decide +kernel)
theorem dX7_waitedBy_30 : decode cX7_waitedBy 30 = .ok (.iaload, 1) := dk_dX7_waitedBy_30.1
theorem dX7_waitedBy_31 : decode cX7_waitedBy 31 = .ok (.isub, 1) := dk_dX7_waitedBy_30.2.1
theorem dX7_waitedBy_32 : decode cX7_waitedBy 32 = .ok (.ireturn, 1) := dk_dX7_waitedBy_30.2.2.1
theorem dk_dX7_waitedByAll_0 : dz_C cX7_waitedByAll [(0, .iconst 0, 1), (1, .istore_n 1, 1), (2, .iconst 0, 1), (3, .istore_n 2, 1), (4, .iload_n 2, 1), (5, .aload_n 0, 1), (6, .getfield 63, 3), (9, .getfield 137, 3), (12, .if_icmp .ge 28, 3), (15, .aload_n 0, 1), (16, .getfield 25, 3), (19, .iload_n 2, 1), (20, .ishr, 1), (21, .iconst 1, 1), (22, .iand, 1), (23, .ifCond .ne 11, 3)] := dz_of (by decide +kernel)
theorem dX7_waitedByAll_0 : decode cX7_waitedByAll 0 = .ok (.iconst 0, 1) := dk_dX7_waitedByAll_0.1
theorem dX7_waitedByAll_1 : decode cX7_waitedByAll 1 = .ok (.istore_n 1, 1) := dk_dX7_waitedByAll_0.2.1
theorem dX7_waitedByAll_2 : decode cX7_waitedByAll 2 = .ok (.iconst 0, 1) := dk_dX7_waitedByAll_0.2.2.1
theorem dX7_waitedByAll_3 : decode cX7_waitedByAll 3 = .ok (.istore_n 2, 1) := dk_dX7_waitedByAll_0.2.2.2.1
theorem dX7_waitedByAll_4 : decode cX7_waitedByAll 4 = .ok (.iload_n 2, 1) := dk_dX7_waitedByAll_0.2.2.2.2.1
theorem dX7_waitedByAll_5 : decode cX7_waitedByAll 5 = .ok (.aload_n 0, 1) := dk_dX7_waitedByAll_0.2.2.2.2.2.1
theorem dX7_waitedByAll_6 : decode cX7_waitedByAll 6 = .ok (.getfield 63, 3) := dk_dX7_waitedByAll_0.2.2.2.2.2.2.1
theorem dX7_waitedByAll_9 : decode cX7_waitedByAll 9 = .ok (.getfield 137, 3) := dk_dX7_waitedByAll_0.2.2.2.2.2.2.2.1
theorem dk_dX7_waitedByAll_0_8 : dz_C cX7_waitedByAll [(12, .if_icmp .ge 28, 3), (15, .aload_n 0, 1), (16, .getfield 25, 3), (19, .iload_n 2, 1), (20, .ishr, 1), (21, .iconst 1, 1), (22, .iand, 1), (23, .ifCond .ne 11, 3)] := dk_dX7_waitedByAll_0.2.2.2.2.2.2.2.2
theorem dX7_waitedByAll_12 : decode cX7_waitedByAll 12 = .ok (.if_icmp .ge 28, 3) := dk_dX7_waitedByAll_0_8.1
theorem dX7_waitedByAll_15 : decode cX7_waitedByAll 15 = .ok (.aload_n 0, 1) := dk_dX7_waitedByAll_0_8.2.1
theorem dX7_waitedByAll_16 : decode cX7_waitedByAll 16 = .ok (.getfield 25, 3) := dk_dX7_waitedByAll_0_8.2.2.1
theorem dX7_waitedByAll_19 : decode cX7_waitedByAll 19 = .ok (.iload_n 2, 1) := dk_dX7_waitedByAll_0_8.2.2.2.1
theorem dX7_waitedByAll_20 : decode cX7_waitedByAll 20 = .ok (.ishr, 1) := dk_dX7_waitedByAll_0_8.2.2.2.2.1
theorem dX7_waitedByAll_21 : decode cX7_waitedByAll 21 = .ok (.iconst 1, 1) := dk_dX7_waitedByAll_0_8.2.2.2.2.2.1
theorem dX7_waitedByAll_22 : decode cX7_waitedByAll 22 = .ok (.iand, 1) := dk_dX7_waitedByAll_0_8.2.2.2.2.2.2.1
theorem dX7_waitedByAll_23 : decode cX7_waitedByAll 23 = .ok (.ifCond .ne 11, 3) := dk_dX7_waitedByAll_0_8.2.2.2.2.2.2.2.1
theorem dk_dX7_waitedByAll_26 : dz_C cX7_waitedByAll [(26, .iload_n 1, 1), (27, .aload_n 0, 1), (28, .iload_n 2, 1), (29, .invokevirtual 163, 3), (32, .iadd, 1), (33, .istore_n 1, 1), (34, .iinc 2 1, 3), (37, .goto (-33), 3), (40, .iload_n 1, 1), (41, .ireturn, 1)] := dz_of (by decide +kernel)
theorem dX7_waitedByAll_26 : decode cX7_waitedByAll 26 = .ok (.iload_n 1, 1) := dk_dX7_waitedByAll_26.1
theorem dX7_waitedByAll_27 : decode cX7_waitedByAll 27 = .ok (.aload_n 0, 1) := dk_dX7_waitedByAll_26.2.1
theorem dX7_waitedByAll_28 : decode cX7_waitedByAll 28 = .ok (.iload_n 2, 1) := dk_dX7_waitedByAll_26.2.2.1
theorem dX7_waitedByAll_29 : decode cX7_waitedByAll 29 = .ok (.invokevirtual 163, 3) := dk_dX7_waitedByAll_26.2.2.2.1
theorem dX7_waitedByAll_32 : decode cX7_waitedByAll 32 = .ok (.iadd, 1) := dk_dX7_waitedByAll_26.2.2.2.2.1
theorem dX7_waitedByAll_33 : decode cX7_waitedByAll 33 = .ok (.istore_n 1, 1) := dk_dX7_waitedByAll_26.2.2.2.2.2.1
theorem dX7_waitedByAll_34 : decode cX7_waitedByAll 34 = .ok (.iinc 2 1, 3) := dk_dX7_waitedByAll_26.2.2.2.2.2.2.1
theorem dX7_waitedByAll_37 : decode cX7_waitedByAll 37 = .ok (.goto (-33), 3) := dk_dX7_waitedByAll_26.2.2.2.2.2.2.2.1
theorem dk_dX7_waitedByAll_26_8 : dz_C cX7_waitedByAll [(40, .iload_n 1, 1), (41, .ireturn, 1)] := dk_dX7_waitedByAll_26.2.2.2.2.2.2.2.2
theorem dX7_waitedByAll_40 : decode cX7_waitedByAll 40 = .ok (.iload_n 1, 1) := dk_dX7_waitedByAll_26_8.1
theorem dX7_waitedByAll_41 : decode cX7_waitedByAll 41 = .ok (.ireturn, 1) := dk_dX7_waitedByAll_26_8.2.1
theorem dk_dX7_walk_0 : dz_C cX7_walk [(0, .aload_n 0, 1), (1, .getfield 44, 3), (4, .iconst (-1), 1), (5, .invokestatic 96, 3), (8, .aload_n 0, 1), (9, .iconst 0, 1), (10, .putfield 50, 3), (13, .aload_n 0, 1), (14, .iconst 0, 1), (15, .putfield 53, 3), (18, .aload_n 0, 1), (19, .iconst 0, 1), (20, .putfield 56, 3), (23, .iconst 0, 1), (24, .istore_n 1, 1), (25, .iconst 0, 1)] := dz_of (by decide +kernel)
theorem dX7_walk_0 : decode cX7_walk 0 = .ok (.aload_n 0, 1) := dk_dX7_walk_0.1
theorem dX7_walk_1 : decode cX7_walk 1 = .ok (.getfield 44, 3) := dk_dX7_walk_0.2.1
theorem dX7_walk_4 : decode cX7_walk 4 = .ok (.iconst (-1), 1) := dk_dX7_walk_0.2.2.1
theorem dX7_walk_5 : decode cX7_walk 5 = .ok (.invokestatic 96, 3) := dk_dX7_walk_0.2.2.2.1
theorem dX7_walk_8 : decode cX7_walk 8 = .ok (.aload_n 0, 1) := dk_dX7_walk_0.2.2.2.2.1
theorem dX7_walk_9 : decode cX7_walk 9 = .ok (.iconst 0, 1) := dk_dX7_walk_0.2.2.2.2.2.1
theorem dX7_walk_10 : decode cX7_walk 10 = .ok (.putfield 50, 3) := dk_dX7_walk_0.2.2.2.2.2.2.1
theorem dX7_walk_13 : decode cX7_walk 13 = .ok (.aload_n 0, 1) := dk_dX7_walk_0.2.2.2.2.2.2.2.1
theorem dk_dX7_walk_0_8 : dz_C cX7_walk [(14, .iconst 0, 1), (15, .putfield 53, 3), (18, .aload_n 0, 1), (19, .iconst 0, 1), (20, .putfield 56, 3), (23, .iconst 0, 1), (24, .istore_n 1, 1), (25, .iconst 0, 1)] := dk_dX7_walk_0.2.2.2.2.2.2.2.2
theorem dX7_walk_14 : decode cX7_walk 14 = .ok (.iconst 0, 1) := dk_dX7_walk_0_8.1
theorem dX7_walk_15 : decode cX7_walk 15 = .ok (.putfield 53, 3) := dk_dX7_walk_0_8.2.1
theorem dX7_walk_18 : decode cX7_walk 18 = .ok (.aload_n 0, 1) := dk_dX7_walk_0_8.2.2.1
theorem dX7_walk_19 : decode cX7_walk 19 = .ok (.iconst 0, 1) := dk_dX7_walk_0_8.2.2.2.1
theorem dX7_walk_20 : decode cX7_walk 20 = .ok (.putfield 56, 3) := dk_dX7_walk_0_8.2.2.2.2.1
theorem dX7_walk_23 : decode cX7_walk 23 = .ok (.iconst 0, 1) := dk_dX7_walk_0_8.2.2.2.2.2.1
theorem dX7_walk_24 : decode cX7_walk 24 = .ok (.istore_n 1, 1) := dk_dX7_walk_0_8.2.2.2.2.2.2.1
theorem dX7_walk_25 : decode cX7_walk 25 = .ok (.iconst 0, 1) := dk_dX7_walk_0_8.2.2.2.2.2.2.2.1
theorem dk_dX7_walk_26 : dz_C cX7_walk [(26, .istore_n 2, 1), (27, .aload_n 0, 1), (28, .getfield 63, 3), (31, .invokevirtual 143, 3), (34, .aload_n 0, 1), (35, .getfield 25, 3), (38, .iconst (-1), 1), (39, .ixor, 1), (40, .iand, 1), (41, .istore_n 3, 1), (42, .iconst 0, 1), (43, .istore 4, 2), (45, .iload 4, 2), (47, .sipush 300, 3), (50, .if_icmp .ge 192, 3), (53, .iload_n 2, 1)] := dz_of (by decide +kernel)
theorem dX7_walk_26 : decode cX7_walk 26 = .ok (.istore_n 2, 1) := dk_dX7_walk_26.1
theorem dX7_walk_27 : decode cX7_walk 27 = .ok (.aload_n 0, 1) := dk_dX7_walk_26.2.1
theorem dX7_walk_28 : decode cX7_walk 28 = .ok (.getfield 63, 3) := dk_dX7_walk_26.2.2.1
theorem dX7_walk_31 : decode cX7_walk 31 = .ok (.invokevirtual 143, 3) := dk_dX7_walk_26.2.2.2.1
theorem dX7_walk_34 : decode cX7_walk 34 = .ok (.aload_n 0, 1) := dk_dX7_walk_26.2.2.2.2.1
theorem dX7_walk_35 : decode cX7_walk 35 = .ok (.getfield 25, 3) := dk_dX7_walk_26.2.2.2.2.2.1
theorem dX7_walk_38 : decode cX7_walk 38 = .ok (.iconst (-1), 1) := dk_dX7_walk_26.2.2.2.2.2.2.1
theorem dX7_walk_39 : decode cX7_walk 39 = .ok (.ixor, 1) := dk_dX7_walk_26.2.2.2.2.2.2.2.1
theorem dk_dX7_walk_26_8 : dz_C cX7_walk [(40, .iand, 1), (41, .istore_n 3, 1), (42, .iconst 0, 1), (43, .istore 4, 2), (45, .iload 4, 2), (47, .sipush 300, 3), (50, .if_icmp .ge 192, 3), (53, .iload_n 2, 1)] := dk_dX7_walk_26.2.2.2.2.2.2.2.2
theorem dX7_walk_40 : decode cX7_walk 40 = .ok (.iand, 1) := dk_dX7_walk_26_8.1
theorem dX7_walk_41 : decode cX7_walk 41 = .ok (.istore_n 3, 1) := dk_dX7_walk_26_8.2.1
theorem dX7_walk_42 : decode cX7_walk 42 = .ok (.iconst 0, 1) := dk_dX7_walk_26_8.2.2.1
theorem dX7_walk_43 : decode cX7_walk 43 = .ok (.istore 4, 2) := dk_dX7_walk_26_8.2.2.2.1
theorem dX7_walk_45 : decode cX7_walk 45 = .ok (.iload 4, 2) := dk_dX7_walk_26_8.2.2.2.2.1
theorem dX7_walk_47 : decode cX7_walk 47 = .ok (.sipush 300, 3) := dk_dX7_walk_26_8.2.2.2.2.2.1
theorem dX7_walk_50 : decode cX7_walk 50 = .ok (.if_icmp .ge 192, 3) := dk_dX7_walk_26_8.2.2.2.2.2.2.1
theorem dX7_walk_53 : decode cX7_walk 53 = .ok (.iload_n 2, 1) := dk_dX7_walk_26_8.2.2.2.2.2.2.2.1
theorem dk_dX7_walk_54 : dz_C cX7_walk [(54, .iload_n 3, 1), (55, .ior, 1), (56, .ifCond .eq 186, 3), (59, .aload_n 0, 1), (60, .getfield 63, 3), (63, .iload 4, 2), (65, .invokevirtual 127, 3), (68, .iload_n 3, 1), (69, .iand, 1), (70, .istore 5, 2), (72, .iload_n 3, 1), (73, .iload 5, 2), (75, .iconst (-1), 1), (76, .ixor, 1), (77, .iand, 1), (78, .istore_n 3, 1)] := dz_of (by decide +kernel)
theorem dX7_walk_54 : decode cX7_walk 54 = .ok (.iload_n 3, 1) := dk_dX7_walk_54.1
theorem dX7_walk_55 : decode cX7_walk 55 = .ok (.ior, 1) := dk_dX7_walk_54.2.1
theorem dX7_walk_56 : decode cX7_walk 56 = .ok (.ifCond .eq 186, 3) := dk_dX7_walk_54.2.2.1
theorem dX7_walk_59 : decode cX7_walk 59 = .ok (.aload_n 0, 1) := dk_dX7_walk_54.2.2.2.1
theorem dX7_walk_60 : decode cX7_walk 60 = .ok (.getfield 63, 3) := dk_dX7_walk_54.2.2.2.2.1
theorem dX7_walk_63 : decode cX7_walk 63 = .ok (.iload 4, 2) := dk_dX7_walk_54.2.2.2.2.2.1
theorem dX7_walk_65 : decode cX7_walk 65 = .ok (.invokevirtual 127, 3) := dk_dX7_walk_54.2.2.2.2.2.2.1
theorem dX7_walk_68 : decode cX7_walk 68 = .ok (.iload_n 3, 1) := dk_dX7_walk_54.2.2.2.2.2.2.2.1
theorem dk_dX7_walk_54_8 : dz_C cX7_walk [(69, .iand, 1), (70, .istore 5, 2), (72, .iload_n 3, 1), (73, .iload 5, 2), (75, .iconst (-1), 1), (76, .ixor, 1), (77, .iand, 1), (78, .istore_n 3, 1)] := dk_dX7_walk_54.2.2.2.2.2.2.2.2
theorem dX7_walk_69 : decode cX7_walk 69 = .ok (.iand, 1) := dk_dX7_walk_54_8.1
theorem dX7_walk_70 : decode cX7_walk 70 = .ok (.istore 5, 2) := dk_dX7_walk_54_8.2.1
theorem dX7_walk_72 : decode cX7_walk 72 = .ok (.iload_n 3, 1) := dk_dX7_walk_54_8.2.2.1
theorem dX7_walk_73 : decode cX7_walk 73 = .ok (.iload 5, 2) := dk_dX7_walk_54_8.2.2.2.1
theorem dX7_walk_75 : decode cX7_walk 75 = .ok (.iconst (-1), 1) := dk_dX7_walk_54_8.2.2.2.2.1
theorem dX7_walk_76 : decode cX7_walk 76 = .ok (.ixor, 1) := dk_dX7_walk_54_8.2.2.2.2.2.1
theorem dX7_walk_77 : decode cX7_walk 77 = .ok (.iand, 1) := dk_dX7_walk_54_8.2.2.2.2.2.2.1
theorem dX7_walk_78 : decode cX7_walk 78 = .ok (.istore_n 3, 1) := dk_dX7_walk_54_8.2.2.2.2.2.2.2.1
theorem dk_dX7_walk_79 : dz_C cX7_walk [(79, .iload_n 2, 1), (80, .iload 5, 2), (82, .ior, 1), (83, .istore_n 2, 1), (84, .iconst 0, 1), (85, .istore 6, 2), (87, .iload 6, 2), (89, .aload_n 0, 1), (90, .getfield 63, 3), (93, .getfield 137, 3), (96, .if_icmp .ge 140, 3), (99, .iconst 1, 1), (100, .iload 6, 2), (102, .ishl, 1), (103, .istore 7, 2), (105, .iload_n 2, 1)] := dz_of (by decide +kernel)
theorem dX7_walk_79 : decode cX7_walk 79 = .ok (.iload_n 2, 1) := dk_dX7_walk_79.1
theorem dX7_walk_80 : decode cX7_walk 80 = .ok (.iload 5, 2) := dk_dX7_walk_79.2.1
theorem dX7_walk_82 : decode cX7_walk 82 = .ok (.ior, 1) := dk_dX7_walk_79.2.2.1
theorem dX7_walk_83 : decode cX7_walk 83 = .ok (.istore_n 2, 1) := dk_dX7_walk_79.2.2.2.1
theorem dX7_walk_84 : decode cX7_walk 84 = .ok (.iconst 0, 1) := dk_dX7_walk_79.2.2.2.2.1
theorem dX7_walk_85 : decode cX7_walk 85 = .ok (.istore 6, 2) := dk_dX7_walk_79.2.2.2.2.2.1
theorem dX7_walk_87 : decode cX7_walk 87 = .ok (.iload 6, 2) := dk_dX7_walk_79.2.2.2.2.2.2.1
theorem dX7_walk_89 : decode cX7_walk 89 = .ok (.aload_n 0, 1) := dk_dX7_walk_79.2.2.2.2.2.2.2.1
theorem dk_dX7_walk_79_8 : dz_C cX7_walk [(90, .getfield 63, 3), (93, .getfield 137, 3), (96, .if_icmp .ge 140, 3), (99, .iconst 1, 1), (100, .iload 6, 2), (102, .ishl, 1), (103, .istore 7, 2), (105, .iload_n 2, 1)] := dk_dX7_walk_79.2.2.2.2.2.2.2.2
theorem dX7_walk_90 : decode cX7_walk 90 = .ok (.getfield 63, 3) := dk_dX7_walk_79_8.1
theorem dX7_walk_93 : decode cX7_walk 93 = .ok (.getfield 137, 3) := dk_dX7_walk_79_8.2.1
theorem dX7_walk_96 : decode cX7_walk 96 = .ok (.if_icmp .ge 140, 3) := dk_dX7_walk_79_8.2.2.1
theorem dX7_walk_99 : decode cX7_walk 99 = .ok (.iconst 1, 1) := dk_dX7_walk_79_8.2.2.2.1
theorem dX7_walk_100 : decode cX7_walk 100 = .ok (.iload 6, 2) := dk_dX7_walk_79_8.2.2.2.2.1
theorem dX7_walk_102 : decode cX7_walk 102 = .ok (.ishl, 1) := dk_dX7_walk_79_8.2.2.2.2.2.1
theorem dX7_walk_103 : decode cX7_walk 103 = .ok (.istore 7, 2) := dk_dX7_walk_79_8.2.2.2.2.2.2.1
theorem dX7_walk_105 : decode cX7_walk 105 = .ok (.iload_n 2, 1) := dk_dX7_walk_79_8.2.2.2.2.2.2.2.1
theorem dk_dX7_walk_106 : dz_C cX7_walk [(106, .iload 7, 2), (108, .iand, 1), (109, .ifCond .ne 6, 3), (112, .goto 118, 3), (115, .aload_n 0, 1), (116, .getfield 63, 3), (119, .getfield 146, 3), (122, .aload_n 0, 1), (123, .getfield 63, 3), (126, .getfield 140, 3), (129, .iload 6, 2), (131, .iaload, 1), (132, .iaload, 1), (133, .istore 8, 2), (135, .aload_n 0, 1), (136, .getfield 41, 3)] := dz_of (by decide +kernel)
theorem dX7_walk_106 : decode cX7_walk 106 = .ok (.iload 7, 2) := dk_dX7_walk_106.1
theorem dX7_walk_108 : decode cX7_walk 108 = .ok (.iand, 1) := dk_dX7_walk_106.2.1
theorem dX7_walk_109 : decode cX7_walk 109 = .ok (.ifCond .ne 6, 3) := dk_dX7_walk_106.2.2.1
theorem dX7_walk_112 : decode cX7_walk 112 = .ok (.goto 118, 3) := dk_dX7_walk_106.2.2.2.1
theorem dX7_walk_115 : decode cX7_walk 115 = .ok (.aload_n 0, 1) := dk_dX7_walk_106.2.2.2.2.1
theorem dX7_walk_116 : decode cX7_walk 116 = .ok (.getfield 63, 3) := dk_dX7_walk_106.2.2.2.2.2.1
theorem dX7_walk_119 : decode cX7_walk 119 = .ok (.getfield 146, 3) := dk_dX7_walk_106.2.2.2.2.2.2.1
theorem dX7_walk_122 : decode cX7_walk 122 = .ok (.aload_n 0, 1) := dk_dX7_walk_106.2.2.2.2.2.2.2.1
theorem dk_dX7_walk_106_8 : dz_C cX7_walk [(123, .getfield 63, 3), (126, .getfield 140, 3), (129, .iload 6, 2), (131, .iaload, 1), (132, .iaload, 1), (133, .istore 8, 2), (135, .aload_n 0, 1), (136, .getfield 41, 3)] := dk_dX7_walk_106.2.2.2.2.2.2.2.2
theorem dX7_walk_123 : decode cX7_walk 123 = .ok (.getfield 63, 3) := dk_dX7_walk_106_8.1
theorem dX7_walk_126 : decode cX7_walk 126 = .ok (.getfield 140, 3) := dk_dX7_walk_106_8.2.1
theorem dX7_walk_129 : decode cX7_walk 129 = .ok (.iload 6, 2) := dk_dX7_walk_106_8.2.2.1
theorem dX7_walk_131 : decode cX7_walk 131 = .ok (.iaload, 1) := dk_dX7_walk_106_8.2.2.2.1
theorem dX7_walk_132 : decode cX7_walk 132 = .ok (.iaload, 1) := dk_dX7_walk_106_8.2.2.2.2.1
theorem dX7_walk_133 : decode cX7_walk 133 = .ok (.istore 8, 2) := dk_dX7_walk_106_8.2.2.2.2.2.1
theorem dX7_walk_135 : decode cX7_walk 135 = .ok (.aload_n 0, 1) := dk_dX7_walk_106_8.2.2.2.2.2.2.1
theorem dX7_walk_136 : decode cX7_walk 136 = .ok (.getfield 41, 3) := dk_dX7_walk_106_8.2.2.2.2.2.2.2.1
theorem dk_dX7_walk_139 : dz_C cX7_walk [(139, .iload 4, 2), (141, .iaload, 1), (142, .iload 8, 2), (144, .if_icmp .lt 17, 3), (147, .aload_n 0, 1), (148, .dup, 1), (149, .getfield 50, 3), (152, .iload 7, 2), (154, .ior, 1), (155, .putfield 50, 3), (158, .goto 56, 3), (161, .aload_n 0, 1), (162, .iload 6, 2), (164, .iload 4, 2), (166, .iload_n 1, 1), (167, .invokevirtual 149, 3)] := dz_of (by decide +kernel)
theorem dX7_walk_139 : decode cX7_walk 139 = .ok (.iload 4, 2) := dk_dX7_walk_139.1
theorem dX7_walk_141 : decode cX7_walk 141 = .ok (.iaload, 1) := dk_dX7_walk_139.2.1
theorem dX7_walk_142 : decode cX7_walk 142 = .ok (.iload 8, 2) := dk_dX7_walk_139.2.2.1
theorem dX7_walk_144 : decode cX7_walk 144 = .ok (.if_icmp .lt 17, 3) := dk_dX7_walk_139.2.2.2.1
theorem dX7_walk_147 : decode cX7_walk 147 = .ok (.aload_n 0, 1) := dk_dX7_walk_139.2.2.2.2.1
theorem dX7_walk_148 : decode cX7_walk 148 = .ok (.dup, 1) := dk_dX7_walk_139.2.2.2.2.2.1
theorem dX7_walk_149 : decode cX7_walk 149 = .ok (.getfield 50, 3) := dk_dX7_walk_139.2.2.2.2.2.2.1
theorem dX7_walk_152 : decode cX7_walk 152 = .ok (.iload 7, 2) := dk_dX7_walk_139.2.2.2.2.2.2.2.1
theorem dk_dX7_walk_139_8 : dz_C cX7_walk [(154, .ior, 1), (155, .putfield 50, 3), (158, .goto 56, 3), (161, .aload_n 0, 1), (162, .iload 6, 2), (164, .iload 4, 2), (166, .iload_n 1, 1), (167, .invokevirtual 149, 3)] := dk_dX7_walk_139.2.2.2.2.2.2.2.2
theorem dX7_walk_154 : decode cX7_walk 154 = .ok (.ior, 1) := dk_dX7_walk_139_8.1
theorem dX7_walk_155 : decode cX7_walk 155 = .ok (.putfield 50, 3) := dk_dX7_walk_139_8.2.1
theorem dX7_walk_158 : decode cX7_walk 158 = .ok (.goto 56, 3) := dk_dX7_walk_139_8.2.2.1
theorem dX7_walk_161 : decode cX7_walk 161 = .ok (.aload_n 0, 1) := dk_dX7_walk_139_8.2.2.2.1
theorem dX7_walk_162 : decode cX7_walk 162 = .ok (.iload 6, 2) := dk_dX7_walk_139_8.2.2.2.2.1
theorem dX7_walk_164 : decode cX7_walk 164 = .ok (.iload 4, 2) := dk_dX7_walk_139_8.2.2.2.2.2.1
theorem dX7_walk_166 : decode cX7_walk 166 = .ok (.iload_n 1, 1) := dk_dX7_walk_139_8.2.2.2.2.2.2.1
theorem dX7_walk_167 : decode cX7_walk 167 = .ok (.invokevirtual 149, 3) := dk_dX7_walk_139_8.2.2.2.2.2.2.2.1
theorem dk_dX7_walk_170 : dz_C cX7_walk [(170, .ifCond .eq 60, 3), (173, .aload_n 0, 1), (174, .dup, 1), (175, .getfield 53, 3), (178, .iload 7, 2), (180, .ior, 1), (181, .putfield 53, 3), (184, .aload_n 0, 1), (185, .dup, 1), (186, .getfield 56, 3), (189, .aload_n 0, 1), (190, .getfield 35, 3), (193, .iload 4, 2), (195, .iaload, 1), (196, .iload 8, 2), (198, .if_icmp .ge 8, 3)] := dz_of (by decide +kernel)
theorem dX7_walk_170 : decode cX7_walk 170 = .ok (.ifCond .eq 60, 3) := dk_dX7_walk_170.1
theorem dX7_walk_173 : decode cX7_walk 173 = .ok (.aload_n 0, 1) := dk_dX7_walk_170.2.1
theorem dX7_walk_174 : decode cX7_walk 174 = .ok (.dup, 1) := dk_dX7_walk_170.2.2.1
theorem dX7_walk_175 : decode cX7_walk 175 = .ok (.getfield 53, 3) := dk_dX7_walk_170.2.2.2.1
theorem dX7_walk_178 : decode cX7_walk 178 = .ok (.iload 7, 2) := dk_dX7_walk_170.2.2.2.2.1
theorem dX7_walk_180 : decode cX7_walk 180 = .ok (.ior, 1) := dk_dX7_walk_170.2.2.2.2.2.1
theorem dX7_walk_181 : decode cX7_walk 181 = .ok (.putfield 53, 3) := dk_dX7_walk_170.2.2.2.2.2.2.1
theorem dX7_walk_184 : decode cX7_walk 184 = .ok (.aload_n 0, 1) := dk_dX7_walk_170.2.2.2.2.2.2.2.1
theorem dk_dX7_walk_170_8 : dz_C cX7_walk [(185, .dup, 1), (186, .getfield 56, 3), (189, .aload_n 0, 1), (190, .getfield 35, 3), (193, .iload 4, 2), (195, .iaload, 1), (196, .iload 8, 2), (198, .if_icmp .ge 8, 3)] := dk_dX7_walk_170.2.2.2.2.2.2.2.2
theorem dX7_walk_185 : decode cX7_walk 185 = .ok (.dup, 1) := dk_dX7_walk_170_8.1
theorem dX7_walk_186 : decode cX7_walk 186 = .ok (.getfield 56, 3) := dk_dX7_walk_170_8.2.1
theorem dX7_walk_189 : decode cX7_walk 189 = .ok (.aload_n 0, 1) := dk_dX7_walk_170_8.2.2.1
theorem dX7_walk_190 : decode cX7_walk 190 = .ok (.getfield 35, 3) := dk_dX7_walk_170_8.2.2.2.1
theorem dX7_walk_193 : decode cX7_walk 193 = .ok (.iload 4, 2) := dk_dX7_walk_170_8.2.2.2.2.1
theorem dX7_walk_195 : decode cX7_walk 195 = .ok (.iaload, 1) := dk_dX7_walk_170_8.2.2.2.2.2.1
theorem dX7_walk_196 : decode cX7_walk 196 = .ok (.iload 8, 2) := dk_dX7_walk_170_8.2.2.2.2.2.2.1
theorem dX7_walk_198 : decode cX7_walk 198 = .ok (.if_icmp .ge 8, 3) := dk_dX7_walk_170_8.2.2.2.2.2.2.2.1
theorem dk_dX7_walk_201 : dz_C cX7_walk [(201, .iload 7, 2), (203, .goto 4, 3), (206, .iconst 0, 1), (207, .ior, 1), (208, .putfield 56, 3), (211, .iinc 1 1, 3), (214, .aload_n 0, 1), (215, .getfield 44, 3), (218, .iload 6, 2), (220, .iload 4, 2), (222, .iastore, 1), (223, .iload_n 2, 1), (224, .iload 7, 2), (226, .iconst (-1), 1), (227, .ixor, 1), (228, .iand, 1)] := dz_of (by decide +kernel)
theorem dX7_walk_201 : decode cX7_walk 201 = .ok (.iload 7, 2) := dk_dX7_walk_201.1
theorem dX7_walk_203 : decode cX7_walk 203 = .ok (.goto 4, 3) := dk_dX7_walk_201.2.1
theorem dX7_walk_206 : decode cX7_walk 206 = .ok (.iconst 0, 1) := dk_dX7_walk_201.2.2.1
theorem dX7_walk_207 : decode cX7_walk 207 = .ok (.ior, 1) := dk_dX7_walk_201.2.2.2.1
theorem dX7_walk_208 : decode cX7_walk 208 = .ok (.putfield 56, 3) := dk_dX7_walk_201.2.2.2.2.1
theorem dX7_walk_211 : decode cX7_walk 211 = .ok (.iinc 1 1, 3) := dk_dX7_walk_201.2.2.2.2.2.1
theorem dX7_walk_214 : decode cX7_walk 214 = .ok (.aload_n 0, 1) := dk_dX7_walk_201.2.2.2.2.2.2.1
theorem dX7_walk_215 : decode cX7_walk 215 = .ok (.getfield 44, 3) := dk_dX7_walk_201.2.2.2.2.2.2.2.1
theorem dk_dX7_walk_201_8 : dz_C cX7_walk [(218, .iload 6, 2), (220, .iload 4, 2), (222, .iastore, 1), (223, .iload_n 2, 1), (224, .iload 7, 2), (226, .iconst (-1), 1), (227, .ixor, 1), (228, .iand, 1)] := dk_dX7_walk_201.2.2.2.2.2.2.2.2
theorem dX7_walk_218 : decode cX7_walk 218 = .ok (.iload 6, 2) := dk_dX7_walk_201_8.1
theorem dX7_walk_220 : decode cX7_walk 220 = .ok (.iload 4, 2) := dk_dX7_walk_201_8.2.1
theorem dX7_walk_222 : decode cX7_walk 222 = .ok (.iastore, 1) := dk_dX7_walk_201_8.2.2.1
theorem dX7_walk_223 : decode cX7_walk 223 = .ok (.iload_n 2, 1) := dk_dX7_walk_201_8.2.2.2.1
theorem dX7_walk_224 : decode cX7_walk 224 = .ok (.iload 7, 2) := dk_dX7_walk_201_8.2.2.2.2.1
theorem dX7_walk_226 : decode cX7_walk 226 = .ok (.iconst (-1), 1) := dk_dX7_walk_201_8.2.2.2.2.2.1
theorem dX7_walk_227 : decode cX7_walk 227 = .ok (.ixor, 1) := dk_dX7_walk_201_8.2.2.2.2.2.2.1
theorem dX7_walk_228 : decode cX7_walk 228 = .ok (.iand, 1) := dk_dX7_walk_201_8.2.2.2.2.2.2.2.1
theorem dk_dX7_walk_229 : dz_C cX7_walk [(229, .istore_n 2, 1), (230, .iinc 6 1, 3), (233, .goto (-146), 3), (236, .iinc 4 1, 3), (239, .goto (-194), 3), (242, .return_, 1)] := dz_of (by decide +kernel)
theorem dX7_walk_229 : decode cX7_walk 229 = .ok (.istore_n 2, 1) := dk_dX7_walk_229.1
theorem dX7_walk_230 : decode cX7_walk 230 = .ok (.iinc 6 1, 3) := dk_dX7_walk_229.2.1
theorem dX7_walk_233 : decode cX7_walk 233 = .ok (.goto (-146), 3) := dk_dX7_walk_229.2.2.1
theorem dX7_walk_236 : decode cX7_walk 236 = .ok (.iinc 4 1, 3) := dk_dX7_walk_229.2.2.2.1
theorem dX7_walk_239 : decode cX7_walk 239 = .ok (.goto (-194), 3) := dk_dX7_walk_229.2.2.2.2.1
theorem dX7_walk_242 : decode cX7_walk 242 = .ok (.return_, 1) := dk_dX7_walk_229.2.2.2.2.2.1
theorem dk_dX7_walkers_0 : dz_C cX7_walkers [(0, .aload_n 0, 1), (1, .getfield 63, 3), (4, .getfield 137, 3), (7, .ireturn, 1)] := dz_of (by decide +kernel)
theorem dX7_walkers_0 : decode cX7_walkers 0 = .ok (.aload_n 0, 1) := dk_dX7_walkers_0.1
theorem dX7_walkers_1 : decode cX7_walkers 1 = .ok (.getfield 63, 3) := dk_dX7_walkers_0.2.1
theorem dX7_walkers_4 : decode cX7_walkers 4 = .ok (.getfield 137, 3) := dk_dX7_walkers_0.2.2.1
theorem dX7_walkers_7 : decode cX7_walkers 7 = .ok (.ireturn, 1) := dk_dX7_walkers_0.2.2.2.1
theorem dk_dX7_willing_0 : dz_C cX7_willing [(0, .iconst 0, 1), (1, .istore_n 1, 1), (2, .iconst 0, 1), (3, .istore_n 2, 1), (4, .iload_n 2, 1), (5, .aload_n 0, 1), (6, .getfield 63, 3), (9, .getfield 137, 3), (12, .if_icmp .ge 32, 3), (15, .aload_n 0, 1), (16, .getfield 15, 3), (19, .aload_n 0, 1), (20, .getfield 63, 3), (23, .getfield 140, 3), (26, .iload_n 2, 1), (27, .iaload, 1)] := dz_of (by decide +kernel)
theorem dX7_willing_0 : decode cX7_willing 0 = .ok (.iconst 0, 1) := dk_dX7_willing_0.1
theorem dX7_willing_1 : decode cX7_willing 1 = .ok (.istore_n 1, 1) := dk_dX7_willing_0.2.1
theorem dX7_willing_2 : decode cX7_willing 2 = .ok (.iconst 0, 1) := dk_dX7_willing_0.2.2.1
theorem dX7_willing_3 : decode cX7_willing 3 = .ok (.istore_n 2, 1) := dk_dX7_willing_0.2.2.2.1
theorem dX7_willing_4 : decode cX7_willing 4 = .ok (.iload_n 2, 1) := dk_dX7_willing_0.2.2.2.2.1
theorem dX7_willing_5 : decode cX7_willing 5 = .ok (.aload_n 0, 1) := dk_dX7_willing_0.2.2.2.2.2.1
theorem dX7_willing_6 : decode cX7_willing 6 = .ok (.getfield 63, 3) := dk_dX7_willing_0.2.2.2.2.2.2.1
theorem dX7_willing_9 : decode cX7_willing 9 = .ok (.getfield 137, 3) := dk_dX7_willing_0.2.2.2.2.2.2.2.1
theorem dk_dX7_willing_0_8 : dz_C cX7_willing [(12, .if_icmp .ge 32, 3), (15, .aload_n 0, 1), (16, .getfield 15, 3), (19, .aload_n 0, 1), (20, .getfield 63, 3), (23, .getfield 140, 3), (26, .iload_n 2, 1), (27, .iaload, 1)] := dk_dX7_willing_0.2.2.2.2.2.2.2.2
theorem dX7_willing_12 : decode cX7_willing 12 = .ok (.if_icmp .ge 32, 3) := dk_dX7_willing_0_8.1
theorem dX7_willing_15 : decode cX7_willing 15 = .ok (.aload_n 0, 1) := dk_dX7_willing_0_8.2.1
theorem dX7_willing_16 : decode cX7_willing 16 = .ok (.getfield 15, 3) := dk_dX7_willing_0_8.2.2.1
theorem dX7_willing_19 : decode cX7_willing 19 = .ok (.aload_n 0, 1) := dk_dX7_willing_0_8.2.2.2.1
theorem dX7_willing_20 : decode cX7_willing 20 = .ok (.getfield 63, 3) := dk_dX7_willing_0_8.2.2.2.2.1
theorem dX7_willing_23 : decode cX7_willing 23 = .ok (.getfield 140, 3) := dk_dX7_willing_0_8.2.2.2.2.2.1
theorem dX7_willing_26 : decode cX7_willing 26 = .ok (.iload_n 2, 1) := dk_dX7_willing_0_8.2.2.2.2.2.2.1
theorem dX7_willing_27 : decode cX7_willing 27 = .ok (.iaload, 1) := dk_dX7_willing_0_8.2.2.2.2.2.2.2.1
theorem dk_dX7_willing_28 : dz_C cX7_willing [(28, .iaload, 1), (29, .ifCond .le 9, 3), (32, .iload_n 1, 1), (33, .iconst 1, 1), (34, .iload_n 2, 1), (35, .ishl, 1), (36, .ior, 1), (37, .istore_n 1, 1), (38, .iinc 2 1, 3), (41, .goto (-37), 3), (44, .iload_n 1, 1), (45, .aload_n 0, 1), (46, .getfield 25, 3), (49, .iconst (-1), 1), (50, .ixor, 1), (51, .iand, 1)] := dz_of (by decide +kernel)
theorem dX7_willing_28 : decode cX7_willing 28 = .ok (.iaload, 1) := dk_dX7_willing_28.1
theorem dX7_willing_29 : decode cX7_willing 29 = .ok (.ifCond .le 9, 3) := dk_dX7_willing_28.2.1
theorem dX7_willing_32 : decode cX7_willing 32 = .ok (.iload_n 1, 1) := dk_dX7_willing_28.2.2.1
theorem dX7_willing_33 : decode cX7_willing 33 = .ok (.iconst 1, 1) := dk_dX7_willing_28.2.2.2.1
theorem dX7_willing_34 : decode cX7_willing 34 = .ok (.iload_n 2, 1) := dk_dX7_willing_28.2.2.2.2.1
theorem dX7_willing_35 : decode cX7_willing 35 = .ok (.ishl, 1) := dk_dX7_willing_28.2.2.2.2.2.1
theorem dX7_willing_36 : decode cX7_willing 36 = .ok (.ior, 1) := dk_dX7_willing_28.2.2.2.2.2.2.1
theorem dX7_willing_37 : decode cX7_willing 37 = .ok (.istore_n 1, 1) := dk_dX7_willing_28.2.2.2.2.2.2.2.1
theorem dk_dX7_willing_28_8 : dz_C cX7_willing [(38, .iinc 2 1, 3), (41, .goto (-37), 3), (44, .iload_n 1, 1), (45, .aload_n 0, 1), (46, .getfield 25, 3), (49, .iconst (-1), 1), (50, .ixor, 1), (51, .iand, 1)] := dk_dX7_willing_28.2.2.2.2.2.2.2.2
theorem dX7_willing_38 : decode cX7_willing 38 = .ok (.iinc 2 1, 3) := dk_dX7_willing_28_8.1
theorem dX7_willing_41 : decode cX7_willing 41 = .ok (.goto (-37), 3) := dk_dX7_willing_28_8.2.1
theorem dX7_willing_44 : decode cX7_willing 44 = .ok (.iload_n 1, 1) := dk_dX7_willing_28_8.2.2.1
theorem dX7_willing_45 : decode cX7_willing 45 = .ok (.aload_n 0, 1) := dk_dX7_willing_28_8.2.2.2.1
theorem dX7_willing_46 : decode cX7_willing 46 = .ok (.getfield 25, 3) := dk_dX7_willing_28_8.2.2.2.2.1
theorem dX7_willing_49 : decode cX7_willing 49 = .ok (.iconst (-1), 1) := dk_dX7_willing_28_8.2.2.2.2.2.1
theorem dX7_willing_50 : decode cX7_willing 50 = .ok (.ixor, 1) := dk_dX7_willing_28_8.2.2.2.2.2.2.1
theorem dX7_willing_51 : decode cX7_willing 51 = .ok (.iand, 1) := dk_dX7_willing_28_8.2.2.2.2.2.2.2.1
theorem dk_dX7_willing_52 : dz_C cX7_willing [(52, .ireturn, 1)] := dz_of (by decide +kernel)
theorem dX7_willing_52 : decode cX7_willing 52 = .ok (.ireturn, 1) := dk_dX7_willing_52.1
theorem dk_dX8_accepts_0 : dz_C cX8_accepts [(0, .iload_n 2, 1), (1, .iconst 3, 1), (2, .if_icmp .lt 15, 3), (5, .iload_n 2, 1), (6, .bipush 48, 2), (8, .if_icmp .gt 9, 3), (11, .iload_n 2, 1), (12, .iconst 3, 1), (13, .irem, 1), (14, .ifCond .eq 5, 3), (17, .iconst 0, 1), (18, .ireturn, 1), (19, .iconst 0, 1), (20, .istore 4, 2), (22, .iload 4, 2), (24, .iload_n 2, 1)] := dz_of (by decide +kernel)
theorem dX8_accepts_0 : decode cX8_accepts 0 = .ok (.iload_n 2, 1) := dk_dX8_accepts_0.1
theorem dX8_accepts_1 : decode cX8_accepts 1 = .ok (.iconst 3, 1) := dk_dX8_accepts_0.2.1
theorem dX8_accepts_2 : decode cX8_accepts 2 = .ok (.if_icmp .lt 15, 3) := dk_dX8_accepts_0.2.2.1
theorem dX8_accepts_5 : decode cX8_accepts 5 = .ok (.iload_n 2, 1) := dk_dX8_accepts_0.2.2.2.1
theorem dX8_accepts_6 : decode cX8_accepts 6 = .ok (.bipush 48, 2) := dk_dX8_accepts_0.2.2.2.2.1
theorem dX8_accepts_8 : decode cX8_accepts 8 = .ok (.if_icmp .gt 9, 3) := dk_dX8_accepts_0.2.2.2.2.2.1
theorem dX8_accepts_11 : decode cX8_accepts 11 = .ok (.iload_n 2, 1) := dk_dX8_accepts_0.2.2.2.2.2.2.1
theorem dX8_accepts_12 : decode cX8_accepts 12 = .ok (.iconst 3, 1) := dk_dX8_accepts_0.2.2.2.2.2.2.2.1
theorem dk_dX8_accepts_0_8 : dz_C cX8_accepts [(13, .irem, 1), (14, .ifCond .eq 5, 3), (17, .iconst 0, 1), (18, .ireturn, 1), (19, .iconst 0, 1), (20, .istore 4, 2), (22, .iload 4, 2), (24, .iload_n 2, 1)] := dk_dX8_accepts_0.2.2.2.2.2.2.2.2
theorem dX8_accepts_13 : decode cX8_accepts 13 = .ok (.irem, 1) := dk_dX8_accepts_0_8.1
theorem dX8_accepts_14 : decode cX8_accepts 14 = .ok (.ifCond .eq 5, 3) := dk_dX8_accepts_0_8.2.1
theorem dX8_accepts_17 : decode cX8_accepts 17 = .ok (.iconst 0, 1) := dk_dX8_accepts_0_8.2.2.1
theorem dX8_accepts_18 : decode cX8_accepts 18 = .ok (.ireturn, 1) := dk_dX8_accepts_0_8.2.2.2.1
theorem dX8_accepts_19 : decode cX8_accepts 19 = .ok (.iconst 0, 1) := dk_dX8_accepts_0_8.2.2.2.2.1
theorem dX8_accepts_20 : decode cX8_accepts 20 = .ok (.istore 4, 2) := dk_dX8_accepts_0_8.2.2.2.2.2.1
theorem dX8_accepts_22 : decode cX8_accepts 22 = .ok (.iload 4, 2) := dk_dX8_accepts_0_8.2.2.2.2.2.2.1
theorem dX8_accepts_24 : decode cX8_accepts 24 = .ok (.iload_n 2, 1) := dk_dX8_accepts_0_8.2.2.2.2.2.2.2.1
theorem dk_dX8_accepts_25 : dz_C cX8_accepts [(25, .if_icmp .ge 53, 3), (28, .aload_n 1, 1), (29, .iload 4, 2), (31, .iconst 1, 1), (32, .iadd, 1), (33, .iaload, 1), (34, .sipush 256, 3), (37, .imul, 1), (38, .aload_n 1, 1), (39, .iload 4, 2), (41, .iconst 2, 1), (42, .iadd, 1), (43, .iaload, 1), (44, .iadd, 1), (45, .istore 5, 2), (47, .aload_n 1, 1)] := dz_of (by decide +kernel)
theorem dX8_accepts_25 : decode cX8_accepts 25 = .ok (.if_icmp .ge 53, 3) := dk_dX8_accepts_25.1
theorem dX8_accepts_28 : decode cX8_accepts 28 = .ok (.aload_n 1, 1) := dk_dX8_accepts_25.2.1
theorem dX8_accepts_29 : decode cX8_accepts 29 = .ok (.iload 4, 2) := dk_dX8_accepts_25.2.2.1
theorem dX8_accepts_31 : decode cX8_accepts 31 = .ok (.iconst 1, 1) := dk_dX8_accepts_25.2.2.2.1
theorem dX8_accepts_32 : decode cX8_accepts 32 = .ok (.iadd, 1) := dk_dX8_accepts_25.2.2.2.2.1
theorem dX8_accepts_33 : decode cX8_accepts 33 = .ok (.iaload, 1) := dk_dX8_accepts_25.2.2.2.2.2.1
theorem dX8_accepts_34 : decode cX8_accepts 34 = .ok (.sipush 256, 3) := dk_dX8_accepts_25.2.2.2.2.2.2.1
theorem dX8_accepts_37 : decode cX8_accepts 37 = .ok (.imul, 1) := dk_dX8_accepts_25.2.2.2.2.2.2.2.1
theorem dk_dX8_accepts_25_8 : dz_C cX8_accepts [(38, .aload_n 1, 1), (39, .iload 4, 2), (41, .iconst 2, 1), (42, .iadd, 1), (43, .iaload, 1), (44, .iadd, 1), (45, .istore 5, 2), (47, .aload_n 1, 1)] := dk_dX8_accepts_25.2.2.2.2.2.2.2.2
theorem dX8_accepts_38 : decode cX8_accepts 38 = .ok (.aload_n 1, 1) := dk_dX8_accepts_25_8.1
theorem dX8_accepts_39 : decode cX8_accepts 39 = .ok (.iload 4, 2) := dk_dX8_accepts_25_8.2.1
theorem dX8_accepts_41 : decode cX8_accepts 41 = .ok (.iconst 2, 1) := dk_dX8_accepts_25_8.2.2.1
theorem dX8_accepts_42 : decode cX8_accepts 42 = .ok (.iadd, 1) := dk_dX8_accepts_25_8.2.2.2.1
theorem dX8_accepts_43 : decode cX8_accepts 43 = .ok (.iaload, 1) := dk_dX8_accepts_25_8.2.2.2.2.1
theorem dX8_accepts_44 : decode cX8_accepts 44 = .ok (.iadd, 1) := dk_dX8_accepts_25_8.2.2.2.2.2.1
theorem dX8_accepts_45 : decode cX8_accepts 45 = .ok (.istore 5, 2) := dk_dX8_accepts_25_8.2.2.2.2.2.2.1
theorem dX8_accepts_47 : decode cX8_accepts 47 = .ok (.aload_n 1, 1) := dk_dX8_accepts_25_8.2.2.2.2.2.2.2.1
theorem dk_dX8_accepts_48 : dz_C cX8_accepts [(48, .iload 4, 2), (50, .iaload, 1), (51, .iload_n 3, 1), (52, .if_icmp .ge 18, 3), (55, .iload 5, 2), (57, .sipush 300, 3), (60, .if_icmp .lt 12, 3), (63, .iload 5, 2), (65, .ldc 48, 2), (67, .if_icmp .eq 5, 3), (70, .iconst 0, 1), (71, .ireturn, 1), (72, .iinc 4 3, 3), (75, .goto (-53), 3), (78, .iconst 1, 1), (79, .ireturn, 1)] := dz_of (by decide +kernel)
theorem dX8_accepts_48 : decode cX8_accepts 48 = .ok (.iload 4, 2) := dk_dX8_accepts_48.1
theorem dX8_accepts_50 : decode cX8_accepts 50 = .ok (.iaload, 1) := dk_dX8_accepts_48.2.1
theorem dX8_accepts_51 : decode cX8_accepts 51 = .ok (.iload_n 3, 1) := dk_dX8_accepts_48.2.2.1
theorem dX8_accepts_52 : decode cX8_accepts 52 = .ok (.if_icmp .ge 18, 3) := dk_dX8_accepts_48.2.2.2.1
theorem dX8_accepts_55 : decode cX8_accepts 55 = .ok (.iload 5, 2) := dk_dX8_accepts_48.2.2.2.2.1
theorem dX8_accepts_57 : decode cX8_accepts 57 = .ok (.sipush 300, 3) := dk_dX8_accepts_48.2.2.2.2.2.1
theorem dX8_accepts_60 : decode cX8_accepts 60 = .ok (.if_icmp .lt 12, 3) := dk_dX8_accepts_48.2.2.2.2.2.2.1
theorem dX8_accepts_63 : decode cX8_accepts 63 = .ok (.iload 5, 2) := dk_dX8_accepts_48.2.2.2.2.2.2.2.1
theorem dk_dX8_accepts_48_8 : dz_C cX8_accepts [(65, .ldc 48, 2), (67, .if_icmp .eq 5, 3), (70, .iconst 0, 1), (71, .ireturn, 1), (72, .iinc 4 3, 3), (75, .goto (-53), 3), (78, .iconst 1, 1), (79, .ireturn, 1)] := dk_dX8_accepts_48.2.2.2.2.2.2.2.2
theorem dX8_accepts_65 : decode cX8_accepts 65 = .ok (.ldc 48, 2) := dk_dX8_accepts_48_8.1
theorem dX8_accepts_67 : decode cX8_accepts 67 = .ok (.if_icmp .eq 5, 3) := dk_dX8_accepts_48_8.2.1
theorem dX8_accepts_70 : decode cX8_accepts 70 = .ok (.iconst 0, 1) := dk_dX8_accepts_48_8.2.2.1
theorem dX8_accepts_71 : decode cX8_accepts 71 = .ok (.ireturn, 1) := dk_dX8_accepts_48_8.2.2.2.1
theorem dX8_accepts_72 : decode cX8_accepts 72 = .ok (.iinc 4 3, 3) := dk_dX8_accepts_48_8.2.2.2.2.1
theorem dX8_accepts_75 : decode cX8_accepts 75 = .ok (.goto (-53), 3) := dk_dX8_accepts_48_8.2.2.2.2.2.1
theorem dX8_accepts_78 : decode cX8_accepts 78 = .ok (.iconst 1, 1) := dk_dX8_accepts_48_8.2.2.2.2.2.2.1
theorem dX8_accepts_79 : decode cX8_accepts 79 = .ok (.ireturn, 1) := dk_dX8_accepts_48_8.2.2.2.2.2.2.2.1
theorem dk_dX8_choose_0 : dz_C cX8_choose [(0, .aload_n 0, 1), (1, .iconst (-1), 1), (2, .putfield 38, 3), (5, .aload_n 0, 1), (6, .iconst (-1), 1), (7, .putfield 41, 3), (10, .aload_n 0, 1), (11, .getfield 29, 3), (14, .ifCond .le 13, 3), (17, .aload_n 0, 1), (18, .getfield 44, 3), (21, .invokevirtual 75, 3), (24, .goto 4, 3), (27, .iconst 0, 1), (28, .istore_n 1, 1), (29, .iconst 0, 1)] := dz_of (by decide +kernel)
theorem dX8_choose_0 : decode cX8_choose 0 = .ok (.aload_n 0, 1) := dk_dX8_choose_0.1
theorem dX8_choose_1 : decode cX8_choose 1 = .ok (.iconst (-1), 1) := dk_dX8_choose_0.2.1
theorem dX8_choose_2 : decode cX8_choose 2 = .ok (.putfield 38, 3) := dk_dX8_choose_0.2.2.1
theorem dX8_choose_5 : decode cX8_choose 5 = .ok (.aload_n 0, 1) := dk_dX8_choose_0.2.2.2.1
theorem dX8_choose_6 : decode cX8_choose 6 = .ok (.iconst (-1), 1) := dk_dX8_choose_0.2.2.2.2.1
theorem dX8_choose_7 : decode cX8_choose 7 = .ok (.putfield 41, 3) := dk_dX8_choose_0.2.2.2.2.2.1
theorem dX8_choose_10 : decode cX8_choose 10 = .ok (.aload_n 0, 1) := dk_dX8_choose_0.2.2.2.2.2.2.1
theorem dX8_choose_11 : decode cX8_choose 11 = .ok (.getfield 29, 3) := dk_dX8_choose_0.2.2.2.2.2.2.2.1
theorem dk_dX8_choose_0_8 : dz_C cX8_choose [(14, .ifCond .le 13, 3), (17, .aload_n 0, 1), (18, .getfield 44, 3), (21, .invokevirtual 75, 3), (24, .goto 4, 3), (27, .iconst 0, 1), (28, .istore_n 1, 1), (29, .iconst 0, 1)] := dk_dX8_choose_0.2.2.2.2.2.2.2.2
theorem dX8_choose_14 : decode cX8_choose 14 = .ok (.ifCond .le 13, 3) := dk_dX8_choose_0_8.1
theorem dX8_choose_17 : decode cX8_choose 17 = .ok (.aload_n 0, 1) := dk_dX8_choose_0_8.2.1
theorem dX8_choose_18 : decode cX8_choose 18 = .ok (.getfield 44, 3) := dk_dX8_choose_0_8.2.2.1
theorem dX8_choose_21 : decode cX8_choose 21 = .ok (.invokevirtual 75, 3) := dk_dX8_choose_0_8.2.2.2.1
theorem dX8_choose_24 : decode cX8_choose 24 = .ok (.goto 4, 3) := dk_dX8_choose_0_8.2.2.2.2.1
theorem dX8_choose_27 : decode cX8_choose 27 = .ok (.iconst 0, 1) := dk_dX8_choose_0_8.2.2.2.2.2.1
theorem dX8_choose_28 : decode cX8_choose 28 = .ok (.istore_n 1, 1) := dk_dX8_choose_0_8.2.2.2.2.2.2.1
theorem dX8_choose_29 : decode cX8_choose 29 = .ok (.iconst 0, 1) := dk_dX8_choose_0_8.2.2.2.2.2.2.2.1
theorem dk_dX8_choose_30 : dz_C cX8_choose [(30, .istore_n 2, 1), (31, .iload_n 2, 1), (32, .iload_n 1, 1), (33, .if_icmp .ge 41, 3), (36, .aload_n 0, 1), (37, .iload_n 2, 1), (38, .invokevirtual 79, 3), (41, .istore_n 3, 1), (42, .aload_n 0, 1), (43, .getfield 38, 3), (46, .iconst (-1), 1), (47, .if_icmp .eq 11, 3), (50, .iload_n 3, 1), (51, .aload_n 0, 1), (52, .getfield 41, 3), (55, .if_icmp .ge 13, 3)] := dz_of (by decide +kernel)
theorem dX8_choose_30 : decode cX8_choose 30 = .ok (.istore_n 2, 1) := dk_dX8_choose_30.1
theorem dX8_choose_31 : decode cX8_choose 31 = .ok (.iload_n 2, 1) := dk_dX8_choose_30.2.1
theorem dX8_choose_32 : decode cX8_choose 32 = .ok (.iload_n 1, 1) := dk_dX8_choose_30.2.2.1
theorem dX8_choose_33 : decode cX8_choose 33 = .ok (.if_icmp .ge 41, 3) := dk_dX8_choose_30.2.2.2.1
theorem dX8_choose_36 : decode cX8_choose 36 = .ok (.aload_n 0, 1) := dk_dX8_choose_30.2.2.2.2.1
theorem dX8_choose_37 : decode cX8_choose 37 = .ok (.iload_n 2, 1) := dk_dX8_choose_30.2.2.2.2.2.1
theorem dX8_choose_38 : decode cX8_choose 38 = .ok (.invokevirtual 79, 3) := dk_dX8_choose_30.2.2.2.2.2.2.1
theorem dX8_choose_41 : decode cX8_choose 41 = .ok (.istore_n 3, 1) := dk_dX8_choose_30.2.2.2.2.2.2.2.1
theorem dk_dX8_choose_30_8 : dz_C cX8_choose [(42, .aload_n 0, 1), (43, .getfield 38, 3), (46, .iconst (-1), 1), (47, .if_icmp .eq 11, 3), (50, .iload_n 3, 1), (51, .aload_n 0, 1), (52, .getfield 41, 3), (55, .if_icmp .ge 13, 3)] := dk_dX8_choose_30.2.2.2.2.2.2.2.2
theorem dX8_choose_42 : decode cX8_choose 42 = .ok (.aload_n 0, 1) := dk_dX8_choose_30_8.1
theorem dX8_choose_43 : decode cX8_choose 43 = .ok (.getfield 38, 3) := dk_dX8_choose_30_8.2.1
theorem dX8_choose_46 : decode cX8_choose 46 = .ok (.iconst (-1), 1) := dk_dX8_choose_30_8.2.2.1
theorem dX8_choose_47 : decode cX8_choose 47 = .ok (.if_icmp .eq 11, 3) := dk_dX8_choose_30_8.2.2.2.1
theorem dX8_choose_50 : decode cX8_choose 50 = .ok (.iload_n 3, 1) := dk_dX8_choose_30_8.2.2.2.2.1
theorem dX8_choose_51 : decode cX8_choose 51 = .ok (.aload_n 0, 1) := dk_dX8_choose_30_8.2.2.2.2.2.1
theorem dX8_choose_52 : decode cX8_choose 52 = .ok (.getfield 41, 3) := dk_dX8_choose_30_8.2.2.2.2.2.2.1
theorem dX8_choose_55 : decode cX8_choose 55 = .ok (.if_icmp .ge 13, 3) := dk_dX8_choose_30_8.2.2.2.2.2.2.2.1
theorem dk_dX8_choose_58 : dz_C cX8_choose [(58, .aload_n 0, 1), (59, .iload_n 2, 1), (60, .putfield 38, 3), (63, .aload_n 0, 1), (64, .iload_n 3, 1), (65, .putfield 41, 3), (68, .iinc 2 1, 3), (71, .goto (-40), 3), (74, .return_, 1)] := dz_of (by decide +kernel)
theorem dX8_choose_58 : decode cX8_choose 58 = .ok (.aload_n 0, 1) := dk_dX8_choose_58.1
theorem dX8_choose_59 : decode cX8_choose 59 = .ok (.iload_n 2, 1) := dk_dX8_choose_58.2.1
theorem dX8_choose_60 : decode cX8_choose 60 = .ok (.putfield 38, 3) := dk_dX8_choose_58.2.2.1
theorem dX8_choose_63 : decode cX8_choose 63 = .ok (.aload_n 0, 1) := dk_dX8_choose_58.2.2.2.1
theorem dX8_choose_64 : decode cX8_choose 64 = .ok (.iload_n 3, 1) := dk_dX8_choose_58.2.2.2.2.1
theorem dX8_choose_65 : decode cX8_choose 65 = .ok (.putfield 41, 3) := dk_dX8_choose_58.2.2.2.2.2.1
theorem dX8_choose_68 : decode cX8_choose 68 = .ok (.iinc 2 1, 3) := dk_dX8_choose_58.2.2.2.2.2.2.1
theorem dX8_choose_71 : decode cX8_choose 71 = .ok (.goto (-40), 3) := dk_dX8_choose_58.2.2.2.2.2.2.2.1
theorem dk_dX8_choose_58_8 : dz_C cX8_choose [(74, .return_, 1)] := dk_dX8_choose_58.2.2.2.2.2.2.2.2
theorem dX8_choose_74 : decode cX8_choose 74 = .ok (.return_, 1) := dk_dX8_choose_58_8.1
theorem dk_dX8_clear_0 : dz_C cX8_clear [(0, .aload_n 0, 1), (1, .iconst 0, 1), (2, .putfield 18, 3), (5, .return_, 1)] := dz_of (by decide +kernel)
theorem dX8_clear_0 : decode cX8_clear 0 = .ok (.aload_n 0, 1) := dk_dX8_clear_0.1
theorem dX8_clear_1 : decode cX8_clear 1 = .ok (.iconst 0, 1) := dk_dX8_clear_0.2.1
theorem dX8_clear_2 : decode cX8_clear 2 = .ok (.putfield 18, 3) := dk_dX8_clear_0.2.2.1
theorem dX8_clear_5 : decode cX8_clear 5 = .ok (.return_, 1) := dk_dX8_clear_0.2.2.2.1
theorem dk_dX8_compare_0 : dz_C cX8_compare [(0, .aload_n 0, 1), (1, .getfield 22, 3), (4, .ifCond .eq 4, 3), (7, .return_, 1), (8, .aload_n 0, 1), (9, .iconst 1, 1), (10, .putfield 22, 3), (13, .aload_n 0, 1), (14, .iconst 0, 1), (15, .putfield 29, 3), (18, .aload_n 0, 1), (19, .iconst 0, 1), (20, .putfield 32, 3), (23, .aload_n 0, 1), (24, .iconst (-1), 1), (25, .putfield 35, 3)] := dz_of (by decide +kernel)
theorem dX8_compare_0 : decode cX8_compare 0 = .ok (.aload_n 0, 1) := dk_dX8_compare_0.1
theorem dX8_compare_1 : decode cX8_compare 1 = .ok (.getfield 22, 3) := dk_dX8_compare_0.2.1
theorem dX8_compare_4 : decode cX8_compare 4 = .ok (.ifCond .eq 4, 3) := dk_dX8_compare_0.2.2.1
theorem dX8_compare_7 : decode cX8_compare 7 = .ok (.return_, 1) := dk_dX8_compare_0.2.2.2.1
theorem dX8_compare_8 : decode cX8_compare 8 = .ok (.aload_n 0, 1) := dk_dX8_compare_0.2.2.2.2.1
theorem dX8_compare_9 : decode cX8_compare 9 = .ok (.iconst 1, 1) := dk_dX8_compare_0.2.2.2.2.2.1
theorem dX8_compare_10 : decode cX8_compare 10 = .ok (.putfield 22, 3) := dk_dX8_compare_0.2.2.2.2.2.2.1
theorem dX8_compare_13 : decode cX8_compare 13 = .ok (.aload_n 0, 1) := dk_dX8_compare_0.2.2.2.2.2.2.2.1
theorem dk_dX8_compare_0_8 : dz_C cX8_compare [(14, .iconst 0, 1), (15, .putfield 29, 3), (18, .aload_n 0, 1), (19, .iconst 0, 1), (20, .putfield 32, 3), (23, .aload_n 0, 1), (24, .iconst (-1), 1), (25, .putfield 35, 3)] := dk_dX8_compare_0.2.2.2.2.2.2.2.2
theorem dX8_compare_14 : decode cX8_compare 14 = .ok (.iconst 0, 1) := dk_dX8_compare_0_8.1
theorem dX8_compare_15 : decode cX8_compare 15 = .ok (.putfield 29, 3) := dk_dX8_compare_0_8.2.1
theorem dX8_compare_18 : decode cX8_compare 18 = .ok (.aload_n 0, 1) := dk_dX8_compare_0_8.2.2.1
theorem dX8_compare_19 : decode cX8_compare 19 = .ok (.iconst 0, 1) := dk_dX8_compare_0_8.2.2.2.1
theorem dX8_compare_20 : decode cX8_compare 20 = .ok (.putfield 32, 3) := dk_dX8_compare_0_8.2.2.2.2.1
theorem dX8_compare_23 : decode cX8_compare 23 = .ok (.aload_n 0, 1) := dk_dX8_compare_0_8.2.2.2.2.2.1
theorem dX8_compare_24 : decode cX8_compare 24 = .ok (.iconst (-1), 1) := dk_dX8_compare_0_8.2.2.2.2.2.2.1
theorem dX8_compare_25 : decode cX8_compare 25 = .ok (.putfield 35, 3) := dk_dX8_compare_0_8.2.2.2.2.2.2.2.1
theorem dk_dX8_compare_28 : dz_C cX8_compare [(28, .aload_n 0, 1), (29, .getfield 44, 3), (32, .bipush 20, 2), (34, .invokevirtual 49, 3), (37, .istore_n 2, 1), (38, .iconst 1, 1), (39, .istore_n 3, 1), (40, .iload_n 3, 1), (41, .iload_n 2, 1), (42, .if_icmp .gt 110, 3), (45, .iconst 0, 1), (46, .istore 4, 2), (48, .iload 4, 2), (50, .iconst 3, 1), (51, .if_icmp .ge 95, 3), (54, .aload_n 0, 1)] := dz_of (by decide +kernel)
theorem dX8_compare_28 : decode cX8_compare 28 = .ok (.aload_n 0, 1) := dk_dX8_compare_28.1
theorem dX8_compare_29 : decode cX8_compare 29 = .ok (.getfield 44, 3) := dk_dX8_compare_28.2.1
theorem dX8_compare_32 : decode cX8_compare 32 = .ok (.bipush 20, 2) := dk_dX8_compare_28.2.2.1
theorem dX8_compare_34 : decode cX8_compare 34 = .ok (.invokevirtual 49, 3) := dk_dX8_compare_28.2.2.2.1
theorem dX8_compare_37 : decode cX8_compare 37 = .ok (.istore_n 2, 1) := dk_dX8_compare_28.2.2.2.2.1
theorem dX8_compare_38 : decode cX8_compare 38 = .ok (.iconst 1, 1) := dk_dX8_compare_28.2.2.2.2.2.1
theorem dX8_compare_39 : decode cX8_compare 39 = .ok (.istore_n 3, 1) := dk_dX8_compare_28.2.2.2.2.2.2.1
theorem dX8_compare_40 : decode cX8_compare 40 = .ok (.iload_n 3, 1) := dk_dX8_compare_28.2.2.2.2.2.2.2.1
theorem dk_dX8_compare_28_8 : dz_C cX8_compare [(41, .iload_n 2, 1), (42, .if_icmp .gt 110, 3), (45, .iconst 0, 1), (46, .istore 4, 2), (48, .iload 4, 2), (50, .iconst 3, 1), (51, .if_icmp .ge 95, 3), (54, .aload_n 0, 1)] := dk_dX8_compare_28.2.2.2.2.2.2.2.2
theorem dX8_compare_41 : decode cX8_compare 41 = .ok (.iload_n 2, 1) := dk_dX8_compare_28_8.1
theorem dX8_compare_42 : decode cX8_compare 42 = .ok (.if_icmp .gt 110, 3) := dk_dX8_compare_28_8.2.1
theorem dX8_compare_45 : decode cX8_compare 45 = .ok (.iconst 0, 1) := dk_dX8_compare_28_8.2.2.1
theorem dX8_compare_46 : decode cX8_compare 46 = .ok (.istore 4, 2) := dk_dX8_compare_28_8.2.2.2.1
theorem dX8_compare_48 : decode cX8_compare 48 = .ok (.iload 4, 2) := dk_dX8_compare_28_8.2.2.2.2.1
theorem dX8_compare_50 : decode cX8_compare 50 = .ok (.iconst 3, 1) := dk_dX8_compare_28_8.2.2.2.2.2.1
theorem dX8_compare_51 : decode cX8_compare 51 = .ok (.if_icmp .ge 95, 3) := dk_dX8_compare_28_8.2.2.2.2.2.2.1
theorem dX8_compare_54 : decode cX8_compare 54 = .ok (.aload_n 0, 1) := dk_dX8_compare_28_8.2.2.2.2.2.2.2.1
theorem dk_dX8_compare_55 : dz_C cX8_compare [(55, .getfield 44, 3), (58, .aload_n 1, 1), (59, .iload 4, 2), (61, .iload_n 3, 1), (62, .iconst 0, 1), (63, .invokevirtual 55, 3), (66, .aload_n 0, 1), (67, .invokevirtual 59, 3), (70, .ifCond .eq 70, 3), (73, .aload_n 0, 1), (74, .getfield 44, 3), (77, .getfield 63, 3), (80, .iconst 0, 1), (81, .aload_n 0, 1), (82, .getfield 26, 3), (85, .aload_n 0, 1)] := dz_of (by decide +kernel)
theorem dX8_compare_55 : decode cX8_compare 55 = .ok (.getfield 44, 3) := dk_dX8_compare_55.1
theorem dX8_compare_58 : decode cX8_compare 58 = .ok (.aload_n 1, 1) := dk_dX8_compare_55.2.1
theorem dX8_compare_59 : decode cX8_compare 59 = .ok (.iload 4, 2) := dk_dX8_compare_55.2.2.1
theorem dX8_compare_61 : decode cX8_compare 61 = .ok (.iload_n 3, 1) := dk_dX8_compare_55.2.2.2.1
theorem dX8_compare_62 : decode cX8_compare 62 = .ok (.iconst 0, 1) := dk_dX8_compare_55.2.2.2.2.1
theorem dX8_compare_63 : decode cX8_compare 63 = .ok (.invokevirtual 55, 3) := dk_dX8_compare_55.2.2.2.2.2.1
theorem dX8_compare_66 : decode cX8_compare 66 = .ok (.aload_n 0, 1) := dk_dX8_compare_55.2.2.2.2.2.2.1
theorem dX8_compare_67 : decode cX8_compare 67 = .ok (.invokevirtual 59, 3) := dk_dX8_compare_55.2.2.2.2.2.2.2.1
theorem dk_dX8_compare_55_8 : dz_C cX8_compare [(70, .ifCond .eq 70, 3), (73, .aload_n 0, 1), (74, .getfield 44, 3), (77, .getfield 63, 3), (80, .iconst 0, 1), (81, .aload_n 0, 1), (82, .getfield 26, 3), (85, .aload_n 0, 1)] := dk_dX8_compare_55.2.2.2.2.2.2.2.2
theorem dX8_compare_70 : decode cX8_compare 70 = .ok (.ifCond .eq 70, 3) := dk_dX8_compare_55_8.1
theorem dX8_compare_73 : decode cX8_compare 73 = .ok (.aload_n 0, 1) := dk_dX8_compare_55_8.2.1
theorem dX8_compare_74 : decode cX8_compare 74 = .ok (.getfield 44, 3) := dk_dX8_compare_55_8.2.2.1
theorem dX8_compare_77 : decode cX8_compare 77 = .ok (.getfield 63, 3) := dk_dX8_compare_55_8.2.2.2.1
theorem dX8_compare_80 : decode cX8_compare 80 = .ok (.iconst 0, 1) := dk_dX8_compare_55_8.2.2.2.2.1
theorem dX8_compare_81 : decode cX8_compare 81 = .ok (.aload_n 0, 1) := dk_dX8_compare_55_8.2.2.2.2.2.1
theorem dX8_compare_82 : decode cX8_compare 82 = .ok (.getfield 26, 3) := dk_dX8_compare_55_8.2.2.2.2.2.2.1
theorem dX8_compare_85 : decode cX8_compare 85 = .ok (.aload_n 0, 1) := dk_dX8_compare_55_8.2.2.2.2.2.2.2.1
theorem dk_dX8_compare_86 : dz_C cX8_compare [(86, .getfield 29, 3), (89, .bipush 12, 2), (91, .imul, 1), (92, .bipush 12, 2), (94, .invokestatic 66, 3), (97, .aload_n 0, 1), (98, .dup, 1), (99, .getfield 29, 3), (102, .iconst 1, 1), (103, .iadd, 1), (104, .putfield 29, 3), (107, .aload_n 0, 1), (108, .dup, 1), (109, .getfield 32, 3), (112, .iconst 1, 1), (113, .iload 4, 2)] := dz_of (by decide +kernel)
theorem dX8_compare_86 : decode cX8_compare 86 = .ok (.getfield 29, 3) := dk_dX8_compare_86.1
theorem dX8_compare_89 : decode cX8_compare 89 = .ok (.bipush 12, 2) := dk_dX8_compare_86.2.1
theorem dX8_compare_91 : decode cX8_compare 91 = .ok (.imul, 1) := dk_dX8_compare_86.2.2.1
theorem dX8_compare_92 : decode cX8_compare 92 = .ok (.bipush 12, 2) := dk_dX8_compare_86.2.2.2.1
theorem dX8_compare_94 : decode cX8_compare 94 = .ok (.invokestatic 66, 3) := dk_dX8_compare_86.2.2.2.2.1
theorem dX8_compare_97 : decode cX8_compare 97 = .ok (.aload_n 0, 1) := dk_dX8_compare_86.2.2.2.2.2.1
theorem dX8_compare_98 : decode cX8_compare 98 = .ok (.dup, 1) := dk_dX8_compare_86.2.2.2.2.2.2.1
theorem dX8_compare_99 : decode cX8_compare 99 = .ok (.getfield 29, 3) := dk_dX8_compare_86.2.2.2.2.2.2.2.1
theorem dk_dX8_compare_86_8 : dz_C cX8_compare [(102, .iconst 1, 1), (103, .iadd, 1), (104, .putfield 29, 3), (107, .aload_n 0, 1), (108, .dup, 1), (109, .getfield 32, 3), (112, .iconst 1, 1), (113, .iload 4, 2)] := dk_dX8_compare_86.2.2.2.2.2.2.2.2
theorem dX8_compare_102 : decode cX8_compare 102 = .ok (.iconst 1, 1) := dk_dX8_compare_86_8.1
theorem dX8_compare_103 : decode cX8_compare 103 = .ok (.iadd, 1) := dk_dX8_compare_86_8.2.1
theorem dX8_compare_104 : decode cX8_compare 104 = .ok (.putfield 29, 3) := dk_dX8_compare_86_8.2.2.1
theorem dX8_compare_107 : decode cX8_compare 107 = .ok (.aload_n 0, 1) := dk_dX8_compare_86_8.2.2.2.1
theorem dX8_compare_108 : decode cX8_compare 108 = .ok (.dup, 1) := dk_dX8_compare_86_8.2.2.2.2.1
theorem dX8_compare_109 : decode cX8_compare 109 = .ok (.getfield 32, 3) := dk_dX8_compare_86_8.2.2.2.2.2.1
theorem dX8_compare_112 : decode cX8_compare 112 = .ok (.iconst 1, 1) := dk_dX8_compare_86_8.2.2.2.2.2.2.1
theorem dX8_compare_113 : decode cX8_compare 113 = .ok (.iload 4, 2) := dk_dX8_compare_86_8.2.2.2.2.2.2.2.1
theorem dk_dX8_compare_115 : dz_C cX8_compare [(115, .ishl, 1), (116, .ior, 1), (117, .putfield 32, 3), (120, .aload_n 0, 1), (121, .aload_n 0, 1), (122, .getfield 35, 3), (125, .iconst (-1), 1), (126, .if_icmp .ne 7, 3), (129, .iload_n 3, 1), (130, .goto 7, 3), (133, .aload_n 0, 1), (134, .getfield 35, 3), (137, .putfield 35, 3), (140, .iinc 4 1, 3), (143, .goto (-95), 3), (146, .iinc 3 1, 3)] := dz_of (by decide +kernel)
theorem dX8_compare_115 : decode cX8_compare 115 = .ok (.ishl, 1) := dk_dX8_compare_115.1
theorem dX8_compare_116 : decode cX8_compare 116 = .ok (.ior, 1) := dk_dX8_compare_115.2.1
theorem dX8_compare_117 : decode cX8_compare 117 = .ok (.putfield 32, 3) := dk_dX8_compare_115.2.2.1
theorem dX8_compare_120 : decode cX8_compare 120 = .ok (.aload_n 0, 1) := dk_dX8_compare_115.2.2.2.1
theorem dX8_compare_121 : decode cX8_compare 121 = .ok (.aload_n 0, 1) := dk_dX8_compare_115.2.2.2.2.1
theorem dX8_compare_122 : decode cX8_compare 122 = .ok (.getfield 35, 3) := dk_dX8_compare_115.2.2.2.2.2.1
theorem dX8_compare_125 : decode cX8_compare 125 = .ok (.iconst (-1), 1) := dk_dX8_compare_115.2.2.2.2.2.2.1
theorem dX8_compare_126 : decode cX8_compare 126 = .ok (.if_icmp .ne 7, 3) := dk_dX8_compare_115.2.2.2.2.2.2.2.1
theorem dk_dX8_compare_115_8 : dz_C cX8_compare [(129, .iload_n 3, 1), (130, .goto 7, 3), (133, .aload_n 0, 1), (134, .getfield 35, 3), (137, .putfield 35, 3), (140, .iinc 4 1, 3), (143, .goto (-95), 3), (146, .iinc 3 1, 3)] := dk_dX8_compare_115.2.2.2.2.2.2.2.2
theorem dX8_compare_129 : decode cX8_compare 129 = .ok (.iload_n 3, 1) := dk_dX8_compare_115_8.1
theorem dX8_compare_130 : decode cX8_compare 130 = .ok (.goto 7, 3) := dk_dX8_compare_115_8.2.1
theorem dX8_compare_133 : decode cX8_compare 133 = .ok (.aload_n 0, 1) := dk_dX8_compare_115_8.2.2.1
theorem dX8_compare_134 : decode cX8_compare 134 = .ok (.getfield 35, 3) := dk_dX8_compare_115_8.2.2.2.1
theorem dX8_compare_137 : decode cX8_compare 137 = .ok (.putfield 35, 3) := dk_dX8_compare_115_8.2.2.2.2.1
theorem dX8_compare_140 : decode cX8_compare 140 = .ok (.iinc 4 1, 3) := dk_dX8_compare_115_8.2.2.2.2.2.1
theorem dX8_compare_143 : decode cX8_compare 143 = .ok (.goto (-95), 3) := dk_dX8_compare_115_8.2.2.2.2.2.2.1
theorem dX8_compare_146 : decode cX8_compare 146 = .ok (.iinc 3 1, 3) := dk_dX8_compare_115_8.2.2.2.2.2.2.2.1
theorem dk_dX8_compare_149 : dz_C cX8_compare [(149, .goto (-109), 3), (152, .aload_n 0, 1), (153, .invokevirtual 72, 3), (156, .return_, 1)] := dz_of (by decide +kernel)
theorem dX8_compare_149 : decode cX8_compare 149 = .ok (.goto (-109), 3) := dk_dX8_compare_149.1
theorem dX8_compare_152 : decode cX8_compare 152 = .ok (.aload_n 0, 1) := dk_dX8_compare_149.2.1
theorem dX8_compare_153 : decode cX8_compare 153 = .ok (.invokevirtual 72, 3) := dk_dX8_compare_149.2.2.1
theorem dX8_compare_156 : decode cX8_compare 156 = .ok (.return_, 1) := dk_dX8_compare_149.2.2.2.1
theorem dk_dX8_forget_0 : dz_C cX8_forget [(0, .aload_n 0, 1), (1, .iconst 0, 1), (2, .putfield 22, 3), (5, .return_, 1)] := dz_of (by decide +kernel)
theorem dX8_forget_0 : decode cX8_forget 0 = .ok (.aload_n 0, 1) := dk_dX8_forget_0.1
theorem dX8_forget_1 : decode cX8_forget 1 = .ok (.iconst 0, 1) := dk_dX8_forget_0.2.1
theorem dX8_forget_2 : decode cX8_forget 2 = .ok (.putfield 22, 3) := dk_dX8_forget_0.2.2.1
theorem dX8_forget_5 : decode cX8_forget 5 = .ok (.return_, 1) := dk_dX8_forget_0.2.2.2.1
theorem dk_dX8_init_0 : dz_C cX8_init [(0, .aload_n 0, 1), (1, .invokespecial 3, 3), (4, .aload_n 0, 1), (5, .bipush 16, 2), (7, .newarray .int, 2), (9, .putfield 9, 3), (12, .aload_n 0, 1), (13, .bipush 16, 2), (15, .newarray .int, 2), (17, .putfield 15, 3), (20, .aload_n 0, 1), (21, .iconst 0, 1), (22, .putfield 18, 3), (25, .aload_n 0, 1), (26, .iconst 0, 1), (27, .putfield 22, 3)] := dz_of (by decide +kernel)
theorem dX8_init_0 : decode cX8_init 0 = .ok (.aload_n 0, 1) := dk_dX8_init_0.1
theorem dX8_init_1 : decode cX8_init 1 = .ok (.invokespecial 3, 3) := dk_dX8_init_0.2.1
theorem dX8_init_4 : decode cX8_init 4 = .ok (.aload_n 0, 1) := dk_dX8_init_0.2.2.1
theorem dX8_init_5 : decode cX8_init 5 = .ok (.bipush 16, 2) := dk_dX8_init_0.2.2.2.1
theorem dX8_init_7 : decode cX8_init 7 = .ok (.newarray .int, 2) := dk_dX8_init_0.2.2.2.2.1
theorem dX8_init_9 : decode cX8_init 9 = .ok (.putfield 9, 3) := dk_dX8_init_0.2.2.2.2.2.1
theorem dX8_init_12 : decode cX8_init 12 = .ok (.aload_n 0, 1) := dk_dX8_init_0.2.2.2.2.2.2.1
theorem dX8_init_13 : decode cX8_init 13 = .ok (.bipush 16, 2) := dk_dX8_init_0.2.2.2.2.2.2.2.1
theorem dk_dX8_init_0_8 : dz_C cX8_init [(15, .newarray .int, 2), (17, .putfield 15, 3), (20, .aload_n 0, 1), (21, .iconst 0, 1), (22, .putfield 18, 3), (25, .aload_n 0, 1), (26, .iconst 0, 1), (27, .putfield 22, 3)] := dk_dX8_init_0.2.2.2.2.2.2.2.2
theorem dX8_init_15 : decode cX8_init 15 = .ok (.newarray .int, 2) := dk_dX8_init_0_8.1
theorem dX8_init_17 : decode cX8_init 17 = .ok (.putfield 15, 3) := dk_dX8_init_0_8.2.1
theorem dX8_init_20 : decode cX8_init 20 = .ok (.aload_n 0, 1) := dk_dX8_init_0_8.2.2.1
theorem dX8_init_21 : decode cX8_init 21 = .ok (.iconst 0, 1) := dk_dX8_init_0_8.2.2.2.1
theorem dX8_init_22 : decode cX8_init 22 = .ok (.putfield 18, 3) := dk_dX8_init_0_8.2.2.2.2.1
theorem dX8_init_25 : decode cX8_init 25 = .ok (.aload_n 0, 1) := dk_dX8_init_0_8.2.2.2.2.2.1
theorem dX8_init_26 : decode cX8_init 26 = .ok (.iconst 0, 1) := dk_dX8_init_0_8.2.2.2.2.2.2.1
theorem dX8_init_27 : decode cX8_init 27 = .ok (.putfield 22, 3) := dk_dX8_init_0_8.2.2.2.2.2.2.2.1
theorem dk_dX8_init_30 : dz_C cX8_init [(30, .aload_n 0, 1), (31, .sipush 720, 3), (34, .newarray .int, 2), (36, .putfield 26, 3), (39, .aload_n 0, 1), (40, .iconst 0, 1), (41, .putfield 29, 3), (44, .aload_n 0, 1), (45, .iconst 0, 1), (46, .putfield 32, 3), (49, .aload_n 0, 1), (50, .iconst (-1), 1), (51, .putfield 35, 3), (54, .aload_n 0, 1), (55, .iconst (-1), 1), (56, .putfield 38, 3)] := dz_of (by decide +kernel)
theorem dX8_init_30 : decode cX8_init 30 = .ok (.aload_n 0, 1) := dk_dX8_init_30.1
theorem dX8_init_31 : decode cX8_init 31 = .ok (.sipush 720, 3) := dk_dX8_init_30.2.1
theorem dX8_init_34 : decode cX8_init 34 = .ok (.newarray .int, 2) := dk_dX8_init_30.2.2.1
theorem dX8_init_36 : decode cX8_init 36 = .ok (.putfield 26, 3) := dk_dX8_init_30.2.2.2.1
theorem dX8_init_39 : decode cX8_init 39 = .ok (.aload_n 0, 1) := dk_dX8_init_30.2.2.2.2.1
theorem dX8_init_40 : decode cX8_init 40 = .ok (.iconst 0, 1) := dk_dX8_init_30.2.2.2.2.2.1
theorem dX8_init_41 : decode cX8_init 41 = .ok (.putfield 29, 3) := dk_dX8_init_30.2.2.2.2.2.2.1
theorem dX8_init_44 : decode cX8_init 44 = .ok (.aload_n 0, 1) := dk_dX8_init_30.2.2.2.2.2.2.2.1
theorem dk_dX8_init_30_8 : dz_C cX8_init [(45, .iconst 0, 1), (46, .putfield 32, 3), (49, .aload_n 0, 1), (50, .iconst (-1), 1), (51, .putfield 35, 3), (54, .aload_n 0, 1), (55, .iconst (-1), 1), (56, .putfield 38, 3)] := dk_dX8_init_30.2.2.2.2.2.2.2.2
theorem dX8_init_45 : decode cX8_init 45 = .ok (.iconst 0, 1) := dk_dX8_init_30_8.1
theorem dX8_init_46 : decode cX8_init 46 = .ok (.putfield 32, 3) := dk_dX8_init_30_8.2.1
theorem dX8_init_49 : decode cX8_init 49 = .ok (.aload_n 0, 1) := dk_dX8_init_30_8.2.2.1
theorem dX8_init_50 : decode cX8_init 50 = .ok (.iconst (-1), 1) := dk_dX8_init_30_8.2.2.2.1
theorem dX8_init_51 : decode cX8_init 51 = .ok (.putfield 35, 3) := dk_dX8_init_30_8.2.2.2.2.1
theorem dX8_init_54 : decode cX8_init 54 = .ok (.aload_n 0, 1) := dk_dX8_init_30_8.2.2.2.2.2.1
theorem dX8_init_55 : decode cX8_init 55 = .ok (.iconst (-1), 1) := dk_dX8_init_30_8.2.2.2.2.2.2.1
theorem dX8_init_56 : decode cX8_init 56 = .ok (.putfield 38, 3) := dk_dX8_init_30_8.2.2.2.2.2.2.2.1
theorem dk_dX8_init_59 : dz_C cX8_init [(59, .aload_n 0, 1), (60, .iconst (-1), 1), (61, .putfield 41, 3), (64, .aload_n 0, 1), (65, .aload_n 1, 1), (66, .putfield 44, 3), (69, .return_, 1)] := dz_of (by decide +kernel)
theorem dX8_init_59 : decode cX8_init 59 = .ok (.aload_n 0, 1) := dk_dX8_init_59.1
theorem dX8_init_60 : decode cX8_init 60 = .ok (.iconst (-1), 1) := dk_dX8_init_59.2.1
theorem dX8_init_61 : decode cX8_init 61 = .ok (.putfield 41, 3) := dk_dX8_init_59.2.2.1
theorem dX8_init_64 : decode cX8_init 64 = .ok (.aload_n 0, 1) := dk_dX8_init_59.2.2.2.1
theorem dX8_init_65 : decode cX8_init 65 = .ok (.aload_n 1, 1) := dk_dX8_init_59.2.2.2.2.1
theorem dX8_init_66 : decode cX8_init 66 = .ok (.putfield 44, 3) := dk_dX8_init_59.2.2.2.2.2.1
theorem dX8_init_69 : decode cX8_init 69 = .ok (.return_, 1) := dk_dX8_init_59.2.2.2.2.2.2.1
theorem dk_dX8_isSo_0 : dz_C cX8_isSo [(0, .iconst 0, 1), (1, .istore_n 1, 1), (2, .iload_n 1, 1), (3, .aload_n 0, 1), (4, .getfield 18, 3), (7, .if_icmp .ge 34, 3), (10, .aload_n 0, 1), (11, .getfield 44, 3), (14, .getfield 63, 3), (17, .aload_n 0, 1), (18, .getfield 9, 3), (21, .iload_n 1, 1), (22, .iaload, 1), (23, .iaload, 1), (24, .aload_n 0, 1), (25, .getfield 15, 3)] := dz_of (by decide +kernel)
theorem dX8_isSo_0 : decode cX8_isSo 0 = .ok (.iconst 0, 1) := dk_dX8_isSo_0.1
theorem dX8_isSo_1 : decode cX8_isSo 1 = .ok (.istore_n 1, 1) := dk_dX8_isSo_0.2.1
theorem dX8_isSo_2 : decode cX8_isSo 2 = .ok (.iload_n 1, 1) := dk_dX8_isSo_0.2.2.1
theorem dX8_isSo_3 : decode cX8_isSo 3 = .ok (.aload_n 0, 1) := dk_dX8_isSo_0.2.2.2.1
theorem dX8_isSo_4 : decode cX8_isSo 4 = .ok (.getfield 18, 3) := dk_dX8_isSo_0.2.2.2.2.1
theorem dX8_isSo_7 : decode cX8_isSo 7 = .ok (.if_icmp .ge 34, 3) := dk_dX8_isSo_0.2.2.2.2.2.1
theorem dX8_isSo_10 : decode cX8_isSo 10 = .ok (.aload_n 0, 1) := dk_dX8_isSo_0.2.2.2.2.2.2.1
theorem dX8_isSo_11 : decode cX8_isSo 11 = .ok (.getfield 44, 3) := dk_dX8_isSo_0.2.2.2.2.2.2.2.1
theorem dk_dX8_isSo_0_8 : dz_C cX8_isSo [(14, .getfield 63, 3), (17, .aload_n 0, 1), (18, .getfield 9, 3), (21, .iload_n 1, 1), (22, .iaload, 1), (23, .iaload, 1), (24, .aload_n 0, 1), (25, .getfield 15, 3)] := dk_dX8_isSo_0.2.2.2.2.2.2.2.2
theorem dX8_isSo_14 : decode cX8_isSo 14 = .ok (.getfield 63, 3) := dk_dX8_isSo_0_8.1
theorem dX8_isSo_17 : decode cX8_isSo 17 = .ok (.aload_n 0, 1) := dk_dX8_isSo_0_8.2.1
theorem dX8_isSo_18 : decode cX8_isSo 18 = .ok (.getfield 9, 3) := dk_dX8_isSo_0_8.2.2.1
theorem dX8_isSo_21 : decode cX8_isSo 21 = .ok (.iload_n 1, 1) := dk_dX8_isSo_0_8.2.2.2.1
theorem dX8_isSo_22 : decode cX8_isSo 22 = .ok (.iaload, 1) := dk_dX8_isSo_0_8.2.2.2.2.1
theorem dX8_isSo_23 : decode cX8_isSo 23 = .ok (.iaload, 1) := dk_dX8_isSo_0_8.2.2.2.2.2.1
theorem dX8_isSo_24 : decode cX8_isSo 24 = .ok (.aload_n 0, 1) := dk_dX8_isSo_0_8.2.2.2.2.2.2.1
theorem dX8_isSo_25 : decode cX8_isSo 25 = .ok (.getfield 15, 3) := dk_dX8_isSo_0_8.2.2.2.2.2.2.2.1
theorem dk_dX8_isSo_28 : dz_C cX8_isSo [(28, .iload_n 1, 1), (29, .iaload, 1), (30, .if_icmp .eq 5, 3), (33, .iconst 0, 1), (34, .ireturn, 1), (35, .iinc 1 1, 3), (38, .goto (-36), 3), (41, .iconst 1, 1), (42, .ireturn, 1)] := dz_of (by decide +kernel)
theorem dX8_isSo_28 : decode cX8_isSo 28 = .ok (.iload_n 1, 1) := dk_dX8_isSo_28.1
theorem dX8_isSo_29 : decode cX8_isSo 29 = .ok (.iaload, 1) := dk_dX8_isSo_28.2.1
theorem dX8_isSo_30 : decode cX8_isSo 30 = .ok (.if_icmp .eq 5, 3) := dk_dX8_isSo_28.2.2.1
theorem dX8_isSo_33 : decode cX8_isSo 33 = .ok (.iconst 0, 1) := dk_dX8_isSo_28.2.2.2.1
theorem dX8_isSo_34 : decode cX8_isSo 34 = .ok (.ireturn, 1) := dk_dX8_isSo_28.2.2.2.2.1
theorem dX8_isSo_35 : decode cX8_isSo 35 = .ok (.iinc 1 1, 3) := dk_dX8_isSo_28.2.2.2.2.2.1
theorem dX8_isSo_38 : decode cX8_isSo 38 = .ok (.goto (-36), 3) := dk_dX8_isSo_28.2.2.2.2.2.2.1
theorem dX8_isSo_41 : decode cX8_isSo 41 = .ok (.iconst 1, 1) := dk_dX8_isSo_28.2.2.2.2.2.2.2.1
theorem dk_dX8_isSo_28_8 : dz_C cX8_isSo [(42, .ireturn, 1)] := dk_dX8_isSo_28.2.2.2.2.2.2.2.2
theorem dX8_isSo_42 : decode cX8_isSo 42 = .ok (.ireturn, 1) := dk_dX8_isSo_28_8.1
theorem dk_dX8_keep_0 : dz_C cX8_keep [(0, .aload_n 0, 1), (1, .iload_n 2, 1), (2, .iconst 3, 1), (3, .idiv, 1), (4, .putfield 18, 3), (7, .iconst 0, 1), (8, .istore_n 3, 1), (9, .iload_n 3, 1), (10, .aload_n 0, 1), (11, .getfield 18, 3), (14, .if_icmp .ge 60, 3), (17, .aload_n 1, 1), (18, .iload_n 3, 1), (19, .iconst 3, 1), (20, .imul, 1), (21, .iconst 1, 1)] := dz_of (by decide +kernel)
theorem dX8_keep_0 : decode cX8_keep 0 = .ok (.aload_n 0, 1) := dk_dX8_keep_0.1
theorem dX8_keep_1 : decode cX8_keep 1 = .ok (.iload_n 2, 1) := dk_dX8_keep_0.2.1
theorem dX8_keep_2 : decode cX8_keep 2 = .ok (.iconst 3, 1) := dk_dX8_keep_0.2.2.1
theorem dX8_keep_3 : decode cX8_keep 3 = .ok (.idiv, 1) := dk_dX8_keep_0.2.2.2.1
theorem dX8_keep_4 : decode cX8_keep 4 = .ok (.putfield 18, 3) := dk_dX8_keep_0.2.2.2.2.1
theorem dX8_keep_7 : decode cX8_keep 7 = .ok (.iconst 0, 1) := dk_dX8_keep_0.2.2.2.2.2.1
theorem dX8_keep_8 : decode cX8_keep 8 = .ok (.istore_n 3, 1) := dk_dX8_keep_0.2.2.2.2.2.2.1
theorem dX8_keep_9 : decode cX8_keep 9 = .ok (.iload_n 3, 1) := dk_dX8_keep_0.2.2.2.2.2.2.2.1
theorem dk_dX8_keep_0_8 : dz_C cX8_keep [(10, .aload_n 0, 1), (11, .getfield 18, 3), (14, .if_icmp .ge 60, 3), (17, .aload_n 1, 1), (18, .iload_n 3, 1), (19, .iconst 3, 1), (20, .imul, 1), (21, .iconst 1, 1)] := dk_dX8_keep_0.2.2.2.2.2.2.2.2
theorem dX8_keep_10 : decode cX8_keep 10 = .ok (.aload_n 0, 1) := dk_dX8_keep_0_8.1
theorem dX8_keep_11 : decode cX8_keep 11 = .ok (.getfield 18, 3) := dk_dX8_keep_0_8.2.1
theorem dX8_keep_14 : decode cX8_keep 14 = .ok (.if_icmp .ge 60, 3) := dk_dX8_keep_0_8.2.2.1
theorem dX8_keep_17 : decode cX8_keep 17 = .ok (.aload_n 1, 1) := dk_dX8_keep_0_8.2.2.2.1
theorem dX8_keep_18 : decode cX8_keep 18 = .ok (.iload_n 3, 1) := dk_dX8_keep_0_8.2.2.2.2.1
theorem dX8_keep_19 : decode cX8_keep 19 = .ok (.iconst 3, 1) := dk_dX8_keep_0_8.2.2.2.2.2.1
theorem dX8_keep_20 : decode cX8_keep 20 = .ok (.imul, 1) := dk_dX8_keep_0_8.2.2.2.2.2.2.1
theorem dX8_keep_21 : decode cX8_keep 21 = .ok (.iconst 1, 1) := dk_dX8_keep_0_8.2.2.2.2.2.2.2.1
theorem dk_dX8_keep_22 : dz_C cX8_keep [(22, .iadd, 1), (23, .iaload, 1), (24, .sipush 256, 3), (27, .imul, 1), (28, .aload_n 1, 1), (29, .iload_n 3, 1), (30, .iconst 3, 1), (31, .imul, 1), (32, .iconst 2, 1), (33, .iadd, 1), (34, .iaload, 1), (35, .iadd, 1), (36, .istore 4, 2), (38, .aload_n 0, 1), (39, .getfield 9, 3), (42, .iload_n 3, 1)] := dz_of (by decide +kernel)
theorem dX8_keep_22 : decode cX8_keep 22 = .ok (.iadd, 1) := dk_dX8_keep_22.1
theorem dX8_keep_23 : decode cX8_keep 23 = .ok (.iaload, 1) := dk_dX8_keep_22.2.1
theorem dX8_keep_24 : decode cX8_keep 24 = .ok (.sipush 256, 3) := dk_dX8_keep_22.2.2.1
theorem dX8_keep_27 : decode cX8_keep 27 = .ok (.imul, 1) := dk_dX8_keep_22.2.2.2.1
theorem dX8_keep_28 : decode cX8_keep 28 = .ok (.aload_n 1, 1) := dk_dX8_keep_22.2.2.2.2.1
theorem dX8_keep_29 : decode cX8_keep 29 = .ok (.iload_n 3, 1) := dk_dX8_keep_22.2.2.2.2.2.1
theorem dX8_keep_30 : decode cX8_keep 30 = .ok (.iconst 3, 1) := dk_dX8_keep_22.2.2.2.2.2.2.1
theorem dX8_keep_31 : decode cX8_keep 31 = .ok (.imul, 1) := dk_dX8_keep_22.2.2.2.2.2.2.2.1
theorem dk_dX8_keep_22_8 : dz_C cX8_keep [(32, .iconst 2, 1), (33, .iadd, 1), (34, .iaload, 1), (35, .iadd, 1), (36, .istore 4, 2), (38, .aload_n 0, 1), (39, .getfield 9, 3), (42, .iload_n 3, 1)] := dk_dX8_keep_22.2.2.2.2.2.2.2.2
theorem dX8_keep_32 : decode cX8_keep 32 = .ok (.iconst 2, 1) := dk_dX8_keep_22_8.1
theorem dX8_keep_33 : decode cX8_keep 33 = .ok (.iadd, 1) := dk_dX8_keep_22_8.2.1
theorem dX8_keep_34 : decode cX8_keep 34 = .ok (.iaload, 1) := dk_dX8_keep_22_8.2.2.1
theorem dX8_keep_35 : decode cX8_keep 35 = .ok (.iadd, 1) := dk_dX8_keep_22_8.2.2.2.1
theorem dX8_keep_36 : decode cX8_keep 36 = .ok (.istore 4, 2) := dk_dX8_keep_22_8.2.2.2.2.1
theorem dX8_keep_38 : decode cX8_keep 38 = .ok (.aload_n 0, 1) := dk_dX8_keep_22_8.2.2.2.2.2.1
theorem dX8_keep_39 : decode cX8_keep 39 = .ok (.getfield 9, 3) := dk_dX8_keep_22_8.2.2.2.2.2.2.1
theorem dX8_keep_42 : decode cX8_keep 42 = .ok (.iload_n 3, 1) := dk_dX8_keep_22_8.2.2.2.2.2.2.2.1
theorem dk_dX8_keep_43 : dz_C cX8_keep [(43, .aload_n 1, 1), (44, .iload_n 3, 1), (45, .iconst 3, 1), (46, .imul, 1), (47, .iaload, 1), (48, .iastore, 1), (49, .aload_n 0, 1), (50, .getfield 15, 3), (53, .iload_n 3, 1), (54, .iload 4, 2), (56, .ldc 48, 2), (58, .if_icmp .ne 7, 3), (61, .iconst (-1), 1), (62, .goto 5, 3), (65, .iload 4, 2), (67, .iastore, 1)] := dz_of (by decide +kernel)
theorem dX8_keep_43 : decode cX8_keep 43 = .ok (.aload_n 1, 1) := dk_dX8_keep_43.1
theorem dX8_keep_44 : decode cX8_keep 44 = .ok (.iload_n 3, 1) := dk_dX8_keep_43.2.1
theorem dX8_keep_45 : decode cX8_keep 45 = .ok (.iconst 3, 1) := dk_dX8_keep_43.2.2.1
theorem dX8_keep_46 : decode cX8_keep 46 = .ok (.imul, 1) := dk_dX8_keep_43.2.2.2.1
theorem dX8_keep_47 : decode cX8_keep 47 = .ok (.iaload, 1) := dk_dX8_keep_43.2.2.2.2.1
theorem dX8_keep_48 : decode cX8_keep 48 = .ok (.iastore, 1) := dk_dX8_keep_43.2.2.2.2.2.1
theorem dX8_keep_49 : decode cX8_keep 49 = .ok (.aload_n 0, 1) := dk_dX8_keep_43.2.2.2.2.2.2.1
theorem dX8_keep_50 : decode cX8_keep 50 = .ok (.getfield 15, 3) := dk_dX8_keep_43.2.2.2.2.2.2.2.1
theorem dk_dX8_keep_43_8 : dz_C cX8_keep [(53, .iload_n 3, 1), (54, .iload 4, 2), (56, .ldc 48, 2), (58, .if_icmp .ne 7, 3), (61, .iconst (-1), 1), (62, .goto 5, 3), (65, .iload 4, 2), (67, .iastore, 1)] := dk_dX8_keep_43.2.2.2.2.2.2.2.2
theorem dX8_keep_53 : decode cX8_keep 53 = .ok (.iload_n 3, 1) := dk_dX8_keep_43_8.1
theorem dX8_keep_54 : decode cX8_keep 54 = .ok (.iload 4, 2) := dk_dX8_keep_43_8.2.1
theorem dX8_keep_56 : decode cX8_keep 56 = .ok (.ldc 48, 2) := dk_dX8_keep_43_8.2.2.1
theorem dX8_keep_58 : decode cX8_keep 58 = .ok (.if_icmp .ne 7, 3) := dk_dX8_keep_43_8.2.2.2.1
theorem dX8_keep_61 : decode cX8_keep 61 = .ok (.iconst (-1), 1) := dk_dX8_keep_43_8.2.2.2.2.1
theorem dX8_keep_62 : decode cX8_keep 62 = .ok (.goto 5, 3) := dk_dX8_keep_43_8.2.2.2.2.2.1
theorem dX8_keep_65 : decode cX8_keep 65 = .ok (.iload 4, 2) := dk_dX8_keep_43_8.2.2.2.2.2.2.1
theorem dX8_keep_67 : decode cX8_keep 67 = .ok (.iastore, 1) := dk_dX8_keep_43_8.2.2.2.2.2.2.2.1
theorem dk_dX8_keep_68 : dz_C cX8_keep [(68, .iinc 3 1, 3), (71, .goto (-62), 3), (74, .aload_n 0, 1), (75, .iconst 0, 1), (76, .putfield 22, 3), (79, .aload_n 0, 1), (80, .getfield 18, 3), (83, .ireturn, 1)] := dz_of (by decide +kernel)
theorem dX8_keep_68 : decode cX8_keep 68 = .ok (.iinc 3 1, 3) := dk_dX8_keep_68.1
theorem dX8_keep_71 : decode cX8_keep 71 = .ok (.goto (-62), 3) := dk_dX8_keep_68.2.1
theorem dX8_keep_74 : decode cX8_keep 74 = .ok (.aload_n 0, 1) := dk_dX8_keep_68.2.2.1
theorem dX8_keep_75 : decode cX8_keep 75 = .ok (.iconst 0, 1) := dk_dX8_keep_68.2.2.2.1
theorem dX8_keep_76 : decode cX8_keep 76 = .ok (.putfield 22, 3) := dk_dX8_keep_68.2.2.2.2.1
theorem dX8_keep_79 : decode cX8_keep 79 = .ok (.aload_n 0, 1) := dk_dX8_keep_68.2.2.2.2.2.1
theorem dX8_keep_80 : decode cX8_keep 80 = .ok (.getfield 18, 3) := dk_dX8_keep_68.2.2.2.2.2.2.1
theorem dX8_keep_83 : decode cX8_keep 83 = .ok (.ireturn, 1) := dk_dX8_keep_68.2.2.2.2.2.2.2.1
theorem dk_dX8_mostLeft_0 : dz_C cX8_mostLeft [(0, .iconst 0, 1), (1, .istore_n 2, 1), (2, .iconst 0, 1), (3, .istore_n 3, 1), (4, .iload_n 3, 1), (5, .aload_n 0, 1), (6, .getfield 29, 3), (9, .if_icmp .ge 66, 3), (12, .iconst 0, 1), (13, .istore 4, 2), (15, .iconst 0, 1), (16, .istore 5, 2), (18, .iload 5, 2), (20, .aload_n 0, 1), (21, .getfield 29, 3), (24, .if_icmp .ge 38, 3)] := dz_of (by decide +kernel)
theorem dX8_mostLeft_0 : decode cX8_mostLeft 0 = .ok (.iconst 0, 1) := dk_dX8_mostLeft_0.1
theorem dX8_mostLeft_1 : decode cX8_mostLeft 1 = .ok (.istore_n 2, 1) := dk_dX8_mostLeft_0.2.1
theorem dX8_mostLeft_2 : decode cX8_mostLeft 2 = .ok (.iconst 0, 1) := dk_dX8_mostLeft_0.2.2.1
theorem dX8_mostLeft_3 : decode cX8_mostLeft 3 = .ok (.istore_n 3, 1) := dk_dX8_mostLeft_0.2.2.2.1
theorem dX8_mostLeft_4 : decode cX8_mostLeft 4 = .ok (.iload_n 3, 1) := dk_dX8_mostLeft_0.2.2.2.2.1
theorem dX8_mostLeft_5 : decode cX8_mostLeft 5 = .ok (.aload_n 0, 1) := dk_dX8_mostLeft_0.2.2.2.2.2.1
theorem dX8_mostLeft_6 : decode cX8_mostLeft 6 = .ok (.getfield 29, 3) := dk_dX8_mostLeft_0.2.2.2.2.2.2.1
theorem dX8_mostLeft_9 : decode cX8_mostLeft 9 = .ok (.if_icmp .ge 66, 3) := dk_dX8_mostLeft_0.2.2.2.2.2.2.2.1
theorem dk_dX8_mostLeft_0_8 : dz_C cX8_mostLeft [(12, .iconst 0, 1), (13, .istore 4, 2), (15, .iconst 0, 1), (16, .istore 5, 2), (18, .iload 5, 2), (20, .aload_n 0, 1), (21, .getfield 29, 3), (24, .if_icmp .ge 38, 3)] := dk_dX8_mostLeft_0.2.2.2.2.2.2.2.2
theorem dX8_mostLeft_12 : decode cX8_mostLeft 12 = .ok (.iconst 0, 1) := dk_dX8_mostLeft_0_8.1
theorem dX8_mostLeft_13 : decode cX8_mostLeft 13 = .ok (.istore 4, 2) := dk_dX8_mostLeft_0_8.2.1
theorem dX8_mostLeft_15 : decode cX8_mostLeft 15 = .ok (.iconst 0, 1) := dk_dX8_mostLeft_0_8.2.2.1
theorem dX8_mostLeft_16 : decode cX8_mostLeft 16 = .ok (.istore 5, 2) := dk_dX8_mostLeft_0_8.2.2.2.1
theorem dX8_mostLeft_18 : decode cX8_mostLeft 18 = .ok (.iload 5, 2) := dk_dX8_mostLeft_0_8.2.2.2.2.1
theorem dX8_mostLeft_20 : decode cX8_mostLeft 20 = .ok (.aload_n 0, 1) := dk_dX8_mostLeft_0_8.2.2.2.2.2.1
theorem dX8_mostLeft_21 : decode cX8_mostLeft 21 = .ok (.getfield 29, 3) := dk_dX8_mostLeft_0_8.2.2.2.2.2.2.1
theorem dX8_mostLeft_24 : decode cX8_mostLeft 24 = .ok (.if_icmp .ge 38, 3) := dk_dX8_mostLeft_0_8.2.2.2.2.2.2.2.1
theorem dk_dX8_mostLeft_27 : dz_C cX8_mostLeft [(27, .aload_n 0, 1), (28, .getfield 26, 3), (31, .iload 5, 2), (33, .bipush 12, 2), (35, .imul, 1), (36, .iload_n 1, 1), (37, .iadd, 1), (38, .iaload, 1), (39, .aload_n 0, 1), (40, .getfield 26, 3), (43, .iload_n 3, 1), (44, .bipush 12, 2), (46, .imul, 1), (47, .iload_n 1, 1), (48, .iadd, 1), (49, .iaload, 1)] := dz_of (by decide +kernel)
theorem dX8_mostLeft_27 : decode cX8_mostLeft 27 = .ok (.aload_n 0, 1) := dk_dX8_mostLeft_27.1
theorem dX8_mostLeft_28 : decode cX8_mostLeft 28 = .ok (.getfield 26, 3) := dk_dX8_mostLeft_27.2.1
theorem dX8_mostLeft_31 : decode cX8_mostLeft 31 = .ok (.iload 5, 2) := dk_dX8_mostLeft_27.2.2.1
theorem dX8_mostLeft_33 : decode cX8_mostLeft 33 = .ok (.bipush 12, 2) := dk_dX8_mostLeft_27.2.2.2.1
theorem dX8_mostLeft_35 : decode cX8_mostLeft 35 = .ok (.imul, 1) := dk_dX8_mostLeft_27.2.2.2.2.1
theorem dX8_mostLeft_36 : decode cX8_mostLeft 36 = .ok (.iload_n 1, 1) := dk_dX8_mostLeft_27.2.2.2.2.2.1
theorem dX8_mostLeft_37 : decode cX8_mostLeft 37 = .ok (.iadd, 1) := dk_dX8_mostLeft_27.2.2.2.2.2.2.1
theorem dX8_mostLeft_38 : decode cX8_mostLeft 38 = .ok (.iaload, 1) := dk_dX8_mostLeft_27.2.2.2.2.2.2.2.1
theorem dk_dX8_mostLeft_27_8 : dz_C cX8_mostLeft [(39, .aload_n 0, 1), (40, .getfield 26, 3), (43, .iload_n 3, 1), (44, .bipush 12, 2), (46, .imul, 1), (47, .iload_n 1, 1), (48, .iadd, 1), (49, .iaload, 1)] := dk_dX8_mostLeft_27.2.2.2.2.2.2.2.2
theorem dX8_mostLeft_39 : decode cX8_mostLeft 39 = .ok (.aload_n 0, 1) := dk_dX8_mostLeft_27_8.1
theorem dX8_mostLeft_40 : decode cX8_mostLeft 40 = .ok (.getfield 26, 3) := dk_dX8_mostLeft_27_8.2.1
theorem dX8_mostLeft_43 : decode cX8_mostLeft 43 = .ok (.iload_n 3, 1) := dk_dX8_mostLeft_27_8.2.2.1
theorem dX8_mostLeft_44 : decode cX8_mostLeft 44 = .ok (.bipush 12, 2) := dk_dX8_mostLeft_27_8.2.2.2.1
theorem dX8_mostLeft_46 : decode cX8_mostLeft 46 = .ok (.imul, 1) := dk_dX8_mostLeft_27_8.2.2.2.2.1
theorem dX8_mostLeft_47 : decode cX8_mostLeft 47 = .ok (.iload_n 1, 1) := dk_dX8_mostLeft_27_8.2.2.2.2.2.1
theorem dX8_mostLeft_48 : decode cX8_mostLeft 48 = .ok (.iadd, 1) := dk_dX8_mostLeft_27_8.2.2.2.2.2.2.1
theorem dX8_mostLeft_49 : decode cX8_mostLeft 49 = .ok (.iaload, 1) := dk_dX8_mostLeft_27_8.2.2.2.2.2.2.2.1
theorem dk_dX8_mostLeft_50 : dz_C cX8_mostLeft [(50, .if_icmp .ne 6, 3), (53, .iinc 4 1, 3), (56, .iinc 5 1, 3), (59, .goto (-41), 3), (62, .iload_n 2, 1), (63, .iload 4, 2), (65, .invokestatic 82, 3), (68, .istore_n 2, 1), (69, .iinc 3 1, 3), (72, .goto (-68), 3), (75, .iload_n 2, 1), (76, .ireturn, 1)] := dz_of (by decide +kernel)
theorem dX8_mostLeft_50 : decode cX8_mostLeft 50 = .ok (.if_icmp .ne 6, 3) := dk_dX8_mostLeft_50.1
theorem dX8_mostLeft_53 : decode cX8_mostLeft 53 = .ok (.iinc 4 1, 3) := dk_dX8_mostLeft_50.2.1
theorem dX8_mostLeft_56 : decode cX8_mostLeft 56 = .ok (.iinc 5 1, 3) := dk_dX8_mostLeft_50.2.2.1
theorem dX8_mostLeft_59 : decode cX8_mostLeft 59 = .ok (.goto (-41), 3) := dk_dX8_mostLeft_50.2.2.2.1
theorem dX8_mostLeft_62 : decode cX8_mostLeft 62 = .ok (.iload_n 2, 1) := dk_dX8_mostLeft_50.2.2.2.2.1
theorem dX8_mostLeft_63 : decode cX8_mostLeft 63 = .ok (.iload 4, 2) := dk_dX8_mostLeft_50.2.2.2.2.2.1
theorem dX8_mostLeft_65 : decode cX8_mostLeft 65 = .ok (.invokestatic 82, 3) := dk_dX8_mostLeft_50.2.2.2.2.2.2.1
theorem dX8_mostLeft_68 : decode cX8_mostLeft 68 = .ok (.istore_n 2, 1) := dk_dX8_mostLeft_50.2.2.2.2.2.2.2.1
theorem dk_dX8_mostLeft_50_8 : dz_C cX8_mostLeft [(69, .iinc 3 1, 3), (72, .goto (-68), 3), (75, .iload_n 2, 1), (76, .ireturn, 1)] := dk_dX8_mostLeft_50.2.2.2.2.2.2.2.2
theorem dX8_mostLeft_69 : decode cX8_mostLeft 69 = .ok (.iinc 3 1, 3) := dk_dX8_mostLeft_50_8.1
theorem dX8_mostLeft_72 : decode cX8_mostLeft 72 = .ok (.goto (-68), 3) := dk_dX8_mostLeft_50_8.2.1
theorem dX8_mostLeft_75 : decode cX8_mostLeft 75 = .ok (.iload_n 2, 1) := dk_dX8_mostLeft_50_8.2.2.1
theorem dX8_mostLeft_76 : decode cX8_mostLeft 76 = .ok (.ireturn, 1) := dk_dX8_mostLeft_50_8.2.2.2.1
theorem dk_dX9_act_0 : dz_C cX9_act [(0, .aload_n 0, 1), (1, .getfield 37, 3), (4, .aload_n 0, 1), (5, .getfield 30, 3), (8, .invokevirtual 331, 3), (11, .aload_n 0, 1), (12, .invokevirtual 136, 3), (15, .return_, 1)] := dz_of (by decide +kernel)
theorem dX9_act_0 : decode cX9_act 0 = .ok (.aload_n 0, 1) := dk_dX9_act_0.1
theorem dX9_act_1 : decode cX9_act 1 = .ok (.getfield 37, 3) := dk_dX9_act_0.2.1
theorem dX9_act_4 : decode cX9_act 4 = .ok (.aload_n 0, 1) := dk_dX9_act_0.2.2.1
theorem dX9_act_5 : decode cX9_act 5 = .ok (.getfield 30, 3) := dk_dX9_act_0.2.2.2.1
theorem dX9_act_8 : decode cX9_act 8 = .ok (.invokevirtual 331, 3) := dk_dX9_act_0.2.2.2.2.1
theorem dX9_act_11 : decode cX9_act 11 = .ok (.aload_n 0, 1) := dk_dX9_act_0.2.2.2.2.2.1
theorem dX9_act_12 : decode cX9_act 12 = .ok (.invokevirtual 136, 3) := dk_dX9_act_0.2.2.2.2.2.2.1
theorem dX9_act_15 : decode cX9_act 15 = .ok (.return_, 1) := dk_dX9_act_0.2.2.2.2.2.2.2.1
theorem dk_dX9_answer_0 : dz_C cX9_answer [(0, .ldc2_w 351, 3), (3, .lstore_n 2, 1), (4, .ldc2_w 351, 3), (7, .lstore 4, 2), (9, .lconst 0, 1), (10, .lstore 6, 2), (12, .lconst 0, 1), (13, .lstore 8, 2), (15, .lconst 0, 1), (16, .lstore 10, 2), (18, .iconst 0, 1), (19, .istore 12, 2), (21, .iload 12, 2), (23, .aload_n 0, 1), (24, .getfield 20, 3), (27, .getfield 151, 3)] := dz_of (by decide +kernel)
theorem dX9_answer_0 : decode cX9_answer 0 = .ok (.ldc2_w 351, 3) := dk_dX9_answer_0.1
theorem dX9_answer_3 : decode cX9_answer 3 = .ok (.lstore_n 2, 1) := dk_dX9_answer_0.2.1
theorem dX9_answer_4 : decode cX9_answer 4 = .ok (.ldc2_w 351, 3) := dk_dX9_answer_0.2.2.1
theorem dX9_answer_7 : decode cX9_answer 7 = .ok (.lstore 4, 2) := dk_dX9_answer_0.2.2.2.1
theorem dX9_answer_9 : decode cX9_answer 9 = .ok (.lconst 0, 1) := dk_dX9_answer_0.2.2.2.2.1
theorem dX9_answer_10 : decode cX9_answer 10 = .ok (.lstore 6, 2) := dk_dX9_answer_0.2.2.2.2.2.1
theorem dX9_answer_12 : decode cX9_answer 12 = .ok (.lconst 0, 1) := dk_dX9_answer_0.2.2.2.2.2.2.1
theorem dX9_answer_13 : decode cX9_answer 13 = .ok (.lstore 8, 2) := dk_dX9_answer_0.2.2.2.2.2.2.2.1
theorem dk_dX9_answer_0_8 : dz_C cX9_answer [(15, .lconst 0, 1), (16, .lstore 10, 2), (18, .iconst 0, 1), (19, .istore 12, 2), (21, .iload 12, 2), (23, .aload_n 0, 1), (24, .getfield 20, 3), (27, .getfield 151, 3)] := dk_dX9_answer_0.2.2.2.2.2.2.2.2
theorem dX9_answer_15 : decode cX9_answer 15 = .ok (.lconst 0, 1) := dk_dX9_answer_0_8.1
theorem dX9_answer_16 : decode cX9_answer 16 = .ok (.lstore 10, 2) := dk_dX9_answer_0_8.2.1
theorem dX9_answer_18 : decode cX9_answer 18 = .ok (.iconst 0, 1) := dk_dX9_answer_0_8.2.2.1
theorem dX9_answer_19 : decode cX9_answer 19 = .ok (.istore 12, 2) := dk_dX9_answer_0_8.2.2.2.1
theorem dX9_answer_21 : decode cX9_answer 21 = .ok (.iload 12, 2) := dk_dX9_answer_0_8.2.2.2.2.1
theorem dX9_answer_23 : decode cX9_answer 23 = .ok (.aload_n 0, 1) := dk_dX9_answer_0_8.2.2.2.2.2.1
theorem dX9_answer_24 : decode cX9_answer 24 = .ok (.getfield 20, 3) := dk_dX9_answer_0_8.2.2.2.2.2.2.1
theorem dX9_answer_27 : decode cX9_answer 27 = .ok (.getfield 151, 3) := dk_dX9_answer_0_8.2.2.2.2.2.2.2.1
theorem dk_dX9_answer_30 : dz_C cX9_answer [(30, .if_icmp .ge 134, 3), (33, .aload_n 0, 1), (34, .getfield 62, 3), (37, .iload 12, 2), (39, .invokevirtual 353, 3), (42, .aload_n 0, 1), (43, .getfield 44, 3), (46, .aload_n 0, 1), (47, .getfield 24, 3), (50, .getfield 356, 3), (53, .iconst 0, 1), (54, .aload_n 0, 1), (55, .getfield 24, 3), (58, .getfield 359, 3), (61, .invokevirtual 362, 3), (64, .istore 13, 2)] := dz_of (by decide +kernel)
theorem dX9_answer_30 : decode cX9_answer 30 = .ok (.if_icmp .ge 134, 3) := dk_dX9_answer_30.1
theorem dX9_answer_33 : decode cX9_answer 33 = .ok (.aload_n 0, 1) := dk_dX9_answer_30.2.1
theorem dX9_answer_34 : decode cX9_answer 34 = .ok (.getfield 62, 3) := dk_dX9_answer_30.2.2.1
theorem dX9_answer_37 : decode cX9_answer 37 = .ok (.iload 12, 2) := dk_dX9_answer_30.2.2.2.1
theorem dX9_answer_39 : decode cX9_answer 39 = .ok (.invokevirtual 353, 3) := dk_dX9_answer_30.2.2.2.2.1
theorem dX9_answer_42 : decode cX9_answer 42 = .ok (.aload_n 0, 1) := dk_dX9_answer_30.2.2.2.2.2.1
theorem dX9_answer_43 : decode cX9_answer 43 = .ok (.getfield 44, 3) := dk_dX9_answer_30.2.2.2.2.2.2.1
theorem dX9_answer_46 : decode cX9_answer 46 = .ok (.aload_n 0, 1) := dk_dX9_answer_30.2.2.2.2.2.2.2.1
theorem dk_dX9_answer_30_8 : dz_C cX9_answer [(47, .getfield 24, 3), (50, .getfield 356, 3), (53, .iconst 0, 1), (54, .aload_n 0, 1), (55, .getfield 24, 3), (58, .getfield 359, 3), (61, .invokevirtual 362, 3), (64, .istore 13, 2)] := dk_dX9_answer_30.2.2.2.2.2.2.2.2
theorem dX9_answer_47 : decode cX9_answer 47 = .ok (.getfield 24, 3) := dk_dX9_answer_30_8.1
theorem dX9_answer_50 : decode cX9_answer 50 = .ok (.getfield 356, 3) := dk_dX9_answer_30_8.2.1
theorem dX9_answer_53 : decode cX9_answer 53 = .ok (.iconst 0, 1) := dk_dX9_answer_30_8.2.2.1
theorem dX9_answer_54 : decode cX9_answer 54 = .ok (.aload_n 0, 1) := dk_dX9_answer_30_8.2.2.2.1
theorem dX9_answer_55 : decode cX9_answer 55 = .ok (.getfield 24, 3) := dk_dX9_answer_30_8.2.2.2.2.1
theorem dX9_answer_58 : decode cX9_answer 58 = .ok (.getfield 359, 3) := dk_dX9_answer_30_8.2.2.2.2.2.1
theorem dX9_answer_61 : decode cX9_answer 61 = .ok (.invokevirtual 362, 3) := dk_dX9_answer_30_8.2.2.2.2.2.2.1
theorem dX9_answer_64 : decode cX9_answer 64 = .ok (.istore 13, 2) := dk_dX9_answer_30_8.2.2.2.2.2.2.2.1
theorem dk_dX9_answer_66 : dz_C cX9_answer [(66, .lload 6, 2), (68, .iload 13, 2), (70, .i2l, 1), (71, .ladd, 1), (72, .lstore 6, 2), (74, .iload 12, 2), (76, .ifCond .eq 12, 3), (79, .iload 13, 2), (81, .i2l, 1), (82, .lload 8, 2), (84, .lcmp, 1), (85, .ifCond .le 9, 3), (88, .iload 13, 2), (90, .i2l, 1), (91, .goto 5, 3), (94, .lload 8, 2)] := dz_of (by decide +kernel)
theorem dX9_answer_66 : decode cX9_answer 66 = .ok (.lload 6, 2) := dk_dX9_answer_66.1
theorem dX9_answer_68 : decode cX9_answer 68 = .ok (.iload 13, 2) := dk_dX9_answer_66.2.1
theorem dX9_answer_70 : decode cX9_answer 70 = .ok (.i2l, 1) := dk_dX9_answer_66.2.2.1
theorem dX9_answer_71 : decode cX9_answer 71 = .ok (.ladd, 1) := dk_dX9_answer_66.2.2.2.1
theorem dX9_answer_72 : decode cX9_answer 72 = .ok (.lstore 6, 2) := dk_dX9_answer_66.2.2.2.2.1
theorem dX9_answer_74 : decode cX9_answer 74 = .ok (.iload 12, 2) := dk_dX9_answer_66.2.2.2.2.2.1
theorem dX9_answer_76 : decode cX9_answer 76 = .ok (.ifCond .eq 12, 3) := dk_dX9_answer_66.2.2.2.2.2.2.1
theorem dX9_answer_79 : decode cX9_answer 79 = .ok (.iload 13, 2) := dk_dX9_answer_66.2.2.2.2.2.2.2.1
theorem dk_dX9_answer_66_8 : dz_C cX9_answer [(81, .i2l, 1), (82, .lload 8, 2), (84, .lcmp, 1), (85, .ifCond .le 9, 3), (88, .iload 13, 2), (90, .i2l, 1), (91, .goto 5, 3), (94, .lload 8, 2)] := dk_dX9_answer_66.2.2.2.2.2.2.2.2
theorem dX9_answer_81 : decode cX9_answer 81 = .ok (.i2l, 1) := dk_dX9_answer_66_8.1
theorem dX9_answer_82 : decode cX9_answer 82 = .ok (.lload 8, 2) := dk_dX9_answer_66_8.2.1
theorem dX9_answer_84 : decode cX9_answer 84 = .ok (.lcmp, 1) := dk_dX9_answer_66_8.2.2.1
theorem dX9_answer_85 : decode cX9_answer 85 = .ok (.ifCond .le 9, 3) := dk_dX9_answer_66_8.2.2.2.1
theorem dX9_answer_88 : decode cX9_answer 88 = .ok (.iload 13, 2) := dk_dX9_answer_66_8.2.2.2.2.1
theorem dX9_answer_90 : decode cX9_answer 90 = .ok (.i2l, 1) := dk_dX9_answer_66_8.2.2.2.2.2.1
theorem dX9_answer_91 : decode cX9_answer 91 = .ok (.goto 5, 3) := dk_dX9_answer_66_8.2.2.2.2.2.2.1
theorem dX9_answer_94 : decode cX9_answer 94 = .ok (.lload 8, 2) := dk_dX9_answer_66_8.2.2.2.2.2.2.2.1
theorem dk_dX9_answer_96 : dz_C cX9_answer [(96, .lstore 8, 2), (98, .iload 12, 2), (100, .ifCond .eq 12, 3), (103, .iload 13, 2), (105, .i2l, 1), (106, .lload 10, 2), (108, .lcmp, 1), (109, .ifCond .ge 9, 3), (112, .iload 13, 2), (114, .i2l, 1), (115, .goto 5, 3), (118, .lload 10, 2), (120, .lstore 10, 2), (122, .lload_n 2, 1), (123, .ldc2_w 351, 3), (126, .lcmp, 1)] := dz_of (by decide +kernel)
theorem dX9_answer_96 : decode cX9_answer 96 = .ok (.lstore 8, 2) := dk_dX9_answer_96.1
theorem dX9_answer_98 : decode cX9_answer 98 = .ok (.iload 12, 2) := dk_dX9_answer_96.2.1
theorem dX9_answer_100 : decode cX9_answer 100 = .ok (.ifCond .eq 12, 3) := dk_dX9_answer_96.2.2.1
theorem dX9_answer_103 : decode cX9_answer 103 = .ok (.iload 13, 2) := dk_dX9_answer_96.2.2.2.1
theorem dX9_answer_105 : decode cX9_answer 105 = .ok (.i2l, 1) := dk_dX9_answer_96.2.2.2.2.1
theorem dX9_answer_106 : decode cX9_answer 106 = .ok (.lload 10, 2) := dk_dX9_answer_96.2.2.2.2.2.1
theorem dX9_answer_108 : decode cX9_answer 108 = .ok (.lcmp, 1) := dk_dX9_answer_96.2.2.2.2.2.2.1
theorem dX9_answer_109 : decode cX9_answer 109 = .ok (.ifCond .ge 9, 3) := dk_dX9_answer_96.2.2.2.2.2.2.2.1
theorem dk_dX9_answer_96_8 : dz_C cX9_answer [(112, .iload 13, 2), (114, .i2l, 1), (115, .goto 5, 3), (118, .lload 10, 2), (120, .lstore 10, 2), (122, .lload_n 2, 1), (123, .ldc2_w 351, 3), (126, .lcmp, 1)] := dk_dX9_answer_96.2.2.2.2.2.2.2.2
theorem dX9_answer_112 : decode cX9_answer 112 = .ok (.iload 13, 2) := dk_dX9_answer_96_8.1
theorem dX9_answer_114 : decode cX9_answer 114 = .ok (.i2l, 1) := dk_dX9_answer_96_8.2.1
theorem dX9_answer_115 : decode cX9_answer 115 = .ok (.goto 5, 3) := dk_dX9_answer_96_8.2.2.1
theorem dX9_answer_118 : decode cX9_answer 118 = .ok (.lload 10, 2) := dk_dX9_answer_96_8.2.2.2.1
theorem dX9_answer_120 : decode cX9_answer 120 = .ok (.lstore 10, 2) := dk_dX9_answer_96_8.2.2.2.2.1
theorem dX9_answer_122 : decode cX9_answer 122 = .ok (.lload_n 2, 1) := dk_dX9_answer_96_8.2.2.2.2.2.1
theorem dX9_answer_123 : decode cX9_answer 123 = .ok (.ldc2_w 351, 3) := dk_dX9_answer_96_8.2.2.2.2.2.2.1
theorem dX9_answer_126 : decode cX9_answer 126 = .ok (.lcmp, 1) := dk_dX9_answer_96_8.2.2.2.2.2.2.2.1
theorem dk_dX9_answer_127 : dz_C cX9_answer [(127, .ifCond .ne 14, 3), (130, .iload 13, 2), (132, .ifCond .eq 9, 3), (135, .iload 12, 2), (137, .i2l, 1), (138, .goto 4, 3), (141, .lload_n 2, 1), (142, .lstore_n 2, 1), (143, .iload 13, 2), (145, .ifCond .eq 9, 3), (148, .iload 12, 2), (150, .i2l, 1), (151, .goto 5, 3), (154, .lload 4, 2), (156, .lstore 4, 2), (158, .iinc 12 1, 3)] := dz_of (by decide +kernel)
theorem dX9_answer_127 : decode cX9_answer 127 = .ok (.ifCond .ne 14, 3) := dk_dX9_answer_127.1
theorem dX9_answer_130 : decode cX9_answer 130 = .ok (.iload 13, 2) := dk_dX9_answer_127.2.1
theorem dX9_answer_132 : decode cX9_answer 132 = .ok (.ifCond .eq 9, 3) := dk_dX9_answer_127.2.2.1
theorem dX9_answer_135 : decode cX9_answer 135 = .ok (.iload 12, 2) := dk_dX9_answer_127.2.2.2.1
theorem dX9_answer_137 : decode cX9_answer 137 = .ok (.i2l, 1) := dk_dX9_answer_127.2.2.2.2.1
theorem dX9_answer_138 : decode cX9_answer 138 = .ok (.goto 4, 3) := dk_dX9_answer_127.2.2.2.2.2.1
theorem dX9_answer_141 : decode cX9_answer 141 = .ok (.lload_n 2, 1) := dk_dX9_answer_127.2.2.2.2.2.2.1
theorem dX9_answer_142 : decode cX9_answer 142 = .ok (.lstore_n 2, 1) := dk_dX9_answer_127.2.2.2.2.2.2.2.1
theorem dk_dX9_answer_127_8 : dz_C cX9_answer [(143, .iload 13, 2), (145, .ifCond .eq 9, 3), (148, .iload 12, 2), (150, .i2l, 1), (151, .goto 5, 3), (154, .lload 4, 2), (156, .lstore 4, 2), (158, .iinc 12 1, 3)] := dk_dX9_answer_127.2.2.2.2.2.2.2.2
theorem dX9_answer_143 : decode cX9_answer 143 = .ok (.iload 13, 2) := dk_dX9_answer_127_8.1
theorem dX9_answer_145 : decode cX9_answer 145 = .ok (.ifCond .eq 9, 3) := dk_dX9_answer_127_8.2.1
theorem dX9_answer_148 : decode cX9_answer 148 = .ok (.iload 12, 2) := dk_dX9_answer_127_8.2.2.1
theorem dX9_answer_150 : decode cX9_answer 150 = .ok (.i2l, 1) := dk_dX9_answer_127_8.2.2.2.1
theorem dX9_answer_151 : decode cX9_answer 151 = .ok (.goto 5, 3) := dk_dX9_answer_127_8.2.2.2.2.1
theorem dX9_answer_154 : decode cX9_answer 154 = .ok (.lload 4, 2) := dk_dX9_answer_127_8.2.2.2.2.2.1
theorem dX9_answer_156 : decode cX9_answer 156 = .ok (.lstore 4, 2) := dk_dX9_answer_127_8.2.2.2.2.2.2.1
theorem dX9_answer_158 : decode cX9_answer 158 = .ok (.iinc 12 1, 3) := dk_dX9_answer_127_8.2.2.2.2.2.2.2.1
theorem dk_dX9_answer_161 : dz_C cX9_answer [(161, .goto (-140), 3), (164, .iload_n 1, 1), (200, .lload_n 2, 1), (201, .lreturn, 1), (202, .lload 4, 2), (204, .lreturn, 1), (205, .lload 6, 2), (207, .lreturn, 1), (208, .lload 6, 2), (210, .lreturn, 1), (211, .lload 8, 2), (213, .lreturn, 1), (214, .lload 10, 2), (216, .lreturn, 1)] := dz_of (by decide +kernel)
theorem dX9_answer_161 : decode cX9_answer 161 = .ok (.goto (-140), 3) := dk_dX9_answer_161.1
theorem dX9_answer_164 : decode cX9_answer 164 = .ok (.iload_n 1, 1) := dk_dX9_answer_161.2.1
theorem dX9_answer_200 : decode cX9_answer 200 = .ok (.lload_n 2, 1) := dk_dX9_answer_161.2.2.1
theorem dX9_answer_201 : decode cX9_answer 201 = .ok (.lreturn, 1) := dk_dX9_answer_161.2.2.2.1
theorem dX9_answer_202 : decode cX9_answer 202 = .ok (.lload 4, 2) := dk_dX9_answer_161.2.2.2.2.1
theorem dX9_answer_204 : decode cX9_answer 204 = .ok (.lreturn, 1) := dk_dX9_answer_161.2.2.2.2.2.1
theorem dX9_answer_205 : decode cX9_answer 205 = .ok (.lload 6, 2) := dk_dX9_answer_161.2.2.2.2.2.2.1
theorem dX9_answer_207 : decode cX9_answer 207 = .ok (.lreturn, 1) := dk_dX9_answer_161.2.2.2.2.2.2.2.1
theorem dk_dX9_answer_161_8 : dz_C cX9_answer [(208, .lload 6, 2), (210, .lreturn, 1), (211, .lload 8, 2), (213, .lreturn, 1), (214, .lload 10, 2), (216, .lreturn, 1)] := dk_dX9_answer_161.2.2.2.2.2.2.2.2
theorem dX9_answer_208 : decode cX9_answer 208 = .ok (.lload 6, 2) := dk_dX9_answer_161_8.1
theorem dX9_answer_210 : decode cX9_answer 210 = .ok (.lreturn, 1) := dk_dX9_answer_161_8.2.1
theorem dX9_answer_211 : decode cX9_answer 211 = .ok (.lload 8, 2) := dk_dX9_answer_161_8.2.2.1
theorem dX9_answer_213 : decode cX9_answer 213 = .ok (.lreturn, 1) := dk_dX9_answer_161_8.2.2.2.1
theorem dX9_answer_214 : decode cX9_answer 214 = .ok (.lload 10, 2) := dk_dX9_answer_161_8.2.2.2.2.1
theorem dX9_answer_216 : decode cX9_answer 216 = .ok (.lreturn, 1) := dk_dX9_answer_161_8.2.2.2.2.2.1
theorem dX9_answer_165 : decode cX9_answer 165 = .ok (.tableswitch 49 0 4 #[35, 37, 40, 43, 46], 35) := by decide +kernel
theorem dk_dX9_ask_0 : dz_C cX9_ask [(0, .aload_n 0, 1), (1, .invokevirtual 114, 3), (4, .istore_n 1, 1), (5, .aload_n 0, 1), (6, .invokevirtual 218, 3), (9, .ifCond .ne 7, 3), (12, .ldc2_w 309, 3), (15, .lreturn, 1), (16, .aload_n 0, 1), (17, .getfield 53, 3), (20, .aload_n 0, 1), (21, .getfield 24, 3), (24, .iload_n 1, 1), (25, .invokevirtual 311, 3), (28, .istore_n 2, 1), (29, .aload_n 0, 1)] := dz_of (by decide +kernel)
theorem dX9_ask_0 : decode cX9_ask 0 = .ok (.aload_n 0, 1) := dk_dX9_ask_0.1
theorem dX9_ask_1 : decode cX9_ask 1 = .ok (.invokevirtual 114, 3) := dk_dX9_ask_0.2.1
theorem dX9_ask_4 : decode cX9_ask 4 = .ok (.istore_n 1, 1) := dk_dX9_ask_0.2.2.1
theorem dX9_ask_5 : decode cX9_ask 5 = .ok (.aload_n 0, 1) := dk_dX9_ask_0.2.2.2.1
theorem dX9_ask_6 : decode cX9_ask 6 = .ok (.invokevirtual 218, 3) := dk_dX9_ask_0.2.2.2.2.1
theorem dX9_ask_9 : decode cX9_ask 9 = .ok (.ifCond .ne 7, 3) := dk_dX9_ask_0.2.2.2.2.2.1
theorem dX9_ask_12 : decode cX9_ask 12 = .ok (.ldc2_w 309, 3) := dk_dX9_ask_0.2.2.2.2.2.2.1
theorem dX9_ask_15 : decode cX9_ask 15 = .ok (.lreturn, 1) := dk_dX9_ask_0.2.2.2.2.2.2.2.1
theorem dk_dX9_ask_0_8 : dz_C cX9_ask [(16, .aload_n 0, 1), (17, .getfield 53, 3), (20, .aload_n 0, 1), (21, .getfield 24, 3), (24, .iload_n 1, 1), (25, .invokevirtual 311, 3), (28, .istore_n 2, 1), (29, .aload_n 0, 1)] := dk_dX9_ask_0.2.2.2.2.2.2.2.2
theorem dX9_ask_16 : decode cX9_ask 16 = .ok (.aload_n 0, 1) := dk_dX9_ask_0_8.1
theorem dX9_ask_17 : decode cX9_ask 17 = .ok (.getfield 53, 3) := dk_dX9_ask_0_8.2.1
theorem dX9_ask_20 : decode cX9_ask 20 = .ok (.aload_n 0, 1) := dk_dX9_ask_0_8.2.2.1
theorem dX9_ask_21 : decode cX9_ask 21 = .ok (.getfield 24, 3) := dk_dX9_ask_0_8.2.2.2.1
theorem dX9_ask_24 : decode cX9_ask 24 = .ok (.iload_n 1, 1) := dk_dX9_ask_0_8.2.2.2.2.1
theorem dX9_ask_25 : decode cX9_ask 25 = .ok (.invokevirtual 311, 3) := dk_dX9_ask_0_8.2.2.2.2.2.1
theorem dX9_ask_28 : decode cX9_ask 28 = .ok (.istore_n 2, 1) := dk_dX9_ask_0_8.2.2.2.2.2.2.1
theorem dX9_ask_29 : decode cX9_ask 29 = .ok (.aload_n 0, 1) := dk_dX9_ask_0_8.2.2.2.2.2.2.2.1
theorem dk_dX9_ask_30 : dz_C cX9_ask [(30, .getfield 53, 3), (33, .getfield 122, 3), (36, .ifCond .eq 7, 3), (39, .ldc2_w 309, 3), (42, .lreturn, 1), (43, .aload_n 0, 1), (44, .invokevirtual 190, 3), (47, .aload_n 0, 1), (48, .iload_n 2, 1), (49, .invokevirtual 315, 3), (52, .lreturn, 1)] := dz_of (by decide +kernel)
theorem dX9_ask_30 : decode cX9_ask 30 = .ok (.getfield 53, 3) := dk_dX9_ask_30.1
theorem dX9_ask_33 : decode cX9_ask 33 = .ok (.getfield 122, 3) := dk_dX9_ask_30.2.1
theorem dX9_ask_36 : decode cX9_ask 36 = .ok (.ifCond .eq 7, 3) := dk_dX9_ask_30.2.2.1
theorem dX9_ask_39 : decode cX9_ask 39 = .ok (.ldc2_w 309, 3) := dk_dX9_ask_30.2.2.2.1
theorem dX9_ask_42 : decode cX9_ask 42 = .ok (.lreturn, 1) := dk_dX9_ask_30.2.2.2.2.1
theorem dX9_ask_43 : decode cX9_ask 43 = .ok (.aload_n 0, 1) := dk_dX9_ask_30.2.2.2.2.2.1
theorem dX9_ask_44 : decode cX9_ask 44 = .ok (.invokevirtual 190, 3) := dk_dX9_ask_30.2.2.2.2.2.2.1
theorem dX9_ask_47 : decode cX9_ask 47 = .ok (.aload_n 0, 1) := dk_dX9_ask_30.2.2.2.2.2.2.2.1
theorem dk_dX9_ask_30_8 : dz_C cX9_ask [(48, .iload_n 2, 1), (49, .invokevirtual 315, 3), (52, .lreturn, 1)] := dk_dX9_ask_30.2.2.2.2.2.2.2.2
theorem dX9_ask_48 : decode cX9_ask 48 = .ok (.iload_n 2, 1) := dk_dX9_ask_30_8.1
theorem dX9_ask_49 : decode cX9_ask 49 = .ok (.invokevirtual 315, 3) := dk_dX9_ask_30_8.2.1
theorem dX9_ask_52 : decode cX9_ask 52 = .ok (.lreturn, 1) := dk_dX9_ask_30_8.2.2.1
theorem dk_dX9_best_0 : dz_C cX9_best [(0, .aload_n 0, 1), (1, .invokevirtual 218, 3), (4, .ifCond .eq 22, 3), (7, .iload_n 1, 1), (8, .ifCond .lt 18, 3), (11, .iload_n 1, 1), (12, .bipush 12, 2), (14, .if_icmp .gt 12, 3), (17, .iload_n 2, 1), (18, .ifCond .lt 8, 3), (21, .iload_n 2, 1), (22, .iconst 2, 1), (23, .if_icmp .le 5, 3), (26, .iconst (-1), 1), (27, .ireturn, 1), (28, .aload_n 0, 1)] := dz_of (by decide +kernel)
theorem dX9_best_0 : decode cX9_best 0 = .ok (.aload_n 0, 1) := dk_dX9_best_0.1
theorem dX9_best_1 : decode cX9_best 1 = .ok (.invokevirtual 218, 3) := dk_dX9_best_0.2.1
theorem dX9_best_4 : decode cX9_best 4 = .ok (.ifCond .eq 22, 3) := dk_dX9_best_0.2.2.1
theorem dX9_best_7 : decode cX9_best 7 = .ok (.iload_n 1, 1) := dk_dX9_best_0.2.2.2.1
theorem dX9_best_8 : decode cX9_best 8 = .ok (.ifCond .lt 18, 3) := dk_dX9_best_0.2.2.2.2.1
theorem dX9_best_11 : decode cX9_best 11 = .ok (.iload_n 1, 1) := dk_dX9_best_0.2.2.2.2.2.1
theorem dX9_best_12 : decode cX9_best 12 = .ok (.bipush 12, 2) := dk_dX9_best_0.2.2.2.2.2.2.1
theorem dX9_best_14 : decode cX9_best 14 = .ok (.if_icmp .gt 12, 3) := dk_dX9_best_0.2.2.2.2.2.2.2.1
theorem dk_dX9_best_0_8 : dz_C cX9_best [(17, .iload_n 2, 1), (18, .ifCond .lt 8, 3), (21, .iload_n 2, 1), (22, .iconst 2, 1), (23, .if_icmp .le 5, 3), (26, .iconst (-1), 1), (27, .ireturn, 1), (28, .aload_n 0, 1)] := dk_dX9_best_0.2.2.2.2.2.2.2.2
theorem dX9_best_17 : decode cX9_best 17 = .ok (.iload_n 2, 1) := dk_dX9_best_0_8.1
theorem dX9_best_18 : decode cX9_best 18 = .ok (.ifCond .lt 8, 3) := dk_dX9_best_0_8.2.1
theorem dX9_best_21 : decode cX9_best 21 = .ok (.iload_n 2, 1) := dk_dX9_best_0_8.2.2.1
theorem dX9_best_22 : decode cX9_best 22 = .ok (.iconst 2, 1) := dk_dX9_best_0_8.2.2.2.1
theorem dX9_best_23 : decode cX9_best 23 = .ok (.if_icmp .le 5, 3) := dk_dX9_best_0_8.2.2.2.2.1
theorem dX9_best_26 : decode cX9_best 26 = .ok (.iconst (-1), 1) := dk_dX9_best_0_8.2.2.2.2.2.1
theorem dX9_best_27 : decode cX9_best 27 = .ok (.ireturn, 1) := dk_dX9_best_0_8.2.2.2.2.2.2.1
theorem dX9_best_28 : decode cX9_best 28 = .ok (.aload_n 0, 1) := dk_dX9_best_0_8.2.2.2.2.2.2.2.1
theorem dk_dX9_best_29 : dz_C cX9_best [(29, .getfield 71, 3), (32, .aload_n 0, 1), (33, .getfield 30, 3), (36, .iload_n 1, 1), (37, .iload_n 2, 1), (38, .invokevirtual 231, 3), (41, .ireturn, 1)] := dz_of (by decide +kernel)
theorem dX9_best_29 : decode cX9_best 29 = .ok (.getfield 71, 3) := dk_dX9_best_29.1
theorem dX9_best_32 : decode cX9_best 32 = .ok (.aload_n 0, 1) := dk_dX9_best_29.2.1
theorem dX9_best_33 : decode cX9_best 33 = .ok (.getfield 30, 3) := dk_dX9_best_29.2.2.1
theorem dX9_best_36 : decode cX9_best 36 = .ok (.iload_n 1, 1) := dk_dX9_best_29.2.2.2.1
theorem dX9_best_37 : decode cX9_best 37 = .ok (.iload_n 2, 1) := dk_dX9_best_29.2.2.2.2.1
theorem dX9_best_38 : decode cX9_best 38 = .ok (.invokevirtual 231, 3) := dk_dX9_best_29.2.2.2.2.2.1
theorem dX9_best_41 : decode cX9_best 41 = .ok (.ireturn, 1) := dk_dX9_best_29.2.2.2.2.2.2.1
theorem dk_dX9_bit_0 : dz_C cX9_bit [(0, .iload_n 0, 1), (1, .iload_n 1, 1), (2, .ishr, 1), (3, .iconst 1, 1), (4, .iand, 1), (5, .ireturn, 1)] := dz_of (by decide +kernel)
theorem dX9_bit_0 : decode cX9_bit 0 = .ok (.iload_n 0, 1) := dk_dX9_bit_0.1
theorem dX9_bit_1 : decode cX9_bit 1 = .ok (.iload_n 1, 1) := dk_dX9_bit_0.2.1
theorem dX9_bit_2 : decode cX9_bit 2 = .ok (.ishr, 1) := dk_dX9_bit_0.2.2.1
theorem dX9_bit_3 : decode cX9_bit 3 = .ok (.iconst 1, 1) := dk_dX9_bit_0.2.2.2.1
theorem dX9_bit_4 : decode cX9_bit 4 = .ok (.iand, 1) := dk_dX9_bit_0.2.2.2.2.1
theorem dX9_bit_5 : decode cX9_bit 5 = .ok (.ireturn, 1) := dk_dX9_bit_0.2.2.2.2.2.1
theorem dk_dX9_canLive_0 : dz_C cX9_canLive [(0, .aload_n 0, 1), (1, .invokevirtual 218, 3), (4, .ifCond .eq 33, 3), (7, .iload_n 1, 1), (8, .iconst 1, 1), (9, .if_icmp .lt 28, 3), (12, .iload_n 1, 1), (13, .bipush 30, 2), (15, .if_icmp .gt 22, 3), (18, .aload_n 0, 1), (19, .getfield 30, 3), (22, .getfield 154, 3), (25, .iload_n 1, 1), (26, .iadd, 1), (27, .sipush 999, 3), (30, .if_icmp .gt 7, 3)] := dz_of (by decide +kernel)
theorem dX9_canLive_0 : decode cX9_canLive 0 = .ok (.aload_n 0, 1) := dk_dX9_canLive_0.1
theorem dX9_canLive_1 : decode cX9_canLive 1 = .ok (.invokevirtual 218, 3) := dk_dX9_canLive_0.2.1
theorem dX9_canLive_4 : decode cX9_canLive 4 = .ok (.ifCond .eq 33, 3) := dk_dX9_canLive_0.2.2.1
theorem dX9_canLive_7 : decode cX9_canLive 7 = .ok (.iload_n 1, 1) := dk_dX9_canLive_0.2.2.2.1
theorem dX9_canLive_8 : decode cX9_canLive 8 = .ok (.iconst 1, 1) := dk_dX9_canLive_0.2.2.2.2.1
theorem dX9_canLive_9 : decode cX9_canLive 9 = .ok (.if_icmp .lt 28, 3) := dk_dX9_canLive_0.2.2.2.2.2.1
theorem dX9_canLive_12 : decode cX9_canLive 12 = .ok (.iload_n 1, 1) := dk_dX9_canLive_0.2.2.2.2.2.2.1
theorem dX9_canLive_13 : decode cX9_canLive 13 = .ok (.bipush 30, 2) := dk_dX9_canLive_0.2.2.2.2.2.2.2.1
theorem dk_dX9_canLive_0_8 : dz_C cX9_canLive [(15, .if_icmp .gt 22, 3), (18, .aload_n 0, 1), (19, .getfield 30, 3), (22, .getfield 154, 3), (25, .iload_n 1, 1), (26, .iadd, 1), (27, .sipush 999, 3), (30, .if_icmp .gt 7, 3)] := dk_dX9_canLive_0.2.2.2.2.2.2.2.2
theorem dX9_canLive_15 : decode cX9_canLive 15 = .ok (.if_icmp .gt 22, 3) := dk_dX9_canLive_0_8.1
theorem dX9_canLive_18 : decode cX9_canLive 18 = .ok (.aload_n 0, 1) := dk_dX9_canLive_0_8.2.1
theorem dX9_canLive_19 : decode cX9_canLive 19 = .ok (.getfield 30, 3) := dk_dX9_canLive_0_8.2.2.1
theorem dX9_canLive_22 : decode cX9_canLive 22 = .ok (.getfield 154, 3) := dk_dX9_canLive_0_8.2.2.2.1
theorem dX9_canLive_25 : decode cX9_canLive 25 = .ok (.iload_n 1, 1) := dk_dX9_canLive_0_8.2.2.2.2.1
theorem dX9_canLive_26 : decode cX9_canLive 26 = .ok (.iadd, 1) := dk_dX9_canLive_0_8.2.2.2.2.2.1
theorem dX9_canLive_27 : decode cX9_canLive 27 = .ok (.sipush 999, 3) := dk_dX9_canLive_0_8.2.2.2.2.2.2.1
theorem dX9_canLive_30 : decode cX9_canLive 30 = .ok (.if_icmp .gt 7, 3) := dk_dX9_canLive_0_8.2.2.2.2.2.2.2.1
theorem dk_dX9_canLive_33 : dz_C cX9_canLive [(33, .iconst 1, 1), (34, .goto 4, 3), (37, .iconst 0, 1), (38, .ireturn, 1)] := dz_of (by decide +kernel)
theorem dX9_canLive_33 : decode cX9_canLive 33 = .ok (.iconst 1, 1) := dk_dX9_canLive_33.1
theorem dX9_canLive_34 : decode cX9_canLive 34 = .ok (.goto 4, 3) := dk_dX9_canLive_33.2.1
theorem dX9_canLive_37 : decode cX9_canLive 37 = .ok (.iconst 0, 1) := dk_dX9_canLive_33.2.2.1
theorem dX9_canLive_38 : decode cX9_canLive 38 = .ok (.ireturn, 1) := dk_dX9_canLive_33.2.2.2.1
theorem dk_dX9_car_0 : dz_C cX9_car [(0, .aload_n 0, 1), (1, .invokevirtual 218, 3), (4, .ifCond .eq 14, 3), (7, .iload_n 1, 1), (8, .ifCond .lt 10, 3), (11, .iload_n 1, 1), (12, .sipush 320, 3), (15, .if_icmp .lt 5, 3), (18, .iconst (-1), 1), (19, .ireturn, 1), (20, .aload_n 0, 1), (21, .invokevirtual 190, 3), (24, .aload_n 0, 1), (25, .getfield 62, 3), (28, .getfield 225, 3), (31, .iload_n 1, 1)] := dz_of (by decide +kernel)
theorem dX9_car_0 : decode cX9_car 0 = .ok (.aload_n 0, 1) := dk_dX9_car_0.1
theorem dX9_car_1 : decode cX9_car 1 = .ok (.invokevirtual 218, 3) := dk_dX9_car_0.2.1
theorem dX9_car_4 : decode cX9_car 4 = .ok (.ifCond .eq 14, 3) := dk_dX9_car_0.2.2.1
theorem dX9_car_7 : decode cX9_car 7 = .ok (.iload_n 1, 1) := dk_dX9_car_0.2.2.2.1
theorem dX9_car_8 : decode cX9_car 8 = .ok (.ifCond .lt 10, 3) := dk_dX9_car_0.2.2.2.2.1
theorem dX9_car_11 : decode cX9_car 11 = .ok (.iload_n 1, 1) := dk_dX9_car_0.2.2.2.2.2.1
theorem dX9_car_12 : decode cX9_car 12 = .ok (.sipush 320, 3) := dk_dX9_car_0.2.2.2.2.2.2.1
theorem dX9_car_15 : decode cX9_car 15 = .ok (.if_icmp .lt 5, 3) := dk_dX9_car_0.2.2.2.2.2.2.2.1
theorem dk_dX9_car_0_8 : dz_C cX9_car [(18, .iconst (-1), 1), (19, .ireturn, 1), (20, .aload_n 0, 1), (21, .invokevirtual 190, 3), (24, .aload_n 0, 1), (25, .getfield 62, 3), (28, .getfield 225, 3), (31, .iload_n 1, 1)] := dk_dX9_car_0.2.2.2.2.2.2.2.2
theorem dX9_car_18 : decode cX9_car 18 = .ok (.iconst (-1), 1) := dk_dX9_car_0_8.1
theorem dX9_car_19 : decode cX9_car 19 = .ok (.ireturn, 1) := dk_dX9_car_0_8.2.1
theorem dX9_car_20 : decode cX9_car 20 = .ok (.aload_n 0, 1) := dk_dX9_car_0_8.2.2.1
theorem dX9_car_21 : decode cX9_car 21 = .ok (.invokevirtual 190, 3) := dk_dX9_car_0_8.2.2.2.1
theorem dX9_car_24 : decode cX9_car 24 = .ok (.aload_n 0, 1) := dk_dX9_car_0_8.2.2.2.2.1
theorem dX9_car_25 : decode cX9_car 25 = .ok (.getfield 62, 3) := dk_dX9_car_0_8.2.2.2.2.2.1
theorem dX9_car_28 : decode cX9_car 28 = .ok (.getfield 225, 3) := dk_dX9_car_0_8.2.2.2.2.2.2.1
theorem dX9_car_31 : decode cX9_car 31 = .ok (.iload_n 1, 1) := dk_dX9_car_0_8.2.2.2.2.2.2.2.1
theorem dk_dX9_car_32 : dz_C cX9_car [(32, .iaload, 1), (33, .ireturn, 1)] := dz_of (by decide +kernel)
theorem dX9_car_32 : decode cX9_car 32 = .ok (.iaload, 1) := dk_dX9_car_32.1
theorem dX9_car_33 : decode cX9_car 33 = .ok (.ireturn, 1) := dk_dX9_car_32.2.1
theorem dk_dX9_chance_0 : dz_C cX9_chance [(0, .aload_n 0, 1), (1, .iload_n 1, 1), (2, .invokevirtual 287, 3), (5, .ifCond .ne 9, 3), (8, .aload_n 0, 1), (9, .iconst 3, 1), (10, .invokevirtual 102, 3), (13, .ireturn, 1), (14, .aload_n 0, 1), (15, .invokevirtual 281, 3), (18, .iconst 0, 1), (19, .istore_n 2, 1), (20, .iconst 0, 1), (21, .istore_n 3, 1), (22, .iload_n 3, 1), (23, .iload_n 1, 1)] := dz_of (by decide +kernel)
theorem dX9_chance_0 : decode cX9_chance 0 = .ok (.aload_n 0, 1) := dk_dX9_chance_0.1
theorem dX9_chance_1 : decode cX9_chance 1 = .ok (.iload_n 1, 1) := dk_dX9_chance_0.2.1
theorem dX9_chance_2 : decode cX9_chance 2 = .ok (.invokevirtual 287, 3) := dk_dX9_chance_0.2.2.1
theorem dX9_chance_5 : decode cX9_chance 5 = .ok (.ifCond .ne 9, 3) := dk_dX9_chance_0.2.2.2.1
theorem dX9_chance_8 : decode cX9_chance 8 = .ok (.aload_n 0, 1) := dk_dX9_chance_0.2.2.2.2.1
theorem dX9_chance_9 : decode cX9_chance 9 = .ok (.iconst 3, 1) := dk_dX9_chance_0.2.2.2.2.2.1
theorem dX9_chance_10 : decode cX9_chance 10 = .ok (.invokevirtual 102, 3) := dk_dX9_chance_0.2.2.2.2.2.2.1
theorem dX9_chance_13 : decode cX9_chance 13 = .ok (.ireturn, 1) := dk_dX9_chance_0.2.2.2.2.2.2.2.1
theorem dk_dX9_chance_0_8 : dz_C cX9_chance [(14, .aload_n 0, 1), (15, .invokevirtual 281, 3), (18, .iconst 0, 1), (19, .istore_n 2, 1), (20, .iconst 0, 1), (21, .istore_n 3, 1), (22, .iload_n 3, 1), (23, .iload_n 1, 1)] := dk_dX9_chance_0.2.2.2.2.2.2.2.2
theorem dX9_chance_14 : decode cX9_chance 14 = .ok (.aload_n 0, 1) := dk_dX9_chance_0_8.1
theorem dX9_chance_15 : decode cX9_chance 15 = .ok (.invokevirtual 281, 3) := dk_dX9_chance_0_8.2.1
theorem dX9_chance_18 : decode cX9_chance 18 = .ok (.iconst 0, 1) := dk_dX9_chance_0_8.2.2.1
theorem dX9_chance_19 : decode cX9_chance 19 = .ok (.istore_n 2, 1) := dk_dX9_chance_0_8.2.2.2.1
theorem dX9_chance_20 : decode cX9_chance 20 = .ok (.iconst 0, 1) := dk_dX9_chance_0_8.2.2.2.2.1
theorem dX9_chance_21 : decode cX9_chance 21 = .ok (.istore_n 3, 1) := dk_dX9_chance_0_8.2.2.2.2.2.1
theorem dX9_chance_22 : decode cX9_chance 22 = .ok (.iload_n 3, 1) := dk_dX9_chance_0_8.2.2.2.2.2.2.1
theorem dX9_chance_23 : decode cX9_chance 23 = .ok (.iload_n 1, 1) := dk_dX9_chance_0_8.2.2.2.2.2.2.2.1
theorem dk_dX9_chance_24 : dz_C cX9_chance [(24, .if_icmp .ge 61, 3), (27, .aload_n 0, 1), (28, .invokevirtual 293, 3), (31, .istore 4, 2), (33, .iload_n 2, 1), (34, .iload 4, 2), (36, .invokestatic 296, 3), (39, .iadd, 1), (40, .istore_n 2, 1), (41, .aload_n 0, 1), (42, .getfield 62, 3), (45, .aload_n 0, 1), (46, .getfield 30, 3), (49, .aload_n 0, 1), (50, .getfield 30, 3), (53, .getfield 157, 3)] := dz_of (by decide +kernel)
theorem dX9_chance_24 : decode cX9_chance 24 = .ok (.if_icmp .ge 61, 3) := dk_dX9_chance_24.1
theorem dX9_chance_27 : decode cX9_chance 27 = .ok (.aload_n 0, 1) := dk_dX9_chance_24.2.1
theorem dX9_chance_28 : decode cX9_chance 28 = .ok (.invokevirtual 293, 3) := dk_dX9_chance_24.2.2.1
theorem dX9_chance_31 : decode cX9_chance 31 = .ok (.istore 4, 2) := dk_dX9_chance_24.2.2.2.1
theorem dX9_chance_33 : decode cX9_chance 33 = .ok (.iload_n 2, 1) := dk_dX9_chance_24.2.2.2.2.1
theorem dX9_chance_34 : decode cX9_chance 34 = .ok (.iload 4, 2) := dk_dX9_chance_24.2.2.2.2.2.1
theorem dX9_chance_36 : decode cX9_chance 36 = .ok (.invokestatic 296, 3) := dk_dX9_chance_24.2.2.2.2.2.2.1
theorem dX9_chance_39 : decode cX9_chance 39 = .ok (.iadd, 1) := dk_dX9_chance_24.2.2.2.2.2.2.2.1
theorem dk_dX9_chance_24_8 : dz_C cX9_chance [(40, .istore_n 2, 1), (41, .aload_n 0, 1), (42, .getfield 62, 3), (45, .aload_n 0, 1), (46, .getfield 30, 3), (49, .aload_n 0, 1), (50, .getfield 30, 3), (53, .getfield 157, 3)] := dk_dX9_chance_24.2.2.2.2.2.2.2.2
theorem dX9_chance_40 : decode cX9_chance 40 = .ok (.istore_n 2, 1) := dk_dX9_chance_24_8.1
theorem dX9_chance_41 : decode cX9_chance 41 = .ok (.aload_n 0, 1) := dk_dX9_chance_24_8.2.1
theorem dX9_chance_42 : decode cX9_chance 42 = .ok (.getfield 62, 3) := dk_dX9_chance_24_8.2.2.1
theorem dX9_chance_45 : decode cX9_chance 45 = .ok (.aload_n 0, 1) := dk_dX9_chance_24_8.2.2.2.1
theorem dX9_chance_46 : decode cX9_chance 46 = .ok (.getfield 30, 3) := dk_dX9_chance_24_8.2.2.2.2.1
theorem dX9_chance_49 : decode cX9_chance 49 = .ok (.aload_n 0, 1) := dk_dX9_chance_24_8.2.2.2.2.2.1
theorem dX9_chance_50 : decode cX9_chance 50 = .ok (.getfield 30, 3) := dk_dX9_chance_24_8.2.2.2.2.2.2.1
theorem dX9_chance_53 : decode cX9_chance 53 = .ok (.getfield 157, 3) := dk_dX9_chance_24_8.2.2.2.2.2.2.2.1
theorem dk_dX9_chance_56 : dz_C cX9_chance [(56, .aload_n 0, 1), (57, .getfield 30, 3), (60, .getfield 160, 3), (63, .iload 4, 2), (65, .invokevirtual 301, 3), (68, .aload_n 0, 1), (69, .getfield 62, 3), (72, .aload_n 0, 1), (73, .getfield 30, 3), (76, .invokevirtual 290, 3), (79, .iinc 3 1, 3), (82, .goto (-60), 3), (85, .iload_n 2, 1), (86, .ireturn, 1)] := dz_of (by decide +kernel)
theorem dX9_chance_56 : decode cX9_chance 56 = .ok (.aload_n 0, 1) := dk_dX9_chance_56.1
theorem dX9_chance_57 : decode cX9_chance 57 = .ok (.getfield 30, 3) := dk_dX9_chance_56.2.1
theorem dX9_chance_60 : decode cX9_chance 60 = .ok (.getfield 160, 3) := dk_dX9_chance_56.2.2.1
theorem dX9_chance_63 : decode cX9_chance 63 = .ok (.iload 4, 2) := dk_dX9_chance_56.2.2.2.1
theorem dX9_chance_65 : decode cX9_chance 65 = .ok (.invokevirtual 301, 3) := dk_dX9_chance_56.2.2.2.2.1
theorem dX9_chance_68 : decode cX9_chance 68 = .ok (.aload_n 0, 1) := dk_dX9_chance_56.2.2.2.2.2.1
theorem dX9_chance_69 : decode cX9_chance 69 = .ok (.getfield 62, 3) := dk_dX9_chance_56.2.2.2.2.2.2.1
theorem dX9_chance_72 : decode cX9_chance 72 = .ok (.aload_n 0, 1) := dk_dX9_chance_56.2.2.2.2.2.2.2.1
theorem dk_dX9_chance_56_8 : dz_C cX9_chance [(73, .getfield 30, 3), (76, .invokevirtual 290, 3), (79, .iinc 3 1, 3), (82, .goto (-60), 3), (85, .iload_n 2, 1), (86, .ireturn, 1)] := dk_dX9_chance_56.2.2.2.2.2.2.2.2
theorem dX9_chance_73 : decode cX9_chance 73 = .ok (.getfield 30, 3) := dk_dX9_chance_56_8.1
theorem dX9_chance_76 : decode cX9_chance 76 = .ok (.invokevirtual 290, 3) := dk_dX9_chance_56_8.2.1
theorem dX9_chance_79 : decode cX9_chance 79 = .ok (.iinc 3 1, 3) := dk_dX9_chance_56_8.2.2.1
theorem dX9_chance_82 : decode cX9_chance 82 = .ok (.goto (-60), 3) := dk_dX9_chance_56_8.2.2.2.1
theorem dX9_chance_85 : decode cX9_chance 85 = .ok (.iload_n 2, 1) := dk_dX9_chance_56_8.2.2.2.2.1
theorem dX9_chance_86 : decode cX9_chance 86 = .ok (.ireturn, 1) := dk_dX9_chance_56_8.2.2.2.2.2.1
theorem dk_dX9_changed_0 : dz_C cX9_changed [(0, .aload_n 0, 1), (1, .getfield 71, 3), (4, .invokevirtual 333, 3), (7, .aload_n 0, 1), (8, .getfield 78, 3), (11, .invokevirtual 336, 3), (14, .aload_n 0, 1), (15, .getfield 85, 3), (18, .invokevirtual 337, 3), (21, .return_, 1)] := dz_of (by decide +kernel)
theorem dX9_changed_0 : decode cX9_changed 0 = .ok (.aload_n 0, 1) := dk_dX9_changed_0.1
theorem dX9_changed_1 : decode cX9_changed 1 = .ok (.getfield 71, 3) := dk_dX9_changed_0.2.1
theorem dX9_changed_4 : decode cX9_changed 4 = .ok (.invokevirtual 333, 3) := dk_dX9_changed_0.2.2.1
theorem dX9_changed_7 : decode cX9_changed 7 = .ok (.aload_n 0, 1) := dk_dX9_changed_0.2.2.2.1
theorem dX9_changed_8 : decode cX9_changed 8 = .ok (.getfield 78, 3) := dk_dX9_changed_0.2.2.2.2.1
theorem dX9_changed_11 : decode cX9_changed 11 = .ok (.invokevirtual 336, 3) := dk_dX9_changed_0.2.2.2.2.2.1
theorem dX9_changed_14 : decode cX9_changed 14 = .ok (.aload_n 0, 1) := dk_dX9_changed_0.2.2.2.2.2.2.1
theorem dX9_changed_15 : decode cX9_changed 15 = .ok (.getfield 85, 3) := dk_dX9_changed_0.2.2.2.2.2.2.2.1
theorem dk_dX9_changed_0_8 : dz_C cX9_changed [(18, .invokevirtual 337, 3), (21, .return_, 1)] := dk_dX9_changed_0.2.2.2.2.2.2.2.2
theorem dX9_changed_18 : decode cX9_changed 18 = .ok (.invokevirtual 337, 3) := dk_dX9_changed_0_8.1
theorem dX9_changed_21 : decode cX9_changed 21 = .ok (.return_, 1) := dk_dX9_changed_0_8.2.1
theorem dk_dX9_check_0 : dz_C cX9_check [(0, .bipush 101, 2), (2, .istore_n 2, 1), (3, .iconst 0, 1), (4, .istore_n 3, 1), (5, .iload_n 3, 1), (6, .iload_n 1, 1), (7, .if_icmp .ge 21, 3), (10, .iconst 3, 1), (11, .iload_n 2, 1), (12, .imul, 1), (13, .aload_n 0, 1), (14, .iload_n 3, 1), (15, .iaload, 1), (16, .iadd, 1), (17, .sipush 251, 3), (20, .irem, 1)] := dz_of (by decide +kernel)
theorem dX9_check_0 : decode cX9_check 0 = .ok (.bipush 101, 2) := dk_dX9_check_0.1
theorem dX9_check_2 : decode cX9_check 2 = .ok (.istore_n 2, 1) := dk_dX9_check_0.2.1
theorem dX9_check_3 : decode cX9_check 3 = .ok (.iconst 0, 1) := dk_dX9_check_0.2.2.1
theorem dX9_check_4 : decode cX9_check 4 = .ok (.istore_n 3, 1) := dk_dX9_check_0.2.2.2.1
theorem dX9_check_5 : decode cX9_check 5 = .ok (.iload_n 3, 1) := dk_dX9_check_0.2.2.2.2.1
theorem dX9_check_6 : decode cX9_check 6 = .ok (.iload_n 1, 1) := dk_dX9_check_0.2.2.2.2.2.1
theorem dX9_check_7 : decode cX9_check 7 = .ok (.if_icmp .ge 21, 3) := dk_dX9_check_0.2.2.2.2.2.2.1
theorem dX9_check_10 : decode cX9_check 10 = .ok (.iconst 3, 1) := dk_dX9_check_0.2.2.2.2.2.2.2.1
theorem dk_dX9_check_0_8 : dz_C cX9_check [(11, .iload_n 2, 1), (12, .imul, 1), (13, .aload_n 0, 1), (14, .iload_n 3, 1), (15, .iaload, 1), (16, .iadd, 1), (17, .sipush 251, 3), (20, .irem, 1)] := dk_dX9_check_0.2.2.2.2.2.2.2.2
theorem dX9_check_11 : decode cX9_check 11 = .ok (.iload_n 2, 1) := dk_dX9_check_0_8.1
theorem dX9_check_12 : decode cX9_check 12 = .ok (.imul, 1) := dk_dX9_check_0_8.2.1
theorem dX9_check_13 : decode cX9_check 13 = .ok (.aload_n 0, 1) := dk_dX9_check_0_8.2.2.1
theorem dX9_check_14 : decode cX9_check 14 = .ok (.iload_n 3, 1) := dk_dX9_check_0_8.2.2.2.1
theorem dX9_check_15 : decode cX9_check 15 = .ok (.iaload, 1) := dk_dX9_check_0_8.2.2.2.2.1
theorem dX9_check_16 : decode cX9_check 16 = .ok (.iadd, 1) := dk_dX9_check_0_8.2.2.2.2.2.1
theorem dX9_check_17 : decode cX9_check 17 = .ok (.sipush 251, 3) := dk_dX9_check_0_8.2.2.2.2.2.2.1
theorem dX9_check_20 : decode cX9_check 20 = .ok (.irem, 1) := dk_dX9_check_0_8.2.2.2.2.2.2.2.1
theorem dk_dX9_check_21 : dz_C cX9_check [(21, .istore_n 2, 1), (22, .iinc 3 1, 3), (25, .goto (-20), 3), (28, .iload_n 2, 1), (29, .ireturn, 1)] := dz_of (by decide +kernel)
theorem dX9_check_21 : decode cX9_check 21 = .ok (.istore_n 2, 1) := dk_dX9_check_21.1
theorem dX9_check_22 : decode cX9_check 22 = .ok (.iinc 3 1, 3) := dk_dX9_check_21.2.1
theorem dX9_check_25 : decode cX9_check 25 = .ok (.goto (-20), 3) := dk_dX9_check_21.2.2.1
theorem dX9_check_28 : decode cX9_check 28 = .ok (.iload_n 2, 1) := dk_dX9_check_21.2.2.2.1
theorem dX9_check_29 : decode cX9_check 29 = .ok (.ireturn, 1) := dk_dX9_check_21.2.2.2.2.1
theorem dk_dX9_crossing_0 : dz_C cX9_crossing [(0, .aload_n 0, 1), (1, .getfield 24, 3), (4, .astore_n 1, 1), (5, .aload_n 0, 1), (6, .getfield 53, 3), (9, .aload_n 1, 1), (10, .aload_n 0, 1), (11, .invokevirtual 114, 3), (14, .invokevirtual 118, 3), (17, .aload_n 0, 1), (18, .getfield 53, 3), (21, .getfield 122, 3), (24, .ifCond .eq 9, 3), (27, .aload_n 0, 1), (28, .iconst 1, 1), (29, .invokevirtual 102, 3)] := dz_of (by decide +kernel)
theorem dX9_crossing_0 : decode cX9_crossing 0 = .ok (.aload_n 0, 1) := dk_dX9_crossing_0.1
theorem dX9_crossing_1 : decode cX9_crossing 1 = .ok (.getfield 24, 3) := dk_dX9_crossing_0.2.1
theorem dX9_crossing_4 : decode cX9_crossing 4 = .ok (.astore_n 1, 1) := dk_dX9_crossing_0.2.2.1
theorem dX9_crossing_5 : decode cX9_crossing 5 = .ok (.aload_n 0, 1) := dk_dX9_crossing_0.2.2.2.1
theorem dX9_crossing_6 : decode cX9_crossing 6 = .ok (.getfield 53, 3) := dk_dX9_crossing_0.2.2.2.2.1
theorem dX9_crossing_9 : decode cX9_crossing 9 = .ok (.aload_n 1, 1) := dk_dX9_crossing_0.2.2.2.2.2.1
theorem dX9_crossing_10 : decode cX9_crossing 10 = .ok (.aload_n 0, 1) := dk_dX9_crossing_0.2.2.2.2.2.2.1
theorem dX9_crossing_11 : decode cX9_crossing 11 = .ok (.invokevirtual 114, 3) := dk_dX9_crossing_0.2.2.2.2.2.2.2.1
theorem dk_dX9_crossing_0_8 : dz_C cX9_crossing [(14, .invokevirtual 118, 3), (17, .aload_n 0, 1), (18, .getfield 53, 3), (21, .getfield 122, 3), (24, .ifCond .eq 9, 3), (27, .aload_n 0, 1), (28, .iconst 1, 1), (29, .invokevirtual 102, 3)] := dk_dX9_crossing_0.2.2.2.2.2.2.2.2
theorem dX9_crossing_14 : decode cX9_crossing 14 = .ok (.invokevirtual 118, 3) := dk_dX9_crossing_0_8.1
theorem dX9_crossing_17 : decode cX9_crossing 17 = .ok (.aload_n 0, 1) := dk_dX9_crossing_0_8.2.1
theorem dX9_crossing_18 : decode cX9_crossing 18 = .ok (.getfield 53, 3) := dk_dX9_crossing_0_8.2.2.1
theorem dX9_crossing_21 : decode cX9_crossing 21 = .ok (.getfield 122, 3) := dk_dX9_crossing_0_8.2.2.2.1
theorem dX9_crossing_24 : decode cX9_crossing 24 = .ok (.ifCond .eq 9, 3) := dk_dX9_crossing_0_8.2.2.2.2.1
theorem dX9_crossing_27 : decode cX9_crossing 27 = .ok (.aload_n 0, 1) := dk_dX9_crossing_0_8.2.2.2.2.2.1
theorem dX9_crossing_28 : decode cX9_crossing 28 = .ok (.iconst 1, 1) := dk_dX9_crossing_0_8.2.2.2.2.2.2.1
theorem dX9_crossing_29 : decode cX9_crossing 29 = .ok (.invokevirtual 102, 3) := dk_dX9_crossing_0_8.2.2.2.2.2.2.2.1
theorem dk_dX9_crossing_32 : dz_C cX9_crossing [(32, .ireturn, 1), (33, .aload_n 0, 1), (34, .aload_n 0, 1), (35, .getfield 20, 3), (38, .putfield 24, 3), (41, .aload_n 0, 1), (42, .aload_n 1, 1), (43, .putfield 20, 3), (46, .aload_n 0, 1), (47, .getfield 30, 3), (50, .aload_n 0, 1), (51, .getfield 20, 3), (54, .invokevirtual 125, 3), (57, .aload_n 0, 1), (58, .getfield 37, 3), (61, .invokevirtual 129, 3)] := dz_of (by decide +kernel)
theorem dX9_crossing_32 : decode cX9_crossing 32 = .ok (.ireturn, 1) := dk_dX9_crossing_32.1
theorem dX9_crossing_33 : decode cX9_crossing 33 = .ok (.aload_n 0, 1) := dk_dX9_crossing_32.2.1
theorem dX9_crossing_34 : decode cX9_crossing 34 = .ok (.aload_n 0, 1) := dk_dX9_crossing_32.2.2.1
theorem dX9_crossing_35 : decode cX9_crossing 35 = .ok (.getfield 20, 3) := dk_dX9_crossing_32.2.2.2.1
theorem dX9_crossing_38 : decode cX9_crossing 38 = .ok (.putfield 24, 3) := dk_dX9_crossing_32.2.2.2.2.1
theorem dX9_crossing_41 : decode cX9_crossing 41 = .ok (.aload_n 0, 1) := dk_dX9_crossing_32.2.2.2.2.2.1
theorem dX9_crossing_42 : decode cX9_crossing 42 = .ok (.aload_n 1, 1) := dk_dX9_crossing_32.2.2.2.2.2.2.1
theorem dX9_crossing_43 : decode cX9_crossing 43 = .ok (.putfield 20, 3) := dk_dX9_crossing_32.2.2.2.2.2.2.2.1
theorem dk_dX9_crossing_32_8 : dz_C cX9_crossing [(46, .aload_n 0, 1), (47, .getfield 30, 3), (50, .aload_n 0, 1), (51, .getfield 20, 3), (54, .invokevirtual 125, 3), (57, .aload_n 0, 1), (58, .getfield 37, 3), (61, .invokevirtual 129, 3)] := dk_dX9_crossing_32.2.2.2.2.2.2.2.2
theorem dX9_crossing_46 : decode cX9_crossing 46 = .ok (.aload_n 0, 1) := dk_dX9_crossing_32_8.1
theorem dX9_crossing_47 : decode cX9_crossing 47 = .ok (.getfield 30, 3) := dk_dX9_crossing_32_8.2.1
theorem dX9_crossing_50 : decode cX9_crossing 50 = .ok (.aload_n 0, 1) := dk_dX9_crossing_32_8.2.2.1
theorem dX9_crossing_51 : decode cX9_crossing 51 = .ok (.getfield 20, 3) := dk_dX9_crossing_32_8.2.2.2.1
theorem dX9_crossing_54 : decode cX9_crossing 54 = .ok (.invokevirtual 125, 3) := dk_dX9_crossing_32_8.2.2.2.2.1
theorem dX9_crossing_57 : decode cX9_crossing 57 = .ok (.aload_n 0, 1) := dk_dX9_crossing_32_8.2.2.2.2.2.1
theorem dX9_crossing_58 : decode cX9_crossing 58 = .ok (.getfield 37, 3) := dk_dX9_crossing_32_8.2.2.2.2.2.2.1
theorem dX9_crossing_61 : decode cX9_crossing 61 = .ok (.invokevirtual 129, 3) := dk_dX9_crossing_32_8.2.2.2.2.2.2.2.1
theorem dk_dX9_crossing_64 : dz_C cX9_crossing [(64, .aload_n 0, 1), (65, .getfield 85, 3), (68, .invokevirtual 132, 3), (71, .aload_n 0, 1), (72, .getfield 62, 3), (75, .aload_n 0, 1), (76, .getfield 20, 3), (79, .invokevirtual 133, 3), (82, .aload_n 0, 1), (83, .invokevirtual 136, 3), (86, .aload_n 0, 1), (87, .getfield 20, 3), (90, .getfield 139, 3), (93, .ireturn, 1)] := dz_of (by decide +kernel)
theorem dX9_crossing_64 : decode cX9_crossing 64 = .ok (.aload_n 0, 1) := dk_dX9_crossing_64.1
theorem dX9_crossing_65 : decode cX9_crossing 65 = .ok (.getfield 85, 3) := dk_dX9_crossing_64.2.1
theorem dX9_crossing_68 : decode cX9_crossing 68 = .ok (.invokevirtual 132, 3) := dk_dX9_crossing_64.2.2.1
theorem dX9_crossing_71 : decode cX9_crossing 71 = .ok (.aload_n 0, 1) := dk_dX9_crossing_64.2.2.2.1
theorem dX9_crossing_72 : decode cX9_crossing 72 = .ok (.getfield 62, 3) := dk_dX9_crossing_64.2.2.2.2.1
theorem dX9_crossing_75 : decode cX9_crossing 75 = .ok (.aload_n 0, 1) := dk_dX9_crossing_64.2.2.2.2.2.1
theorem dX9_crossing_76 : decode cX9_crossing 76 = .ok (.getfield 20, 3) := dk_dX9_crossing_64.2.2.2.2.2.2.1
theorem dX9_crossing_79 : decode cX9_crossing 79 = .ok (.invokevirtual 133, 3) := dk_dX9_crossing_64.2.2.2.2.2.2.2.1
theorem dk_dX9_crossing_64_8 : dz_C cX9_crossing [(82, .aload_n 0, 1), (83, .invokevirtual 136, 3), (86, .aload_n 0, 1), (87, .getfield 20, 3), (90, .getfield 139, 3), (93, .ireturn, 1)] := dk_dX9_crossing_64.2.2.2.2.2.2.2.2
theorem dX9_crossing_82 : decode cX9_crossing 82 = .ok (.aload_n 0, 1) := dk_dX9_crossing_64_8.1
theorem dX9_crossing_83 : decode cX9_crossing 83 = .ok (.invokevirtual 136, 3) := dk_dX9_crossing_64_8.2.1
theorem dX9_crossing_86 : decode cX9_crossing 86 = .ok (.aload_n 0, 1) := dk_dX9_crossing_64_8.2.2.1
theorem dX9_crossing_87 : decode cX9_crossing 87 = .ok (.getfield 20, 3) := dk_dX9_crossing_64_8.2.2.2.1
theorem dX9_crossing_90 : decode cX9_crossing 90 = .ok (.getfield 139, 3) := dk_dX9_crossing_64_8.2.2.2.2.1
theorem dX9_crossing_93 : decode cX9_crossing 93 = .ok (.ireturn, 1) := dk_dX9_crossing_64_8.2.2.2.2.2.1
theorem dk_dX9_day_0 : dz_C cX9_day [(0, .aload_n 0, 1), (1, .invokevirtual 218, 3), (4, .ifCond .ne 5, 3), (7, .iconst (-1), 1), (8, .ireturn, 1), (9, .aload_n 0, 1), (10, .invokevirtual 190, 3), (13, .aload_n 0, 1), (14, .getfield 62, 3), (17, .iload_n 1, 1), (18, .invokevirtual 228, 3), (21, .ireturn, 1)] := dz_of (by decide +kernel)
theorem dX9_day_0 : decode cX9_day 0 = .ok (.aload_n 0, 1) := dk_dX9_day_0.1
theorem dX9_day_1 : decode cX9_day 1 = .ok (.invokevirtual 218, 3) := dk_dX9_day_0.2.1
theorem dX9_day_4 : decode cX9_day 4 = .ok (.ifCond .ne 5, 3) := dk_dX9_day_0.2.2.1
theorem dX9_day_7 : decode cX9_day 7 = .ok (.iconst (-1), 1) := dk_dX9_day_0.2.2.2.1
theorem dX9_day_8 : decode cX9_day 8 = .ok (.ireturn, 1) := dk_dX9_day_0.2.2.2.2.1
theorem dX9_day_9 : decode cX9_day 9 = .ok (.aload_n 0, 1) := dk_dX9_day_0.2.2.2.2.2.1
theorem dX9_day_10 : decode cX9_day 10 = .ok (.invokevirtual 190, 3) := dk_dX9_day_0.2.2.2.2.2.2.1
theorem dX9_day_13 : decode cX9_day 13 = .ok (.aload_n 0, 1) := dk_dX9_day_0.2.2.2.2.2.2.2.1
theorem dk_dX9_day_0_8 : dz_C cX9_day [(14, .getfield 62, 3), (17, .iload_n 1, 1), (18, .invokevirtual 228, 3), (21, .ireturn, 1)] := dk_dX9_day_0.2.2.2.2.2.2.2.2
theorem dX9_day_14 : decode cX9_day 14 = .ok (.getfield 62, 3) := dk_dX9_day_0_8.1
theorem dX9_day_17 : decode cX9_day 17 = .ok (.iload_n 1, 1) := dk_dX9_day_0_8.2.1
theorem dX9_day_18 : decode cX9_day 18 = .ok (.invokevirtual 228, 3) := dk_dX9_day_0_8.2.2.1
theorem dX9_day_21 : decode cX9_day 21 = .ok (.ireturn, 1) := dk_dX9_day_0_8.2.2.2.1
theorem dk_dX9_days_0 : dz_C cX9_days [(0, .aload_n 0, 1), (1, .iload_n 1, 1), (2, .invokevirtual 287, 3), (5, .ifCond .ne 9, 3), (8, .aload_n 0, 1), (9, .iconst 3, 1), (10, .invokevirtual 102, 3), (13, .ireturn, 1), (14, .aload_n 0, 1), (15, .invokevirtual 281, 3), (18, .iconst 0, 1), (19, .istore_n 2, 1), (20, .iconst 0, 1), (21, .istore_n 3, 1), (22, .iload_n 3, 1), (23, .iload_n 1, 1)] := dz_of (by decide +kernel)
theorem dX9_days_0 : decode cX9_days 0 = .ok (.aload_n 0, 1) := dk_dX9_days_0.1
theorem dX9_days_1 : decode cX9_days 1 = .ok (.iload_n 1, 1) := dk_dX9_days_0.2.1
theorem dX9_days_2 : decode cX9_days 2 = .ok (.invokevirtual 287, 3) := dk_dX9_days_0.2.2.1
theorem dX9_days_5 : decode cX9_days 5 = .ok (.ifCond .ne 9, 3) := dk_dX9_days_0.2.2.2.1
theorem dX9_days_8 : decode cX9_days 8 = .ok (.aload_n 0, 1) := dk_dX9_days_0.2.2.2.2.1
theorem dX9_days_9 : decode cX9_days 9 = .ok (.iconst 3, 1) := dk_dX9_days_0.2.2.2.2.2.1
theorem dX9_days_10 : decode cX9_days 10 = .ok (.invokevirtual 102, 3) := dk_dX9_days_0.2.2.2.2.2.2.1
theorem dX9_days_13 : decode cX9_days 13 = .ok (.ireturn, 1) := dk_dX9_days_0.2.2.2.2.2.2.2.1
theorem dk_dX9_days_0_8 : dz_C cX9_days [(14, .aload_n 0, 1), (15, .invokevirtual 281, 3), (18, .iconst 0, 1), (19, .istore_n 2, 1), (20, .iconst 0, 1), (21, .istore_n 3, 1), (22, .iload_n 3, 1), (23, .iload_n 1, 1)] := dk_dX9_days_0.2.2.2.2.2.2.2.2
theorem dX9_days_14 : decode cX9_days 14 = .ok (.aload_n 0, 1) := dk_dX9_days_0_8.1
theorem dX9_days_15 : decode cX9_days 15 = .ok (.invokevirtual 281, 3) := dk_dX9_days_0_8.2.1
theorem dX9_days_18 : decode cX9_days 18 = .ok (.iconst 0, 1) := dk_dX9_days_0_8.2.2.1
theorem dX9_days_19 : decode cX9_days 19 = .ok (.istore_n 2, 1) := dk_dX9_days_0_8.2.2.2.1
theorem dX9_days_20 : decode cX9_days 20 = .ok (.iconst 0, 1) := dk_dX9_days_0_8.2.2.2.2.1
theorem dX9_days_21 : decode cX9_days 21 = .ok (.istore_n 3, 1) := dk_dX9_days_0_8.2.2.2.2.2.1
theorem dX9_days_22 : decode cX9_days 22 = .ok (.iload_n 3, 1) := dk_dX9_days_0_8.2.2.2.2.2.2.1
theorem dX9_days_23 : decode cX9_days 23 = .ok (.iload_n 1, 1) := dk_dX9_days_0_8.2.2.2.2.2.2.2.1
theorem dk_dX9_days_24 : dz_C cX9_days [(24, .if_icmp .ge 35, 3), (27, .aload_n 0, 1), (28, .invokevirtual 190, 3), (31, .iload_n 2, 1), (32, .aload_n 0, 1), (33, .getfield 62, 3), (36, .iconst 0, 1), (37, .invokevirtual 228, 3), (40, .iadd, 1), (41, .istore_n 2, 1), (42, .aload_n 0, 1), (43, .getfield 62, 3), (46, .aload_n 0, 1), (47, .getfield 30, 3), (50, .invokevirtual 290, 3), (53, .iinc 3 1, 3)] := dz_of (by decide +kernel)
theorem dX9_days_24 : decode cX9_days 24 = .ok (.if_icmp .ge 35, 3) := dk_dX9_days_24.1
theorem dX9_days_27 : decode cX9_days 27 = .ok (.aload_n 0, 1) := dk_dX9_days_24.2.1
theorem dX9_days_28 : decode cX9_days 28 = .ok (.invokevirtual 190, 3) := dk_dX9_days_24.2.2.1
theorem dX9_days_31 : decode cX9_days 31 = .ok (.iload_n 2, 1) := dk_dX9_days_24.2.2.2.1
theorem dX9_days_32 : decode cX9_days 32 = .ok (.aload_n 0, 1) := dk_dX9_days_24.2.2.2.2.1
theorem dX9_days_33 : decode cX9_days 33 = .ok (.getfield 62, 3) := dk_dX9_days_24.2.2.2.2.2.1
theorem dX9_days_36 : decode cX9_days 36 = .ok (.iconst 0, 1) := dk_dX9_days_24.2.2.2.2.2.2.1
theorem dX9_days_37 : decode cX9_days 37 = .ok (.invokevirtual 228, 3) := dk_dX9_days_24.2.2.2.2.2.2.2.1
theorem dk_dX9_days_24_8 : dz_C cX9_days [(40, .iadd, 1), (41, .istore_n 2, 1), (42, .aload_n 0, 1), (43, .getfield 62, 3), (46, .aload_n 0, 1), (47, .getfield 30, 3), (50, .invokevirtual 290, 3), (53, .iinc 3 1, 3)] := dk_dX9_days_24.2.2.2.2.2.2.2.2
theorem dX9_days_40 : decode cX9_days 40 = .ok (.iadd, 1) := dk_dX9_days_24_8.1
theorem dX9_days_41 : decode cX9_days 41 = .ok (.istore_n 2, 1) := dk_dX9_days_24_8.2.1
theorem dX9_days_42 : decode cX9_days 42 = .ok (.aload_n 0, 1) := dk_dX9_days_24_8.2.2.1
theorem dX9_days_43 : decode cX9_days 43 = .ok (.getfield 62, 3) := dk_dX9_days_24_8.2.2.2.1
theorem dX9_days_46 : decode cX9_days 46 = .ok (.aload_n 0, 1) := dk_dX9_days_24_8.2.2.2.2.1
theorem dX9_days_47 : decode cX9_days 47 = .ok (.getfield 30, 3) := dk_dX9_days_24_8.2.2.2.2.2.1
theorem dX9_days_50 : decode cX9_days 50 = .ok (.invokevirtual 290, 3) := dk_dX9_days_24_8.2.2.2.2.2.2.1
theorem dX9_days_53 : decode cX9_days 53 = .ok (.iinc 3 1, 3) := dk_dX9_days_24_8.2.2.2.2.2.2.2.1
theorem dk_dX9_days_56 : dz_C cX9_days [(56, .goto (-34), 3), (59, .iload_n 2, 1), (60, .ireturn, 1)] := dz_of (by decide +kernel)
theorem dX9_days_56 : decode cX9_days 56 = .ok (.goto (-34), 3) := dk_dX9_days_56.1
theorem dX9_days_59 : decode cX9_days 59 = .ok (.iload_n 2, 1) := dk_dX9_days_56.2.1
theorem dX9_days_60 : decode cX9_days 60 = .ok (.ireturn, 1) := dk_dX9_days_56.2.2.1
theorem dk_dX9_deny_0 : dz_C cX9_deny [(0, .aload_n 0, 1), (1, .getfield 95, 3), (4, .iload_n 1, 1), (5, .dup2, 1), (6, .iaload, 1), (7, .iconst 1, 1), (8, .iadd, 1), (9, .iastore, 1), (10, .iconst 0, 1), (11, .ireturn, 1)] := dz_of (by decide +kernel)
theorem dX9_deny_0 : decode cX9_deny 0 = .ok (.aload_n 0, 1) := dk_dX9_deny_0.1
theorem dX9_deny_1 : decode cX9_deny 1 = .ok (.getfield 95, 3) := dk_dX9_deny_0.2.1
theorem dX9_deny_4 : decode cX9_deny 4 = .ok (.iload_n 1, 1) := dk_dX9_deny_0.2.2.1
theorem dX9_deny_5 : decode cX9_deny 5 = .ok (.dup2, 1) := dk_dX9_deny_0.2.2.2.1
theorem dX9_deny_6 : decode cX9_deny 6 = .ok (.iaload, 1) := dk_dX9_deny_0.2.2.2.2.1
theorem dX9_deny_7 : decode cX9_deny 7 = .ok (.iconst 1, 1) := dk_dX9_deny_0.2.2.2.2.2.1
theorem dX9_deny_8 : decode cX9_deny 8 = .ok (.iadd, 1) := dk_dX9_deny_0.2.2.2.2.2.2.1
theorem dX9_deny_9 : decode cX9_deny 9 = .ok (.iastore, 1) := dk_dX9_deny_0.2.2.2.2.2.2.2.1
theorem dk_dX9_deny_0_8 : dz_C cX9_deny [(10, .iconst 0, 1), (11, .ireturn, 1)] := dk_dX9_deny_0.2.2.2.2.2.2.2.2
theorem dX9_deny_10 : decode cX9_deny 10 = .ok (.iconst 0, 1) := dk_dX9_deny_0_8.1
theorem dX9_deny_11 : decode cX9_deny 11 = .ok (.ireturn, 1) := dk_dX9_deny_0_8.2.1
theorem dk_dX9_doubts_0 : dz_C cX9_doubts [(0, .aload_n 0, 1), (1, .iload_n 1, 1), (2, .invokevirtual 169, 3), (5, .ifCond .ne 5, 3), (8, .iconst (-1), 1), (9, .ireturn, 1), (10, .aload_n 0, 1), (11, .getfield 30, 3), (14, .getfield 184, 3), (17, .iload_n 1, 1), (18, .iaload, 1), (19, .ifCond .ne 5, 3), (22, .iconst 0, 1), (23, .ireturn, 1), (24, .bipush 30, 2), (26, .sipush 999, 3)] := dz_of (by decide +kernel)
theorem dX9_doubts_0 : decode cX9_doubts 0 = .ok (.aload_n 0, 1) := dk_dX9_doubts_0.1
theorem dX9_doubts_1 : decode cX9_doubts 1 = .ok (.iload_n 1, 1) := dk_dX9_doubts_0.2.1
theorem dX9_doubts_2 : decode cX9_doubts 2 = .ok (.invokevirtual 169, 3) := dk_dX9_doubts_0.2.2.1
theorem dX9_doubts_5 : decode cX9_doubts 5 = .ok (.ifCond .ne 5, 3) := dk_dX9_doubts_0.2.2.2.1
theorem dX9_doubts_8 : decode cX9_doubts 8 = .ok (.iconst (-1), 1) := dk_dX9_doubts_0.2.2.2.2.1
theorem dX9_doubts_9 : decode cX9_doubts 9 = .ok (.ireturn, 1) := dk_dX9_doubts_0.2.2.2.2.2.1
theorem dX9_doubts_10 : decode cX9_doubts 10 = .ok (.aload_n 0, 1) := dk_dX9_doubts_0.2.2.2.2.2.2.1
theorem dX9_doubts_11 : decode cX9_doubts 11 = .ok (.getfield 30, 3) := dk_dX9_doubts_0.2.2.2.2.2.2.2.1
theorem dk_dX9_doubts_0_8 : dz_C cX9_doubts [(14, .getfield 184, 3), (17, .iload_n 1, 1), (18, .iaload, 1), (19, .ifCond .ne 5, 3), (22, .iconst 0, 1), (23, .ireturn, 1), (24, .bipush 30, 2), (26, .sipush 999, 3)] := dk_dX9_doubts_0.2.2.2.2.2.2.2.2
theorem dX9_doubts_14 : decode cX9_doubts 14 = .ok (.getfield 184, 3) := dk_dX9_doubts_0_8.1
theorem dX9_doubts_17 : decode cX9_doubts 17 = .ok (.iload_n 1, 1) := dk_dX9_doubts_0_8.2.1
theorem dX9_doubts_18 : decode cX9_doubts 18 = .ok (.iaload, 1) := dk_dX9_doubts_0_8.2.2.1
theorem dX9_doubts_19 : decode cX9_doubts 19 = .ok (.ifCond .ne 5, 3) := dk_dX9_doubts_0_8.2.2.2.1
theorem dX9_doubts_22 : decode cX9_doubts 22 = .ok (.iconst 0, 1) := dk_dX9_doubts_0_8.2.2.2.2.1
theorem dX9_doubts_23 : decode cX9_doubts 23 = .ok (.ireturn, 1) := dk_dX9_doubts_0_8.2.2.2.2.2.1
theorem dX9_doubts_24 : decode cX9_doubts 24 = .ok (.bipush 30, 2) := dk_dX9_doubts_0_8.2.2.2.2.2.2.1
theorem dX9_doubts_26 : decode cX9_doubts 26 = .ok (.sipush 999, 3) := dk_dX9_doubts_0_8.2.2.2.2.2.2.2.1
theorem dk_dX9_doubts_29 : dz_C cX9_doubts [(29, .aload_n 0, 1), (30, .getfield 30, 3), (33, .getfield 154, 3), (36, .isub, 1), (37, .iconst 1, 1), (38, .iadd, 1), (39, .invokestatic 248, 3), (42, .istore_n 2, 1), (43, .iconst 1, 1), (44, .istore_n 3, 1), (45, .iload_n 3, 1), (46, .iload_n 2, 1), (47, .if_icmp .gt 42, 3), (50, .aload_n 0, 1), (51, .getfield 78, 3), (54, .aload_n 0, 1)] := dz_of (by decide +kernel)
theorem dX9_doubts_29 : decode cX9_doubts 29 = .ok (.aload_n 0, 1) := dk_dX9_doubts_29.1
theorem dX9_doubts_30 : decode cX9_doubts 30 = .ok (.getfield 30, 3) := dk_dX9_doubts_29.2.1
theorem dX9_doubts_33 : decode cX9_doubts 33 = .ok (.getfield 154, 3) := dk_dX9_doubts_29.2.2.1
theorem dX9_doubts_36 : decode cX9_doubts 36 = .ok (.isub, 1) := dk_dX9_doubts_29.2.2.2.1
theorem dX9_doubts_37 : decode cX9_doubts 37 = .ok (.iconst 1, 1) := dk_dX9_doubts_29.2.2.2.2.1
theorem dX9_doubts_38 : decode cX9_doubts 38 = .ok (.iadd, 1) := dk_dX9_doubts_29.2.2.2.2.2.1
theorem dX9_doubts_39 : decode cX9_doubts 39 = .ok (.invokestatic 248, 3) := dk_dX9_doubts_29.2.2.2.2.2.2.1
theorem dX9_doubts_42 : decode cX9_doubts 42 = .ok (.istore_n 2, 1) := dk_dX9_doubts_29.2.2.2.2.2.2.2.1
theorem dk_dX9_doubts_29_8 : dz_C cX9_doubts [(43, .iconst 1, 1), (44, .istore_n 3, 1), (45, .iload_n 3, 1), (46, .iload_n 2, 1), (47, .if_icmp .gt 42, 3), (50, .aload_n 0, 1), (51, .getfield 78, 3), (54, .aload_n 0, 1)] := dk_dX9_doubts_29.2.2.2.2.2.2.2.2
theorem dX9_doubts_43 : decode cX9_doubts 43 = .ok (.iconst 1, 1) := dk_dX9_doubts_29_8.1
theorem dX9_doubts_44 : decode cX9_doubts 44 = .ok (.istore_n 3, 1) := dk_dX9_doubts_29_8.2.1
theorem dX9_doubts_45 : decode cX9_doubts 45 = .ok (.iload_n 3, 1) := dk_dX9_doubts_29_8.2.2.1
theorem dX9_doubts_46 : decode cX9_doubts 46 = .ok (.iload_n 2, 1) := dk_dX9_doubts_29_8.2.2.2.1
theorem dX9_doubts_47 : decode cX9_doubts 47 = .ok (.if_icmp .gt 42, 3) := dk_dX9_doubts_29_8.2.2.2.2.1
theorem dX9_doubts_50 : decode cX9_doubts 50 = .ok (.aload_n 0, 1) := dk_dX9_doubts_29_8.2.2.2.2.2.1
theorem dX9_doubts_51 : decode cX9_doubts 51 = .ok (.getfield 78, 3) := dk_dX9_doubts_29_8.2.2.2.2.2.2.1
theorem dX9_doubts_54 : decode cX9_doubts 54 = .ok (.aload_n 0, 1) := dk_dX9_doubts_29_8.2.2.2.2.2.2.2.1
theorem dk_dX9_doubts_55 : dz_C cX9_doubts [(55, .getfield 30, 3), (58, .iload_n 3, 1), (59, .invokevirtual 242, 3), (62, .aload_n 0, 1), (63, .getfield 78, 3), (66, .getfield 253, 3), (69, .iload_n 3, 1), (70, .iconst 1, 1), (71, .isub, 1), (72, .bipush 6, 2), (74, .imul, 1), (75, .iload_n 1, 1), (76, .iadd, 1), (77, .iaload, 1), (78, .ifCond .ne 5, 3), (81, .iload_n 3, 1)] := dz_of (by decide +kernel)
theorem dX9_doubts_55 : decode cX9_doubts 55 = .ok (.getfield 30, 3) := dk_dX9_doubts_55.1
theorem dX9_doubts_58 : decode cX9_doubts 58 = .ok (.iload_n 3, 1) := dk_dX9_doubts_55.2.1
theorem dX9_doubts_59 : decode cX9_doubts 59 = .ok (.invokevirtual 242, 3) := dk_dX9_doubts_55.2.2.1
theorem dX9_doubts_62 : decode cX9_doubts 62 = .ok (.aload_n 0, 1) := dk_dX9_doubts_55.2.2.2.1
theorem dX9_doubts_63 : decode cX9_doubts 63 = .ok (.getfield 78, 3) := dk_dX9_doubts_55.2.2.2.2.1
theorem dX9_doubts_66 : decode cX9_doubts 66 = .ok (.getfield 253, 3) := dk_dX9_doubts_55.2.2.2.2.2.1
theorem dX9_doubts_69 : decode cX9_doubts 69 = .ok (.iload_n 3, 1) := dk_dX9_doubts_55.2.2.2.2.2.2.1
theorem dX9_doubts_70 : decode cX9_doubts 70 = .ok (.iconst 1, 1) := dk_dX9_doubts_55.2.2.2.2.2.2.2.1
theorem dk_dX9_doubts_55_8 : dz_C cX9_doubts [(71, .isub, 1), (72, .bipush 6, 2), (74, .imul, 1), (75, .iload_n 1, 1), (76, .iadd, 1), (77, .iaload, 1), (78, .ifCond .ne 5, 3), (81, .iload_n 3, 1)] := dk_dX9_doubts_55.2.2.2.2.2.2.2.2
theorem dX9_doubts_71 : decode cX9_doubts 71 = .ok (.isub, 1) := dk_dX9_doubts_55_8.1
theorem dX9_doubts_72 : decode cX9_doubts 72 = .ok (.bipush 6, 2) := dk_dX9_doubts_55_8.2.1
theorem dX9_doubts_74 : decode cX9_doubts 74 = .ok (.imul, 1) := dk_dX9_doubts_55_8.2.2.1
theorem dX9_doubts_75 : decode cX9_doubts 75 = .ok (.iload_n 1, 1) := dk_dX9_doubts_55_8.2.2.2.1
theorem dX9_doubts_76 : decode cX9_doubts 76 = .ok (.iadd, 1) := dk_dX9_doubts_55_8.2.2.2.2.1
theorem dX9_doubts_77 : decode cX9_doubts 77 = .ok (.iaload, 1) := dk_dX9_doubts_55_8.2.2.2.2.2.1
theorem dX9_doubts_78 : decode cX9_doubts 78 = .ok (.ifCond .ne 5, 3) := dk_dX9_doubts_55_8.2.2.2.2.2.2.1
theorem dX9_doubts_81 : decode cX9_doubts 81 = .ok (.iload_n 3, 1) := dk_dX9_doubts_55_8.2.2.2.2.2.2.2.1
theorem dk_dX9_doubts_82 : dz_C cX9_doubts [(82, .ireturn, 1), (83, .iinc 3 1, 3), (86, .goto (-41), 3), (89, .iconst (-1), 1), (90, .ireturn, 1)] := dz_of (by decide +kernel)
theorem dX9_doubts_82 : decode cX9_doubts 82 = .ok (.ireturn, 1) := dk_dX9_doubts_82.1
theorem dX9_doubts_83 : decode cX9_doubts 83 = .ok (.iinc 3 1, 3) := dk_dX9_doubts_82.2.1
theorem dX9_doubts_86 : decode cX9_doubts 86 = .ok (.goto (-41), 3) := dk_dX9_doubts_82.2.2.1
theorem dX9_doubts_89 : decode cX9_doubts 89 = .ok (.iconst (-1), 1) := dk_dX9_doubts_82.2.2.2.1
theorem dX9_doubts_90 : decode cX9_doubts 90 = .ok (.ireturn, 1) := dk_dX9_doubts_82.2.2.2.2.1
theorem dk_dX9_drawAbsent_0 : dz_C cX9_drawAbsent [(0, .iconst 0, 1), (1, .istore_n 1, 1), (2, .iconst 0, 1), (3, .istore_n 2, 1), (4, .iload_n 2, 1), (5, .aload_n 0, 1), (6, .getfield 20, 3), (9, .getfield 151, 3), (12, .if_icmp .ge 59, 3), (15, .aload_n 0, 1), (16, .ldc2_w 338, 3), (19, .aload_n 0, 1), (20, .getfield 98, 3), (23, .lmul, 1), (24, .ldc2_w 340, 3), (27, .ladd, 1)] := dz_of (by decide +kernel)
theorem dX9_drawAbsent_0 : decode cX9_drawAbsent 0 = .ok (.iconst 0, 1) := dk_dX9_drawAbsent_0.1
theorem dX9_drawAbsent_1 : decode cX9_drawAbsent 1 = .ok (.istore_n 1, 1) := dk_dX9_drawAbsent_0.2.1
theorem dX9_drawAbsent_2 : decode cX9_drawAbsent 2 = .ok (.iconst 0, 1) := dk_dX9_drawAbsent_0.2.2.1
theorem dX9_drawAbsent_3 : decode cX9_drawAbsent 3 = .ok (.istore_n 2, 1) := dk_dX9_drawAbsent_0.2.2.2.1
theorem dX9_drawAbsent_4 : decode cX9_drawAbsent 4 = .ok (.iload_n 2, 1) := dk_dX9_drawAbsent_0.2.2.2.2.1
theorem dX9_drawAbsent_5 : decode cX9_drawAbsent 5 = .ok (.aload_n 0, 1) := dk_dX9_drawAbsent_0.2.2.2.2.2.1
theorem dX9_drawAbsent_6 : decode cX9_drawAbsent 6 = .ok (.getfield 20, 3) := dk_dX9_drawAbsent_0.2.2.2.2.2.2.1
theorem dX9_drawAbsent_9 : decode cX9_drawAbsent 9 = .ok (.getfield 151, 3) := dk_dX9_drawAbsent_0.2.2.2.2.2.2.2.1
theorem dk_dX9_drawAbsent_0_8 : dz_C cX9_drawAbsent [(12, .if_icmp .ge 59, 3), (15, .aload_n 0, 1), (16, .ldc2_w 338, 3), (19, .aload_n 0, 1), (20, .getfield 98, 3), (23, .lmul, 1), (24, .ldc2_w 340, 3), (27, .ladd, 1)] := dk_dX9_drawAbsent_0.2.2.2.2.2.2.2.2
theorem dX9_drawAbsent_12 : decode cX9_drawAbsent 12 = .ok (.if_icmp .ge 59, 3) := dk_dX9_drawAbsent_0_8.1
theorem dX9_drawAbsent_15 : decode cX9_drawAbsent 15 = .ok (.aload_n 0, 1) := dk_dX9_drawAbsent_0_8.2.1
theorem dX9_drawAbsent_16 : decode cX9_drawAbsent 16 = .ok (.ldc2_w 338, 3) := dk_dX9_drawAbsent_0_8.2.2.1
theorem dX9_drawAbsent_19 : decode cX9_drawAbsent 19 = .ok (.aload_n 0, 1) := dk_dX9_drawAbsent_0_8.2.2.2.1
theorem dX9_drawAbsent_20 : decode cX9_drawAbsent 20 = .ok (.getfield 98, 3) := dk_dX9_drawAbsent_0_8.2.2.2.2.1
theorem dX9_drawAbsent_23 : decode cX9_drawAbsent 23 = .ok (.lmul, 1) := dk_dX9_drawAbsent_0_8.2.2.2.2.2.1
theorem dX9_drawAbsent_24 : decode cX9_drawAbsent 24 = .ok (.ldc2_w 340, 3) := dk_dX9_drawAbsent_0_8.2.2.2.2.2.2.1
theorem dX9_drawAbsent_27 : decode cX9_drawAbsent 27 = .ok (.ladd, 1) := dk_dX9_drawAbsent_0_8.2.2.2.2.2.2.2.1
theorem dk_dX9_drawAbsent_28 : dz_C cX9_drawAbsent [(28, .ldc2_w 342, 3), (31, .land, 1), (32, .putfield 98, 3), (35, .aload_n 0, 1), (36, .getfield 98, 3), (39, .ldc2_w 344, 3), (42, .ldiv, 1), (43, .ldc2_w 346, 3), (46, .lrem, 1), (47, .aload_n 0, 1), (48, .getfield 20, 3), (51, .getfield 348, 3), (54, .i2l, 1), (55, .lcmp, 1), (56, .ifCond .ge 9, 3), (59, .iload_n 1, 1)] := dz_of (by decide +kernel)
theorem dX9_drawAbsent_28 : decode cX9_drawAbsent 28 = .ok (.ldc2_w 342, 3) := dk_dX9_drawAbsent_28.1
theorem dX9_drawAbsent_31 : decode cX9_drawAbsent 31 = .ok (.land, 1) := dk_dX9_drawAbsent_28.2.1
theorem dX9_drawAbsent_32 : decode cX9_drawAbsent 32 = .ok (.putfield 98, 3) := dk_dX9_drawAbsent_28.2.2.1
theorem dX9_drawAbsent_35 : decode cX9_drawAbsent 35 = .ok (.aload_n 0, 1) := dk_dX9_drawAbsent_28.2.2.2.1
theorem dX9_drawAbsent_36 : decode cX9_drawAbsent 36 = .ok (.getfield 98, 3) := dk_dX9_drawAbsent_28.2.2.2.2.1
theorem dX9_drawAbsent_39 : decode cX9_drawAbsent 39 = .ok (.ldc2_w 344, 3) := dk_dX9_drawAbsent_28.2.2.2.2.2.1
theorem dX9_drawAbsent_42 : decode cX9_drawAbsent 42 = .ok (.ldiv, 1) := dk_dX9_drawAbsent_28.2.2.2.2.2.2.1
theorem dX9_drawAbsent_43 : decode cX9_drawAbsent 43 = .ok (.ldc2_w 346, 3) := dk_dX9_drawAbsent_28.2.2.2.2.2.2.2.1
theorem dk_dX9_drawAbsent_28_8 : dz_C cX9_drawAbsent [(46, .lrem, 1), (47, .aload_n 0, 1), (48, .getfield 20, 3), (51, .getfield 348, 3), (54, .i2l, 1), (55, .lcmp, 1), (56, .ifCond .ge 9, 3), (59, .iload_n 1, 1)] := dk_dX9_drawAbsent_28.2.2.2.2.2.2.2.2
theorem dX9_drawAbsent_46 : decode cX9_drawAbsent 46 = .ok (.lrem, 1) := dk_dX9_drawAbsent_28_8.1
theorem dX9_drawAbsent_47 : decode cX9_drawAbsent 47 = .ok (.aload_n 0, 1) := dk_dX9_drawAbsent_28_8.2.1
theorem dX9_drawAbsent_48 : decode cX9_drawAbsent 48 = .ok (.getfield 20, 3) := dk_dX9_drawAbsent_28_8.2.2.1
theorem dX9_drawAbsent_51 : decode cX9_drawAbsent 51 = .ok (.getfield 348, 3) := dk_dX9_drawAbsent_28_8.2.2.2.1
theorem dX9_drawAbsent_54 : decode cX9_drawAbsent 54 = .ok (.i2l, 1) := dk_dX9_drawAbsent_28_8.2.2.2.2.1
theorem dX9_drawAbsent_55 : decode cX9_drawAbsent 55 = .ok (.lcmp, 1) := dk_dX9_drawAbsent_28_8.2.2.2.2.2.1
theorem dX9_drawAbsent_56 : decode cX9_drawAbsent 56 = .ok (.ifCond .ge 9, 3) := dk_dX9_drawAbsent_28_8.2.2.2.2.2.2.1
theorem dX9_drawAbsent_59 : decode cX9_drawAbsent 59 = .ok (.iload_n 1, 1) := dk_dX9_drawAbsent_28_8.2.2.2.2.2.2.2.1
theorem dk_dX9_drawAbsent_60 : dz_C cX9_drawAbsent [(60, .iconst 1, 1), (61, .iload_n 2, 1), (62, .ishl, 1), (63, .ior, 1), (64, .istore_n 1, 1), (65, .iinc 2 1, 3), (68, .goto (-64), 3), (71, .iload_n 1, 1), (72, .ireturn, 1)] := dz_of (by decide +kernel)
theorem dX9_drawAbsent_60 : decode cX9_drawAbsent 60 = .ok (.iconst 1, 1) := dk_dX9_drawAbsent_60.1
theorem dX9_drawAbsent_61 : decode cX9_drawAbsent 61 = .ok (.iload_n 2, 1) := dk_dX9_drawAbsent_60.2.1
theorem dX9_drawAbsent_62 : decode cX9_drawAbsent 62 = .ok (.ishl, 1) := dk_dX9_drawAbsent_60.2.2.1
theorem dX9_drawAbsent_63 : decode cX9_drawAbsent 63 = .ok (.ior, 1) := dk_dX9_drawAbsent_60.2.2.2.1
theorem dX9_drawAbsent_64 : decode cX9_drawAbsent 64 = .ok (.istore_n 1, 1) := dk_dX9_drawAbsent_60.2.2.2.2.1
theorem dX9_drawAbsent_65 : decode cX9_drawAbsent 65 = .ok (.iinc 2 1, 3) := dk_dX9_drawAbsent_60.2.2.2.2.2.1
theorem dX9_drawAbsent_68 : decode cX9_drawAbsent 68 = .ok (.goto (-64), 3) := dk_dX9_drawAbsent_60.2.2.2.2.2.2.1
theorem dX9_drawAbsent_71 : decode cX9_drawAbsent 71 = .ok (.iload_n 1, 1) := dk_dX9_drawAbsent_60.2.2.2.2.2.2.2.1
theorem dk_dX9_drawAbsent_60_8 : dz_C cX9_drawAbsent [(72, .ireturn, 1)] := dk_dX9_drawAbsent_60.2.2.2.2.2.2.2.2
theorem dX9_drawAbsent_72 : decode cX9_drawAbsent 72 = .ok (.ireturn, 1) := dk_dX9_drawAbsent_60_8.1
theorem dk_dX9_end_0 : dz_C cX9_end [(0, .iload_n 1, 1), (1, .ifCond .lt 11, 3), (4, .iload_n 1, 1), (5, .aload_n 0, 1), (6, .getfield 13, 3), (9, .if_icmp .le 9, 3), (12, .aload_n 0, 1), (13, .iconst 0, 1), (14, .invokevirtual 110, 3), (17, .ireturn, 1), (18, .aload_n 0, 1), (19, .iload_n 1, 1), (20, .putfield 13, 3), (23, .iconst 1, 1), (24, .ireturn, 1)] := dz_of (by decide +kernel)
theorem dX9_end_0 : decode cX9_end 0 = .ok (.iload_n 1, 1) := dk_dX9_end_0.1
theorem dX9_end_1 : decode cX9_end 1 = .ok (.ifCond .lt 11, 3) := dk_dX9_end_0.2.1
theorem dX9_end_4 : decode cX9_end 4 = .ok (.iload_n 1, 1) := dk_dX9_end_0.2.2.1
theorem dX9_end_5 : decode cX9_end 5 = .ok (.aload_n 0, 1) := dk_dX9_end_0.2.2.2.1
theorem dX9_end_6 : decode cX9_end 6 = .ok (.getfield 13, 3) := dk_dX9_end_0.2.2.2.2.1
theorem dX9_end_9 : decode cX9_end 9 = .ok (.if_icmp .le 9, 3) := dk_dX9_end_0.2.2.2.2.2.1
theorem dX9_end_12 : decode cX9_end 12 = .ok (.aload_n 0, 1) := dk_dX9_end_0.2.2.2.2.2.2.1
theorem dX9_end_13 : decode cX9_end 13 = .ok (.iconst 0, 1) := dk_dX9_end_0.2.2.2.2.2.2.2.1
theorem dk_dX9_end_0_8 : dz_C cX9_end [(14, .invokevirtual 110, 3), (17, .ireturn, 1), (18, .aload_n 0, 1), (19, .iload_n 1, 1), (20, .putfield 13, 3), (23, .iconst 1, 1), (24, .ireturn, 1)] := dk_dX9_end_0.2.2.2.2.2.2.2.2
theorem dX9_end_14 : decode cX9_end 14 = .ok (.invokevirtual 110, 3) := dk_dX9_end_0_8.1
theorem dX9_end_17 : decode cX9_end 17 = .ok (.ireturn, 1) := dk_dX9_end_0_8.2.1
theorem dX9_end_18 : decode cX9_end 18 = .ok (.aload_n 0, 1) := dk_dX9_end_0_8.2.2.1
theorem dX9_end_19 : decode cX9_end 19 = .ok (.iload_n 1, 1) := dk_dX9_end_0_8.2.2.2.1
theorem dX9_end_20 : decode cX9_end 20 = .ok (.putfield 13, 3) := dk_dX9_end_0_8.2.2.2.2.1
theorem dX9_end_23 : decode cX9_end 23 = .ok (.iconst 1, 1) := dk_dX9_end_0_8.2.2.2.2.2.1
theorem dX9_end_24 : decode cX9_end 24 = .ok (.ireturn, 1) := dk_dX9_end_0_8.2.2.2.2.2.2.1
theorem dk_dX9_fault_0 : dz_C cX9_fault [(0, .iload_n 1, 1), (28, .aload_n 0, 1), (29, .getfield 53, 3), (32, .getfield 122, 3), (35, .ireturn, 1), (36, .aload_n 0, 1), (37, .getfield 53, 3), (40, .getfield 142, 3), (43, .ireturn, 1), (44, .iconst (-1), 1), (45, .ireturn, 1)] := dz_of (by decide +kernel)
theorem dX9_fault_0 : decode cX9_fault 0 = .ok (.iload_n 1, 1) := dk_dX9_fault_0.1
theorem dX9_fault_28 : decode cX9_fault 28 = .ok (.aload_n 0, 1) := dk_dX9_fault_0.2.1
theorem dX9_fault_29 : decode cX9_fault 29 = .ok (.getfield 53, 3) := dk_dX9_fault_0.2.2.1
theorem dX9_fault_32 : decode cX9_fault 32 = .ok (.getfield 122, 3) := dk_dX9_fault_0.2.2.2.1
theorem dX9_fault_35 : decode cX9_fault 35 = .ok (.ireturn, 1) := dk_dX9_fault_0.2.2.2.2.1
theorem dX9_fault_36 : decode cX9_fault 36 = .ok (.aload_n 0, 1) := dk_dX9_fault_0.2.2.2.2.2.1
theorem dX9_fault_37 : decode cX9_fault 37 = .ok (.getfield 53, 3) := dk_dX9_fault_0.2.2.2.2.2.2.1
theorem dX9_fault_40 : decode cX9_fault 40 = .ok (.getfield 142, 3) := dk_dX9_fault_0.2.2.2.2.2.2.2.1
theorem dk_dX9_fault_0_8 : dz_C cX9_fault [(43, .ireturn, 1), (44, .iconst (-1), 1), (45, .ireturn, 1)] := dk_dX9_fault_0.2.2.2.2.2.2.2.2
theorem dX9_fault_43 : decode cX9_fault 43 = .ok (.ireturn, 1) := dk_dX9_fault_0_8.1
theorem dX9_fault_44 : decode cX9_fault 44 = .ok (.iconst (-1), 1) := dk_dX9_fault_0_8.2.1
theorem dX9_fault_45 : decode cX9_fault 45 = .ok (.ireturn, 1) := dk_dX9_fault_0_8.2.2.1
theorem dX9_fault_1 : decode cX9_fault 1 = .ok (.lookupswitch 43 #[(0, 27), (1, 35)], 27) := by decide +kernel
theorem dk_dX9_feed_0 : dz_C cX9_feed [(0, .aload_n 0, 1), (1, .getfield 13, 3), (4, .bipush 20, 2), (6, .iadd, 1), (7, .sipush 1600, 3), (10, .if_icmp .le 9, 3), (13, .aload_n 0, 1), (14, .iconst 0, 1), (15, .invokevirtual 102, 3), (18, .ireturn, 1), (19, .aload_n 0, 1), (20, .iload_n 1, 1), (21, .invokevirtual 106, 3), (24, .aload_n 0, 1), (25, .iload_n 2, 1), (26, .invokevirtual 106, 3)] := dz_of (by decide +kernel)
theorem dX9_feed_0 : decode cX9_feed 0 = .ok (.aload_n 0, 1) := dk_dX9_feed_0.1
theorem dX9_feed_1 : decode cX9_feed 1 = .ok (.getfield 13, 3) := dk_dX9_feed_0.2.1
theorem dX9_feed_4 : decode cX9_feed 4 = .ok (.bipush 20, 2) := dk_dX9_feed_0.2.2.1
theorem dX9_feed_6 : decode cX9_feed 6 = .ok (.iadd, 1) := dk_dX9_feed_0.2.2.2.1
theorem dX9_feed_7 : decode cX9_feed 7 = .ok (.sipush 1600, 3) := dk_dX9_feed_0.2.2.2.2.1
theorem dX9_feed_10 : decode cX9_feed 10 = .ok (.if_icmp .le 9, 3) := dk_dX9_feed_0.2.2.2.2.2.1
theorem dX9_feed_13 : decode cX9_feed 13 = .ok (.aload_n 0, 1) := dk_dX9_feed_0.2.2.2.2.2.2.1
theorem dX9_feed_14 : decode cX9_feed 14 = .ok (.iconst 0, 1) := dk_dX9_feed_0.2.2.2.2.2.2.2.1
theorem dk_dX9_feed_0_8 : dz_C cX9_feed [(15, .invokevirtual 102, 3), (18, .ireturn, 1), (19, .aload_n 0, 1), (20, .iload_n 1, 1), (21, .invokevirtual 106, 3), (24, .aload_n 0, 1), (25, .iload_n 2, 1), (26, .invokevirtual 106, 3)] := dk_dX9_feed_0.2.2.2.2.2.2.2.2
theorem dX9_feed_15 : decode cX9_feed 15 = .ok (.invokevirtual 102, 3) := dk_dX9_feed_0_8.1
theorem dX9_feed_18 : decode cX9_feed 18 = .ok (.ireturn, 1) := dk_dX9_feed_0_8.2.1
theorem dX9_feed_19 : decode cX9_feed 19 = .ok (.aload_n 0, 1) := dk_dX9_feed_0_8.2.2.1
theorem dX9_feed_20 : decode cX9_feed 20 = .ok (.iload_n 1, 1) := dk_dX9_feed_0_8.2.2.2.1
theorem dX9_feed_21 : decode cX9_feed 21 = .ok (.invokevirtual 106, 3) := dk_dX9_feed_0_8.2.2.2.2.1
theorem dX9_feed_24 : decode cX9_feed 24 = .ok (.aload_n 0, 1) := dk_dX9_feed_0_8.2.2.2.2.2.1
theorem dX9_feed_25 : decode cX9_feed 25 = .ok (.iload_n 2, 1) := dk_dX9_feed_0_8.2.2.2.2.2.2.1
theorem dX9_feed_26 : decode cX9_feed 26 = .ok (.invokevirtual 106, 3) := dk_dX9_feed_0_8.2.2.2.2.2.2.2.1
theorem dk_dX9_feed_29 : dz_C cX9_feed [(29, .aload_n 0, 1), (30, .iload_n 3, 1), (31, .invokevirtual 106, 3), (34, .aload_n 0, 1), (35, .iload 4, 2), (37, .invokevirtual 106, 3), (40, .aload_n 0, 1), (41, .iload 5, 2), (43, .invokevirtual 106, 3), (46, .aload_n 0, 1), (47, .getfield 13, 3), (50, .ireturn, 1)] := dz_of (by decide +kernel)
theorem dX9_feed_29 : decode cX9_feed 29 = .ok (.aload_n 0, 1) := dk_dX9_feed_29.1
theorem dX9_feed_30 : decode cX9_feed 30 = .ok (.iload_n 3, 1) := dk_dX9_feed_29.2.1
theorem dX9_feed_31 : decode cX9_feed 31 = .ok (.invokevirtual 106, 3) := dk_dX9_feed_29.2.2.1
theorem dX9_feed_34 : decode cX9_feed 34 = .ok (.aload_n 0, 1) := dk_dX9_feed_29.2.2.2.1
theorem dX9_feed_35 : decode cX9_feed 35 = .ok (.iload 4, 2) := dk_dX9_feed_29.2.2.2.2.1
theorem dX9_feed_37 : decode cX9_feed 37 = .ok (.invokevirtual 106, 3) := dk_dX9_feed_29.2.2.2.2.2.1
theorem dX9_feed_40 : decode cX9_feed 40 = .ok (.aload_n 0, 1) := dk_dX9_feed_29.2.2.2.2.2.2.1
theorem dX9_feed_41 : decode cX9_feed 41 = .ok (.iload 5, 2) := dk_dX9_feed_29.2.2.2.2.2.2.2.1
theorem dk_dX9_feed_29_8 : dz_C cX9_feed [(43, .invokevirtual 106, 3), (46, .aload_n 0, 1), (47, .getfield 13, 3), (50, .ireturn, 1)] := dk_dX9_feed_29.2.2.2.2.2.2.2.2
theorem dX9_feed_43 : decode cX9_feed 43 = .ok (.invokevirtual 106, 3) := dk_dX9_feed_29_8.1
theorem dX9_feed_46 : decode cX9_feed 46 = .ok (.aload_n 0, 1) := dk_dX9_feed_29_8.2.1
theorem dX9_feed_47 : decode cX9_feed 47 = .ok (.getfield 13, 3) := dk_dX9_feed_29_8.2.2.1
theorem dX9_feed_50 : decode cX9_feed 50 = .ok (.ireturn, 1) := dk_dX9_feed_29_8.2.2.2.1
theorem dk_dX9_fits_0 : dz_C cX9_fits [(0, .aload_n 0, 1), (1, .invokevirtual 218, 3), (4, .ifCond .ne 5, 3), (7, .iconst (-1), 1), (8, .ireturn, 1), (9, .aload_n 0, 1), (10, .getfield 85, 3), (13, .aload_n 0, 1), (14, .getfield 30, 3), (17, .invokevirtual 262, 3), (20, .iload_n 1, 1), (48, .aload_n 0, 1), (49, .getfield 85, 3), (52, .getfield 266, 3), (55, .ireturn, 1), (56, .aload_n 0, 1)] := dz_of (by decide +kernel)
theorem dX9_fits_0 : decode cX9_fits 0 = .ok (.aload_n 0, 1) := dk_dX9_fits_0.1
theorem dX9_fits_1 : decode cX9_fits 1 = .ok (.invokevirtual 218, 3) := dk_dX9_fits_0.2.1
theorem dX9_fits_4 : decode cX9_fits 4 = .ok (.ifCond .ne 5, 3) := dk_dX9_fits_0.2.2.1
theorem dX9_fits_7 : decode cX9_fits 7 = .ok (.iconst (-1), 1) := dk_dX9_fits_0.2.2.2.1
theorem dX9_fits_8 : decode cX9_fits 8 = .ok (.ireturn, 1) := dk_dX9_fits_0.2.2.2.2.1
theorem dX9_fits_9 : decode cX9_fits 9 = .ok (.aload_n 0, 1) := dk_dX9_fits_0.2.2.2.2.2.1
theorem dX9_fits_10 : decode cX9_fits 10 = .ok (.getfield 85, 3) := dk_dX9_fits_0.2.2.2.2.2.2.1
theorem dX9_fits_13 : decode cX9_fits 13 = .ok (.aload_n 0, 1) := dk_dX9_fits_0.2.2.2.2.2.2.2.1
theorem dk_dX9_fits_0_8 : dz_C cX9_fits [(14, .getfield 30, 3), (17, .invokevirtual 262, 3), (20, .iload_n 1, 1), (48, .aload_n 0, 1), (49, .getfield 85, 3), (52, .getfield 266, 3), (55, .ireturn, 1), (56, .aload_n 0, 1)] := dk_dX9_fits_0.2.2.2.2.2.2.2.2
theorem dX9_fits_14 : decode cX9_fits 14 = .ok (.getfield 30, 3) := dk_dX9_fits_0_8.1
theorem dX9_fits_17 : decode cX9_fits 17 = .ok (.invokevirtual 262, 3) := dk_dX9_fits_0_8.2.1
theorem dX9_fits_20 : decode cX9_fits 20 = .ok (.iload_n 1, 1) := dk_dX9_fits_0_8.2.2.1
theorem dX9_fits_48 : decode cX9_fits 48 = .ok (.aload_n 0, 1) := dk_dX9_fits_0_8.2.2.2.1
theorem dX9_fits_49 : decode cX9_fits 49 = .ok (.getfield 85, 3) := dk_dX9_fits_0_8.2.2.2.2.1
theorem dX9_fits_52 : decode cX9_fits 52 = .ok (.getfield 266, 3) := dk_dX9_fits_0_8.2.2.2.2.2.1
theorem dX9_fits_55 : decode cX9_fits 55 = .ok (.ireturn, 1) := dk_dX9_fits_0_8.2.2.2.2.2.2.1
theorem dX9_fits_56 : decode cX9_fits 56 = .ok (.aload_n 0, 1) := dk_dX9_fits_0_8.2.2.2.2.2.2.2.1
theorem dX9_fits_21 : decode cX9_fits 21 = .ok (.tableswitch 51 0 2 #[27, 35, 43], 27) := by decide +kernel
theorem dk_dX9_fits_57 : dz_C cX9_fits [(57, .getfield 85, 3), (60, .getfield 269, 3), (63, .ireturn, 1), (64, .aload_n 0, 1), (65, .getfield 85, 3), (68, .getfield 272, 3), (71, .ireturn, 1), (72, .iconst (-1), 1), (73, .ireturn, 1)] := dz_of (by decide +kernel)
theorem dX9_fits_57 : decode cX9_fits 57 = .ok (.getfield 85, 3) := dk_dX9_fits_57.1
theorem dX9_fits_60 : decode cX9_fits 60 = .ok (.getfield 269, 3) := dk_dX9_fits_57.2.1
theorem dX9_fits_63 : decode cX9_fits 63 = .ok (.ireturn, 1) := dk_dX9_fits_57.2.2.1
theorem dX9_fits_64 : decode cX9_fits 64 = .ok (.aload_n 0, 1) := dk_dX9_fits_57.2.2.2.1
theorem dX9_fits_65 : decode cX9_fits 65 = .ok (.getfield 85, 3) := dk_dX9_fits_57.2.2.2.2.1
theorem dX9_fits_68 : decode cX9_fits 68 = .ok (.getfield 272, 3) := dk_dX9_fits_57.2.2.2.2.2.1
theorem dX9_fits_71 : decode cX9_fits 71 = .ok (.ireturn, 1) := dk_dX9_fits_57.2.2.2.2.2.2.1
theorem dX9_fits_72 : decode cX9_fits 72 = .ok (.iconst (-1), 1) := dk_dX9_fits_57.2.2.2.2.2.2.2.1
theorem dk_dX9_fits_57_8 : dz_C cX9_fits [(73, .ireturn, 1)] := dk_dX9_fits_57.2.2.2.2.2.2.2.2
theorem dX9_fits_73 : decode cX9_fits 73 = .ok (.ireturn, 1) := dk_dX9_fits_57_8.1
theorem dk_dX9_green_0 : dz_C cX9_green [(0, .aload_n 0, 1), (1, .getfield 20, 3), (4, .iload_n 1, 1), (5, .invokevirtual 284, 3), (8, .ifCond .eq 14, 3), (11, .iload_n 1, 1), (12, .aload_n 0, 1), (13, .getfield 30, 3), (16, .getfield 160, 3), (19, .if_icmp .ne 9, 3), (22, .aload_n 0, 1), (23, .iconst 2, 1), (24, .invokevirtual 110, 3), (27, .ireturn, 1), (28, .aload_n 0, 1), (29, .invokevirtual 281, 3)] := dz_of (by decide +kernel)
theorem dX9_green_0 : decode cX9_green 0 = .ok (.aload_n 0, 1) := dk_dX9_green_0.1
theorem dX9_green_1 : decode cX9_green 1 = .ok (.getfield 20, 3) := dk_dX9_green_0.2.1
theorem dX9_green_4 : decode cX9_green 4 = .ok (.iload_n 1, 1) := dk_dX9_green_0.2.2.1
theorem dX9_green_5 : decode cX9_green 5 = .ok (.invokevirtual 284, 3) := dk_dX9_green_0.2.2.2.1
theorem dX9_green_8 : decode cX9_green 8 = .ok (.ifCond .eq 14, 3) := dk_dX9_green_0.2.2.2.2.1
theorem dX9_green_11 : decode cX9_green 11 = .ok (.iload_n 1, 1) := dk_dX9_green_0.2.2.2.2.2.1
theorem dX9_green_12 : decode cX9_green 12 = .ok (.aload_n 0, 1) := dk_dX9_green_0.2.2.2.2.2.2.1
theorem dX9_green_13 : decode cX9_green 13 = .ok (.getfield 30, 3) := dk_dX9_green_0.2.2.2.2.2.2.2.1
theorem dk_dX9_green_0_8 : dz_C cX9_green [(16, .getfield 160, 3), (19, .if_icmp .ne 9, 3), (22, .aload_n 0, 1), (23, .iconst 2, 1), (24, .invokevirtual 110, 3), (27, .ireturn, 1), (28, .aload_n 0, 1), (29, .invokevirtual 281, 3)] := dk_dX9_green_0.2.2.2.2.2.2.2.2
theorem dX9_green_16 : decode cX9_green 16 = .ok (.getfield 160, 3) := dk_dX9_green_0_8.1
theorem dX9_green_19 : decode cX9_green 19 = .ok (.if_icmp .ne 9, 3) := dk_dX9_green_0_8.2.1
theorem dX9_green_22 : decode cX9_green 22 = .ok (.aload_n 0, 1) := dk_dX9_green_0_8.2.2.1
theorem dX9_green_23 : decode cX9_green 23 = .ok (.iconst 2, 1) := dk_dX9_green_0_8.2.2.2.1
theorem dX9_green_24 : decode cX9_green 24 = .ok (.invokevirtual 110, 3) := dk_dX9_green_0_8.2.2.2.2.1
theorem dX9_green_27 : decode cX9_green 27 = .ok (.ireturn, 1) := dk_dX9_green_0_8.2.2.2.2.2.1
theorem dX9_green_28 : decode cX9_green 28 = .ok (.aload_n 0, 1) := dk_dX9_green_0_8.2.2.2.2.2.2.1
theorem dX9_green_29 : decode cX9_green 29 = .ok (.invokevirtual 281, 3) := dk_dX9_green_0_8.2.2.2.2.2.2.2.1
theorem dk_dX9_green_32 : dz_C cX9_green [(32, .aload_n 0, 1), (33, .getfield 30, 3), (36, .iload_n 1, 1), (37, .putfield 160, 3), (40, .iconst 1, 1), (41, .ireturn, 1)] := dz_of (by decide +kernel)
theorem dX9_green_32 : decode cX9_green 32 = .ok (.aload_n 0, 1) := dk_dX9_green_32.1
theorem dX9_green_33 : decode cX9_green 33 = .ok (.getfield 30, 3) := dk_dX9_green_32.2.1
theorem dX9_green_36 : decode cX9_green 36 = .ok (.iload_n 1, 1) := dk_dX9_green_32.2.2.1
theorem dX9_green_37 : decode cX9_green 37 = .ok (.putfield 160, 3) := dk_dX9_green_32.2.2.2.1
theorem dX9_green_40 : decode cX9_green 40 = .ok (.iconst 1, 1) := dk_dX9_green_32.2.2.2.2.1
theorem dX9_green_41 : decode cX9_green 41 = .ok (.ireturn, 1) := dk_dX9_green_32.2.2.2.2.2.1
theorem dk_dX9_has_0 : dz_C cX9_has [(0, .iload_n 1, 1), (48, .aload_n 0, 1), (49, .getfield 20, 3), (52, .getfield 145, 3), (55, .ireturn, 1), (56, .aload_n 0, 1), (57, .getfield 20, 3), (60, .getfield 148, 3), (63, .ireturn, 1), (64, .aload_n 0, 1), (65, .getfield 20, 3), (68, .getfield 151, 3), (71, .ireturn, 1), (72, .aload_n 0, 1), (73, .getfield 30, 3), (76, .getfield 154, 3)] := dz_of (by decide +kernel)
theorem dX9_has_0 : decode cX9_has 0 = .ok (.iload_n 1, 1) := dk_dX9_has_0.1
theorem dX9_has_48 : decode cX9_has 48 = .ok (.aload_n 0, 1) := dk_dX9_has_0.2.1
theorem dX9_has_49 : decode cX9_has 49 = .ok (.getfield 20, 3) := dk_dX9_has_0.2.2.1
theorem dX9_has_52 : decode cX9_has 52 = .ok (.getfield 145, 3) := dk_dX9_has_0.2.2.2.1
theorem dX9_has_55 : decode cX9_has 55 = .ok (.ireturn, 1) := dk_dX9_has_0.2.2.2.2.1
theorem dX9_has_56 : decode cX9_has 56 = .ok (.aload_n 0, 1) := dk_dX9_has_0.2.2.2.2.2.1
theorem dX9_has_57 : decode cX9_has 57 = .ok (.getfield 20, 3) := dk_dX9_has_0.2.2.2.2.2.2.1
theorem dX9_has_60 : decode cX9_has 60 = .ok (.getfield 148, 3) := dk_dX9_has_0.2.2.2.2.2.2.2.1
theorem dk_dX9_has_0_8 : dz_C cX9_has [(63, .ireturn, 1), (64, .aload_n 0, 1), (65, .getfield 20, 3), (68, .getfield 151, 3), (71, .ireturn, 1), (72, .aload_n 0, 1), (73, .getfield 30, 3), (76, .getfield 154, 3)] := dk_dX9_has_0.2.2.2.2.2.2.2.2
theorem dX9_has_63 : decode cX9_has 63 = .ok (.ireturn, 1) := dk_dX9_has_0_8.1
theorem dX9_has_64 : decode cX9_has 64 = .ok (.aload_n 0, 1) := dk_dX9_has_0_8.2.1
theorem dX9_has_65 : decode cX9_has 65 = .ok (.getfield 20, 3) := dk_dX9_has_0_8.2.2.1
theorem dX9_has_68 : decode cX9_has 68 = .ok (.getfield 151, 3) := dk_dX9_has_0_8.2.2.2.1
theorem dX9_has_71 : decode cX9_has 71 = .ok (.ireturn, 1) := dk_dX9_has_0_8.2.2.2.2.1
theorem dX9_has_72 : decode cX9_has 72 = .ok (.aload_n 0, 1) := dk_dX9_has_0_8.2.2.2.2.2.1
theorem dX9_has_73 : decode cX9_has 73 = .ok (.getfield 30, 3) := dk_dX9_has_0_8.2.2.2.2.2.2.1
theorem dX9_has_76 : decode cX9_has 76 = .ok (.getfield 154, 3) := dk_dX9_has_0_8.2.2.2.2.2.2.2.1
theorem dX9_has_1 : decode cX9_has 1 = .ok (.tableswitch 111 0 7 #[47, 55, 63, 71, 79, 87, 95, 103], 47) := by decide +kernel
theorem dk_dX9_has_79 : dz_C cX9_has [(79, .ireturn, 1), (80, .aload_n 0, 1), (81, .getfield 30, 3), (84, .getfield 157, 3), (87, .ireturn, 1), (88, .aload_n 0, 1), (89, .getfield 30, 3), (92, .getfield 160, 3), (95, .ireturn, 1), (96, .aload_n 0, 1), (97, .getfield 85, 3), (100, .getfield 163, 3), (103, .ireturn, 1), (104, .aload_n 0, 1), (105, .getfield 37, 3), (108, .getfield 166, 3)] := dz_of (by decide +kernel)
theorem dX9_has_79 : decode cX9_has 79 = .ok (.ireturn, 1) := dk_dX9_has_79.1
theorem dX9_has_80 : decode cX9_has 80 = .ok (.aload_n 0, 1) := dk_dX9_has_79.2.1
theorem dX9_has_81 : decode cX9_has 81 = .ok (.getfield 30, 3) := dk_dX9_has_79.2.2.1
theorem dX9_has_84 : decode cX9_has 84 = .ok (.getfield 157, 3) := dk_dX9_has_79.2.2.2.1
theorem dX9_has_87 : decode cX9_has 87 = .ok (.ireturn, 1) := dk_dX9_has_79.2.2.2.2.1
theorem dX9_has_88 : decode cX9_has 88 = .ok (.aload_n 0, 1) := dk_dX9_has_79.2.2.2.2.2.1
theorem dX9_has_89 : decode cX9_has 89 = .ok (.getfield 30, 3) := dk_dX9_has_79.2.2.2.2.2.2.1
theorem dX9_has_92 : decode cX9_has 92 = .ok (.getfield 160, 3) := dk_dX9_has_79.2.2.2.2.2.2.2.1
theorem dk_dX9_has_79_8 : dz_C cX9_has [(95, .ireturn, 1), (96, .aload_n 0, 1), (97, .getfield 85, 3), (100, .getfield 163, 3), (103, .ireturn, 1), (104, .aload_n 0, 1), (105, .getfield 37, 3), (108, .getfield 166, 3)] := dk_dX9_has_79.2.2.2.2.2.2.2.2
theorem dX9_has_95 : decode cX9_has 95 = .ok (.ireturn, 1) := dk_dX9_has_79_8.1
theorem dX9_has_96 : decode cX9_has 96 = .ok (.aload_n 0, 1) := dk_dX9_has_79_8.2.1
theorem dX9_has_97 : decode cX9_has 97 = .ok (.getfield 85, 3) := dk_dX9_has_79_8.2.2.1
theorem dX9_has_100 : decode cX9_has 100 = .ok (.getfield 163, 3) := dk_dX9_has_79_8.2.2.2.1
theorem dX9_has_103 : decode cX9_has 103 = .ok (.ireturn, 1) := dk_dX9_has_79_8.2.2.2.2.1
theorem dX9_has_104 : decode cX9_has 104 = .ok (.aload_n 0, 1) := dk_dX9_has_79_8.2.2.2.2.2.1
theorem dX9_has_105 : decode cX9_has 105 = .ok (.getfield 37, 3) := dk_dX9_has_79_8.2.2.2.2.2.2.1
theorem dX9_has_108 : decode cX9_has 108 = .ok (.getfield 166, 3) := dk_dX9_has_79_8.2.2.2.2.2.2.2.1
theorem dk_dX9_has_111 : dz_C cX9_has [(111, .ireturn, 1), (112, .iconst (-1), 1), (113, .ireturn, 1)] := dz_of (by decide +kernel)
theorem dX9_has_111 : decode cX9_has 111 = .ok (.ireturn, 1) := dk_dX9_has_111.1
theorem dX9_has_112 : decode cX9_has 112 = .ok (.iconst (-1), 1) := dk_dX9_has_111.2.1
theorem dX9_has_113 : decode cX9_has 113 = .ok (.ireturn, 1) := dk_dX9_has_111.2.2.1
theorem dk_dX9_hold_0 : dz_C cX9_hold [(0, .aload_n 0, 1), (1, .invokevirtual 218, 3), (4, .ifCond .ne 5, 3), (7, .iconst (-1), 1), (8, .ireturn, 1), (9, .aload_n 0, 1), (10, .invokevirtual 190, 3), (13, .aload_n 0, 1), (14, .getfield 71, 3), (17, .invokevirtual 239, 3), (20, .ireturn, 1)] := dz_of (by decide +kernel)
theorem dX9_hold_0 : decode cX9_hold 0 = .ok (.aload_n 0, 1) := dk_dX9_hold_0.1
theorem dX9_hold_1 : decode cX9_hold 1 = .ok (.invokevirtual 218, 3) := dk_dX9_hold_0.2.1
theorem dX9_hold_4 : decode cX9_hold 4 = .ok (.ifCond .ne 5, 3) := dk_dX9_hold_0.2.2.1
theorem dX9_hold_7 : decode cX9_hold 7 = .ok (.iconst (-1), 1) := dk_dX9_hold_0.2.2.2.1
theorem dX9_hold_8 : decode cX9_hold 8 = .ok (.ireturn, 1) := dk_dX9_hold_0.2.2.2.2.1
theorem dX9_hold_9 : decode cX9_hold 9 = .ok (.aload_n 0, 1) := dk_dX9_hold_0.2.2.2.2.2.1
theorem dX9_hold_10 : decode cX9_hold 10 = .ok (.invokevirtual 190, 3) := dk_dX9_hold_0.2.2.2.2.2.2.1
theorem dX9_hold_13 : decode cX9_hold 13 = .ok (.aload_n 0, 1) := dk_dX9_hold_0.2.2.2.2.2.2.2.1
theorem dk_dX9_hold_0_8 : dz_C cX9_hold [(14, .getfield 71, 3), (17, .invokevirtual 239, 3), (20, .ireturn, 1)] := dk_dX9_hold_0.2.2.2.2.2.2.2.2
theorem dX9_hold_14 : decode cX9_hold 14 = .ok (.getfield 71, 3) := dk_dX9_hold_0_8.1
theorem dX9_hold_17 : decode cX9_hold 17 = .ok (.invokevirtual 239, 3) := dk_dX9_hold_0_8.2.1
theorem dX9_hold_20 : decode cX9_hold 20 = .ok (.ireturn, 1) := dk_dX9_hold_0_8.2.2.1
theorem dk_dX9_image_0 : dz_C cX9_image [(0, .aload_n 0, 1), (1, .getfield 89, 3), (4, .iconst 0, 1), (5, .aload_n 0, 1), (6, .getfield 30, 3), (9, .getfield 154, 3), (12, .bipush 8, 2), (14, .ishr, 1), (15, .iastore, 1), (16, .aload_n 0, 1), (17, .getfield 89, 3), (20, .iconst 1, 1), (21, .aload_n 0, 1), (22, .getfield 30, 3), (25, .getfield 154, 3), (28, .sipush 255, 3)] := dz_of (by decide +kernel)
theorem dX9_image_0 : decode cX9_image 0 = .ok (.aload_n 0, 1) := dk_dX9_image_0.1
theorem dX9_image_1 : decode cX9_image 1 = .ok (.getfield 89, 3) := dk_dX9_image_0.2.1
theorem dX9_image_4 : decode cX9_image 4 = .ok (.iconst 0, 1) := dk_dX9_image_0.2.2.1
theorem dX9_image_5 : decode cX9_image 5 = .ok (.aload_n 0, 1) := dk_dX9_image_0.2.2.2.1
theorem dX9_image_6 : decode cX9_image 6 = .ok (.getfield 30, 3) := dk_dX9_image_0.2.2.2.2.1
theorem dX9_image_9 : decode cX9_image 9 = .ok (.getfield 154, 3) := dk_dX9_image_0.2.2.2.2.2.1
theorem dX9_image_12 : decode cX9_image 12 = .ok (.bipush 8, 2) := dk_dX9_image_0.2.2.2.2.2.2.1
theorem dX9_image_14 : decode cX9_image 14 = .ok (.ishr, 1) := dk_dX9_image_0.2.2.2.2.2.2.2.1
theorem dk_dX9_image_0_8 : dz_C cX9_image [(15, .iastore, 1), (16, .aload_n 0, 1), (17, .getfield 89, 3), (20, .iconst 1, 1), (21, .aload_n 0, 1), (22, .getfield 30, 3), (25, .getfield 154, 3), (28, .sipush 255, 3)] := dk_dX9_image_0.2.2.2.2.2.2.2.2
theorem dX9_image_15 : decode cX9_image 15 = .ok (.iastore, 1) := dk_dX9_image_0_8.1
theorem dX9_image_16 : decode cX9_image 16 = .ok (.aload_n 0, 1) := dk_dX9_image_0_8.2.1
theorem dX9_image_17 : decode cX9_image 17 = .ok (.getfield 89, 3) := dk_dX9_image_0_8.2.2.1
theorem dX9_image_20 : decode cX9_image 20 = .ok (.iconst 1, 1) := dk_dX9_image_0_8.2.2.2.1
theorem dX9_image_21 : decode cX9_image 21 = .ok (.aload_n 0, 1) := dk_dX9_image_0_8.2.2.2.2.1
theorem dX9_image_22 : decode cX9_image 22 = .ok (.getfield 30, 3) := dk_dX9_image_0_8.2.2.2.2.2.1
theorem dX9_image_25 : decode cX9_image 25 = .ok (.getfield 154, 3) := dk_dX9_image_0_8.2.2.2.2.2.2.1
theorem dX9_image_28 : decode cX9_image 28 = .ok (.sipush 255, 3) := dk_dX9_image_0_8.2.2.2.2.2.2.2.1
theorem dk_dX9_image_31 : dz_C cX9_image [(31, .iand, 1), (32, .iastore, 1), (33, .aload_n 0, 1), (34, .getfield 89, 3), (37, .iconst 2, 1), (38, .aload_n 0, 1), (39, .getfield 30, 3), (42, .getfield 157, 3), (45, .iastore, 1), (46, .aload_n 0, 1), (47, .getfield 89, 3), (50, .iconst 3, 1), (51, .aload_n 0, 1), (52, .getfield 30, 3), (55, .getfield 160, 3), (58, .iastore, 1)] := dz_of (by decide +kernel)
theorem dX9_image_31 : decode cX9_image 31 = .ok (.iand, 1) := dk_dX9_image_31.1
theorem dX9_image_32 : decode cX9_image 32 = .ok (.iastore, 1) := dk_dX9_image_31.2.1
theorem dX9_image_33 : decode cX9_image 33 = .ok (.aload_n 0, 1) := dk_dX9_image_31.2.2.1
theorem dX9_image_34 : decode cX9_image 34 = .ok (.getfield 89, 3) := dk_dX9_image_31.2.2.2.1
theorem dX9_image_37 : decode cX9_image 37 = .ok (.iconst 2, 1) := dk_dX9_image_31.2.2.2.2.1
theorem dX9_image_38 : decode cX9_image 38 = .ok (.aload_n 0, 1) := dk_dX9_image_31.2.2.2.2.2.1
theorem dX9_image_39 : decode cX9_image 39 = .ok (.getfield 30, 3) := dk_dX9_image_31.2.2.2.2.2.2.1
theorem dX9_image_42 : decode cX9_image 42 = .ok (.getfield 157, 3) := dk_dX9_image_31.2.2.2.2.2.2.2.1
theorem dk_dX9_image_31_8 : dz_C cX9_image [(45, .iastore, 1), (46, .aload_n 0, 1), (47, .getfield 89, 3), (50, .iconst 3, 1), (51, .aload_n 0, 1), (52, .getfield 30, 3), (55, .getfield 160, 3), (58, .iastore, 1)] := dk_dX9_image_31.2.2.2.2.2.2.2.2
theorem dX9_image_45 : decode cX9_image 45 = .ok (.iastore, 1) := dk_dX9_image_31_8.1
theorem dX9_image_46 : decode cX9_image 46 = .ok (.aload_n 0, 1) := dk_dX9_image_31_8.2.1
theorem dX9_image_47 : decode cX9_image 47 = .ok (.getfield 89, 3) := dk_dX9_image_31_8.2.2.1
theorem dX9_image_50 : decode cX9_image 50 = .ok (.iconst 3, 1) := dk_dX9_image_31_8.2.2.2.1
theorem dX9_image_51 : decode cX9_image 51 = .ok (.aload_n 0, 1) := dk_dX9_image_31_8.2.2.2.2.1
theorem dX9_image_52 : decode cX9_image 52 = .ok (.getfield 30, 3) := dk_dX9_image_31_8.2.2.2.2.2.1
theorem dX9_image_55 : decode cX9_image 55 = .ok (.getfield 160, 3) := dk_dX9_image_31_8.2.2.2.2.2.2.1
theorem dX9_image_58 : decode cX9_image 58 = .ok (.iastore, 1) := dk_dX9_image_31_8.2.2.2.2.2.2.2.1
theorem dk_dX9_image_59 : dz_C cX9_image [(59, .iconst 0, 1), (60, .istore_n 1, 1), (61, .iload_n 1, 1), (62, .aload_n 0, 1), (63, .getfield 20, 3), (66, .getfield 148, 3), (69, .if_icmp .ge 26, 3), (72, .aload_n 0, 1), (73, .getfield 89, 3), (76, .iconst 4, 1), (77, .iload_n 1, 1), (78, .iadd, 1), (79, .aload_n 0, 1), (80, .getfield 30, 3), (83, .getfield 184, 3), (86, .iload_n 1, 1)] := dz_of (by decide +kernel)
theorem dX9_image_59 : decode cX9_image 59 = .ok (.iconst 0, 1) := dk_dX9_image_59.1
theorem dX9_image_60 : decode cX9_image 60 = .ok (.istore_n 1, 1) := dk_dX9_image_59.2.1
theorem dX9_image_61 : decode cX9_image 61 = .ok (.iload_n 1, 1) := dk_dX9_image_59.2.2.1
theorem dX9_image_62 : decode cX9_image 62 = .ok (.aload_n 0, 1) := dk_dX9_image_59.2.2.2.1
theorem dX9_image_63 : decode cX9_image 63 = .ok (.getfield 20, 3) := dk_dX9_image_59.2.2.2.2.1
theorem dX9_image_66 : decode cX9_image 66 = .ok (.getfield 148, 3) := dk_dX9_image_59.2.2.2.2.2.1
theorem dX9_image_69 : decode cX9_image 69 = .ok (.if_icmp .ge 26, 3) := dk_dX9_image_59.2.2.2.2.2.2.1
theorem dX9_image_72 : decode cX9_image 72 = .ok (.aload_n 0, 1) := dk_dX9_image_59.2.2.2.2.2.2.2.1
theorem dk_dX9_image_59_8 : dz_C cX9_image [(73, .getfield 89, 3), (76, .iconst 4, 1), (77, .iload_n 1, 1), (78, .iadd, 1), (79, .aload_n 0, 1), (80, .getfield 30, 3), (83, .getfield 184, 3), (86, .iload_n 1, 1)] := dk_dX9_image_59.2.2.2.2.2.2.2.2
theorem dX9_image_73 : decode cX9_image 73 = .ok (.getfield 89, 3) := dk_dX9_image_59_8.1
theorem dX9_image_76 : decode cX9_image 76 = .ok (.iconst 4, 1) := dk_dX9_image_59_8.2.1
theorem dX9_image_77 : decode cX9_image 77 = .ok (.iload_n 1, 1) := dk_dX9_image_59_8.2.2.1
theorem dX9_image_78 : decode cX9_image 78 = .ok (.iadd, 1) := dk_dX9_image_59_8.2.2.2.1
theorem dX9_image_79 : decode cX9_image 79 = .ok (.aload_n 0, 1) := dk_dX9_image_59_8.2.2.2.2.1
theorem dX9_image_80 : decode cX9_image 80 = .ok (.getfield 30, 3) := dk_dX9_image_59_8.2.2.2.2.2.1
theorem dX9_image_83 : decode cX9_image 83 = .ok (.getfield 184, 3) := dk_dX9_image_59_8.2.2.2.2.2.2.1
theorem dX9_image_86 : decode cX9_image 86 = .ok (.iload_n 1, 1) := dk_dX9_image_59_8.2.2.2.2.2.2.2.1
theorem dk_dX9_image_87 : dz_C cX9_image [(87, .iaload, 1), (88, .iastore, 1), (89, .iinc 1 1, 3), (92, .goto (-31), 3), (95, .iconst 4, 1), (96, .aload_n 0, 1), (97, .getfield 20, 3), (100, .getfield 148, 3), (103, .iadd, 1), (104, .istore_n 1, 1), (105, .aload_n 0, 1), (106, .getfield 89, 3), (109, .iload_n 1, 1), (110, .aload_n 0, 1), (111, .getfield 89, 3), (114, .iload_n 1, 1)] := dz_of (by decide +kernel)
theorem dX9_image_87 : decode cX9_image 87 = .ok (.iaload, 1) := dk_dX9_image_87.1
theorem dX9_image_88 : decode cX9_image 88 = .ok (.iastore, 1) := dk_dX9_image_87.2.1
theorem dX9_image_89 : decode cX9_image 89 = .ok (.iinc 1 1, 3) := dk_dX9_image_87.2.2.1
theorem dX9_image_92 : decode cX9_image 92 = .ok (.goto (-31), 3) := dk_dX9_image_87.2.2.2.1
theorem dX9_image_95 : decode cX9_image 95 = .ok (.iconst 4, 1) := dk_dX9_image_87.2.2.2.2.1
theorem dX9_image_96 : decode cX9_image 96 = .ok (.aload_n 0, 1) := dk_dX9_image_87.2.2.2.2.2.1
theorem dX9_image_97 : decode cX9_image 97 = .ok (.getfield 20, 3) := dk_dX9_image_87.2.2.2.2.2.2.1
theorem dX9_image_100 : decode cX9_image 100 = .ok (.getfield 148, 3) := dk_dX9_image_87.2.2.2.2.2.2.2.1
theorem dk_dX9_image_87_8 : dz_C cX9_image [(103, .iadd, 1), (104, .istore_n 1, 1), (105, .aload_n 0, 1), (106, .getfield 89, 3), (109, .iload_n 1, 1), (110, .aload_n 0, 1), (111, .getfield 89, 3), (114, .iload_n 1, 1)] := dk_dX9_image_87.2.2.2.2.2.2.2.2
theorem dX9_image_103 : decode cX9_image 103 = .ok (.iadd, 1) := dk_dX9_image_87_8.1
theorem dX9_image_104 : decode cX9_image 104 = .ok (.istore_n 1, 1) := dk_dX9_image_87_8.2.1
theorem dX9_image_105 : decode cX9_image 105 = .ok (.aload_n 0, 1) := dk_dX9_image_87_8.2.2.1
theorem dX9_image_106 : decode cX9_image 106 = .ok (.getfield 89, 3) := dk_dX9_image_87_8.2.2.2.1
theorem dX9_image_109 : decode cX9_image 109 = .ok (.iload_n 1, 1) := dk_dX9_image_87_8.2.2.2.2.1
theorem dX9_image_110 : decode cX9_image 110 = .ok (.aload_n 0, 1) := dk_dX9_image_87_8.2.2.2.2.2.1
theorem dX9_image_111 : decode cX9_image 111 = .ok (.getfield 89, 3) := dk_dX9_image_87_8.2.2.2.2.2.2.1
theorem dX9_image_114 : decode cX9_image 114 = .ok (.iload_n 1, 1) := dk_dX9_image_87_8.2.2.2.2.2.2.2.1
theorem dk_dX9_image_115 : dz_C cX9_image [(115, .invokestatic 319, 3), (118, .iastore, 1), (119, .aload_n 0, 1), (120, .iload_n 1, 1), (121, .iconst 1, 1), (122, .iadd, 1), (123, .putfield 92, 3), (126, .aload_n 0, 1), (127, .getfield 92, 3), (130, .ireturn, 1)] := dz_of (by decide +kernel)
theorem dX9_image_115 : decode cX9_image 115 = .ok (.invokestatic 319, 3) := dk_dX9_image_115.1
theorem dX9_image_118 : decode cX9_image 118 = .ok (.iastore, 1) := dk_dX9_image_115.2.1
theorem dX9_image_119 : decode cX9_image 119 = .ok (.aload_n 0, 1) := dk_dX9_image_115.2.2.1
theorem dX9_image_120 : decode cX9_image 120 = .ok (.iload_n 1, 1) := dk_dX9_image_115.2.2.2.1
theorem dX9_image_121 : decode cX9_image 121 = .ok (.iconst 1, 1) := dk_dX9_image_115.2.2.2.2.1
theorem dX9_image_122 : decode cX9_image 122 = .ok (.iadd, 1) := dk_dX9_image_115.2.2.2.2.2.1
theorem dX9_image_123 : decode cX9_image 123 = .ok (.putfield 92, 3) := dk_dX9_image_115.2.2.2.2.2.2.1
theorem dX9_image_126 : decode cX9_image 126 = .ok (.aload_n 0, 1) := dk_dX9_image_115.2.2.2.2.2.2.2.1
theorem dk_dX9_image_115_8 : dz_C cX9_image [(127, .getfield 92, 3), (130, .ireturn, 1)] := dk_dX9_image_115.2.2.2.2.2.2.2.2
theorem dX9_image_127 : decode cX9_image 127 = .ok (.getfield 92, 3) := dk_dX9_image_115_8.1
theorem dX9_image_130 : decode cX9_image 130 = .ok (.ireturn, 1) := dk_dX9_image_115_8.2.1
theorem dk_dX9_init_0 : dz_C cX9_init [(0, .aload_n 0, 1), (1, .invokespecial 1, 3), (4, .aload_n 0, 1), (5, .sipush 1600, 3), (8, .newarray .int, 2), (10, .putfield 9, 3), (13, .aload_n 0, 1), (14, .iconst 0, 1), (15, .putfield 13, 3), (18, .aload_n 0, 1), (19, .new 17, 3), (22, .dup, 1), (23, .invokespecial 19, 3), (26, .putfield 20, 3), (29, .aload_n 0, 1), (30, .new 17, 3)] := dz_of (by decide +kernel)
theorem dX9_init_0 : decode cX9_init 0 = .ok (.aload_n 0, 1) := dk_dX9_init_0.1
theorem dX9_init_1 : decode cX9_init 1 = .ok (.invokespecial 1, 3) := dk_dX9_init_0.2.1
theorem dX9_init_4 : decode cX9_init 4 = .ok (.aload_n 0, 1) := dk_dX9_init_0.2.2.1
theorem dX9_init_5 : decode cX9_init 5 = .ok (.sipush 1600, 3) := dk_dX9_init_0.2.2.2.1
theorem dX9_init_8 : decode cX9_init 8 = .ok (.newarray .int, 2) := dk_dX9_init_0.2.2.2.2.1
theorem dX9_init_10 : decode cX9_init 10 = .ok (.putfield 9, 3) := dk_dX9_init_0.2.2.2.2.2.1
theorem dX9_init_13 : decode cX9_init 13 = .ok (.aload_n 0, 1) := dk_dX9_init_0.2.2.2.2.2.2.1
theorem dX9_init_14 : decode cX9_init 14 = .ok (.iconst 0, 1) := dk_dX9_init_0.2.2.2.2.2.2.2.1
theorem dk_dX9_init_0_8 : dz_C cX9_init [(15, .putfield 13, 3), (18, .aload_n 0, 1), (19, .new 17, 3), (22, .dup, 1), (23, .invokespecial 19, 3), (26, .putfield 20, 3), (29, .aload_n 0, 1), (30, .new 17, 3)] := dk_dX9_init_0.2.2.2.2.2.2.2.2
theorem dX9_init_15 : decode cX9_init 15 = .ok (.putfield 13, 3) := dk_dX9_init_0_8.1
theorem dX9_init_18 : decode cX9_init 18 = .ok (.aload_n 0, 1) := dk_dX9_init_0_8.2.1
theorem dX9_init_19 : decode cX9_init 19 = .ok (.new 17, 3) := dk_dX9_init_0_8.2.2.1
theorem dX9_init_22 : decode cX9_init 22 = .ok (.dup, 1) := dk_dX9_init_0_8.2.2.2.1
theorem dX9_init_23 : decode cX9_init 23 = .ok (.invokespecial 19, 3) := dk_dX9_init_0_8.2.2.2.2.1
theorem dX9_init_26 : decode cX9_init 26 = .ok (.putfield 20, 3) := dk_dX9_init_0_8.2.2.2.2.2.1
theorem dX9_init_29 : decode cX9_init 29 = .ok (.aload_n 0, 1) := dk_dX9_init_0_8.2.2.2.2.2.2.1
theorem dX9_init_30 : decode cX9_init 30 = .ok (.new 17, 3) := dk_dX9_init_0_8.2.2.2.2.2.2.2.1
theorem dk_dX9_init_33 : dz_C cX9_init [(33, .dup, 1), (34, .invokespecial 19, 3), (37, .putfield 24, 3), (40, .aload_n 0, 1), (41, .new 27, 3), (44, .dup, 1), (45, .invokespecial 29, 3), (48, .putfield 30, 3), (51, .aload_n 0, 1), (52, .new 34, 3), (55, .dup, 1), (56, .invokespecial 36, 3), (59, .putfield 37, 3), (62, .aload_n 0, 1), (63, .new 41, 3), (66, .dup, 1)] := dz_of (by decide +kernel)
theorem dX9_init_33 : decode cX9_init 33 = .ok (.dup, 1) := dk_dX9_init_33.1
theorem dX9_init_34 : decode cX9_init 34 = .ok (.invokespecial 19, 3) := dk_dX9_init_33.2.1
theorem dX9_init_37 : decode cX9_init 37 = .ok (.putfield 24, 3) := dk_dX9_init_33.2.2.1
theorem dX9_init_40 : decode cX9_init 40 = .ok (.aload_n 0, 1) := dk_dX9_init_33.2.2.2.1
theorem dX9_init_41 : decode cX9_init 41 = .ok (.new 27, 3) := dk_dX9_init_33.2.2.2.2.1
theorem dX9_init_44 : decode cX9_init 44 = .ok (.dup, 1) := dk_dX9_init_33.2.2.2.2.2.1
theorem dX9_init_45 : decode cX9_init 45 = .ok (.invokespecial 29, 3) := dk_dX9_init_33.2.2.2.2.2.2.1
theorem dX9_init_48 : decode cX9_init 48 = .ok (.putfield 30, 3) := dk_dX9_init_33.2.2.2.2.2.2.2.1
theorem dk_dX9_init_33_8 : dz_C cX9_init [(51, .aload_n 0, 1), (52, .new 34, 3), (55, .dup, 1), (56, .invokespecial 36, 3), (59, .putfield 37, 3), (62, .aload_n 0, 1), (63, .new 41, 3), (66, .dup, 1)] := dk_dX9_init_33.2.2.2.2.2.2.2.2
theorem dX9_init_51 : decode cX9_init 51 = .ok (.aload_n 0, 1) := dk_dX9_init_33_8.1
theorem dX9_init_52 : decode cX9_init 52 = .ok (.new 34, 3) := dk_dX9_init_33_8.2.1
theorem dX9_init_55 : decode cX9_init 55 = .ok (.dup, 1) := dk_dX9_init_33_8.2.2.1
theorem dX9_init_56 : decode cX9_init 56 = .ok (.invokespecial 36, 3) := dk_dX9_init_33_8.2.2.2.1
theorem dX9_init_59 : decode cX9_init 59 = .ok (.putfield 37, 3) := dk_dX9_init_33_8.2.2.2.2.1
theorem dX9_init_62 : decode cX9_init 62 = .ok (.aload_n 0, 1) := dk_dX9_init_33_8.2.2.2.2.2.1
theorem dX9_init_63 : decode cX9_init 63 = .ok (.new 41, 3) := dk_dX9_init_33_8.2.2.2.2.2.2.1
theorem dX9_init_66 : decode cX9_init 66 = .ok (.dup, 1) := dk_dX9_init_33_8.2.2.2.2.2.2.2.1
theorem dk_dX9_init_67 : dz_C cX9_init [(67, .invokespecial 43, 3), (70, .putfield 44, 3), (73, .aload_n 0, 1), (74, .new 48, 3), (77, .dup, 1), (78, .aload_n 0, 1), (79, .getfield 9, 3), (82, .aload_n 0, 1), (83, .getfield 24, 3), (86, .invokespecial 50, 3), (89, .putfield 53, 3), (92, .aload_n 0, 1), (93, .new 57, 3), (96, .dup, 1), (97, .aload_n 0, 1), (98, .getfield 44, 3)] := dz_of (by decide +kernel)
theorem dX9_init_67 : decode cX9_init 67 = .ok (.invokespecial 43, 3) := dk_dX9_init_67.1
theorem dX9_init_70 : decode cX9_init 70 = .ok (.putfield 44, 3) := dk_dX9_init_67.2.1
theorem dX9_init_73 : decode cX9_init 73 = .ok (.aload_n 0, 1) := dk_dX9_init_67.2.2.1
theorem dX9_init_74 : decode cX9_init 74 = .ok (.new 48, 3) := dk_dX9_init_67.2.2.2.1
theorem dX9_init_77 : decode cX9_init 77 = .ok (.dup, 1) := dk_dX9_init_67.2.2.2.2.1
theorem dX9_init_78 : decode cX9_init 78 = .ok (.aload_n 0, 1) := dk_dX9_init_67.2.2.2.2.2.1
theorem dX9_init_79 : decode cX9_init 79 = .ok (.getfield 9, 3) := dk_dX9_init_67.2.2.2.2.2.2.1
theorem dX9_init_82 : decode cX9_init 82 = .ok (.aload_n 0, 1) := dk_dX9_init_67.2.2.2.2.2.2.2.1
theorem dk_dX9_init_67_8 : dz_C cX9_init [(83, .getfield 24, 3), (86, .invokespecial 50, 3), (89, .putfield 53, 3), (92, .aload_n 0, 1), (93, .new 57, 3), (96, .dup, 1), (97, .aload_n 0, 1), (98, .getfield 44, 3)] := dk_dX9_init_67.2.2.2.2.2.2.2.2
theorem dX9_init_83 : decode cX9_init 83 = .ok (.getfield 24, 3) := dk_dX9_init_67_8.1
theorem dX9_init_86 : decode cX9_init 86 = .ok (.invokespecial 50, 3) := dk_dX9_init_67_8.2.1
theorem dX9_init_89 : decode cX9_init 89 = .ok (.putfield 53, 3) := dk_dX9_init_67_8.2.2.1
theorem dX9_init_92 : decode cX9_init 92 = .ok (.aload_n 0, 1) := dk_dX9_init_67_8.2.2.2.1
theorem dX9_init_93 : decode cX9_init 93 = .ok (.new 57, 3) := dk_dX9_init_67_8.2.2.2.2.1
theorem dX9_init_96 : decode cX9_init 96 = .ok (.dup, 1) := dk_dX9_init_67_8.2.2.2.2.2.1
theorem dX9_init_97 : decode cX9_init 97 = .ok (.aload_n 0, 1) := dk_dX9_init_67_8.2.2.2.2.2.2.1
theorem dX9_init_98 : decode cX9_init 98 = .ok (.getfield 44, 3) := dk_dX9_init_67_8.2.2.2.2.2.2.2.1
theorem dk_dX9_init_101 : dz_C cX9_init [(101, .aload_n 0, 1), (102, .getfield 20, 3), (105, .invokespecial 59, 3), (108, .putfield 62, 3), (111, .aload_n 0, 1), (112, .new 66, 3), (115, .dup, 1), (116, .aload_n 0, 1), (117, .getfield 62, 3), (120, .invokespecial 68, 3), (123, .putfield 71, 3), (126, .aload_n 0, 1), (127, .new 75, 3), (130, .dup, 1), (131, .aload_n 0, 1), (132, .getfield 62, 3)] := dz_of (by decide +kernel)
theorem dX9_init_101 : decode cX9_init 101 = .ok (.aload_n 0, 1) := dk_dX9_init_101.1
theorem dX9_init_102 : decode cX9_init 102 = .ok (.getfield 20, 3) := dk_dX9_init_101.2.1
theorem dX9_init_105 : decode cX9_init 105 = .ok (.invokespecial 59, 3) := dk_dX9_init_101.2.2.1
theorem dX9_init_108 : decode cX9_init 108 = .ok (.putfield 62, 3) := dk_dX9_init_101.2.2.2.1
theorem dX9_init_111 : decode cX9_init 111 = .ok (.aload_n 0, 1) := dk_dX9_init_101.2.2.2.2.1
theorem dX9_init_112 : decode cX9_init 112 = .ok (.new 66, 3) := dk_dX9_init_101.2.2.2.2.2.1
theorem dX9_init_115 : decode cX9_init 115 = .ok (.dup, 1) := dk_dX9_init_101.2.2.2.2.2.2.1
theorem dX9_init_116 : decode cX9_init 116 = .ok (.aload_n 0, 1) := dk_dX9_init_101.2.2.2.2.2.2.2.1
theorem dk_dX9_init_101_8 : dz_C cX9_init [(117, .getfield 62, 3), (120, .invokespecial 68, 3), (123, .putfield 71, 3), (126, .aload_n 0, 1), (127, .new 75, 3), (130, .dup, 1), (131, .aload_n 0, 1), (132, .getfield 62, 3)] := dk_dX9_init_101.2.2.2.2.2.2.2.2
theorem dX9_init_117 : decode cX9_init 117 = .ok (.getfield 62, 3) := dk_dX9_init_101_8.1
theorem dX9_init_120 : decode cX9_init 120 = .ok (.invokespecial 68, 3) := dk_dX9_init_101_8.2.1
theorem dX9_init_123 : decode cX9_init 123 = .ok (.putfield 71, 3) := dk_dX9_init_101_8.2.2.1
theorem dX9_init_126 : decode cX9_init 126 = .ok (.aload_n 0, 1) := dk_dX9_init_101_8.2.2.2.1
theorem dX9_init_127 : decode cX9_init 127 = .ok (.new 75, 3) := dk_dX9_init_101_8.2.2.2.2.1
theorem dX9_init_130 : decode cX9_init 130 = .ok (.dup, 1) := dk_dX9_init_101_8.2.2.2.2.2.1
theorem dX9_init_131 : decode cX9_init 131 = .ok (.aload_n 0, 1) := dk_dX9_init_101_8.2.2.2.2.2.2.1
theorem dX9_init_132 : decode cX9_init 132 = .ok (.getfield 62, 3) := dk_dX9_init_101_8.2.2.2.2.2.2.2.1
theorem dk_dX9_init_135 : dz_C cX9_init [(135, .invokespecial 77, 3), (138, .putfield 78, 3), (141, .aload_n 0, 1), (142, .new 82, 3), (145, .dup, 1), (146, .aload_n 0, 1), (147, .getfield 62, 3), (150, .invokespecial 84, 3), (153, .putfield 85, 3), (156, .aload_n 0, 1), (157, .bipush 11, 2), (159, .newarray .int, 2), (161, .putfield 89, 3), (164, .aload_n 0, 1), (165, .iconst 0, 1), (166, .putfield 92, 3)] := dz_of (by decide +kernel)
theorem dX9_init_135 : decode cX9_init 135 = .ok (.invokespecial 77, 3) := dk_dX9_init_135.1
theorem dX9_init_138 : decode cX9_init 138 = .ok (.putfield 78, 3) := dk_dX9_init_135.2.1
theorem dX9_init_141 : decode cX9_init 141 = .ok (.aload_n 0, 1) := dk_dX9_init_135.2.2.1
theorem dX9_init_142 : decode cX9_init 142 = .ok (.new 82, 3) := dk_dX9_init_135.2.2.2.1
theorem dX9_init_145 : decode cX9_init 145 = .ok (.dup, 1) := dk_dX9_init_135.2.2.2.2.1
theorem dX9_init_146 : decode cX9_init 146 = .ok (.aload_n 0, 1) := dk_dX9_init_135.2.2.2.2.2.1
theorem dX9_init_147 : decode cX9_init 147 = .ok (.getfield 62, 3) := dk_dX9_init_135.2.2.2.2.2.2.1
theorem dX9_init_150 : decode cX9_init 150 = .ok (.invokespecial 84, 3) := dk_dX9_init_135.2.2.2.2.2.2.2.1
theorem dk_dX9_init_135_8 : dz_C cX9_init [(153, .putfield 85, 3), (156, .aload_n 0, 1), (157, .bipush 11, 2), (159, .newarray .int, 2), (161, .putfield 89, 3), (164, .aload_n 0, 1), (165, .iconst 0, 1), (166, .putfield 92, 3)] := dk_dX9_init_135.2.2.2.2.2.2.2.2
theorem dX9_init_153 : decode cX9_init 153 = .ok (.putfield 85, 3) := dk_dX9_init_135_8.1
theorem dX9_init_156 : decode cX9_init 156 = .ok (.aload_n 0, 1) := dk_dX9_init_135_8.2.1
theorem dX9_init_157 : decode cX9_init 157 = .ok (.bipush 11, 2) := dk_dX9_init_135_8.2.2.1
theorem dX9_init_159 : decode cX9_init 159 = .ok (.newarray .int, 2) := dk_dX9_init_135_8.2.2.2.1
theorem dX9_init_161 : decode cX9_init 161 = .ok (.putfield 89, 3) := dk_dX9_init_135_8.2.2.2.2.1
theorem dX9_init_164 : decode cX9_init 164 = .ok (.aload_n 0, 1) := dk_dX9_init_135_8.2.2.2.2.2.1
theorem dX9_init_165 : decode cX9_init 165 = .ok (.iconst 0, 1) := dk_dX9_init_135_8.2.2.2.2.2.2.1
theorem dX9_init_166 : decode cX9_init 166 = .ok (.putfield 92, 3) := dk_dX9_init_135_8.2.2.2.2.2.2.2.1
theorem dk_dX9_init_169 : dz_C cX9_init [(169, .aload_n 0, 1), (170, .bipush 6, 2), (172, .newarray .int, 2), (174, .putfield 95, 3), (177, .aload_n 0, 1), (178, .lconst 1, 1), (179, .putfield 98, 3), (182, .return_, 1)] := dz_of (by decide +kernel)
theorem dX9_init_169 : decode cX9_init 169 = .ok (.aload_n 0, 1) := dk_dX9_init_169.1
theorem dX9_init_170 : decode cX9_init 170 = .ok (.bipush 6, 2) := dk_dX9_init_169.2.1
theorem dX9_init_172 : decode cX9_init 172 = .ok (.newarray .int, 2) := dk_dX9_init_169.2.2.1
theorem dX9_init_174 : decode cX9_init 174 = .ok (.putfield 95, 3) := dk_dX9_init_169.2.2.2.1
theorem dX9_init_177 : decode cX9_init 177 = .ok (.aload_n 0, 1) := dk_dX9_init_169.2.2.2.2.1
theorem dX9_init_178 : decode cX9_init 178 = .ok (.lconst 1, 1) := dk_dX9_init_169.2.2.2.2.2.1
theorem dX9_init_179 : decode cX9_init 179 = .ok (.putfield 98, 3) := dk_dX9_init_169.2.2.2.2.2.2.1
theorem dX9_init_182 : decode cX9_init 182 = .ok (.return_, 1) := dk_dX9_init_169.2.2.2.2.2.2.2.1
theorem dk_dX9_isImage_0 : dz_C cX9_isImage [(0, .aload_n 0, 1), (1, .invokevirtual 218, 3), (4, .ifCond .eq 16, 3), (7, .iload_n 1, 1), (8, .aload_n 0, 1), (9, .getfield 20, 3), (12, .getfield 148, 3), (15, .iconst 5, 1), (16, .iadd, 1), (17, .if_icmp .eq 5, 3), (20, .iconst 0, 1), (21, .ireturn, 1), (22, .iconst 0, 1), (23, .istore_n 2, 1), (24, .iload_n 2, 1), (25, .aload_n 0, 1)] := dz_of (by decide +kernel)
theorem dX9_isImage_0 : decode cX9_isImage 0 = .ok (.aload_n 0, 1) := dk_dX9_isImage_0.1
theorem dX9_isImage_1 : decode cX9_isImage 1 = .ok (.invokevirtual 218, 3) := dk_dX9_isImage_0.2.1
theorem dX9_isImage_4 : decode cX9_isImage 4 = .ok (.ifCond .eq 16, 3) := dk_dX9_isImage_0.2.2.1
theorem dX9_isImage_7 : decode cX9_isImage 7 = .ok (.iload_n 1, 1) := dk_dX9_isImage_0.2.2.2.1
theorem dX9_isImage_8 : decode cX9_isImage 8 = .ok (.aload_n 0, 1) := dk_dX9_isImage_0.2.2.2.2.1
theorem dX9_isImage_9 : decode cX9_isImage 9 = .ok (.getfield 20, 3) := dk_dX9_isImage_0.2.2.2.2.2.1
theorem dX9_isImage_12 : decode cX9_isImage 12 = .ok (.getfield 148, 3) := dk_dX9_isImage_0.2.2.2.2.2.2.1
theorem dX9_isImage_15 : decode cX9_isImage 15 = .ok (.iconst 5, 1) := dk_dX9_isImage_0.2.2.2.2.2.2.2.1
theorem dk_dX9_isImage_0_8 : dz_C cX9_isImage [(16, .iadd, 1), (17, .if_icmp .eq 5, 3), (20, .iconst 0, 1), (21, .ireturn, 1), (22, .iconst 0, 1), (23, .istore_n 2, 1), (24, .iload_n 2, 1), (25, .aload_n 0, 1)] := dk_dX9_isImage_0.2.2.2.2.2.2.2.2
theorem dX9_isImage_16 : decode cX9_isImage 16 = .ok (.iadd, 1) := dk_dX9_isImage_0_8.1
theorem dX9_isImage_17 : decode cX9_isImage 17 = .ok (.if_icmp .eq 5, 3) := dk_dX9_isImage_0_8.2.1
theorem dX9_isImage_20 : decode cX9_isImage 20 = .ok (.iconst 0, 1) := dk_dX9_isImage_0_8.2.2.1
theorem dX9_isImage_21 : decode cX9_isImage 21 = .ok (.ireturn, 1) := dk_dX9_isImage_0_8.2.2.2.1
theorem dX9_isImage_22 : decode cX9_isImage 22 = .ok (.iconst 0, 1) := dk_dX9_isImage_0_8.2.2.2.2.1
theorem dX9_isImage_23 : decode cX9_isImage 23 = .ok (.istore_n 2, 1) := dk_dX9_isImage_0_8.2.2.2.2.2.1
theorem dX9_isImage_24 : decode cX9_isImage 24 = .ok (.iload_n 2, 1) := dk_dX9_isImage_0_8.2.2.2.2.2.2.1
theorem dX9_isImage_25 : decode cX9_isImage 25 = .ok (.aload_n 0, 1) := dk_dX9_isImage_0_8.2.2.2.2.2.2.2.1
theorem dk_dX9_isImage_26 : dz_C cX9_isImage [(26, .getfield 20, 3), (29, .getfield 148, 3), (32, .if_icmp .ge 24, 3), (35, .aload_n 0, 1), (36, .getfield 9, 3), (39, .iconst 4, 1), (40, .iload_n 2, 1), (41, .iadd, 1), (42, .iaload, 1), (43, .bipush 9, 2), (45, .if_icmp .le 5, 3), (48, .iconst 0, 1), (49, .ireturn, 1), (50, .iinc 2 1, 3), (53, .goto (-29), 3), (56, .aload_n 0, 1)] := dz_of (by decide +kernel)
theorem dX9_isImage_26 : decode cX9_isImage 26 = .ok (.getfield 20, 3) := dk_dX9_isImage_26.1
theorem dX9_isImage_29 : decode cX9_isImage 29 = .ok (.getfield 148, 3) := dk_dX9_isImage_26.2.1
theorem dX9_isImage_32 : decode cX9_isImage 32 = .ok (.if_icmp .ge 24, 3) := dk_dX9_isImage_26.2.2.1
theorem dX9_isImage_35 : decode cX9_isImage 35 = .ok (.aload_n 0, 1) := dk_dX9_isImage_26.2.2.2.1
theorem dX9_isImage_36 : decode cX9_isImage 36 = .ok (.getfield 9, 3) := dk_dX9_isImage_26.2.2.2.2.1
theorem dX9_isImage_39 : decode cX9_isImage 39 = .ok (.iconst 4, 1) := dk_dX9_isImage_26.2.2.2.2.2.1
theorem dX9_isImage_40 : decode cX9_isImage 40 = .ok (.iload_n 2, 1) := dk_dX9_isImage_26.2.2.2.2.2.2.1
theorem dX9_isImage_41 : decode cX9_isImage 41 = .ok (.iadd, 1) := dk_dX9_isImage_26.2.2.2.2.2.2.2.1
theorem dk_dX9_isImage_26_8 : dz_C cX9_isImage [(42, .iaload, 1), (43, .bipush 9, 2), (45, .if_icmp .le 5, 3), (48, .iconst 0, 1), (49, .ireturn, 1), (50, .iinc 2 1, 3), (53, .goto (-29), 3), (56, .aload_n 0, 1)] := dk_dX9_isImage_26.2.2.2.2.2.2.2.2
theorem dX9_isImage_42 : decode cX9_isImage 42 = .ok (.iaload, 1) := dk_dX9_isImage_26_8.1
theorem dX9_isImage_43 : decode cX9_isImage 43 = .ok (.bipush 9, 2) := dk_dX9_isImage_26_8.2.1
theorem dX9_isImage_45 : decode cX9_isImage 45 = .ok (.if_icmp .le 5, 3) := dk_dX9_isImage_26_8.2.2.1
theorem dX9_isImage_48 : decode cX9_isImage 48 = .ok (.iconst 0, 1) := dk_dX9_isImage_26_8.2.2.2.1
theorem dX9_isImage_49 : decode cX9_isImage 49 = .ok (.ireturn, 1) := dk_dX9_isImage_26_8.2.2.2.2.1
theorem dX9_isImage_50 : decode cX9_isImage 50 = .ok (.iinc 2 1, 3) := dk_dX9_isImage_26_8.2.2.2.2.2.1
theorem dX9_isImage_53 : decode cX9_isImage 53 = .ok (.goto (-29), 3) := dk_dX9_isImage_26_8.2.2.2.2.2.2.1
theorem dX9_isImage_56 : decode cX9_isImage 56 = .ok (.aload_n 0, 1) := dk_dX9_isImage_26_8.2.2.2.2.2.2.2.1
theorem dk_dX9_isImage_57 : dz_C cX9_isImage [(57, .getfield 9, 3), (60, .iconst 0, 1), (61, .iaload, 1), (62, .sipush 256, 3), (65, .imul, 1), (66, .aload_n 0, 1), (67, .getfield 9, 3), (70, .iconst 1, 1), (71, .iaload, 1), (72, .iadd, 1), (73, .sipush 999, 3), (76, .if_icmp .gt 54, 3), (79, .aload_n 0, 1), (80, .getfield 9, 3), (83, .iconst 2, 1), (84, .iaload, 1)] := dz_of (by decide +kernel)
theorem dX9_isImage_57 : decode cX9_isImage 57 = .ok (.getfield 9, 3) := dk_dX9_isImage_57.1
theorem dX9_isImage_60 : decode cX9_isImage 60 = .ok (.iconst 0, 1) := dk_dX9_isImage_57.2.1
theorem dX9_isImage_61 : decode cX9_isImage 61 = .ok (.iaload, 1) := dk_dX9_isImage_57.2.2.1
theorem dX9_isImage_62 : decode cX9_isImage 62 = .ok (.sipush 256, 3) := dk_dX9_isImage_57.2.2.2.1
theorem dX9_isImage_65 : decode cX9_isImage 65 = .ok (.imul, 1) := dk_dX9_isImage_57.2.2.2.2.1
theorem dX9_isImage_66 : decode cX9_isImage 66 = .ok (.aload_n 0, 1) := dk_dX9_isImage_57.2.2.2.2.2.1
theorem dX9_isImage_67 : decode cX9_isImage 67 = .ok (.getfield 9, 3) := dk_dX9_isImage_57.2.2.2.2.2.2.1
theorem dX9_isImage_70 : decode cX9_isImage 70 = .ok (.iconst 1, 1) := dk_dX9_isImage_57.2.2.2.2.2.2.2.1
theorem dk_dX9_isImage_57_8 : dz_C cX9_isImage [(71, .iaload, 1), (72, .iadd, 1), (73, .sipush 999, 3), (76, .if_icmp .gt 54, 3), (79, .aload_n 0, 1), (80, .getfield 9, 3), (83, .iconst 2, 1), (84, .iaload, 1)] := dk_dX9_isImage_57.2.2.2.2.2.2.2.2
theorem dX9_isImage_71 : decode cX9_isImage 71 = .ok (.iaload, 1) := dk_dX9_isImage_57_8.1
theorem dX9_isImage_72 : decode cX9_isImage 72 = .ok (.iadd, 1) := dk_dX9_isImage_57_8.2.1
theorem dX9_isImage_73 : decode cX9_isImage 73 = .ok (.sipush 999, 3) := dk_dX9_isImage_57_8.2.2.1
theorem dX9_isImage_76 : decode cX9_isImage 76 = .ok (.if_icmp .gt 54, 3) := dk_dX9_isImage_57_8.2.2.2.1
theorem dX9_isImage_79 : decode cX9_isImage 79 = .ok (.aload_n 0, 1) := dk_dX9_isImage_57_8.2.2.2.2.1
theorem dX9_isImage_80 : decode cX9_isImage 80 = .ok (.getfield 9, 3) := dk_dX9_isImage_57_8.2.2.2.2.2.1
theorem dX9_isImage_83 : decode cX9_isImage 83 = .ok (.iconst 2, 1) := dk_dX9_isImage_57_8.2.2.2.2.2.2.1
theorem dX9_isImage_84 : decode cX9_isImage 84 = .ok (.iaload, 1) := dk_dX9_isImage_57_8.2.2.2.2.2.2.2.1
theorem dk_dX9_isImage_85 : dz_C cX9_isImage [(85, .iconst 3, 1), (86, .if_icmp .ge 44, 3), (89, .aload_n 0, 1), (90, .getfield 20, 3), (93, .aload_n 0, 1), (94, .getfield 9, 3), (97, .iconst 3, 1), (98, .iaload, 1), (99, .invokevirtual 284, 3), (102, .ifCond .eq 28, 3), (105, .aload_n 0, 1), (106, .getfield 9, 3), (109, .iload_n 1, 1), (110, .iconst 1, 1), (111, .isub, 1), (112, .iaload, 1)] := dz_of (by decide +kernel)
theorem dX9_isImage_85 : decode cX9_isImage 85 = .ok (.iconst 3, 1) := dk_dX9_isImage_85.1
theorem dX9_isImage_86 : decode cX9_isImage 86 = .ok (.if_icmp .ge 44, 3) := dk_dX9_isImage_85.2.1
theorem dX9_isImage_89 : decode cX9_isImage 89 = .ok (.aload_n 0, 1) := dk_dX9_isImage_85.2.2.1
theorem dX9_isImage_90 : decode cX9_isImage 90 = .ok (.getfield 20, 3) := dk_dX9_isImage_85.2.2.2.1
theorem dX9_isImage_93 : decode cX9_isImage 93 = .ok (.aload_n 0, 1) := dk_dX9_isImage_85.2.2.2.2.1
theorem dX9_isImage_94 : decode cX9_isImage 94 = .ok (.getfield 9, 3) := dk_dX9_isImage_85.2.2.2.2.2.1
theorem dX9_isImage_97 : decode cX9_isImage 97 = .ok (.iconst 3, 1) := dk_dX9_isImage_85.2.2.2.2.2.2.1
theorem dX9_isImage_98 : decode cX9_isImage 98 = .ok (.iaload, 1) := dk_dX9_isImage_85.2.2.2.2.2.2.2.1
theorem dk_dX9_isImage_85_8 : dz_C cX9_isImage [(99, .invokevirtual 284, 3), (102, .ifCond .eq 28, 3), (105, .aload_n 0, 1), (106, .getfield 9, 3), (109, .iload_n 1, 1), (110, .iconst 1, 1), (111, .isub, 1), (112, .iaload, 1)] := dk_dX9_isImage_85.2.2.2.2.2.2.2.2
theorem dX9_isImage_99 : decode cX9_isImage 99 = .ok (.invokevirtual 284, 3) := dk_dX9_isImage_85_8.1
theorem dX9_isImage_102 : decode cX9_isImage 102 = .ok (.ifCond .eq 28, 3) := dk_dX9_isImage_85_8.2.1
theorem dX9_isImage_105 : decode cX9_isImage 105 = .ok (.aload_n 0, 1) := dk_dX9_isImage_85_8.2.2.1
theorem dX9_isImage_106 : decode cX9_isImage 106 = .ok (.getfield 9, 3) := dk_dX9_isImage_85_8.2.2.2.1
theorem dX9_isImage_109 : decode cX9_isImage 109 = .ok (.iload_n 1, 1) := dk_dX9_isImage_85_8.2.2.2.2.1
theorem dX9_isImage_110 : decode cX9_isImage 110 = .ok (.iconst 1, 1) := dk_dX9_isImage_85_8.2.2.2.2.2.1
theorem dX9_isImage_111 : decode cX9_isImage 111 = .ok (.isub, 1) := dk_dX9_isImage_85_8.2.2.2.2.2.2.1
theorem dX9_isImage_112 : decode cX9_isImage 112 = .ok (.iaload, 1) := dk_dX9_isImage_85_8.2.2.2.2.2.2.2.1
theorem dk_dX9_isImage_113 : dz_C cX9_isImage [(113, .aload_n 0, 1), (114, .getfield 9, 3), (117, .iload_n 1, 1), (118, .iconst 1, 1), (119, .isub, 1), (120, .invokestatic 319, 3), (123, .if_icmp .ne 7, 3), (126, .iconst 1, 1), (127, .goto 4, 3), (130, .iconst 0, 1), (131, .ireturn, 1)] := dz_of (by decide +kernel)
theorem dX9_isImage_113 : decode cX9_isImage 113 = .ok (.aload_n 0, 1) := dk_dX9_isImage_113.1
theorem dX9_isImage_114 : decode cX9_isImage 114 = .ok (.getfield 9, 3) := dk_dX9_isImage_113.2.1
theorem dX9_isImage_117 : decode cX9_isImage 117 = .ok (.iload_n 1, 1) := dk_dX9_isImage_113.2.2.1
theorem dX9_isImage_118 : decode cX9_isImage 118 = .ok (.iconst 1, 1) := dk_dX9_isImage_113.2.2.2.1
theorem dX9_isImage_119 : decode cX9_isImage 119 = .ok (.isub, 1) := dk_dX9_isImage_113.2.2.2.2.1
theorem dX9_isImage_120 : decode cX9_isImage 120 = .ok (.invokestatic 319, 3) := dk_dX9_isImage_113.2.2.2.2.2.1
theorem dX9_isImage_123 : decode cX9_isImage 123 = .ok (.if_icmp .ne 7, 3) := dk_dX9_isImage_113.2.2.2.2.2.2.1
theorem dX9_isImage_126 : decode cX9_isImage 126 = .ok (.iconst 1, 1) := dk_dX9_isImage_113.2.2.2.2.2.2.2.1
theorem dk_dX9_isImage_113_8 : dz_C cX9_isImage [(127, .goto 4, 3), (130, .iconst 0, 1), (131, .ireturn, 1)] := dk_dX9_isImage_113.2.2.2.2.2.2.2.2
theorem dX9_isImage_127 : decode cX9_isImage 127 = .ok (.goto 4, 3) := dk_dX9_isImage_113_8.1
theorem dX9_isImage_130 : decode cX9_isImage 130 = .ok (.iconst 0, 1) := dk_dX9_isImage_113_8.2.1
theorem dX9_isImage_131 : decode cX9_isImage 131 = .ok (.ireturn, 1) := dk_dX9_isImage_113_8.2.2.1
theorem dk_dX9_isKind_0 : dz_C cX9_isKind [(0, .iload_n 1, 1), (1, .ifCond .lt 18, 3), (4, .iload_n 1, 1), (5, .aload_n 0, 1), (6, .getfield 20, 3), (9, .getfield 148, 3), (12, .if_icmp .ge 7, 3), (15, .iconst 1, 1), (16, .goto 4, 3), (19, .iconst 0, 1), (20, .ireturn, 1)] := dz_of (by decide +kernel)
theorem dX9_isKind_0 : decode cX9_isKind 0 = .ok (.iload_n 1, 1) := dk_dX9_isKind_0.1
theorem dX9_isKind_1 : decode cX9_isKind 1 = .ok (.ifCond .lt 18, 3) := dk_dX9_isKind_0.2.1
theorem dX9_isKind_4 : decode cX9_isKind 4 = .ok (.iload_n 1, 1) := dk_dX9_isKind_0.2.2.1
theorem dX9_isKind_5 : decode cX9_isKind 5 = .ok (.aload_n 0, 1) := dk_dX9_isKind_0.2.2.2.1
theorem dX9_isKind_6 : decode cX9_isKind 6 = .ok (.getfield 20, 3) := dk_dX9_isKind_0.2.2.2.2.1
theorem dX9_isKind_9 : decode cX9_isKind 9 = .ok (.getfield 148, 3) := dk_dX9_isKind_0.2.2.2.2.2.1
theorem dX9_isKind_12 : decode cX9_isKind 12 = .ok (.if_icmp .ge 7, 3) := dk_dX9_isKind_0.2.2.2.2.2.2.1
theorem dX9_isKind_15 : decode cX9_isKind 15 = .ok (.iconst 1, 1) := dk_dX9_isKind_0.2.2.2.2.2.2.2.1
theorem dk_dX9_isKind_0_8 : dz_C cX9_isKind [(16, .goto 4, 3), (19, .iconst 0, 1), (20, .ireturn, 1)] := dk_dX9_isKind_0.2.2.2.2.2.2.2.2
theorem dX9_isKind_16 : decode cX9_isKind 16 = .ok (.goto 4, 3) := dk_dX9_isKind_0_8.1
theorem dX9_isKind_19 : decode cX9_isKind 19 = .ok (.iconst 0, 1) := dk_dX9_isKind_0_8.2.1
theorem dX9_isKind_20 : decode cX9_isKind 20 = .ok (.ireturn, 1) := dk_dX9_isKind_0_8.2.2.1
theorem dk_dX9_isWalker_0 : dz_C cX9_isWalker [(0, .iload_n 1, 1), (1, .ifCond .lt 18, 3), (4, .iload_n 1, 1), (5, .aload_n 0, 1), (6, .getfield 20, 3), (9, .getfield 151, 3), (12, .if_icmp .ge 7, 3), (15, .iconst 1, 1), (16, .goto 4, 3), (19, .iconst 0, 1), (20, .ireturn, 1)] := dz_of (by decide +kernel)
theorem dX9_isWalker_0 : decode cX9_isWalker 0 = .ok (.iload_n 1, 1) := dk_dX9_isWalker_0.1
theorem dX9_isWalker_1 : decode cX9_isWalker 1 = .ok (.ifCond .lt 18, 3) := dk_dX9_isWalker_0.2.1
theorem dX9_isWalker_4 : decode cX9_isWalker 4 = .ok (.iload_n 1, 1) := dk_dX9_isWalker_0.2.2.1
theorem dX9_isWalker_5 : decode cX9_isWalker 5 = .ok (.aload_n 0, 1) := dk_dX9_isWalker_0.2.2.2.1
theorem dX9_isWalker_6 : decode cX9_isWalker 6 = .ok (.getfield 20, 3) := dk_dX9_isWalker_0.2.2.2.2.1
theorem dX9_isWalker_9 : decode cX9_isWalker 9 = .ok (.getfield 151, 3) := dk_dX9_isWalker_0.2.2.2.2.2.1
theorem dX9_isWalker_12 : decode cX9_isWalker 12 = .ok (.if_icmp .ge 7, 3) := dk_dX9_isWalker_0.2.2.2.2.2.2.1
theorem dX9_isWalker_15 : decode cX9_isWalker 15 = .ok (.iconst 1, 1) := dk_dX9_isWalker_0.2.2.2.2.2.2.2.1
theorem dk_dX9_isWalker_0_8 : dz_C cX9_isWalker [(16, .goto 4, 3), (19, .iconst 0, 1), (20, .ireturn, 1)] := dk_dX9_isWalker_0.2.2.2.2.2.2.2.2
theorem dX9_isWalker_16 : decode cX9_isWalker 16 = .ok (.goto 4, 3) := dk_dX9_isWalker_0_8.1
theorem dX9_isWalker_19 : decode cX9_isWalker 19 = .ok (.iconst 0, 1) := dk_dX9_isWalker_0_8.2.1
theorem dX9_isWalker_20 : decode cX9_isWalker 20 = .ok (.ireturn, 1) := dk_dX9_isWalker_0_8.2.2.1
theorem dk_dX9_kind_0 : dz_C cX9_kind [(0, .aload_n 0, 1), (1, .iload_n 1, 1), (2, .invokevirtual 169, 3), (5, .ifCond .ne 5, 3), (8, .iconst (-1), 1), (9, .ireturn, 1), (10, .iload_n 2, 1), (40, .aload_n 0, 1), (41, .getfield 20, 3), (44, .getfield 178, 3), (47, .iload_n 1, 1), (48, .iaload, 1), (49, .ireturn, 1), (50, .aload_n 0, 1), (51, .getfield 20, 3), (54, .getfield 181, 3)] := dz_of (by decide +kernel)
theorem dX9_kind_0 : decode cX9_kind 0 = .ok (.aload_n 0, 1) := dk_dX9_kind_0.1
theorem dX9_kind_1 : decode cX9_kind 1 = .ok (.iload_n 1, 1) := dk_dX9_kind_0.2.1
theorem dX9_kind_2 : decode cX9_kind 2 = .ok (.invokevirtual 169, 3) := dk_dX9_kind_0.2.2.1
theorem dX9_kind_5 : decode cX9_kind 5 = .ok (.ifCond .ne 5, 3) := dk_dX9_kind_0.2.2.2.1
theorem dX9_kind_8 : decode cX9_kind 8 = .ok (.iconst (-1), 1) := dk_dX9_kind_0.2.2.2.2.1
theorem dX9_kind_9 : decode cX9_kind 9 = .ok (.ireturn, 1) := dk_dX9_kind_0.2.2.2.2.2.1
theorem dX9_kind_10 : decode cX9_kind 10 = .ok (.iload_n 2, 1) := dk_dX9_kind_0.2.2.2.2.2.2.1
theorem dX9_kind_40 : decode cX9_kind 40 = .ok (.aload_n 0, 1) := dk_dX9_kind_0.2.2.2.2.2.2.2.1
theorem dk_dX9_kind_0_8 : dz_C cX9_kind [(41, .getfield 20, 3), (44, .getfield 178, 3), (47, .iload_n 1, 1), (48, .iaload, 1), (49, .ireturn, 1), (50, .aload_n 0, 1), (51, .getfield 20, 3), (54, .getfield 181, 3)] := dk_dX9_kind_0.2.2.2.2.2.2.2.2
theorem dX9_kind_41 : decode cX9_kind 41 = .ok (.getfield 20, 3) := dk_dX9_kind_0_8.1
theorem dX9_kind_44 : decode cX9_kind 44 = .ok (.getfield 178, 3) := dk_dX9_kind_0_8.2.1
theorem dX9_kind_47 : decode cX9_kind 47 = .ok (.iload_n 1, 1) := dk_dX9_kind_0_8.2.2.1
theorem dX9_kind_48 : decode cX9_kind 48 = .ok (.iaload, 1) := dk_dX9_kind_0_8.2.2.2.1
theorem dX9_kind_49 : decode cX9_kind 49 = .ok (.ireturn, 1) := dk_dX9_kind_0_8.2.2.2.2.1
theorem dX9_kind_50 : decode cX9_kind 50 = .ok (.aload_n 0, 1) := dk_dX9_kind_0_8.2.2.2.2.2.1
theorem dX9_kind_51 : decode cX9_kind 51 = .ok (.getfield 20, 3) := dk_dX9_kind_0_8.2.2.2.2.2.2.1
theorem dX9_kind_54 : decode cX9_kind 54 = .ok (.getfield 181, 3) := dk_dX9_kind_0_8.2.2.2.2.2.2.2.1
theorem dX9_kind_11 : decode cX9_kind 11 = .ok (.tableswitch 68 0 3 #[29, 39, 49, 59], 29) := by decide +kernel
theorem dk_dX9_kind_57 : dz_C cX9_kind [(57, .iload_n 1, 1), (58, .iaload, 1), (59, .ireturn, 1), (60, .aload_n 0, 1), (61, .getfield 30, 3), (64, .getfield 184, 3), (67, .iload_n 1, 1), (68, .iaload, 1), (69, .ireturn, 1), (70, .aload_n 0, 1), (71, .getfield 20, 3), (74, .iload_n 1, 1), (75, .invokevirtual 187, 3), (78, .ireturn, 1), (79, .iconst (-1), 1), (80, .ireturn, 1)] := dz_of (by decide +kernel)
theorem dX9_kind_57 : decode cX9_kind 57 = .ok (.iload_n 1, 1) := dk_dX9_kind_57.1
theorem dX9_kind_58 : decode cX9_kind 58 = .ok (.iaload, 1) := dk_dX9_kind_57.2.1
theorem dX9_kind_59 : decode cX9_kind 59 = .ok (.ireturn, 1) := dk_dX9_kind_57.2.2.1
theorem dX9_kind_60 : decode cX9_kind 60 = .ok (.aload_n 0, 1) := dk_dX9_kind_57.2.2.2.1
theorem dX9_kind_61 : decode cX9_kind 61 = .ok (.getfield 30, 3) := dk_dX9_kind_57.2.2.2.2.1
theorem dX9_kind_64 : decode cX9_kind 64 = .ok (.getfield 184, 3) := dk_dX9_kind_57.2.2.2.2.2.1
theorem dX9_kind_67 : decode cX9_kind 67 = .ok (.iload_n 1, 1) := dk_dX9_kind_57.2.2.2.2.2.2.1
theorem dX9_kind_68 : decode cX9_kind 68 = .ok (.iaload, 1) := dk_dX9_kind_57.2.2.2.2.2.2.2.1
theorem dk_dX9_kind_57_8 : dz_C cX9_kind [(69, .ireturn, 1), (70, .aload_n 0, 1), (71, .getfield 20, 3), (74, .iload_n 1, 1), (75, .invokevirtual 187, 3), (78, .ireturn, 1), (79, .iconst (-1), 1), (80, .ireturn, 1)] := dk_dX9_kind_57.2.2.2.2.2.2.2.2
theorem dX9_kind_69 : decode cX9_kind 69 = .ok (.ireturn, 1) := dk_dX9_kind_57_8.1
theorem dX9_kind_70 : decode cX9_kind 70 = .ok (.aload_n 0, 1) := dk_dX9_kind_57_8.2.1
theorem dX9_kind_71 : decode cX9_kind 71 = .ok (.getfield 20, 3) := dk_dX9_kind_57_8.2.2.1
theorem dX9_kind_74 : decode cX9_kind 74 = .ok (.iload_n 1, 1) := dk_dX9_kind_57_8.2.2.2.1
theorem dX9_kind_75 : decode cX9_kind 75 = .ok (.invokevirtual 187, 3) := dk_dX9_kind_57_8.2.2.2.2.1
theorem dX9_kind_78 : decode cX9_kind 78 = .ok (.ireturn, 1) := dk_dX9_kind_57_8.2.2.2.2.2.1
theorem dX9_kind_79 : decode cX9_kind 79 = .ok (.iconst (-1), 1) := dk_dX9_kind_57_8.2.2.2.2.2.2.1
theorem dX9_kind_80 : decode cX9_kind 80 = .ok (.ireturn, 1) := dk_dX9_kind_57_8.2.2.2.2.2.2.2.1
theorem dk_dX9_later_0 : dz_C cX9_later [(0, .aload_n 0, 1), (1, .invokevirtual 218, 3), (4, .ifCond .eq 28, 3), (7, .iload_n 1, 1), (8, .ifCond .lt 24, 3), (11, .iload_n 1, 1), (12, .bipush 30, 2), (14, .if_icmp .ge 18, 3), (17, .aload_n 0, 1), (18, .getfield 30, 3), (21, .getfield 154, 3), (24, .iload_n 1, 1), (25, .iadd, 1), (26, .sipush 999, 3), (29, .if_icmp .le 5, 3), (32, .iconst (-1), 1)] := dz_of (by decide +kernel)
theorem dX9_later_0 : decode cX9_later 0 = .ok (.aload_n 0, 1) := dk_dX9_later_0.1
theorem dX9_later_1 : decode cX9_later 1 = .ok (.invokevirtual 218, 3) := dk_dX9_later_0.2.1
theorem dX9_later_4 : decode cX9_later 4 = .ok (.ifCond .eq 28, 3) := dk_dX9_later_0.2.2.1
theorem dX9_later_7 : decode cX9_later 7 = .ok (.iload_n 1, 1) := dk_dX9_later_0.2.2.2.1
theorem dX9_later_8 : decode cX9_later 8 = .ok (.ifCond .lt 24, 3) := dk_dX9_later_0.2.2.2.2.1
theorem dX9_later_11 : decode cX9_later 11 = .ok (.iload_n 1, 1) := dk_dX9_later_0.2.2.2.2.2.1
theorem dX9_later_12 : decode cX9_later 12 = .ok (.bipush 30, 2) := dk_dX9_later_0.2.2.2.2.2.2.1
theorem dX9_later_14 : decode cX9_later 14 = .ok (.if_icmp .ge 18, 3) := dk_dX9_later_0.2.2.2.2.2.2.2.1
theorem dk_dX9_later_0_8 : dz_C cX9_later [(17, .aload_n 0, 1), (18, .getfield 30, 3), (21, .getfield 154, 3), (24, .iload_n 1, 1), (25, .iadd, 1), (26, .sipush 999, 3), (29, .if_icmp .le 5, 3), (32, .iconst (-1), 1)] := dk_dX9_later_0.2.2.2.2.2.2.2.2
theorem dX9_later_17 : decode cX9_later 17 = .ok (.aload_n 0, 1) := dk_dX9_later_0_8.1
theorem dX9_later_18 : decode cX9_later 18 = .ok (.getfield 30, 3) := dk_dX9_later_0_8.2.1
theorem dX9_later_21 : decode cX9_later 21 = .ok (.getfield 154, 3) := dk_dX9_later_0_8.2.2.1
theorem dX9_later_24 : decode cX9_later 24 = .ok (.iload_n 1, 1) := dk_dX9_later_0_8.2.2.2.1
theorem dX9_later_25 : decode cX9_later 25 = .ok (.iadd, 1) := dk_dX9_later_0_8.2.2.2.2.1
theorem dX9_later_26 : decode cX9_later 26 = .ok (.sipush 999, 3) := dk_dX9_later_0_8.2.2.2.2.2.1
theorem dX9_later_29 : decode cX9_later 29 = .ok (.if_icmp .le 5, 3) := dk_dX9_later_0_8.2.2.2.2.2.2.1
theorem dX9_later_32 : decode cX9_later 32 = .ok (.iconst (-1), 1) := dk_dX9_later_0_8.2.2.2.2.2.2.2.1
theorem dk_dX9_later_33 : dz_C cX9_later [(33, .ireturn, 1), (34, .iload_n 2, 1), (35, .ifCond .lt 9, 3), (38, .iload_n 2, 1), (39, .bipush 6, 2), (41, .if_icmp .lt 5, 3), (44, .iconst (-1), 1), (45, .ireturn, 1), (46, .aload_n 0, 1), (47, .getfield 78, 3), (50, .aload_n 0, 1), (51, .getfield 30, 3), (54, .iload_n 1, 1), (55, .iconst 1, 1), (56, .iadd, 1), (57, .invokevirtual 242, 3)] := dz_of (by decide +kernel)
theorem dX9_later_33 : decode cX9_later 33 = .ok (.ireturn, 1) := dk_dX9_later_33.1
theorem dX9_later_34 : decode cX9_later 34 = .ok (.iload_n 2, 1) := dk_dX9_later_33.2.1
theorem dX9_later_35 : decode cX9_later 35 = .ok (.ifCond .lt 9, 3) := dk_dX9_later_33.2.2.1
theorem dX9_later_38 : decode cX9_later 38 = .ok (.iload_n 2, 1) := dk_dX9_later_33.2.2.2.1
theorem dX9_later_39 : decode cX9_later 39 = .ok (.bipush 6, 2) := dk_dX9_later_33.2.2.2.2.1
theorem dX9_later_41 : decode cX9_later 41 = .ok (.if_icmp .lt 5, 3) := dk_dX9_later_33.2.2.2.2.2.1
theorem dX9_later_44 : decode cX9_later 44 = .ok (.iconst (-1), 1) := dk_dX9_later_33.2.2.2.2.2.2.1
theorem dX9_later_45 : decode cX9_later 45 = .ok (.ireturn, 1) := dk_dX9_later_33.2.2.2.2.2.2.2.1
theorem dk_dX9_later_33_8 : dz_C cX9_later [(46, .aload_n 0, 1), (47, .getfield 78, 3), (50, .aload_n 0, 1), (51, .getfield 30, 3), (54, .iload_n 1, 1), (55, .iconst 1, 1), (56, .iadd, 1), (57, .invokevirtual 242, 3)] := dk_dX9_later_33.2.2.2.2.2.2.2.2
theorem dX9_later_46 : decode cX9_later 46 = .ok (.aload_n 0, 1) := dk_dX9_later_33_8.1
theorem dX9_later_47 : decode cX9_later 47 = .ok (.getfield 78, 3) := dk_dX9_later_33_8.2.1
theorem dX9_later_50 : decode cX9_later 50 = .ok (.aload_n 0, 1) := dk_dX9_later_33_8.2.2.1
theorem dX9_later_51 : decode cX9_later 51 = .ok (.getfield 30, 3) := dk_dX9_later_33_8.2.2.2.1
theorem dX9_later_54 : decode cX9_later 54 = .ok (.iload_n 1, 1) := dk_dX9_later_33_8.2.2.2.2.1
theorem dX9_later_55 : decode cX9_later 55 = .ok (.iconst 1, 1) := dk_dX9_later_33_8.2.2.2.2.2.1
theorem dX9_later_56 : decode cX9_later 56 = .ok (.iadd, 1) := dk_dX9_later_33_8.2.2.2.2.2.2.1
theorem dX9_later_57 : decode cX9_later 57 = .ok (.invokevirtual 242, 3) := dk_dX9_later_33_8.2.2.2.2.2.2.2.1
theorem dk_dX9_later_60 : dz_C cX9_later [(60, .aload_n 0, 1), (61, .getfield 78, 3), (64, .getfield 246, 3), (67, .iload_n 1, 1), (68, .bipush 6, 2), (70, .imul, 1), (71, .iload_n 2, 1), (72, .iadd, 1), (73, .iaload, 1), (74, .ireturn, 1)] := dz_of (by decide +kernel)
theorem dX9_later_60 : decode cX9_later 60 = .ok (.aload_n 0, 1) := dk_dX9_later_60.1
theorem dX9_later_61 : decode cX9_later 61 = .ok (.getfield 78, 3) := dk_dX9_later_60.2.1
theorem dX9_later_64 : decode cX9_later 64 = .ok (.getfield 246, 3) := dk_dX9_later_60.2.2.1
theorem dX9_later_67 : decode cX9_later 67 = .ok (.iload_n 1, 1) := dk_dX9_later_60.2.2.2.1
theorem dX9_later_68 : decode cX9_later 68 = .ok (.bipush 6, 2) := dk_dX9_later_60.2.2.2.2.1
theorem dX9_later_70 : decode cX9_later 70 = .ok (.imul, 1) := dk_dX9_later_60.2.2.2.2.2.1
theorem dX9_later_71 : decode cX9_later 71 = .ok (.iload_n 2, 1) := dk_dX9_later_60.2.2.2.2.2.2.1
theorem dX9_later_72 : decode cX9_later 72 = .ok (.iadd, 1) := dk_dX9_later_60.2.2.2.2.2.2.2.1
theorem dk_dX9_later_60_8 : dz_C cX9_later [(73, .iaload, 1), (74, .ireturn, 1)] := dk_dX9_later_60.2.2.2.2.2.2.2.2
theorem dX9_later_73 : decode cX9_later 73 = .ok (.iaload, 1) := dk_dX9_later_60_8.1
theorem dX9_later_74 : decode cX9_later 74 = .ok (.ireturn, 1) := dk_dX9_later_60_8.2.1
theorem dk_dX9_layToday_0 : dz_C cX9_layToday [(0, .aload_n 0, 1), (1, .getfield 62, 3), (4, .aload_n 0, 1), (5, .getfield 30, 3), (8, .aload_n 0, 1), (9, .getfield 30, 3), (12, .getfield 157, 3), (15, .aload_n 0, 1), (16, .getfield 30, 3), (19, .getfield 160, 3), (22, .iconst 0, 1), (23, .invokevirtual 301, 3), (26, .return_, 1)] := dz_of (by decide +kernel)
theorem dX9_layToday_0 : decode cX9_layToday 0 = .ok (.aload_n 0, 1) := dk_dX9_layToday_0.1
theorem dX9_layToday_1 : decode cX9_layToday 1 = .ok (.getfield 62, 3) := dk_dX9_layToday_0.2.1
theorem dX9_layToday_4 : decode cX9_layToday 4 = .ok (.aload_n 0, 1) := dk_dX9_layToday_0.2.2.1
theorem dX9_layToday_5 : decode cX9_layToday 5 = .ok (.getfield 30, 3) := dk_dX9_layToday_0.2.2.2.1
theorem dX9_layToday_8 : decode cX9_layToday 8 = .ok (.aload_n 0, 1) := dk_dX9_layToday_0.2.2.2.2.1
theorem dX9_layToday_9 : decode cX9_layToday 9 = .ok (.getfield 30, 3) := dk_dX9_layToday_0.2.2.2.2.2.1
theorem dX9_layToday_12 : decode cX9_layToday 12 = .ok (.getfield 157, 3) := dk_dX9_layToday_0.2.2.2.2.2.2.1
theorem dX9_layToday_15 : decode cX9_layToday 15 = .ok (.aload_n 0, 1) := dk_dX9_layToday_0.2.2.2.2.2.2.2.1
theorem dk_dX9_layToday_0_8 : dz_C cX9_layToday [(16, .getfield 30, 3), (19, .getfield 160, 3), (22, .iconst 0, 1), (23, .invokevirtual 301, 3), (26, .return_, 1)] := dk_dX9_layToday_0.2.2.2.2.2.2.2.2
theorem dX9_layToday_16 : decode cX9_layToday 16 = .ok (.getfield 30, 3) := dk_dX9_layToday_0_8.1
theorem dX9_layToday_19 : decode cX9_layToday 19 = .ok (.getfield 160, 3) := dk_dX9_layToday_0_8.2.1
theorem dX9_layToday_22 : decode cX9_layToday 22 = .ok (.iconst 0, 1) := dk_dX9_layToday_0_8.2.2.1
theorem dX9_layToday_23 : decode cX9_layToday 23 = .ok (.invokevirtual 301, 3) := dk_dX9_layToday_0_8.2.2.2.1
theorem dX9_layToday_26 : decode cX9_layToday 26 = .ok (.return_, 1) := dk_dX9_layToday_0_8.2.2.2.2.1
theorem dk_dX9_least_0 : dz_C cX9_least [(0, .aload_n 0, 1), (1, .invokevirtual 218, 3), (4, .ifCond .eq 17, 3), (7, .aload_n 0, 1), (8, .getfield 71, 3), (11, .aload_n 0, 1), (12, .getfield 30, 3), (15, .invokevirtual 235, 3), (18, .goto 4, 3), (21, .iconst (-1), 1), (22, .ireturn, 1)] := dz_of (by decide +kernel)
theorem dX9_least_0 : decode cX9_least 0 = .ok (.aload_n 0, 1) := dk_dX9_least_0.1
theorem dX9_least_1 : decode cX9_least 1 = .ok (.invokevirtual 218, 3) := dk_dX9_least_0.2.1
theorem dX9_least_4 : decode cX9_least 4 = .ok (.ifCond .eq 17, 3) := dk_dX9_least_0.2.2.1
theorem dX9_least_7 : decode cX9_least 7 = .ok (.aload_n 0, 1) := dk_dX9_least_0.2.2.2.1
theorem dX9_least_8 : decode cX9_least 8 = .ok (.getfield 71, 3) := dk_dX9_least_0.2.2.2.2.1
theorem dX9_least_11 : decode cX9_least 11 = .ok (.aload_n 0, 1) := dk_dX9_least_0.2.2.2.2.2.1
theorem dX9_least_12 : decode cX9_least 12 = .ok (.getfield 30, 3) := dk_dX9_least_0.2.2.2.2.2.2.1
theorem dX9_least_15 : decode cX9_least 15 = .ok (.invokevirtual 235, 3) := dk_dX9_least_0.2.2.2.2.2.2.2.1
theorem dk_dX9_least_0_8 : dz_C cX9_least [(18, .goto 4, 3), (21, .iconst (-1), 1), (22, .ireturn, 1)] := dk_dX9_least_0.2.2.2.2.2.2.2.2
theorem dX9_least_18 : decode cX9_least 18 = .ok (.goto 4, 3) := dk_dX9_least_0_8.1
theorem dX9_least_21 : decode cX9_least 21 = .ok (.iconst (-1), 1) := dk_dX9_least_0_8.2.1
theorem dX9_least_22 : decode cX9_least 22 = .ok (.ireturn, 1) := dk_dX9_least_0_8.2.2.1
theorem dk_dX9_letter_0 : dz_C cX9_letter [(0, .iload_n 1, 1), (1, .ifCond .ne 11, 3), (4, .aload_n 0, 1), (5, .iload_n 2, 1), (6, .invokevirtual 169, 3), (9, .ifCond .ne 16, 3), (12, .iload_n 1, 1), (13, .iconst 1, 1), (14, .if_icmp .ne 15, 3), (17, .aload_n 0, 1), (18, .iload_n 2, 1), (19, .invokevirtual 172, 3), (22, .ifCond .eq 7, 3), (25, .iconst 1, 1), (26, .goto 4, 3), (29, .iconst 0, 1)] := dz_of (by decide +kernel)
theorem dX9_letter_0 : decode cX9_letter 0 = .ok (.iload_n 1, 1) := dk_dX9_letter_0.1
theorem dX9_letter_1 : decode cX9_letter 1 = .ok (.ifCond .ne 11, 3) := dk_dX9_letter_0.2.1
theorem dX9_letter_4 : decode cX9_letter 4 = .ok (.aload_n 0, 1) := dk_dX9_letter_0.2.2.1
theorem dX9_letter_5 : decode cX9_letter 5 = .ok (.iload_n 2, 1) := dk_dX9_letter_0.2.2.2.1
theorem dX9_letter_6 : decode cX9_letter 6 = .ok (.invokevirtual 169, 3) := dk_dX9_letter_0.2.2.2.2.1
theorem dX9_letter_9 : decode cX9_letter 9 = .ok (.ifCond .ne 16, 3) := dk_dX9_letter_0.2.2.2.2.2.1
theorem dX9_letter_12 : decode cX9_letter 12 = .ok (.iload_n 1, 1) := dk_dX9_letter_0.2.2.2.2.2.2.1
theorem dX9_letter_13 : decode cX9_letter 13 = .ok (.iconst 1, 1) := dk_dX9_letter_0.2.2.2.2.2.2.2.1
theorem dk_dX9_letter_0_8 : dz_C cX9_letter [(14, .if_icmp .ne 15, 3), (17, .aload_n 0, 1), (18, .iload_n 2, 1), (19, .invokevirtual 172, 3), (22, .ifCond .eq 7, 3), (25, .iconst 1, 1), (26, .goto 4, 3), (29, .iconst 0, 1)] := dk_dX9_letter_0.2.2.2.2.2.2.2.2
theorem dX9_letter_14 : decode cX9_letter 14 = .ok (.if_icmp .ne 15, 3) := dk_dX9_letter_0_8.1
theorem dX9_letter_17 : decode cX9_letter 17 = .ok (.aload_n 0, 1) := dk_dX9_letter_0_8.2.1
theorem dX9_letter_18 : decode cX9_letter 18 = .ok (.iload_n 2, 1) := dk_dX9_letter_0_8.2.2.1
theorem dX9_letter_19 : decode cX9_letter 19 = .ok (.invokevirtual 172, 3) := dk_dX9_letter_0_8.2.2.2.1
theorem dX9_letter_22 : decode cX9_letter 22 = .ok (.ifCond .eq 7, 3) := dk_dX9_letter_0_8.2.2.2.2.1
theorem dX9_letter_25 : decode cX9_letter 25 = .ok (.iconst 1, 1) := dk_dX9_letter_0_8.2.2.2.2.2.1
theorem dX9_letter_26 : decode cX9_letter 26 = .ok (.goto 4, 3) := dk_dX9_letter_0_8.2.2.2.2.2.2.1
theorem dX9_letter_29 : decode cX9_letter 29 = .ok (.iconst 0, 1) := dk_dX9_letter_0_8.2.2.2.2.2.2.2.1
theorem dk_dX9_letter_30 : dz_C cX9_letter [(30, .istore 4, 2), (32, .iload 4, 2), (34, .ifCond .eq 13, 3), (37, .iload_n 3, 1), (38, .ifCond .lt 9, 3), (41, .iload_n 3, 1), (42, .bipush 6, 2), (44, .if_icmp .lt 5, 3), (47, .iconst (-1), 1), (48, .ireturn, 1), (49, .iload_n 1, 1), (50, .ifCond .ne 7, 3), (53, .iload_n 2, 1), (54, .goto 7, 3), (57, .bipush 6, 2), (59, .iload_n 2, 1)] := dz_of (by decide +kernel)
theorem dX9_letter_30 : decode cX9_letter 30 = .ok (.istore 4, 2) := dk_dX9_letter_30.1
theorem dX9_letter_32 : decode cX9_letter 32 = .ok (.iload 4, 2) := dk_dX9_letter_30.2.1
theorem dX9_letter_34 : decode cX9_letter 34 = .ok (.ifCond .eq 13, 3) := dk_dX9_letter_30.2.2.1
theorem dX9_letter_37 : decode cX9_letter 37 = .ok (.iload_n 3, 1) := dk_dX9_letter_30.2.2.2.1
theorem dX9_letter_38 : decode cX9_letter 38 = .ok (.ifCond .lt 9, 3) := dk_dX9_letter_30.2.2.2.2.1
theorem dX9_letter_41 : decode cX9_letter 41 = .ok (.iload_n 3, 1) := dk_dX9_letter_30.2.2.2.2.2.1
theorem dX9_letter_42 : decode cX9_letter 42 = .ok (.bipush 6, 2) := dk_dX9_letter_30.2.2.2.2.2.2.1
theorem dX9_letter_44 : decode cX9_letter 44 = .ok (.if_icmp .lt 5, 3) := dk_dX9_letter_30.2.2.2.2.2.2.2.1
theorem dk_dX9_letter_30_8 : dz_C cX9_letter [(47, .iconst (-1), 1), (48, .ireturn, 1), (49, .iload_n 1, 1), (50, .ifCond .ne 7, 3), (53, .iload_n 2, 1), (54, .goto 7, 3), (57, .bipush 6, 2), (59, .iload_n 2, 1)] := dk_dX9_letter_30.2.2.2.2.2.2.2.2
theorem dX9_letter_47 : decode cX9_letter 47 = .ok (.iconst (-1), 1) := dk_dX9_letter_30_8.1
theorem dX9_letter_48 : decode cX9_letter 48 = .ok (.ireturn, 1) := dk_dX9_letter_30_8.2.1
theorem dX9_letter_49 : decode cX9_letter 49 = .ok (.iload_n 1, 1) := dk_dX9_letter_30_8.2.2.1
theorem dX9_letter_50 : decode cX9_letter 50 = .ok (.ifCond .ne 7, 3) := dk_dX9_letter_30_8.2.2.2.1
theorem dX9_letter_53 : decode cX9_letter 53 = .ok (.iload_n 2, 1) := dk_dX9_letter_30_8.2.2.2.2.1
theorem dX9_letter_54 : decode cX9_letter 54 = .ok (.goto 7, 3) := dk_dX9_letter_30_8.2.2.2.2.2.1
theorem dX9_letter_57 : decode cX9_letter 57 = .ok (.bipush 6, 2) := dk_dX9_letter_30_8.2.2.2.2.2.2.1
theorem dX9_letter_59 : decode cX9_letter 59 = .ok (.iload_n 2, 1) := dk_dX9_letter_30_8.2.2.2.2.2.2.2.1
theorem dk_dX9_letter_60 : dz_C cX9_letter [(60, .iadd, 1), (61, .istore 5, 2), (63, .aload_n 0, 1), (64, .getfield 20, 3), (67, .getfield 175, 3), (70, .iload 5, 2), (72, .bipush 6, 2), (74, .imul, 1), (75, .iload_n 3, 1), (76, .iadd, 1), (77, .iaload, 1), (78, .ireturn, 1)] := dz_of (by decide +kernel)
theorem dX9_letter_60 : decode cX9_letter 60 = .ok (.iadd, 1) := dk_dX9_letter_60.1
theorem dX9_letter_61 : decode cX9_letter 61 = .ok (.istore 5, 2) := dk_dX9_letter_60.2.1
theorem dX9_letter_63 : decode cX9_letter 63 = .ok (.aload_n 0, 1) := dk_dX9_letter_60.2.2.1
theorem dX9_letter_64 : decode cX9_letter 64 = .ok (.getfield 20, 3) := dk_dX9_letter_60.2.2.2.1
theorem dX9_letter_67 : decode cX9_letter 67 = .ok (.getfield 175, 3) := dk_dX9_letter_60.2.2.2.2.1
theorem dX9_letter_70 : decode cX9_letter 70 = .ok (.iload 5, 2) := dk_dX9_letter_60.2.2.2.2.2.1
theorem dX9_letter_72 : decode cX9_letter 72 = .ok (.bipush 6, 2) := dk_dX9_letter_60.2.2.2.2.2.2.1
theorem dX9_letter_74 : decode cX9_letter 74 = .ok (.imul, 1) := dk_dX9_letter_60.2.2.2.2.2.2.2.1
theorem dk_dX9_letter_60_8 : dz_C cX9_letter [(75, .iload_n 3, 1), (76, .iadd, 1), (77, .iaload, 1), (78, .ireturn, 1)] := dk_dX9_letter_60.2.2.2.2.2.2.2.2
theorem dX9_letter_75 : decode cX9_letter 75 = .ok (.iload_n 3, 1) := dk_dX9_letter_60_8.1
theorem dX9_letter_76 : decode cX9_letter 76 = .ok (.iadd, 1) := dk_dX9_letter_60_8.2.1
theorem dX9_letter_77 : decode cX9_letter 77 = .ok (.iaload, 1) := dk_dX9_letter_60_8.2.2.1
theorem dX9_letter_78 : decode cX9_letter 78 = .ok (.ireturn, 1) := dk_dX9_letter_60_8.2.2.2.1
theorem dk_dX9_light_0 : dz_C cX9_light [(0, .aload_n 0, 1), (1, .invokevirtual 218, 3), (4, .ifCond .eq 14, 3), (7, .iload_n 1, 1), (8, .ifCond .lt 10, 3), (11, .iload_n 1, 1), (12, .sipush 300, 3), (15, .if_icmp .lt 5, 3), (18, .iconst (-1), 1), (19, .ireturn, 1), (20, .aload_n 0, 1), (21, .invokevirtual 190, 3), (24, .aload_n 0, 1), (25, .getfield 62, 3), (28, .getfield 222, 3), (31, .iload_n 1, 1)] := dz_of (by decide +kernel)
theorem dX9_light_0 : decode cX9_light 0 = .ok (.aload_n 0, 1) := dk_dX9_light_0.1
theorem dX9_light_1 : decode cX9_light 1 = .ok (.invokevirtual 218, 3) := dk_dX9_light_0.2.1
theorem dX9_light_4 : decode cX9_light 4 = .ok (.ifCond .eq 14, 3) := dk_dX9_light_0.2.2.1
theorem dX9_light_7 : decode cX9_light 7 = .ok (.iload_n 1, 1) := dk_dX9_light_0.2.2.2.1
theorem dX9_light_8 : decode cX9_light 8 = .ok (.ifCond .lt 10, 3) := dk_dX9_light_0.2.2.2.2.1
theorem dX9_light_11 : decode cX9_light 11 = .ok (.iload_n 1, 1) := dk_dX9_light_0.2.2.2.2.2.1
theorem dX9_light_12 : decode cX9_light 12 = .ok (.sipush 300, 3) := dk_dX9_light_0.2.2.2.2.2.2.1
theorem dX9_light_15 : decode cX9_light 15 = .ok (.if_icmp .lt 5, 3) := dk_dX9_light_0.2.2.2.2.2.2.2.1
theorem dk_dX9_light_0_8 : dz_C cX9_light [(18, .iconst (-1), 1), (19, .ireturn, 1), (20, .aload_n 0, 1), (21, .invokevirtual 190, 3), (24, .aload_n 0, 1), (25, .getfield 62, 3), (28, .getfield 222, 3), (31, .iload_n 1, 1)] := dk_dX9_light_0.2.2.2.2.2.2.2.2
theorem dX9_light_18 : decode cX9_light 18 = .ok (.iconst (-1), 1) := dk_dX9_light_0_8.1
theorem dX9_light_19 : decode cX9_light 19 = .ok (.ireturn, 1) := dk_dX9_light_0_8.2.1
theorem dX9_light_20 : decode cX9_light 20 = .ok (.aload_n 0, 1) := dk_dX9_light_0_8.2.2.1
theorem dX9_light_21 : decode cX9_light 21 = .ok (.invokevirtual 190, 3) := dk_dX9_light_0_8.2.2.2.1
theorem dX9_light_24 : decode cX9_light 24 = .ok (.aload_n 0, 1) := dk_dX9_light_0_8.2.2.2.2.1
theorem dX9_light_25 : decode cX9_light 25 = .ok (.getfield 62, 3) := dk_dX9_light_0_8.2.2.2.2.2.1
theorem dX9_light_28 : decode cX9_light 28 = .ok (.getfield 222, 3) := dk_dX9_light_0_8.2.2.2.2.2.2.1
theorem dX9_light_31 : decode cX9_light 31 = .ok (.iload_n 1, 1) := dk_dX9_light_0_8.2.2.2.2.2.2.2.1
theorem dk_dX9_light_32 : dz_C cX9_light [(32, .iaload, 1), (33, .ifCond .le 7, 3), (36, .iconst 1, 1), (37, .goto 4, 3), (40, .iconst 0, 1), (41, .ireturn, 1)] := dz_of (by decide +kernel)
theorem dX9_light_32 : decode cX9_light 32 = .ok (.iaload, 1) := dk_dX9_light_32.1
theorem dX9_light_33 : decode cX9_light 33 = .ok (.ifCond .le 7, 3) := dk_dX9_light_32.2.1
theorem dX9_light_36 : decode cX9_light 36 = .ok (.iconst 1, 1) := dk_dX9_light_32.2.2.1
theorem dX9_light_37 : decode cX9_light 37 = .ok (.goto 4, 3) := dk_dX9_light_32.2.2.2.1
theorem dX9_light_40 : decode cX9_light 40 = .ok (.iconst 0, 1) := dk_dX9_light_32.2.2.2.2.1
theorem dX9_light_41 : decode cX9_light 41 = .ok (.ireturn, 1) := dk_dX9_light_32.2.2.2.2.2.1
theorem dk_dX9_octet_0 : dz_C cX9_octet [(0, .iload_n 1, 1), (1, .ifCond .lt 20, 3), (4, .iload_n 1, 1), (5, .aload_n 0, 1), (6, .getfield 92, 3), (9, .if_icmp .ge 12, 3), (12, .aload_n 0, 1), (13, .getfield 89, 3), (16, .iload_n 1, 1), (17, .iaload, 1), (18, .goto 4, 3), (21, .iconst (-1), 1), (22, .ireturn, 1)] := dz_of (by decide +kernel)
theorem dX9_octet_0 : decode cX9_octet 0 = .ok (.iload_n 1, 1) := dk_dX9_octet_0.1
theorem dX9_octet_1 : decode cX9_octet 1 = .ok (.ifCond .lt 20, 3) := dk_dX9_octet_0.2.1
theorem dX9_octet_4 : decode cX9_octet 4 = .ok (.iload_n 1, 1) := dk_dX9_octet_0.2.2.1
theorem dX9_octet_5 : decode cX9_octet 5 = .ok (.aload_n 0, 1) := dk_dX9_octet_0.2.2.2.1
theorem dX9_octet_6 : decode cX9_octet 6 = .ok (.getfield 92, 3) := dk_dX9_octet_0.2.2.2.2.1
theorem dX9_octet_9 : decode cX9_octet 9 = .ok (.if_icmp .ge 12, 3) := dk_dX9_octet_0.2.2.2.2.2.1
theorem dX9_octet_12 : decode cX9_octet 12 = .ok (.aload_n 0, 1) := dk_dX9_octet_0.2.2.2.2.2.2.1
theorem dX9_octet_13 : decode cX9_octet 13 = .ok (.getfield 89, 3) := dk_dX9_octet_0.2.2.2.2.2.2.2.1
theorem dk_dX9_octet_0_8 : dz_C cX9_octet [(16, .iload_n 1, 1), (17, .iaload, 1), (18, .goto 4, 3), (21, .iconst (-1), 1), (22, .ireturn, 1)] := dk_dX9_octet_0.2.2.2.2.2.2.2.2
theorem dX9_octet_16 : decode cX9_octet 16 = .ok (.iload_n 1, 1) := dk_dX9_octet_0_8.1
theorem dX9_octet_17 : decode cX9_octet 17 = .ok (.iaload, 1) := dk_dX9_octet_0_8.2.1
theorem dX9_octet_18 : decode cX9_octet 18 = .ok (.goto 4, 3) := dk_dX9_octet_0_8.2.2.1
theorem dX9_octet_21 : decode cX9_octet 21 = .ok (.iconst (-1), 1) := dk_dX9_octet_0_8.2.2.2.1
theorem dX9_octet_22 : decode cX9_octet 22 = .ok (.ireturn, 1) := dk_dX9_octet_0_8.2.2.2.2.1
theorem dk_dX9_on_0 : dz_C cX9_on [(0, .aload_n 0, 1), (1, .invokevirtual 114, 3), (4, .istore_n 1, 1), (5, .aload_n 0, 1), (6, .iload_n 1, 1), (7, .invokevirtual 322, 3), (10, .ifCond .ne 9, 3), (13, .aload_n 0, 1), (14, .iconst 5, 1), (15, .invokevirtual 110, 3), (18, .ireturn, 1), (19, .aload_n 0, 1), (20, .getfield 30, 3), (23, .aload_n 0, 1), (24, .getfield 9, 3), (27, .iconst 0, 1)] := dz_of (by decide +kernel)
theorem dX9_on_0 : decode cX9_on 0 = .ok (.aload_n 0, 1) := dk_dX9_on_0.1
theorem dX9_on_1 : decode cX9_on 1 = .ok (.invokevirtual 114, 3) := dk_dX9_on_0.2.1
theorem dX9_on_4 : decode cX9_on 4 = .ok (.istore_n 1, 1) := dk_dX9_on_0.2.2.1
theorem dX9_on_5 : decode cX9_on 5 = .ok (.aload_n 0, 1) := dk_dX9_on_0.2.2.2.1
theorem dX9_on_6 : decode cX9_on 6 = .ok (.iload_n 1, 1) := dk_dX9_on_0.2.2.2.2.1
theorem dX9_on_7 : decode cX9_on 7 = .ok (.invokevirtual 322, 3) := dk_dX9_on_0.2.2.2.2.2.1
theorem dX9_on_10 : decode cX9_on 10 = .ok (.ifCond .ne 9, 3) := dk_dX9_on_0.2.2.2.2.2.2.1
theorem dX9_on_13 : decode cX9_on 13 = .ok (.aload_n 0, 1) := dk_dX9_on_0.2.2.2.2.2.2.2.1
theorem dk_dX9_on_0_8 : dz_C cX9_on [(14, .iconst 5, 1), (15, .invokevirtual 110, 3), (18, .ireturn, 1), (19, .aload_n 0, 1), (20, .getfield 30, 3), (23, .aload_n 0, 1), (24, .getfield 9, 3), (27, .iconst 0, 1)] := dk_dX9_on_0.2.2.2.2.2.2.2.2
theorem dX9_on_14 : decode cX9_on 14 = .ok (.iconst 5, 1) := dk_dX9_on_0_8.1
theorem dX9_on_15 : decode cX9_on 15 = .ok (.invokevirtual 110, 3) := dk_dX9_on_0_8.2.1
theorem dX9_on_18 : decode cX9_on 18 = .ok (.ireturn, 1) := dk_dX9_on_0_8.2.2.1
theorem dX9_on_19 : decode cX9_on 19 = .ok (.aload_n 0, 1) := dk_dX9_on_0_8.2.2.2.1
theorem dX9_on_20 : decode cX9_on 20 = .ok (.getfield 30, 3) := dk_dX9_on_0_8.2.2.2.2.1
theorem dX9_on_23 : decode cX9_on 23 = .ok (.aload_n 0, 1) := dk_dX9_on_0_8.2.2.2.2.2.1
theorem dX9_on_24 : decode cX9_on 24 = .ok (.getfield 9, 3) := dk_dX9_on_0_8.2.2.2.2.2.2.1
theorem dX9_on_27 : decode cX9_on 27 = .ok (.iconst 0, 1) := dk_dX9_on_0_8.2.2.2.2.2.2.2.1
theorem dk_dX9_on_28 : dz_C cX9_on [(28, .iaload, 1), (29, .sipush 256, 3), (32, .imul, 1), (33, .aload_n 0, 1), (34, .getfield 9, 3), (37, .iconst 1, 1), (38, .iaload, 1), (39, .iadd, 1), (40, .putfield 154, 3), (43, .aload_n 0, 1), (44, .getfield 30, 3), (47, .aload_n 0, 1), (48, .getfield 9, 3), (51, .iconst 2, 1), (52, .iaload, 1), (53, .putfield 157, 3)] := dz_of (by decide +kernel)
theorem dX9_on_28 : decode cX9_on 28 = .ok (.iaload, 1) := dk_dX9_on_28.1
theorem dX9_on_29 : decode cX9_on 29 = .ok (.sipush 256, 3) := dk_dX9_on_28.2.1
theorem dX9_on_32 : decode cX9_on 32 = .ok (.imul, 1) := dk_dX9_on_28.2.2.1
theorem dX9_on_33 : decode cX9_on 33 = .ok (.aload_n 0, 1) := dk_dX9_on_28.2.2.2.1
theorem dX9_on_34 : decode cX9_on 34 = .ok (.getfield 9, 3) := dk_dX9_on_28.2.2.2.2.1
theorem dX9_on_37 : decode cX9_on 37 = .ok (.iconst 1, 1) := dk_dX9_on_28.2.2.2.2.2.1
theorem dX9_on_38 : decode cX9_on 38 = .ok (.iaload, 1) := dk_dX9_on_28.2.2.2.2.2.2.1
theorem dX9_on_39 : decode cX9_on 39 = .ok (.iadd, 1) := dk_dX9_on_28.2.2.2.2.2.2.2.1
theorem dk_dX9_on_28_8 : dz_C cX9_on [(40, .putfield 154, 3), (43, .aload_n 0, 1), (44, .getfield 30, 3), (47, .aload_n 0, 1), (48, .getfield 9, 3), (51, .iconst 2, 1), (52, .iaload, 1), (53, .putfield 157, 3)] := dk_dX9_on_28.2.2.2.2.2.2.2.2
theorem dX9_on_40 : decode cX9_on 40 = .ok (.putfield 154, 3) := dk_dX9_on_28_8.1
theorem dX9_on_43 : decode cX9_on 43 = .ok (.aload_n 0, 1) := dk_dX9_on_28_8.2.1
theorem dX9_on_44 : decode cX9_on 44 = .ok (.getfield 30, 3) := dk_dX9_on_28_8.2.2.1
theorem dX9_on_47 : decode cX9_on 47 = .ok (.aload_n 0, 1) := dk_dX9_on_28_8.2.2.2.1
theorem dX9_on_48 : decode cX9_on 48 = .ok (.getfield 9, 3) := dk_dX9_on_28_8.2.2.2.2.1
theorem dX9_on_51 : decode cX9_on 51 = .ok (.iconst 2, 1) := dk_dX9_on_28_8.2.2.2.2.2.1
theorem dX9_on_52 : decode cX9_on 52 = .ok (.iaload, 1) := dk_dX9_on_28_8.2.2.2.2.2.2.1
theorem dX9_on_53 : decode cX9_on 53 = .ok (.putfield 157, 3) := dk_dX9_on_28_8.2.2.2.2.2.2.2.1
theorem dk_dX9_on_56 : dz_C cX9_on [(56, .aload_n 0, 1), (57, .getfield 30, 3), (60, .aload_n 0, 1), (61, .getfield 9, 3), (64, .iconst 3, 1), (65, .iaload, 1), (66, .putfield 160, 3), (69, .aload_n 0, 1), (70, .getfield 9, 3), (73, .iconst 4, 1), (74, .aload_n 0, 1), (75, .getfield 30, 3), (78, .getfield 184, 3), (81, .iconst 0, 1), (82, .aload_n 0, 1), (83, .getfield 20, 3)] := dz_of (by decide +kernel)
theorem dX9_on_56 : decode cX9_on 56 = .ok (.aload_n 0, 1) := dk_dX9_on_56.1
theorem dX9_on_57 : decode cX9_on 57 = .ok (.getfield 30, 3) := dk_dX9_on_56.2.1
theorem dX9_on_60 : decode cX9_on 60 = .ok (.aload_n 0, 1) := dk_dX9_on_56.2.2.1
theorem dX9_on_61 : decode cX9_on 61 = .ok (.getfield 9, 3) := dk_dX9_on_56.2.2.2.1
theorem dX9_on_64 : decode cX9_on 64 = .ok (.iconst 3, 1) := dk_dX9_on_56.2.2.2.2.1
theorem dX9_on_65 : decode cX9_on 65 = .ok (.iaload, 1) := dk_dX9_on_56.2.2.2.2.2.1
theorem dX9_on_66 : decode cX9_on 66 = .ok (.putfield 160, 3) := dk_dX9_on_56.2.2.2.2.2.2.1
theorem dX9_on_69 : decode cX9_on 69 = .ok (.aload_n 0, 1) := dk_dX9_on_56.2.2.2.2.2.2.2.1
theorem dk_dX9_on_56_8 : dz_C cX9_on [(70, .getfield 9, 3), (73, .iconst 4, 1), (74, .aload_n 0, 1), (75, .getfield 30, 3), (78, .getfield 184, 3), (81, .iconst 0, 1), (82, .aload_n 0, 1), (83, .getfield 20, 3)] := dk_dX9_on_56.2.2.2.2.2.2.2.2
theorem dX9_on_70 : decode cX9_on 70 = .ok (.getfield 9, 3) := dk_dX9_on_56_8.1
theorem dX9_on_73 : decode cX9_on 73 = .ok (.iconst 4, 1) := dk_dX9_on_56_8.2.1
theorem dX9_on_74 : decode cX9_on 74 = .ok (.aload_n 0, 1) := dk_dX9_on_56_8.2.2.1
theorem dX9_on_75 : decode cX9_on 75 = .ok (.getfield 30, 3) := dk_dX9_on_56_8.2.2.2.1
theorem dX9_on_78 : decode cX9_on 78 = .ok (.getfield 184, 3) := dk_dX9_on_56_8.2.2.2.2.1
theorem dX9_on_81 : decode cX9_on 81 = .ok (.iconst 0, 1) := dk_dX9_on_56_8.2.2.2.2.2.1
theorem dX9_on_82 : decode cX9_on 82 = .ok (.aload_n 0, 1) := dk_dX9_on_56_8.2.2.2.2.2.2.1
theorem dX9_on_83 : decode cX9_on 83 = .ok (.getfield 20, 3) := dk_dX9_on_56_8.2.2.2.2.2.2.2.1
theorem dk_dX9_on_86 : dz_C cX9_on [(86, .getfield 148, 3), (89, .invokestatic 325, 3), (92, .aload_n 0, 1), (93, .getfield 37, 3), (96, .invokevirtual 129, 3), (99, .aload_n 0, 1), (100, .invokevirtual 136, 3), (103, .iconst 1, 1), (104, .ireturn, 1)] := dz_of (by decide +kernel)
theorem dX9_on_86 : decode cX9_on 86 = .ok (.getfield 148, 3) := dk_dX9_on_86.1
theorem dX9_on_89 : decode cX9_on 89 = .ok (.invokestatic 325, 3) := dk_dX9_on_86.2.1
theorem dX9_on_92 : decode cX9_on 92 = .ok (.aload_n 0, 1) := dk_dX9_on_86.2.2.1
theorem dX9_on_93 : decode cX9_on 93 = .ok (.getfield 37, 3) := dk_dX9_on_86.2.2.2.1
theorem dX9_on_96 : decode cX9_on 96 = .ok (.invokevirtual 129, 3) := dk_dX9_on_86.2.2.2.2.1
theorem dX9_on_99 : decode cX9_on 99 = .ok (.aload_n 0, 1) := dk_dX9_on_86.2.2.2.2.2.1
theorem dX9_on_100 : decode cX9_on 100 = .ok (.invokevirtual 136, 3) := dk_dX9_on_86.2.2.2.2.2.2.1
theorem dX9_on_103 : decode cX9_on 103 = .ok (.iconst 1, 1) := dk_dX9_on_86.2.2.2.2.2.2.2.1
theorem dk_dX9_on_86_8 : dz_C cX9_on [(104, .ireturn, 1)] := dk_dX9_on_86.2.2.2.2.2.2.2.2
theorem dX9_on_104 : decode cX9_on 104 = .ok (.ireturn, 1) := dk_dX9_on_86_8.1
theorem dk_dX9_putBytes_0 : dz_C cX9_putBytes [(0, .bipush 24, 2), (2, .istore_n 2, 1), (3, .iload_n 2, 1), (4, .ifCond .lt 35, 3), (7, .aload_n 0, 1), (8, .getfield 9, 3), (11, .aload_n 0, 1), (12, .getfield 13, 3), (15, .iload_n 1, 1), (16, .iload_n 2, 1), (17, .ishr, 1), (18, .sipush 255, 3), (21, .iand, 1), (22, .iastore, 1), (23, .aload_n 0, 1), (24, .dup, 1)] := dz_of (by decide +kernel)
theorem dX9_putBytes_0 : decode cX9_putBytes 0 = .ok (.bipush 24, 2) := dk_dX9_putBytes_0.1
theorem dX9_putBytes_2 : decode cX9_putBytes 2 = .ok (.istore_n 2, 1) := dk_dX9_putBytes_0.2.1
theorem dX9_putBytes_3 : decode cX9_putBytes 3 = .ok (.iload_n 2, 1) := dk_dX9_putBytes_0.2.2.1
theorem dX9_putBytes_4 : decode cX9_putBytes 4 = .ok (.ifCond .lt 35, 3) := dk_dX9_putBytes_0.2.2.2.1
theorem dX9_putBytes_7 : decode cX9_putBytes 7 = .ok (.aload_n 0, 1) := dk_dX9_putBytes_0.2.2.2.2.1
theorem dX9_putBytes_8 : decode cX9_putBytes 8 = .ok (.getfield 9, 3) := dk_dX9_putBytes_0.2.2.2.2.2.1
theorem dX9_putBytes_11 : decode cX9_putBytes 11 = .ok (.aload_n 0, 1) := dk_dX9_putBytes_0.2.2.2.2.2.2.1
theorem dX9_putBytes_12 : decode cX9_putBytes 12 = .ok (.getfield 13, 3) := dk_dX9_putBytes_0.2.2.2.2.2.2.2.1
theorem dk_dX9_putBytes_0_8 : dz_C cX9_putBytes [(15, .iload_n 1, 1), (16, .iload_n 2, 1), (17, .ishr, 1), (18, .sipush 255, 3), (21, .iand, 1), (22, .iastore, 1), (23, .aload_n 0, 1), (24, .dup, 1)] := dk_dX9_putBytes_0.2.2.2.2.2.2.2.2
theorem dX9_putBytes_15 : decode cX9_putBytes 15 = .ok (.iload_n 1, 1) := dk_dX9_putBytes_0_8.1
theorem dX9_putBytes_16 : decode cX9_putBytes 16 = .ok (.iload_n 2, 1) := dk_dX9_putBytes_0_8.2.1
theorem dX9_putBytes_17 : decode cX9_putBytes 17 = .ok (.ishr, 1) := dk_dX9_putBytes_0_8.2.2.1
theorem dX9_putBytes_18 : decode cX9_putBytes 18 = .ok (.sipush 255, 3) := dk_dX9_putBytes_0_8.2.2.2.1
theorem dX9_putBytes_21 : decode cX9_putBytes 21 = .ok (.iand, 1) := dk_dX9_putBytes_0_8.2.2.2.2.1
theorem dX9_putBytes_22 : decode cX9_putBytes 22 = .ok (.iastore, 1) := dk_dX9_putBytes_0_8.2.2.2.2.2.1
theorem dX9_putBytes_23 : decode cX9_putBytes 23 = .ok (.aload_n 0, 1) := dk_dX9_putBytes_0_8.2.2.2.2.2.2.1
theorem dX9_putBytes_24 : decode cX9_putBytes 24 = .ok (.dup, 1) := dk_dX9_putBytes_0_8.2.2.2.2.2.2.2.1
theorem dk_dX9_putBytes_25 : dz_C cX9_putBytes [(25, .getfield 13, 3), (28, .iconst 1, 1), (29, .iadd, 1), (30, .putfield 13, 3), (33, .iinc 2 (-8), 3), (36, .goto (-33), 3), (39, .return_, 1)] := dz_of (by decide +kernel)
theorem dX9_putBytes_25 : decode cX9_putBytes 25 = .ok (.getfield 13, 3) := dk_dX9_putBytes_25.1
theorem dX9_putBytes_28 : decode cX9_putBytes 28 = .ok (.iconst 1, 1) := dk_dX9_putBytes_25.2.1
theorem dX9_putBytes_29 : decode cX9_putBytes 29 = .ok (.iadd, 1) := dk_dX9_putBytes_25.2.2.1
theorem dX9_putBytes_30 : decode cX9_putBytes 30 = .ok (.putfield 13, 3) := dk_dX9_putBytes_25.2.2.2.1
theorem dX9_putBytes_33 : decode cX9_putBytes 33 = .ok (.iinc 2 (-8), 3) := dk_dX9_putBytes_25.2.2.2.2.1
theorem dX9_putBytes_36 : decode cX9_putBytes 36 = .ok (.goto (-33), 3) := dk_dX9_putBytes_25.2.2.2.2.2.1
theorem dX9_putBytes_39 : decode cX9_putBytes 39 = .ok (.return_, 1) := dk_dX9_putBytes_25.2.2.2.2.2.2.1
theorem dk_dX9_refuse_0 : dz_C cX9_refuse [(0, .aload_n 0, 1), (1, .getfield 95, 3), (4, .iload_n 1, 1), (5, .dup2, 1), (6, .iaload, 1), (7, .iconst 1, 1), (8, .iadd, 1), (9, .iastore, 1), (10, .iconst (-1), 1), (11, .ireturn, 1)] := dz_of (by decide +kernel)
theorem dX9_refuse_0 : decode cX9_refuse 0 = .ok (.aload_n 0, 1) := dk_dX9_refuse_0.1
theorem dX9_refuse_1 : decode cX9_refuse 1 = .ok (.getfield 95, 3) := dk_dX9_refuse_0.2.1
theorem dX9_refuse_4 : decode cX9_refuse 4 = .ok (.iload_n 1, 1) := dk_dX9_refuse_0.2.2.1
theorem dX9_refuse_5 : decode cX9_refuse 5 = .ok (.dup2, 1) := dk_dX9_refuse_0.2.2.2.1
theorem dX9_refuse_6 : decode cX9_refuse 6 = .ok (.iaload, 1) := dk_dX9_refuse_0.2.2.2.2.1
theorem dX9_refuse_7 : decode cX9_refuse 7 = .ok (.iconst 1, 1) := dk_dX9_refuse_0.2.2.2.2.2.1
theorem dX9_refuse_8 : decode cX9_refuse 8 = .ok (.iadd, 1) := dk_dX9_refuse_0.2.2.2.2.2.2.1
theorem dX9_refuse_9 : decode cX9_refuse 9 = .ok (.iastore, 1) := dk_dX9_refuse_0.2.2.2.2.2.2.2.1
theorem dk_dX9_refuse_0_8 : dz_C cX9_refuse [(10, .iconst (-1), 1), (11, .ireturn, 1)] := dk_dX9_refuse_0.2.2.2.2.2.2.2.2
theorem dX9_refuse_10 : decode cX9_refuse 10 = .ok (.iconst (-1), 1) := dk_dX9_refuse_0_8.1
theorem dX9_refuse_11 : decode cX9_refuse 11 = .ok (.ireturn, 1) := dk_dX9_refuse_0_8.2.1
theorem dk_dX9_rule_0 : dz_C cX9_rule [(0, .aload_n 0, 1), (1, .invokevirtual 218, 3), (4, .ifCond .eq 23, 3), (7, .iload_n 1, 1), (8, .ifCond .lt 19, 3), (11, .iload_n 1, 1), (12, .iconst 3, 1), (13, .if_icmp .ge 14, 3), (16, .iload_n 1, 1), (17, .aload_n 0, 1), (18, .getfield 30, 3), (21, .getfield 157, 3), (24, .if_icmp .ne 9, 3), (27, .aload_n 0, 1), (28, .iconst 2, 1), (29, .invokevirtual 110, 3)] := dz_of (by decide +kernel)
theorem dX9_rule_0 : decode cX9_rule 0 = .ok (.aload_n 0, 1) := dk_dX9_rule_0.1
theorem dX9_rule_1 : decode cX9_rule 1 = .ok (.invokevirtual 218, 3) := dk_dX9_rule_0.2.1
theorem dX9_rule_4 : decode cX9_rule 4 = .ok (.ifCond .eq 23, 3) := dk_dX9_rule_0.2.2.1
theorem dX9_rule_7 : decode cX9_rule 7 = .ok (.iload_n 1, 1) := dk_dX9_rule_0.2.2.2.1
theorem dX9_rule_8 : decode cX9_rule 8 = .ok (.ifCond .lt 19, 3) := dk_dX9_rule_0.2.2.2.2.1
theorem dX9_rule_11 : decode cX9_rule 11 = .ok (.iload_n 1, 1) := dk_dX9_rule_0.2.2.2.2.2.1
theorem dX9_rule_12 : decode cX9_rule 12 = .ok (.iconst 3, 1) := dk_dX9_rule_0.2.2.2.2.2.2.1
theorem dX9_rule_13 : decode cX9_rule 13 = .ok (.if_icmp .ge 14, 3) := dk_dX9_rule_0.2.2.2.2.2.2.2.1
theorem dk_dX9_rule_0_8 : dz_C cX9_rule [(16, .iload_n 1, 1), (17, .aload_n 0, 1), (18, .getfield 30, 3), (21, .getfield 157, 3), (24, .if_icmp .ne 9, 3), (27, .aload_n 0, 1), (28, .iconst 2, 1), (29, .invokevirtual 110, 3)] := dk_dX9_rule_0.2.2.2.2.2.2.2.2
theorem dX9_rule_16 : decode cX9_rule 16 = .ok (.iload_n 1, 1) := dk_dX9_rule_0_8.1
theorem dX9_rule_17 : decode cX9_rule 17 = .ok (.aload_n 0, 1) := dk_dX9_rule_0_8.2.1
theorem dX9_rule_18 : decode cX9_rule 18 = .ok (.getfield 30, 3) := dk_dX9_rule_0_8.2.2.1
theorem dX9_rule_21 : decode cX9_rule 21 = .ok (.getfield 157, 3) := dk_dX9_rule_0_8.2.2.2.1
theorem dX9_rule_24 : decode cX9_rule 24 = .ok (.if_icmp .ne 9, 3) := dk_dX9_rule_0_8.2.2.2.2.1
theorem dX9_rule_27 : decode cX9_rule 27 = .ok (.aload_n 0, 1) := dk_dX9_rule_0_8.2.2.2.2.2.1
theorem dX9_rule_28 : decode cX9_rule 28 = .ok (.iconst 2, 1) := dk_dX9_rule_0_8.2.2.2.2.2.2.1
theorem dX9_rule_29 : decode cX9_rule 29 = .ok (.invokevirtual 110, 3) := dk_dX9_rule_0_8.2.2.2.2.2.2.2.1
theorem dk_dX9_rule_32 : dz_C cX9_rule [(32, .ireturn, 1), (33, .aload_n 0, 1), (34, .invokevirtual 281, 3), (37, .aload_n 0, 1), (38, .getfield 30, 3), (41, .iload_n 1, 1), (42, .putfield 157, 3), (45, .iconst 1, 1), (46, .ireturn, 1)] := dz_of (by decide +kernel)
theorem dX9_rule_32 : decode cX9_rule 32 = .ok (.ireturn, 1) := dk_dX9_rule_32.1
theorem dX9_rule_33 : decode cX9_rule 33 = .ok (.aload_n 0, 1) := dk_dX9_rule_32.2.1
theorem dX9_rule_34 : decode cX9_rule 34 = .ok (.invokevirtual 281, 3) := dk_dX9_rule_32.2.2.1
theorem dX9_rule_37 : decode cX9_rule 37 = .ok (.aload_n 0, 1) := dk_dX9_rule_32.2.2.2.1
theorem dX9_rule_38 : decode cX9_rule 38 = .ok (.getfield 30, 3) := dk_dX9_rule_32.2.2.2.2.1
theorem dX9_rule_41 : decode cX9_rule 41 = .ok (.iload_n 1, 1) := dk_dX9_rule_32.2.2.2.2.2.1
theorem dX9_rule_42 : decode cX9_rule 42 = .ok (.putfield 157, 3) := dk_dX9_rule_32.2.2.2.2.2.2.1
theorem dX9_rule_45 : decode cX9_rule 45 = .ok (.iconst 1, 1) := dk_dX9_rule_32.2.2.2.2.2.2.2.1
theorem dk_dX9_rule_32_8 : dz_C cX9_rule [(46, .ireturn, 1)] := dk_dX9_rule_32.2.2.2.2.2.2.2.2
theorem dX9_rule_46 : decode cX9_rule 46 = .ok (.ireturn, 1) := dk_dX9_rule_32_8.1
theorem dk_dX9_see_0 : dz_C cX9_see [(0, .aload_n 0, 1), (1, .invokevirtual 114, 3), (4, .istore_n 1, 1), (5, .aload_n 0, 1), (6, .getfield 85, 3), (9, .aload_n 0, 1), (10, .getfield 9, 3), (13, .iload_n 1, 1), (14, .aload_n 0, 1), (15, .getfield 20, 3), (18, .getfield 151, 3), (21, .invokevirtual 254, 3), (24, .ifCond .ne 9, 3), (27, .aload_n 0, 1), (28, .iconst 1, 1), (29, .invokevirtual 102, 3)] := dz_of (by decide +kernel)
theorem dX9_see_0 : decode cX9_see 0 = .ok (.aload_n 0, 1) := dk_dX9_see_0.1
theorem dX9_see_1 : decode cX9_see 1 = .ok (.invokevirtual 114, 3) := dk_dX9_see_0.2.1
theorem dX9_see_4 : decode cX9_see 4 = .ok (.istore_n 1, 1) := dk_dX9_see_0.2.2.1
theorem dX9_see_5 : decode cX9_see 5 = .ok (.aload_n 0, 1) := dk_dX9_see_0.2.2.2.1
theorem dX9_see_6 : decode cX9_see 6 = .ok (.getfield 85, 3) := dk_dX9_see_0.2.2.2.2.1
theorem dX9_see_9 : decode cX9_see 9 = .ok (.aload_n 0, 1) := dk_dX9_see_0.2.2.2.2.2.1
theorem dX9_see_10 : decode cX9_see 10 = .ok (.getfield 9, 3) := dk_dX9_see_0.2.2.2.2.2.2.1
theorem dX9_see_13 : decode cX9_see 13 = .ok (.iload_n 1, 1) := dk_dX9_see_0.2.2.2.2.2.2.2.1
theorem dk_dX9_see_0_8 : dz_C cX9_see [(14, .aload_n 0, 1), (15, .getfield 20, 3), (18, .getfield 151, 3), (21, .invokevirtual 254, 3), (24, .ifCond .ne 9, 3), (27, .aload_n 0, 1), (28, .iconst 1, 1), (29, .invokevirtual 102, 3)] := dk_dX9_see_0.2.2.2.2.2.2.2.2
theorem dX9_see_14 : decode cX9_see 14 = .ok (.aload_n 0, 1) := dk_dX9_see_0_8.1
theorem dX9_see_15 : decode cX9_see 15 = .ok (.getfield 20, 3) := dk_dX9_see_0_8.2.1
theorem dX9_see_18 : decode cX9_see 18 = .ok (.getfield 151, 3) := dk_dX9_see_0_8.2.2.1
theorem dX9_see_21 : decode cX9_see 21 = .ok (.invokevirtual 254, 3) := dk_dX9_see_0_8.2.2.2.1
theorem dX9_see_24 : decode cX9_see 24 = .ok (.ifCond .ne 9, 3) := dk_dX9_see_0_8.2.2.2.2.1
theorem dX9_see_27 : decode cX9_see 27 = .ok (.aload_n 0, 1) := dk_dX9_see_0_8.2.2.2.2.2.1
theorem dX9_see_28 : decode cX9_see 28 = .ok (.iconst 1, 1) := dk_dX9_see_0_8.2.2.2.2.2.2.1
theorem dX9_see_29 : decode cX9_see 29 = .ok (.invokevirtual 102, 3) := dk_dX9_see_0_8.2.2.2.2.2.2.2.1
theorem dk_dX9_see_32 : dz_C cX9_see [(32, .ireturn, 1), (33, .aload_n 0, 1), (34, .getfield 85, 3), (37, .aload_n 0, 1), (38, .getfield 9, 3), (41, .iload_n 1, 1), (42, .invokevirtual 258, 3), (45, .ireturn, 1)] := dz_of (by decide +kernel)
theorem dX9_see_32 : decode cX9_see 32 = .ok (.ireturn, 1) := dk_dX9_see_32.1
theorem dX9_see_33 : decode cX9_see 33 = .ok (.aload_n 0, 1) := dk_dX9_see_32.2.1
theorem dX9_see_34 : decode cX9_see 34 = .ok (.getfield 85, 3) := dk_dX9_see_32.2.2.1
theorem dX9_see_37 : decode cX9_see 37 = .ok (.aload_n 0, 1) := dk_dX9_see_32.2.2.2.1
theorem dX9_see_38 : decode cX9_see 38 = .ok (.getfield 9, 3) := dk_dX9_see_32.2.2.2.2.1
theorem dX9_see_41 : decode cX9_see 41 = .ok (.iload_n 1, 1) := dk_dX9_see_32.2.2.2.2.2.1
theorem dX9_see_42 : decode cX9_see 42 = .ok (.invokevirtual 258, 3) := dk_dX9_see_32.2.2.2.2.2.2.1
theorem dX9_see_45 : decode cX9_see 45 = .ok (.ireturn, 1) := dk_dX9_see_32.2.2.2.2.2.2.2.1
theorem dk_dX9_seed_0 : dz_C cX9_seed [(0, .iload_n 1, 1), (1, .ifCond .ge 9, 3), (4, .aload_n 0, 1), (5, .iconst 5, 1), (6, .invokevirtual 110, 3), (9, .ireturn, 1), (10, .aload_n 0, 1), (11, .iload_n 1, 1), (12, .i2l, 1), (13, .putfield 98, 3), (16, .iconst 1, 1), (17, .ireturn, 1)] := dz_of (by decide +kernel)
theorem dX9_seed_0 : decode cX9_seed 0 = .ok (.iload_n 1, 1) := dk_dX9_seed_0.1
theorem dX9_seed_1 : decode cX9_seed 1 = .ok (.ifCond .ge 9, 3) := dk_dX9_seed_0.2.1
theorem dX9_seed_4 : decode cX9_seed 4 = .ok (.aload_n 0, 1) := dk_dX9_seed_0.2.2.1
theorem dX9_seed_5 : decode cX9_seed 5 = .ok (.iconst 5, 1) := dk_dX9_seed_0.2.2.2.1
theorem dX9_seed_6 : decode cX9_seed 6 = .ok (.invokevirtual 110, 3) := dk_dX9_seed_0.2.2.2.2.1
theorem dX9_seed_9 : decode cX9_seed 9 = .ok (.ireturn, 1) := dk_dX9_seed_0.2.2.2.2.2.1
theorem dX9_seed_10 : decode cX9_seed 10 = .ok (.aload_n 0, 1) := dk_dX9_seed_0.2.2.2.2.2.2.1
theorem dX9_seed_11 : decode cX9_seed 11 = .ok (.iload_n 1, 1) := dk_dX9_seed_0.2.2.2.2.2.2.2.1
theorem dk_dX9_seed_0_8 : dz_C cX9_seed [(12, .i2l, 1), (13, .putfield 98, 3), (16, .iconst 1, 1), (17, .ireturn, 1)] := dk_dX9_seed_0.2.2.2.2.2.2.2.2
theorem dX9_seed_12 : decode cX9_seed 12 = .ok (.i2l, 1) := dk_dX9_seed_0_8.1
theorem dX9_seed_13 : decode cX9_seed 13 = .ok (.putfield 98, 3) := dk_dX9_seed_0_8.2.1
theorem dX9_seed_16 : decode cX9_seed 16 = .ok (.iconst 1, 1) := dk_dX9_seed_0_8.2.2.1
theorem dX9_seed_17 : decode cX9_seed 17 = .ok (.ireturn, 1) := dk_dX9_seed_0_8.2.2.2.1
theorem dk_dX9_stands_0 : dz_C cX9_stands [(0, .aload_n 0, 1), (1, .getfield 20, 3), (4, .getfield 145, 3), (7, .ifCond .le 7, 3), (10, .iconst 1, 1), (11, .goto 4, 3), (14, .iconst 0, 1), (15, .ireturn, 1)] := dz_of (by decide +kernel)
theorem dX9_stands_0 : decode cX9_stands 0 = .ok (.aload_n 0, 1) := dk_dX9_stands_0.1
theorem dX9_stands_1 : decode cX9_stands 1 = .ok (.getfield 20, 3) := dk_dX9_stands_0.2.1
theorem dX9_stands_4 : decode cX9_stands 4 = .ok (.getfield 145, 3) := dk_dX9_stands_0.2.2.1
theorem dX9_stands_7 : decode cX9_stands 7 = .ok (.ifCond .le 7, 3) := dk_dX9_stands_0.2.2.2.1
theorem dX9_stands_10 : decode cX9_stands 10 = .ok (.iconst 1, 1) := dk_dX9_stands_0.2.2.2.2.1
theorem dX9_stands_11 : decode cX9_stands 11 = .ok (.goto 4, 3) := dk_dX9_stands_0.2.2.2.2.2.1
theorem dX9_stands_14 : decode cX9_stands 14 = .ok (.iconst 0, 1) := dk_dX9_stands_0.2.2.2.2.2.2.1
theorem dX9_stands_15 : decode cX9_stands 15 = .ok (.ireturn, 1) := dk_dX9_stands_0.2.2.2.2.2.2.2.1
theorem dk_dX9_status_0 : dz_C cX9_status [(0, .iload_n 1, 1), (1, .ifCond .lt 18, 3), (4, .iload_n 1, 1), (5, .bipush 6, 2), (7, .if_icmp .ge 12, 3), (10, .aload_n 0, 1), (11, .getfield 95, 3), (14, .iload_n 1, 1), (15, .iaload, 1), (16, .goto 4, 3), (19, .iconst (-1), 1), (20, .ireturn, 1)] := dz_of (by decide +kernel)
theorem dX9_status_0 : decode cX9_status 0 = .ok (.iload_n 1, 1) := dk_dX9_status_0.1
theorem dX9_status_1 : decode cX9_status 1 = .ok (.ifCond .lt 18, 3) := dk_dX9_status_0.2.1
theorem dX9_status_4 : decode cX9_status 4 = .ok (.iload_n 1, 1) := dk_dX9_status_0.2.2.1
theorem dX9_status_5 : decode cX9_status 5 = .ok (.bipush 6, 2) := dk_dX9_status_0.2.2.2.1
theorem dX9_status_7 : decode cX9_status 7 = .ok (.if_icmp .ge 12, 3) := dk_dX9_status_0.2.2.2.2.1
theorem dX9_status_10 : decode cX9_status 10 = .ok (.aload_n 0, 1) := dk_dX9_status_0.2.2.2.2.2.1
theorem dX9_status_11 : decode cX9_status 11 = .ok (.getfield 95, 3) := dk_dX9_status_0.2.2.2.2.2.2.1
theorem dX9_status_14 : decode cX9_status 14 = .ok (.iload_n 1, 1) := dk_dX9_status_0.2.2.2.2.2.2.2.1
theorem dk_dX9_status_0_8 : dz_C cX9_status [(15, .iaload, 1), (16, .goto 4, 3), (19, .iconst (-1), 1), (20, .ireturn, 1)] := dk_dX9_status_0.2.2.2.2.2.2.2.2
theorem dX9_status_15 : decode cX9_status 15 = .ok (.iaload, 1) := dk_dX9_status_0_8.1
theorem dX9_status_16 : decode cX9_status 16 = .ok (.goto 4, 3) := dk_dX9_status_0_8.2.1
theorem dX9_status_19 : decode cX9_status 19 = .ok (.iconst (-1), 1) := dk_dX9_status_0_8.2.2.1
theorem dX9_status_20 : decode cX9_status 20 = .ok (.ireturn, 1) := dk_dX9_status_0_8.2.2.2.1
theorem dk_dX9_takeTape_0 : dz_C cX9_takeTape [(0, .aload_n 0, 1), (1, .getfield 13, 3), (4, .istore_n 1, 1), (5, .aload_n 0, 1), (6, .iconst 0, 1), (7, .putfield 13, 3), (10, .iload_n 1, 1), (11, .ireturn, 1)] := dz_of (by decide +kernel)
theorem dX9_takeTape_0 : decode cX9_takeTape 0 = .ok (.aload_n 0, 1) := dk_dX9_takeTape_0.1
theorem dX9_takeTape_1 : decode cX9_takeTape 1 = .ok (.getfield 13, 3) := dk_dX9_takeTape_0.2.1
theorem dX9_takeTape_4 : decode cX9_takeTape 4 = .ok (.istore_n 1, 1) := dk_dX9_takeTape_0.2.2.1
theorem dX9_takeTape_5 : decode cX9_takeTape 5 = .ok (.aload_n 0, 1) := dk_dX9_takeTape_0.2.2.2.1
theorem dX9_takeTape_6 : decode cX9_takeTape 6 = .ok (.iconst 0, 1) := dk_dX9_takeTape_0.2.2.2.2.1
theorem dX9_takeTape_7 : decode cX9_takeTape 7 = .ok (.putfield 13, 3) := dk_dX9_takeTape_0.2.2.2.2.2.1
theorem dX9_takeTape_10 : decode cX9_takeTape 10 = .ok (.iload_n 1, 1) := dk_dX9_takeTape_0.2.2.2.2.2.2.1
theorem dX9_takeTape_11 : decode cX9_takeTape 11 = .ok (.ireturn, 1) := dk_dX9_takeTape_0.2.2.2.2.2.2.2.1
theorem dk_dX9_trust_0 : dz_C cX9_trust [(0, .aload_n 0, 1), (1, .iload_n 1, 1), (2, .invokevirtual 169, 3), (5, .ifCond .eq 26, 3), (8, .iload_n 2, 1), (9, .ifCond .lt 22, 3), (12, .iload_n 2, 1), (13, .bipush 9, 2), (15, .if_icmp .gt 16, 3), (18, .iload_n 2, 1), (19, .aload_n 0, 1), (20, .getfield 30, 3), (23, .getfield 184, 3), (26, .iload_n 1, 1), (27, .iaload, 1), (28, .if_icmp .ne 9, 3)] := dz_of (by decide +kernel)
theorem dX9_trust_0 : decode cX9_trust 0 = .ok (.aload_n 0, 1) := dk_dX9_trust_0.1
theorem dX9_trust_1 : decode cX9_trust 1 = .ok (.iload_n 1, 1) := dk_dX9_trust_0.2.1
theorem dX9_trust_2 : decode cX9_trust 2 = .ok (.invokevirtual 169, 3) := dk_dX9_trust_0.2.2.1
theorem dX9_trust_5 : decode cX9_trust 5 = .ok (.ifCond .eq 26, 3) := dk_dX9_trust_0.2.2.2.1
theorem dX9_trust_8 : decode cX9_trust 8 = .ok (.iload_n 2, 1) := dk_dX9_trust_0.2.2.2.2.1
theorem dX9_trust_9 : decode cX9_trust 9 = .ok (.ifCond .lt 22, 3) := dk_dX9_trust_0.2.2.2.2.2.1
theorem dX9_trust_12 : decode cX9_trust 12 = .ok (.iload_n 2, 1) := dk_dX9_trust_0.2.2.2.2.2.2.1
theorem dX9_trust_13 : decode cX9_trust 13 = .ok (.bipush 9, 2) := dk_dX9_trust_0.2.2.2.2.2.2.2.1
theorem dk_dX9_trust_0_8 : dz_C cX9_trust [(15, .if_icmp .gt 16, 3), (18, .iload_n 2, 1), (19, .aload_n 0, 1), (20, .getfield 30, 3), (23, .getfield 184, 3), (26, .iload_n 1, 1), (27, .iaload, 1), (28, .if_icmp .ne 9, 3)] := dk_dX9_trust_0.2.2.2.2.2.2.2.2
theorem dX9_trust_15 : decode cX9_trust 15 = .ok (.if_icmp .gt 16, 3) := dk_dX9_trust_0_8.1
theorem dX9_trust_18 : decode cX9_trust 18 = .ok (.iload_n 2, 1) := dk_dX9_trust_0_8.2.1
theorem dX9_trust_19 : decode cX9_trust 19 = .ok (.aload_n 0, 1) := dk_dX9_trust_0_8.2.2.1
theorem dX9_trust_20 : decode cX9_trust 20 = .ok (.getfield 30, 3) := dk_dX9_trust_0_8.2.2.2.1
theorem dX9_trust_23 : decode cX9_trust 23 = .ok (.getfield 184, 3) := dk_dX9_trust_0_8.2.2.2.2.1
theorem dX9_trust_26 : decode cX9_trust 26 = .ok (.iload_n 1, 1) := dk_dX9_trust_0_8.2.2.2.2.2.1
theorem dX9_trust_27 : decode cX9_trust 27 = .ok (.iaload, 1) := dk_dX9_trust_0_8.2.2.2.2.2.2.1
theorem dX9_trust_28 : decode cX9_trust 28 = .ok (.if_icmp .ne 9, 3) := dk_dX9_trust_0_8.2.2.2.2.2.2.2.1
theorem dk_dX9_trust_31 : dz_C cX9_trust [(31, .aload_n 0, 1), (32, .iconst 2, 1), (33, .invokevirtual 110, 3), (36, .ireturn, 1), (37, .aload_n 0, 1), (38, .invokevirtual 281, 3), (41, .aload_n 0, 1), (42, .getfield 30, 3), (45, .getfield 184, 3), (48, .iload_n 1, 1), (49, .iload_n 2, 1), (50, .iastore, 1), (51, .iconst 1, 1), (52, .ireturn, 1)] := dz_of (by decide +kernel)
theorem dX9_trust_31 : decode cX9_trust 31 = .ok (.aload_n 0, 1) := dk_dX9_trust_31.1
theorem dX9_trust_32 : decode cX9_trust 32 = .ok (.iconst 2, 1) := dk_dX9_trust_31.2.1
theorem dX9_trust_33 : decode cX9_trust 33 = .ok (.invokevirtual 110, 3) := dk_dX9_trust_31.2.2.1
theorem dX9_trust_36 : decode cX9_trust 36 = .ok (.ireturn, 1) := dk_dX9_trust_31.2.2.2.1
theorem dX9_trust_37 : decode cX9_trust 37 = .ok (.aload_n 0, 1) := dk_dX9_trust_31.2.2.2.2.1
theorem dX9_trust_38 : decode cX9_trust 38 = .ok (.invokevirtual 281, 3) := dk_dX9_trust_31.2.2.2.2.2.1
theorem dX9_trust_41 : decode cX9_trust 41 = .ok (.aload_n 0, 1) := dk_dX9_trust_31.2.2.2.2.2.2.1
theorem dX9_trust_42 : decode cX9_trust 42 = .ok (.getfield 30, 3) := dk_dX9_trust_31.2.2.2.2.2.2.2.1
theorem dk_dX9_trust_31_8 : dz_C cX9_trust [(45, .getfield 184, 3), (48, .iload_n 1, 1), (49, .iload_n 2, 1), (50, .iastore, 1), (51, .iconst 1, 1), (52, .ireturn, 1)] := dk_dX9_trust_31.2.2.2.2.2.2.2.2
theorem dX9_trust_45 : decode cX9_trust 45 = .ok (.getfield 184, 3) := dk_dX9_trust_31_8.1
theorem dX9_trust_48 : decode cX9_trust 48 = .ok (.iload_n 1, 1) := dk_dX9_trust_31_8.2.1
theorem dX9_trust_49 : decode cX9_trust 49 = .ok (.iload_n 2, 1) := dk_dX9_trust_31_8.2.2.1
theorem dX9_trust_50 : decode cX9_trust 50 = .ok (.iastore, 1) := dk_dX9_trust_31_8.2.2.2.1
theorem dX9_trust_51 : decode cX9_trust 51 = .ok (.iconst 1, 1) := dk_dX9_trust_31_8.2.2.2.2.1
theorem dX9_trust_52 : decode cX9_trust 52 = .ok (.ireturn, 1) := dk_dX9_trust_31_8.2.2.2.2.2.1
theorem dk_dX9_undo_0 : dz_C cX9_undo [(0, .aload_n 0, 1), (1, .getfield 37, 3), (4, .aload_n 0, 1), (5, .getfield 30, 3), (8, .invokevirtual 305, 3), (11, .ifCond .ne 9, 3), (14, .aload_n 0, 1), (15, .iconst 4, 1), (16, .invokevirtual 110, 3), (19, .ireturn, 1), (20, .aload_n 0, 1), (21, .invokevirtual 136, 3), (24, .iconst 1, 1), (25, .ireturn, 1)] := dz_of (by decide +kernel)
theorem dX9_undo_0 : decode cX9_undo 0 = .ok (.aload_n 0, 1) := dk_dX9_undo_0.1
theorem dX9_undo_1 : decode cX9_undo 1 = .ok (.getfield 37, 3) := dk_dX9_undo_0.2.1
theorem dX9_undo_4 : decode cX9_undo 4 = .ok (.aload_n 0, 1) := dk_dX9_undo_0.2.2.1
theorem dX9_undo_5 : decode cX9_undo 5 = .ok (.getfield 30, 3) := dk_dX9_undo_0.2.2.2.1
theorem dX9_undo_8 : decode cX9_undo 8 = .ok (.invokevirtual 305, 3) := dk_dX9_undo_0.2.2.2.2.1
theorem dX9_undo_11 : decode cX9_undo 11 = .ok (.ifCond .ne 9, 3) := dk_dX9_undo_0.2.2.2.2.2.1
theorem dX9_undo_14 : decode cX9_undo 14 = .ok (.aload_n 0, 1) := dk_dX9_undo_0.2.2.2.2.2.2.1
theorem dX9_undo_15 : decode cX9_undo 15 = .ok (.iconst 4, 1) := dk_dX9_undo_0.2.2.2.2.2.2.2.1
theorem dk_dX9_undo_0_8 : dz_C cX9_undo [(16, .invokevirtual 110, 3), (19, .ireturn, 1), (20, .aload_n 0, 1), (21, .invokevirtual 136, 3), (24, .iconst 1, 1), (25, .ireturn, 1)] := dk_dX9_undo_0.2.2.2.2.2.2.2.2
theorem dX9_undo_16 : decode cX9_undo 16 = .ok (.invokevirtual 110, 3) := dk_dX9_undo_0_8.1
theorem dX9_undo_19 : decode cX9_undo 19 = .ok (.ireturn, 1) := dk_dX9_undo_0_8.2.1
theorem dX9_undo_20 : decode cX9_undo 20 = .ok (.aload_n 0, 1) := dk_dX9_undo_0_8.2.2.1
theorem dX9_undo_21 : decode cX9_undo 21 = .ok (.invokevirtual 136, 3) := dk_dX9_undo_0_8.2.2.2.1
theorem dX9_undo_24 : decode cX9_undo 24 = .ok (.iconst 1, 1) := dk_dX9_undo_0_8.2.2.2.2.1
theorem dX9_undo_25 : decode cX9_undo 25 = .ok (.ireturn, 1) := dk_dX9_undo_0_8.2.2.2.2.2.1
theorem dk_dX9_walker_0 : dz_C cX9_walker [(0, .aload_n 0, 1), (1, .iload_n 1, 1), (2, .invokevirtual 172, 3), (5, .ifCond .ne 5, 3), (8, .iconst (-1), 1), (9, .ireturn, 1), (10, .aload_n 0, 1), (11, .invokevirtual 190, 3), (14, .iload_n 2, 1), (56, .aload_n 0, 1), (57, .getfield 20, 3), (60, .getfield 193, 3), (63, .iload_n 1, 1), (64, .iaload, 1), (65, .ireturn, 1), (66, .aload_n 0, 1)] := dz_of (by decide +kernel)
theorem dX9_walker_0 : decode cX9_walker 0 = .ok (.aload_n 0, 1) := dk_dX9_walker_0.1
theorem dX9_walker_1 : decode cX9_walker 1 = .ok (.iload_n 1, 1) := dk_dX9_walker_0.2.1
theorem dX9_walker_2 : decode cX9_walker 2 = .ok (.invokevirtual 172, 3) := dk_dX9_walker_0.2.2.1
theorem dX9_walker_5 : decode cX9_walker 5 = .ok (.ifCond .ne 5, 3) := dk_dX9_walker_0.2.2.2.1
theorem dX9_walker_8 : decode cX9_walker 8 = .ok (.iconst (-1), 1) := dk_dX9_walker_0.2.2.2.2.1
theorem dX9_walker_9 : decode cX9_walker 9 = .ok (.ireturn, 1) := dk_dX9_walker_0.2.2.2.2.2.1
theorem dX9_walker_10 : decode cX9_walker 10 = .ok (.aload_n 0, 1) := dk_dX9_walker_0.2.2.2.2.2.2.1
theorem dX9_walker_11 : decode cX9_walker 11 = .ok (.invokevirtual 190, 3) := dk_dX9_walker_0.2.2.2.2.2.2.2.1
theorem dk_dX9_walker_0_8 : dz_C cX9_walker [(14, .iload_n 2, 1), (56, .aload_n 0, 1), (57, .getfield 20, 3), (60, .getfield 193, 3), (63, .iload_n 1, 1), (64, .iaload, 1), (65, .ireturn, 1), (66, .aload_n 0, 1)] := dk_dX9_walker_0.2.2.2.2.2.2.2.2
theorem dX9_walker_14 : decode cX9_walker 14 = .ok (.iload_n 2, 1) := dk_dX9_walker_0_8.1
theorem dX9_walker_56 : decode cX9_walker 56 = .ok (.aload_n 0, 1) := dk_dX9_walker_0_8.2.1
theorem dX9_walker_57 : decode cX9_walker 57 = .ok (.getfield 20, 3) := dk_dX9_walker_0_8.2.2.1
theorem dX9_walker_60 : decode cX9_walker 60 = .ok (.getfield 193, 3) := dk_dX9_walker_0_8.2.2.2.1
theorem dX9_walker_63 : decode cX9_walker 63 = .ok (.iload_n 1, 1) := dk_dX9_walker_0_8.2.2.2.2.1
theorem dX9_walker_64 : decode cX9_walker 64 = .ok (.iaload, 1) := dk_dX9_walker_0_8.2.2.2.2.2.1
theorem dX9_walker_65 : decode cX9_walker 65 = .ok (.ireturn, 1) := dk_dX9_walker_0_8.2.2.2.2.2.2.1
theorem dX9_walker_66 : decode cX9_walker 66 = .ok (.aload_n 0, 1) := dk_dX9_walker_0_8.2.2.2.2.2.2.2.1
theorem dX9_walker_15 : decode cX9_walker 15 = .ok (.tableswitch 116 0 6 #[41, 51, 61, 71, 80, 92, 104], 41) := by decide +kernel
theorem dk_dX9_walker_67 : dz_C cX9_walker [(67, .getfield 20, 3), (70, .getfield 196, 3), (73, .iload_n 1, 1), (74, .iaload, 1), (75, .ireturn, 1), (76, .aload_n 0, 1), (77, .getfield 62, 3), (80, .getfield 199, 3), (83, .iload_n 1, 1), (84, .iaload, 1), (85, .ireturn, 1), (86, .aload_n 0, 1), (87, .getfield 62, 3), (90, .iload_n 1, 1), (91, .invokevirtual 202, 3), (94, .ireturn, 1)] := dz_of (by decide +kernel)
theorem dX9_walker_67 : decode cX9_walker 67 = .ok (.getfield 20, 3) := dk_dX9_walker_67.1
theorem dX9_walker_70 : decode cX9_walker 70 = .ok (.getfield 196, 3) := dk_dX9_walker_67.2.1
theorem dX9_walker_73 : decode cX9_walker 73 = .ok (.iload_n 1, 1) := dk_dX9_walker_67.2.2.1
theorem dX9_walker_74 : decode cX9_walker 74 = .ok (.iaload, 1) := dk_dX9_walker_67.2.2.2.1
theorem dX9_walker_75 : decode cX9_walker 75 = .ok (.ireturn, 1) := dk_dX9_walker_67.2.2.2.2.1
theorem dX9_walker_76 : decode cX9_walker 76 = .ok (.aload_n 0, 1) := dk_dX9_walker_67.2.2.2.2.2.1
theorem dX9_walker_77 : decode cX9_walker 77 = .ok (.getfield 62, 3) := dk_dX9_walker_67.2.2.2.2.2.2.1
theorem dX9_walker_80 : decode cX9_walker 80 = .ok (.getfield 199, 3) := dk_dX9_walker_67.2.2.2.2.2.2.2.1
theorem dk_dX9_walker_67_8 : dz_C cX9_walker [(83, .iload_n 1, 1), (84, .iaload, 1), (85, .ireturn, 1), (86, .aload_n 0, 1), (87, .getfield 62, 3), (90, .iload_n 1, 1), (91, .invokevirtual 202, 3), (94, .ireturn, 1)] := dk_dX9_walker_67.2.2.2.2.2.2.2.2
theorem dX9_walker_83 : decode cX9_walker 83 = .ok (.iload_n 1, 1) := dk_dX9_walker_67_8.1
theorem dX9_walker_84 : decode cX9_walker 84 = .ok (.iaload, 1) := dk_dX9_walker_67_8.2.1
theorem dX9_walker_85 : decode cX9_walker 85 = .ok (.ireturn, 1) := dk_dX9_walker_67_8.2.2.1
theorem dX9_walker_86 : decode cX9_walker 86 = .ok (.aload_n 0, 1) := dk_dX9_walker_67_8.2.2.2.1
theorem dX9_walker_87 : decode cX9_walker 87 = .ok (.getfield 62, 3) := dk_dX9_walker_67_8.2.2.2.2.1
theorem dX9_walker_90 : decode cX9_walker 90 = .ok (.iload_n 1, 1) := dk_dX9_walker_67_8.2.2.2.2.2.1
theorem dX9_walker_91 : decode cX9_walker 91 = .ok (.invokevirtual 202, 3) := dk_dX9_walker_67_8.2.2.2.2.2.2.1
theorem dX9_walker_94 : decode cX9_walker 94 = .ok (.ireturn, 1) := dk_dX9_walker_67_8.2.2.2.2.2.2.2.1
theorem dk_dX9_walker_95 : dz_C cX9_walker [(95, .aload_n 0, 1), (96, .getfield 62, 3), (99, .getfield 205, 3), (102, .iload_n 1, 1), (103, .invokestatic 208, 3), (106, .ireturn, 1), (107, .aload_n 0, 1), (108, .getfield 62, 3), (111, .getfield 212, 3), (114, .iload_n 1, 1), (115, .invokestatic 208, 3), (118, .ireturn, 1), (119, .aload_n 0, 1), (120, .getfield 62, 3), (123, .getfield 215, 3), (126, .iload_n 1, 1)] := dz_of (by decide +kernel)
theorem dX9_walker_95 : decode cX9_walker 95 = .ok (.aload_n 0, 1) := dk_dX9_walker_95.1
theorem dX9_walker_96 : decode cX9_walker 96 = .ok (.getfield 62, 3) := dk_dX9_walker_95.2.1
theorem dX9_walker_99 : decode cX9_walker 99 = .ok (.getfield 205, 3) := dk_dX9_walker_95.2.2.1
theorem dX9_walker_102 : decode cX9_walker 102 = .ok (.iload_n 1, 1) := dk_dX9_walker_95.2.2.2.1
theorem dX9_walker_103 : decode cX9_walker 103 = .ok (.invokestatic 208, 3) := dk_dX9_walker_95.2.2.2.2.1
theorem dX9_walker_106 : decode cX9_walker 106 = .ok (.ireturn, 1) := dk_dX9_walker_95.2.2.2.2.2.1
theorem dX9_walker_107 : decode cX9_walker 107 = .ok (.aload_n 0, 1) := dk_dX9_walker_95.2.2.2.2.2.2.1
theorem dX9_walker_108 : decode cX9_walker 108 = .ok (.getfield 62, 3) := dk_dX9_walker_95.2.2.2.2.2.2.2.1
theorem dk_dX9_walker_95_8 : dz_C cX9_walker [(111, .getfield 212, 3), (114, .iload_n 1, 1), (115, .invokestatic 208, 3), (118, .ireturn, 1), (119, .aload_n 0, 1), (120, .getfield 62, 3), (123, .getfield 215, 3), (126, .iload_n 1, 1)] := dk_dX9_walker_95.2.2.2.2.2.2.2.2
theorem dX9_walker_111 : decode cX9_walker 111 = .ok (.getfield 212, 3) := dk_dX9_walker_95_8.1
theorem dX9_walker_114 : decode cX9_walker 114 = .ok (.iload_n 1, 1) := dk_dX9_walker_95_8.2.1
theorem dX9_walker_115 : decode cX9_walker 115 = .ok (.invokestatic 208, 3) := dk_dX9_walker_95_8.2.2.1
theorem dX9_walker_118 : decode cX9_walker 118 = .ok (.ireturn, 1) := dk_dX9_walker_95_8.2.2.2.1
theorem dX9_walker_119 : decode cX9_walker 119 = .ok (.aload_n 0, 1) := dk_dX9_walker_95_8.2.2.2.2.1
theorem dX9_walker_120 : decode cX9_walker 120 = .ok (.getfield 62, 3) := dk_dX9_walker_95_8.2.2.2.2.2.1
theorem dX9_walker_123 : decode cX9_walker 123 = .ok (.getfield 215, 3) := dk_dX9_walker_95_8.2.2.2.2.2.2.1
theorem dX9_walker_126 : decode cX9_walker 126 = .ok (.iload_n 1, 1) := dk_dX9_walker_95_8.2.2.2.2.2.2.2.1
theorem dk_dX9_walker_127 : dz_C cX9_walker [(127, .invokestatic 208, 3), (130, .ireturn, 1), (131, .iconst (-1), 1), (132, .ireturn, 1)] := dz_of (by decide +kernel)
theorem dX9_walker_127 : decode cX9_walker 127 = .ok (.invokestatic 208, 3) := dk_dX9_walker_127.1
theorem dX9_walker_130 : decode cX9_walker 130 = .ok (.ireturn, 1) := dk_dX9_walker_127.2.1
theorem dX9_walker_131 : decode cX9_walker 131 = .ok (.iconst (-1), 1) := dk_dX9_walker_127.2.2.1
theorem dX9_walker_132 : decode cX9_walker 132 = .ok (.ireturn, 1) := dk_dX9_walker_127.2.2.2.1
theorem dk_dX9_watched_0 : dz_C cX9_watched [(0, .aload_n 0, 1), (1, .invokevirtual 218, 3), (4, .ifCond .ne 5, 3), (7, .iconst (-1), 1), (8, .ireturn, 1), (9, .aload_n 0, 1), (10, .getfield 85, 3), (13, .aload_n 0, 1), (14, .getfield 30, 3), (17, .invokevirtual 262, 3), (20, .iload_n 1, 1), (48, .aload_n 0, 1), (49, .getfield 85, 3), (52, .getfield 275, 3), (55, .ireturn, 1), (56, .aload_n 0, 1)] := dz_of (by decide +kernel)
theorem dX9_watched_0 : decode cX9_watched 0 = .ok (.aload_n 0, 1) := dk_dX9_watched_0.1
theorem dX9_watched_1 : decode cX9_watched 1 = .ok (.invokevirtual 218, 3) := dk_dX9_watched_0.2.1
theorem dX9_watched_4 : decode cX9_watched 4 = .ok (.ifCond .ne 5, 3) := dk_dX9_watched_0.2.2.1
theorem dX9_watched_7 : decode cX9_watched 7 = .ok (.iconst (-1), 1) := dk_dX9_watched_0.2.2.2.1
theorem dX9_watched_8 : decode cX9_watched 8 = .ok (.ireturn, 1) := dk_dX9_watched_0.2.2.2.2.1
theorem dX9_watched_9 : decode cX9_watched 9 = .ok (.aload_n 0, 1) := dk_dX9_watched_0.2.2.2.2.2.1
theorem dX9_watched_10 : decode cX9_watched 10 = .ok (.getfield 85, 3) := dk_dX9_watched_0.2.2.2.2.2.2.1
theorem dX9_watched_13 : decode cX9_watched 13 = .ok (.aload_n 0, 1) := dk_dX9_watched_0.2.2.2.2.2.2.2.1
theorem dk_dX9_watched_0_8 : dz_C cX9_watched [(14, .getfield 30, 3), (17, .invokevirtual 262, 3), (20, .iload_n 1, 1), (48, .aload_n 0, 1), (49, .getfield 85, 3), (52, .getfield 275, 3), (55, .ireturn, 1), (56, .aload_n 0, 1)] := dk_dX9_watched_0.2.2.2.2.2.2.2.2
theorem dX9_watched_14 : decode cX9_watched 14 = .ok (.getfield 30, 3) := dk_dX9_watched_0_8.1
theorem dX9_watched_17 : decode cX9_watched 17 = .ok (.invokevirtual 262, 3) := dk_dX9_watched_0_8.2.1
theorem dX9_watched_20 : decode cX9_watched 20 = .ok (.iload_n 1, 1) := dk_dX9_watched_0_8.2.2.1
theorem dX9_watched_48 : decode cX9_watched 48 = .ok (.aload_n 0, 1) := dk_dX9_watched_0_8.2.2.2.1
theorem dX9_watched_49 : decode cX9_watched 49 = .ok (.getfield 85, 3) := dk_dX9_watched_0_8.2.2.2.2.1
theorem dX9_watched_52 : decode cX9_watched 52 = .ok (.getfield 275, 3) := dk_dX9_watched_0_8.2.2.2.2.2.1
theorem dX9_watched_55 : decode cX9_watched 55 = .ok (.ireturn, 1) := dk_dX9_watched_0_8.2.2.2.2.2.2.1
theorem dX9_watched_56 : decode cX9_watched 56 = .ok (.aload_n 0, 1) := dk_dX9_watched_0_8.2.2.2.2.2.2.2.1
theorem dX9_watched_21 : decode cX9_watched 21 = .ok (.lookupswitch 43 #[(0, 27), (1, 35)], 27) := by decide +kernel
theorem dk_dX9_watched_57 : dz_C cX9_watched [(57, .getfield 85, 3), (60, .getfield 278, 3), (63, .ireturn, 1), (64, .iconst (-1), 1), (65, .ireturn, 1)] := dz_of (by decide +kernel)
theorem dX9_watched_57 : decode cX9_watched 57 = .ok (.getfield 85, 3) := dk_dX9_watched_57.1
theorem dX9_watched_60 : decode cX9_watched 60 = .ok (.getfield 278, 3) := dk_dX9_watched_57.2.1
theorem dX9_watched_63 : decode cX9_watched 63 = .ok (.ireturn, 1) := dk_dX9_watched_57.2.2.1
theorem dX9_watched_64 : decode cX9_watched 64 = .ok (.iconst (-1), 1) := dk_dX9_watched_57.2.2.2.1
theorem dX9_watched_65 : decode cX9_watched 65 = .ok (.ireturn, 1) := dk_dX9_watched_57.2.2.2.2.1
