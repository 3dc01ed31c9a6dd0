theorem dk_dX10_keeps_48 : decode cX10_keeps 48 = .ok (.getfield 424, 3) ∧ decode cX10_keeps 51 = .ok (.bipush 20, 2) ∧ decode cX10_keeps 53 = .ok (.if_icmp .ge 13, 3) ∧ decode cX10_keeps 56 = .ok (.aload_n 0, 1) ∧ decode cX10_keeps 57 = .ok (.dup, 1) ∧ decode cX10_keeps 58 = .ok (.getfield 424, 3) ∧ decode cX10_keeps 61 = .ok (.iconst 1, 1) ∧ decode cX10_keeps 62 = .ok (.iadd, 1) ∧ decode cX10_keeps 63 = .ok (.putfield 424, 3) ∧ decode cX10_keeps 66 = .ok (.return_, 1) := by decide +kernel
theorem dX10_keeps_48 : decode cX10_keeps 48 = .ok (.getfield 424, 3) := dk_dX10_keeps_48.1
theorem dX10_keeps_51 : decode cX10_keeps 51 = .ok (.bipush 20, 2) := dk_dX10_keeps_48.2.1
theorem dX10_keeps_53 : decode cX10_keeps 53 = .ok (.if_icmp .ge 13, 3) := dk_dX10_keeps_48.2.2.1
theorem dX10_keeps_56 : decode cX10_keeps 56 = .ok (.aload_n 0, 1) := dk_dX10_keeps_48.2.2.2.1
theorem dX10_keeps_57 : decode cX10_keeps 57 = .ok (.dup, 1) := dk_dX10_keeps_48.2.2.2.2.1
theorem dX10_keeps_58 : decode cX10_keeps 58 = .ok (.getfield 424, 3) := dk_dX10_keeps_48.2.2.2.2.2.1
theorem dX10_keeps_61 : decode cX10_keeps 61 = .ok (.iconst 1, 1) := dk_dX10_keeps_48.2.2.2.2.2.2.1
theorem dX10_keeps_62 : decode cX10_keeps 62 = .ok (.iadd, 1) := dk_dX10_keeps_48.2.2.2.2.2.2.2.1
theorem dX10_keeps_63 : decode cX10_keeps 63 = .ok (.putfield 424, 3) := dk_dX10_keeps_48.2.2.2.2.2.2.2.2.1
theorem dX10_keeps_66 : decode cX10_keeps 66 = .ok (.return_, 1) := dk_dX10_keeps_48.2.2.2.2.2.2.2.2.2
theorem dk_dX10_kind_0 : decode cX10_kind 0 = .ok (.aload_n 0, 1) ∧ decode cX10_kind 1 = .ok (.iload_n 1, 1) ∧ decode cX10_kind 2 = .ok (.invokevirtual 528, 3) ∧ decode cX10_kind 5 = .ok (.ifCond .ne 5, 3) ∧ decode cX10_kind 8 = .ok (.iconst (-1), 1) ∧ decode cX10_kind 9 = .ok (.ireturn, 1) ∧ decode cX10_kind 10 = .ok (.iconst 0, 1) ∧ decode cX10_kind 11 = .ok (.istore_n 3, 1) ∧ decode cX10_kind 12 = .ok (.iconst 0, 1) ∧ decode cX10_kind 13 = .ok (.istore 4, 2) ∧ decode cX10_kind 15 = .ok (.iload 4, 2) ∧ decode cX10_kind 17 = .ok (.aload_n 0, 1) ∧ decode cX10_kind 18 = .ok (.invokevirtual 433, 3) ∧ decode cX10_kind 21 = .ok (.if_icmp .ge 26, 3) ∧ decode cX10_kind 24 = .ok (.aload_n 0, 1) ∧ decode cX10_kind 25 = .ok (.iload 4, 2) := by decide +kernel
theorem dX10_kind_0 : decode cX10_kind 0 = .ok (.aload_n 0, 1) := dk_dX10_kind_0.1
theorem dX10_kind_1 : decode cX10_kind 1 = .ok (.iload_n 1, 1) := dk_dX10_kind_0.2.1
theorem dX10_kind_2 : decode cX10_kind 2 = .ok (.invokevirtual 528, 3) := dk_dX10_kind_0.2.2.1
theorem dX10_kind_5 : decode cX10_kind 5 = .ok (.ifCond .ne 5, 3) := dk_dX10_kind_0.2.2.2.1
theorem dX10_kind_8 : decode cX10_kind 8 = .ok (.iconst (-1), 1) := dk_dX10_kind_0.2.2.2.2.1
theorem dX10_kind_9 : decode cX10_kind 9 = .ok (.ireturn, 1) := dk_dX10_kind_0.2.2.2.2.2.1
theorem dX10_kind_10 : decode cX10_kind 10 = .ok (.iconst 0, 1) := dk_dX10_kind_0.2.2.2.2.2.2.1
theorem dX10_kind_11 : decode cX10_kind 11 = .ok (.istore_n 3, 1) := dk_dX10_kind_0.2.2.2.2.2.2.2.1
theorem dX10_kind_12 : decode cX10_kind 12 = .ok (.iconst 0, 1) := dk_dX10_kind_0.2.2.2.2.2.2.2.2.1
theorem dX10_kind_13 : decode cX10_kind 13 = .ok (.istore 4, 2) := dk_dX10_kind_0.2.2.2.2.2.2.2.2.2.1
theorem dX10_kind_15 : decode cX10_kind 15 = .ok (.iload 4, 2) := dk_dX10_kind_0.2.2.2.2.2.2.2.2.2.2.1
theorem dX10_kind_17 : decode cX10_kind 17 = .ok (.aload_n 0, 1) := dk_dX10_kind_0.2.2.2.2.2.2.2.2.2.2.2.1
theorem dX10_kind_18 : decode cX10_kind 18 = .ok (.invokevirtual 433, 3) := dk_dX10_kind_0.2.2.2.2.2.2.2.2.2.2.2.2.1
theorem dX10_kind_21 : decode cX10_kind 21 = .ok (.if_icmp .ge 26, 3) := dk_dX10_kind_0.2.2.2.2.2.2.2.2.2.2.2.2.2.1
theorem dX10_kind_24 : decode cX10_kind 24 = .ok (.aload_n 0, 1) := dk_dX10_kind_0.2.2.2.2.2.2.2.2.2.2.2.2.2.2.1
theorem dX10_kind_25 : decode cX10_kind 25 = .ok (.iload 4, 2) := dk_dX10_kind_0.2.2.2.2.2.2.2.2.2.2.2.2.2.2.2
theorem dk_dX10_kind_27 : decode cX10_kind 27 = .ok (.invokevirtual 436, 3) ∧ decode cX10_kind 30 = .ok (.iload_n 1, 1) ∧ decode cX10_kind 31 = .ok (.if_icmp .ne 10, 3) ∧ decode cX10_kind 34 = .ok (.iload_n 3, 1) ∧ decode cX10_kind 35 = .ok (.iconst 1, 1) ∧ decode cX10_kind 36 = .ok (.iload 4, 2) ∧ decode cX10_kind 38 = .ok (.ishl, 1) ∧ decode cX10_kind 39 = .ok (.ior, 1) ∧ decode cX10_kind 40 = .ok (.istore_n 3, 1) ∧ decode cX10_kind 41 = .ok (.iinc 4 1, 3) ∧ decode cX10_kind 44 = .ok (.goto (-29), 3) ∧ decode cX10_kind 47 = .ok (.iload_n 2, 1) ∧ decode cX10_kind 48 = .ok (.i2l, 1) ∧ decode cX10_kind 49 = .ok (.lconst 0, 1) ∧ decode cX10_kind 50 = .ok (.lconst 1, 1) ∧ decode cX10_kind 51 = .ok (.invokestatic 318, 3) := by decide +kernel
theorem dX10_kind_27 : decode cX10_kind 27 = .ok (.invokevirtual 436, 3) := dk_dX10_kind_27.1
theorem dX10_kind_30 : decode cX10_kind 30 = .ok (.iload_n 1, 1) := dk_dX10_kind_27.2.1
theorem dX10_kind_31 : decode cX10_kind 31 = .ok (.if_icmp .ne 10, 3) := dk_dX10_kind_27.2.2.1
theorem dX10_kind_34 : decode cX10_kind 34 = .ok (.iload_n 3, 1) := dk_dX10_kind_27.2.2.2.1
theorem dX10_kind_35 : decode cX10_kind 35 = .ok (.iconst 1, 1) := dk_dX10_kind_27.2.2.2.2.1
theorem dX10_kind_36 : decode cX10_kind 36 = .ok (.iload 4, 2) := dk_dX10_kind_27.2.2.2.2.2.1
theorem dX10_kind_38 : decode cX10_kind 38 = .ok (.ishl, 1) := dk_dX10_kind_27.2.2.2.2.2.2.1
theorem dX10_kind_39 : decode cX10_kind 39 = .ok (.ior, 1) := dk_dX10_kind_27.2.2.2.2.2.2.2.1
theorem dX10_kind_40 : decode cX10_kind 40 = .ok (.istore_n 3, 1) := dk_dX10_kind_27.2.2.2.2.2.2.2.2.1
theorem dX10_kind_41 : decode cX10_kind 41 = .ok (.iinc 4 1, 3) := dk_dX10_kind_27.2.2.2.2.2.2.2.2.2.1
theorem dX10_kind_44 : decode cX10_kind 44 = .ok (.goto (-29), 3) := dk_dX10_kind_27.2.2.2.2.2.2.2.2.2.2.1
theorem dX10_kind_47 : decode cX10_kind 47 = .ok (.iload_n 2, 1) := dk_dX10_kind_27.2.2.2.2.2.2.2.2.2.2.2.1
theorem dX10_kind_48 : decode cX10_kind 48 = .ok (.i2l, 1) := dk_dX10_kind_27.2.2.2.2.2.2.2.2.2.2.2.2.1
theorem dX10_kind_49 : decode cX10_kind 49 = .ok (.lconst 0, 1) := dk_dX10_kind_27.2.2.2.2.2.2.2.2.2.2.2.2.2.1
theorem dX10_kind_50 : decode cX10_kind 50 = .ok (.lconst 1, 1) := dk_dX10_kind_27.2.2.2.2.2.2.2.2.2.2.2.2.2.2.1
theorem dX10_kind_51 : decode cX10_kind 51 = .ok (.invokestatic 318, 3) := dk_dX10_kind_27.2.2.2.2.2.2.2.2.2.2.2.2.2.2.2
theorem dk_dX10_kind_54 : decode cX10_kind 54 = .ok (.ifCond .eq 19, 3) ∧ decode cX10_kind 57 = .ok (.aload_n 0, 1) ∧ decode cX10_kind 58 = .ok (.getfield 121, 3) ∧ decode cX10_kind 61 = .ok (.bipush 12, 2) ∧ decode cX10_kind 63 = .ok (.iconst 2, 1) ∧ decode cX10_kind 64 = .ok (.iload_n 1, 1) ∧ decode cX10_kind 65 = .ok (.imul, 1) ∧ decode cX10_kind 66 = .ok (.iadd, 1) ∧ decode cX10_kind 67 = .ok (.iload_n 2, 1) ∧ decode cX10_kind 68 = .ok (.iadd, 1) ∧ decode cX10_kind 69 = .ok (.iaload, 1) ∧ decode cX10_kind 70 = .ok (.goto 26, 3) ∧ decode cX10_kind 73 = .ok (.iload_n 2, 1) ∧ decode cX10_kind 74 = .ok (.iconst 2, 1) ∧ decode cX10_kind 75 = .ok (.if_icmp .ne 11, 3) ∧ decode cX10_kind 78 = .ok (.aload_n 0, 1) := by decide +kernel
theorem dX10_kind_54 : decode cX10_kind 54 = .ok (.ifCond .eq 19, 3) := dk_dX10_kind_54.1
theorem dX10_kind_57 : decode cX10_kind 57 = .ok (.aload_n 0, 1) := dk_dX10_kind_54.2.1
theorem dX10_kind_58 : decode cX10_kind 58 = .ok (.getfield 121, 3) := dk_dX10_kind_54.2.2.1
theorem dX10_kind_61 : decode cX10_kind 61 = .ok (.bipush 12, 2) := dk_dX10_kind_54.2.2.2.1
theorem dX10_kind_63 : decode cX10_kind 63 = .ok (.iconst 2, 1) := dk_dX10_kind_54.2.2.2.2.1
theorem dX10_kind_64 : decode cX10_kind 64 = .ok (.iload_n 1, 1) := dk_dX10_kind_54.2.2.2.2.2.1
theorem dX10_kind_65 : decode cX10_kind 65 = .ok (.imul, 1) := dk_dX10_kind_54.2.2.2.2.2.2.1
theorem dX10_kind_66 : decode cX10_kind 66 = .ok (.iadd, 1) := dk_dX10_kind_54.2.2.2.2.2.2.2.1
theorem dX10_kind_67 : decode cX10_kind 67 = .ok (.iload_n 2, 1) := dk_dX10_kind_54.2.2.2.2.2.2.2.2.1
theorem dX10_kind_68 : decode cX10_kind 68 = .ok (.iadd, 1) := dk_dX10_kind_54.2.2.2.2.2.2.2.2.2.1
theorem dX10_kind_69 : decode cX10_kind 69 = .ok (.iaload, 1) := dk_dX10_kind_54.2.2.2.2.2.2.2.2.2.2.1
theorem dX10_kind_70 : decode cX10_kind 70 = .ok (.goto 26, 3) := dk_dX10_kind_54.2.2.2.2.2.2.2.2.2.2.2.1
theorem dX10_kind_73 : decode cX10_kind 73 = .ok (.iload_n 2, 1) := dk_dX10_kind_54.2.2.2.2.2.2.2.2.2.2.2.2.1
theorem dX10_kind_74 : decode cX10_kind 74 = .ok (.iconst 2, 1) := dk_dX10_kind_54.2.2.2.2.2.2.2.2.2.2.2.2.2.1
theorem dX10_kind_75 : decode cX10_kind 75 = .ok (.if_icmp .ne 11, 3) := dk_dX10_kind_54.2.2.2.2.2.2.2.2.2.2.2.2.2.2.1
theorem dX10_kind_78 : decode cX10_kind 78 = .ok (.aload_n 0, 1) := dk_dX10_kind_54.2.2.2.2.2.2.2.2.2.2.2.2.2.2.2
theorem dk_dX10_kind_79 : decode cX10_kind 79 = .ok (.iload_n 1, 1) ∧ decode cX10_kind 80 = .ok (.invokevirtual 463, 3) ∧ decode cX10_kind 83 = .ok (.goto 13, 3) ∧ decode cX10_kind 86 = .ok (.iload_n 2, 1) ∧ decode cX10_kind 87 = .ok (.iconst 3, 1) ∧ decode cX10_kind 88 = .ok (.if_icmp .ne 7, 3) ∧ decode cX10_kind 91 = .ok (.iload_n 3, 1) ∧ decode cX10_kind 92 = .ok (.goto 4, 3) ∧ decode cX10_kind 95 = .ok (.iconst (-1), 1) ∧ decode cX10_kind 96 = .ok (.ireturn, 1) := by decide +kernel
theorem dX10_kind_79 : decode cX10_kind 79 = .ok (.iload_n 1, 1) := dk_dX10_kind_79.1
theorem dX10_kind_80 : decode cX10_kind 80 = .ok (.invokevirtual 463, 3) := dk_dX10_kind_79.2.1
theorem dX10_kind_83 : decode cX10_kind 83 = .ok (.goto 13, 3) := dk_dX10_kind_79.2.2.1
theorem dX10_kind_86 : decode cX10_kind 86 = .ok (.iload_n 2, 1) := dk_dX10_kind_79.2.2.2.1
theorem dX10_kind_87 : decode cX10_kind 87 = .ok (.iconst 3, 1) := dk_dX10_kind_79.2.2.2.2.1
theorem dX10_kind_88 : decode cX10_kind 88 = .ok (.if_icmp .ne 7, 3) := dk_dX10_kind_79.2.2.2.2.2.1
theorem dX10_kind_91 : decode cX10_kind 91 = .ok (.iload_n 3, 1) := dk_dX10_kind_79.2.2.2.2.2.2.1
theorem dX10_kind_92 : decode cX10_kind 92 = .ok (.goto 4, 3) := dk_dX10_kind_79.2.2.2.2.2.2.2.1
theorem dX10_kind_95 : decode cX10_kind 95 = .ok (.iconst (-1), 1) := dk_dX10_kind_79.2.2.2.2.2.2.2.2.1
theorem dX10_kind_96 : decode cX10_kind 96 = .ok (.ireturn, 1) := dk_dX10_kind_79.2.2.2.2.2.2.2.2.2
theorem dk_dX10_kindMany_0 : decode cX10_kindMany 0 = .ok (.aload_n 0, 1) ∧ decode cX10_kindMany 1 = .ok (.getfield 111, 3) ∧ decode cX10_kindMany 4 = .ok (.iconst 2, 1) ∧ decode cX10_kindMany 5 = .ok (.iaload, 1) ∧ decode cX10_kindMany 6 = .ok (.ireturn, 1) := by decide +kernel
theorem dX10_kindMany_0 : decode cX10_kindMany 0 = .ok (.aload_n 0, 1) := dk_dX10_kindMany_0.1
theorem dX10_kindMany_1 : decode cX10_kindMany 1 = .ok (.getfield 111, 3) := dk_dX10_kindMany_0.2.1
theorem dX10_kindMany_4 : decode cX10_kindMany 4 = .ok (.iconst 2, 1) := dk_dX10_kindMany_0.2.2.1
theorem dX10_kindMany_5 : decode cX10_kindMany 5 = .ok (.iaload, 1) := dk_dX10_kindMany_0.2.2.2.1
theorem dX10_kindMany_6 : decode cX10_kindMany 6 = .ok (.ireturn, 1) := dk_dX10_kindMany_0.2.2.2.2
theorem dk_dX10_kindOf_0 : decode cX10_kindOf 0 = .ok (.aload_n 0, 1) ∧ decode cX10_kindOf 1 = .ok (.getfield 127, 3) ∧ decode cX10_kindOf 4 = .ok (.bipush 24, 2) ∧ decode cX10_kindOf 6 = .ok (.iconst 2, 1) ∧ decode cX10_kindOf 7 = .ok (.iload_n 1, 1) ∧ decode cX10_kindOf 8 = .ok (.imul, 1) ∧ decode cX10_kindOf 9 = .ok (.iadd, 1) ∧ decode cX10_kindOf 10 = .ok (.iaload, 1) ∧ decode cX10_kindOf 11 = .ok (.ireturn, 1) := by decide +kernel
theorem dX10_kindOf_0 : decode cX10_kindOf 0 = .ok (.aload_n 0, 1) := dk_dX10_kindOf_0.1
theorem dX10_kindOf_1 : decode cX10_kindOf 1 = .ok (.getfield 127, 3) := dk_dX10_kindOf_0.2.1
theorem dX10_kindOf_4 : decode cX10_kindOf 4 = .ok (.bipush 24, 2) := dk_dX10_kindOf_0.2.2.1
theorem dX10_kindOf_6 : decode cX10_kindOf 6 = .ok (.iconst 2, 1) := dk_dX10_kindOf_0.2.2.2.1
theorem dX10_kindOf_7 : decode cX10_kindOf 7 = .ok (.iload_n 1, 1) := dk_dX10_kindOf_0.2.2.2.2.1
theorem dX10_kindOf_8 : decode cX10_kindOf 8 = .ok (.imul, 1) := dk_dX10_kindOf_0.2.2.2.2.2.1
theorem dX10_kindOf_9 : decode cX10_kindOf 9 = .ok (.iadd, 1) := dk_dX10_kindOf_0.2.2.2.2.2.2.1
theorem dX10_kindOf_10 : decode cX10_kindOf 10 = .ok (.iaload, 1) := dk_dX10_kindOf_0.2.2.2.2.2.2.2.1
theorem dX10_kindOf_11 : decode cX10_kindOf 11 = .ok (.ireturn, 1) := dk_dX10_kindOf_0.2.2.2.2.2.2.2.2
theorem dk_dX10_kindTold_0 : decode cX10_kindTold 0 = .ok (.aload_n 0, 1) ∧ decode cX10_kindTold 1 = .ok (.iconst 0, 1) ∧ decode cX10_kindTold 2 = .ok (.bipush 6, 2) ∧ decode cX10_kindTold 4 = .ok (.iload_n 1, 1) ∧ decode cX10_kindTold 5 = .ok (.invokevirtual 362, 3) ∧ decode cX10_kindTold 8 = .ok (.ifCond .eq 4, 3) ∧ decode cX10_kindTold 11 = .ok (.return_, 1) ∧ decode cX10_kindTold 12 = .ok (.aload_n 0, 1) ∧ decode cX10_kindTold 13 = .ok (.invokevirtual 366, 3) ∧ decode cX10_kindTold 16 = .ok (.lstore_n 2, 1) ∧ decode cX10_kindTold 17 = .ok (.aload_n 0, 1) ∧ decode cX10_kindTold 18 = .ok (.aload_n 0, 1) ∧ decode cX10_kindTold 19 = .ok (.getfield 36, 3) ∧ decode cX10_kindTold 22 = .ok (.invokevirtual 350, 3) ∧ decode cX10_kindTold 25 = .ok (.aload_n 0, 1) ∧ decode cX10_kindTold 26 = .ok (.iconst 0, 1) := by decide +kernel
theorem dX10_kindTold_0 : decode cX10_kindTold 0 = .ok (.aload_n 0, 1) := dk_dX10_kindTold_0.1
theorem dX10_kindTold_1 : decode cX10_kindTold 1 = .ok (.iconst 0, 1) := dk_dX10_kindTold_0.2.1
theorem dX10_kindTold_2 : decode cX10_kindTold 2 = .ok (.bipush 6, 2) := dk_dX10_kindTold_0.2.2.1
theorem dX10_kindTold_4 : decode cX10_kindTold 4 = .ok (.iload_n 1, 1) := dk_dX10_kindTold_0.2.2.2.1
theorem dX10_kindTold_5 : decode cX10_kindTold 5 = .ok (.invokevirtual 362, 3) := dk_dX10_kindTold_0.2.2.2.2.1
theorem dX10_kindTold_8 : decode cX10_kindTold 8 = .ok (.ifCond .eq 4, 3) := dk_dX10_kindTold_0.2.2.2.2.2.1
theorem dX10_kindTold_11 : decode cX10_kindTold 11 = .ok (.return_, 1) := dk_dX10_kindTold_0.2.2.2.2.2.2.1
theorem dX10_kindTold_12 : decode cX10_kindTold 12 = .ok (.aload_n 0, 1) := dk_dX10_kindTold_0.2.2.2.2.2.2.2.1
theorem dX10_kindTold_13 : decode cX10_kindTold 13 = .ok (.invokevirtual 366, 3) := dk_dX10_kindTold_0.2.2.2.2.2.2.2.2.1
theorem dX10_kindTold_16 : decode cX10_kindTold 16 = .ok (.lstore_n 2, 1) := dk_dX10_kindTold_0.2.2.2.2.2.2.2.2.2.1
theorem dX10_kindTold_17 : decode cX10_kindTold 17 = .ok (.aload_n 0, 1) := dk_dX10_kindTold_0.2.2.2.2.2.2.2.2.2.2.1
theorem dX10_kindTold_18 : decode cX10_kindTold 18 = .ok (.aload_n 0, 1) := dk_dX10_kindTold_0.2.2.2.2.2.2.2.2.2.2.2.1
theorem dX10_kindTold_19 : decode cX10_kindTold 19 = .ok (.getfield 36, 3) := dk_dX10_kindTold_0.2.2.2.2.2.2.2.2.2.2.2.2.1
theorem dX10_kindTold_22 : decode cX10_kindTold 22 = .ok (.invokevirtual 350, 3) := dk_dX10_kindTold_0.2.2.2.2.2.2.2.2.2.2.2.2.2.1
theorem dX10_kindTold_25 : decode cX10_kindTold 25 = .ok (.aload_n 0, 1) := dk_dX10_kindTold_0.2.2.2.2.2.2.2.2.2.2.2.2.2.2.1
theorem dX10_kindTold_26 : decode cX10_kindTold 26 = .ok (.iconst 0, 1) := dk_dX10_kindTold_0.2.2.2.2.2.2.2.2.2.2.2.2.2.2.2
theorem dk_dX10_kindTold_27 : decode cX10_kindTold 27 = .ok (.bipush 99, 2) ∧ decode cX10_kindTold 29 = .ok (.invokevirtual 354, 3) ∧ decode cX10_kindTold 32 = .ok (.istore 4, 2) ∧ decode cX10_kindTold 34 = .ok (.aload_n 0, 1) ∧ decode cX10_kindTold 35 = .ok (.aload_n 0, 1) ∧ decode cX10_kindTold 36 = .ok (.getfield 39, 3) ∧ decode cX10_kindTold 39 = .ok (.invokevirtual 350, 3) ∧ decode cX10_kindTold 42 = .ok (.aload_n 0, 1) ∧ decode cX10_kindTold 43 = .ok (.iconst 1, 1) ∧ decode cX10_kindTold 44 = .ok (.bipush 20, 2) ∧ decode cX10_kindTold 46 = .ok (.invokevirtual 354, 3) ∧ decode cX10_kindTold 49 = .ok (.istore 5, 2) ∧ decode cX10_kindTold 51 = .ok (.aload_n 0, 1) ∧ decode cX10_kindTold 52 = .ok (.aload_n 0, 1) ∧ decode cX10_kindTold 53 = .ok (.getfield 42, 3) ∧ decode cX10_kindTold 56 = .ok (.invokevirtual 350, 3) := by decide +kernel
theorem dX10_kindTold_27 : decode cX10_kindTold 27 = .ok (.bipush 99, 2) := dk_dX10_kindTold_27.1
theorem dX10_kindTold_29 : decode cX10_kindTold 29 = .ok (.invokevirtual 354, 3) := dk_dX10_kindTold_27.2.1
theorem dX10_kindTold_32 : decode cX10_kindTold 32 = .ok (.istore 4, 2) := dk_dX10_kindTold_27.2.2.1
theorem dX10_kindTold_34 : decode cX10_kindTold 34 = .ok (.aload_n 0, 1) := dk_dX10_kindTold_27.2.2.2.1
theorem dX10_kindTold_35 : decode cX10_kindTold 35 = .ok (.aload_n 0, 1) := dk_dX10_kindTold_27.2.2.2.2.1
theorem dX10_kindTold_36 : decode cX10_kindTold 36 = .ok (.getfield 39, 3) := dk_dX10_kindTold_27.2.2.2.2.2.1
theorem dX10_kindTold_39 : decode cX10_kindTold 39 = .ok (.invokevirtual 350, 3) := dk_dX10_kindTold_27.2.2.2.2.2.2.1
theorem dX10_kindTold_42 : decode cX10_kindTold 42 = .ok (.aload_n 0, 1) := dk_dX10_kindTold_27.2.2.2.2.2.2.2.1
theorem dX10_kindTold_43 : decode cX10_kindTold 43 = .ok (.iconst 1, 1) := dk_dX10_kindTold_27.2.2.2.2.2.2.2.2.1
theorem dX10_kindTold_44 : decode cX10_kindTold 44 = .ok (.bipush 20, 2) := dk_dX10_kindTold_27.2.2.2.2.2.2.2.2.2.1
theorem dX10_kindTold_46 : decode cX10_kindTold 46 = .ok (.invokevirtual 354, 3) := dk_dX10_kindTold_27.2.2.2.2.2.2.2.2.2.2.1
theorem dX10_kindTold_49 : decode cX10_kindTold 49 = .ok (.istore 5, 2) := dk_dX10_kindTold_27.2.2.2.2.2.2.2.2.2.2.2.1
theorem dX10_kindTold_51 : decode cX10_kindTold 51 = .ok (.aload_n 0, 1) := dk_dX10_kindTold_27.2.2.2.2.2.2.2.2.2.2.2.2.1
theorem dX10_kindTold_52 : decode cX10_kindTold 52 = .ok (.aload_n 0, 1) := dk_dX10_kindTold_27.2.2.2.2.2.2.2.2.2.2.2.2.2.1
theorem dX10_kindTold_53 : decode cX10_kindTold 53 = .ok (.getfield 42, 3) := dk_dX10_kindTold_27.2.2.2.2.2.2.2.2.2.2.2.2.2.2.1
theorem dX10_kindTold_56 : decode cX10_kindTold 56 = .ok (.invokevirtual 350, 3) := dk_dX10_kindTold_27.2.2.2.2.2.2.2.2.2.2.2.2.2.2.2
theorem dk_dX10_kindTold_59 : decode cX10_kindTold 59 = .ok (.aload_n 0, 1) ∧ decode cX10_kindTold 60 = .ok (.iconst 0, 1) ∧ decode cX10_kindTold 61 = .ok (.bipush 9, 2) ∧ decode cX10_kindTold 63 = .ok (.invokevirtual 354, 3) ∧ decode cX10_kindTold 66 = .ok (.istore 6, 2) ∧ decode cX10_kindTold 68 = .ok (.aload_n 0, 1) ∧ decode cX10_kindTold 69 = .ok (.getfield 279, 3) ∧ decode cX10_kindTold 72 = .ok (.ifCond .eq 4, 3) ∧ decode cX10_kindTold 75 = .ok (.return_, 1) ∧ decode cX10_kindTold 76 = .ok (.aload_n 0, 1) ∧ decode cX10_kindTold 77 = .ok (.getfield 111, 3) ∧ decode cX10_kindTold 80 = .ok (.iconst 0, 1) ∧ decode cX10_kindTold 81 = .ok (.iaload, 1) ∧ decode cX10_kindTold 82 = .ok (.istore 7, 2) ∧ decode cX10_kindTold 84 = .ok (.aload_n 0, 1) ∧ decode cX10_kindTold 85 = .ok (.getfield 114, 3) := by decide +kernel
theorem dX10_kindTold_59 : decode cX10_kindTold 59 = .ok (.aload_n 0, 1) := dk_dX10_kindTold_59.1
theorem dX10_kindTold_60 : decode cX10_kindTold 60 = .ok (.iconst 0, 1) := dk_dX10_kindTold_59.2.1
theorem dX10_kindTold_61 : decode cX10_kindTold 61 = .ok (.bipush 9, 2) := dk_dX10_kindTold_59.2.2.1
theorem dX10_kindTold_63 : decode cX10_kindTold 63 = .ok (.invokevirtual 354, 3) := dk_dX10_kindTold_59.2.2.2.1
theorem dX10_kindTold_66 : decode cX10_kindTold 66 = .ok (.istore 6, 2) := dk_dX10_kindTold_59.2.2.2.2.1
theorem dX10_kindTold_68 : decode cX10_kindTold 68 = .ok (.aload_n 0, 1) := dk_dX10_kindTold_59.2.2.2.2.2.1
theorem dX10_kindTold_69 : decode cX10_kindTold 69 = .ok (.getfield 279, 3) := dk_dX10_kindTold_59.2.2.2.2.2.2.1
theorem dX10_kindTold_72 : decode cX10_kindTold 72 = .ok (.ifCond .eq 4, 3) := dk_dX10_kindTold_59.2.2.2.2.2.2.2.1
theorem dX10_kindTold_75 : decode cX10_kindTold 75 = .ok (.return_, 1) := dk_dX10_kindTold_59.2.2.2.2.2.2.2.2.1
theorem dX10_kindTold_76 : decode cX10_kindTold 76 = .ok (.aload_n 0, 1) := dk_dX10_kindTold_59.2.2.2.2.2.2.2.2.2.1
theorem dX10_kindTold_77 : decode cX10_kindTold 77 = .ok (.getfield 111, 3) := dk_dX10_kindTold_59.2.2.2.2.2.2.2.2.2.2.1
theorem dX10_kindTold_80 : decode cX10_kindTold 80 = .ok (.iconst 0, 1) := dk_dX10_kindTold_59.2.2.2.2.2.2.2.2.2.2.2.1
theorem dX10_kindTold_81 : decode cX10_kindTold 81 = .ok (.iaload, 1) := dk_dX10_kindTold_59.2.2.2.2.2.2.2.2.2.2.2.2.1
theorem dX10_kindTold_82 : decode cX10_kindTold 82 = .ok (.istore 7, 2) := dk_dX10_kindTold_59.2.2.2.2.2.2.2.2.2.2.2.2.2.1
theorem dX10_kindTold_84 : decode cX10_kindTold 84 = .ok (.aload_n 0, 1) := dk_dX10_kindTold_59.2.2.2.2.2.2.2.2.2.2.2.2.2.2.1
theorem dX10_kindTold_85 : decode cX10_kindTold 85 = .ok (.getfield 114, 3) := dk_dX10_kindTold_59.2.2.2.2.2.2.2.2.2.2.2.2.2.2.2
theorem dk_dX10_kindTold_88 : decode cX10_kindTold 88 = .ok (.iload 7, 2) ∧ decode cX10_kindTold 90 = .ok (.lload_n 2, 1) ∧ decode cX10_kindTold 91 = .ok (.lastore, 1) ∧ decode cX10_kindTold 92 = .ok (.aload_n 0, 1) ∧ decode cX10_kindTold 93 = .ok (.getfield 121, 3) ∧ decode cX10_kindTold 96 = .ok (.iconst 2, 1) ∧ decode cX10_kindTold 97 = .ok (.iload 7, 2) ∧ decode cX10_kindTold 99 = .ok (.imul, 1) ∧ decode cX10_kindTold 100 = .ok (.iload 4, 2) ∧ decode cX10_kindTold 102 = .ok (.iastore, 1) ∧ decode cX10_kindTold 103 = .ok (.aload_n 0, 1) ∧ decode cX10_kindTold 104 = .ok (.getfield 121, 3) ∧ decode cX10_kindTold 107 = .ok (.iconst 2, 1) ∧ decode cX10_kindTold 108 = .ok (.iload 7, 2) ∧ decode cX10_kindTold 110 = .ok (.imul, 1) ∧ decode cX10_kindTold 111 = .ok (.iconst 1, 1) := by decide +kernel
theorem dX10_kindTold_88 : decode cX10_kindTold 88 = .ok (.iload 7, 2) := dk_dX10_kindTold_88.1
theorem dX10_kindTold_90 : decode cX10_kindTold 90 = .ok (.lload_n 2, 1) := dk_dX10_kindTold_88.2.1
theorem dX10_kindTold_91 : decode cX10_kindTold 91 = .ok (.lastore, 1) := dk_dX10_kindTold_88.2.2.1
theorem dX10_kindTold_92 : decode cX10_kindTold 92 = .ok (.aload_n 0, 1) := dk_dX10_kindTold_88.2.2.2.1
theorem dX10_kindTold_93 : decode cX10_kindTold 93 = .ok (.getfield 121, 3) := dk_dX10_kindTold_88.2.2.2.2.1
theorem dX10_kindTold_96 : decode cX10_kindTold 96 = .ok (.iconst 2, 1) := dk_dX10_kindTold_88.2.2.2.2.2.1
theorem dX10_kindTold_97 : decode cX10_kindTold 97 = .ok (.iload 7, 2) := dk_dX10_kindTold_88.2.2.2.2.2.2.1
theorem dX10_kindTold_99 : decode cX10_kindTold 99 = .ok (.imul, 1) := dk_dX10_kindTold_88.2.2.2.2.2.2.2.1
theorem dX10_kindTold_100 : decode cX10_kindTold 100 = .ok (.iload 4, 2) := dk_dX10_kindTold_88.2.2.2.2.2.2.2.2.1
theorem dX10_kindTold_102 : decode cX10_kindTold 102 = .ok (.iastore, 1) := dk_dX10_kindTold_88.2.2.2.2.2.2.2.2.2.1
theorem dX10_kindTold_103 : decode cX10_kindTold 103 = .ok (.aload_n 0, 1) := dk_dX10_kindTold_88.2.2.2.2.2.2.2.2.2.2.1
theorem dX10_kindTold_104 : decode cX10_kindTold 104 = .ok (.getfield 121, 3) := dk_dX10_kindTold_88.2.2.2.2.2.2.2.2.2.2.2.1
theorem dX10_kindTold_107 : decode cX10_kindTold 107 = .ok (.iconst 2, 1) := dk_dX10_kindTold_88.2.2.2.2.2.2.2.2.2.2.2.2.1
theorem dX10_kindTold_108 : decode cX10_kindTold 108 = .ok (.iload 7, 2) := dk_dX10_kindTold_88.2.2.2.2.2.2.2.2.2.2.2.2.2.1
theorem dX10_kindTold_110 : decode cX10_kindTold 110 = .ok (.imul, 1) := dk_dX10_kindTold_88.2.2.2.2.2.2.2.2.2.2.2.2.2.2.1
theorem dX10_kindTold_111 : decode cX10_kindTold 111 = .ok (.iconst 1, 1) := dk_dX10_kindTold_88.2.2.2.2.2.2.2.2.2.2.2.2.2.2.2
theorem dk_dX10_kindTold_112 : decode cX10_kindTold 112 = .ok (.iadd, 1) ∧ decode cX10_kindTold 113 = .ok (.iload 5, 2) ∧ decode cX10_kindTold 115 = .ok (.iastore, 1) ∧ decode cX10_kindTold 116 = .ok (.aload_n 0, 1) ∧ decode cX10_kindTold 117 = .ok (.getfield 124, 3) ∧ decode cX10_kindTold 120 = .ok (.iload 7, 2) ∧ decode cX10_kindTold 122 = .ok (.iload 6, 2) ∧ decode cX10_kindTold 124 = .ok (.iastore, 1) ∧ decode cX10_kindTold 125 = .ok (.aload_n 0, 1) ∧ decode cX10_kindTold 126 = .ok (.getfield 111, 3) ∧ decode cX10_kindTold 129 = .ok (.iconst 0, 1) ∧ decode cX10_kindTold 130 = .ok (.dup2, 1) ∧ decode cX10_kindTold 131 = .ok (.iaload, 1) ∧ decode cX10_kindTold 132 = .ok (.iconst 1, 1) ∧ decode cX10_kindTold 133 = .ok (.iadd, 1) ∧ decode cX10_kindTold 134 = .ok (.iastore, 1) := by decide +kernel
theorem dX10_kindTold_112 : decode cX10_kindTold 112 = .ok (.iadd, 1) := dk_dX10_kindTold_112.1
theorem dX10_kindTold_113 : decode cX10_kindTold 113 = .ok (.iload 5, 2) := dk_dX10_kindTold_112.2.1
theorem dX10_kindTold_115 : decode cX10_kindTold 115 = .ok (.iastore, 1) := dk_dX10_kindTold_112.2.2.1
theorem dX10_kindTold_116 : decode cX10_kindTold 116 = .ok (.aload_n 0, 1) := dk_dX10_kindTold_112.2.2.2.1
theorem dX10_kindTold_117 : decode cX10_kindTold 117 = .ok (.getfield 124, 3) := dk_dX10_kindTold_112.2.2.2.2.1
theorem dX10_kindTold_120 : decode cX10_kindTold 120 = .ok (.iload 7, 2) := dk_dX10_kindTold_112.2.2.2.2.2.1
theorem dX10_kindTold_122 : decode cX10_kindTold 122 = .ok (.iload 6, 2) := dk_dX10_kindTold_112.2.2.2.2.2.2.1
theorem dX10_kindTold_124 : decode cX10_kindTold 124 = .ok (.iastore, 1) := dk_dX10_kindTold_112.2.2.2.2.2.2.2.1
theorem dX10_kindTold_125 : decode cX10_kindTold 125 = .ok (.aload_n 0, 1) := dk_dX10_kindTold_112.2.2.2.2.2.2.2.2.1
theorem dX10_kindTold_126 : decode cX10_kindTold 126 = .ok (.getfield 111, 3) := dk_dX10_kindTold_112.2.2.2.2.2.2.2.2.2.1
theorem dX10_kindTold_129 : decode cX10_kindTold 129 = .ok (.iconst 0, 1) := dk_dX10_kindTold_112.2.2.2.2.2.2.2.2.2.2.1
theorem dX10_kindTold_130 : decode cX10_kindTold 130 = .ok (.dup2, 1) := dk_dX10_kindTold_112.2.2.2.2.2.2.2.2.2.2.2.1
theorem dX10_kindTold_131 : decode cX10_kindTold 131 = .ok (.iaload, 1) := dk_dX10_kindTold_112.2.2.2.2.2.2.2.2.2.2.2.2.1
theorem dX10_kindTold_132 : decode cX10_kindTold 132 = .ok (.iconst 1, 1) := dk_dX10_kindTold_112.2.2.2.2.2.2.2.2.2.2.2.2.2.1
theorem dX10_kindTold_133 : decode cX10_kindTold 133 = .ok (.iadd, 1) := dk_dX10_kindTold_112.2.2.2.2.2.2.2.2.2.2.2.2.2.2.1
theorem dX10_kindTold_134 : decode cX10_kindTold 134 = .ok (.iastore, 1) := dk_dX10_kindTold_112.2.2.2.2.2.2.2.2.2.2.2.2.2.2.2
theorem dX10_kindTold_135 : decode cX10_kindTold 135 = .ok (.return_, 1) := by decide +kernel
theorem dk_dX10_later_0 : decode cX10_later 0 = .ok (.aload_n 0, 1) ∧ decode cX10_later 1 = .ok (.iload_n 1, 1) ∧ decode cX10_later 2 = .ok (.iconst 0, 1) ∧ decode cX10_later 3 = .ok (.bipush 29, 2) ∧ decode cX10_later 5 = .ok (.invokevirtual 554, 3) ∧ decode cX10_later 8 = .ok (.ifCond .eq 15, 3) ∧ decode cX10_later 11 = .ok (.iload_n 2, 1) ∧ decode cX10_later 12 = .ok (.i2l, 1) ∧ decode cX10_later 13 = .ok (.lconst 0, 1) ∧ decode cX10_later 14 = .ok (.ldc2_w 526, 3) ∧ decode cX10_later 17 = .ok (.invokestatic 318, 3) ∧ decode cX10_later 20 = .ok (.ifCond .ne 5, 3) ∧ decode cX10_later 23 = .ok (.iconst (-1), 1) ∧ decode cX10_later 24 = .ok (.ireturn, 1) ∧ decode cX10_later 25 = .ok (.aload_n 0, 1) ∧ decode cX10_later 26 = .ok (.invokevirtual 557, 3) := by decide +kernel
theorem dX10_later_0 : decode cX10_later 0 = .ok (.aload_n 0, 1) := dk_dX10_later_0.1
theorem dX10_later_1 : decode cX10_later 1 = .ok (.iload_n 1, 1) := dk_dX10_later_0.2.1
theorem dX10_later_2 : decode cX10_later 2 = .ok (.iconst 0, 1) := dk_dX10_later_0.2.2.1
theorem dX10_later_3 : decode cX10_later 3 = .ok (.bipush 29, 2) := dk_dX10_later_0.2.2.2.1
theorem dX10_later_5 : decode cX10_later 5 = .ok (.invokevirtual 554, 3) := dk_dX10_later_0.2.2.2.2.1
theorem dX10_later_8 : decode cX10_later 8 = .ok (.ifCond .eq 15, 3) := dk_dX10_later_0.2.2.2.2.2.1
theorem dX10_later_11 : decode cX10_later 11 = .ok (.iload_n 2, 1) := dk_dX10_later_0.2.2.2.2.2.2.1
theorem dX10_later_12 : decode cX10_later 12 = .ok (.i2l, 1) := dk_dX10_later_0.2.2.2.2.2.2.2.1
theorem dX10_later_13 : decode cX10_later 13 = .ok (.lconst 0, 1) := dk_dX10_later_0.2.2.2.2.2.2.2.2.1
theorem dX10_later_14 : decode cX10_later 14 = .ok (.ldc2_w 526, 3) := dk_dX10_later_0.2.2.2.2.2.2.2.2.2.1
theorem dX10_later_17 : decode cX10_later 17 = .ok (.invokestatic 318, 3) := dk_dX10_later_0.2.2.2.2.2.2.2.2.2.2.1
theorem dX10_later_20 : decode cX10_later 20 = .ok (.ifCond .ne 5, 3) := dk_dX10_later_0.2.2.2.2.2.2.2.2.2.2.2.1
theorem dX10_later_23 : decode cX10_later 23 = .ok (.iconst (-1), 1) := dk_dX10_later_0.2.2.2.2.2.2.2.2.2.2.2.2.1
theorem dX10_later_24 : decode cX10_later 24 = .ok (.ireturn, 1) := dk_dX10_later_0.2.2.2.2.2.2.2.2.2.2.2.2.2.1
theorem dX10_later_25 : decode cX10_later 25 = .ok (.aload_n 0, 1) := dk_dX10_later_0.2.2.2.2.2.2.2.2.2.2.2.2.2.2.1
theorem dX10_later_26 : decode cX10_later 26 = .ok (.invokevirtual 557, 3) := dk_dX10_later_0.2.2.2.2.2.2.2.2.2.2.2.2.2.2.2
theorem dk_dX10_later_29 : decode cX10_later 29 = .ok (.iconst 0, 1) ∧ decode cX10_later 30 = .ok (.istore_n 3, 1) ∧ decode cX10_later 31 = .ok (.iload_n 3, 1) ∧ decode cX10_later 32 = .ok (.iload_n 1, 1) ∧ decode cX10_later 33 = .ok (.if_icmp .ge 15, 3) ∧ decode cX10_later 36 = .ok (.aload_n 0, 1) ∧ decode cX10_later 37 = .ok (.iconst 0, 1) ∧ decode cX10_later 38 = .ok (.invokevirtual 560, 3) ∧ decode cX10_later 41 = .ok (.pop, 1) ∧ decode cX10_later 42 = .ok (.iinc 3 1, 3) ∧ decode cX10_later 45 = .ok (.goto (-14), 3) ∧ decode cX10_later 48 = .ok (.aload_n 0, 1) ∧ decode cX10_later 49 = .ok (.invokevirtual 534, 3) ∧ decode cX10_later 52 = .ok (.aload_n 0, 1) ∧ decode cX10_later 53 = .ok (.iload_n 2, 1) ∧ decode cX10_later 54 = .ok (.invokevirtual 541, 3) := by decide +kernel
theorem dX10_later_29 : decode cX10_later 29 = .ok (.iconst 0, 1) := dk_dX10_later_29.1
theorem dX10_later_30 : decode cX10_later 30 = .ok (.istore_n 3, 1) := dk_dX10_later_29.2.1
theorem dX10_later_31 : decode cX10_later 31 = .ok (.iload_n 3, 1) := dk_dX10_later_29.2.2.1
theorem dX10_later_32 : decode cX10_later 32 = .ok (.iload_n 1, 1) := dk_dX10_later_29.2.2.2.1
theorem dX10_later_33 : decode cX10_later 33 = .ok (.if_icmp .ge 15, 3) := dk_dX10_later_29.2.2.2.2.1
theorem dX10_later_36 : decode cX10_later 36 = .ok (.aload_n 0, 1) := dk_dX10_later_29.2.2.2.2.2.1
theorem dX10_later_37 : decode cX10_later 37 = .ok (.iconst 0, 1) := dk_dX10_later_29.2.2.2.2.2.2.1
theorem dX10_later_38 : decode cX10_later 38 = .ok (.invokevirtual 560, 3) := dk_dX10_later_29.2.2.2.2.2.2.2.1
theorem dX10_later_41 : decode cX10_later 41 = .ok (.pop, 1) := dk_dX10_later_29.2.2.2.2.2.2.2.2.1
theorem dX10_later_42 : decode cX10_later 42 = .ok (.iinc 3 1, 3) := dk_dX10_later_29.2.2.2.2.2.2.2.2.2.1
theorem dX10_later_45 : decode cX10_later 45 = .ok (.goto (-14), 3) := dk_dX10_later_29.2.2.2.2.2.2.2.2.2.2.1
theorem dX10_later_48 : decode cX10_later 48 = .ok (.aload_n 0, 1) := dk_dX10_later_29.2.2.2.2.2.2.2.2.2.2.2.1
theorem dX10_later_49 : decode cX10_later 49 = .ok (.invokevirtual 534, 3) := dk_dX10_later_29.2.2.2.2.2.2.2.2.2.2.2.2.1
theorem dX10_later_52 : decode cX10_later 52 = .ok (.aload_n 0, 1) := dk_dX10_later_29.2.2.2.2.2.2.2.2.2.2.2.2.2.1
theorem dX10_later_53 : decode cX10_later 53 = .ok (.iload_n 2, 1) := dk_dX10_later_29.2.2.2.2.2.2.2.2.2.2.2.2.2.2.1
theorem dX10_later_54 : decode cX10_later 54 = .ok (.invokevirtual 541, 3) := dk_dX10_later_29.2.2.2.2.2.2.2.2.2.2.2.2.2.2.2
theorem dk_dX10_later_57 : decode cX10_later 57 = .ok (.istore_n 3, 1) ∧ decode cX10_later 58 = .ok (.aload_n 0, 1) ∧ decode cX10_later 59 = .ok (.invokevirtual 563, 3) ∧ decode cX10_later 62 = .ok (.iload_n 3, 1) ∧ decode cX10_later 63 = .ok (.ireturn, 1) := by decide +kernel
theorem dX10_later_57 : decode cX10_later 57 = .ok (.istore_n 3, 1) := dk_dX10_later_57.1
theorem dX10_later_58 : decode cX10_later 58 = .ok (.aload_n 0, 1) := dk_dX10_later_57.2.1
theorem dX10_later_59 : decode cX10_later 59 = .ok (.invokevirtual 563, 3) := dk_dX10_later_57.2.2.1
theorem dX10_later_62 : decode cX10_later 62 = .ok (.iload_n 3, 1) := dk_dX10_later_57.2.2.2.1
theorem dX10_later_63 : decode cX10_later 63 = .ok (.ireturn, 1) := dk_dX10_later_57.2.2.2.2
theorem dk_dX10_laysCars_0 : decode cX10_laysCars 0 = .ok (.iconst 0, 1) ∧ decode cX10_laysCars 1 = .ok (.istore_n 1, 1) ∧ decode cX10_laysCars 2 = .ok (.iload_n 1, 1) ∧ decode cX10_laysCars 3 = .ok (.sipush 320, 3) ∧ decode cX10_laysCars 6 = .ok (.if_icmp .ge 46, 3) ∧ decode cX10_laysCars 9 = .ok (.aload_n 0, 1) ∧ decode cX10_laysCars 10 = .ok (.iload_n 1, 1) ∧ decode cX10_laysCars 11 = .ok (.putfield 454, 3) ∧ decode cX10_laysCars 14 = .ok (.aload_n 0, 1) ∧ decode cX10_laysCars 15 = .ok (.getfield 145, 3) ∧ decode cX10_laysCars 18 = .ok (.iload_n 1, 1) ∧ decode cX10_laysCars 19 = .ok (.aload_n 0, 1) ∧ decode cX10_laysCars 20 = .ok (.getfield 130, 3) ∧ decode cX10_laysCars 23 = .ok (.iconst 3, 1) ∧ decode cX10_laysCars 24 = .ok (.iaload, 1) ∧ decode cX10_laysCars 25 = .ok (.iconst (-1), 1) := by decide +kernel
theorem dX10_laysCars_0 : decode cX10_laysCars 0 = .ok (.iconst 0, 1) := dk_dX10_laysCars_0.1
theorem dX10_laysCars_1 : decode cX10_laysCars 1 = .ok (.istore_n 1, 1) := dk_dX10_laysCars_0.2.1
theorem dX10_laysCars_2 : decode cX10_laysCars 2 = .ok (.iload_n 1, 1) := dk_dX10_laysCars_0.2.2.1
theorem dX10_laysCars_3 : decode cX10_laysCars 3 = .ok (.sipush 320, 3) := dk_dX10_laysCars_0.2.2.2.1
theorem dX10_laysCars_6 : decode cX10_laysCars 6 = .ok (.if_icmp .ge 46, 3) := dk_dX10_laysCars_0.2.2.2.2.1
theorem dX10_laysCars_9 : decode cX10_laysCars 9 = .ok (.aload_n 0, 1) := dk_dX10_laysCars_0.2.2.2.2.2.1
theorem dX10_laysCars_10 : decode cX10_laysCars 10 = .ok (.iload_n 1, 1) := dk_dX10_laysCars_0.2.2.2.2.2.2.1
theorem dX10_laysCars_11 : decode cX10_laysCars 11 = .ok (.putfield 454, 3) := dk_dX10_laysCars_0.2.2.2.2.2.2.2.1
theorem dX10_laysCars_14 : decode cX10_laysCars 14 = .ok (.aload_n 0, 1) := dk_dX10_laysCars_0.2.2.2.2.2.2.2.2.1
theorem dX10_laysCars_15 : decode cX10_laysCars 15 = .ok (.getfield 145, 3) := dk_dX10_laysCars_0.2.2.2.2.2.2.2.2.2.1
theorem dX10_laysCars_18 : decode cX10_laysCars 18 = .ok (.iload_n 1, 1) := dk_dX10_laysCars_0.2.2.2.2.2.2.2.2.2.2.1
theorem dX10_laysCars_19 : decode cX10_laysCars 19 = .ok (.aload_n 0, 1) := dk_dX10_laysCars_0.2.2.2.2.2.2.2.2.2.2.2.1
theorem dX10_laysCars_20 : decode cX10_laysCars 20 = .ok (.getfield 130, 3) := dk_dX10_laysCars_0.2.2.2.2.2.2.2.2.2.2.2.2.1
theorem dX10_laysCars_23 : decode cX10_laysCars 23 = .ok (.iconst 3, 1) := dk_dX10_laysCars_0.2.2.2.2.2.2.2.2.2.2.2.2.2.1
theorem dX10_laysCars_24 : decode cX10_laysCars 24 = .ok (.iaload, 1) := dk_dX10_laysCars_0.2.2.2.2.2.2.2.2.2.2.2.2.2.2.1
theorem dX10_laysCars_25 : decode cX10_laysCars 25 = .ok (.iconst (-1), 1) := dk_dX10_laysCars_0.2.2.2.2.2.2.2.2.2.2.2.2.2.2.2
theorem dk_dX10_laysCars_26 : decode cX10_laysCars 26 = .ok (.if_icmp .eq 18, 3) ∧ decode cX10_laysCars 29 = .ok (.aload_n 0, 1) ∧ decode cX10_laysCars 30 = .ok (.iconst 0, 1) ∧ decode cX10_laysCars 31 = .ok (.iconst 0, 1) ∧ decode cX10_laysCars 32 = .ok (.invokevirtual 457, 3) ∧ decode cX10_laysCars 35 = .ok (.lconst 1, 1) ∧ decode cX10_laysCars 36 = .ok (.lcmp, 1) ∧ decode cX10_laysCars 37 = .ok (.ifCond .ne 7, 3) ∧ decode cX10_laysCars 40 = .ok (.iconst 1, 1) ∧ decode cX10_laysCars 41 = .ok (.goto 4, 3) ∧ decode cX10_laysCars 44 = .ok (.iconst 0, 1) ∧ decode cX10_laysCars 45 = .ok (.bastore, 1) ∧ decode cX10_laysCars 46 = .ok (.iinc 1 1, 3) ∧ decode cX10_laysCars 49 = .ok (.goto (-47), 3) ∧ decode cX10_laysCars 52 = .ok (.iconst 0, 1) ∧ decode cX10_laysCars 53 = .ok (.istore_n 1, 1) := by decide +kernel
theorem dX10_laysCars_26 : decode cX10_laysCars 26 = .ok (.if_icmp .eq 18, 3) := dk_dX10_laysCars_26.1
theorem dX10_laysCars_29 : decode cX10_laysCars 29 = .ok (.aload_n 0, 1) := dk_dX10_laysCars_26.2.1
theorem dX10_laysCars_30 : decode cX10_laysCars 30 = .ok (.iconst 0, 1) := dk_dX10_laysCars_26.2.2.1
theorem dX10_laysCars_31 : decode cX10_laysCars 31 = .ok (.iconst 0, 1) := dk_dX10_laysCars_26.2.2.2.1
theorem dX10_laysCars_32 : decode cX10_laysCars 32 = .ok (.invokevirtual 457, 3) := dk_dX10_laysCars_26.2.2.2.2.1
theorem dX10_laysCars_35 : decode cX10_laysCars 35 = .ok (.lconst 1, 1) := dk_dX10_laysCars_26.2.2.2.2.2.1
theorem dX10_laysCars_36 : decode cX10_laysCars 36 = .ok (.lcmp, 1) := dk_dX10_laysCars_26.2.2.2.2.2.2.1
theorem dX10_laysCars_37 : decode cX10_laysCars 37 = .ok (.ifCond .ne 7, 3) := dk_dX10_laysCars_26.2.2.2.2.2.2.2.1
theorem dX10_laysCars_40 : decode cX10_laysCars 40 = .ok (.iconst 1, 1) := dk_dX10_laysCars_26.2.2.2.2.2.2.2.2.1
theorem dX10_laysCars_41 : decode cX10_laysCars 41 = .ok (.goto 4, 3) := dk_dX10_laysCars_26.2.2.2.2.2.2.2.2.2.1
theorem dX10_laysCars_44 : decode cX10_laysCars 44 = .ok (.iconst 0, 1) := dk_dX10_laysCars_26.2.2.2.2.2.2.2.2.2.2.1
theorem dX10_laysCars_45 : decode cX10_laysCars 45 = .ok (.bastore, 1) := dk_dX10_laysCars_26.2.2.2.2.2.2.2.2.2.2.2.1
theorem dX10_laysCars_46 : decode cX10_laysCars 46 = .ok (.iinc 1 1, 3) := dk_dX10_laysCars_26.2.2.2.2.2.2.2.2.2.2.2.2.1
theorem dX10_laysCars_49 : decode cX10_laysCars 49 = .ok (.goto (-47), 3) := dk_dX10_laysCars_26.2.2.2.2.2.2.2.2.2.2.2.2.2.1
theorem dX10_laysCars_52 : decode cX10_laysCars 52 = .ok (.iconst 0, 1) := dk_dX10_laysCars_26.2.2.2.2.2.2.2.2.2.2.2.2.2.2.1
theorem dX10_laysCars_53 : decode cX10_laysCars 53 = .ok (.istore_n 1, 1) := dk_dX10_laysCars_26.2.2.2.2.2.2.2.2.2.2.2.2.2.2.2
theorem dk_dX10_laysCars_54 : decode cX10_laysCars 54 = .ok (.iload_n 1, 1) ∧ decode cX10_laysCars 55 = .ok (.sipush 300, 3) ∧ decode cX10_laysCars 58 = .ok (.if_icmp .ge 56, 3) ∧ decode cX10_laysCars 61 = .ok (.aload_n 0, 1) ∧ decode cX10_laysCars 62 = .ok (.getfield 149, 3) ∧ decode cX10_laysCars 65 = .ok (.iload_n 1, 1) ∧ decode cX10_laysCars 66 = .ok (.iconst 0, 1) ∧ decode cX10_laysCars 67 = .ok (.iastore, 1) ∧ decode cX10_laysCars 68 = .ok (.aload_n 0, 1) ∧ decode cX10_laysCars 69 = .ok (.getfield 149, 3) ∧ decode cX10_laysCars 72 = .ok (.iload_n 1, 1) ∧ decode cX10_laysCars 73 = .ok (.iaload, 1) ∧ decode cX10_laysCars 74 = .ok (.bipush 20, 2) ∧ decode cX10_laysCars 76 = .ok (.if_icmp .ge 32, 3) ∧ decode cX10_laysCars 79 = .ok (.aload_n 0, 1) ∧ decode cX10_laysCars 80 = .ok (.getfield 145, 3) := by decide +kernel
theorem dX10_laysCars_54 : decode cX10_laysCars 54 = .ok (.iload_n 1, 1) := dk_dX10_laysCars_54.1
theorem dX10_laysCars_55 : decode cX10_laysCars 55 = .ok (.sipush 300, 3) := dk_dX10_laysCars_54.2.1
theorem dX10_laysCars_58 : decode cX10_laysCars 58 = .ok (.if_icmp .ge 56, 3) := dk_dX10_laysCars_54.2.2.1
theorem dX10_laysCars_61 : decode cX10_laysCars 61 = .ok (.aload_n 0, 1) := dk_dX10_laysCars_54.2.2.2.1
theorem dX10_laysCars_62 : decode cX10_laysCars 62 = .ok (.getfield 149, 3) := dk_dX10_laysCars_54.2.2.2.2.1
theorem dX10_laysCars_65 : decode cX10_laysCars 65 = .ok (.iload_n 1, 1) := dk_dX10_laysCars_54.2.2.2.2.2.1
theorem dX10_laysCars_66 : decode cX10_laysCars 66 = .ok (.iconst 0, 1) := dk_dX10_laysCars_54.2.2.2.2.2.2.1
theorem dX10_laysCars_67 : decode cX10_laysCars 67 = .ok (.iastore, 1) := dk_dX10_laysCars_54.2.2.2.2.2.2.2.1
theorem dX10_laysCars_68 : decode cX10_laysCars 68 = .ok (.aload_n 0, 1) := dk_dX10_laysCars_54.2.2.2.2.2.2.2.2.1
theorem dX10_laysCars_69 : decode cX10_laysCars 69 = .ok (.getfield 149, 3) := dk_dX10_laysCars_54.2.2.2.2.2.2.2.2.2.1
theorem dX10_laysCars_72 : decode cX10_laysCars 72 = .ok (.iload_n 1, 1) := dk_dX10_laysCars_54.2.2.2.2.2.2.2.2.2.2.1
theorem dX10_laysCars_73 : decode cX10_laysCars 73 = .ok (.iaload, 1) := dk_dX10_laysCars_54.2.2.2.2.2.2.2.2.2.2.2.1
theorem dX10_laysCars_74 : decode cX10_laysCars 74 = .ok (.bipush 20, 2) := dk_dX10_laysCars_54.2.2.2.2.2.2.2.2.2.2.2.2.1
theorem dX10_laysCars_76 : decode cX10_laysCars 76 = .ok (.if_icmp .ge 32, 3) := dk_dX10_laysCars_54.2.2.2.2.2.2.2.2.2.2.2.2.2.1
theorem dX10_laysCars_79 : decode cX10_laysCars 79 = .ok (.aload_n 0, 1) := dk_dX10_laysCars_54.2.2.2.2.2.2.2.2.2.2.2.2.2.2.1
theorem dX10_laysCars_80 : decode cX10_laysCars 80 = .ok (.getfield 145, 3) := dk_dX10_laysCars_54.2.2.2.2.2.2.2.2.2.2.2.2.2.2.2
theorem dk_dX10_laysCars_83 : decode cX10_laysCars 83 = .ok (.iload_n 1, 1) ∧ decode cX10_laysCars 84 = .ok (.aload_n 0, 1) ∧ decode cX10_laysCars 85 = .ok (.getfield 149, 3) ∧ decode cX10_laysCars 88 = .ok (.iload_n 1, 1) ∧ decode cX10_laysCars 89 = .ok (.iaload, 1) ∧ decode cX10_laysCars 90 = .ok (.iadd, 1) ∧ decode cX10_laysCars 91 = .ok (.baload, 1) ∧ decode cX10_laysCars 92 = .ok (.ifCond .ne 16, 3) ∧ decode cX10_laysCars 95 = .ok (.aload_n 0, 1) ∧ decode cX10_laysCars 96 = .ok (.getfield 149, 3) ∧ decode cX10_laysCars 99 = .ok (.iload_n 1, 1) ∧ decode cX10_laysCars 100 = .ok (.dup2, 1) ∧ decode cX10_laysCars 101 = .ok (.iaload, 1) ∧ decode cX10_laysCars 102 = .ok (.iconst 1, 1) ∧ decode cX10_laysCars 103 = .ok (.iadd, 1) ∧ decode cX10_laysCars 104 = .ok (.iastore, 1) := by decide +kernel
theorem dX10_laysCars_83 : decode cX10_laysCars 83 = .ok (.iload_n 1, 1) := dk_dX10_laysCars_83.1
theorem dX10_laysCars_84 : decode cX10_laysCars 84 = .ok (.aload_n 0, 1) := dk_dX10_laysCars_83.2.1
theorem dX10_laysCars_85 : decode cX10_laysCars 85 = .ok (.getfield 149, 3) := dk_dX10_laysCars_83.2.2.1
theorem dX10_laysCars_88 : decode cX10_laysCars 88 = .ok (.iload_n 1, 1) := dk_dX10_laysCars_83.2.2.2.1
theorem dX10_laysCars_89 : decode cX10_laysCars 89 = .ok (.iaload, 1) := dk_dX10_laysCars_83.2.2.2.2.1
theorem dX10_laysCars_90 : decode cX10_laysCars 90 = .ok (.iadd, 1) := dk_dX10_laysCars_83.2.2.2.2.2.1
theorem dX10_laysCars_91 : decode cX10_laysCars 91 = .ok (.baload, 1) := dk_dX10_laysCars_83.2.2.2.2.2.2.1
theorem dX10_laysCars_92 : decode cX10_laysCars 92 = .ok (.ifCond .ne 16, 3) := dk_dX10_laysCars_83.2.2.2.2.2.2.2.1
theorem dX10_laysCars_95 : decode cX10_laysCars 95 = .ok (.aload_n 0, 1) := dk_dX10_laysCars_83.2.2.2.2.2.2.2.2.1
theorem dX10_laysCars_96 : decode cX10_laysCars 96 = .ok (.getfield 149, 3) := dk_dX10_laysCars_83.2.2.2.2.2.2.2.2.2.1
theorem dX10_laysCars_99 : decode cX10_laysCars 99 = .ok (.iload_n 1, 1) := dk_dX10_laysCars_83.2.2.2.2.2.2.2.2.2.2.1
theorem dX10_laysCars_100 : decode cX10_laysCars 100 = .ok (.dup2, 1) := dk_dX10_laysCars_83.2.2.2.2.2.2.2.2.2.2.2.1
theorem dX10_laysCars_101 : decode cX10_laysCars 101 = .ok (.iaload, 1) := dk_dX10_laysCars_83.2.2.2.2.2.2.2.2.2.2.2.2.1
theorem dX10_laysCars_102 : decode cX10_laysCars 102 = .ok (.iconst 1, 1) := dk_dX10_laysCars_83.2.2.2.2.2.2.2.2.2.2.2.2.2.1
theorem dX10_laysCars_103 : decode cX10_laysCars 103 = .ok (.iadd, 1) := dk_dX10_laysCars_83.2.2.2.2.2.2.2.2.2.2.2.2.2.2.1
theorem dX10_laysCars_104 : decode cX10_laysCars 104 = .ok (.iastore, 1) := dk_dX10_laysCars_83.2.2.2.2.2.2.2.2.2.2.2.2.2.2.2
theorem dk_dX10_laysCars_105 : decode cX10_laysCars 105 = .ok (.goto (-37), 3) ∧ decode cX10_laysCars 108 = .ok (.iinc 1 1, 3) ∧ decode cX10_laysCars 111 = .ok (.goto (-57), 3) ∧ decode cX10_laysCars 114 = .ok (.return_, 1) := by decide +kernel
theorem dX10_laysCars_105 : decode cX10_laysCars 105 = .ok (.goto (-37), 3) := dk_dX10_laysCars_105.1
theorem dX10_laysCars_108 : decode cX10_laysCars 108 = .ok (.iinc 1 1, 3) := dk_dX10_laysCars_105.2.1
theorem dX10_laysCars_111 : decode cX10_laysCars 111 = .ok (.goto (-57), 3) := dk_dX10_laysCars_105.2.2.1
theorem dX10_laysCars_114 : decode cX10_laysCars 114 = .ok (.return_, 1) := dk_dX10_laysCars_105.2.2.2
theorem dk_dX10_laysFits_0 : decode cX10_laysFits 0 = .ok (.aload_n 0, 1) ∧ decode cX10_laysFits 1 = .ok (.invokevirtual 501, 3) ∧ decode cX10_laysFits 4 = .ok (.aload_n 0, 1) ∧ decode cX10_laysFits 5 = .ok (.iconst 0, 1) ∧ decode cX10_laysFits 6 = .ok (.putfield 570, 3) ∧ decode cX10_laysFits 9 = .ok (.aload_n 0, 1) ∧ decode cX10_laysFits 10 = .ok (.iconst 0, 1) ∧ decode cX10_laysFits 11 = .ok (.putfield 573, 3) ∧ decode cX10_laysFits 14 = .ok (.aload_n 0, 1) ∧ decode cX10_laysFits 15 = .ok (.iconst (-1), 1) ∧ decode cX10_laysFits 16 = .ok (.putfield 576, 3) ∧ decode cX10_laysFits 19 = .ok (.iconst 1, 1) ∧ decode cX10_laysFits 20 = .ok (.istore_n 1, 1) ∧ decode cX10_laysFits 21 = .ok (.aload_n 0, 1) ∧ decode cX10_laysFits 22 = .ok (.iload_n 1, 1) ∧ decode cX10_laysFits 23 = .ok (.bipush 20, 2) := by decide +kernel
theorem dX10_laysFits_0 : decode cX10_laysFits 0 = .ok (.aload_n 0, 1) := dk_dX10_laysFits_0.1
theorem dX10_laysFits_1 : decode cX10_laysFits 1 = .ok (.invokevirtual 501, 3) := dk_dX10_laysFits_0.2.1
theorem dX10_laysFits_4 : decode cX10_laysFits 4 = .ok (.aload_n 0, 1) := dk_dX10_laysFits_0.2.2.1
theorem dX10_laysFits_5 : decode cX10_laysFits 5 = .ok (.iconst 0, 1) := dk_dX10_laysFits_0.2.2.2.1
theorem dX10_laysFits_6 : decode cX10_laysFits 6 = .ok (.putfield 570, 3) := dk_dX10_laysFits_0.2.2.2.2.1
theorem dX10_laysFits_9 : decode cX10_laysFits 9 = .ok (.aload_n 0, 1) := dk_dX10_laysFits_0.2.2.2.2.2.1
theorem dX10_laysFits_10 : decode cX10_laysFits 10 = .ok (.iconst 0, 1) := dk_dX10_laysFits_0.2.2.2.2.2.2.1
theorem dX10_laysFits_11 : decode cX10_laysFits 11 = .ok (.putfield 573, 3) := dk_dX10_laysFits_0.2.2.2.2.2.2.2.1
theorem dX10_laysFits_14 : decode cX10_laysFits 14 = .ok (.aload_n 0, 1) := dk_dX10_laysFits_0.2.2.2.2.2.2.2.2.1
theorem dX10_laysFits_15 : decode cX10_laysFits 15 = .ok (.iconst (-1), 1) := dk_dX10_laysFits_0.2.2.2.2.2.2.2.2.2.1
theorem dX10_laysFits_16 : decode cX10_laysFits 16 = .ok (.putfield 576, 3) := dk_dX10_laysFits_0.2.2.2.2.2.2.2.2.2.2.1
theorem dX10_laysFits_19 : decode cX10_laysFits 19 = .ok (.iconst 1, 1) := dk_dX10_laysFits_0.2.2.2.2.2.2.2.2.2.2.2.1
theorem dX10_laysFits_20 : decode cX10_laysFits 20 = .ok (.istore_n 1, 1) := dk_dX10_laysFits_0.2.2.2.2.2.2.2.2.2.2.2.2.1
theorem dX10_laysFits_21 : decode cX10_laysFits 21 = .ok (.aload_n 0, 1) := dk_dX10_laysFits_0.2.2.2.2.2.2.2.2.2.2.2.2.2.1
theorem dX10_laysFits_22 : decode cX10_laysFits 22 = .ok (.iload_n 1, 1) := dk_dX10_laysFits_0.2.2.2.2.2.2.2.2.2.2.2.2.2.2.1
theorem dX10_laysFits_23 : decode cX10_laysFits 23 = .ok (.bipush 20, 2) := dk_dX10_laysFits_0.2.2.2.2.2.2.2.2.2.2.2.2.2.2.2
theorem dk_dX10_laysFits_25 : decode cX10_laysFits 25 = .ok (.invokevirtual 548, 3) ∧ decode cX10_laysFits 28 = .ok (.ifCond .eq 109, 3) ∧ decode cX10_laysFits 31 = .ok (.iconst 0, 1) ∧ decode cX10_laysFits 32 = .ok (.istore_n 2, 1) ∧ decode cX10_laysFits 33 = .ok (.iload_n 2, 1) ∧ decode cX10_laysFits 34 = .ok (.iconst 3, 1) ∧ decode cX10_laysFits 35 = .ok (.if_icmp .ge 96, 3) ∧ decode cX10_laysFits 38 = .ok (.aload_n 0, 1) ∧ decode cX10_laysFits 39 = .ok (.iload_n 2, 1) ∧ decode cX10_laysFits 40 = .ok (.iload_n 1, 1) ∧ decode cX10_laysFits 41 = .ok (.iconst 0, 1) ∧ decode cX10_laysFits 42 = .ok (.iconst 0, 1) ∧ decode cX10_laysFits 43 = .ok (.invokevirtual 504, 3) ∧ decode cX10_laysFits 46 = .ok (.aload_n 0, 1) ∧ decode cX10_laysFits 47 = .ok (.invokevirtual 579, 3) ∧ decode cX10_laysFits 50 = .ok (.ifCond .ne 6, 3) := by decide +kernel
theorem dX10_laysFits_25 : decode cX10_laysFits 25 = .ok (.invokevirtual 548, 3) := dk_dX10_laysFits_25.1
theorem dX10_laysFits_28 : decode cX10_laysFits 28 = .ok (.ifCond .eq 109, 3) := dk_dX10_laysFits_25.2.1
theorem dX10_laysFits_31 : decode cX10_laysFits 31 = .ok (.iconst 0, 1) := dk_dX10_laysFits_25.2.2.1
theorem dX10_laysFits_32 : decode cX10_laysFits 32 = .ok (.istore_n 2, 1) := dk_dX10_laysFits_25.2.2.2.1
theorem dX10_laysFits_33 : decode cX10_laysFits 33 = .ok (.iload_n 2, 1) := dk_dX10_laysFits_25.2.2.2.2.1
theorem dX10_laysFits_34 : decode cX10_laysFits 34 = .ok (.iconst 3, 1) := dk_dX10_laysFits_25.2.2.2.2.2.1
theorem dX10_laysFits_35 : decode cX10_laysFits 35 = .ok (.if_icmp .ge 96, 3) := dk_dX10_laysFits_25.2.2.2.2.2.2.1
theorem dX10_laysFits_38 : decode cX10_laysFits 38 = .ok (.aload_n 0, 1) := dk_dX10_laysFits_25.2.2.2.2.2.2.2.1
theorem dX10_laysFits_39 : decode cX10_laysFits 39 = .ok (.iload_n 2, 1) := dk_dX10_laysFits_25.2.2.2.2.2.2.2.2.1
theorem dX10_laysFits_40 : decode cX10_laysFits 40 = .ok (.iload_n 1, 1) := dk_dX10_laysFits_25.2.2.2.2.2.2.2.2.2.1
theorem dX10_laysFits_41 : decode cX10_laysFits 41 = .ok (.iconst 0, 1) := dk_dX10_laysFits_25.2.2.2.2.2.2.2.2.2.2.1
theorem dX10_laysFits_42 : decode cX10_laysFits 42 = .ok (.iconst 0, 1) := dk_dX10_laysFits_25.2.2.2.2.2.2.2.2.2.2.2.1
theorem dX10_laysFits_43 : decode cX10_laysFits 43 = .ok (.invokevirtual 504, 3) := dk_dX10_laysFits_25.2.2.2.2.2.2.2.2.2.2.2.2.1
theorem dX10_laysFits_46 : decode cX10_laysFits 46 = .ok (.aload_n 0, 1) := dk_dX10_laysFits_25.2.2.2.2.2.2.2.2.2.2.2.2.2.1
theorem dX10_laysFits_47 : decode cX10_laysFits 47 = .ok (.invokevirtual 579, 3) := dk_dX10_laysFits_25.2.2.2.2.2.2.2.2.2.2.2.2.2.2.1
theorem dX10_laysFits_50 : decode cX10_laysFits 50 = .ok (.ifCond .ne 6, 3) := dk_dX10_laysFits_25.2.2.2.2.2.2.2.2.2.2.2.2.2.2.2
theorem dk_dX10_laysFits_53 : decode cX10_laysFits 53 = .ok (.goto 72, 3) ∧ decode cX10_laysFits 56 = .ok (.iconst 0, 1) ∧ decode cX10_laysFits 57 = .ok (.istore_n 3, 1) ∧ decode cX10_laysFits 58 = .ok (.iload_n 3, 1) ∧ decode cX10_laysFits 59 = .ok (.bipush 12, 2) ∧ decode cX10_laysFits 61 = .ok (.if_icmp .ge 29, 3) ∧ decode cX10_laysFits 64 = .ok (.aload_n 0, 1) ∧ decode cX10_laysFits 65 = .ok (.getfield 179, 3) ∧ decode cX10_laysFits 68 = .ok (.bipush 12, 2) ∧ decode cX10_laysFits 70 = .ok (.aload_n 0, 1) ∧ decode cX10_laysFits 71 = .ok (.getfield 570, 3) ∧ decode cX10_laysFits 74 = .ok (.imul, 1) ∧ decode cX10_laysFits 75 = .ok (.iload_n 3, 1) ∧ decode cX10_laysFits 76 = .ok (.iadd, 1) ∧ decode cX10_laysFits 77 = .ok (.aload_n 0, 1) ∧ decode cX10_laysFits 78 = .ok (.getfield 158, 3) := by decide +kernel
theorem dX10_laysFits_53 : decode cX10_laysFits 53 = .ok (.goto 72, 3) := dk_dX10_laysFits_53.1
theorem dX10_laysFits_56 : decode cX10_laysFits 56 = .ok (.iconst 0, 1) := dk_dX10_laysFits_53.2.1
theorem dX10_laysFits_57 : decode cX10_laysFits 57 = .ok (.istore_n 3, 1) := dk_dX10_laysFits_53.2.2.1
theorem dX10_laysFits_58 : decode cX10_laysFits 58 = .ok (.iload_n 3, 1) := dk_dX10_laysFits_53.2.2.2.1
theorem dX10_laysFits_59 : decode cX10_laysFits 59 = .ok (.bipush 12, 2) := dk_dX10_laysFits_53.2.2.2.2.1
theorem dX10_laysFits_61 : decode cX10_laysFits 61 = .ok (.if_icmp .ge 29, 3) := dk_dX10_laysFits_53.2.2.2.2.2.1
theorem dX10_laysFits_64 : decode cX10_laysFits 64 = .ok (.aload_n 0, 1) := dk_dX10_laysFits_53.2.2.2.2.2.2.1
theorem dX10_laysFits_65 : decode cX10_laysFits 65 = .ok (.getfield 179, 3) := dk_dX10_laysFits_53.2.2.2.2.2.2.2.1
theorem dX10_laysFits_68 : decode cX10_laysFits 68 = .ok (.bipush 12, 2) := dk_dX10_laysFits_53.2.2.2.2.2.2.2.2.1
theorem dX10_laysFits_70 : decode cX10_laysFits 70 = .ok (.aload_n 0, 1) := dk_dX10_laysFits_53.2.2.2.2.2.2.2.2.2.1
theorem dX10_laysFits_71 : decode cX10_laysFits 71 = .ok (.getfield 570, 3) := dk_dX10_laysFits_53.2.2.2.2.2.2.2.2.2.2.1
theorem dX10_laysFits_74 : decode cX10_laysFits 74 = .ok (.imul, 1) := dk_dX10_laysFits_53.2.2.2.2.2.2.2.2.2.2.2.1
theorem dX10_laysFits_75 : decode cX10_laysFits 75 = .ok (.iload_n 3, 1) := dk_dX10_laysFits_53.2.2.2.2.2.2.2.2.2.2.2.2.1
theorem dX10_laysFits_76 : decode cX10_laysFits 76 = .ok (.iadd, 1) := dk_dX10_laysFits_53.2.2.2.2.2.2.2.2.2.2.2.2.2.1
theorem dX10_laysFits_77 : decode cX10_laysFits 77 = .ok (.aload_n 0, 1) := dk_dX10_laysFits_53.2.2.2.2.2.2.2.2.2.2.2.2.2.2.1
theorem dX10_laysFits_78 : decode cX10_laysFits 78 = .ok (.getfield 158, 3) := dk_dX10_laysFits_53.2.2.2.2.2.2.2.2.2.2.2.2.2.2.2
theorem dk_dX10_laysFits_81 : decode cX10_laysFits 81 = .ok (.iload_n 3, 1) ∧ decode cX10_laysFits 82 = .ok (.iaload, 1) ∧ decode cX10_laysFits 83 = .ok (.iastore, 1) ∧ decode cX10_laysFits 84 = .ok (.iinc 3 1, 3) ∧ decode cX10_laysFits 87 = .ok (.goto (-29), 3) ∧ decode cX10_laysFits 90 = .ok (.aload_n 0, 1) ∧ decode cX10_laysFits 91 = .ok (.dup, 1) ∧ decode cX10_laysFits 92 = .ok (.getfield 570, 3) ∧ decode cX10_laysFits 95 = .ok (.iconst 1, 1) ∧ decode cX10_laysFits 96 = .ok (.iadd, 1) ∧ decode cX10_laysFits 97 = .ok (.putfield 570, 3) ∧ decode cX10_laysFits 100 = .ok (.aload_n 0, 1) ∧ decode cX10_laysFits 101 = .ok (.dup, 1) ∧ decode cX10_laysFits 102 = .ok (.getfield 573, 3) ∧ decode cX10_laysFits 105 = .ok (.iconst 1, 1) ∧ decode cX10_laysFits 106 = .ok (.iload_n 2, 1) := by decide +kernel
theorem dX10_laysFits_81 : decode cX10_laysFits 81 = .ok (.iload_n 3, 1) := dk_dX10_laysFits_81.1
theorem dX10_laysFits_82 : decode cX10_laysFits 82 = .ok (.iaload, 1) := dk_dX10_laysFits_81.2.1
theorem dX10_laysFits_83 : decode cX10_laysFits 83 = .ok (.iastore, 1) := dk_dX10_laysFits_81.2.2.1
theorem dX10_laysFits_84 : decode cX10_laysFits 84 = .ok (.iinc 3 1, 3) := dk_dX10_laysFits_81.2.2.2.1
theorem dX10_laysFits_87 : decode cX10_laysFits 87 = .ok (.goto (-29), 3) := dk_dX10_laysFits_81.2.2.2.2.1
theorem dX10_laysFits_90 : decode cX10_laysFits 90 = .ok (.aload_n 0, 1) := dk_dX10_laysFits_81.2.2.2.2.2.1
theorem dX10_laysFits_91 : decode cX10_laysFits 91 = .ok (.dup, 1) := dk_dX10_laysFits_81.2.2.2.2.2.2.1
theorem dX10_laysFits_92 : decode cX10_laysFits 92 = .ok (.getfield 570, 3) := dk_dX10_laysFits_81.2.2.2.2.2.2.2.1
theorem dX10_laysFits_95 : decode cX10_laysFits 95 = .ok (.iconst 1, 1) := dk_dX10_laysFits_81.2.2.2.2.2.2.2.2.1
theorem dX10_laysFits_96 : decode cX10_laysFits 96 = .ok (.iadd, 1) := dk_dX10_laysFits_81.2.2.2.2.2.2.2.2.2.1
theorem dX10_laysFits_97 : decode cX10_laysFits 97 = .ok (.putfield 570, 3) := dk_dX10_laysFits_81.2.2.2.2.2.2.2.2.2.2.1
theorem dX10_laysFits_100 : decode cX10_laysFits 100 = .ok (.aload_n 0, 1) := dk_dX10_laysFits_81.2.2.2.2.2.2.2.2.2.2.2.1
theorem dX10_laysFits_101 : decode cX10_laysFits 101 = .ok (.dup, 1) := dk_dX10_laysFits_81.2.2.2.2.2.2.2.2.2.2.2.2.1
theorem dX10_laysFits_102 : decode cX10_laysFits 102 = .ok (.getfield 573, 3) := dk_dX10_laysFits_81.2.2.2.2.2.2.2.2.2.2.2.2.2.1
theorem dX10_laysFits_105 : decode cX10_laysFits 105 = .ok (.iconst 1, 1) := dk_dX10_laysFits_81.2.2.2.2.2.2.2.2.2.2.2.2.2.2.1
theorem dX10_laysFits_106 : decode cX10_laysFits 106 = .ok (.iload_n 2, 1) := dk_dX10_laysFits_81.2.2.2.2.2.2.2.2.2.2.2.2.2.2.2
theorem dk_dX10_laysFits_107 : decode cX10_laysFits 107 = .ok (.ishl, 1) ∧ decode cX10_laysFits 108 = .ok (.ior, 1) ∧ decode cX10_laysFits 109 = .ok (.putfield 573, 3) ∧ decode cX10_laysFits 112 = .ok (.aload_n 0, 1) ∧ decode cX10_laysFits 113 = .ok (.getfield 576, 3) ∧ decode cX10_laysFits 116 = .ok (.iconst (-1), 1) ∧ decode cX10_laysFits 117 = .ok (.if_icmp .ne 8, 3) ∧ decode cX10_laysFits 120 = .ok (.aload_n 0, 1) ∧ decode cX10_laysFits 121 = .ok (.iload_n 1, 1) ∧ decode cX10_laysFits 122 = .ok (.putfield 576, 3) ∧ decode cX10_laysFits 125 = .ok (.iinc 2 1, 3) ∧ decode cX10_laysFits 128 = .ok (.goto (-95), 3) ∧ decode cX10_laysFits 131 = .ok (.iinc 1 1, 3) ∧ decode cX10_laysFits 134 = .ok (.goto (-113), 3) ∧ decode cX10_laysFits 137 = .ok (.return_, 1) := by decide +kernel
theorem dX10_laysFits_107 : decode cX10_laysFits 107 = .ok (.ishl, 1) := dk_dX10_laysFits_107.1
theorem dX10_laysFits_108 : decode cX10_laysFits 108 = .ok (.ior, 1) := dk_dX10_laysFits_107.2.1
theorem dX10_laysFits_109 : decode cX10_laysFits 109 = .ok (.putfield 573, 3) := dk_dX10_laysFits_107.2.2.1
theorem dX10_laysFits_112 : decode cX10_laysFits 112 = .ok (.aload_n 0, 1) := dk_dX10_laysFits_107.2.2.2.1
theorem dX10_laysFits_113 : decode cX10_laysFits 113 = .ok (.getfield 576, 3) := dk_dX10_laysFits_107.2.2.2.2.1
theorem dX10_laysFits_116 : decode cX10_laysFits 116 = .ok (.iconst (-1), 1) := dk_dX10_laysFits_107.2.2.2.2.2.1
theorem dX10_laysFits_117 : decode cX10_laysFits 117 = .ok (.if_icmp .ne 8, 3) := dk_dX10_laysFits_107.2.2.2.2.2.2.1
theorem dX10_laysFits_120 : decode cX10_laysFits 120 = .ok (.aload_n 0, 1) := dk_dX10_laysFits_107.2.2.2.2.2.2.2.1
theorem dX10_laysFits_121 : decode cX10_laysFits 121 = .ok (.iload_n 1, 1) := dk_dX10_laysFits_107.2.2.2.2.2.2.2.2.1
theorem dX10_laysFits_122 : decode cX10_laysFits 122 = .ok (.putfield 576, 3) := dk_dX10_laysFits_107.2.2.2.2.2.2.2.2.2.1
theorem dX10_laysFits_125 : decode cX10_laysFits 125 = .ok (.iinc 2 1, 3) := dk_dX10_laysFits_107.2.2.2.2.2.2.2.2.2.2.1
theorem dX10_laysFits_128 : decode cX10_laysFits 128 = .ok (.goto (-95), 3) := dk_dX10_laysFits_107.2.2.2.2.2.2.2.2.2.2.2.1
theorem dX10_laysFits_131 : decode cX10_laysFits 131 = .ok (.iinc 1 1, 3) := dk_dX10_laysFits_107.2.2.2.2.2.2.2.2.2.2.2.2.1
theorem dX10_laysFits_134 : decode cX10_laysFits 134 = .ok (.goto (-113), 3) := dk_dX10_laysFits_107.2.2.2.2.2.2.2.2.2.2.2.2.2.1
theorem dX10_laysFits_137 : decode cX10_laysFits 137 = .ok (.return_, 1) := dk_dX10_laysFits_107.2.2.2.2.2.2.2.2.2.2.2.2.2.2
theorem dk_dX10_learn_0 : decode cX10_learn 0 = .ok (.iconst 0, 1) ∧ decode cX10_learn 1 = .ok (.istore_n 2, 1) ∧ decode cX10_learn 2 = .ok (.iload_n 2, 1) ∧ decode cX10_learn 3 = .ok (.aload_n 0, 1) ∧ decode cX10_learn 4 = .ok (.invokevirtual 433, 3) ∧ decode cX10_learn 7 = .ok (.if_icmp .ge 88, 3) ∧ decode cX10_learn 10 = .ok (.iload_n 1, 1) ∧ decode cX10_learn 11 = .ok (.iload_n 2, 1) ∧ decode cX10_learn 12 = .ok (.ishr, 1) ∧ decode cX10_learn 13 = .ok (.iconst 1, 1) ∧ decode cX10_learn 14 = .ok (.iand, 1) ∧ decode cX10_learn 15 = .ok (.iconst 1, 1) ∧ decode cX10_learn 16 = .ok (.if_icmp .eq 73, 3) ∧ decode cX10_learn 19 = .ok (.aload_n 0, 1) ∧ decode cX10_learn 20 = .ok (.getfield 130, 3) ∧ decode cX10_learn 23 = .ok (.iconst 5, 1) := by decide +kernel
theorem dX10_learn_0 : decode cX10_learn 0 = .ok (.iconst 0, 1) := dk_dX10_learn_0.1
theorem dX10_learn_1 : decode cX10_learn 1 = .ok (.istore_n 2, 1) := dk_dX10_learn_0.2.1
theorem dX10_learn_2 : decode cX10_learn 2 = .ok (.iload_n 2, 1) := dk_dX10_learn_0.2.2.1
theorem dX10_learn_3 : decode cX10_learn 3 = .ok (.aload_n 0, 1) := dk_dX10_learn_0.2.2.2.1
theorem dX10_learn_4 : decode cX10_learn 4 = .ok (.invokevirtual 433, 3) := dk_dX10_learn_0.2.2.2.2.1
theorem dX10_learn_7 : decode cX10_learn 7 = .ok (.if_icmp .ge 88, 3) := dk_dX10_learn_0.2.2.2.2.2.1
theorem dX10_learn_10 : decode cX10_learn 10 = .ok (.iload_n 1, 1) := dk_dX10_learn_0.2.2.2.2.2.2.1
theorem dX10_learn_11 : decode cX10_learn 11 = .ok (.iload_n 2, 1) := dk_dX10_learn_0.2.2.2.2.2.2.2.1
theorem dX10_learn_12 : decode cX10_learn 12 = .ok (.ishr, 1) := dk_dX10_learn_0.2.2.2.2.2.2.2.2.1
theorem dX10_learn_13 : decode cX10_learn 13 = .ok (.iconst 1, 1) := dk_dX10_learn_0.2.2.2.2.2.2.2.2.2.1
theorem dX10_learn_14 : decode cX10_learn 14 = .ok (.iand, 1) := dk_dX10_learn_0.2.2.2.2.2.2.2.2.2.2.1
theorem dX10_learn_15 : decode cX10_learn 15 = .ok (.iconst 1, 1) := dk_dX10_learn_0.2.2.2.2.2.2.2.2.2.2.2.1
theorem dX10_learn_16 : decode cX10_learn 16 = .ok (.if_icmp .eq 73, 3) := dk_dX10_learn_0.2.2.2.2.2.2.2.2.2.2.2.2.1
theorem dX10_learn_19 : decode cX10_learn 19 = .ok (.aload_n 0, 1) := dk_dX10_learn_0.2.2.2.2.2.2.2.2.2.2.2.2.2.1
theorem dX10_learn_20 : decode cX10_learn 20 = .ok (.getfield 130, 3) := dk_dX10_learn_0.2.2.2.2.2.2.2.2.2.2.2.2.2.2.1
theorem dX10_learn_23 : decode cX10_learn 23 = .ok (.iconst 5, 1) := dk_dX10_learn_0.2.2.2.2.2.2.2.2.2.2.2.2.2.2.2
theorem dk_dX10_learn_24 : decode cX10_learn 24 = .ok (.iaload, 1) ∧ decode cX10_learn 25 = .ok (.iconst (-1), 1) ∧ decode cX10_learn 26 = .ok (.if_icmp .ne 6, 3) ∧ decode cX10_learn 29 = .ok (.goto 60, 3) ∧ decode cX10_learn 32 = .ok (.aload_n 0, 1) ∧ decode cX10_learn 33 = .ok (.iload_n 2, 1) ∧ decode cX10_learn 34 = .ok (.invokevirtual 436, 3) ∧ decode cX10_learn 37 = .ok (.istore_n 3, 1) ∧ decode cX10_learn 38 = .ok (.aload_n 0, 1) ∧ decode cX10_learn 39 = .ok (.iload_n 3, 1) ∧ decode cX10_learn 40 = .ok (.invokevirtual 463, 3) ∧ decode cX10_learn 43 = .ok (.i2l, 1) ∧ decode cX10_learn 44 = .ok (.aload_n 0, 1) ∧ decode cX10_learn 45 = .ok (.iconst 2, 1) ∧ decode cX10_learn 46 = .ok (.iload_n 2, 1) ∧ decode cX10_learn 47 = .ok (.invokevirtual 457, 3) := by decide +kernel
theorem dX10_learn_24 : decode cX10_learn 24 = .ok (.iaload, 1) := dk_dX10_learn_24.1
theorem dX10_learn_25 : decode cX10_learn 25 = .ok (.iconst (-1), 1) := dk_dX10_learn_24.2.1
theorem dX10_learn_26 : decode cX10_learn 26 = .ok (.if_icmp .ne 6, 3) := dk_dX10_learn_24.2.2.1
theorem dX10_learn_29 : decode cX10_learn 29 = .ok (.goto 60, 3) := dk_dX10_learn_24.2.2.2.1
theorem dX10_learn_32 : decode cX10_learn 32 = .ok (.aload_n 0, 1) := dk_dX10_learn_24.2.2.2.2.1
theorem dX10_learn_33 : decode cX10_learn 33 = .ok (.iload_n 2, 1) := dk_dX10_learn_24.2.2.2.2.2.1
theorem dX10_learn_34 : decode cX10_learn 34 = .ok (.invokevirtual 436, 3) := dk_dX10_learn_24.2.2.2.2.2.2.1
theorem dX10_learn_37 : decode cX10_learn 37 = .ok (.istore_n 3, 1) := dk_dX10_learn_24.2.2.2.2.2.2.2.1
theorem dX10_learn_38 : decode cX10_learn 38 = .ok (.aload_n 0, 1) := dk_dX10_learn_24.2.2.2.2.2.2.2.2.1
theorem dX10_learn_39 : decode cX10_learn 39 = .ok (.iload_n 3, 1) := dk_dX10_learn_24.2.2.2.2.2.2.2.2.2.1
theorem dX10_learn_40 : decode cX10_learn 40 = .ok (.invokevirtual 463, 3) := dk_dX10_learn_24.2.2.2.2.2.2.2.2.2.2.1
theorem dX10_learn_43 : decode cX10_learn 43 = .ok (.i2l, 1) := dk_dX10_learn_24.2.2.2.2.2.2.2.2.2.2.2.1
theorem dX10_learn_44 : decode cX10_learn 44 = .ok (.aload_n 0, 1) := dk_dX10_learn_24.2.2.2.2.2.2.2.2.2.2.2.2.1
theorem dX10_learn_45 : decode cX10_learn 45 = .ok (.iconst 2, 1) := dk_dX10_learn_24.2.2.2.2.2.2.2.2.2.2.2.2.2.1
theorem dX10_learn_46 : decode cX10_learn 46 = .ok (.iload_n 2, 1) := dk_dX10_learn_24.2.2.2.2.2.2.2.2.2.2.2.2.2.2.1
theorem dX10_learn_47 : decode cX10_learn 47 = .ok (.invokevirtual 457, 3) := dk_dX10_learn_24.2.2.2.2.2.2.2.2.2.2.2.2.2.2.2
theorem dk_dX10_learn_50 : decode cX10_learn 50 = .ok (.ladd, 1) ∧ decode cX10_learn 51 = .ok (.lstore 4, 2) ∧ decode cX10_learn 53 = .ok (.aload_n 0, 1) ∧ decode cX10_learn 54 = .ok (.getfield 139, 3) ∧ decode cX10_learn 57 = .ok (.iconst 3, 1) ∧ decode cX10_learn 58 = .ok (.iload_n 3, 1) ∧ decode cX10_learn 59 = .ok (.iadd, 1) ∧ decode cX10_learn 60 = .ok (.lload 4, 2) ∧ decode cX10_learn 62 = .ok (.lconst 0, 1) ∧ decode cX10_learn 63 = .ok (.lcmp, 1) ∧ decode cX10_learn 64 = .ok (.ifCond .ge 7, 3) ∧ decode cX10_learn 67 = .ok (.iconst 0, 1) ∧ decode cX10_learn 68 = .ok (.goto 20, 3) ∧ decode cX10_learn 71 = .ok (.lload 4, 2) ∧ decode cX10_learn 73 = .ok (.ldc2_w 521, 3) ∧ decode cX10_learn 76 = .ok (.lcmp, 1) := by decide +kernel
theorem dX10_learn_50 : decode cX10_learn 50 = .ok (.ladd, 1) := dk_dX10_learn_50.1
theorem dX10_learn_51 : decode cX10_learn 51 = .ok (.lstore 4, 2) := dk_dX10_learn_50.2.1
theorem dX10_learn_53 : decode cX10_learn 53 = .ok (.aload_n 0, 1) := dk_dX10_learn_50.2.2.1
theorem dX10_learn_54 : decode cX10_learn 54 = .ok (.getfield 139, 3) := dk_dX10_learn_50.2.2.2.1
theorem dX10_learn_57 : decode cX10_learn 57 = .ok (.iconst 3, 1) := dk_dX10_learn_50.2.2.2.2.1
theorem dX10_learn_58 : decode cX10_learn 58 = .ok (.iload_n 3, 1) := dk_dX10_learn_50.2.2.2.2.2.1
theorem dX10_learn_59 : decode cX10_learn 59 = .ok (.iadd, 1) := dk_dX10_learn_50.2.2.2.2.2.2.1
theorem dX10_learn_60 : decode cX10_learn 60 = .ok (.lload 4, 2) := dk_dX10_learn_50.2.2.2.2.2.2.2.1
theorem dX10_learn_62 : decode cX10_learn 62 = .ok (.lconst 0, 1) := dk_dX10_learn_50.2.2.2.2.2.2.2.2.1
theorem dX10_learn_63 : decode cX10_learn 63 = .ok (.lcmp, 1) := dk_dX10_learn_50.2.2.2.2.2.2.2.2.2.1
theorem dX10_learn_64 : decode cX10_learn 64 = .ok (.ifCond .ge 7, 3) := dk_dX10_learn_50.2.2.2.2.2.2.2.2.2.2.1
theorem dX10_learn_67 : decode cX10_learn 67 = .ok (.iconst 0, 1) := dk_dX10_learn_50.2.2.2.2.2.2.2.2.2.2.2.1
theorem dX10_learn_68 : decode cX10_learn 68 = .ok (.goto 20, 3) := dk_dX10_learn_50.2.2.2.2.2.2.2.2.2.2.2.2.1
theorem dX10_learn_71 : decode cX10_learn 71 = .ok (.lload 4, 2) := dk_dX10_learn_50.2.2.2.2.2.2.2.2.2.2.2.2.2.1
theorem dX10_learn_73 : decode cX10_learn 73 = .ok (.ldc2_w 521, 3) := dk_dX10_learn_50.2.2.2.2.2.2.2.2.2.2.2.2.2.2.1
theorem dX10_learn_76 : decode cX10_learn 76 = .ok (.lcmp, 1) := dk_dX10_learn_50.2.2.2.2.2.2.2.2.2.2.2.2.2.2.2
theorem dk_dX10_learn_77 : decode cX10_learn 77 = .ok (.ifCond .le 8, 3) ∧ decode cX10_learn 80 = .ok (.bipush 9, 2) ∧ decode cX10_learn 82 = .ok (.goto 6, 3) ∧ decode cX10_learn 85 = .ok (.lload 4, 2) ∧ decode cX10_learn 87 = .ok (.l2i, 1) ∧ decode cX10_learn 88 = .ok (.iastore, 1) ∧ decode cX10_learn 89 = .ok (.iinc 2 1, 3) ∧ decode cX10_learn 92 = .ok (.goto (-90), 3) ∧ decode cX10_learn 95 = .ok (.return_, 1) := by decide +kernel
theorem dX10_learn_77 : decode cX10_learn 77 = .ok (.ifCond .le 8, 3) := dk_dX10_learn_77.1
theorem dX10_learn_80 : decode cX10_learn 80 = .ok (.bipush 9, 2) := dk_dX10_learn_77.2.1
theorem dX10_learn_82 : decode cX10_learn 82 = .ok (.goto 6, 3) := dk_dX10_learn_77.2.2.1
theorem dX10_learn_85 : decode cX10_learn 85 = .ok (.lload 4, 2) := dk_dX10_learn_77.2.2.2.1
theorem dX10_learn_87 : decode cX10_learn 87 = .ok (.l2i, 1) := dk_dX10_learn_77.2.2.2.2.1
theorem dX10_learn_88 : decode cX10_learn 88 = .ok (.iastore, 1) := dk_dX10_learn_77.2.2.2.2.2.1
theorem dX10_learn_89 : decode cX10_learn 89 = .ok (.iinc 2 1, 3) := dk_dX10_learn_77.2.2.2.2.2.2.1
theorem dX10_learn_92 : decode cX10_learn 92 = .ok (.goto (-90), 3) := dk_dX10_learn_77.2.2.2.2.2.2.2.1
theorem dX10_learn_95 : decode cX10_learn 95 = .ok (.return_, 1) := dk_dX10_learn_77.2.2.2.2.2.2.2.2
theorem dk_dX10_least_0 : decode cX10_least 0 = .ok (.aload_n 0, 1) ∧ decode cX10_least 1 = .ok (.getfield 417, 3) ∧ decode cX10_least 4 = .ok (.ifCond .ne 5, 3) ∧ decode cX10_least 7 = .ok (.iconst (-1), 1) ∧ decode cX10_least 8 = .ok (.ireturn, 1) ∧ decode cX10_least 9 = .ok (.aload_n 0, 1) ∧ decode cX10_least 10 = .ok (.invokevirtual 501, 3) ∧ decode cX10_least 13 = .ok (.iconst 1, 1) ∧ decode cX10_least 14 = .ok (.istore_n 1, 1) ∧ decode cX10_least 15 = .ok (.aload_n 0, 1) ∧ decode cX10_least 16 = .ok (.iload_n 1, 1) ∧ decode cX10_least 17 = .ok (.bipush 60, 2) ∧ decode cX10_least 19 = .ok (.invokevirtual 548, 3) ∧ decode cX10_least 22 = .ok (.ifCond .eq 40, 3) ∧ decode cX10_least 25 = .ok (.aload_n 0, 1) ∧ decode cX10_least 26 = .ok (.aload_n 0, 1) := by decide +kernel
theorem dX10_least_0 : decode cX10_least 0 = .ok (.aload_n 0, 1) := dk_dX10_least_0.1
theorem dX10_least_1 : decode cX10_least 1 = .ok (.getfield 417, 3) := dk_dX10_least_0.2.1
theorem dX10_least_4 : decode cX10_least 4 = .ok (.ifCond .ne 5, 3) := dk_dX10_least_0.2.2.1
theorem dX10_least_7 : decode cX10_least 7 = .ok (.iconst (-1), 1) := dk_dX10_least_0.2.2.2.1
theorem dX10_least_8 : decode cX10_least 8 = .ok (.ireturn, 1) := dk_dX10_least_0.2.2.2.2.1
theorem dX10_least_9 : decode cX10_least 9 = .ok (.aload_n 0, 1) := dk_dX10_least_0.2.2.2.2.2.1
theorem dX10_least_10 : decode cX10_least 10 = .ok (.invokevirtual 501, 3) := dk_dX10_least_0.2.2.2.2.2.2.1
theorem dX10_least_13 : decode cX10_least 13 = .ok (.iconst 1, 1) := dk_dX10_least_0.2.2.2.2.2.2.2.1
theorem dX10_least_14 : decode cX10_least 14 = .ok (.istore_n 1, 1) := dk_dX10_least_0.2.2.2.2.2.2.2.2.1
theorem dX10_least_15 : decode cX10_least 15 = .ok (.aload_n 0, 1) := dk_dX10_least_0.2.2.2.2.2.2.2.2.2.1
theorem dX10_least_16 : decode cX10_least 16 = .ok (.iload_n 1, 1) := dk_dX10_least_0.2.2.2.2.2.2.2.2.2.2.1
theorem dX10_least_17 : decode cX10_least 17 = .ok (.bipush 60, 2) := dk_dX10_least_0.2.2.2.2.2.2.2.2.2.2.2.1
theorem dX10_least_19 : decode cX10_least 19 = .ok (.invokevirtual 548, 3) := dk_dX10_least_0.2.2.2.2.2.2.2.2.2.2.2.2.1
theorem dX10_least_22 : decode cX10_least 22 = .ok (.ifCond .eq 40, 3) := dk_dX10_least_0.2.2.2.2.2.2.2.2.2.2.2.2.2.1
theorem dX10_least_25 : decode cX10_least 25 = .ok (.aload_n 0, 1) := dk_dX10_least_0.2.2.2.2.2.2.2.2.2.2.2.2.2.2.1
theorem dX10_least_26 : decode cX10_least 26 = .ok (.aload_n 0, 1) := dk_dX10_least_0.2.2.2.2.2.2.2.2.2.2.2.2.2.2.2
theorem dk_dX10_least_27 : decode cX10_least 27 = .ok (.getfield 139, 3) ∧ decode cX10_least 30 = .ok (.iconst 1, 1) ∧ decode cX10_least 31 = .ok (.iaload, 1) ∧ decode cX10_least 32 = .ok (.iload_n 1, 1) ∧ decode cX10_least 33 = .ok (.iconst 0, 1) ∧ decode cX10_least 34 = .ok (.iconst 0, 1) ∧ decode cX10_least 35 = .ok (.invokevirtual 504, 3) ∧ decode cX10_least 38 = .ok (.aload_n 0, 1) ∧ decode cX10_least 39 = .ok (.iconst 1, 1) ∧ decode cX10_least 40 = .ok (.invokevirtual 541, 3) ∧ decode cX10_least 43 = .ok (.ifCond .ne 13, 3) ∧ decode cX10_least 46 = .ok (.aload_n 0, 1) ∧ decode cX10_least 47 = .ok (.iconst 3, 1) ∧ decode cX10_least 48 = .ok (.invokevirtual 541, 3) ∧ decode cX10_least 51 = .ok (.ifCond .ne 5, 3) ∧ decode cX10_least 54 = .ok (.iload_n 1, 1) := by decide +kernel
theorem dX10_least_27 : decode cX10_least 27 = .ok (.getfield 139, 3) := dk_dX10_least_27.1
theorem dX10_least_30 : decode cX10_least 30 = .ok (.iconst 1, 1) := dk_dX10_least_27.2.1
theorem dX10_least_31 : decode cX10_least 31 = .ok (.iaload, 1) := dk_dX10_least_27.2.2.1
theorem dX10_least_32 : decode cX10_least 32 = .ok (.iload_n 1, 1) := dk_dX10_least_27.2.2.2.1
theorem dX10_least_33 : decode cX10_least 33 = .ok (.iconst 0, 1) := dk_dX10_least_27.2.2.2.2.1
theorem dX10_least_34 : decode cX10_least 34 = .ok (.iconst 0, 1) := dk_dX10_least_27.2.2.2.2.2.1
theorem dX10_least_35 : decode cX10_least 35 = .ok (.invokevirtual 504, 3) := dk_dX10_least_27.2.2.2.2.2.2.1
theorem dX10_least_38 : decode cX10_least 38 = .ok (.aload_n 0, 1) := dk_dX10_least_27.2.2.2.2.2.2.2.1
theorem dX10_least_39 : decode cX10_least 39 = .ok (.iconst 1, 1) := dk_dX10_least_27.2.2.2.2.2.2.2.2.1
theorem dX10_least_40 : decode cX10_least 40 = .ok (.invokevirtual 541, 3) := dk_dX10_least_27.2.2.2.2.2.2.2.2.2.1
theorem dX10_least_43 : decode cX10_least 43 = .ok (.ifCond .ne 13, 3) := dk_dX10_least_27.2.2.2.2.2.2.2.2.2.2.1
theorem dX10_least_46 : decode cX10_least 46 = .ok (.aload_n 0, 1) := dk_dX10_least_27.2.2.2.2.2.2.2.2.2.2.2.1
theorem dX10_least_47 : decode cX10_least 47 = .ok (.iconst 3, 1) := dk_dX10_least_27.2.2.2.2.2.2.2.2.2.2.2.2.1
theorem dX10_least_48 : decode cX10_least 48 = .ok (.invokevirtual 541, 3) := dk_dX10_least_27.2.2.2.2.2.2.2.2.2.2.2.2.2.1
theorem dX10_least_51 : decode cX10_least 51 = .ok (.ifCond .ne 5, 3) := dk_dX10_least_27.2.2.2.2.2.2.2.2.2.2.2.2.2.2.1
theorem dX10_least_54 : decode cX10_least 54 = .ok (.iload_n 1, 1) := dk_dX10_least_27.2.2.2.2.2.2.2.2.2.2.2.2.2.2.2
theorem dk_dX10_least_55 : decode cX10_least 55 = .ok (.ireturn, 1) ∧ decode cX10_least 56 = .ok (.iinc 1 1, 3) ∧ decode cX10_least 59 = .ok (.goto (-44), 3) ∧ decode cX10_least 62 = .ok (.iconst (-1), 1) ∧ decode cX10_least 63 = .ok (.ireturn, 1) := by decide +kernel
theorem dX10_least_55 : decode cX10_least 55 = .ok (.ireturn, 1) := dk_dX10_least_55.1
theorem dX10_least_56 : decode cX10_least 56 = .ok (.iinc 1 1, 3) := dk_dX10_least_55.2.1
theorem dX10_least_59 : decode cX10_least 59 = .ok (.goto (-44), 3) := dk_dX10_least_55.2.2.1
theorem dX10_least_62 : decode cX10_least 62 = .ok (.iconst (-1), 1) := dk_dX10_least_55.2.2.2.1
theorem dX10_least_63 : decode cX10_least 63 = .ok (.ireturn, 1) := dk_dX10_least_55.2.2.2.2
theorem dk_dX10_letter_0 : decode cX10_letter 0 = .ok (.iload_n 1, 1) ∧ decode cX10_letter 1 = .ok (.i2l, 1) ∧ decode cX10_letter 2 = .ok (.lconst 0, 1) ∧ decode cX10_letter 3 = .ok (.lconst 1, 1) ∧ decode cX10_letter 4 = .ok (.invokestatic 318, 3) ∧ decode cX10_letter 7 = .ok (.ifCond .eq 35, 3) ∧ decode cX10_letter 10 = .ok (.iload_n 2, 1) ∧ decode cX10_letter 11 = .ok (.i2l, 1) ∧ decode cX10_letter 12 = .ok (.lconst 0, 1) ∧ decode cX10_letter 13 = .ok (.aload_n 0, 1) ∧ decode cX10_letter 14 = .ok (.getfield 111, 3) ∧ decode cX10_letter 17 = .ok (.iconst 2, 1) ∧ decode cX10_letter 18 = .ok (.iload_n 1, 1) ∧ decode cX10_letter 19 = .ok (.iadd, 1) ∧ decode cX10_letter 20 = .ok (.iaload, 1) ∧ decode cX10_letter 21 = .ok (.iconst 1, 1) := by decide +kernel
theorem dX10_letter_0 : decode cX10_letter 0 = .ok (.iload_n 1, 1) := dk_dX10_letter_0.1
theorem dX10_letter_1 : decode cX10_letter 1 = .ok (.i2l, 1) := dk_dX10_letter_0.2.1
theorem dX10_letter_2 : decode cX10_letter 2 = .ok (.lconst 0, 1) := dk_dX10_letter_0.2.2.1
theorem dX10_letter_3 : decode cX10_letter 3 = .ok (.lconst 1, 1) := dk_dX10_letter_0.2.2.2.1
theorem dX10_letter_4 : decode cX10_letter 4 = .ok (.invokestatic 318, 3) := dk_dX10_letter_0.2.2.2.2.1
theorem dX10_letter_7 : decode cX10_letter 7 = .ok (.ifCond .eq 35, 3) := dk_dX10_letter_0.2.2.2.2.2.1
theorem dX10_letter_10 : decode cX10_letter 10 = .ok (.iload_n 2, 1) := dk_dX10_letter_0.2.2.2.2.2.2.1
theorem dX10_letter_11 : decode cX10_letter 11 = .ok (.i2l, 1) := dk_dX10_letter_0.2.2.2.2.2.2.2.1
theorem dX10_letter_12 : decode cX10_letter 12 = .ok (.lconst 0, 1) := dk_dX10_letter_0.2.2.2.2.2.2.2.2.1
theorem dX10_letter_13 : decode cX10_letter 13 = .ok (.aload_n 0, 1) := dk_dX10_letter_0.2.2.2.2.2.2.2.2.2.1
theorem dX10_letter_14 : decode cX10_letter 14 = .ok (.getfield 111, 3) := dk_dX10_letter_0.2.2.2.2.2.2.2.2.2.2.1
theorem dX10_letter_17 : decode cX10_letter 17 = .ok (.iconst 2, 1) := dk_dX10_letter_0.2.2.2.2.2.2.2.2.2.2.2.1
theorem dX10_letter_18 : decode cX10_letter 18 = .ok (.iload_n 1, 1) := dk_dX10_letter_0.2.2.2.2.2.2.2.2.2.2.2.2.1
theorem dX10_letter_19 : decode cX10_letter 19 = .ok (.iadd, 1) := dk_dX10_letter_0.2.2.2.2.2.2.2.2.2.2.2.2.2.1
theorem dX10_letter_20 : decode cX10_letter 20 = .ok (.iaload, 1) := dk_dX10_letter_0.2.2.2.2.2.2.2.2.2.2.2.2.2.2.1
theorem dX10_letter_21 : decode cX10_letter 21 = .ok (.iconst 1, 1) := dk_dX10_letter_0.2.2.2.2.2.2.2.2.2.2.2.2.2.2.2
theorem dk_dX10_letter_22 : decode cX10_letter 22 = .ok (.isub, 1) ∧ decode cX10_letter 23 = .ok (.i2l, 1) ∧ decode cX10_letter 24 = .ok (.invokestatic 318, 3) ∧ decode cX10_letter 27 = .ok (.ifCond .eq 15, 3) ∧ decode cX10_letter 30 = .ok (.iload_n 3, 1) ∧ decode cX10_letter 31 = .ok (.i2l, 1) ∧ decode cX10_letter 32 = .ok (.lconst 0, 1) ∧ decode cX10_letter 33 = .ok (.ldc2_w 526, 3) ∧ decode cX10_letter 36 = .ok (.invokestatic 318, 3) ∧ decode cX10_letter 39 = .ok (.ifCond .ne 5, 3) ∧ decode cX10_letter 42 = .ok (.iconst (-1), 1) ∧ decode cX10_letter 43 = .ok (.ireturn, 1) ∧ decode cX10_letter 44 = .ok (.aload_n 0, 1) ∧ decode cX10_letter 45 = .ok (.getfield 114, 3) ∧ decode cX10_letter 48 = .ok (.bipush 24, 2) ∧ decode cX10_letter 50 = .ok (.bipush 12, 2) := by decide +kernel
theorem dX10_letter_22 : decode cX10_letter 22 = .ok (.isub, 1) := dk_dX10_letter_22.1
theorem dX10_letter_23 : decode cX10_letter 23 = .ok (.i2l, 1) := dk_dX10_letter_22.2.1
theorem dX10_letter_24 : decode cX10_letter 24 = .ok (.invokestatic 318, 3) := dk_dX10_letter_22.2.2.1
theorem dX10_letter_27 : decode cX10_letter 27 = .ok (.ifCond .eq 15, 3) := dk_dX10_letter_22.2.2.2.1
theorem dX10_letter_30 : decode cX10_letter 30 = .ok (.iload_n 3, 1) := dk_dX10_letter_22.2.2.2.2.1
theorem dX10_letter_31 : decode cX10_letter 31 = .ok (.i2l, 1) := dk_dX10_letter_22.2.2.2.2.2.1
theorem dX10_letter_32 : decode cX10_letter 32 = .ok (.lconst 0, 1) := dk_dX10_letter_22.2.2.2.2.2.2.1
theorem dX10_letter_33 : decode cX10_letter 33 = .ok (.ldc2_w 526, 3) := dk_dX10_letter_22.2.2.2.2.2.2.2.1
theorem dX10_letter_36 : decode cX10_letter 36 = .ok (.invokestatic 318, 3) := dk_dX10_letter_22.2.2.2.2.2.2.2.2.1
theorem dX10_letter_39 : decode cX10_letter 39 = .ok (.ifCond .ne 5, 3) := dk_dX10_letter_22.2.2.2.2.2.2.2.2.2.1
theorem dX10_letter_42 : decode cX10_letter 42 = .ok (.iconst (-1), 1) := dk_dX10_letter_22.2.2.2.2.2.2.2.2.2.2.1
theorem dX10_letter_43 : decode cX10_letter 43 = .ok (.ireturn, 1) := dk_dX10_letter_22.2.2.2.2.2.2.2.2.2.2.2.1
theorem dX10_letter_44 : decode cX10_letter 44 = .ok (.aload_n 0, 1) := dk_dX10_letter_22.2.2.2.2.2.2.2.2.2.2.2.2.1
theorem dX10_letter_45 : decode cX10_letter 45 = .ok (.getfield 114, 3) := dk_dX10_letter_22.2.2.2.2.2.2.2.2.2.2.2.2.2.1
theorem dX10_letter_48 : decode cX10_letter 48 = .ok (.bipush 24, 2) := dk_dX10_letter_22.2.2.2.2.2.2.2.2.2.2.2.2.2.2.1
theorem dX10_letter_50 : decode cX10_letter 50 = .ok (.bipush 12, 2) := dk_dX10_letter_22.2.2.2.2.2.2.2.2.2.2.2.2.2.2.2
theorem dk_dX10_letter_52 : decode cX10_letter 52 = .ok (.iload_n 1, 1) ∧ decode cX10_letter 53 = .ok (.imul, 1) ∧ decode cX10_letter 54 = .ok (.iadd, 1) ∧ decode cX10_letter 55 = .ok (.iload_n 2, 1) ∧ decode cX10_letter 56 = .ok (.iadd, 1) ∧ decode cX10_letter 57 = .ok (.laload, 1) ∧ decode cX10_letter 58 = .ok (.lstore 4, 2) ∧ decode cX10_letter 60 = .ok (.iconst 0, 1) ∧ decode cX10_letter 61 = .ok (.istore 6, 2) ∧ decode cX10_letter 63 = .ok (.lload 4, 2) ∧ decode cX10_letter 65 = .ok (.lstore 7, 2) ∧ decode cX10_letter 67 = .ok (.lload 7, 2) ∧ decode cX10_letter 69 = .ok (.lconst 0, 1) ∧ decode cX10_letter 70 = .ok (.lcmp, 1) ∧ decode cX10_letter 71 = .ok (.ifCond .le 17, 3) ∧ decode cX10_letter 74 = .ok (.iinc 6 1, 3) := by decide +kernel
theorem dX10_letter_52 : decode cX10_letter 52 = .ok (.iload_n 1, 1) := dk_dX10_letter_52.1
theorem dX10_letter_53 : decode cX10_letter 53 = .ok (.imul, 1) := dk_dX10_letter_52.2.1
theorem dX10_letter_54 : decode cX10_letter 54 = .ok (.iadd, 1) := dk_dX10_letter_52.2.2.1
theorem dX10_letter_55 : decode cX10_letter 55 = .ok (.iload_n 2, 1) := dk_dX10_letter_52.2.2.2.1
theorem dX10_letter_56 : decode cX10_letter 56 = .ok (.iadd, 1) := dk_dX10_letter_52.2.2.2.2.1
theorem dX10_letter_57 : decode cX10_letter 57 = .ok (.laload, 1) := dk_dX10_letter_52.2.2.2.2.2.1
theorem dX10_letter_58 : decode cX10_letter 58 = .ok (.lstore 4, 2) := dk_dX10_letter_52.2.2.2.2.2.2.1
theorem dX10_letter_60 : decode cX10_letter 60 = .ok (.iconst 0, 1) := dk_dX10_letter_52.2.2.2.2.2.2.2.1
theorem dX10_letter_61 : decode cX10_letter 61 = .ok (.istore 6, 2) := dk_dX10_letter_52.2.2.2.2.2.2.2.2.1
theorem dX10_letter_63 : decode cX10_letter 63 = .ok (.lload 4, 2) := dk_dX10_letter_52.2.2.2.2.2.2.2.2.2.1
theorem dX10_letter_65 : decode cX10_letter 65 = .ok (.lstore 7, 2) := dk_dX10_letter_52.2.2.2.2.2.2.2.2.2.2.1
theorem dX10_letter_67 : decode cX10_letter 67 = .ok (.lload 7, 2) := dk_dX10_letter_52.2.2.2.2.2.2.2.2.2.2.2.1
theorem dX10_letter_69 : decode cX10_letter 69 = .ok (.lconst 0, 1) := dk_dX10_letter_52.2.2.2.2.2.2.2.2.2.2.2.2.1
theorem dX10_letter_70 : decode cX10_letter 70 = .ok (.lcmp, 1) := dk_dX10_letter_52.2.2.2.2.2.2.2.2.2.2.2.2.2.1
theorem dX10_letter_71 : decode cX10_letter 71 = .ok (.ifCond .le 17, 3) := dk_dX10_letter_52.2.2.2.2.2.2.2.2.2.2.2.2.2.2.1
theorem dX10_letter_74 : decode cX10_letter 74 = .ok (.iinc 6 1, 3) := dk_dX10_letter_52.2.2.2.2.2.2.2.2.2.2.2.2.2.2.2
theorem dk_dX10_letter_77 : decode cX10_letter 77 = .ok (.lload 7, 2) ∧ decode cX10_letter 79 = .ok (.ldc2_w 329, 3) ∧ decode cX10_letter 82 = .ok (.ldiv, 1) ∧ decode cX10_letter 83 = .ok (.lstore 7, 2) ∧ decode cX10_letter 85 = .ok (.goto (-18), 3) ∧ decode cX10_letter 88 = .ok (.iload_n 3, 1) ∧ decode cX10_letter 89 = .ok (.iload 6, 2) ∧ decode cX10_letter 91 = .ok (.if_icmp .lt 5, 3) ∧ decode cX10_letter 94 = .ok (.iconst 0, 1) ∧ decode cX10_letter 95 = .ok (.ireturn, 1) ∧ decode cX10_letter 96 = .ok (.iload 6, 2) ∧ decode cX10_letter 98 = .ok (.iconst 1, 1) ∧ decode cX10_letter 99 = .ok (.isub, 1) ∧ decode cX10_letter 100 = .ok (.istore 7, 2) ∧ decode cX10_letter 102 = .ok (.iload 7, 2) ∧ decode cX10_letter 104 = .ok (.iload_n 3, 1) := by decide +kernel
theorem dX10_letter_77 : decode cX10_letter 77 = .ok (.lload 7, 2) := dk_dX10_letter_77.1
theorem dX10_letter_79 : decode cX10_letter 79 = .ok (.ldc2_w 329, 3) := dk_dX10_letter_77.2.1
theorem dX10_letter_82 : decode cX10_letter 82 = .ok (.ldiv, 1) := dk_dX10_letter_77.2.2.1
theorem dX10_letter_83 : decode cX10_letter 83 = .ok (.lstore 7, 2) := dk_dX10_letter_77.2.2.2.1
theorem dX10_letter_85 : decode cX10_letter 85 = .ok (.goto (-18), 3) := dk_dX10_letter_77.2.2.2.2.1
theorem dX10_letter_88 : decode cX10_letter 88 = .ok (.iload_n 3, 1) := dk_dX10_letter_77.2.2.2.2.2.1
theorem dX10_letter_89 : decode cX10_letter 89 = .ok (.iload 6, 2) := dk_dX10_letter_77.2.2.2.2.2.2.1
theorem dX10_letter_91 : decode cX10_letter 91 = .ok (.if_icmp .lt 5, 3) := dk_dX10_letter_77.2.2.2.2.2.2.2.1
theorem dX10_letter_94 : decode cX10_letter 94 = .ok (.iconst 0, 1) := dk_dX10_letter_77.2.2.2.2.2.2.2.2.1
theorem dX10_letter_95 : decode cX10_letter 95 = .ok (.ireturn, 1) := dk_dX10_letter_77.2.2.2.2.2.2.2.2.2.1
theorem dX10_letter_96 : decode cX10_letter 96 = .ok (.iload 6, 2) := dk_dX10_letter_77.2.2.2.2.2.2.2.2.2.2.1
theorem dX10_letter_98 : decode cX10_letter 98 = .ok (.iconst 1, 1) := dk_dX10_letter_77.2.2.2.2.2.2.2.2.2.2.2.1
theorem dX10_letter_99 : decode cX10_letter 99 = .ok (.isub, 1) := dk_dX10_letter_77.2.2.2.2.2.2.2.2.2.2.2.2.1
theorem dX10_letter_100 : decode cX10_letter 100 = .ok (.istore 7, 2) := dk_dX10_letter_77.2.2.2.2.2.2.2.2.2.2.2.2.2.1
theorem dX10_letter_102 : decode cX10_letter 102 = .ok (.iload 7, 2) := dk_dX10_letter_77.2.2.2.2.2.2.2.2.2.2.2.2.2.2.1
theorem dX10_letter_104 : decode cX10_letter 104 = .ok (.iload_n 3, 1) := dk_dX10_letter_77.2.2.2.2.2.2.2.2.2.2.2.2.2.2.2
theorem dk_dX10_letter_105 : decode cX10_letter 105 = .ok (.if_icmp .le 17, 3) ∧ decode cX10_letter 108 = .ok (.lload 4, 2) ∧ decode cX10_letter 110 = .ok (.ldc2_w 329, 3) ∧ decode cX10_letter 113 = .ok (.ldiv, 1) ∧ decode cX10_letter 114 = .ok (.lstore 4, 2) ∧ decode cX10_letter 116 = .ok (.iinc 7 (-1), 3) ∧ decode cX10_letter 119 = .ok (.goto (-17), 3) ∧ decode cX10_letter 122 = .ok (.lload 4, 2) ∧ decode cX10_letter 124 = .ok (.ldc2_w 329, 3) ∧ decode cX10_letter 127 = .ok (.lrem, 1) ∧ decode cX10_letter 128 = .ok (.l2i, 1) ∧ decode cX10_letter 129 = .ok (.ireturn, 1) := by decide +kernel
theorem dX10_letter_105 : decode cX10_letter 105 = .ok (.if_icmp .le 17, 3) := dk_dX10_letter_105.1
theorem dX10_letter_108 : decode cX10_letter 108 = .ok (.lload 4, 2) := dk_dX10_letter_105.2.1
theorem dX10_letter_110 : decode cX10_letter 110 = .ok (.ldc2_w 329, 3) := dk_dX10_letter_105.2.2.1
theorem dX10_letter_113 : decode cX10_letter 113 = .ok (.ldiv, 1) := dk_dX10_letter_105.2.2.2.1
theorem dX10_letter_114 : decode cX10_letter 114 = .ok (.lstore 4, 2) := dk_dX10_letter_105.2.2.2.2.1
theorem dX10_letter_116 : decode cX10_letter 116 = .ok (.iinc 7 (-1), 3) := dk_dX10_letter_105.2.2.2.2.2.1
theorem dX10_letter_119 : decode cX10_letter 119 = .ok (.goto (-17), 3) := dk_dX10_letter_105.2.2.2.2.2.2.1
theorem dX10_letter_122 : decode cX10_letter 122 = .ok (.lload 4, 2) := dk_dX10_letter_105.2.2.2.2.2.2.2.1
theorem dX10_letter_124 : decode cX10_letter 124 = .ok (.ldc2_w 329, 3) := dk_dX10_letter_105.2.2.2.2.2.2.2.2.1
theorem dX10_letter_127 : decode cX10_letter 127 = .ok (.lrem, 1) := dk_dX10_letter_105.2.2.2.2.2.2.2.2.2.1
theorem dX10_letter_128 : decode cX10_letter 128 = .ok (.l2i, 1) := dk_dX10_letter_105.2.2.2.2.2.2.2.2.2.2.1
theorem dX10_letter_129 : decode cX10_letter 129 = .ok (.ireturn, 1) := dk_dX10_letter_105.2.2.2.2.2.2.2.2.2.2.2
theorem dk_dX10_light_0 : decode cX10_light 0 = .ok (.aload_n 0, 1) ∧ decode cX10_light 1 = .ok (.getfield 417, 3) ∧ decode cX10_light 4 = .ok (.ifCond .eq 15, 3) ∧ decode cX10_light 7 = .ok (.iload_n 1, 1) ∧ decode cX10_light 8 = .ok (.i2l, 1) ∧ decode cX10_light 9 = .ok (.lconst 0, 1) ∧ decode cX10_light 10 = .ok (.ldc2_w 537, 3) ∧ decode cX10_light 13 = .ok (.invokestatic 318, 3) ∧ decode cX10_light 16 = .ok (.ifCond .ne 5, 3) ∧ decode cX10_light 19 = .ok (.iconst (-1), 1) ∧ decode cX10_light 20 = .ok (.ireturn, 1) ∧ decode cX10_light 21 = .ok (.aload_n 0, 1) ∧ decode cX10_light 22 = .ok (.invokevirtual 534, 3) ∧ decode cX10_light 25 = .ok (.aload_n 0, 1) ∧ decode cX10_light 26 = .ok (.getfield 152, 3) ∧ decode cX10_light 29 = .ok (.iload_n 1, 1) := by decide +kernel
theorem dX10_light_0 : decode cX10_light 0 = .ok (.aload_n 0, 1) := dk_dX10_light_0.1
theorem dX10_light_1 : decode cX10_light 1 = .ok (.getfield 417, 3) := dk_dX10_light_0.2.1
theorem dX10_light_4 : decode cX10_light 4 = .ok (.ifCond .eq 15, 3) := dk_dX10_light_0.2.2.1
theorem dX10_light_7 : decode cX10_light 7 = .ok (.iload_n 1, 1) := dk_dX10_light_0.2.2.2.1
theorem dX10_light_8 : decode cX10_light 8 = .ok (.i2l, 1) := dk_dX10_light_0.2.2.2.2.1
theorem dX10_light_9 : decode cX10_light 9 = .ok (.lconst 0, 1) := dk_dX10_light_0.2.2.2.2.2.1
theorem dX10_light_10 : decode cX10_light 10 = .ok (.ldc2_w 537, 3) := dk_dX10_light_0.2.2.2.2.2.2.1
theorem dX10_light_13 : decode cX10_light 13 = .ok (.invokestatic 318, 3) := dk_dX10_light_0.2.2.2.2.2.2.2.1
theorem dX10_light_16 : decode cX10_light 16 = .ok (.ifCond .ne 5, 3) := dk_dX10_light_0.2.2.2.2.2.2.2.2.1
theorem dX10_light_19 : decode cX10_light 19 = .ok (.iconst (-1), 1) := dk_dX10_light_0.2.2.2.2.2.2.2.2.2.1
theorem dX10_light_20 : decode cX10_light 20 = .ok (.ireturn, 1) := dk_dX10_light_0.2.2.2.2.2.2.2.2.2.2.1
theorem dX10_light_21 : decode cX10_light 21 = .ok (.aload_n 0, 1) := dk_dX10_light_0.2.2.2.2.2.2.2.2.2.2.2.1
theorem dX10_light_22 : decode cX10_light 22 = .ok (.invokevirtual 534, 3) := dk_dX10_light_0.2.2.2.2.2.2.2.2.2.2.2.2.1
theorem dX10_light_25 : decode cX10_light 25 = .ok (.aload_n 0, 1) := dk_dX10_light_0.2.2.2.2.2.2.2.2.2.2.2.2.2.1
theorem dX10_light_26 : decode cX10_light 26 = .ok (.getfield 152, 3) := dk_dX10_light_0.2.2.2.2.2.2.2.2.2.2.2.2.2.2.1
theorem dX10_light_29 : decode cX10_light 29 = .ok (.iload_n 1, 1) := dk_dX10_light_0.2.2.2.2.2.2.2.2.2.2.2.2.2.2.2
theorem dk_dX10_light_30 : decode cX10_light 30 = .ok (.baload, 1) ∧ decode cX10_light 31 = .ok (.ifCond .eq 7, 3) ∧ decode cX10_light 34 = .ok (.iconst 1, 1) ∧ decode cX10_light 35 = .ok (.goto 4, 3) ∧ decode cX10_light 38 = .ok (.iconst 0, 1) ∧ decode cX10_light 39 = .ok (.ireturn, 1) := by decide +kernel
theorem dX10_light_30 : decode cX10_light 30 = .ok (.baload, 1) := dk_dX10_light_30.1
theorem dX10_light_31 : decode cX10_light 31 = .ok (.ifCond .eq 7, 3) := dk_dX10_light_30.2.1
theorem dX10_light_34 : decode cX10_light 34 = .ok (.iconst 1, 1) := dk_dX10_light_30.2.2.1
theorem dX10_light_35 : decode cX10_light 35 = .ok (.goto 4, 3) := dk_dX10_light_30.2.2.2.1
theorem dX10_light_38 : decode cX10_light 38 = .ok (.iconst 0, 1) := dk_dX10_light_30.2.2.2.2.1
theorem dX10_light_39 : decode cX10_light 39 = .ok (.ireturn, 1) := dk_dX10_light_30.2.2.2.2.2
theorem dk_dX10_look_0 : decode cX10_look 0 = .ok (.aload_n 0, 1) ∧ decode cX10_look 1 = .ok (.getfield 285, 3) ∧ decode cX10_look 4 = .ok (.aload_n 0, 1) ∧ decode cX10_look 5 = .ok (.getfield 288, 3) ∧ decode cX10_look 8 = .ok (.if_icmp .ge 44, 3) ∧ decode cX10_look 11 = .ok (.aload_n 0, 1) ∧ decode cX10_look 12 = .ok (.getfield 7, 3) ∧ decode cX10_look 15 = .ok (.aload_n 0, 1) ∧ decode cX10_look 16 = .ok (.getfield 285, 3) ∧ decode cX10_look 19 = .ok (.iaload, 1) ∧ decode cX10_look 20 = .ok (.bipush 10, 2) ∧ decode cX10_look 22 = .ok (.if_icmp .eq 17, 3) ∧ decode cX10_look 25 = .ok (.aload_n 0, 1) ∧ decode cX10_look 26 = .ok (.getfield 7, 3) ∧ decode cX10_look 29 = .ok (.aload_n 0, 1) ∧ decode cX10_look 30 = .ok (.getfield 285, 3) := by decide +kernel
theorem dX10_look_0 : decode cX10_look 0 = .ok (.aload_n 0, 1) := dk_dX10_look_0.1
theorem dX10_look_1 : decode cX10_look 1 = .ok (.getfield 285, 3) := dk_dX10_look_0.2.1
theorem dX10_look_4 : decode cX10_look 4 = .ok (.aload_n 0, 1) := dk_dX10_look_0.2.2.1
theorem dX10_look_5 : decode cX10_look 5 = .ok (.getfield 288, 3) := dk_dX10_look_0.2.2.2.1
theorem dX10_look_8 : decode cX10_look 8 = .ok (.if_icmp .ge 44, 3) := dk_dX10_look_0.2.2.2.2.1
theorem dX10_look_11 : decode cX10_look 11 = .ok (.aload_n 0, 1) := dk_dX10_look_0.2.2.2.2.2.1
theorem dX10_look_12 : decode cX10_look 12 = .ok (.getfield 7, 3) := dk_dX10_look_0.2.2.2.2.2.2.1
theorem dX10_look_15 : decode cX10_look 15 = .ok (.aload_n 0, 1) := dk_dX10_look_0.2.2.2.2.2.2.2.1
theorem dX10_look_16 : decode cX10_look 16 = .ok (.getfield 285, 3) := dk_dX10_look_0.2.2.2.2.2.2.2.2.1
theorem dX10_look_19 : decode cX10_look 19 = .ok (.iaload, 1) := dk_dX10_look_0.2.2.2.2.2.2.2.2.2.1
theorem dX10_look_20 : decode cX10_look 20 = .ok (.bipush 10, 2) := dk_dX10_look_0.2.2.2.2.2.2.2.2.2.2.1
theorem dX10_look_22 : decode cX10_look 22 = .ok (.if_icmp .eq 17, 3) := dk_dX10_look_0.2.2.2.2.2.2.2.2.2.2.2.1
theorem dX10_look_25 : decode cX10_look 25 = .ok (.aload_n 0, 1) := dk_dX10_look_0.2.2.2.2.2.2.2.2.2.2.2.2.1
theorem dX10_look_26 : decode cX10_look 26 = .ok (.getfield 7, 3) := dk_dX10_look_0.2.2.2.2.2.2.2.2.2.2.2.2.2.1
theorem dX10_look_29 : decode cX10_look 29 = .ok (.aload_n 0, 1) := dk_dX10_look_0.2.2.2.2.2.2.2.2.2.2.2.2.2.2.1
theorem dX10_look_30 : decode cX10_look 30 = .ok (.getfield 285, 3) := dk_dX10_look_0.2.2.2.2.2.2.2.2.2.2.2.2.2.2.2
theorem dk_dX10_look_33 : decode cX10_look 33 = .ok (.iaload, 1) ∧ decode cX10_look 34 = .ok (.bipush 32, 2) ∧ decode cX10_look 36 = .ok (.if_icmp .ne 16, 3) ∧ decode cX10_look 39 = .ok (.aload_n 0, 1) ∧ decode cX10_look 40 = .ok (.dup, 1) ∧ decode cX10_look 41 = .ok (.getfield 285, 3) ∧ decode cX10_look 44 = .ok (.iconst 1, 1) ∧ decode cX10_look 45 = .ok (.iadd, 1) ∧ decode cX10_look 46 = .ok (.putfield 285, 3) ∧ decode cX10_look 49 = .ok (.goto (-49), 3) ∧ decode cX10_look 52 = .ok (.aload_n 0, 1) ∧ decode cX10_look 53 = .ok (.getfield 285, 3) ∧ decode cX10_look 56 = .ok (.aload_n 0, 1) ∧ decode cX10_look 57 = .ok (.getfield 288, 3) ∧ decode cX10_look 60 = .ok (.if_icmp .ge 15, 3) ∧ decode cX10_look 63 = .ok (.aload_n 0, 1) := by decide +kernel
theorem dX10_look_33 : decode cX10_look 33 = .ok (.iaload, 1) := dk_dX10_look_33.1
theorem dX10_look_34 : decode cX10_look 34 = .ok (.bipush 32, 2) := dk_dX10_look_33.2.1
theorem dX10_look_36 : decode cX10_look 36 = .ok (.if_icmp .ne 16, 3) := dk_dX10_look_33.2.2.1
theorem dX10_look_39 : decode cX10_look 39 = .ok (.aload_n 0, 1) := dk_dX10_look_33.2.2.2.1
theorem dX10_look_40 : decode cX10_look 40 = .ok (.dup, 1) := dk_dX10_look_33.2.2.2.2.1
theorem dX10_look_41 : decode cX10_look 41 = .ok (.getfield 285, 3) := dk_dX10_look_33.2.2.2.2.2.1
theorem dX10_look_44 : decode cX10_look 44 = .ok (.iconst 1, 1) := dk_dX10_look_33.2.2.2.2.2.2.1
theorem dX10_look_45 : decode cX10_look 45 = .ok (.iadd, 1) := dk_dX10_look_33.2.2.2.2.2.2.2.1
theorem dX10_look_46 : decode cX10_look 46 = .ok (.putfield 285, 3) := dk_dX10_look_33.2.2.2.2.2.2.2.2.1
theorem dX10_look_49 : decode cX10_look 49 = .ok (.goto (-49), 3) := dk_dX10_look_33.2.2.2.2.2.2.2.2.2.1
theorem dX10_look_52 : decode cX10_look 52 = .ok (.aload_n 0, 1) := dk_dX10_look_33.2.2.2.2.2.2.2.2.2.2.1
theorem dX10_look_53 : decode cX10_look 53 = .ok (.getfield 285, 3) := dk_dX10_look_33.2.2.2.2.2.2.2.2.2.2.2.1
theorem dX10_look_56 : decode cX10_look 56 = .ok (.aload_n 0, 1) := dk_dX10_look_33.2.2.2.2.2.2.2.2.2.2.2.2.1
theorem dX10_look_57 : decode cX10_look 57 = .ok (.getfield 288, 3) := dk_dX10_look_33.2.2.2.2.2.2.2.2.2.2.2.2.2.1
theorem dX10_look_60 : decode cX10_look 60 = .ok (.if_icmp .ge 15, 3) := dk_dX10_look_33.2.2.2.2.2.2.2.2.2.2.2.2.2.2.1
theorem dX10_look_63 : decode cX10_look 63 = .ok (.aload_n 0, 1) := dk_dX10_look_33.2.2.2.2.2.2.2.2.2.2.2.2.2.2.2
theorem dk_dX10_look_64 : decode cX10_look 64 = .ok (.getfield 7, 3) ∧ decode cX10_look 67 = .ok (.aload_n 0, 1) ∧ decode cX10_look 68 = .ok (.getfield 285, 3) ∧ decode cX10_look 71 = .ok (.iaload, 1) ∧ decode cX10_look 72 = .ok (.goto 4, 3) ∧ decode cX10_look 75 = .ok (.iconst (-1), 1) ∧ decode cX10_look 76 = .ok (.ireturn, 1) := by decide +kernel
theorem dX10_look_64 : decode cX10_look 64 = .ok (.getfield 7, 3) := dk_dX10_look_64.1
theorem dX10_look_67 : decode cX10_look 67 = .ok (.aload_n 0, 1) := dk_dX10_look_64.2.1
theorem dX10_look_68 : decode cX10_look 68 = .ok (.getfield 285, 3) := dk_dX10_look_64.2.2.1
theorem dX10_look_71 : decode cX10_look 71 = .ok (.iaload, 1) := dk_dX10_look_64.2.2.2.1
theorem dX10_look_72 : decode cX10_look 72 = .ok (.goto 4, 3) := dk_dX10_look_64.2.2.2.2.1
theorem dX10_look_75 : decode cX10_look 75 = .ok (.iconst (-1), 1) := dk_dX10_look_64.2.2.2.2.2.1
theorem dX10_look_76 : decode cX10_look 76 = .ok (.ireturn, 1) := dk_dX10_look_64.2.2.2.2.2.2
theorem dk_dX10_mostAlike_0 : decode cX10_mostAlike 0 = .ok (.iconst 0, 1) ∧ decode cX10_mostAlike 1 = .ok (.istore_n 2, 1) ∧ decode cX10_mostAlike 2 = .ok (.iconst 0, 1) ∧ decode cX10_mostAlike 3 = .ok (.istore_n 3, 1) ∧ decode cX10_mostAlike 4 = .ok (.iload_n 3, 1) ∧ decode cX10_mostAlike 5 = .ok (.aload_n 0, 1) ∧ decode cX10_mostAlike 6 = .ok (.getfield 570, 3) ∧ decode cX10_mostAlike 9 = .ok (.if_icmp .ge 68, 3) ∧ decode cX10_mostAlike 12 = .ok (.iconst 0, 1) ∧ decode cX10_mostAlike 13 = .ok (.istore 4, 2) ∧ decode cX10_mostAlike 15 = .ok (.iconst 0, 1) ∧ decode cX10_mostAlike 16 = .ok (.istore 5, 2) ∧ decode cX10_mostAlike 18 = .ok (.iload 5, 2) ∧ decode cX10_mostAlike 20 = .ok (.aload_n 0, 1) ∧ decode cX10_mostAlike 21 = .ok (.getfield 570, 3) ∧ decode cX10_mostAlike 24 = .ok (.if_icmp .ge 38, 3) := by decide +kernel
theorem dX10_mostAlike_0 : decode cX10_mostAlike 0 = .ok (.iconst 0, 1) := dk_dX10_mostAlike_0.1
theorem dX10_mostAlike_1 : decode cX10_mostAlike 1 = .ok (.istore_n 2, 1) := dk_dX10_mostAlike_0.2.1
theorem dX10_mostAlike_2 : decode cX10_mostAlike 2 = .ok (.iconst 0, 1) := dk_dX10_mostAlike_0.2.2.1
theorem dX10_mostAlike_3 : decode cX10_mostAlike 3 = .ok (.istore_n 3, 1) := dk_dX10_mostAlike_0.2.2.2.1
theorem dX10_mostAlike_4 : decode cX10_mostAlike 4 = .ok (.iload_n 3, 1) := dk_dX10_mostAlike_0.2.2.2.2.1
theorem dX10_mostAlike_5 : decode cX10_mostAlike 5 = .ok (.aload_n 0, 1) := dk_dX10_mostAlike_0.2.2.2.2.2.1
theorem dX10_mostAlike_6 : decode cX10_mostAlike 6 = .ok (.getfield 570, 3) := dk_dX10_mostAlike_0.2.2.2.2.2.2.1
theorem dX10_mostAlike_9 : decode cX10_mostAlike 9 = .ok (.if_icmp .ge 68, 3) := dk_dX10_mostAlike_0.2.2.2.2.2.2.2.1
theorem dX10_mostAlike_12 : decode cX10_mostAlike 12 = .ok (.iconst 0, 1) := dk_dX10_mostAlike_0.2.2.2.2.2.2.2.2.1
theorem dX10_mostAlike_13 : decode cX10_mostAlike 13 = .ok (.istore 4, 2) := dk_dX10_mostAlike_0.2.2.2.2.2.2.2.2.2.1
theorem dX10_mostAlike_15 : decode cX10_mostAlike 15 = .ok (.iconst 0, 1) := dk_dX10_mostAlike_0.2.2.2.2.2.2.2.2.2.2.1
theorem dX10_mostAlike_16 : decode cX10_mostAlike 16 = .ok (.istore 5, 2) := dk_dX10_mostAlike_0.2.2.2.2.2.2.2.2.2.2.2.1
theorem dX10_mostAlike_18 : decode cX10_mostAlike 18 = .ok (.iload 5, 2) := dk_dX10_mostAlike_0.2.2.2.2.2.2.2.2.2.2.2.2.1
theorem dX10_mostAlike_20 : decode cX10_mostAlike 20 = .ok (.aload_n 0, 1) := dk_dX10_mostAlike_0.2.2.2.2.2.2.2.2.2.2.2.2.2.1
theorem dX10_mostAlike_21 : decode cX10_mostAlike 21 = .ok (.getfield 570, 3) := dk_dX10_mostAlike_0.2.2.2.2.2.2.2.2.2.2.2.2.2.2.1
theorem dX10_mostAlike_24 : decode cX10_mostAlike 24 = .ok (.if_icmp .ge 38, 3) := dk_dX10_mostAlike_0.2.2.2.2.2.2.2.2.2.2.2.2.2.2.2
theorem dk_dX10_mostAlike_27 : decode cX10_mostAlike 27 = .ok (.aload_n 0, 1) ∧ decode cX10_mostAlike 28 = .ok (.getfield 179, 3) ∧ decode cX10_mostAlike 31 = .ok (.bipush 12, 2) ∧ decode cX10_mostAlike 33 = .ok (.iload_n 3, 1) ∧ decode cX10_mostAlike 34 = .ok (.imul, 1) ∧ decode cX10_mostAlike 35 = .ok (.iload_n 1, 1) ∧ decode cX10_mostAlike 36 = .ok (.iadd, 1) ∧ decode cX10_mostAlike 37 = .ok (.iaload, 1) ∧ decode cX10_mostAlike 38 = .ok (.aload_n 0, 1) ∧ decode cX10_mostAlike 39 = .ok (.getfield 179, 3) ∧ decode cX10_mostAlike 42 = .ok (.bipush 12, 2) ∧ decode cX10_mostAlike 44 = .ok (.iload 5, 2) ∧ decode cX10_mostAlike 46 = .ok (.imul, 1) ∧ decode cX10_mostAlike 47 = .ok (.iload_n 1, 1) ∧ decode cX10_mostAlike 48 = .ok (.iadd, 1) ∧ decode cX10_mostAlike 49 = .ok (.iaload, 1) := by decide +kernel
theorem dX10_mostAlike_27 : decode cX10_mostAlike 27 = .ok (.aload_n 0, 1) := dk_dX10_mostAlike_27.1
theorem dX10_mostAlike_28 : decode cX10_mostAlike 28 = .ok (.getfield 179, 3) := dk_dX10_mostAlike_27.2.1
theorem dX10_mostAlike_31 : decode cX10_mostAlike 31 = .ok (.bipush 12, 2) := dk_dX10_mostAlike_27.2.2.1
theorem dX10_mostAlike_33 : decode cX10_mostAlike 33 = .ok (.iload_n 3, 1) := dk_dX10_mostAlike_27.2.2.2.1
theorem dX10_mostAlike_34 : decode cX10_mostAlike 34 = .ok (.imul, 1) := dk_dX10_mostAlike_27.2.2.2.2.1
theorem dX10_mostAlike_35 : decode cX10_mostAlike 35 = .ok (.iload_n 1, 1) := dk_dX10_mostAlike_27.2.2.2.2.2.1
theorem dX10_mostAlike_36 : decode cX10_mostAlike 36 = .ok (.iadd, 1) := dk_dX10_mostAlike_27.2.2.2.2.2.2.1
theorem dX10_mostAlike_37 : decode cX10_mostAlike 37 = .ok (.iaload, 1) := dk_dX10_mostAlike_27.2.2.2.2.2.2.2.1
theorem dX10_mostAlike_38 : decode cX10_mostAlike 38 = .ok (.aload_n 0, 1) := dk_dX10_mostAlike_27.2.2.2.2.2.2.2.2.1
theorem dX10_mostAlike_39 : decode cX10_mostAlike 39 = .ok (.getfield 179, 3) := dk_dX10_mostAlike_27.2.2.2.2.2.2.2.2.2.1
theorem dX10_mostAlike_42 : decode cX10_mostAlike 42 = .ok (.bipush 12, 2) := dk_dX10_mostAlike_27.2.2.2.2.2.2.2.2.2.2.1
theorem dX10_mostAlike_44 : decode cX10_mostAlike 44 = .ok (.iload 5, 2) := dk_dX10_mostAlike_27.2.2.2.2.2.2.2.2.2.2.2.1
theorem dX10_mostAlike_46 : decode cX10_mostAlike 46 = .ok (.imul, 1) := dk_dX10_mostAlike_27.2.2.2.2.2.2.2.2.2.2.2.2.1
theorem dX10_mostAlike_47 : decode cX10_mostAlike 47 = .ok (.iload_n 1, 1) := dk_dX10_mostAlike_27.2.2.2.2.2.2.2.2.2.2.2.2.2.1
theorem dX10_mostAlike_48 : decode cX10_mostAlike 48 = .ok (.iadd, 1) := dk_dX10_mostAlike_27.2.2.2.2.2.2.2.2.2.2.2.2.2.2.1
theorem dX10_mostAlike_49 : decode cX10_mostAlike 49 = .ok (.iaload, 1) := dk_dX10_mostAlike_27.2.2.2.2.2.2.2.2.2.2.2.2.2.2.2
theorem dk_dX10_mostAlike_50 : decode cX10_mostAlike 50 = .ok (.if_icmp .ne 6, 3) ∧ decode cX10_mostAlike 53 = .ok (.iinc 4 1, 3) ∧ decode cX10_mostAlike 56 = .ok (.iinc 5 1, 3) ∧ decode cX10_mostAlike 59 = .ok (.goto (-41), 3) ∧ decode cX10_mostAlike 62 = .ok (.iload 4, 2) ∧ decode cX10_mostAlike 64 = .ok (.iload_n 2, 1) ∧ decode cX10_mostAlike 65 = .ok (.if_icmp .le 6, 3) ∧ decode cX10_mostAlike 68 = .ok (.iload 4, 2) ∧ decode cX10_mostAlike 70 = .ok (.istore_n 2, 1) ∧ decode cX10_mostAlike 71 = .ok (.iinc 3 1, 3) ∧ decode cX10_mostAlike 74 = .ok (.goto (-70), 3) ∧ decode cX10_mostAlike 77 = .ok (.iload_n 2, 1) ∧ decode cX10_mostAlike 78 = .ok (.ireturn, 1) := by decide +kernel
theorem dX10_mostAlike_50 : decode cX10_mostAlike 50 = .ok (.if_icmp .ne 6, 3) := dk_dX10_mostAlike_50.1
theorem dX10_mostAlike_53 : decode cX10_mostAlike 53 = .ok (.iinc 4 1, 3) := dk_dX10_mostAlike_50.2.1
theorem dX10_mostAlike_56 : decode cX10_mostAlike 56 = .ok (.iinc 5 1, 3) := dk_dX10_mostAlike_50.2.2.1
theorem dX10_mostAlike_59 : decode cX10_mostAlike 59 = .ok (.goto (-41), 3) := dk_dX10_mostAlike_50.2.2.2.1
theorem dX10_mostAlike_62 : decode cX10_mostAlike 62 = .ok (.iload 4, 2) := dk_dX10_mostAlike_50.2.2.2.2.1
theorem dX10_mostAlike_64 : decode cX10_mostAlike 64 = .ok (.iload_n 2, 1) := dk_dX10_mostAlike_50.2.2.2.2.2.1
theorem dX10_mostAlike_65 : decode cX10_mostAlike 65 = .ok (.if_icmp .le 6, 3) := dk_dX10_mostAlike_50.2.2.2.2.2.2.1
theorem dX10_mostAlike_68 : decode cX10_mostAlike 68 = .ok (.iload 4, 2) := dk_dX10_mostAlike_50.2.2.2.2.2.2.2.1
theorem dX10_mostAlike_70 : decode cX10_mostAlike 70 = .ok (.istore_n 2, 1) := dk_dX10_mostAlike_50.2.2.2.2.2.2.2.2.1
theorem dX10_mostAlike_71 : decode cX10_mostAlike 71 = .ok (.iinc 3 1, 3) := dk_dX10_mostAlike_50.2.2.2.2.2.2.2.2.2.1
theorem dX10_mostAlike_74 : decode cX10_mostAlike 74 = .ok (.goto (-70), 3) := dk_dX10_mostAlike_50.2.2.2.2.2.2.2.2.2.2.1
theorem dX10_mostAlike_77 : decode cX10_mostAlike 77 = .ok (.iload_n 2, 1) := dk_dX10_mostAlike_50.2.2.2.2.2.2.2.2.2.2.2.1
theorem dX10_mostAlike_78 : decode cX10_mostAlike 78 = .ok (.ireturn, 1) := dk_dX10_mostAlike_50.2.2.2.2.2.2.2.2.2.2.2.2
theorem dk_dX10_name_0 : decode cX10_name 0 = .ok (.aload_n 0, 1) ∧ decode cX10_name 1 = .ok (.getfield 279, 3) ∧ decode cX10_name 4 = .ok (.ifCond .eq 5, 3) ∧ decode cX10_name 7 = .ok (.lconst 0, 1) ∧ decode cX10_name 8 = .ok (.lreturn, 1) ∧ decode cX10_name 9 = .ok (.aload_n 0, 1) ∧ decode cX10_name 10 = .ok (.invokevirtual 291, 3) ∧ decode cX10_name 13 = .ok (.invokestatic 295, 3) ∧ decode cX10_name 16 = .ok (.ifCond .eq 21, 3) ∧ decode cX10_name 19 = .ok (.aload_n 0, 1) ∧ decode cX10_name 20 = .ok (.getfield 285, 3) ∧ decode cX10_name 23 = .ok (.aload_n 0, 1) ∧ decode cX10_name 24 = .ok (.getfield 299, 3) ∧ decode cX10_name 27 = .ok (.if_icmp .eq 10, 3) ∧ decode cX10_name 30 = .ok (.aload_n 0, 1) ∧ decode cX10_name 31 = .ok (.invokevirtual 322, 3) := by decide +kernel
theorem dX10_name_0 : decode cX10_name 0 = .ok (.aload_n 0, 1) := dk_dX10_name_0.1
theorem dX10_name_1 : decode cX10_name 1 = .ok (.getfield 279, 3) := dk_dX10_name_0.2.1
theorem dX10_name_4 : decode cX10_name 4 = .ok (.ifCond .eq 5, 3) := dk_dX10_name_0.2.2.1
theorem dX10_name_7 : decode cX10_name 7 = .ok (.lconst 0, 1) := dk_dX10_name_0.2.2.2.1
theorem dX10_name_8 : decode cX10_name 8 = .ok (.lreturn, 1) := dk_dX10_name_0.2.2.2.2.1
theorem dX10_name_9 : decode cX10_name 9 = .ok (.aload_n 0, 1) := dk_dX10_name_0.2.2.2.2.2.1
theorem dX10_name_10 : decode cX10_name 10 = .ok (.invokevirtual 291, 3) := dk_dX10_name_0.2.2.2.2.2.2.1
theorem dX10_name_13 : decode cX10_name 13 = .ok (.invokestatic 295, 3) := dk_dX10_name_0.2.2.2.2.2.2.2.1
theorem dX10_name_16 : decode cX10_name 16 = .ok (.ifCond .eq 21, 3) := dk_dX10_name_0.2.2.2.2.2.2.2.2.1
theorem dX10_name_19 : decode cX10_name 19 = .ok (.aload_n 0, 1) := dk_dX10_name_0.2.2.2.2.2.2.2.2.2.1
theorem dX10_name_20 : decode cX10_name 20 = .ok (.getfield 285, 3) := dk_dX10_name_0.2.2.2.2.2.2.2.2.2.2.1
theorem dX10_name_23 : decode cX10_name 23 = .ok (.aload_n 0, 1) := dk_dX10_name_0.2.2.2.2.2.2.2.2.2.2.2.1
theorem dX10_name_24 : decode cX10_name 24 = .ok (.getfield 299, 3) := dk_dX10_name_0.2.2.2.2.2.2.2.2.2.2.2.2.1
theorem dX10_name_27 : decode cX10_name 27 = .ok (.if_icmp .eq 10, 3) := dk_dX10_name_0.2.2.2.2.2.2.2.2.2.2.2.2.2.1
theorem dX10_name_30 : decode cX10_name 30 = .ok (.aload_n 0, 1) := dk_dX10_name_0.2.2.2.2.2.2.2.2.2.2.2.2.2.2.1
theorem dX10_name_31 : decode cX10_name 31 = .ok (.invokevirtual 322, 3) := dk_dX10_name_0.2.2.2.2.2.2.2.2.2.2.2.2.2.2.2
theorem dk_dX10_name_34 : decode cX10_name 34 = .ok (.ifCond .eq 14, 3) ∧ decode cX10_name 37 = .ok (.aload_n 0, 1) ∧ decode cX10_name 38 = .ok (.iconst 1, 1) ∧ decode cX10_name 39 = .ok (.aload_n 0, 1) ∧ decode cX10_name 40 = .ok (.getfield 285, 3) ∧ decode cX10_name 43 = .ok (.invokevirtual 308, 3) ∧ decode cX10_name 46 = .ok (.lconst 0, 1) ∧ decode cX10_name 47 = .ok (.lreturn, 1) ∧ decode cX10_name 48 = .ok (.aload_n 0, 1) ∧ decode cX10_name 49 = .ok (.aload_n 0, 1) ∧ decode cX10_name 50 = .ok (.getfield 285, 3) ∧ decode cX10_name 53 = .ok (.putfield 326, 3) ∧ decode cX10_name 56 = .ok (.lconst 0, 1) ∧ decode cX10_name 57 = .ok (.lstore_n 1, 1) ∧ decode cX10_name 58 = .ok (.aload_n 0, 1) ∧ decode cX10_name 59 = .ok (.getfield 285, 3) := by decide +kernel
theorem dX10_name_34 : decode cX10_name 34 = .ok (.ifCond .eq 14, 3) := dk_dX10_name_34.1
theorem dX10_name_37 : decode cX10_name 37 = .ok (.aload_n 0, 1) := dk_dX10_name_34.2.1
theorem dX10_name_38 : decode cX10_name 38 = .ok (.iconst 1, 1) := dk_dX10_name_34.2.2.1
theorem dX10_name_39 : decode cX10_name 39 = .ok (.aload_n 0, 1) := dk_dX10_name_34.2.2.2.1
theorem dX10_name_40 : decode cX10_name 40 = .ok (.getfield 285, 3) := dk_dX10_name_34.2.2.2.2.1
theorem dX10_name_43 : decode cX10_name 43 = .ok (.invokevirtual 308, 3) := dk_dX10_name_34.2.2.2.2.2.1
theorem dX10_name_46 : decode cX10_name 46 = .ok (.lconst 0, 1) := dk_dX10_name_34.2.2.2.2.2.2.1
theorem dX10_name_47 : decode cX10_name 47 = .ok (.lreturn, 1) := dk_dX10_name_34.2.2.2.2.2.2.2.1
theorem dX10_name_48 : decode cX10_name 48 = .ok (.aload_n 0, 1) := dk_dX10_name_34.2.2.2.2.2.2.2.2.1
theorem dX10_name_49 : decode cX10_name 49 = .ok (.aload_n 0, 1) := dk_dX10_name_34.2.2.2.2.2.2.2.2.2.1
theorem dX10_name_50 : decode cX10_name 50 = .ok (.getfield 285, 3) := dk_dX10_name_34.2.2.2.2.2.2.2.2.2.2.1
theorem dX10_name_53 : decode cX10_name 53 = .ok (.putfield 326, 3) := dk_dX10_name_34.2.2.2.2.2.2.2.2.2.2.2.1
theorem dX10_name_56 : decode cX10_name 56 = .ok (.lconst 0, 1) := dk_dX10_name_34.2.2.2.2.2.2.2.2.2.2.2.2.1
theorem dX10_name_57 : decode cX10_name 57 = .ok (.lstore_n 1, 1) := dk_dX10_name_34.2.2.2.2.2.2.2.2.2.2.2.2.2.1
theorem dX10_name_58 : decode cX10_name 58 = .ok (.aload_n 0, 1) := dk_dX10_name_34.2.2.2.2.2.2.2.2.2.2.2.2.2.2.1
theorem dX10_name_59 : decode cX10_name 59 = .ok (.getfield 285, 3) := dk_dX10_name_34.2.2.2.2.2.2.2.2.2.2.2.2.2.2.2
theorem dk_dX10_name_62 : decode cX10_name 62 = .ok (.aload_n 0, 1) ∧ decode cX10_name 63 = .ok (.getfield 288, 3) ∧ decode cX10_name 66 = .ok (.if_icmp .ge 79, 3) ∧ decode cX10_name 69 = .ok (.aload_n 0, 1) ∧ decode cX10_name 70 = .ok (.getfield 7, 3) ∧ decode cX10_name 73 = .ok (.aload_n 0, 1) ∧ decode cX10_name 74 = .ok (.getfield 285, 3) ∧ decode cX10_name 77 = .ok (.iaload, 1) ∧ decode cX10_name 78 = .ok (.invokestatic 295, 3) ∧ decode cX10_name 81 = .ok (.ifCond .eq 64, 3) ∧ decode cX10_name 84 = .ok (.aload_n 0, 1) ∧ decode cX10_name 85 = .ok (.getfield 285, 3) ∧ decode cX10_name 88 = .ok (.aload_n 0, 1) ∧ decode cX10_name 89 = .ok (.getfield 326, 3) ∧ decode cX10_name 92 = .ok (.isub, 1) ∧ decode cX10_name 93 = .ok (.bipush 6, 2) := by decide +kernel
theorem dX10_name_62 : decode cX10_name 62 = .ok (.aload_n 0, 1) := dk_dX10_name_62.1
theorem dX10_name_63 : decode cX10_name 63 = .ok (.getfield 288, 3) := dk_dX10_name_62.2.1
theorem dX10_name_66 : decode cX10_name 66 = .ok (.if_icmp .ge 79, 3) := dk_dX10_name_62.2.2.1
theorem dX10_name_69 : decode cX10_name 69 = .ok (.aload_n 0, 1) := dk_dX10_name_62.2.2.2.1
theorem dX10_name_70 : decode cX10_name 70 = .ok (.getfield 7, 3) := dk_dX10_name_62.2.2.2.2.1
theorem dX10_name_73 : decode cX10_name 73 = .ok (.aload_n 0, 1) := dk_dX10_name_62.2.2.2.2.2.1
theorem dX10_name_74 : decode cX10_name 74 = .ok (.getfield 285, 3) := dk_dX10_name_62.2.2.2.2.2.2.1
theorem dX10_name_77 : decode cX10_name 77 = .ok (.iaload, 1) := dk_dX10_name_62.2.2.2.2.2.2.2.1
theorem dX10_name_78 : decode cX10_name 78 = .ok (.invokestatic 295, 3) := dk_dX10_name_62.2.2.2.2.2.2.2.2.1
theorem dX10_name_81 : decode cX10_name 81 = .ok (.ifCond .eq 64, 3) := dk_dX10_name_62.2.2.2.2.2.2.2.2.2.1
theorem dX10_name_84 : decode cX10_name 84 = .ok (.aload_n 0, 1) := dk_dX10_name_62.2.2.2.2.2.2.2.2.2.2.1
theorem dX10_name_85 : decode cX10_name 85 = .ok (.getfield 285, 3) := dk_dX10_name_62.2.2.2.2.2.2.2.2.2.2.2.1
theorem dX10_name_88 : decode cX10_name 88 = .ok (.aload_n 0, 1) := dk_dX10_name_62.2.2.2.2.2.2.2.2.2.2.2.2.1
theorem dX10_name_89 : decode cX10_name 89 = .ok (.getfield 326, 3) := dk_dX10_name_62.2.2.2.2.2.2.2.2.2.2.2.2.2.1
theorem dX10_name_92 : decode cX10_name 92 = .ok (.isub, 1) := dk_dX10_name_62.2.2.2.2.2.2.2.2.2.2.2.2.2.2.1
theorem dX10_name_93 : decode cX10_name 93 = .ok (.bipush 6, 2) := dk_dX10_name_62.2.2.2.2.2.2.2.2.2.2.2.2.2.2.2
theorem dk_dX10_name_95 : decode cX10_name 95 = .ok (.if_icmp .ne 14, 3) ∧ decode cX10_name 98 = .ok (.aload_n 0, 1) ∧ decode cX10_name 99 = .ok (.iconst 1, 1) ∧ decode cX10_name 100 = .ok (.aload_n 0, 1) ∧ decode cX10_name 101 = .ok (.getfield 285, 3) ∧ decode cX10_name 104 = .ok (.invokevirtual 308, 3) ∧ decode cX10_name 107 = .ok (.lconst 0, 1) ∧ decode cX10_name 108 = .ok (.lreturn, 1) ∧ decode cX10_name 109 = .ok (.ldc2_w 329, 3) ∧ decode cX10_name 112 = .ok (.lload_n 1, 1) ∧ decode cX10_name 113 = .ok (.lmul, 1) ∧ decode cX10_name 114 = .ok (.aload_n 0, 1) ∧ decode cX10_name 115 = .ok (.getfield 7, 3) ∧ decode cX10_name 118 = .ok (.aload_n 0, 1) ∧ decode cX10_name 119 = .ok (.getfield 285, 3) ∧ decode cX10_name 122 = .ok (.iaload, 1) := by decide +kernel
theorem dX10_name_95 : decode cX10_name 95 = .ok (.if_icmp .ne 14, 3) := dk_dX10_name_95.1
theorem dX10_name_98 : decode cX10_name 98 = .ok (.aload_n 0, 1) := dk_dX10_name_95.2.1
theorem dX10_name_99 : decode cX10_name 99 = .ok (.iconst 1, 1) := dk_dX10_name_95.2.2.1
theorem dX10_name_100 : decode cX10_name 100 = .ok (.aload_n 0, 1) := dk_dX10_name_95.2.2.2.1
theorem dX10_name_101 : decode cX10_name 101 = .ok (.getfield 285, 3) := dk_dX10_name_95.2.2.2.2.1
theorem dX10_name_104 : decode cX10_name 104 = .ok (.invokevirtual 308, 3) := dk_dX10_name_95.2.2.2.2.2.1
theorem dX10_name_107 : decode cX10_name 107 = .ok (.lconst 0, 1) := dk_dX10_name_95.2.2.2.2.2.2.1
theorem dX10_name_108 : decode cX10_name 108 = .ok (.lreturn, 1) := dk_dX10_name_95.2.2.2.2.2.2.2.1
theorem dX10_name_109 : decode cX10_name 109 = .ok (.ldc2_w 329, 3) := dk_dX10_name_95.2.2.2.2.2.2.2.2.1
theorem dX10_name_112 : decode cX10_name 112 = .ok (.lload_n 1, 1) := dk_dX10_name_95.2.2.2.2.2.2.2.2.2.1
theorem dX10_name_113 : decode cX10_name 113 = .ok (.lmul, 1) := dk_dX10_name_95.2.2.2.2.2.2.2.2.2.2.1
theorem dX10_name_114 : decode cX10_name 114 = .ok (.aload_n 0, 1) := dk_dX10_name_95.2.2.2.2.2.2.2.2.2.2.2.1
theorem dX10_name_115 : decode cX10_name 115 = .ok (.getfield 7, 3) := dk_dX10_name_95.2.2.2.2.2.2.2.2.2.2.2.2.1
theorem dX10_name_118 : decode cX10_name 118 = .ok (.aload_n 0, 1) := dk_dX10_name_95.2.2.2.2.2.2.2.2.2.2.2.2.2.1
theorem dX10_name_119 : decode cX10_name 119 = .ok (.getfield 285, 3) := dk_dX10_name_95.2.2.2.2.2.2.2.2.2.2.2.2.2.2.1
theorem dX10_name_122 : decode cX10_name 122 = .ok (.iaload, 1) := dk_dX10_name_95.2.2.2.2.2.2.2.2.2.2.2.2.2.2.2
theorem dk_dX10_name_123 : decode cX10_name 123 = .ok (.i2l, 1) ∧ decode cX10_name 124 = .ok (.ladd, 1) ∧ decode cX10_name 125 = .ok (.ldc2_w 331, 3) ∧ decode cX10_name 128 = .ok (.lsub, 1) ∧ decode cX10_name 129 = .ok (.lconst 1, 1) ∧ decode cX10_name 130 = .ok (.ladd, 1) ∧ decode cX10_name 131 = .ok (.lstore_n 1, 1) ∧ decode cX10_name 132 = .ok (.aload_n 0, 1) ∧ decode cX10_name 133 = .ok (.dup, 1) ∧ decode cX10_name 134 = .ok (.getfield 285, 3) ∧ decode cX10_name 137 = .ok (.iconst 1, 1) ∧ decode cX10_name 138 = .ok (.iadd, 1) ∧ decode cX10_name 139 = .ok (.putfield 285, 3) ∧ decode cX10_name 142 = .ok (.goto (-84), 3) ∧ decode cX10_name 145 = .ok (.aload_n 0, 1) ∧ decode cX10_name 146 = .ok (.aload_n 0, 1) := by decide +kernel
theorem dX10_name_123 : decode cX10_name 123 = .ok (.i2l, 1) := dk_dX10_name_123.1
theorem dX10_name_124 : decode cX10_name 124 = .ok (.ladd, 1) := dk_dX10_name_123.2.1
theorem dX10_name_125 : decode cX10_name 125 = .ok (.ldc2_w 331, 3) := dk_dX10_name_123.2.2.1
theorem dX10_name_128 : decode cX10_name 128 = .ok (.lsub, 1) := dk_dX10_name_123.2.2.2.1
theorem dX10_name_129 : decode cX10_name 129 = .ok (.lconst 1, 1) := dk_dX10_name_123.2.2.2.2.1
theorem dX10_name_130 : decode cX10_name 130 = .ok (.ladd, 1) := dk_dX10_name_123.2.2.2.2.2.1
theorem dX10_name_131 : decode cX10_name 131 = .ok (.lstore_n 1, 1) := dk_dX10_name_123.2.2.2.2.2.2.1
theorem dX10_name_132 : decode cX10_name 132 = .ok (.aload_n 0, 1) := dk_dX10_name_123.2.2.2.2.2.2.2.1
theorem dX10_name_133 : decode cX10_name 133 = .ok (.dup, 1) := dk_dX10_name_123.2.2.2.2.2.2.2.2.1
theorem dX10_name_134 : decode cX10_name 134 = .ok (.getfield 285, 3) := dk_dX10_name_123.2.2.2.2.2.2.2.2.2.1
theorem dX10_name_137 : decode cX10_name 137 = .ok (.iconst 1, 1) := dk_dX10_name_123.2.2.2.2.2.2.2.2.2.2.1
theorem dX10_name_138 : decode cX10_name 138 = .ok (.iadd, 1) := dk_dX10_name_123.2.2.2.2.2.2.2.2.2.2.2.1
theorem dX10_name_139 : decode cX10_name 139 = .ok (.putfield 285, 3) := dk_dX10_name_123.2.2.2.2.2.2.2.2.2.2.2.2.1
theorem dX10_name_142 : decode cX10_name 142 = .ok (.goto (-84), 3) := dk_dX10_name_123.2.2.2.2.2.2.2.2.2.2.2.2.2.1
theorem dX10_name_145 : decode cX10_name 145 = .ok (.aload_n 0, 1) := dk_dX10_name_123.2.2.2.2.2.2.2.2.2.2.2.2.2.2.1
theorem dX10_name_146 : decode cX10_name 146 = .ok (.aload_n 0, 1) := dk_dX10_name_123.2.2.2.2.2.2.2.2.2.2.2.2.2.2.2
theorem dk_dX10_name_147 : decode cX10_name 147 = .ok (.getfield 285, 3) ∧ decode cX10_name 150 = .ok (.putfield 299, 3) ∧ decode cX10_name 153 = .ok (.lload_n 1, 1) ∧ decode cX10_name 154 = .ok (.lreturn, 1) := by decide +kernel
theorem dX10_name_147 : decode cX10_name 147 = .ok (.getfield 285, 3) := dk_dX10_name_147.1
theorem dX10_name_150 : decode cX10_name 150 = .ok (.putfield 299, 3) := dk_dX10_name_147.2.1
theorem dX10_name_153 : decode cX10_name 153 = .ok (.lload_n 1, 1) := dk_dX10_name_147.2.2.1
theorem dX10_name_154 : decode cX10_name 154 = .ok (.lreturn, 1) := dk_dX10_name_147.2.2.2
theorem dk_dX10_nameOf_0 : decode cX10_nameOf 0 = .ok (.iconst 0, 1) ∧ decode cX10_nameOf 1 = .ok (.istore 4, 2) ∧ decode cX10_nameOf 3 = .ok (.iload 4, 2) ∧ decode cX10_nameOf 5 = .ok (.aload_n 0, 1) ∧ decode cX10_nameOf 6 = .ok (.getfield 111, 3) ∧ decode cX10_nameOf 9 = .ok (.iload_n 1, 1) ∧ decode cX10_nameOf 10 = .ok (.iaload, 1) ∧ decode cX10_nameOf 11 = .ok (.if_icmp .ge 29, 3) ∧ decode cX10_nameOf 14 = .ok (.aload_n 0, 1) ∧ decode cX10_nameOf 15 = .ok (.getfield 114, 3) ∧ decode cX10_nameOf 18 = .ok (.bipush 12, 2) ∧ decode cX10_nameOf 20 = .ok (.iload_n 1, 1) ∧ decode cX10_nameOf 21 = .ok (.imul, 1) ∧ decode cX10_nameOf 22 = .ok (.iload 4, 2) ∧ decode cX10_nameOf 24 = .ok (.iadd, 1) ∧ decode cX10_nameOf 25 = .ok (.laload, 1) := by decide +kernel
theorem dX10_nameOf_0 : decode cX10_nameOf 0 = .ok (.iconst 0, 1) := dk_dX10_nameOf_0.1
theorem dX10_nameOf_1 : decode cX10_nameOf 1 = .ok (.istore 4, 2) := dk_dX10_nameOf_0.2.1
theorem dX10_nameOf_3 : decode cX10_nameOf 3 = .ok (.iload 4, 2) := dk_dX10_nameOf_0.2.2.1
theorem dX10_nameOf_5 : decode cX10_nameOf 5 = .ok (.aload_n 0, 1) := dk_dX10_nameOf_0.2.2.2.1
theorem dX10_nameOf_6 : decode cX10_nameOf 6 = .ok (.getfield 111, 3) := dk_dX10_nameOf_0.2.2.2.2.1
theorem dX10_nameOf_9 : decode cX10_nameOf 9 = .ok (.iload_n 1, 1) := dk_dX10_nameOf_0.2.2.2.2.2.1
theorem dX10_nameOf_10 : decode cX10_nameOf 10 = .ok (.iaload, 1) := dk_dX10_nameOf_0.2.2.2.2.2.2.1
theorem dX10_nameOf_11 : decode cX10_nameOf 11 = .ok (.if_icmp .ge 29, 3) := dk_dX10_nameOf_0.2.2.2.2.2.2.2.1
theorem dX10_nameOf_14 : decode cX10_nameOf 14 = .ok (.aload_n 0, 1) := dk_dX10_nameOf_0.2.2.2.2.2.2.2.2.1
theorem dX10_nameOf_15 : decode cX10_nameOf 15 = .ok (.getfield 114, 3) := dk_dX10_nameOf_0.2.2.2.2.2.2.2.2.2.1
theorem dX10_nameOf_18 : decode cX10_nameOf 18 = .ok (.bipush 12, 2) := dk_dX10_nameOf_0.2.2.2.2.2.2.2.2.2.2.1
theorem dX10_nameOf_20 : decode cX10_nameOf 20 = .ok (.iload_n 1, 1) := dk_dX10_nameOf_0.2.2.2.2.2.2.2.2.2.2.2.1
theorem dX10_nameOf_21 : decode cX10_nameOf 21 = .ok (.imul, 1) := dk_dX10_nameOf_0.2.2.2.2.2.2.2.2.2.2.2.2.1
theorem dX10_nameOf_22 : decode cX10_nameOf 22 = .ok (.iload 4, 2) := dk_dX10_nameOf_0.2.2.2.2.2.2.2.2.2.2.2.2.2.1
theorem dX10_nameOf_24 : decode cX10_nameOf 24 = .ok (.iadd, 1) := dk_dX10_nameOf_0.2.2.2.2.2.2.2.2.2.2.2.2.2.2.1
theorem dX10_nameOf_25 : decode cX10_nameOf 25 = .ok (.laload, 1) := dk_dX10_nameOf_0.2.2.2.2.2.2.2.2.2.2.2.2.2.2.2
theorem dk_dX10_nameOf_26 : decode cX10_nameOf 26 = .ok (.lload_n 2, 1) ∧ decode cX10_nameOf 27 = .ok (.lcmp, 1) ∧ decode cX10_nameOf 28 = .ok (.ifCond .ne 6, 3) ∧ decode cX10_nameOf 31 = .ok (.iload 4, 2) ∧ decode cX10_nameOf 33 = .ok (.ireturn, 1) ∧ decode cX10_nameOf 34 = .ok (.iinc 4 1, 3) ∧ decode cX10_nameOf 37 = .ok (.goto (-34), 3) ∧ decode cX10_nameOf 40 = .ok (.iconst (-1), 1) ∧ decode cX10_nameOf 41 = .ok (.ireturn, 1) := by decide +kernel
theorem dX10_nameOf_26 : decode cX10_nameOf 26 = .ok (.lload_n 2, 1) := dk_dX10_nameOf_26.1
theorem dX10_nameOf_27 : decode cX10_nameOf 27 = .ok (.lcmp, 1) := dk_dX10_nameOf_26.2.1
theorem dX10_nameOf_28 : decode cX10_nameOf 28 = .ok (.ifCond .ne 6, 3) := dk_dX10_nameOf_26.2.2.1
theorem dX10_nameOf_31 : decode cX10_nameOf 31 = .ok (.iload 4, 2) := dk_dX10_nameOf_26.2.2.2.1
theorem dX10_nameOf_33 : decode cX10_nameOf 33 = .ok (.ireturn, 1) := dk_dX10_nameOf_26.2.2.2.2.1
theorem dX10_nameOf_34 : decode cX10_nameOf 34 = .ok (.iinc 4 1, 3) := dk_dX10_nameOf_26.2.2.2.2.2.1
theorem dX10_nameOf_37 : decode cX10_nameOf 37 = .ok (.goto (-34), 3) := dk_dX10_nameOf_26.2.2.2.2.2.2.1
theorem dX10_nameOf_40 : decode cX10_nameOf 40 = .ok (.iconst (-1), 1) := dk_dX10_nameOf_26.2.2.2.2.2.2.2.1
theorem dX10_nameOf_41 : decode cX10_nameOf 41 = .ok (.ireturn, 1) := dk_dX10_nameOf_26.2.2.2.2.2.2.2.2
theorem dk_dX10_newName_0 : decode cX10_newName 0 = .ok (.aload_n 0, 1) ∧ decode cX10_newName 1 = .ok (.invokevirtual 342, 3) ∧ decode cX10_newName 4 = .ok (.lstore_n 1, 1) ∧ decode cX10_newName 5 = .ok (.iconst 0, 1) ∧ decode cX10_newName 6 = .ok (.istore_n 3, 1) ∧ decode cX10_newName 7 = .ok (.iload_n 3, 1) ∧ decode cX10_newName 8 = .ok (.iconst 2, 1) ∧ decode cX10_newName 9 = .ok (.if_icmp .ge 35, 3) ∧ decode cX10_newName 12 = .ok (.aload_n 0, 1) ∧ decode cX10_newName 13 = .ok (.getfield 279, 3) ∧ decode cX10_newName 16 = .ok (.ifCond .ne 22, 3) ∧ decode cX10_newName 19 = .ok (.aload_n 0, 1) ∧ decode cX10_newName 20 = .ok (.iload_n 3, 1) ∧ decode cX10_newName 21 = .ok (.lload_n 1, 1) ∧ decode cX10_newName 22 = .ok (.invokevirtual 346, 3) ∧ decode cX10_newName 25 = .ok (.iconst (-1), 1) := by decide +kernel
theorem dX10_newName_0 : decode cX10_newName 0 = .ok (.aload_n 0, 1) := dk_dX10_newName_0.1
theorem dX10_newName_1 : decode cX10_newName 1 = .ok (.invokevirtual 342, 3) := dk_dX10_newName_0.2.1
theorem dX10_newName_4 : decode cX10_newName 4 = .ok (.lstore_n 1, 1) := dk_dX10_newName_0.2.2.1
theorem dX10_newName_5 : decode cX10_newName 5 = .ok (.iconst 0, 1) := dk_dX10_newName_0.2.2.2.1
theorem dX10_newName_6 : decode cX10_newName 6 = .ok (.istore_n 3, 1) := dk_dX10_newName_0.2.2.2.2.1
theorem dX10_newName_7 : decode cX10_newName 7 = .ok (.iload_n 3, 1) := dk_dX10_newName_0.2.2.2.2.2.1
theorem dX10_newName_8 : decode cX10_newName 8 = .ok (.iconst 2, 1) := dk_dX10_newName_0.2.2.2.2.2.2.1
theorem dX10_newName_9 : decode cX10_newName 9 = .ok (.if_icmp .ge 35, 3) := dk_dX10_newName_0.2.2.2.2.2.2.2.1
theorem dX10_newName_12 : decode cX10_newName 12 = .ok (.aload_n 0, 1) := dk_dX10_newName_0.2.2.2.2.2.2.2.2.1
theorem dX10_newName_13 : decode cX10_newName 13 = .ok (.getfield 279, 3) := dk_dX10_newName_0.2.2.2.2.2.2.2.2.2.1
theorem dX10_newName_16 : decode cX10_newName 16 = .ok (.ifCond .ne 22, 3) := dk_dX10_newName_0.2.2.2.2.2.2.2.2.2.2.1
theorem dX10_newName_19 : decode cX10_newName 19 = .ok (.aload_n 0, 1) := dk_dX10_newName_0.2.2.2.2.2.2.2.2.2.2.2.1
theorem dX10_newName_20 : decode cX10_newName 20 = .ok (.iload_n 3, 1) := dk_dX10_newName_0.2.2.2.2.2.2.2.2.2.2.2.2.1
theorem dX10_newName_21 : decode cX10_newName 21 = .ok (.lload_n 1, 1) := dk_dX10_newName_0.2.2.2.2.2.2.2.2.2.2.2.2.2.1
theorem dX10_newName_22 : decode cX10_newName 22 = .ok (.invokevirtual 346, 3) := dk_dX10_newName_0.2.2.2.2.2.2.2.2.2.2.2.2.2.2.1
theorem dX10_newName_25 : decode cX10_newName 25 = .ok (.iconst (-1), 1) := dk_dX10_newName_0.2.2.2.2.2.2.2.2.2.2.2.2.2.2.2
theorem dk_dX10_newName_26 : decode cX10_newName 26 = .ok (.if_icmp .eq 12, 3) ∧ decode cX10_newName 29 = .ok (.aload_n 0, 1) ∧ decode cX10_newName 30 = .ok (.iconst 3, 1) ∧ decode cX10_newName 31 = .ok (.aload_n 0, 1) ∧ decode cX10_newName 32 = .ok (.getfield 326, 3) ∧ decode cX10_newName 35 = .ok (.invokevirtual 308, 3) ∧ decode cX10_newName 38 = .ok (.iinc 3 1, 3) ∧ decode cX10_newName 41 = .ok (.goto (-34), 3) ∧ decode cX10_newName 44 = .ok (.lload_n 1, 1) ∧ decode cX10_newName 45 = .ok (.lreturn, 1) := by decide +kernel
theorem dX10_newName_26 : decode cX10_newName 26 = .ok (.if_icmp .eq 12, 3) := dk_dX10_newName_26.1
theorem dX10_newName_29 : decode cX10_newName 29 = .ok (.aload_n 0, 1) := dk_dX10_newName_26.2.1
theorem dX10_newName_30 : decode cX10_newName 30 = .ok (.iconst 3, 1) := dk_dX10_newName_26.2.2.1
theorem dX10_newName_31 : decode cX10_newName 31 = .ok (.aload_n 0, 1) := dk_dX10_newName_26.2.2.2.1
theorem dX10_newName_32 : decode cX10_newName 32 = .ok (.getfield 326, 3) := dk_dX10_newName_26.2.2.2.2.1
theorem dX10_newName_35 : decode cX10_newName 35 = .ok (.invokevirtual 308, 3) := dk_dX10_newName_26.2.2.2.2.2.1
theorem dX10_newName_38 : decode cX10_newName 38 = .ok (.iinc 3 1, 3) := dk_dX10_newName_26.2.2.2.2.2.2.1
theorem dX10_newName_41 : decode cX10_newName 41 = .ok (.goto (-34), 3) := dk_dX10_newName_26.2.2.2.2.2.2.2.1
theorem dX10_newName_44 : decode cX10_newName 44 = .ok (.lload_n 1, 1) := dk_dX10_newName_26.2.2.2.2.2.2.2.2.1
theorem dX10_newName_45 : decode cX10_newName 45 = .ok (.lreturn, 1) := dk_dX10_newName_26.2.2.2.2.2.2.2.2.2
theorem dk_dX10_notCrossed_0 : decode cX10_notCrossed 0 = .ok (.iconst 0, 1) ∧ decode cX10_notCrossed 1 = .ok (.istore_n 1, 1) ∧ decode cX10_notCrossed 2 = .ok (.iconst 0, 1) ∧ decode cX10_notCrossed 3 = .ok (.istore_n 2, 1) ∧ decode cX10_notCrossed 4 = .ok (.iload_n 2, 1) ∧ decode cX10_notCrossed 5 = .ok (.aload_n 0, 1) ∧ decode cX10_notCrossed 6 = .ok (.invokevirtual 433, 3) ∧ decode cX10_notCrossed 9 = .ok (.if_icmp .ge 21, 3) ∧ decode cX10_notCrossed 12 = .ok (.aload_n 0, 1) ∧ decode cX10_notCrossed 13 = .ok (.getfield 155, 3) ∧ decode cX10_notCrossed 16 = .ok (.iload_n 2, 1) ∧ decode cX10_notCrossed 17 = .ok (.baload, 1) ∧ decode cX10_notCrossed 18 = .ok (.ifCond .eq 6, 3) ∧ decode cX10_notCrossed 21 = .ok (.iinc 1 1, 3) ∧ decode cX10_notCrossed 24 = .ok (.iinc 2 1, 3) ∧ decode cX10_notCrossed 27 = .ok (.goto (-23), 3) := by decide +kernel
theorem dX10_notCrossed_0 : decode cX10_notCrossed 0 = .ok (.iconst 0, 1) := dk_dX10_notCrossed_0.1
theorem dX10_notCrossed_1 : decode cX10_notCrossed 1 = .ok (.istore_n 1, 1) := dk_dX10_notCrossed_0.2.1
theorem dX10_notCrossed_2 : decode cX10_notCrossed 2 = .ok (.iconst 0, 1) := dk_dX10_notCrossed_0.2.2.1
theorem dX10_notCrossed_3 : decode cX10_notCrossed 3 = .ok (.istore_n 2, 1) := dk_dX10_notCrossed_0.2.2.2.1
theorem dX10_notCrossed_4 : decode cX10_notCrossed 4 = .ok (.iload_n 2, 1) := dk_dX10_notCrossed_0.2.2.2.2.1
theorem dX10_notCrossed_5 : decode cX10_notCrossed 5 = .ok (.aload_n 0, 1) := dk_dX10_notCrossed_0.2.2.2.2.2.1
theorem dX10_notCrossed_6 : decode cX10_notCrossed 6 = .ok (.invokevirtual 433, 3) := dk_dX10_notCrossed_0.2.2.2.2.2.2.1
theorem dX10_notCrossed_9 : decode cX10_notCrossed 9 = .ok (.if_icmp .ge 21, 3) := dk_dX10_notCrossed_0.2.2.2.2.2.2.2.1
theorem dX10_notCrossed_12 : decode cX10_notCrossed 12 = .ok (.aload_n 0, 1) := dk_dX10_notCrossed_0.2.2.2.2.2.2.2.2.1
theorem dX10_notCrossed_13 : decode cX10_notCrossed 13 = .ok (.getfield 155, 3) := dk_dX10_notCrossed_0.2.2.2.2.2.2.2.2.2.1
theorem dX10_notCrossed_16 : decode cX10_notCrossed 16 = .ok (.iload_n 2, 1) := dk_dX10_notCrossed_0.2.2.2.2.2.2.2.2.2.2.1
theorem dX10_notCrossed_17 : decode cX10_notCrossed 17 = .ok (.baload, 1) := dk_dX10_notCrossed_0.2.2.2.2.2.2.2.2.2.2.2.1
theorem dX10_notCrossed_18 : decode cX10_notCrossed 18 = .ok (.ifCond .eq 6, 3) := dk_dX10_notCrossed_0.2.2.2.2.2.2.2.2.2.2.2.2.1
theorem dX10_notCrossed_21 : decode cX10_notCrossed 21 = .ok (.iinc 1 1, 3) := dk_dX10_notCrossed_0.2.2.2.2.2.2.2.2.2.2.2.2.2.1
theorem dX10_notCrossed_24 : decode cX10_notCrossed 24 = .ok (.iinc 2 1, 3) := dk_dX10_notCrossed_0.2.2.2.2.2.2.2.2.2.2.2.2.2.2.1
theorem dX10_notCrossed_27 : decode cX10_notCrossed 27 = .ok (.goto (-23), 3) := dk_dX10_notCrossed_0.2.2.2.2.2.2.2.2.2.2.2.2.2.2.2
theorem dk_dX10_notCrossed_30 : decode cX10_notCrossed 30 = .ok (.iload_n 1, 1) ∧ decode cX10_notCrossed 31 = .ok (.ireturn, 1) := by decide +kernel
theorem dX10_notCrossed_30 : decode cX10_notCrossed 30 = .ok (.iload_n 1, 1) := dk_dX10_notCrossed_30.1
theorem dX10_notCrossed_31 : decode cX10_notCrossed 31 = .ok (.ireturn, 1) := dk_dX10_notCrossed_30.2
theorem dk_dX10_number_0 : decode cX10_number 0 = .ok (.aload_n 0, 1) ∧ decode cX10_number 1 = .ok (.getfield 279, 3) ∧ decode cX10_number 4 = .ok (.ifCond .eq 5, 3) ∧ decode cX10_number 7 = .ok (.iconst 0, 1) ∧ decode cX10_number 8 = .ok (.ireturn, 1) ∧ decode cX10_number 9 = .ok (.aload_n 0, 1) ∧ decode cX10_number 10 = .ok (.invokevirtual 291, 3) ∧ decode cX10_number 13 = .ok (.invokestatic 315, 3) ∧ decode cX10_number 16 = .ok (.ifCond .eq 14, 3) ∧ decode cX10_number 19 = .ok (.aload_n 0, 1) ∧ decode cX10_number 20 = .ok (.getfield 285, 3) ∧ decode cX10_number 23 = .ok (.aload_n 0, 1) ∧ decode cX10_number 24 = .ok (.getfield 299, 3) ∧ decode cX10_number 27 = .ok (.if_icmp .ne 14, 3) ∧ decode cX10_number 30 = .ok (.aload_n 0, 1) ∧ decode cX10_number 31 = .ok (.iconst 1, 1) := by decide +kernel
theorem dX10_number_0 : decode cX10_number 0 = .ok (.aload_n 0, 1) := dk_dX10_number_0.1
theorem dX10_number_1 : decode cX10_number 1 = .ok (.getfield 279, 3) := dk_dX10_number_0.2.1
theorem dX10_number_4 : decode cX10_number 4 = .ok (.ifCond .eq 5, 3) := dk_dX10_number_0.2.2.1
theorem dX10_number_7 : decode cX10_number 7 = .ok (.iconst 0, 1) := dk_dX10_number_0.2.2.2.1
theorem dX10_number_8 : decode cX10_number 8 = .ok (.ireturn, 1) := dk_dX10_number_0.2.2.2.2.1
theorem dX10_number_9 : decode cX10_number 9 = .ok (.aload_n 0, 1) := dk_dX10_number_0.2.2.2.2.2.1
theorem dX10_number_10 : decode cX10_number 10 = .ok (.invokevirtual 291, 3) := dk_dX10_number_0.2.2.2.2.2.2.1
theorem dX10_number_13 : decode cX10_number 13 = .ok (.invokestatic 315, 3) := dk_dX10_number_0.2.2.2.2.2.2.2.1
theorem dX10_number_16 : decode cX10_number 16 = .ok (.ifCond .eq 14, 3) := dk_dX10_number_0.2.2.2.2.2.2.2.2.1
theorem dX10_number_19 : decode cX10_number 19 = .ok (.aload_n 0, 1) := dk_dX10_number_0.2.2.2.2.2.2.2.2.2.1
theorem dX10_number_20 : decode cX10_number 20 = .ok (.getfield 285, 3) := dk_dX10_number_0.2.2.2.2.2.2.2.2.2.2.1
theorem dX10_number_23 : decode cX10_number 23 = .ok (.aload_n 0, 1) := dk_dX10_number_0.2.2.2.2.2.2.2.2.2.2.2.1
theorem dX10_number_24 : decode cX10_number 24 = .ok (.getfield 299, 3) := dk_dX10_number_0.2.2.2.2.2.2.2.2.2.2.2.2.1
theorem dX10_number_27 : decode cX10_number 27 = .ok (.if_icmp .ne 14, 3) := dk_dX10_number_0.2.2.2.2.2.2.2.2.2.2.2.2.2.1
theorem dX10_number_30 : decode cX10_number 30 = .ok (.aload_n 0, 1) := dk_dX10_number_0.2.2.2.2.2.2.2.2.2.2.2.2.2.2.1
theorem dX10_number_31 : decode cX10_number 31 = .ok (.iconst 1, 1) := dk_dX10_number_0.2.2.2.2.2.2.2.2.2.2.2.2.2.2.2
theorem dk_dX10_number_32 : decode cX10_number 32 = .ok (.aload_n 0, 1) ∧ decode cX10_number 33 = .ok (.getfield 285, 3) ∧ decode cX10_number 36 = .ok (.invokevirtual 308, 3) ∧ decode cX10_number 39 = .ok (.iconst 0, 1) ∧ decode cX10_number 40 = .ok (.ireturn, 1) ∧ decode cX10_number 41 = .ok (.aload_n 0, 1) ∧ decode cX10_number 42 = .ok (.getfield 285, 3) ∧ decode cX10_number 45 = .ok (.istore_n 3, 1) ∧ decode cX10_number 46 = .ok (.iconst 0, 1) ∧ decode cX10_number 47 = .ok (.istore 4, 2) ∧ decode cX10_number 49 = .ok (.aload_n 0, 1) ∧ decode cX10_number 50 = .ok (.getfield 285, 3) ∧ decode cX10_number 53 = .ok (.aload_n 0, 1) ∧ decode cX10_number 54 = .ok (.getfield 288, 3) ∧ decode cX10_number 57 = .ok (.if_icmp .ge 72, 3) ∧ decode cX10_number 60 = .ok (.aload_n 0, 1) := by decide +kernel
theorem dX10_number_32 : decode cX10_number 32 = .ok (.aload_n 0, 1) := dk_dX10_number_32.1
theorem dX10_number_33 : decode cX10_number 33 = .ok (.getfield 285, 3) := dk_dX10_number_32.2.1
theorem dX10_number_36 : decode cX10_number 36 = .ok (.invokevirtual 308, 3) := dk_dX10_number_32.2.2.1
theorem dX10_number_39 : decode cX10_number 39 = .ok (.iconst 0, 1) := dk_dX10_number_32.2.2.2.1
theorem dX10_number_40 : decode cX10_number 40 = .ok (.ireturn, 1) := dk_dX10_number_32.2.2.2.2.1
theorem dX10_number_41 : decode cX10_number 41 = .ok (.aload_n 0, 1) := dk_dX10_number_32.2.2.2.2.2.1
theorem dX10_number_42 : decode cX10_number 42 = .ok (.getfield 285, 3) := dk_dX10_number_32.2.2.2.2.2.2.1
theorem dX10_number_45 : decode cX10_number 45 = .ok (.istore_n 3, 1) := dk_dX10_number_32.2.2.2.2.2.2.2.1
theorem dX10_number_46 : decode cX10_number 46 = .ok (.iconst 0, 1) := dk_dX10_number_32.2.2.2.2.2.2.2.2.1
theorem dX10_number_47 : decode cX10_number 47 = .ok (.istore 4, 2) := dk_dX10_number_32.2.2.2.2.2.2.2.2.2.1
theorem dX10_number_49 : decode cX10_number 49 = .ok (.aload_n 0, 1) := dk_dX10_number_32.2.2.2.2.2.2.2.2.2.2.1
theorem dX10_number_50 : decode cX10_number 50 = .ok (.getfield 285, 3) := dk_dX10_number_32.2.2.2.2.2.2.2.2.2.2.2.1
theorem dX10_number_53 : decode cX10_number 53 = .ok (.aload_n 0, 1) := dk_dX10_number_32.2.2.2.2.2.2.2.2.2.2.2.2.1
theorem dX10_number_54 : decode cX10_number 54 = .ok (.getfield 288, 3) := dk_dX10_number_32.2.2.2.2.2.2.2.2.2.2.2.2.2.1
theorem dX10_number_57 : decode cX10_number 57 = .ok (.if_icmp .ge 72, 3) := dk_dX10_number_32.2.2.2.2.2.2.2.2.2.2.2.2.2.2.1
theorem dX10_number_60 : decode cX10_number 60 = .ok (.aload_n 0, 1) := dk_dX10_number_32.2.2.2.2.2.2.2.2.2.2.2.2.2.2.2
theorem dk_dX10_number_61 : decode cX10_number 61 = .ok (.getfield 7, 3) ∧ decode cX10_number 64 = .ok (.aload_n 0, 1) ∧ decode cX10_number 65 = .ok (.getfield 285, 3) ∧ decode cX10_number 68 = .ok (.iaload, 1) ∧ decode cX10_number 69 = .ok (.invokestatic 315, 3) ∧ decode cX10_number 72 = .ok (.ifCond .eq 57, 3) ∧ decode cX10_number 75 = .ok (.aload_n 0, 1) ∧ decode cX10_number 76 = .ok (.getfield 285, 3) ∧ decode cX10_number 79 = .ok (.iload_n 3, 1) ∧ decode cX10_number 80 = .ok (.isub, 1) ∧ decode cX10_number 81 = .ok (.iconst 4, 1) ∧ decode cX10_number 82 = .ok (.if_icmp .ne 14, 3) ∧ decode cX10_number 85 = .ok (.aload_n 0, 1) ∧ decode cX10_number 86 = .ok (.iconst 1, 1) ∧ decode cX10_number 87 = .ok (.aload_n 0, 1) ∧ decode cX10_number 88 = .ok (.getfield 285, 3) := by decide +kernel
theorem dX10_number_61 : decode cX10_number 61 = .ok (.getfield 7, 3) := dk_dX10_number_61.1
theorem dX10_number_64 : decode cX10_number 64 = .ok (.aload_n 0, 1) := dk_dX10_number_61.2.1
theorem dX10_number_65 : decode cX10_number 65 = .ok (.getfield 285, 3) := dk_dX10_number_61.2.2.1
theorem dX10_number_68 : decode cX10_number 68 = .ok (.iaload, 1) := dk_dX10_number_61.2.2.2.1
theorem dX10_number_69 : decode cX10_number 69 = .ok (.invokestatic 315, 3) := dk_dX10_number_61.2.2.2.2.1
theorem dX10_number_72 : decode cX10_number 72 = .ok (.ifCond .eq 57, 3) := dk_dX10_number_61.2.2.2.2.2.1
theorem dX10_number_75 : decode cX10_number 75 = .ok (.aload_n 0, 1) := dk_dX10_number_61.2.2.2.2.2.2.1
theorem dX10_number_76 : decode cX10_number 76 = .ok (.getfield 285, 3) := dk_dX10_number_61.2.2.2.2.2.2.2.1
theorem dX10_number_79 : decode cX10_number 79 = .ok (.iload_n 3, 1) := dk_dX10_number_61.2.2.2.2.2.2.2.2.1
theorem dX10_number_80 : decode cX10_number 80 = .ok (.isub, 1) := dk_dX10_number_61.2.2.2.2.2.2.2.2.2.1
theorem dX10_number_81 : decode cX10_number 81 = .ok (.iconst 4, 1) := dk_dX10_number_61.2.2.2.2.2.2.2.2.2.2.1
theorem dX10_number_82 : decode cX10_number 82 = .ok (.if_icmp .ne 14, 3) := dk_dX10_number_61.2.2.2.2.2.2.2.2.2.2.2.1
theorem dX10_number_85 : decode cX10_number 85 = .ok (.aload_n 0, 1) := dk_dX10_number_61.2.2.2.2.2.2.2.2.2.2.2.2.1
theorem dX10_number_86 : decode cX10_number 86 = .ok (.iconst 1, 1) := dk_dX10_number_61.2.2.2.2.2.2.2.2.2.2.2.2.2.1
theorem dX10_number_87 : decode cX10_number 87 = .ok (.aload_n 0, 1) := dk_dX10_number_61.2.2.2.2.2.2.2.2.2.2.2.2.2.2.1
theorem dX10_number_88 : decode cX10_number 88 = .ok (.getfield 285, 3) := dk_dX10_number_61.2.2.2.2.2.2.2.2.2.2.2.2.2.2.2
theorem dk_dX10_number_91 : decode cX10_number 91 = .ok (.invokevirtual 308, 3) ∧ decode cX10_number 94 = .ok (.iconst 0, 1) ∧ decode cX10_number 95 = .ok (.ireturn, 1) ∧ decode cX10_number 96 = .ok (.bipush 10, 2) ∧ decode cX10_number 98 = .ok (.iload 4, 2) ∧ decode cX10_number 100 = .ok (.imul, 1) ∧ decode cX10_number 101 = .ok (.aload_n 0, 1) ∧ decode cX10_number 102 = .ok (.getfield 7, 3) ∧ decode cX10_number 105 = .ok (.aload_n 0, 1) ∧ decode cX10_number 106 = .ok (.getfield 285, 3) ∧ decode cX10_number 109 = .ok (.iaload, 1) ∧ decode cX10_number 110 = .ok (.iadd, 1) ∧ decode cX10_number 111 = .ok (.bipush 48, 2) ∧ decode cX10_number 113 = .ok (.isub, 1) ∧ decode cX10_number 114 = .ok (.istore 4, 2) ∧ decode cX10_number 116 = .ok (.aload_n 0, 1) := by decide +kernel
theorem dX10_number_91 : decode cX10_number 91 = .ok (.invokevirtual 308, 3) := dk_dX10_number_91.1
theorem dX10_number_94 : decode cX10_number 94 = .ok (.iconst 0, 1) := dk_dX10_number_91.2.1
theorem dX10_number_95 : decode cX10_number 95 = .ok (.ireturn, 1) := dk_dX10_number_91.2.2.1
theorem dX10_number_96 : decode cX10_number 96 = .ok (.bipush 10, 2) := dk_dX10_number_91.2.2.2.1
theorem dX10_number_98 : decode cX10_number 98 = .ok (.iload 4, 2) := dk_dX10_number_91.2.2.2.2.1
theorem dX10_number_100 : decode cX10_number 100 = .ok (.imul, 1) := dk_dX10_number_91.2.2.2.2.2.1
theorem dX10_number_101 : decode cX10_number 101 = .ok (.aload_n 0, 1) := dk_dX10_number_91.2.2.2.2.2.2.1
theorem dX10_number_102 : decode cX10_number 102 = .ok (.getfield 7, 3) := dk_dX10_number_91.2.2.2.2.2.2.2.1
theorem dX10_number_105 : decode cX10_number 105 = .ok (.aload_n 0, 1) := dk_dX10_number_91.2.2.2.2.2.2.2.2.1
theorem dX10_number_106 : decode cX10_number 106 = .ok (.getfield 285, 3) := dk_dX10_number_91.2.2.2.2.2.2.2.2.2.1
theorem dX10_number_109 : decode cX10_number 109 = .ok (.iaload, 1) := dk_dX10_number_91.2.2.2.2.2.2.2.2.2.2.1
theorem dX10_number_110 : decode cX10_number 110 = .ok (.iadd, 1) := dk_dX10_number_91.2.2.2.2.2.2.2.2.2.2.2.1
theorem dX10_number_111 : decode cX10_number 111 = .ok (.bipush 48, 2) := dk_dX10_number_91.2.2.2.2.2.2.2.2.2.2.2.2.1
theorem dX10_number_113 : decode cX10_number 113 = .ok (.isub, 1) := dk_dX10_number_91.2.2.2.2.2.2.2.2.2.2.2.2.2.1
theorem dX10_number_114 : decode cX10_number 114 = .ok (.istore 4, 2) := dk_dX10_number_91.2.2.2.2.2.2.2.2.2.2.2.2.2.2.1
theorem dX10_number_116 : decode cX10_number 116 = .ok (.aload_n 0, 1) := dk_dX10_number_91.2.2.2.2.2.2.2.2.2.2.2.2.2.2.2
theorem dk_dX10_number_117 : decode cX10_number 117 = .ok (.dup, 1) ∧ decode cX10_number 118 = .ok (.getfield 285, 3) ∧ decode cX10_number 121 = .ok (.iconst 1, 1) ∧ decode cX10_number 122 = .ok (.iadd, 1) ∧ decode cX10_number 123 = .ok (.putfield 285, 3) ∧ decode cX10_number 126 = .ok (.goto (-77), 3) ∧ decode cX10_number 129 = .ok (.aload_n 0, 1) ∧ decode cX10_number 130 = .ok (.aload_n 0, 1) ∧ decode cX10_number 131 = .ok (.getfield 285, 3) ∧ decode cX10_number 134 = .ok (.putfield 299, 3) ∧ decode cX10_number 137 = .ok (.iload 4, 2) ∧ decode cX10_number 139 = .ok (.i2l, 1) ∧ decode cX10_number 140 = .ok (.iload_n 1, 1) ∧ decode cX10_number 141 = .ok (.i2l, 1) ∧ decode cX10_number 142 = .ok (.iload_n 2, 1) ∧ decode cX10_number 143 = .ok (.i2l, 1) := by decide +kernel
theorem dX10_number_117 : decode cX10_number 117 = .ok (.dup, 1) := dk_dX10_number_117.1
theorem dX10_number_118 : decode cX10_number 118 = .ok (.getfield 285, 3) := dk_dX10_number_117.2.1
theorem dX10_number_121 : decode cX10_number 121 = .ok (.iconst 1, 1) := dk_dX10_number_117.2.2.1
theorem dX10_number_122 : decode cX10_number 122 = .ok (.iadd, 1) := dk_dX10_number_117.2.2.2.1
theorem dX10_number_123 : decode cX10_number 123 = .ok (.putfield 285, 3) := dk_dX10_number_117.2.2.2.2.1
theorem dX10_number_126 : decode cX10_number 126 = .ok (.goto (-77), 3) := dk_dX10_number_117.2.2.2.2.2.1
theorem dX10_number_129 : decode cX10_number 129 = .ok (.aload_n 0, 1) := dk_dX10_number_117.2.2.2.2.2.2.1
theorem dX10_number_130 : decode cX10_number 130 = .ok (.aload_n 0, 1) := dk_dX10_number_117.2.2.2.2.2.2.2.1
theorem dX10_number_131 : decode cX10_number 131 = .ok (.getfield 285, 3) := dk_dX10_number_117.2.2.2.2.2.2.2.2.1
theorem dX10_number_134 : decode cX10_number 134 = .ok (.putfield 299, 3) := dk_dX10_number_117.2.2.2.2.2.2.2.2.2.1
theorem dX10_number_137 : decode cX10_number 137 = .ok (.iload 4, 2) := dk_dX10_number_117.2.2.2.2.2.2.2.2.2.2.1
theorem dX10_number_139 : decode cX10_number 139 = .ok (.i2l, 1) := dk_dX10_number_117.2.2.2.2.2.2.2.2.2.2.2.1
theorem dX10_number_140 : decode cX10_number 140 = .ok (.iload_n 1, 1) := dk_dX10_number_117.2.2.2.2.2.2.2.2.2.2.2.2.1
theorem dX10_number_141 : decode cX10_number 141 = .ok (.i2l, 1) := dk_dX10_number_117.2.2.2.2.2.2.2.2.2.2.2.2.2.1
theorem dX10_number_142 : decode cX10_number 142 = .ok (.iload_n 2, 1) := dk_dX10_number_117.2.2.2.2.2.2.2.2.2.2.2.2.2.2.1
theorem dX10_number_143 : decode cX10_number 143 = .ok (.i2l, 1) := dk_dX10_number_117.2.2.2.2.2.2.2.2.2.2.2.2.2.2.2
theorem dk_dX10_number_144 : decode cX10_number 144 = .ok (.invokestatic 318, 3) ∧ decode cX10_number 147 = .ok (.ifCond .ne 9, 3) ∧ decode cX10_number 150 = .ok (.aload_n 0, 1) ∧ decode cX10_number 151 = .ok (.iconst 2, 1) ∧ decode cX10_number 152 = .ok (.iload_n 3, 1) ∧ decode cX10_number 153 = .ok (.invokevirtual 308, 3) ∧ decode cX10_number 156 = .ok (.iload 4, 2) ∧ decode cX10_number 158 = .ok (.ireturn, 1) := by decide +kernel
theorem dX10_number_144 : decode cX10_number 144 = .ok (.invokestatic 318, 3) := dk_dX10_number_144.1
theorem dX10_number_147 : decode cX10_number 147 = .ok (.ifCond .ne 9, 3) := dk_dX10_number_144.2.1
theorem dX10_number_150 : decode cX10_number 150 = .ok (.aload_n 0, 1) := dk_dX10_number_144.2.2.1
theorem dX10_number_151 : decode cX10_number 151 = .ok (.iconst 2, 1) := dk_dX10_number_144.2.2.2.1
theorem dX10_number_152 : decode cX10_number 152 = .ok (.iload_n 3, 1) := dk_dX10_number_144.2.2.2.2.1
theorem dX10_number_153 : decode cX10_number 153 = .ok (.invokevirtual 308, 3) := dk_dX10_number_144.2.2.2.2.2.1
theorem dX10_number_156 : decode cX10_number 156 = .ok (.iload 4, 2) := dk_dX10_number_144.2.2.2.2.2.2.1
theorem dX10_number_158 : decode cX10_number 158 = .ok (.ireturn, 1) := dk_dX10_number_144.2.2.2.2.2.2.2
theorem dk_dX10_octet_0 : decode cX10_octet 0 = .ok (.iload_n 1, 1) ∧ decode cX10_octet 1 = .ok (.ifCond .lt 20, 3) ∧ decode cX10_octet 4 = .ok (.iload_n 1, 1) ∧ decode cX10_octet 5 = .ok (.aload_n 0, 1) ∧ decode cX10_octet 6 = .ok (.getfield 699, 3) ∧ decode cX10_octet 9 = .ok (.if_icmp .ge 12, 3) ∧ decode cX10_octet 12 = .ok (.aload_n 0, 1) ∧ decode cX10_octet 13 = .ok (.getfield 273, 3) ∧ decode cX10_octet 16 = .ok (.iload_n 1, 1) ∧ decode cX10_octet 17 = .ok (.iaload, 1) ∧ decode cX10_octet 18 = .ok (.goto 4, 3) ∧ decode cX10_octet 21 = .ok (.iconst (-1), 1) ∧ decode cX10_octet 22 = .ok (.ireturn, 1) := by decide +kernel
theorem dX10_octet_0 : decode cX10_octet 0 = .ok (.iload_n 1, 1) := dk_dX10_octet_0.1
theorem dX10_octet_1 : decode cX10_octet 1 = .ok (.ifCond .lt 20, 3) := dk_dX10_octet_0.2.1
theorem dX10_octet_4 : decode cX10_octet 4 = .ok (.iload_n 1, 1) := dk_dX10_octet_0.2.2.1
theorem dX10_octet_5 : decode cX10_octet 5 = .ok (.aload_n 0, 1) := dk_dX10_octet_0.2.2.2.1
theorem dX10_octet_6 : decode cX10_octet 6 = .ok (.getfield 699, 3) := dk_dX10_octet_0.2.2.2.2.1
theorem dX10_octet_9 : decode cX10_octet 9 = .ok (.if_icmp .ge 12, 3) := dk_dX10_octet_0.2.2.2.2.2.1
theorem dX10_octet_12 : decode cX10_octet 12 = .ok (.aload_n 0, 1) := dk_dX10_octet_0.2.2.2.2.2.2.1
theorem dX10_octet_13 : decode cX10_octet 13 = .ok (.getfield 273, 3) := dk_dX10_octet_0.2.2.2.2.2.2.2.1
theorem dX10_octet_16 : decode cX10_octet 16 = .ok (.iload_n 1, 1) := dk_dX10_octet_0.2.2.2.2.2.2.2.2.1
theorem dX10_octet_17 : decode cX10_octet 17 = .ok (.iaload, 1) := dk_dX10_octet_0.2.2.2.2.2.2.2.2.2.1
theorem dX10_octet_18 : decode cX10_octet 18 = .ok (.goto 4, 3) := dk_dX10_octet_0.2.2.2.2.2.2.2.2.2.2.1
theorem dX10_octet_21 : decode cX10_octet 21 = .ok (.iconst (-1), 1) := dk_dX10_octet_0.2.2.2.2.2.2.2.2.2.2.2.1
theorem dX10_octet_22 : decode cX10_octet 22 = .ok (.ireturn, 1) := dk_dX10_octet_0.2.2.2.2.2.2.2.2.2.2.2.2
theorem dk_dX10_on_0 : decode cX10_on 0 = .ok (.aload_n 0, 1) ∧ decode cX10_on 1 = .ok (.getfield 276, 3) ∧ decode cX10_on 4 = .ok (.istore_n 1, 1) ∧ decode cX10_on 5 = .ok (.aload_n 0, 1) ∧ decode cX10_on 6 = .ok (.iconst 0, 1) ∧ decode cX10_on 7 = .ok (.putfield 276, 3) ∧ decode cX10_on 10 = .ok (.aload_n 0, 1) ∧ decode cX10_on 11 = .ok (.iload_n 1, 1) ∧ decode cX10_on 12 = .ok (.invokevirtual 709, 3) ∧ decode cX10_on 15 = .ok (.ifCond .ne 15, 3) ∧ decode cX10_on 18 = .ok (.aload_n 0, 1) ∧ decode cX10_on 19 = .ok (.getfield 17, 3) ∧ decode cX10_on 22 = .ok (.iconst 5, 1) ∧ decode cX10_on 23 = .ok (.dup2, 1) ∧ decode cX10_on 24 = .ok (.iaload, 1) ∧ decode cX10_on 25 = .ok (.iconst 1, 1) := by decide +kernel
theorem dX10_on_0 : decode cX10_on 0 = .ok (.aload_n 0, 1) := dk_dX10_on_0.1
theorem dX10_on_1 : decode cX10_on 1 = .ok (.getfield 276, 3) := dk_dX10_on_0.2.1
theorem dX10_on_4 : decode cX10_on 4 = .ok (.istore_n 1, 1) := dk_dX10_on_0.2.2.1
theorem dX10_on_5 : decode cX10_on 5 = .ok (.aload_n 0, 1) := dk_dX10_on_0.2.2.2.1
theorem dX10_on_6 : decode cX10_on 6 = .ok (.iconst 0, 1) := dk_dX10_on_0.2.2.2.2.1
theorem dX10_on_7 : decode cX10_on 7 = .ok (.putfield 276, 3) := dk_dX10_on_0.2.2.2.2.2.1
theorem dX10_on_10 : decode cX10_on 10 = .ok (.aload_n 0, 1) := dk_dX10_on_0.2.2.2.2.2.2.1
theorem dX10_on_11 : decode cX10_on 11 = .ok (.iload_n 1, 1) := dk_dX10_on_0.2.2.2.2.2.2.2.1
theorem dX10_on_12 : decode cX10_on 12 = .ok (.invokevirtual 709, 3) := dk_dX10_on_0.2.2.2.2.2.2.2.2.1
theorem dX10_on_15 : decode cX10_on 15 = .ok (.ifCond .ne 15, 3) := dk_dX10_on_0.2.2.2.2.2.2.2.2.2.1
theorem dX10_on_18 : decode cX10_on 18 = .ok (.aload_n 0, 1) := dk_dX10_on_0.2.2.2.2.2.2.2.2.2.2.1
theorem dX10_on_19 : decode cX10_on 19 = .ok (.getfield 17, 3) := dk_dX10_on_0.2.2.2.2.2.2.2.2.2.2.2.1
theorem dX10_on_22 : decode cX10_on 22 = .ok (.iconst 5, 1) := dk_dX10_on_0.2.2.2.2.2.2.2.2.2.2.2.2.1
theorem dX10_on_23 : decode cX10_on 23 = .ok (.dup2, 1) := dk_dX10_on_0.2.2.2.2.2.2.2.2.2.2.2.2.2.1
theorem dX10_on_24 : decode cX10_on 24 = .ok (.iaload, 1) := dk_dX10_on_0.2.2.2.2.2.2.2.2.2.2.2.2.2.2.1
theorem dX10_on_25 : decode cX10_on 25 = .ok (.iconst 1, 1) := dk_dX10_on_0.2.2.2.2.2.2.2.2.2.2.2.2.2.2.2
theorem dk_dX10_on_26 : decode cX10_on 26 = .ok (.iadd, 1) ∧ decode cX10_on 27 = .ok (.iastore, 1) ∧ decode cX10_on 28 = .ok (.iconst 0, 1) ∧ decode cX10_on 29 = .ok (.ireturn, 1) ∧ decode cX10_on 30 = .ok (.aload_n 0, 1) ∧ decode cX10_on 31 = .ok (.getfield 139, 3) ∧ decode cX10_on 34 = .ok (.iconst 0, 1) ∧ decode cX10_on 35 = .ok (.sipush 256, 3) ∧ decode cX10_on 38 = .ok (.aload_n 0, 1) ∧ decode cX10_on 39 = .ok (.getfield 7, 3) ∧ decode cX10_on 42 = .ok (.iconst 0, 1) ∧ decode cX10_on 43 = .ok (.iaload, 1) ∧ decode cX10_on 44 = .ok (.imul, 1) ∧ decode cX10_on 45 = .ok (.aload_n 0, 1) ∧ decode cX10_on 46 = .ok (.getfield 7, 3) ∧ decode cX10_on 49 = .ok (.iconst 1, 1) := by decide +kernel
theorem dX10_on_26 : decode cX10_on 26 = .ok (.iadd, 1) := dk_dX10_on_26.1
theorem dX10_on_27 : decode cX10_on 27 = .ok (.iastore, 1) := dk_dX10_on_26.2.1
theorem dX10_on_28 : decode cX10_on 28 = .ok (.iconst 0, 1) := dk_dX10_on_26.2.2.1
theorem dX10_on_29 : decode cX10_on 29 = .ok (.ireturn, 1) := dk_dX10_on_26.2.2.2.1
theorem dX10_on_30 : decode cX10_on 30 = .ok (.aload_n 0, 1) := dk_dX10_on_26.2.2.2.2.1
theorem dX10_on_31 : decode cX10_on 31 = .ok (.getfield 139, 3) := dk_dX10_on_26.2.2.2.2.2.1
theorem dX10_on_34 : decode cX10_on 34 = .ok (.iconst 0, 1) := dk_dX10_on_26.2.2.2.2.2.2.1
theorem dX10_on_35 : decode cX10_on 35 = .ok (.sipush 256, 3) := dk_dX10_on_26.2.2.2.2.2.2.2.1
theorem dX10_on_38 : decode cX10_on 38 = .ok (.aload_n 0, 1) := dk_dX10_on_26.2.2.2.2.2.2.2.2.1
theorem dX10_on_39 : decode cX10_on 39 = .ok (.getfield 7, 3) := dk_dX10_on_26.2.2.2.2.2.2.2.2.2.1
theorem dX10_on_42 : decode cX10_on 42 = .ok (.iconst 0, 1) := dk_dX10_on_26.2.2.2.2.2.2.2.2.2.2.1
theorem dX10_on_43 : decode cX10_on 43 = .ok (.iaload, 1) := dk_dX10_on_26.2.2.2.2.2.2.2.2.2.2.2.1
theorem dX10_on_44 : decode cX10_on 44 = .ok (.imul, 1) := dk_dX10_on_26.2.2.2.2.2.2.2.2.2.2.2.2.1
theorem dX10_on_45 : decode cX10_on 45 = .ok (.aload_n 0, 1) := dk_dX10_on_26.2.2.2.2.2.2.2.2.2.2.2.2.2.1
theorem dX10_on_46 : decode cX10_on 46 = .ok (.getfield 7, 3) := dk_dX10_on_26.2.2.2.2.2.2.2.2.2.2.2.2.2.2.1
theorem dX10_on_49 : decode cX10_on 49 = .ok (.iconst 1, 1) := dk_dX10_on_26.2.2.2.2.2.2.2.2.2.2.2.2.2.2.2
theorem dk_dX10_on_50 : decode cX10_on 50 = .ok (.iaload, 1) ∧ decode cX10_on 51 = .ok (.iadd, 1) ∧ decode cX10_on 52 = .ok (.iastore, 1) ∧ decode cX10_on 53 = .ok (.aload_n 0, 1) ∧ decode cX10_on 54 = .ok (.getfield 139, 3) ∧ decode cX10_on 57 = .ok (.iconst 1, 1) ∧ decode cX10_on 58 = .ok (.aload_n 0, 1) ∧ decode cX10_on 59 = .ok (.getfield 7, 3) ∧ decode cX10_on 62 = .ok (.iconst 2, 1) ∧ decode cX10_on 63 = .ok (.iaload, 1) ∧ decode cX10_on 64 = .ok (.iastore, 1) ∧ decode cX10_on 65 = .ok (.aload_n 0, 1) ∧ decode cX10_on 66 = .ok (.getfield 139, 3) ∧ decode cX10_on 69 = .ok (.iconst 2, 1) ∧ decode cX10_on 70 = .ok (.aload_n 0, 1) ∧ decode cX10_on 71 = .ok (.getfield 7, 3) := by decide +kernel
theorem dX10_on_50 : decode cX10_on 50 = .ok (.iaload, 1) := dk_dX10_on_50.1
theorem dX10_on_51 : decode cX10_on 51 = .ok (.iadd, 1) := dk_dX10_on_50.2.1
theorem dX10_on_52 : decode cX10_on 52 = .ok (.iastore, 1) := dk_dX10_on_50.2.2.1
theorem dX10_on_53 : decode cX10_on 53 = .ok (.aload_n 0, 1) := dk_dX10_on_50.2.2.2.1
theorem dX10_on_54 : decode cX10_on 54 = .ok (.getfield 139, 3) := dk_dX10_on_50.2.2.2.2.1
theorem dX10_on_57 : decode cX10_on 57 = .ok (.iconst 1, 1) := dk_dX10_on_50.2.2.2.2.2.1
theorem dX10_on_58 : decode cX10_on 58 = .ok (.aload_n 0, 1) := dk_dX10_on_50.2.2.2.2.2.2.1
theorem dX10_on_59 : decode cX10_on 59 = .ok (.getfield 7, 3) := dk_dX10_on_50.2.2.2.2.2.2.2.1
theorem dX10_on_62 : decode cX10_on 62 = .ok (.iconst 2, 1) := dk_dX10_on_50.2.2.2.2.2.2.2.2.1
theorem dX10_on_63 : decode cX10_on 63 = .ok (.iaload, 1) := dk_dX10_on_50.2.2.2.2.2.2.2.2.2.1
theorem dX10_on_64 : decode cX10_on 64 = .ok (.iastore, 1) := dk_dX10_on_50.2.2.2.2.2.2.2.2.2.2.1
theorem dX10_on_65 : decode cX10_on 65 = .ok (.aload_n 0, 1) := dk_dX10_on_50.2.2.2.2.2.2.2.2.2.2.2.1
theorem dX10_on_66 : decode cX10_on 66 = .ok (.getfield 139, 3) := dk_dX10_on_50.2.2.2.2.2.2.2.2.2.2.2.2.1
theorem dX10_on_69 : decode cX10_on 69 = .ok (.iconst 2, 1) := dk_dX10_on_50.2.2.2.2.2.2.2.2.2.2.2.2.2.1
theorem dX10_on_70 : decode cX10_on 70 = .ok (.aload_n 0, 1) := dk_dX10_on_50.2.2.2.2.2.2.2.2.2.2.2.2.2.2.1
theorem dX10_on_71 : decode cX10_on 71 = .ok (.getfield 7, 3) := dk_dX10_on_50.2.2.2.2.2.2.2.2.2.2.2.2.2.2.2
theorem dk_dX10_on_74 : decode cX10_on 74 = .ok (.iconst 3, 1) ∧ decode cX10_on 75 = .ok (.iaload, 1) ∧ decode cX10_on 76 = .ok (.iastore, 1) ∧ decode cX10_on 77 = .ok (.iconst 0, 1) ∧ decode cX10_on 78 = .ok (.istore_n 2, 1) ∧ decode cX10_on 79 = .ok (.iload_n 2, 1) ∧ decode cX10_on 80 = .ok (.aload_n 0, 1) ∧ decode cX10_on 81 = .ok (.invokevirtual 430, 3) ∧ decode cX10_on 84 = .ok (.if_icmp .ge 25, 3) ∧ decode cX10_on 87 = .ok (.aload_n 0, 1) ∧ decode cX10_on 88 = .ok (.getfield 139, 3) ∧ decode cX10_on 91 = .ok (.iconst 3, 1) ∧ decode cX10_on 92 = .ok (.iload_n 2, 1) ∧ decode cX10_on 93 = .ok (.iadd, 1) ∧ decode cX10_on 94 = .ok (.aload_n 0, 1) ∧ decode cX10_on 95 = .ok (.getfield 7, 3) := by decide +kernel
theorem dX10_on_74 : decode cX10_on 74 = .ok (.iconst 3, 1) := dk_dX10_on_74.1
theorem dX10_on_75 : decode cX10_on 75 = .ok (.iaload, 1) := dk_dX10_on_74.2.1
theorem dX10_on_76 : decode cX10_on 76 = .ok (.iastore, 1) := dk_dX10_on_74.2.2.1
theorem dX10_on_77 : decode cX10_on 77 = .ok (.iconst 0, 1) := dk_dX10_on_74.2.2.2.1
theorem dX10_on_78 : decode cX10_on 78 = .ok (.istore_n 2, 1) := dk_dX10_on_74.2.2.2.2.1
theorem dX10_on_79 : decode cX10_on 79 = .ok (.iload_n 2, 1) := dk_dX10_on_74.2.2.2.2.2.1
theorem dX10_on_80 : decode cX10_on 80 = .ok (.aload_n 0, 1) := dk_dX10_on_74.2.2.2.2.2.2.1
theorem dX10_on_81 : decode cX10_on 81 = .ok (.invokevirtual 430, 3) := dk_dX10_on_74.2.2.2.2.2.2.2.1
theorem dX10_on_84 : decode cX10_on 84 = .ok (.if_icmp .ge 25, 3) := dk_dX10_on_74.2.2.2.2.2.2.2.2.1
theorem dX10_on_87 : decode cX10_on 87 = .ok (.aload_n 0, 1) := dk_dX10_on_74.2.2.2.2.2.2.2.2.2.1
theorem dX10_on_88 : decode cX10_on 88 = .ok (.getfield 139, 3) := dk_dX10_on_74.2.2.2.2.2.2.2.2.2.2.1
theorem dX10_on_91 : decode cX10_on 91 = .ok (.iconst 3, 1) := dk_dX10_on_74.2.2.2.2.2.2.2.2.2.2.2.1
theorem dX10_on_92 : decode cX10_on 92 = .ok (.iload_n 2, 1) := dk_dX10_on_74.2.2.2.2.2.2.2.2.2.2.2.2.1
theorem dX10_on_93 : decode cX10_on 93 = .ok (.iadd, 1) := dk_dX10_on_74.2.2.2.2.2.2.2.2.2.2.2.2.2.1
theorem dX10_on_94 : decode cX10_on 94 = .ok (.aload_n 0, 1) := dk_dX10_on_74.2.2.2.2.2.2.2.2.2.2.2.2.2.2.1
theorem dX10_on_95 : decode cX10_on 95 = .ok (.getfield 7, 3) := dk_dX10_on_74.2.2.2.2.2.2.2.2.2.2.2.2.2.2.2
theorem dk_dX10_on_98 : decode cX10_on 98 = .ok (.iconst 4, 1) ∧ decode cX10_on 99 = .ok (.iload_n 2, 1) ∧ decode cX10_on 100 = .ok (.iadd, 1) ∧ decode cX10_on 101 = .ok (.iaload, 1) ∧ decode cX10_on 102 = .ok (.iastore, 1) ∧ decode cX10_on 103 = .ok (.iinc 2 1, 3) ∧ decode cX10_on 106 = .ok (.goto (-27), 3) ∧ decode cX10_on 109 = .ok (.aload_n 0, 1) ∧ decode cX10_on 110 = .ok (.iconst 0, 1) ∧ decode cX10_on 111 = .ok (.putfield 424, 3) ∧ decode cX10_on 114 = .ok (.iconst 1, 1) ∧ decode cX10_on 115 = .ok (.ireturn, 1) := by decide +kernel
theorem dX10_on_98 : decode cX10_on 98 = .ok (.iconst 4, 1) := dk_dX10_on_98.1
theorem dX10_on_99 : decode cX10_on 99 = .ok (.iload_n 2, 1) := dk_dX10_on_98.2.1
theorem dX10_on_100 : decode cX10_on 100 = .ok (.iadd, 1) := dk_dX10_on_98.2.2.1
theorem dX10_on_101 : decode cX10_on 101 = .ok (.iaload, 1) := dk_dX10_on_98.2.2.2.1
theorem dX10_on_102 : decode cX10_on 102 = .ok (.iastore, 1) := dk_dX10_on_98.2.2.2.2.1
theorem dX10_on_103 : decode cX10_on 103 = .ok (.iinc 2 1, 3) := dk_dX10_on_98.2.2.2.2.2.1
theorem dX10_on_106 : decode cX10_on 106 = .ok (.goto (-27), 3) := dk_dX10_on_98.2.2.2.2.2.2.1
theorem dX10_on_109 : decode cX10_on 109 = .ok (.aload_n 0, 1) := dk_dX10_on_98.2.2.2.2.2.2.2.1
theorem dX10_on_110 : decode cX10_on 110 = .ok (.iconst 0, 1) := dk_dX10_on_98.2.2.2.2.2.2.2.2.1
theorem dX10_on_111 : decode cX10_on 111 = .ok (.putfield 424, 3) := dk_dX10_on_98.2.2.2.2.2.2.2.2.2.1
theorem dX10_on_114 : decode cX10_on 114 = .ok (.iconst 1, 1) := dk_dX10_on_98.2.2.2.2.2.2.2.2.2.2.1
theorem dX10_on_115 : decode cX10_on 115 = .ok (.ireturn, 1) := dk_dX10_on_98.2.2.2.2.2.2.2.2.2.2.2
theorem dk_dX10_paceOf_0 : decode cX10_paceOf 0 = .ok (.aload_n 0, 1) ∧ decode cX10_paceOf 1 = .ok (.getfield 121, 3) ∧ decode cX10_paceOf 4 = .ok (.bipush 13, 2) ∧ decode cX10_paceOf 6 = .ok (.iconst 2, 1) ∧ decode cX10_paceOf 7 = .ok (.aload_n 0, 1) ∧ decode cX10_paceOf 8 = .ok (.iload_n 1, 1) ∧ decode cX10_paceOf 9 = .ok (.invokevirtual 436, 3) ∧ decode cX10_paceOf 12 = .ok (.imul, 1) ∧ decode cX10_paceOf 13 = .ok (.iadd, 1) ∧ decode cX10_paceOf 14 = .ok (.iaload, 1) ∧ decode cX10_paceOf 15 = .ok (.ireturn, 1) := by decide +kernel
theorem dX10_paceOf_0 : decode cX10_paceOf 0 = .ok (.aload_n 0, 1) := dk_dX10_paceOf_0.1
theorem dX10_paceOf_1 : decode cX10_paceOf 1 = .ok (.getfield 121, 3) := dk_dX10_paceOf_0.2.1
theorem dX10_paceOf_4 : decode cX10_paceOf 4 = .ok (.bipush 13, 2) := dk_dX10_paceOf_0.2.2.1
theorem dX10_paceOf_6 : decode cX10_paceOf 6 = .ok (.iconst 2, 1) := dk_dX10_paceOf_0.2.2.2.1
theorem dX10_paceOf_7 : decode cX10_paceOf 7 = .ok (.aload_n 0, 1) := dk_dX10_paceOf_0.2.2.2.2.1
theorem dX10_paceOf_8 : decode cX10_paceOf 8 = .ok (.iload_n 1, 1) := dk_dX10_paceOf_0.2.2.2.2.2.1
theorem dX10_paceOf_9 : decode cX10_paceOf 9 = .ok (.invokevirtual 436, 3) := dk_dX10_paceOf_0.2.2.2.2.2.2.1
theorem dX10_paceOf_12 : decode cX10_paceOf 12 = .ok (.imul, 1) := dk_dX10_paceOf_0.2.2.2.2.2.2.2.1
theorem dX10_paceOf_13 : decode cX10_paceOf 13 = .ok (.iadd, 1) := dk_dX10_paceOf_0.2.2.2.2.2.2.2.2.1
theorem dX10_paceOf_14 : decode cX10_paceOf 14 = .ok (.iaload, 1) := dk_dX10_paceOf_0.2.2.2.2.2.2.2.2.2.1
theorem dX10_paceOf_15 : decode cX10_paceOf 15 = .ok (.ireturn, 1) := dk_dX10_paceOf_0.2.2.2.2.2.2.2.2.2.2
theorem dk_dX10_putsAside_0 : decode cX10_putsAside 0 = .ok (.iconst 0, 1) ∧ decode cX10_putsAside 1 = .ok (.istore_n 1, 1) ∧ decode cX10_putsAside 2 = .ok (.iload_n 1, 1) ∧ decode cX10_putsAside 3 = .ok (.bipush 9, 2) ∧ decode cX10_putsAside 5 = .ok (.if_icmp .ge 21, 3) ∧ decode cX10_putsAside 8 = .ok (.aload_n 0, 1) ∧ decode cX10_putsAside 9 = .ok (.getfield 142, 3) ∧ decode cX10_putsAside 12 = .ok (.iload_n 1, 1) ∧ decode cX10_putsAside 13 = .ok (.aload_n 0, 1) ∧ decode cX10_putsAside 14 = .ok (.getfield 139, 3) ∧ decode cX10_putsAside 17 = .ok (.iload_n 1, 1) ∧ decode cX10_putsAside 18 = .ok (.iaload, 1) ∧ decode cX10_putsAside 19 = .ok (.iastore, 1) ∧ decode cX10_putsAside 20 = .ok (.iinc 1 1, 3) ∧ decode cX10_putsAside 23 = .ok (.goto (-21), 3) ∧ decode cX10_putsAside 26 = .ok (.return_, 1) := by decide +kernel
theorem dX10_putsAside_0 : decode cX10_putsAside 0 = .ok (.iconst 0, 1) := dk_dX10_putsAside_0.1
theorem dX10_putsAside_1 : decode cX10_putsAside 1 = .ok (.istore_n 1, 1) := dk_dX10_putsAside_0.2.1
theorem dX10_putsAside_2 : decode cX10_putsAside 2 = .ok (.iload_n 1, 1) := dk_dX10_putsAside_0.2.2.1
theorem dX10_putsAside_3 : decode cX10_putsAside 3 = .ok (.bipush 9, 2) := dk_dX10_putsAside_0.2.2.2.1
theorem dX10_putsAside_5 : decode cX10_putsAside 5 = .ok (.if_icmp .ge 21, 3) := dk_dX10_putsAside_0.2.2.2.2.1
theorem dX10_putsAside_8 : decode cX10_putsAside 8 = .ok (.aload_n 0, 1) := dk_dX10_putsAside_0.2.2.2.2.2.1
theorem dX10_putsAside_9 : decode cX10_putsAside 9 = .ok (.getfield 142, 3) := dk_dX10_putsAside_0.2.2.2.2.2.2.1
theorem dX10_putsAside_12 : decode cX10_putsAside 12 = .ok (.iload_n 1, 1) := dk_dX10_putsAside_0.2.2.2.2.2.2.2.1
theorem dX10_putsAside_13 : decode cX10_putsAside 13 = .ok (.aload_n 0, 1) := dk_dX10_putsAside_0.2.2.2.2.2.2.2.2.1
theorem dX10_putsAside_14 : decode cX10_putsAside 14 = .ok (.getfield 139, 3) := dk_dX10_putsAside_0.2.2.2.2.2.2.2.2.2.1
theorem dX10_putsAside_17 : decode cX10_putsAside 17 = .ok (.iload_n 1, 1) := dk_dX10_putsAside_0.2.2.2.2.2.2.2.2.2.2.1
theorem dX10_putsAside_18 : decode cX10_putsAside 18 = .ok (.iaload, 1) := dk_dX10_putsAside_0.2.2.2.2.2.2.2.2.2.2.2.1
theorem dX10_putsAside_19 : decode cX10_putsAside 19 = .ok (.iastore, 1) := dk_dX10_putsAside_0.2.2.2.2.2.2.2.2.2.2.2.2.1
theorem dX10_putsAside_20 : decode cX10_putsAside 20 = .ok (.iinc 1 1, 3) := dk_dX10_putsAside_0.2.2.2.2.2.2.2.2.2.2.2.2.2.1
theorem dX10_putsAside_23 : decode cX10_putsAside 23 = .ok (.goto (-21), 3) := dk_dX10_putsAside_0.2.2.2.2.2.2.2.2.2.2.2.2.2.2.1
theorem dX10_putsAside_26 : decode cX10_putsAside 26 = .ok (.return_, 1) := dk_dX10_putsAside_0.2.2.2.2.2.2.2.2.2.2.2.2.2.2.2
theorem dk_dX10_qAsksWord_0 : decode cX10_qAsksWord 0 = .ok (.iload_n 1, 1) ∧ decode cX10_qAsksWord 1 = .ok (.tableswitch 195 0 11 #[63, 74, 85, 96, 107, 118, 129, 140, 151, 162, 173, 184], 63) ∧ decode cX10_qAsksWord 64 = .ok (.aload_n 0, 1) ∧ decode cX10_qAsksWord 65 = .ok (.aload_n 0, 1) ∧ decode cX10_qAsksWord 66 = .ok (.getfield 225, 3) ∧ decode cX10_qAsksWord 69 = .ok (.invokevirtual 350, 3) ∧ decode cX10_qAsksWord 72 = .ok (.goto 132, 3) ∧ decode cX10_qAsksWord 75 = .ok (.aload_n 0, 1) ∧ decode cX10_qAsksWord 76 = .ok (.aload_n 0, 1) ∧ decode cX10_qAsksWord 77 = .ok (.getfield 228, 3) ∧ decode cX10_qAsksWord 80 = .ok (.invokevirtual 350, 3) ∧ decode cX10_qAsksWord 83 = .ok (.goto 121, 3) ∧ decode cX10_qAsksWord 86 = .ok (.aload_n 0, 1) ∧ decode cX10_qAsksWord 87 = .ok (.aload_n 0, 1) ∧ decode cX10_qAsksWord 88 = .ok (.getfield 231, 3) ∧ decode cX10_qAsksWord 91 = .ok (.invokevirtual 350, 3) := by decide +kernel
theorem dX10_qAsksWord_0 : decode cX10_qAsksWord 0 = .ok (.iload_n 1, 1) := dk_dX10_qAsksWord_0.1
theorem dX10_qAsksWord_1 : decode cX10_qAsksWord 1 = .ok (.tableswitch 195 0 11 #[63, 74, 85, 96, 107, 118, 129, 140, 151, 162, 173, 184], 63) := dk_dX10_qAsksWord_0.2.1
theorem dX10_qAsksWord_64 : decode cX10_qAsksWord 64 = .ok (.aload_n 0, 1) := dk_dX10_qAsksWord_0.2.2.1
theorem dX10_qAsksWord_65 : decode cX10_qAsksWord 65 = .ok (.aload_n 0, 1) := dk_dX10_qAsksWord_0.2.2.2.1
theorem dX10_qAsksWord_66 : decode cX10_qAsksWord 66 = .ok (.getfield 225, 3) := dk_dX10_qAsksWord_0.2.2.2.2.1
theorem dX10_qAsksWord_69 : decode cX10_qAsksWord 69 = .ok (.invokevirtual 350, 3) := dk_dX10_qAsksWord_0.2.2.2.2.2.1
theorem dX10_qAsksWord_72 : decode cX10_qAsksWord 72 = .ok (.goto 132, 3) := dk_dX10_qAsksWord_0.2.2.2.2.2.2.1
theorem dX10_qAsksWord_75 : decode cX10_qAsksWord 75 = .ok (.aload_n 0, 1) := dk_dX10_qAsksWord_0.2.2.2.2.2.2.2.1
theorem dX10_qAsksWord_76 : decode cX10_qAsksWord 76 = .ok (.aload_n 0, 1) := dk_dX10_qAsksWord_0.2.2.2.2.2.2.2.2.1
theorem dX10_qAsksWord_77 : decode cX10_qAsksWord 77 = .ok (.getfield 228, 3) := dk_dX10_qAsksWord_0.2.2.2.2.2.2.2.2.2.1
theorem dX10_qAsksWord_80 : decode cX10_qAsksWord 80 = .ok (.invokevirtual 350, 3) := dk_dX10_qAsksWord_0.2.2.2.2.2.2.2.2.2.2.1
theorem dX10_qAsksWord_83 : decode cX10_qAsksWord 83 = .ok (.goto 121, 3) := dk_dX10_qAsksWord_0.2.2.2.2.2.2.2.2.2.2.2.1
theorem dX10_qAsksWord_86 : decode cX10_qAsksWord 86 = .ok (.aload_n 0, 1) := dk_dX10_qAsksWord_0.2.2.2.2.2.2.2.2.2.2.2.2.1
theorem dX10_qAsksWord_87 : decode cX10_qAsksWord 87 = .ok (.aload_n 0, 1) := dk_dX10_qAsksWord_0.2.2.2.2.2.2.2.2.2.2.2.2.2.1
theorem dX10_qAsksWord_88 : decode cX10_qAsksWord 88 = .ok (.getfield 231, 3) := dk_dX10_qAsksWord_0.2.2.2.2.2.2.2.2.2.2.2.2.2.2.1
theorem dX10_qAsksWord_91 : decode cX10_qAsksWord 91 = .ok (.invokevirtual 350, 3) := dk_dX10_qAsksWord_0.2.2.2.2.2.2.2.2.2.2.2.2.2.2.2
theorem dk_dX10_qAsksWord_94 : decode cX10_qAsksWord 94 = .ok (.goto 110, 3) ∧ decode cX10_qAsksWord 97 = .ok (.aload_n 0, 1) ∧ decode cX10_qAsksWord 98 = .ok (.aload_n 0, 1) ∧ decode cX10_qAsksWord 99 = .ok (.getfield 234, 3) ∧ decode cX10_qAsksWord 102 = .ok (.invokevirtual 350, 3) ∧ decode cX10_qAsksWord 105 = .ok (.goto 99, 3) ∧ decode cX10_qAsksWord 108 = .ok (.aload_n 0, 1) ∧ decode cX10_qAsksWord 109 = .ok (.aload_n 0, 1) ∧ decode cX10_qAsksWord 110 = .ok (.getfield 237, 3) ∧ decode cX10_qAsksWord 113 = .ok (.invokevirtual 350, 3) ∧ decode cX10_qAsksWord 116 = .ok (.goto 88, 3) ∧ decode cX10_qAsksWord 119 = .ok (.aload_n 0, 1) ∧ decode cX10_qAsksWord 120 = .ok (.aload_n 0, 1) ∧ decode cX10_qAsksWord 121 = .ok (.getfield 240, 3) ∧ decode cX10_qAsksWord 124 = .ok (.invokevirtual 350, 3) ∧ decode cX10_qAsksWord 127 = .ok (.goto 77, 3) := by decide +kernel
theorem dX10_qAsksWord_94 : decode cX10_qAsksWord 94 = .ok (.goto 110, 3) := dk_dX10_qAsksWord_94.1
theorem dX10_qAsksWord_97 : decode cX10_qAsksWord 97 = .ok (.aload_n 0, 1) := dk_dX10_qAsksWord_94.2.1
theorem dX10_qAsksWord_98 : decode cX10_qAsksWord 98 = .ok (.aload_n 0, 1) := dk_dX10_qAsksWord_94.2.2.1
theorem dX10_qAsksWord_99 : decode cX10_qAsksWord 99 = .ok (.getfield 234, 3) := dk_dX10_qAsksWord_94.2.2.2.1
theorem dX10_qAsksWord_102 : decode cX10_qAsksWord 102 = .ok (.invokevirtual 350, 3) := dk_dX10_qAsksWord_94.2.2.2.2.1
theorem dX10_qAsksWord_105 : decode cX10_qAsksWord 105 = .ok (.goto 99, 3) := dk_dX10_qAsksWord_94.2.2.2.2.2.1
theorem dX10_qAsksWord_108 : decode cX10_qAsksWord 108 = .ok (.aload_n 0, 1) := dk_dX10_qAsksWord_94.2.2.2.2.2.2.1
theorem dX10_qAsksWord_109 : decode cX10_qAsksWord 109 = .ok (.aload_n 0, 1) := dk_dX10_qAsksWord_94.2.2.2.2.2.2.2.1
theorem dX10_qAsksWord_110 : decode cX10_qAsksWord 110 = .ok (.getfield 237, 3) := dk_dX10_qAsksWord_94.2.2.2.2.2.2.2.2.1
theorem dX10_qAsksWord_113 : decode cX10_qAsksWord 113 = .ok (.invokevirtual 350, 3) := dk_dX10_qAsksWord_94.2.2.2.2.2.2.2.2.2.1
theorem dX10_qAsksWord_116 : decode cX10_qAsksWord 116 = .ok (.goto 88, 3) := dk_dX10_qAsksWord_94.2.2.2.2.2.2.2.2.2.2.1
theorem dX10_qAsksWord_119 : decode cX10_qAsksWord 119 = .ok (.aload_n 0, 1) := dk_dX10_qAsksWord_94.2.2.2.2.2.2.2.2.2.2.2.1
theorem dX10_qAsksWord_120 : decode cX10_qAsksWord 120 = .ok (.aload_n 0, 1) := dk_dX10_qAsksWord_94.2.2.2.2.2.2.2.2.2.2.2.2.1
theorem dX10_qAsksWord_121 : decode cX10_qAsksWord 121 = .ok (.getfield 240, 3) := dk_dX10_qAsksWord_94.2.2.2.2.2.2.2.2.2.2.2.2.2.1
theorem dX10_qAsksWord_124 : decode cX10_qAsksWord 124 = .ok (.invokevirtual 350, 3) := dk_dX10_qAsksWord_94.2.2.2.2.2.2.2.2.2.2.2.2.2.2.1
theorem dX10_qAsksWord_127 : decode cX10_qAsksWord 127 = .ok (.goto 77, 3) := dk_dX10_qAsksWord_94.2.2.2.2.2.2.2.2.2.2.2.2.2.2.2
theorem dk_dX10_qAsksWord_130 : decode cX10_qAsksWord 130 = .ok (.aload_n 0, 1) ∧ decode cX10_qAsksWord 131 = .ok (.aload_n 0, 1) ∧ decode cX10_qAsksWord 132 = .ok (.getfield 243, 3) ∧ decode cX10_qAsksWord 135 = .ok (.invokevirtual 350, 3) ∧ decode cX10_qAsksWord 138 = .ok (.goto 66, 3) ∧ decode cX10_qAsksWord 141 = .ok (.aload_n 0, 1) ∧ decode cX10_qAsksWord 142 = .ok (.aload_n 0, 1) ∧ decode cX10_qAsksWord 143 = .ok (.getfield 246, 3) ∧ decode cX10_qAsksWord 146 = .ok (.invokevirtual 350, 3) ∧ decode cX10_qAsksWord 149 = .ok (.goto 55, 3) ∧ decode cX10_qAsksWord 152 = .ok (.aload_n 0, 1) ∧ decode cX10_qAsksWord 153 = .ok (.aload_n 0, 1) ∧ decode cX10_qAsksWord 154 = .ok (.getfield 249, 3) ∧ decode cX10_qAsksWord 157 = .ok (.invokevirtual 350, 3) ∧ decode cX10_qAsksWord 160 = .ok (.goto 44, 3) ∧ decode cX10_qAsksWord 163 = .ok (.aload_n 0, 1) := by decide +kernel
theorem dX10_qAsksWord_130 : decode cX10_qAsksWord 130 = .ok (.aload_n 0, 1) := dk_dX10_qAsksWord_130.1
theorem dX10_qAsksWord_131 : decode cX10_qAsksWord 131 = .ok (.aload_n 0, 1) := dk_dX10_qAsksWord_130.2.1
theorem dX10_qAsksWord_132 : decode cX10_qAsksWord 132 = .ok (.getfield 243, 3) := dk_dX10_qAsksWord_130.2.2.1
theorem dX10_qAsksWord_135 : decode cX10_qAsksWord 135 = .ok (.invokevirtual 350, 3) := dk_dX10_qAsksWord_130.2.2.2.1
theorem dX10_qAsksWord_138 : decode cX10_qAsksWord 138 = .ok (.goto 66, 3) := dk_dX10_qAsksWord_130.2.2.2.2.1
theorem dX10_qAsksWord_141 : decode cX10_qAsksWord 141 = .ok (.aload_n 0, 1) := dk_dX10_qAsksWord_130.2.2.2.2.2.1
theorem dX10_qAsksWord_142 : decode cX10_qAsksWord 142 = .ok (.aload_n 0, 1) := dk_dX10_qAsksWord_130.2.2.2.2.2.2.1
theorem dX10_qAsksWord_143 : decode cX10_qAsksWord 143 = .ok (.getfield 246, 3) := dk_dX10_qAsksWord_130.2.2.2.2.2.2.2.1
theorem dX10_qAsksWord_146 : decode cX10_qAsksWord 146 = .ok (.invokevirtual 350, 3) := dk_dX10_qAsksWord_130.2.2.2.2.2.2.2.2.1
theorem dX10_qAsksWord_149 : decode cX10_qAsksWord 149 = .ok (.goto 55, 3) := dk_dX10_qAsksWord_130.2.2.2.2.2.2.2.2.2.1
theorem dX10_qAsksWord_152 : decode cX10_qAsksWord 152 = .ok (.aload_n 0, 1) := dk_dX10_qAsksWord_130.2.2.2.2.2.2.2.2.2.2.1
theorem dX10_qAsksWord_153 : decode cX10_qAsksWord 153 = .ok (.aload_n 0, 1) := dk_dX10_qAsksWord_130.2.2.2.2.2.2.2.2.2.2.2.1
theorem dX10_qAsksWord_154 : decode cX10_qAsksWord 154 = .ok (.getfield 249, 3) := dk_dX10_qAsksWord_130.2.2.2.2.2.2.2.2.2.2.2.2.1
theorem dX10_qAsksWord_157 : decode cX10_qAsksWord 157 = .ok (.invokevirtual 350, 3) := dk_dX10_qAsksWord_130.2.2.2.2.2.2.2.2.2.2.2.2.2.1
theorem dX10_qAsksWord_160 : decode cX10_qAsksWord 160 = .ok (.goto 44, 3) := dk_dX10_qAsksWord_130.2.2.2.2.2.2.2.2.2.2.2.2.2.2.1
theorem dX10_qAsksWord_163 : decode cX10_qAsksWord 163 = .ok (.aload_n 0, 1) := dk_dX10_qAsksWord_130.2.2.2.2.2.2.2.2.2.2.2.2.2.2.2
theorem dk_dX10_qAsksWord_164 : decode cX10_qAsksWord 164 = .ok (.aload_n 0, 1) ∧ decode cX10_qAsksWord 165 = .ok (.getfield 252, 3) ∧ decode cX10_qAsksWord 168 = .ok (.invokevirtual 350, 3) ∧ decode cX10_qAsksWord 171 = .ok (.goto 33, 3) ∧ decode cX10_qAsksWord 174 = .ok (.aload_n 0, 1) ∧ decode cX10_qAsksWord 175 = .ok (.aload_n 0, 1) ∧ decode cX10_qAsksWord 176 = .ok (.getfield 255, 3) ∧ decode cX10_qAsksWord 179 = .ok (.invokevirtual 350, 3) ∧ decode cX10_qAsksWord 182 = .ok (.goto 22, 3) ∧ decode cX10_qAsksWord 185 = .ok (.aload_n 0, 1) ∧ decode cX10_qAsksWord 186 = .ok (.aload_n 0, 1) ∧ decode cX10_qAsksWord 187 = .ok (.getfield 258, 3) ∧ decode cX10_qAsksWord 190 = .ok (.invokevirtual 350, 3) ∧ decode cX10_qAsksWord 193 = .ok (.goto 11, 3) ∧ decode cX10_qAsksWord 196 = .ok (.aload_n 0, 1) ∧ decode cX10_qAsksWord 197 = .ok (.aload_n 0, 1) := by decide +kernel
theorem dX10_qAsksWord_164 : decode cX10_qAsksWord 164 = .ok (.aload_n 0, 1) := dk_dX10_qAsksWord_164.1
theorem dX10_qAsksWord_165 : decode cX10_qAsksWord 165 = .ok (.getfield 252, 3) := dk_dX10_qAsksWord_164.2.1
theorem dX10_qAsksWord_168 : decode cX10_qAsksWord 168 = .ok (.invokevirtual 350, 3) := dk_dX10_qAsksWord_164.2.2.1
theorem dX10_qAsksWord_171 : decode cX10_qAsksWord 171 = .ok (.goto 33, 3) := dk_dX10_qAsksWord_164.2.2.2.1
theorem dX10_qAsksWord_174 : decode cX10_qAsksWord 174 = .ok (.aload_n 0, 1) := dk_dX10_qAsksWord_164.2.2.2.2.1
theorem dX10_qAsksWord_175 : decode cX10_qAsksWord 175 = .ok (.aload_n 0, 1) := dk_dX10_qAsksWord_164.2.2.2.2.2.1
theorem dX10_qAsksWord_176 : decode cX10_qAsksWord 176 = .ok (.getfield 255, 3) := dk_dX10_qAsksWord_164.2.2.2.2.2.2.1
theorem dX10_qAsksWord_179 : decode cX10_qAsksWord 179 = .ok (.invokevirtual 350, 3) := dk_dX10_qAsksWord_164.2.2.2.2.2.2.2.1
theorem dX10_qAsksWord_182 : decode cX10_qAsksWord 182 = .ok (.goto 22, 3) := dk_dX10_qAsksWord_164.2.2.2.2.2.2.2.2.1
theorem dX10_qAsksWord_185 : decode cX10_qAsksWord 185 = .ok (.aload_n 0, 1) := dk_dX10_qAsksWord_164.2.2.2.2.2.2.2.2.2.1
theorem dX10_qAsksWord_186 : decode cX10_qAsksWord 186 = .ok (.aload_n 0, 1) := dk_dX10_qAsksWord_164.2.2.2.2.2.2.2.2.2.2.1
theorem dX10_qAsksWord_187 : decode cX10_qAsksWord 187 = .ok (.getfield 258, 3) := dk_dX10_qAsksWord_164.2.2.2.2.2.2.2.2.2.2.2.1
theorem dX10_qAsksWord_190 : decode cX10_qAsksWord 190 = .ok (.invokevirtual 350, 3) := dk_dX10_qAsksWord_164.2.2.2.2.2.2.2.2.2.2.2.2.1
theorem dX10_qAsksWord_193 : decode cX10_qAsksWord 193 = .ok (.goto 11, 3) := dk_dX10_qAsksWord_164.2.2.2.2.2.2.2.2.2.2.2.2.2.1
theorem dX10_qAsksWord_196 : decode cX10_qAsksWord 196 = .ok (.aload_n 0, 1) := dk_dX10_qAsksWord_164.2.2.2.2.2.2.2.2.2.2.2.2.2.2.1
theorem dX10_qAsksWord_197 : decode cX10_qAsksWord 197 = .ok (.aload_n 0, 1) := dk_dX10_qAsksWord_164.2.2.2.2.2.2.2.2.2.2.2.2.2.2.2
theorem dk_dX10_qAsksWord_198 : decode cX10_qAsksWord 198 = .ok (.getfield 261, 3) ∧ decode cX10_qAsksWord 201 = .ok (.invokevirtual 350, 3) ∧ decode cX10_qAsksWord 204 = .ok (.return_, 1) := by decide +kernel
theorem dX10_qAsksWord_198 : decode cX10_qAsksWord 198 = .ok (.getfield 261, 3) := dk_dX10_qAsksWord_198.1
theorem dX10_qAsksWord_201 : decode cX10_qAsksWord 201 = .ok (.invokevirtual 350, 3) := dk_dX10_qAsksWord_198.2.1
theorem dX10_qAsksWord_204 : decode cX10_qAsksWord 204 = .ok (.return_, 1) := dk_dX10_qAsksWord_198.2.2
theorem dk_dX10_qBracket_0 : decode cX10_qBracket 0 = .ok (.aload_n 0, 1) ∧ decode cX10_qBracket 1 = .ok (.getfield 372, 3) ∧ decode cX10_qBracket 4 = .ok (.iconst 1, 1) ∧ decode cX10_qBracket 5 = .ok (.isub, 1) ∧ decode cX10_qBracket 6 = .ok (.istore_n 1, 1) ∧ decode cX10_qBracket 7 = .ok (.iload_n 1, 1) ∧ decode cX10_qBracket 8 = .ok (.aload_n 0, 1) ∧ decode cX10_qBracket 9 = .ok (.getfield 378, 3) ∧ decode cX10_qBracket 12 = .ok (.if_icmp .lt 21, 3) ∧ decode cX10_qBracket 15 = .ok (.aload_n 0, 1) ∧ decode cX10_qBracket 16 = .ok (.getfield 267, 3) ∧ decode cX10_qBracket 19 = .ok (.iload_n 1, 1) ∧ decode cX10_qBracket 20 = .ok (.iaload, 1) ∧ decode cX10_qBracket 21 = .ok (.invokestatic 611, 3) ∧ decode cX10_qBracket 24 = .ok (.ifCond .ne 9, 3) ∧ decode cX10_qBracket 27 = .ok (.iinc 1 (-1), 3) := by decide +kernel
theorem dX10_qBracket_0 : decode cX10_qBracket 0 = .ok (.aload_n 0, 1) := dk_dX10_qBracket_0.1
theorem dX10_qBracket_1 : decode cX10_qBracket 1 = .ok (.getfield 372, 3) := dk_dX10_qBracket_0.2.1
theorem dX10_qBracket_4 : decode cX10_qBracket 4 = .ok (.iconst 1, 1) := dk_dX10_qBracket_0.2.2.1
theorem dX10_qBracket_5 : decode cX10_qBracket 5 = .ok (.isub, 1) := dk_dX10_qBracket_0.2.2.2.1
theorem dX10_qBracket_6 : decode cX10_qBracket 6 = .ok (.istore_n 1, 1) := dk_dX10_qBracket_0.2.2.2.2.1
theorem dX10_qBracket_7 : decode cX10_qBracket 7 = .ok (.iload_n 1, 1) := dk_dX10_qBracket_0.2.2.2.2.2.1
theorem dX10_qBracket_8 : decode cX10_qBracket 8 = .ok (.aload_n 0, 1) := dk_dX10_qBracket_0.2.2.2.2.2.2.1
theorem dX10_qBracket_9 : decode cX10_qBracket 9 = .ok (.getfield 378, 3) := dk_dX10_qBracket_0.2.2.2.2.2.2.2.1
theorem dX10_qBracket_12 : decode cX10_qBracket 12 = .ok (.if_icmp .lt 21, 3) := dk_dX10_qBracket_0.2.2.2.2.2.2.2.2.1
theorem dX10_qBracket_15 : decode cX10_qBracket 15 = .ok (.aload_n 0, 1) := dk_dX10_qBracket_0.2.2.2.2.2.2.2.2.2.1
theorem dX10_qBracket_16 : decode cX10_qBracket 16 = .ok (.getfield 267, 3) := dk_dX10_qBracket_0.2.2.2.2.2.2.2.2.2.2.1
theorem dX10_qBracket_19 : decode cX10_qBracket 19 = .ok (.iload_n 1, 1) := dk_dX10_qBracket_0.2.2.2.2.2.2.2.2.2.2.2.1
theorem dX10_qBracket_20 : decode cX10_qBracket 20 = .ok (.iaload, 1) := dk_dX10_qBracket_0.2.2.2.2.2.2.2.2.2.2.2.2.1
theorem dX10_qBracket_21 : decode cX10_qBracket 21 = .ok (.invokestatic 611, 3) := dk_dX10_qBracket_0.2.2.2.2.2.2.2.2.2.2.2.2.2.1
theorem dX10_qBracket_24 : decode cX10_qBracket 24 = .ok (.ifCond .ne 9, 3) := dk_dX10_qBracket_0.2.2.2.2.2.2.2.2.2.2.2.2.2.2.1
theorem dX10_qBracket_27 : decode cX10_qBracket 27 = .ok (.iinc 1 (-1), 3) := dk_dX10_qBracket_0.2.2.2.2.2.2.2.2.2.2.2.2.2.2.2
theorem dk_dX10_qBracket_30 : decode cX10_qBracket 30 = .ok (.goto (-23), 3) ∧ decode cX10_qBracket 33 = .ok (.iload_n 1, 1) ∧ decode cX10_qBracket 34 = .ok (.aload_n 0, 1) ∧ decode cX10_qBracket 35 = .ok (.getfield 378, 3) ∧ decode cX10_qBracket 38 = .ok (.if_icmp .lt 12, 3) ∧ decode cX10_qBracket 41 = .ok (.aload_n 0, 1) ∧ decode cX10_qBracket 42 = .ok (.getfield 267, 3) ∧ decode cX10_qBracket 45 = .ok (.iload_n 1, 1) ∧ decode cX10_qBracket 46 = .ok (.iaload, 1) ∧ decode cX10_qBracket 47 = .ok (.goto 4, 3) ∧ decode cX10_qBracket 50 = .ok (.iconst (-1), 1) ∧ decode cX10_qBracket 51 = .ok (.ireturn, 1) := by decide +kernel
theorem dX10_qBracket_30 : decode cX10_qBracket 30 = .ok (.goto (-23), 3) := dk_dX10_qBracket_30.1
theorem dX10_qBracket_33 : decode cX10_qBracket 33 = .ok (.iload_n 1, 1) := dk_dX10_qBracket_30.2.1
theorem dX10_qBracket_34 : decode cX10_qBracket 34 = .ok (.aload_n 0, 1) := dk_dX10_qBracket_30.2.2.1
theorem dX10_qBracket_35 : decode cX10_qBracket 35 = .ok (.getfield 378, 3) := dk_dX10_qBracket_30.2.2.2.1
theorem dX10_qBracket_38 : decode cX10_qBracket 38 = .ok (.if_icmp .lt 12, 3) := dk_dX10_qBracket_30.2.2.2.2.1
theorem dX10_qBracket_41 : decode cX10_qBracket 41 = .ok (.aload_n 0, 1) := dk_dX10_qBracket_30.2.2.2.2.2.1
theorem dX10_qBracket_42 : decode cX10_qBracket 42 = .ok (.getfield 267, 3) := dk_dX10_qBracket_30.2.2.2.2.2.2.1
theorem dX10_qBracket_45 : decode cX10_qBracket 45 = .ok (.iload_n 1, 1) := dk_dX10_qBracket_30.2.2.2.2.2.2.2.1
theorem dX10_qBracket_46 : decode cX10_qBracket 46 = .ok (.iaload, 1) := dk_dX10_qBracket_30.2.2.2.2.2.2.2.2.1
theorem dX10_qBracket_47 : decode cX10_qBracket 47 = .ok (.goto 4, 3) := dk_dX10_qBracket_30.2.2.2.2.2.2.2.2.2.1
theorem dX10_qBracket_50 : decode cX10_qBracket 50 = .ok (.iconst (-1), 1) := dk_dX10_qBracket_30.2.2.2.2.2.2.2.2.2.2.1
theorem dX10_qBracket_51 : decode cX10_qBracket 51 = .ok (.ireturn, 1) := dk_dX10_qBracket_30.2.2.2.2.2.2.2.2.2.2.2
theorem dk_dX10_qClip_0 : decode cX10_qClip 0 = .ok (.lload_n 0, 1) ∧ decode cX10_qClip 1 = .ok (.ldc2_w 662, 3) ∧ decode cX10_qClip 4 = .ok (.lcmp, 1) ∧ decode cX10_qClip 5 = .ok (.ifCond .le 9, 3) ∧ decode cX10_qClip 8 = .ok (.ldc2_w 662, 3) ∧ decode cX10_qClip 11 = .ok (.goto 18, 3) ∧ decode cX10_qClip 14 = .ok (.lload_n 0, 1) ∧ decode cX10_qClip 15 = .ok (.ldc2_w 664, 3) ∧ decode cX10_qClip 18 = .ok (.lcmp, 1) ∧ decode cX10_qClip 19 = .ok (.ifCond .ge 9, 3) ∧ decode cX10_qClip 22 = .ok (.ldc2_w 664, 3) ∧ decode cX10_qClip 25 = .ok (.goto 4, 3) ∧ decode cX10_qClip 28 = .ok (.lload_n 0, 1) ∧ decode cX10_qClip 29 = .ok (.lreturn, 1) := by decide +kernel
theorem dX10_qClip_0 : decode cX10_qClip 0 = .ok (.lload_n 0, 1) := dk_dX10_qClip_0.1
theorem dX10_qClip_1 : decode cX10_qClip 1 = .ok (.ldc2_w 662, 3) := dk_dX10_qClip_0.2.1
theorem dX10_qClip_4 : decode cX10_qClip 4 = .ok (.lcmp, 1) := dk_dX10_qClip_0.2.2.1
theorem dX10_qClip_5 : decode cX10_qClip 5 = .ok (.ifCond .le 9, 3) := dk_dX10_qClip_0.2.2.2.1
theorem dX10_qClip_8 : decode cX10_qClip 8 = .ok (.ldc2_w 662, 3) := dk_dX10_qClip_0.2.2.2.2.1
theorem dX10_qClip_11 : decode cX10_qClip 11 = .ok (.goto 18, 3) := dk_dX10_qClip_0.2.2.2.2.2.1
theorem dX10_qClip_14 : decode cX10_qClip 14 = .ok (.lload_n 0, 1) := dk_dX10_qClip_0.2.2.2.2.2.2.1
theorem dX10_qClip_15 : decode cX10_qClip 15 = .ok (.ldc2_w 664, 3) := dk_dX10_qClip_0.2.2.2.2.2.2.2.1
theorem dX10_qClip_18 : decode cX10_qClip 18 = .ok (.lcmp, 1) := dk_dX10_qClip_0.2.2.2.2.2.2.2.2.1
theorem dX10_qClip_19 : decode cX10_qClip 19 = .ok (.ifCond .ge 9, 3) := dk_dX10_qClip_0.2.2.2.2.2.2.2.2.2.1
theorem dX10_qClip_22 : decode cX10_qClip 22 = .ok (.ldc2_w 664, 3) := dk_dX10_qClip_0.2.2.2.2.2.2.2.2.2.2.1
theorem dX10_qClip_25 : decode cX10_qClip 25 = .ok (.goto 4, 3) := dk_dX10_qClip_0.2.2.2.2.2.2.2.2.2.2.2.1
theorem dX10_qClip_28 : decode cX10_qClip 28 = .ok (.lload_n 0, 1) := dk_dX10_qClip_0.2.2.2.2.2.2.2.2.2.2.2.2.1
theorem dX10_qClip_29 : decode cX10_qClip 29 = .ok (.lreturn, 1) := dk_dX10_qClip_0.2.2.2.2.2.2.2.2.2.2.2.2.2
theorem dk_dX10_qCode_0 : decode cX10_qCode 0 = .ok (.aload_n 0, 1) ∧ decode cX10_qCode 1 = .ok (.getfield 264, 3) ∧ decode cX10_qCode 4 = .ok (.aload_n 0, 1) ∧ decode cX10_qCode 5 = .ok (.getfield 369, 3) ∧ decode cX10_qCode 8 = .ok (.iload_n 1, 1) ∧ decode cX10_qCode 9 = .ok (.iastore, 1) ∧ decode cX10_qCode 10 = .ok (.aload_n 0, 1) ∧ decode cX10_qCode 11 = .ok (.dup, 1) ∧ decode cX10_qCode 12 = .ok (.getfield 369, 3) ∧ decode cX10_qCode 15 = .ok (.iconst 1, 1) ∧ decode cX10_qCode 16 = .ok (.iadd, 1) ∧ decode cX10_qCode 17 = .ok (.putfield 369, 3) ∧ decode cX10_qCode 20 = .ok (.return_, 1) := by decide +kernel
theorem dX10_qCode_0 : decode cX10_qCode 0 = .ok (.aload_n 0, 1) := dk_dX10_qCode_0.1
theorem dX10_qCode_1 : decode cX10_qCode 1 = .ok (.getfield 264, 3) := dk_dX10_qCode_0.2.1
theorem dX10_qCode_4 : decode cX10_qCode 4 = .ok (.aload_n 0, 1) := dk_dX10_qCode_0.2.2.1
theorem dX10_qCode_5 : decode cX10_qCode 5 = .ok (.getfield 369, 3) := dk_dX10_qCode_0.2.2.2.1
theorem dX10_qCode_8 : decode cX10_qCode 8 = .ok (.iload_n 1, 1) := dk_dX10_qCode_0.2.2.2.2.1
theorem dX10_qCode_9 : decode cX10_qCode 9 = .ok (.iastore, 1) := dk_dX10_qCode_0.2.2.2.2.2.1
theorem dX10_qCode_10 : decode cX10_qCode 10 = .ok (.aload_n 0, 1) := dk_dX10_qCode_0.2.2.2.2.2.2.1
theorem dX10_qCode_11 : decode cX10_qCode 11 = .ok (.dup, 1) := dk_dX10_qCode_0.2.2.2.2.2.2.2.1
theorem dX10_qCode_12 : decode cX10_qCode 12 = .ok (.getfield 369, 3) := dk_dX10_qCode_0.2.2.2.2.2.2.2.2.1
theorem dX10_qCode_15 : decode cX10_qCode 15 = .ok (.iconst 1, 1) := dk_dX10_qCode_0.2.2.2.2.2.2.2.2.2.1
theorem dX10_qCode_16 : decode cX10_qCode 16 = .ok (.iadd, 1) := dk_dX10_qCode_0.2.2.2.2.2.2.2.2.2.2.1
theorem dX10_qCode_17 : decode cX10_qCode 17 = .ok (.putfield 369, 3) := dk_dX10_qCode_0.2.2.2.2.2.2.2.2.2.2.2.1
theorem dX10_qCode_20 : decode cX10_qCode 20 = .ok (.return_, 1) := dk_dX10_qCode_0.2.2.2.2.2.2.2.2.2.2.2.2
theorem dk_dX10_qDrops_0 : decode cX10_qDrops 0 = .ok (.aload_n 0, 1) ∧ decode cX10_qDrops 1 = .ok (.dup, 1) ∧ decode cX10_qDrops 2 = .ok (.getfield 372, 3) ∧ decode cX10_qDrops 5 = .ok (.iconst 1, 1) ∧ decode cX10_qDrops 6 = .ok (.isub, 1) ∧ decode cX10_qDrops 7 = .ok (.putfield 372, 3) ∧ decode cX10_qDrops 10 = .ok (.aload_n 0, 1) ∧ decode cX10_qDrops 11 = .ok (.aload_n 0, 1) ∧ decode cX10_qDrops 12 = .ok (.getfield 267, 3) ∧ decode cX10_qDrops 15 = .ok (.aload_n 0, 1) ∧ decode cX10_qDrops 16 = .ok (.getfield 372, 3) ∧ decode cX10_qDrops 19 = .ok (.iaload, 1) ∧ decode cX10_qDrops 20 = .ok (.invokevirtual 608, 3) ∧ decode cX10_qDrops 23 = .ok (.return_, 1) := by decide +kernel
theorem dX10_qDrops_0 : decode cX10_qDrops 0 = .ok (.aload_n 0, 1) := dk_dX10_qDrops_0.1
theorem dX10_qDrops_1 : decode cX10_qDrops 1 = .ok (.dup, 1) := dk_dX10_qDrops_0.2.1
theorem dX10_qDrops_2 : decode cX10_qDrops 2 = .ok (.getfield 372, 3) := dk_dX10_qDrops_0.2.2.1
theorem dX10_qDrops_5 : decode cX10_qDrops 5 = .ok (.iconst 1, 1) := dk_dX10_qDrops_0.2.2.2.1
theorem dX10_qDrops_6 : decode cX10_qDrops 6 = .ok (.isub, 1) := dk_dX10_qDrops_0.2.2.2.2.1
theorem dX10_qDrops_7 : decode cX10_qDrops 7 = .ok (.putfield 372, 3) := dk_dX10_qDrops_0.2.2.2.2.2.1
theorem dX10_qDrops_10 : decode cX10_qDrops 10 = .ok (.aload_n 0, 1) := dk_dX10_qDrops_0.2.2.2.2.2.2.1
theorem dX10_qDrops_11 : decode cX10_qDrops 11 = .ok (.aload_n 0, 1) := dk_dX10_qDrops_0.2.2.2.2.2.2.2.1
theorem dX10_qDrops_12 : decode cX10_qDrops 12 = .ok (.getfield 267, 3) := dk_dX10_qDrops_0.2.2.2.2.2.2.2.2.1
theorem dX10_qDrops_15 : decode cX10_qDrops 15 = .ok (.aload_n 0, 1) := dk_dX10_qDrops_0.2.2.2.2.2.2.2.2.2.1
theorem dX10_qDrops_16 : decode cX10_qDrops 16 = .ok (.getfield 372, 3) := dk_dX10_qDrops_0.2.2.2.2.2.2.2.2.2.2.1
theorem dX10_qDrops_19 : decode cX10_qDrops 19 = .ok (.iaload, 1) := dk_dX10_qDrops_0.2.2.2.2.2.2.2.2.2.2.2.1
theorem dX10_qDrops_20 : decode cX10_qDrops 20 = .ok (.invokevirtual 608, 3) := dk_dX10_qDrops_0.2.2.2.2.2.2.2.2.2.2.2.2.1
theorem dX10_qDrops_23 : decode cX10_qDrops 23 = .ok (.return_, 1) := dk_dX10_qDrops_0.2.2.2.2.2.2.2.2.2.2.2.2.2
theorem dk_dX10_qDropsNots_0 : decode cX10_qDropsNots 0 = .ok (.aload_n 0, 1) ∧ decode cX10_qDropsNots 1 = .ok (.getfield 279, 3) ∧ decode cX10_qDropsNots 4 = .ok (.ifCond .ne 29, 3) ∧ decode cX10_qDropsNots 7 = .ok (.aload_n 0, 1) ∧ decode cX10_qDropsNots 8 = .ok (.bipush 12, 2) ∧ decode cX10_qDropsNots 10 = .ok (.invokevirtual 641, 3) ∧ decode cX10_qDropsNots 13 = .ok (.ifCond .eq 20, 3) ∧ decode cX10_qDropsNots 16 = .ok (.aload_n 0, 1) ∧ decode cX10_qDropsNots 17 = .ok (.dup, 1) ∧ decode cX10_qDropsNots 18 = .ok (.getfield 375, 3) ∧ decode cX10_qDropsNots 21 = .ok (.iconst 1, 1) ∧ decode cX10_qDropsNots 22 = .ok (.isub, 1) ∧ decode cX10_qDropsNots 23 = .ok (.putfield 375, 3) ∧ decode cX10_qDropsNots 26 = .ok (.aload_n 0, 1) ∧ decode cX10_qDropsNots 27 = .ok (.invokevirtual 614, 3) ∧ decode cX10_qDropsNots 30 = .ok (.goto (-30), 3) := by decide +kernel
theorem dX10_qDropsNots_0 : decode cX10_qDropsNots 0 = .ok (.aload_n 0, 1) := dk_dX10_qDropsNots_0.1
theorem dX10_qDropsNots_1 : decode cX10_qDropsNots 1 = .ok (.getfield 279, 3) := dk_dX10_qDropsNots_0.2.1
theorem dX10_qDropsNots_4 : decode cX10_qDropsNots 4 = .ok (.ifCond .ne 29, 3) := dk_dX10_qDropsNots_0.2.2.1
theorem dX10_qDropsNots_7 : decode cX10_qDropsNots 7 = .ok (.aload_n 0, 1) := dk_dX10_qDropsNots_0.2.2.2.1
theorem dX10_qDropsNots_8 : decode cX10_qDropsNots 8 = .ok (.bipush 12, 2) := dk_dX10_qDropsNots_0.2.2.2.2.1
theorem dX10_qDropsNots_10 : decode cX10_qDropsNots 10 = .ok (.invokevirtual 641, 3) := dk_dX10_qDropsNots_0.2.2.2.2.2.1
theorem dX10_qDropsNots_13 : decode cX10_qDropsNots 13 = .ok (.ifCond .eq 20, 3) := dk_dX10_qDropsNots_0.2.2.2.2.2.2.1
theorem dX10_qDropsNots_16 : decode cX10_qDropsNots 16 = .ok (.aload_n 0, 1) := dk_dX10_qDropsNots_0.2.2.2.2.2.2.2.1
theorem dX10_qDropsNots_17 : decode cX10_qDropsNots 17 = .ok (.dup, 1) := dk_dX10_qDropsNots_0.2.2.2.2.2.2.2.2.1
theorem dX10_qDropsNots_18 : decode cX10_qDropsNots 18 = .ok (.getfield 375, 3) := dk_dX10_qDropsNots_0.2.2.2.2.2.2.2.2.2.1
theorem dX10_qDropsNots_21 : decode cX10_qDropsNots 21 = .ok (.iconst 1, 1) := dk_dX10_qDropsNots_0.2.2.2.2.2.2.2.2.2.2.1
theorem dX10_qDropsNots_22 : decode cX10_qDropsNots 22 = .ok (.isub, 1) := dk_dX10_qDropsNots_0.2.2.2.2.2.2.2.2.2.2.2.1
theorem dX10_qDropsNots_23 : decode cX10_qDropsNots 23 = .ok (.putfield 375, 3) := dk_dX10_qDropsNots_0.2.2.2.2.2.2.2.2.2.2.2.2.1
theorem dX10_qDropsNots_26 : decode cX10_qDropsNots 26 = .ok (.aload_n 0, 1) := dk_dX10_qDropsNots_0.2.2.2.2.2.2.2.2.2.2.2.2.2.1
theorem dX10_qDropsNots_27 : decode cX10_qDropsNots 27 = .ok (.invokevirtual 614, 3) := dk_dX10_qDropsNots_0.2.2.2.2.2.2.2.2.2.2.2.2.2.2.1
theorem dX10_qDropsNots_30 : decode cX10_qDropsNots 30 = .ok (.goto (-30), 3) := dk_dX10_qDropsNots_0.2.2.2.2.2.2.2.2.2.2.2.2.2.2.2
theorem dX10_qDropsNots_33 : decode cX10_qDropsNots 33 = .ok (.return_, 1) := by decide +kernel
theorem dk_dX10_qDropsToBracket_0 : decode cX10_qDropsToBracket 0 = .ok (.aload_n 0, 1) ∧ decode cX10_qDropsToBracket 1 = .ok (.getfield 372, 3) ∧ decode cX10_qDropsToBracket 4 = .ok (.aload_n 0, 1) ∧ decode cX10_qDropsToBracket 5 = .ok (.getfield 378, 3) ∧ decode cX10_qDropsToBracket 8 = .ok (.if_icmp .le 27, 3) ∧ decode cX10_qDropsToBracket 11 = .ok (.aload_n 0, 1) ∧ decode cX10_qDropsToBracket 12 = .ok (.getfield 267, 3) ∧ decode cX10_qDropsToBracket 15 = .ok (.aload_n 0, 1) ∧ decode cX10_qDropsToBracket 16 = .ok (.getfield 372, 3) ∧ decode cX10_qDropsToBracket 19 = .ok (.iconst 1, 1) ∧ decode cX10_qDropsToBracket 20 = .ok (.isub, 1) ∧ decode cX10_qDropsToBracket 21 = .ok (.iaload, 1) ∧ decode cX10_qDropsToBracket 22 = .ok (.invokestatic 611, 3) ∧ decode cX10_qDropsToBracket 25 = .ok (.ifCond .ne 10, 3) ∧ decode cX10_qDropsToBracket 28 = .ok (.aload_n 0, 1) ∧ decode cX10_qDropsToBracket 29 = .ok (.invokevirtual 614, 3) := by decide +kernel
theorem dX10_qDropsToBracket_0 : decode cX10_qDropsToBracket 0 = .ok (.aload_n 0, 1) := dk_dX10_qDropsToBracket_0.1
theorem dX10_qDropsToBracket_1 : decode cX10_qDropsToBracket 1 = .ok (.getfield 372, 3) := dk_dX10_qDropsToBracket_0.2.1
theorem dX10_qDropsToBracket_4 : decode cX10_qDropsToBracket 4 = .ok (.aload_n 0, 1) := dk_dX10_qDropsToBracket_0.2.2.1
theorem dX10_qDropsToBracket_5 : decode cX10_qDropsToBracket 5 = .ok (.getfield 378, 3) := dk_dX10_qDropsToBracket_0.2.2.2.1
theorem dX10_qDropsToBracket_8 : decode cX10_qDropsToBracket 8 = .ok (.if_icmp .le 27, 3) := dk_dX10_qDropsToBracket_0.2.2.2.2.1
theorem dX10_qDropsToBracket_11 : decode cX10_qDropsToBracket 11 = .ok (.aload_n 0, 1) := dk_dX10_qDropsToBracket_0.2.2.2.2.2.1
theorem dX10_qDropsToBracket_12 : decode cX10_qDropsToBracket 12 = .ok (.getfield 267, 3) := dk_dX10_qDropsToBracket_0.2.2.2.2.2.2.1
theorem dX10_qDropsToBracket_15 : decode cX10_qDropsToBracket 15 = .ok (.aload_n 0, 1) := dk_dX10_qDropsToBracket_0.2.2.2.2.2.2.2.1
theorem dX10_qDropsToBracket_16 : decode cX10_qDropsToBracket 16 = .ok (.getfield 372, 3) := dk_dX10_qDropsToBracket_0.2.2.2.2.2.2.2.2.1
theorem dX10_qDropsToBracket_19 : decode cX10_qDropsToBracket 19 = .ok (.iconst 1, 1) := dk_dX10_qDropsToBracket_0.2.2.2.2.2.2.2.2.2.1
theorem dX10_qDropsToBracket_20 : decode cX10_qDropsToBracket 20 = .ok (.isub, 1) := dk_dX10_qDropsToBracket_0.2.2.2.2.2.2.2.2.2.2.1
theorem dX10_qDropsToBracket_21 : decode cX10_qDropsToBracket 21 = .ok (.iaload, 1) := dk_dX10_qDropsToBracket_0.2.2.2.2.2.2.2.2.2.2.2.1
theorem dX10_qDropsToBracket_22 : decode cX10_qDropsToBracket 22 = .ok (.invokestatic 611, 3) := dk_dX10_qDropsToBracket_0.2.2.2.2.2.2.2.2.2.2.2.2.1
theorem dX10_qDropsToBracket_25 : decode cX10_qDropsToBracket 25 = .ok (.ifCond .ne 10, 3) := dk_dX10_qDropsToBracket_0.2.2.2.2.2.2.2.2.2.2.2.2.2.1
theorem dX10_qDropsToBracket_28 : decode cX10_qDropsToBracket 28 = .ok (.aload_n 0, 1) := dk_dX10_qDropsToBracket_0.2.2.2.2.2.2.2.2.2.2.2.2.2.2.1
theorem dX10_qDropsToBracket_29 : decode cX10_qDropsToBracket 29 = .ok (.invokevirtual 614, 3) := dk_dX10_qDropsToBracket_0.2.2.2.2.2.2.2.2.2.2.2.2.2.2.2
theorem dk_dX10_qDropsToBracket_32 : decode cX10_qDropsToBracket 32 = .ok (.goto (-32), 3) ∧ decode cX10_qDropsToBracket 35 = .ok (.return_, 1) := by decide +kernel
theorem dX10_qDropsToBracket_32 : decode cX10_qDropsToBracket 32 = .ok (.goto (-32), 3) := dk_dX10_qDropsToBracket_32.1
theorem dX10_qDropsToBracket_35 : decode cX10_qDropsToBracket 35 = .ok (.return_, 1) := dk_dX10_qDropsToBracket_32.2
theorem dk_dX10_qEndsPart_0 : decode cX10_qEndsPart 0 = .ok (.aload_n 0, 1) ∧ decode cX10_qEndsPart 1 = .ok (.getfield 279, 3) ∧ decode cX10_qEndsPart 4 = .ok (.ifCond .ne 47, 3) ∧ decode cX10_qEndsPart 7 = .ok (.aload_n 0, 1) ∧ decode cX10_qEndsPart 8 = .ok (.getfield 372, 3) ∧ decode cX10_qEndsPart 11 = .ok (.aload_n 0, 1) ∧ decode cX10_qEndsPart 12 = .ok (.getfield 378, 3) ∧ decode cX10_qEndsPart 15 = .ok (.if_icmp .le 36, 3) ∧ decode cX10_qEndsPart 18 = .ok (.aload_n 0, 1) ∧ decode cX10_qEndsPart 19 = .ok (.getfield 267, 3) ∧ decode cX10_qEndsPart 22 = .ok (.aload_n 0, 1) ∧ decode cX10_qEndsPart 23 = .ok (.getfield 372, 3) ∧ decode cX10_qEndsPart 26 = .ok (.iconst 1, 1) ∧ decode cX10_qEndsPart 27 = .ok (.isub, 1) ∧ decode cX10_qEndsPart 28 = .ok (.iaload, 1) ∧ decode cX10_qEndsPart 29 = .ok (.bipush 60, 2) := by decide +kernel
theorem dX10_qEndsPart_0 : decode cX10_qEndsPart 0 = .ok (.aload_n 0, 1) := dk_dX10_qEndsPart_0.1
theorem dX10_qEndsPart_1 : decode cX10_qEndsPart 1 = .ok (.getfield 279, 3) := dk_dX10_qEndsPart_0.2.1
theorem dX10_qEndsPart_4 : decode cX10_qEndsPart 4 = .ok (.ifCond .ne 47, 3) := dk_dX10_qEndsPart_0.2.2.1
theorem dX10_qEndsPart_7 : decode cX10_qEndsPart 7 = .ok (.aload_n 0, 1) := dk_dX10_qEndsPart_0.2.2.2.1
theorem dX10_qEndsPart_8 : decode cX10_qEndsPart 8 = .ok (.getfield 372, 3) := dk_dX10_qEndsPart_0.2.2.2.2.1
theorem dX10_qEndsPart_11 : decode cX10_qEndsPart 11 = .ok (.aload_n 0, 1) := dk_dX10_qEndsPart_0.2.2.2.2.2.1
theorem dX10_qEndsPart_12 : decode cX10_qEndsPart 12 = .ok (.getfield 378, 3) := dk_dX10_qEndsPart_0.2.2.2.2.2.2.1
theorem dX10_qEndsPart_15 : decode cX10_qEndsPart 15 = .ok (.if_icmp .le 36, 3) := dk_dX10_qEndsPart_0.2.2.2.2.2.2.2.1
theorem dX10_qEndsPart_18 : decode cX10_qEndsPart 18 = .ok (.aload_n 0, 1) := dk_dX10_qEndsPart_0.2.2.2.2.2.2.2.2.1
theorem dX10_qEndsPart_19 : decode cX10_qEndsPart 19 = .ok (.getfield 267, 3) := dk_dX10_qEndsPart_0.2.2.2.2.2.2.2.2.2.1
theorem dX10_qEndsPart_22 : decode cX10_qEndsPart 22 = .ok (.aload_n 0, 1) := dk_dX10_qEndsPart_0.2.2.2.2.2.2.2.2.2.2.1
theorem dX10_qEndsPart_23 : decode cX10_qEndsPart 23 = .ok (.getfield 372, 3) := dk_dX10_qEndsPart_0.2.2.2.2.2.2.2.2.2.2.2.1
theorem dX10_qEndsPart_26 : decode cX10_qEndsPart 26 = .ok (.iconst 1, 1) := dk_dX10_qEndsPart_0.2.2.2.2.2.2.2.2.2.2.2.2.1
theorem dX10_qEndsPart_27 : decode cX10_qEndsPart 27 = .ok (.isub, 1) := dk_dX10_qEndsPart_0.2.2.2.2.2.2.2.2.2.2.2.2.2.1
theorem dX10_qEndsPart_28 : decode cX10_qEndsPart 28 = .ok (.iaload, 1) := dk_dX10_qEndsPart_0.2.2.2.2.2.2.2.2.2.2.2.2.2.2.1
theorem dX10_qEndsPart_29 : decode cX10_qEndsPart 29 = .ok (.bipush 60, 2) := dk_dX10_qEndsPart_0.2.2.2.2.2.2.2.2.2.2.2.2.2.2.2
theorem dk_dX10_qEndsPart_31 : decode cX10_qEndsPart 31 = .ok (.if_icmp .lt 20, 3) ∧ decode cX10_qEndsPart 34 = .ok (.aload_n 0, 1) ∧ decode cX10_qEndsPart 35 = .ok (.dup, 1) ∧ decode cX10_qEndsPart 36 = .ok (.getfield 375, 3) ∧ decode cX10_qEndsPart 39 = .ok (.iconst 1, 1) ∧ decode cX10_qEndsPart 40 = .ok (.isub, 1) ∧ decode cX10_qEndsPart 41 = .ok (.putfield 375, 3) ∧ decode cX10_qEndsPart 44 = .ok (.aload_n 0, 1) ∧ decode cX10_qEndsPart 45 = .ok (.invokevirtual 614, 3) ∧ decode cX10_qEndsPart 48 = .ok (.goto (-48), 3) ∧ decode cX10_qEndsPart 51 = .ok (.return_, 1) := by decide +kernel
theorem dX10_qEndsPart_31 : decode cX10_qEndsPart 31 = .ok (.if_icmp .lt 20, 3) := dk_dX10_qEndsPart_31.1
theorem dX10_qEndsPart_34 : decode cX10_qEndsPart 34 = .ok (.aload_n 0, 1) := dk_dX10_qEndsPart_31.2.1
theorem dX10_qEndsPart_35 : decode cX10_qEndsPart 35 = .ok (.dup, 1) := dk_dX10_qEndsPart_31.2.2.1
theorem dX10_qEndsPart_36 : decode cX10_qEndsPart 36 = .ok (.getfield 375, 3) := dk_dX10_qEndsPart_31.2.2.2.1
theorem dX10_qEndsPart_39 : decode cX10_qEndsPart 39 = .ok (.iconst 1, 1) := dk_dX10_qEndsPart_31.2.2.2.2.1
theorem dX10_qEndsPart_40 : decode cX10_qEndsPart 40 = .ok (.isub, 1) := dk_dX10_qEndsPart_31.2.2.2.2.2.1
theorem dX10_qEndsPart_41 : decode cX10_qEndsPart 41 = .ok (.putfield 375, 3) := dk_dX10_qEndsPart_31.2.2.2.2.2.2.1
theorem dX10_qEndsPart_44 : decode cX10_qEndsPart 44 = .ok (.aload_n 0, 1) := dk_dX10_qEndsPart_31.2.2.2.2.2.2.2.1
theorem dX10_qEndsPart_45 : decode cX10_qEndsPart 45 = .ok (.invokevirtual 614, 3) := dk_dX10_qEndsPart_31.2.2.2.2.2.2.2.2.1
theorem dX10_qEndsPart_48 : decode cX10_qEndsPart 48 = .ok (.goto (-48), 3) := dk_dX10_qEndsPart_31.2.2.2.2.2.2.2.2.2.1
theorem dX10_qEndsPart_51 : decode cX10_qEndsPart 51 = .ok (.return_, 1) := dk_dX10_qEndsPart_31.2.2.2.2.2.2.2.2.2.2
theorem dk_dX10_qFact_0 : decode cX10_qFact 0 = .ok (.aload_n 0, 1) ∧ decode cX10_qFact 1 = .ok (.aload_n 0, 1) ∧ decode cX10_qFact 2 = .ok (.getfield 216, 3) ∧ decode cX10_qFact 5 = .ok (.invokevirtual 305, 3) ∧ decode cX10_qFact 8 = .ok (.ifCond .eq 10, 3) ∧ decode cX10_qFact 11 = .ok (.aload_n 0, 1) ∧ decode cX10_qFact 12 = .ok (.bipush 13, 2) ∧ decode cX10_qFact 14 = .ok (.invokevirtual 608, 3) ∧ decode cX10_qFact 17 = .ok (.return_, 1) ∧ decode cX10_qFact 18 = .ok (.aload_n 0, 1) ∧ decode cX10_qFact 19 = .ok (.invokevirtual 381, 3) ∧ decode cX10_qFact 22 = .ok (.aload_n 0, 1) ∧ decode cX10_qFact 23 = .ok (.getfield 279, 3) ∧ decode cX10_qFact 26 = .ok (.ifCond .eq 4, 3) ∧ decode cX10_qFact 29 = .ok (.return_, 1) ∧ decode cX10_qFact 30 = .ok (.aload_n 0, 1) := by decide +kernel
theorem dX10_qFact_0 : decode cX10_qFact 0 = .ok (.aload_n 0, 1) := dk_dX10_qFact_0.1
theorem dX10_qFact_1 : decode cX10_qFact 1 = .ok (.aload_n 0, 1) := dk_dX10_qFact_0.2.1
theorem dX10_qFact_2 : decode cX10_qFact 2 = .ok (.getfield 216, 3) := dk_dX10_qFact_0.2.2.1
theorem dX10_qFact_5 : decode cX10_qFact 5 = .ok (.invokevirtual 305, 3) := dk_dX10_qFact_0.2.2.2.1
theorem dX10_qFact_8 : decode cX10_qFact 8 = .ok (.ifCond .eq 10, 3) := dk_dX10_qFact_0.2.2.2.2.1
theorem dX10_qFact_11 : decode cX10_qFact 11 = .ok (.aload_n 0, 1) := dk_dX10_qFact_0.2.2.2.2.2.1
theorem dX10_qFact_12 : decode cX10_qFact 12 = .ok (.bipush 13, 2) := dk_dX10_qFact_0.2.2.2.2.2.2.1
theorem dX10_qFact_14 : decode cX10_qFact 14 = .ok (.invokevirtual 608, 3) := dk_dX10_qFact_0.2.2.2.2.2.2.2.1
theorem dX10_qFact_17 : decode cX10_qFact 17 = .ok (.return_, 1) := dk_dX10_qFact_0.2.2.2.2.2.2.2.2.1
theorem dX10_qFact_18 : decode cX10_qFact 18 = .ok (.aload_n 0, 1) := dk_dX10_qFact_0.2.2.2.2.2.2.2.2.2.1
theorem dX10_qFact_19 : decode cX10_qFact 19 = .ok (.invokevirtual 381, 3) := dk_dX10_qFact_0.2.2.2.2.2.2.2.2.2.2.1
theorem dX10_qFact_22 : decode cX10_qFact 22 = .ok (.aload_n 0, 1) := dk_dX10_qFact_0.2.2.2.2.2.2.2.2.2.2.2.1
theorem dX10_qFact_23 : decode cX10_qFact 23 = .ok (.getfield 279, 3) := dk_dX10_qFact_0.2.2.2.2.2.2.2.2.2.2.2.2.1
theorem dX10_qFact_26 : decode cX10_qFact 26 = .ok (.ifCond .eq 4, 3) := dk_dX10_qFact_0.2.2.2.2.2.2.2.2.2.2.2.2.2.1
theorem dX10_qFact_29 : decode cX10_qFact 29 = .ok (.return_, 1) := dk_dX10_qFact_0.2.2.2.2.2.2.2.2.2.2.2.2.2.2.1
theorem dX10_qFact_30 : decode cX10_qFact 30 = .ok (.aload_n 0, 1) := dk_dX10_qFact_0.2.2.2.2.2.2.2.2.2.2.2.2.2.2.2
theorem dk_dX10_qFact_31 : decode cX10_qFact 31 = .ok (.invokevirtual 291, 3) ∧ decode cX10_qFact 34 = .ok (.istore_n 1, 1) ∧ decode cX10_qFact 35 = .ok (.iload_n 1, 1) ∧ decode cX10_qFact 36 = .ok (.bipush 60, 2) ∧ decode cX10_qFact 38 = .ok (.if_icmp .eq 25, 3) ∧ decode cX10_qFact 41 = .ok (.iload_n 1, 1) ∧ decode cX10_qFact 42 = .ok (.bipush 62, 2) ∧ decode cX10_qFact 44 = .ok (.if_icmp .eq 19, 3) ∧ decode cX10_qFact 47 = .ok (.iload_n 1, 1) ∧ decode cX10_qFact 48 = .ok (.bipush 61, 2) ∧ decode cX10_qFact 50 = .ok (.if_icmp .eq 13, 3) ∧ decode cX10_qFact 53 = .ok (.aload_n 0, 1) ∧ decode cX10_qFact 54 = .ok (.iconst 1, 1) ∧ decode cX10_qFact 55 = .ok (.aload_n 0, 1) ∧ decode cX10_qFact 56 = .ok (.getfield 285, 3) ∧ decode cX10_qFact 59 = .ok (.invokevirtual 308, 3) := by decide +kernel
theorem dX10_qFact_31 : decode cX10_qFact 31 = .ok (.invokevirtual 291, 3) := dk_dX10_qFact_31.1
theorem dX10_qFact_34 : decode cX10_qFact 34 = .ok (.istore_n 1, 1) := dk_dX10_qFact_31.2.1
theorem dX10_qFact_35 : decode cX10_qFact 35 = .ok (.iload_n 1, 1) := dk_dX10_qFact_31.2.2.1
theorem dX10_qFact_36 : decode cX10_qFact 36 = .ok (.bipush 60, 2) := dk_dX10_qFact_31.2.2.2.1
theorem dX10_qFact_38 : decode cX10_qFact 38 = .ok (.if_icmp .eq 25, 3) := dk_dX10_qFact_31.2.2.2.2.1
theorem dX10_qFact_41 : decode cX10_qFact 41 = .ok (.iload_n 1, 1) := dk_dX10_qFact_31.2.2.2.2.2.1
theorem dX10_qFact_42 : decode cX10_qFact 42 = .ok (.bipush 62, 2) := dk_dX10_qFact_31.2.2.2.2.2.2.1
theorem dX10_qFact_44 : decode cX10_qFact 44 = .ok (.if_icmp .eq 19, 3) := dk_dX10_qFact_31.2.2.2.2.2.2.2.1
theorem dX10_qFact_47 : decode cX10_qFact 47 = .ok (.iload_n 1, 1) := dk_dX10_qFact_31.2.2.2.2.2.2.2.2.1
theorem dX10_qFact_48 : decode cX10_qFact 48 = .ok (.bipush 61, 2) := dk_dX10_qFact_31.2.2.2.2.2.2.2.2.2.1
theorem dX10_qFact_50 : decode cX10_qFact 50 = .ok (.if_icmp .eq 13, 3) := dk_dX10_qFact_31.2.2.2.2.2.2.2.2.2.2.1
theorem dX10_qFact_53 : decode cX10_qFact 53 = .ok (.aload_n 0, 1) := dk_dX10_qFact_31.2.2.2.2.2.2.2.2.2.2.2.1
theorem dX10_qFact_54 : decode cX10_qFact 54 = .ok (.iconst 1, 1) := dk_dX10_qFact_31.2.2.2.2.2.2.2.2.2.2.2.2.1
theorem dX10_qFact_55 : decode cX10_qFact 55 = .ok (.aload_n 0, 1) := dk_dX10_qFact_31.2.2.2.2.2.2.2.2.2.2.2.2.2.1
theorem dX10_qFact_56 : decode cX10_qFact 56 = .ok (.getfield 285, 3) := dk_dX10_qFact_31.2.2.2.2.2.2.2.2.2.2.2.2.2.2.1
theorem dX10_qFact_59 : decode cX10_qFact 59 = .ok (.invokevirtual 308, 3) := dk_dX10_qFact_31.2.2.2.2.2.2.2.2.2.2.2.2.2.2.2
theorem dk_dX10_qFact_62 : decode cX10_qFact 62 = .ok (.return_, 1) ∧ decode cX10_qFact 63 = .ok (.aload_n 0, 1) ∧ decode cX10_qFact 64 = .ok (.dup, 1) ∧ decode cX10_qFact 65 = .ok (.getfield 285, 3) ∧ decode cX10_qFact 68 = .ok (.iconst 1, 1) ∧ decode cX10_qFact 69 = .ok (.iadd, 1) ∧ decode cX10_qFact 70 = .ok (.putfield 285, 3) ∧ decode cX10_qFact 73 = .ok (.aload_n 0, 1) ∧ decode cX10_qFact 74 = .ok (.invokevirtual 381, 3) ∧ decode cX10_qFact 77 = .ok (.aload_n 0, 1) ∧ decode cX10_qFact 78 = .ok (.iload_n 1, 1) ∧ decode cX10_qFact 79 = .ok (.bipush 60, 2) ∧ decode cX10_qFact 81 = .ok (.if_icmp .ne 8, 3) ∧ decode cX10_qFact 84 = .ok (.bipush 7, 2) ∧ decode cX10_qFact 86 = .ok (.goto 16, 3) ∧ decode cX10_qFact 89 = .ok (.iload_n 1, 1) := by decide +kernel
theorem dX10_qFact_62 : decode cX10_qFact 62 = .ok (.return_, 1) := dk_dX10_qFact_62.1
theorem dX10_qFact_63 : decode cX10_qFact 63 = .ok (.aload_n 0, 1) := dk_dX10_qFact_62.2.1
theorem dX10_qFact_64 : decode cX10_qFact 64 = .ok (.dup, 1) := dk_dX10_qFact_62.2.2.1
theorem dX10_qFact_65 : decode cX10_qFact 65 = .ok (.getfield 285, 3) := dk_dX10_qFact_62.2.2.2.1
theorem dX10_qFact_68 : decode cX10_qFact 68 = .ok (.iconst 1, 1) := dk_dX10_qFact_62.2.2.2.2.1
theorem dX10_qFact_69 : decode cX10_qFact 69 = .ok (.iadd, 1) := dk_dX10_qFact_62.2.2.2.2.2.1
theorem dX10_qFact_70 : decode cX10_qFact 70 = .ok (.putfield 285, 3) := dk_dX10_qFact_62.2.2.2.2.2.2.1
theorem dX10_qFact_73 : decode cX10_qFact 73 = .ok (.aload_n 0, 1) := dk_dX10_qFact_62.2.2.2.2.2.2.2.1
theorem dX10_qFact_74 : decode cX10_qFact 74 = .ok (.invokevirtual 381, 3) := dk_dX10_qFact_62.2.2.2.2.2.2.2.2.1
theorem dX10_qFact_77 : decode cX10_qFact 77 = .ok (.aload_n 0, 1) := dk_dX10_qFact_62.2.2.2.2.2.2.2.2.2.1
theorem dX10_qFact_78 : decode cX10_qFact 78 = .ok (.iload_n 1, 1) := dk_dX10_qFact_62.2.2.2.2.2.2.2.2.2.2.1
theorem dX10_qFact_79 : decode cX10_qFact 79 = .ok (.bipush 60, 2) := dk_dX10_qFact_62.2.2.2.2.2.2.2.2.2.2.2.1
theorem dX10_qFact_81 : decode cX10_qFact 81 = .ok (.if_icmp .ne 8, 3) := dk_dX10_qFact_62.2.2.2.2.2.2.2.2.2.2.2.2.1
theorem dX10_qFact_84 : decode cX10_qFact 84 = .ok (.bipush 7, 2) := dk_dX10_qFact_62.2.2.2.2.2.2.2.2.2.2.2.2.2.1
theorem dX10_qFact_86 : decode cX10_qFact 86 = .ok (.goto 16, 3) := dk_dX10_qFact_62.2.2.2.2.2.2.2.2.2.2.2.2.2.2.1
theorem dX10_qFact_89 : decode cX10_qFact 89 = .ok (.iload_n 1, 1) := dk_dX10_qFact_62.2.2.2.2.2.2.2.2.2.2.2.2.2.2.2
theorem dk_dX10_qFact_90 : decode cX10_qFact 90 = .ok (.bipush 62, 2) ∧ decode cX10_qFact 92 = .ok (.if_icmp .ne 8, 3) ∧ decode cX10_qFact 95 = .ok (.bipush 8, 2) ∧ decode cX10_qFact 97 = .ok (.goto 5, 3) ∧ decode cX10_qFact 100 = .ok (.bipush 9, 2) ∧ decode cX10_qFact 102 = .ok (.invokevirtual 608, 3) ∧ decode cX10_qFact 105 = .ok (.return_, 1) := by decide +kernel
theorem dX10_qFact_90 : decode cX10_qFact 90 = .ok (.bipush 62, 2) := dk_dX10_qFact_90.1
theorem dX10_qFact_92 : decode cX10_qFact 92 = .ok (.if_icmp .ne 8, 3) := dk_dX10_qFact_90.2.1
theorem dX10_qFact_95 : decode cX10_qFact 95 = .ok (.bipush 8, 2) := dk_dX10_qFact_90.2.2.1
theorem dX10_qFact_97 : decode cX10_qFact 97 = .ok (.goto 5, 3) := dk_dX10_qFact_90.2.2.2.1
theorem dX10_qFact_100 : decode cX10_qFact 100 = .ok (.bipush 9, 2) := dk_dX10_qFact_90.2.2.2.2.1
theorem dX10_qFact_102 : decode cX10_qFact 102 = .ok (.invokevirtual 608, 3) := dk_dX10_qFact_90.2.2.2.2.2.1
theorem dX10_qFact_105 : decode cX10_qFact 105 = .ok (.return_, 1) := dk_dX10_qFact_90.2.2.2.2.2.2
theorem dk_dX10_qFloor_0 : decode cX10_qFloor 0 = .ok (.lload_n 2, 1) ∧ decode cX10_qFloor 1 = .ok (.lconst 0, 1) ∧ decode cX10_qFloor 2 = .ok (.lcmp, 1) ∧ decode cX10_qFloor 3 = .ok (.ifCond .ne 5, 3) ∧ decode cX10_qFloor 6 = .ok (.lconst 0, 1) ∧ decode cX10_qFloor 7 = .ok (.lreturn, 1) ∧ decode cX10_qFloor 8 = .ok (.lload_n 0, 1) ∧ decode cX10_qFloor 9 = .ok (.lload_n 2, 1) ∧ decode cX10_qFloor 10 = .ok (.ldiv, 1) ∧ decode cX10_qFloor 11 = .ok (.lstore 4, 2) ∧ decode cX10_qFloor 13 = .ok (.lload_n 0, 1) ∧ decode cX10_qFloor 14 = .ok (.lload_n 2, 1) ∧ decode cX10_qFloor 15 = .ok (.lrem, 1) ∧ decode cX10_qFloor 16 = .ok (.lconst 0, 1) ∧ decode cX10_qFloor 17 = .ok (.lcmp, 1) ∧ decode cX10_qFloor 18 = .ok (.ifCond .eq 35, 3) := by decide +kernel
theorem dX10_qFloor_0 : decode cX10_qFloor 0 = .ok (.lload_n 2, 1) := dk_dX10_qFloor_0.1
theorem dX10_qFloor_1 : decode cX10_qFloor 1 = .ok (.lconst 0, 1) := dk_dX10_qFloor_0.2.1
theorem dX10_qFloor_2 : decode cX10_qFloor 2 = .ok (.lcmp, 1) := dk_dX10_qFloor_0.2.2.1
theorem dX10_qFloor_3 : decode cX10_qFloor 3 = .ok (.ifCond .ne 5, 3) := dk_dX10_qFloor_0.2.2.2.1
theorem dX10_qFloor_6 : decode cX10_qFloor 6 = .ok (.lconst 0, 1) := dk_dX10_qFloor_0.2.2.2.2.1
theorem dX10_qFloor_7 : decode cX10_qFloor 7 = .ok (.lreturn, 1) := dk_dX10_qFloor_0.2.2.2.2.2.1
theorem dX10_qFloor_8 : decode cX10_qFloor 8 = .ok (.lload_n 0, 1) := dk_dX10_qFloor_0.2.2.2.2.2.2.1
theorem dX10_qFloor_9 : decode cX10_qFloor 9 = .ok (.lload_n 2, 1) := dk_dX10_qFloor_0.2.2.2.2.2.2.2.1
theorem dX10_qFloor_10 : decode cX10_qFloor 10 = .ok (.ldiv, 1) := dk_dX10_qFloor_0.2.2.2.2.2.2.2.2.1
theorem dX10_qFloor_11 : decode cX10_qFloor 11 = .ok (.lstore 4, 2) := dk_dX10_qFloor_0.2.2.2.2.2.2.2.2.2.1
theorem dX10_qFloor_13 : decode cX10_qFloor 13 = .ok (.lload_n 0, 1) := dk_dX10_qFloor_0.2.2.2.2.2.2.2.2.2.2.1
theorem dX10_qFloor_14 : decode cX10_qFloor 14 = .ok (.lload_n 2, 1) := dk_dX10_qFloor_0.2.2.2.2.2.2.2.2.2.2.2.1
theorem dX10_qFloor_15 : decode cX10_qFloor 15 = .ok (.lrem, 1) := dk_dX10_qFloor_0.2.2.2.2.2.2.2.2.2.2.2.2.1
theorem dX10_qFloor_16 : decode cX10_qFloor 16 = .ok (.lconst 0, 1) := dk_dX10_qFloor_0.2.2.2.2.2.2.2.2.2.2.2.2.2.1
theorem dX10_qFloor_17 : decode cX10_qFloor 17 = .ok (.lcmp, 1) := dk_dX10_qFloor_0.2.2.2.2.2.2.2.2.2.2.2.2.2.2.1
theorem dX10_qFloor_18 : decode cX10_qFloor 18 = .ok (.ifCond .eq 35, 3) := dk_dX10_qFloor_0.2.2.2.2.2.2.2.2.2.2.2.2.2.2.2
theorem dk_dX10_qFloor_21 : decode cX10_qFloor 21 = .ok (.lload_n 0, 1) ∧ decode cX10_qFloor 22 = .ok (.lconst 0, 1) ∧ decode cX10_qFloor 23 = .ok (.lcmp, 1) ∧ decode cX10_qFloor 24 = .ok (.ifCond .ge 7, 3) ∧ decode cX10_qFloor 27 = .ok (.iconst 1, 1) ∧ decode cX10_qFloor 28 = .ok (.goto 4, 3) ∧ decode cX10_qFloor 31 = .ok (.iconst 0, 1) ∧ decode cX10_qFloor 32 = .ok (.lload_n 2, 1) ∧ decode cX10_qFloor 33 = .ok (.lconst 0, 1) ∧ decode cX10_qFloor 34 = .ok (.lcmp, 1) ∧ decode cX10_qFloor 35 = .ok (.ifCond .ge 7, 3) ∧ decode cX10_qFloor 38 = .ok (.iconst 1, 1) ∧ decode cX10_qFloor 39 = .ok (.goto 4, 3) ∧ decode cX10_qFloor 42 = .ok (.iconst 0, 1) ∧ decode cX10_qFloor 43 = .ok (.if_icmp .eq 10, 3) ∧ decode cX10_qFloor 46 = .ok (.lload 4, 2) := by decide +kernel
theorem dX10_qFloor_21 : decode cX10_qFloor 21 = .ok (.lload_n 0, 1) := dk_dX10_qFloor_21.1
theorem dX10_qFloor_22 : decode cX10_qFloor 22 = .ok (.lconst 0, 1) := dk_dX10_qFloor_21.2.1
theorem dX10_qFloor_23 : decode cX10_qFloor 23 = .ok (.lcmp, 1) := dk_dX10_qFloor_21.2.2.1
theorem dX10_qFloor_24 : decode cX10_qFloor 24 = .ok (.ifCond .ge 7, 3) := dk_dX10_qFloor_21.2.2.2.1
theorem dX10_qFloor_27 : decode cX10_qFloor 27 = .ok (.iconst 1, 1) := dk_dX10_qFloor_21.2.2.2.2.1
theorem dX10_qFloor_28 : decode cX10_qFloor 28 = .ok (.goto 4, 3) := dk_dX10_qFloor_21.2.2.2.2.2.1
theorem dX10_qFloor_31 : decode cX10_qFloor 31 = .ok (.iconst 0, 1) := dk_dX10_qFloor_21.2.2.2.2.2.2.1
theorem dX10_qFloor_32 : decode cX10_qFloor 32 = .ok (.lload_n 2, 1) := dk_dX10_qFloor_21.2.2.2.2.2.2.2.1
theorem dX10_qFloor_33 : decode cX10_qFloor 33 = .ok (.lconst 0, 1) := dk_dX10_qFloor_21.2.2.2.2.2.2.2.2.1
theorem dX10_qFloor_34 : decode cX10_qFloor 34 = .ok (.lcmp, 1) := dk_dX10_qFloor_21.2.2.2.2.2.2.2.2.2.1
theorem dX10_qFloor_35 : decode cX10_qFloor 35 = .ok (.ifCond .ge 7, 3) := dk_dX10_qFloor_21.2.2.2.2.2.2.2.2.2.2.1
theorem dX10_qFloor_38 : decode cX10_qFloor 38 = .ok (.iconst 1, 1) := dk_dX10_qFloor_21.2.2.2.2.2.2.2.2.2.2.2.1
theorem dX10_qFloor_39 : decode cX10_qFloor 39 = .ok (.goto 4, 3) := dk_dX10_qFloor_21.2.2.2.2.2.2.2.2.2.2.2.2.1
theorem dX10_qFloor_42 : decode cX10_qFloor 42 = .ok (.iconst 0, 1) := dk_dX10_qFloor_21.2.2.2.2.2.2.2.2.2.2.2.2.2.1
theorem dX10_qFloor_43 : decode cX10_qFloor 43 = .ok (.if_icmp .eq 10, 3) := dk_dX10_qFloor_21.2.2.2.2.2.2.2.2.2.2.2.2.2.2.1
theorem dX10_qFloor_46 : decode cX10_qFloor 46 = .ok (.lload 4, 2) := dk_dX10_qFloor_21.2.2.2.2.2.2.2.2.2.2.2.2.2.2.2
theorem dk_dX10_qFloor_48 : decode cX10_qFloor 48 = .ok (.lconst 1, 1) ∧ decode cX10_qFloor 49 = .ok (.lsub, 1) ∧ decode cX10_qFloor 50 = .ok (.goto 5, 3) ∧ decode cX10_qFloor 53 = .ok (.lload 4, 2) ∧ decode cX10_qFloor 55 = .ok (.lreturn, 1) := by decide +kernel
theorem dX10_qFloor_48 : decode cX10_qFloor 48 = .ok (.lconst 1, 1) := dk_dX10_qFloor_48.1
theorem dX10_qFloor_49 : decode cX10_qFloor 49 = .ok (.lsub, 1) := dk_dX10_qFloor_48.2.1
theorem dX10_qFloor_50 : decode cX10_qFloor 50 = .ok (.goto 5, 3) := dk_dX10_qFloor_48.2.2.1
theorem dX10_qFloor_53 : decode cX10_qFloor 53 = .ok (.lload 4, 2) := dk_dX10_qFloor_48.2.2.2.1
theorem dX10_qFloor_55 : decode cX10_qFloor 55 = .ok (.lreturn, 1) := dk_dX10_qFloor_48.2.2.2.2
theorem dk_dX10_qGoesOn_0 : decode cX10_qGoesOn 0 = .ok (.aload_n 0, 1) ∧ decode cX10_qGoesOn 1 = .ok (.getfield 279, 3) ∧ decode cX10_qGoesOn 4 = .ok (.ifCond .ne 118, 3) ∧ decode cX10_qGoesOn 7 = .ok (.aload_n 0, 1) ∧ decode cX10_qGoesOn 8 = .ok (.invokevirtual 291, 3) ∧ decode cX10_qGoesOn 11 = .ok (.bipush 41, 2) ∧ decode cX10_qGoesOn 13 = .ok (.if_icmp .ne 109, 3) ∧ decode cX10_qGoesOn 16 = .ok (.aload_n 0, 1) ∧ decode cX10_qGoesOn 17 = .ok (.invokevirtual 635, 3) ∧ decode cX10_qGoesOn 20 = .ok (.bipush 20, 2) ∧ decode cX10_qGoesOn 22 = .ok (.if_icmp .eq 21, 3) ∧ decode cX10_qGoesOn 25 = .ok (.aload_n 0, 1) ∧ decode cX10_qGoesOn 26 = .ok (.invokevirtual 635, 3) ∧ decode cX10_qGoesOn 29 = .ok (.bipush 23, 2) ∧ decode cX10_qGoesOn 31 = .ok (.if_icmp .eq 12, 3) ∧ decode cX10_qGoesOn 34 = .ok (.aload_n 0, 1) := by decide +kernel
theorem dX10_qGoesOn_0 : decode cX10_qGoesOn 0 = .ok (.aload_n 0, 1) := dk_dX10_qGoesOn_0.1
theorem dX10_qGoesOn_1 : decode cX10_qGoesOn 1 = .ok (.getfield 279, 3) := dk_dX10_qGoesOn_0.2.1
theorem dX10_qGoesOn_4 : decode cX10_qGoesOn 4 = .ok (.ifCond .ne 118, 3) := dk_dX10_qGoesOn_0.2.2.1
theorem dX10_qGoesOn_7 : decode cX10_qGoesOn 7 = .ok (.aload_n 0, 1) := dk_dX10_qGoesOn_0.2.2.2.1
theorem dX10_qGoesOn_8 : decode cX10_qGoesOn 8 = .ok (.invokevirtual 291, 3) := dk_dX10_qGoesOn_0.2.2.2.2.1
theorem dX10_qGoesOn_11 : decode cX10_qGoesOn 11 = .ok (.bipush 41, 2) := dk_dX10_qGoesOn_0.2.2.2.2.2.1
theorem dX10_qGoesOn_13 : decode cX10_qGoesOn 13 = .ok (.if_icmp .ne 109, 3) := dk_dX10_qGoesOn_0.2.2.2.2.2.2.1
theorem dX10_qGoesOn_16 : decode cX10_qGoesOn 16 = .ok (.aload_n 0, 1) := dk_dX10_qGoesOn_0.2.2.2.2.2.2.2.1
theorem dX10_qGoesOn_17 : decode cX10_qGoesOn 17 = .ok (.invokevirtual 635, 3) := dk_dX10_qGoesOn_0.2.2.2.2.2.2.2.2.1
theorem dX10_qGoesOn_20 : decode cX10_qGoesOn 20 = .ok (.bipush 20, 2) := dk_dX10_qGoesOn_0.2.2.2.2.2.2.2.2.2.1
theorem dX10_qGoesOn_22 : decode cX10_qGoesOn 22 = .ok (.if_icmp .eq 21, 3) := dk_dX10_qGoesOn_0.2.2.2.2.2.2.2.2.2.2.1
theorem dX10_qGoesOn_25 : decode cX10_qGoesOn 25 = .ok (.aload_n 0, 1) := dk_dX10_qGoesOn_0.2.2.2.2.2.2.2.2.2.2.2.1
theorem dX10_qGoesOn_26 : decode cX10_qGoesOn 26 = .ok (.invokevirtual 635, 3) := dk_dX10_qGoesOn_0.2.2.2.2.2.2.2.2.2.2.2.2.1
theorem dX10_qGoesOn_29 : decode cX10_qGoesOn 29 = .ok (.bipush 23, 2) := dk_dX10_qGoesOn_0.2.2.2.2.2.2.2.2.2.2.2.2.2.1
theorem dX10_qGoesOn_31 : decode cX10_qGoesOn 31 = .ok (.if_icmp .eq 12, 3) := dk_dX10_qGoesOn_0.2.2.2.2.2.2.2.2.2.2.2.2.2.2.1
theorem dX10_qGoesOn_34 : decode cX10_qGoesOn 34 = .ok (.aload_n 0, 1) := dk_dX10_qGoesOn_0.2.2.2.2.2.2.2.2.2.2.2.2.2.2.2
theorem dk_dX10_qGoesOn_35 : decode cX10_qGoesOn 35 = .ok (.invokevirtual 635, 3) ∧ decode cX10_qGoesOn 38 = .ok (.bipush 24, 2) ∧ decode cX10_qGoesOn 40 = .ok (.if_icmp .ne 82, 3) ∧ decode cX10_qGoesOn 43 = .ok (.aload_n 0, 1) ∧ decode cX10_qGoesOn 44 = .ok (.dup, 1) ∧ decode cX10_qGoesOn 45 = .ok (.getfield 285, 3) ∧ decode cX10_qGoesOn 48 = .ok (.iconst 1, 1) ∧ decode cX10_qGoesOn 49 = .ok (.iadd, 1) ∧ decode cX10_qGoesOn 50 = .ok (.putfield 285, 3) ∧ decode cX10_qGoesOn 53 = .ok (.aload_n 0, 1) ∧ decode cX10_qGoesOn 54 = .ok (.invokevirtual 638, 3) ∧ decode cX10_qGoesOn 57 = .ok (.aload_n 0, 1) ∧ decode cX10_qGoesOn 58 = .ok (.dup, 1) ∧ decode cX10_qGoesOn 59 = .ok (.getfield 372, 3) ∧ decode cX10_qGoesOn 62 = .ok (.iconst 1, 1) ∧ decode cX10_qGoesOn 63 = .ok (.isub, 1) := by decide +kernel
theorem dX10_qGoesOn_35 : decode cX10_qGoesOn 35 = .ok (.invokevirtual 635, 3) := dk_dX10_qGoesOn_35.1
theorem dX10_qGoesOn_38 : decode cX10_qGoesOn 38 = .ok (.bipush 24, 2) := dk_dX10_qGoesOn_35.2.1
theorem dX10_qGoesOn_40 : decode cX10_qGoesOn 40 = .ok (.if_icmp .ne 82, 3) := dk_dX10_qGoesOn_35.2.2.1
theorem dX10_qGoesOn_43 : decode cX10_qGoesOn 43 = .ok (.aload_n 0, 1) := dk_dX10_qGoesOn_35.2.2.2.1
theorem dX10_qGoesOn_44 : decode cX10_qGoesOn 44 = .ok (.dup, 1) := dk_dX10_qGoesOn_35.2.2.2.2.1
theorem dX10_qGoesOn_45 : decode cX10_qGoesOn 45 = .ok (.getfield 285, 3) := dk_dX10_qGoesOn_35.2.2.2.2.2.1
theorem dX10_qGoesOn_48 : decode cX10_qGoesOn 48 = .ok (.iconst 1, 1) := dk_dX10_qGoesOn_35.2.2.2.2.2.2.1
theorem dX10_qGoesOn_49 : decode cX10_qGoesOn 49 = .ok (.iadd, 1) := dk_dX10_qGoesOn_35.2.2.2.2.2.2.2.1
theorem dX10_qGoesOn_50 : decode cX10_qGoesOn 50 = .ok (.putfield 285, 3) := dk_dX10_qGoesOn_35.2.2.2.2.2.2.2.2.1
theorem dX10_qGoesOn_53 : decode cX10_qGoesOn 53 = .ok (.aload_n 0, 1) := dk_dX10_qGoesOn_35.2.2.2.2.2.2.2.2.2.1
theorem dX10_qGoesOn_54 : decode cX10_qGoesOn 54 = .ok (.invokevirtual 638, 3) := dk_dX10_qGoesOn_35.2.2.2.2.2.2.2.2.2.2.1
theorem dX10_qGoesOn_57 : decode cX10_qGoesOn 57 = .ok (.aload_n 0, 1) := dk_dX10_qGoesOn_35.2.2.2.2.2.2.2.2.2.2.2.1
theorem dX10_qGoesOn_58 : decode cX10_qGoesOn 58 = .ok (.dup, 1) := dk_dX10_qGoesOn_35.2.2.2.2.2.2.2.2.2.2.2.2.1
theorem dX10_qGoesOn_59 : decode cX10_qGoesOn 59 = .ok (.getfield 372, 3) := dk_dX10_qGoesOn_35.2.2.2.2.2.2.2.2.2.2.2.2.2.1
theorem dX10_qGoesOn_62 : decode cX10_qGoesOn 62 = .ok (.iconst 1, 1) := dk_dX10_qGoesOn_35.2.2.2.2.2.2.2.2.2.2.2.2.2.2.1
theorem dX10_qGoesOn_63 : decode cX10_qGoesOn 63 = .ok (.isub, 1) := dk_dX10_qGoesOn_35.2.2.2.2.2.2.2.2.2.2.2.2.2.2.2
theorem dk_dX10_qGoesOn_64 : decode cX10_qGoesOn 64 = .ok (.putfield 372, 3) ∧ decode cX10_qGoesOn 67 = .ok (.aload_n 0, 1) ∧ decode cX10_qGoesOn 68 = .ok (.dup, 1) ∧ decode cX10_qGoesOn 69 = .ok (.getfield 375, 3) ∧ decode cX10_qGoesOn 72 = .ok (.iconst 1, 1) ∧ decode cX10_qGoesOn 73 = .ok (.isub, 1) ∧ decode cX10_qGoesOn 74 = .ok (.putfield 375, 3) ∧ decode cX10_qGoesOn 77 = .ok (.aload_n 0, 1) ∧ decode cX10_qGoesOn 78 = .ok (.getfield 267, 3) ∧ decode cX10_qGoesOn 81 = .ok (.aload_n 0, 1) ∧ decode cX10_qGoesOn 82 = .ok (.getfield 372, 3) ∧ decode cX10_qGoesOn 85 = .ok (.iaload, 1) ∧ decode cX10_qGoesOn 86 = .ok (.bipush 20, 2) ∧ decode cX10_qGoesOn 88 = .ok (.if_icmp .eq 27, 3) ∧ decode cX10_qGoesOn 91 = .ok (.aload_n 0, 1) ∧ decode cX10_qGoesOn 92 = .ok (.aload_n 0, 1) := by decide +kernel
theorem dX10_qGoesOn_64 : decode cX10_qGoesOn 64 = .ok (.putfield 372, 3) := dk_dX10_qGoesOn_64.1
theorem dX10_qGoesOn_67 : decode cX10_qGoesOn 67 = .ok (.aload_n 0, 1) := dk_dX10_qGoesOn_64.2.1
theorem dX10_qGoesOn_68 : decode cX10_qGoesOn 68 = .ok (.dup, 1) := dk_dX10_qGoesOn_64.2.2.1
theorem dX10_qGoesOn_69 : decode cX10_qGoesOn 69 = .ok (.getfield 375, 3) := dk_dX10_qGoesOn_64.2.2.2.1
theorem dX10_qGoesOn_72 : decode cX10_qGoesOn 72 = .ok (.iconst 1, 1) := dk_dX10_qGoesOn_64.2.2.2.2.1
theorem dX10_qGoesOn_73 : decode cX10_qGoesOn 73 = .ok (.isub, 1) := dk_dX10_qGoesOn_64.2.2.2.2.2.1
theorem dX10_qGoesOn_74 : decode cX10_qGoesOn 74 = .ok (.putfield 375, 3) := dk_dX10_qGoesOn_64.2.2.2.2.2.2.1
theorem dX10_qGoesOn_77 : decode cX10_qGoesOn 77 = .ok (.aload_n 0, 1) := dk_dX10_qGoesOn_64.2.2.2.2.2.2.2.1
theorem dX10_qGoesOn_78 : decode cX10_qGoesOn 78 = .ok (.getfield 267, 3) := dk_dX10_qGoesOn_64.2.2.2.2.2.2.2.2.1
theorem dX10_qGoesOn_81 : decode cX10_qGoesOn 81 = .ok (.aload_n 0, 1) := dk_dX10_qGoesOn_64.2.2.2.2.2.2.2.2.2.1
theorem dX10_qGoesOn_82 : decode cX10_qGoesOn 82 = .ok (.getfield 372, 3) := dk_dX10_qGoesOn_64.2.2.2.2.2.2.2.2.2.2.1
theorem dX10_qGoesOn_85 : decode cX10_qGoesOn 85 = .ok (.iaload, 1) := dk_dX10_qGoesOn_64.2.2.2.2.2.2.2.2.2.2.2.1
theorem dX10_qGoesOn_86 : decode cX10_qGoesOn 86 = .ok (.bipush 20, 2) := dk_dX10_qGoesOn_64.2.2.2.2.2.2.2.2.2.2.2.2.1
theorem dX10_qGoesOn_88 : decode cX10_qGoesOn 88 = .ok (.if_icmp .eq 27, 3) := dk_dX10_qGoesOn_64.2.2.2.2.2.2.2.2.2.2.2.2.2.1
theorem dX10_qGoesOn_91 : decode cX10_qGoesOn 91 = .ok (.aload_n 0, 1) := dk_dX10_qGoesOn_64.2.2.2.2.2.2.2.2.2.2.2.2.2.2.1
theorem dX10_qGoesOn_92 : decode cX10_qGoesOn 92 = .ok (.aload_n 0, 1) := dk_dX10_qGoesOn_64.2.2.2.2.2.2.2.2.2.2.2.2.2.2.2
theorem dk_dX10_qGoesOn_93 : decode cX10_qGoesOn 93 = .ok (.getfield 267, 3) ∧ decode cX10_qGoesOn 96 = .ok (.aload_n 0, 1) ∧ decode cX10_qGoesOn 97 = .ok (.getfield 372, 3) ∧ decode cX10_qGoesOn 100 = .ok (.iaload, 1) ∧ decode cX10_qGoesOn 101 = .ok (.bipush 23, 2) ∧ decode cX10_qGoesOn 103 = .ok (.if_icmp .ne 7, 3) ∧ decode cX10_qGoesOn 106 = .ok (.iconst 5, 1) ∧ decode cX10_qGoesOn 107 = .ok (.goto 5, 3) ∧ decode cX10_qGoesOn 110 = .ok (.bipush 6, 2) ∧ decode cX10_qGoesOn 112 = .ok (.invokevirtual 608, 3) ∧ decode cX10_qGoesOn 115 = .ok (.aload_n 0, 1) ∧ decode cX10_qGoesOn 116 = .ok (.invokevirtual 632, 3) ∧ decode cX10_qGoesOn 119 = .ok (.goto (-119), 3) ∧ decode cX10_qGoesOn 122 = .ok (.aload_n 0, 1) ∧ decode cX10_qGoesOn 123 = .ok (.bipush 42, 2) ∧ decode cX10_qGoesOn 125 = .ok (.invokevirtual 312, 3) := by decide +kernel
theorem dX10_qGoesOn_93 : decode cX10_qGoesOn 93 = .ok (.getfield 267, 3) := dk_dX10_qGoesOn_93.1
theorem dX10_qGoesOn_96 : decode cX10_qGoesOn 96 = .ok (.aload_n 0, 1) := dk_dX10_qGoesOn_93.2.1
theorem dX10_qGoesOn_97 : decode cX10_qGoesOn 97 = .ok (.getfield 372, 3) := dk_dX10_qGoesOn_93.2.2.1
theorem dX10_qGoesOn_100 : decode cX10_qGoesOn 100 = .ok (.iaload, 1) := dk_dX10_qGoesOn_93.2.2.2.1
theorem dX10_qGoesOn_101 : decode cX10_qGoesOn 101 = .ok (.bipush 23, 2) := dk_dX10_qGoesOn_93.2.2.2.2.1
theorem dX10_qGoesOn_103 : decode cX10_qGoesOn 103 = .ok (.if_icmp .ne 7, 3) := dk_dX10_qGoesOn_93.2.2.2.2.2.1
theorem dX10_qGoesOn_106 : decode cX10_qGoesOn 106 = .ok (.iconst 5, 1) := dk_dX10_qGoesOn_93.2.2.2.2.2.2.1
theorem dX10_qGoesOn_107 : decode cX10_qGoesOn 107 = .ok (.goto 5, 3) := dk_dX10_qGoesOn_93.2.2.2.2.2.2.2.1
theorem dX10_qGoesOn_110 : decode cX10_qGoesOn 110 = .ok (.bipush 6, 2) := dk_dX10_qGoesOn_93.2.2.2.2.2.2.2.2.1
theorem dX10_qGoesOn_112 : decode cX10_qGoesOn 112 = .ok (.invokevirtual 608, 3) := dk_dX10_qGoesOn_93.2.2.2.2.2.2.2.2.2.1
theorem dX10_qGoesOn_115 : decode cX10_qGoesOn 115 = .ok (.aload_n 0, 1) := dk_dX10_qGoesOn_93.2.2.2.2.2.2.2.2.2.2.1
theorem dX10_qGoesOn_116 : decode cX10_qGoesOn 116 = .ok (.invokevirtual 632, 3) := dk_dX10_qGoesOn_93.2.2.2.2.2.2.2.2.2.2.2.1
theorem dX10_qGoesOn_119 : decode cX10_qGoesOn 119 = .ok (.goto (-119), 3) := dk_dX10_qGoesOn_93.2.2.2.2.2.2.2.2.2.2.2.2.1
theorem dX10_qGoesOn_122 : decode cX10_qGoesOn 122 = .ok (.aload_n 0, 1) := dk_dX10_qGoesOn_93.2.2.2.2.2.2.2.2.2.2.2.2.2.1
theorem dX10_qGoesOn_123 : decode cX10_qGoesOn 123 = .ok (.bipush 42, 2) := dk_dX10_qGoesOn_93.2.2.2.2.2.2.2.2.2.2.2.2.2.2.1
theorem dX10_qGoesOn_125 : decode cX10_qGoesOn 125 = .ok (.invokevirtual 312, 3) := dk_dX10_qGoesOn_93.2.2.2.2.2.2.2.2.2.2.2.2.2.2.2
theorem dk_dX10_qGoesOn_128 : decode cX10_qGoesOn 128 = .ok (.ifCond .ne 12, 3) ∧ decode cX10_qGoesOn 131 = .ok (.aload_n 0, 1) ∧ decode cX10_qGoesOn 132 = .ok (.bipush 47, 2) ∧ decode cX10_qGoesOn 134 = .ok (.invokevirtual 312, 3) ∧ decode cX10_qGoesOn 137 = .ok (.ifCond .eq 70, 3) ∧ decode cX10_qGoesOn 140 = .ok (.aload_n 0, 1) ∧ decode cX10_qGoesOn 141 = .ok (.getfield 7, 3) ∧ decode cX10_qGoesOn 144 = .ok (.aload_n 0, 1) ∧ decode cX10_qGoesOn 145 = .ok (.getfield 285, 3) ∧ decode cX10_qGoesOn 148 = .ok (.iconst 1, 1) ∧ decode cX10_qGoesOn 149 = .ok (.isub, 1) ∧ decode cX10_qGoesOn 150 = .ok (.iaload, 1) ∧ decode cX10_qGoesOn 151 = .ok (.bipush 42, 2) ∧ decode cX10_qGoesOn 153 = .ok (.if_icmp .ne 7, 3) ∧ decode cX10_qGoesOn 156 = .ok (.iconst 3, 1) ∧ decode cX10_qGoesOn 157 = .ok (.goto 4, 3) := by decide +kernel
theorem dX10_qGoesOn_128 : decode cX10_qGoesOn 128 = .ok (.ifCond .ne 12, 3) := dk_dX10_qGoesOn_128.1
theorem dX10_qGoesOn_131 : decode cX10_qGoesOn 131 = .ok (.aload_n 0, 1) := dk_dX10_qGoesOn_128.2.1
theorem dX10_qGoesOn_132 : decode cX10_qGoesOn 132 = .ok (.bipush 47, 2) := dk_dX10_qGoesOn_128.2.2.1
theorem dX10_qGoesOn_134 : decode cX10_qGoesOn 134 = .ok (.invokevirtual 312, 3) := dk_dX10_qGoesOn_128.2.2.2.1
theorem dX10_qGoesOn_137 : decode cX10_qGoesOn 137 = .ok (.ifCond .eq 70, 3) := dk_dX10_qGoesOn_128.2.2.2.2.1
theorem dX10_qGoesOn_140 : decode cX10_qGoesOn 140 = .ok (.aload_n 0, 1) := dk_dX10_qGoesOn_128.2.2.2.2.2.1
theorem dX10_qGoesOn_141 : decode cX10_qGoesOn 141 = .ok (.getfield 7, 3) := dk_dX10_qGoesOn_128.2.2.2.2.2.2.1
theorem dX10_qGoesOn_144 : decode cX10_qGoesOn 144 = .ok (.aload_n 0, 1) := dk_dX10_qGoesOn_128.2.2.2.2.2.2.2.1
theorem dX10_qGoesOn_145 : decode cX10_qGoesOn 145 = .ok (.getfield 285, 3) := dk_dX10_qGoesOn_128.2.2.2.2.2.2.2.2.1
theorem dX10_qGoesOn_148 : decode cX10_qGoesOn 148 = .ok (.iconst 1, 1) := dk_dX10_qGoesOn_128.2.2.2.2.2.2.2.2.2.1
theorem dX10_qGoesOn_149 : decode cX10_qGoesOn 149 = .ok (.isub, 1) := dk_dX10_qGoesOn_128.2.2.2.2.2.2.2.2.2.2.1
theorem dX10_qGoesOn_150 : decode cX10_qGoesOn 150 = .ok (.iaload, 1) := dk_dX10_qGoesOn_128.2.2.2.2.2.2.2.2.2.2.2.1
theorem dX10_qGoesOn_151 : decode cX10_qGoesOn 151 = .ok (.bipush 42, 2) := dk_dX10_qGoesOn_128.2.2.2.2.2.2.2.2.2.2.2.2.1
theorem dX10_qGoesOn_153 : decode cX10_qGoesOn 153 = .ok (.if_icmp .ne 7, 3) := dk_dX10_qGoesOn_128.2.2.2.2.2.2.2.2.2.2.2.2.2.1
theorem dX10_qGoesOn_156 : decode cX10_qGoesOn 156 = .ok (.iconst 3, 1) := dk_dX10_qGoesOn_128.2.2.2.2.2.2.2.2.2.2.2.2.2.2.1
theorem dX10_qGoesOn_157 : decode cX10_qGoesOn 157 = .ok (.goto 4, 3) := dk_dX10_qGoesOn_128.2.2.2.2.2.2.2.2.2.2.2.2.2.2.2
theorem dk_dX10_qGoesOn_160 : decode cX10_qGoesOn 160 = .ok (.iconst 4, 1) ∧ decode cX10_qGoesOn 161 = .ok (.istore_n 1, 1) ∧ decode cX10_qGoesOn 162 = .ok (.aload_n 0, 1) ∧ decode cX10_qGoesOn 163 = .ok (.iconst 3, 1) ∧ decode cX10_qGoesOn 164 = .ok (.invokevirtual 641, 3) ∧ decode cX10_qGoesOn 167 = .ok (.ifCond .ne 11, 3) ∧ decode cX10_qGoesOn 170 = .ok (.aload_n 0, 1) ∧ decode cX10_qGoesOn 171 = .ok (.iconst 4, 1) ∧ decode cX10_qGoesOn 172 = .ok (.invokevirtual 641, 3) ∧ decode cX10_qGoesOn 175 = .ok (.ifCond .eq 10, 3) ∧ decode cX10_qGoesOn 178 = .ok (.aload_n 0, 1) ∧ decode cX10_qGoesOn 179 = .ok (.invokevirtual 614, 3) ∧ decode cX10_qGoesOn 182 = .ok (.goto (-20), 3) ∧ decode cX10_qGoesOn 185 = .ok (.aload_n 0, 1) ∧ decode cX10_qGoesOn 186 = .ok (.getfield 267, 3) ∧ decode cX10_qGoesOn 189 = .ok (.aload_n 0, 1) := by decide +kernel
theorem dX10_qGoesOn_160 : decode cX10_qGoesOn 160 = .ok (.iconst 4, 1) := dk_dX10_qGoesOn_160.1
theorem dX10_qGoesOn_161 : decode cX10_qGoesOn 161 = .ok (.istore_n 1, 1) := dk_dX10_qGoesOn_160.2.1
theorem dX10_qGoesOn_162 : decode cX10_qGoesOn 162 = .ok (.aload_n 0, 1) := dk_dX10_qGoesOn_160.2.2.1
theorem dX10_qGoesOn_163 : decode cX10_qGoesOn 163 = .ok (.iconst 3, 1) := dk_dX10_qGoesOn_160.2.2.2.1
theorem dX10_qGoesOn_164 : decode cX10_qGoesOn 164 = .ok (.invokevirtual 641, 3) := dk_dX10_qGoesOn_160.2.2.2.2.1
theorem dX10_qGoesOn_167 : decode cX10_qGoesOn 167 = .ok (.ifCond .ne 11, 3) := dk_dX10_qGoesOn_160.2.2.2.2.2.1
theorem dX10_qGoesOn_170 : decode cX10_qGoesOn 170 = .ok (.aload_n 0, 1) := dk_dX10_qGoesOn_160.2.2.2.2.2.2.1
theorem dX10_qGoesOn_171 : decode cX10_qGoesOn 171 = .ok (.iconst 4, 1) := dk_dX10_qGoesOn_160.2.2.2.2.2.2.2.1
theorem dX10_qGoesOn_172 : decode cX10_qGoesOn 172 = .ok (.invokevirtual 641, 3) := dk_dX10_qGoesOn_160.2.2.2.2.2.2.2.2.1
theorem dX10_qGoesOn_175 : decode cX10_qGoesOn 175 = .ok (.ifCond .eq 10, 3) := dk_dX10_qGoesOn_160.2.2.2.2.2.2.2.2.2.1
theorem dX10_qGoesOn_178 : decode cX10_qGoesOn 178 = .ok (.aload_n 0, 1) := dk_dX10_qGoesOn_160.2.2.2.2.2.2.2.2.2.2.1
theorem dX10_qGoesOn_179 : decode cX10_qGoesOn 179 = .ok (.invokevirtual 614, 3) := dk_dX10_qGoesOn_160.2.2.2.2.2.2.2.2.2.2.2.1
theorem dX10_qGoesOn_182 : decode cX10_qGoesOn 182 = .ok (.goto (-20), 3) := dk_dX10_qGoesOn_160.2.2.2.2.2.2.2.2.2.2.2.2.1
theorem dX10_qGoesOn_185 : decode cX10_qGoesOn 185 = .ok (.aload_n 0, 1) := dk_dX10_qGoesOn_160.2.2.2.2.2.2.2.2.2.2.2.2.2.1
theorem dX10_qGoesOn_186 : decode cX10_qGoesOn 186 = .ok (.getfield 267, 3) := dk_dX10_qGoesOn_160.2.2.2.2.2.2.2.2.2.2.2.2.2.2.1
theorem dX10_qGoesOn_189 : decode cX10_qGoesOn 189 = .ok (.aload_n 0, 1) := dk_dX10_qGoesOn_160.2.2.2.2.2.2.2.2.2.2.2.2.2.2.2
theorem dk_dX10_qGoesOn_190 : decode cX10_qGoesOn 190 = .ok (.getfield 372, 3) ∧ decode cX10_qGoesOn 193 = .ok (.iload_n 1, 1) ∧ decode cX10_qGoesOn 194 = .ok (.iastore, 1) ∧ decode cX10_qGoesOn 195 = .ok (.aload_n 0, 1) ∧ decode cX10_qGoesOn 196 = .ok (.dup, 1) ∧ decode cX10_qGoesOn 197 = .ok (.getfield 372, 3) ∧ decode cX10_qGoesOn 200 = .ok (.iconst 1, 1) ∧ decode cX10_qGoesOn 201 = .ok (.iadd, 1) ∧ decode cX10_qGoesOn 202 = .ok (.putfield 372, 3) ∧ decode cX10_qGoesOn 205 = .ok (.iconst 1, 1) ∧ decode cX10_qGoesOn 206 = .ok (.ireturn, 1) ∧ decode cX10_qGoesOn 207 = .ok (.aload_n 0, 1) ∧ decode cX10_qGoesOn 208 = .ok (.bipush 43, 2) ∧ decode cX10_qGoesOn 210 = .ok (.invokevirtual 312, 3) ∧ decode cX10_qGoesOn 213 = .ok (.ifCond .ne 12, 3) ∧ decode cX10_qGoesOn 216 = .ok (.aload_n 0, 1) := by decide +kernel
theorem dX10_qGoesOn_190 : decode cX10_qGoesOn 190 = .ok (.getfield 372, 3) := dk_dX10_qGoesOn_190.1
theorem dX10_qGoesOn_193 : decode cX10_qGoesOn 193 = .ok (.iload_n 1, 1) := dk_dX10_qGoesOn_190.2.1
theorem dX10_qGoesOn_194 : decode cX10_qGoesOn 194 = .ok (.iastore, 1) := dk_dX10_qGoesOn_190.2.2.1
theorem dX10_qGoesOn_195 : decode cX10_qGoesOn 195 = .ok (.aload_n 0, 1) := dk_dX10_qGoesOn_190.2.2.2.1
theorem dX10_qGoesOn_196 : decode cX10_qGoesOn 196 = .ok (.dup, 1) := dk_dX10_qGoesOn_190.2.2.2.2.1
theorem dX10_qGoesOn_197 : decode cX10_qGoesOn 197 = .ok (.getfield 372, 3) := dk_dX10_qGoesOn_190.2.2.2.2.2.1
theorem dX10_qGoesOn_200 : decode cX10_qGoesOn 200 = .ok (.iconst 1, 1) := dk_dX10_qGoesOn_190.2.2.2.2.2.2.1
theorem dX10_qGoesOn_201 : decode cX10_qGoesOn 201 = .ok (.iadd, 1) := dk_dX10_qGoesOn_190.2.2.2.2.2.2.2.1
theorem dX10_qGoesOn_202 : decode cX10_qGoesOn 202 = .ok (.putfield 372, 3) := dk_dX10_qGoesOn_190.2.2.2.2.2.2.2.2.1
theorem dX10_qGoesOn_205 : decode cX10_qGoesOn 205 = .ok (.iconst 1, 1) := dk_dX10_qGoesOn_190.2.2.2.2.2.2.2.2.2.1
theorem dX10_qGoesOn_206 : decode cX10_qGoesOn 206 = .ok (.ireturn, 1) := dk_dX10_qGoesOn_190.2.2.2.2.2.2.2.2.2.2.1
theorem dX10_qGoesOn_207 : decode cX10_qGoesOn 207 = .ok (.aload_n 0, 1) := dk_dX10_qGoesOn_190.2.2.2.2.2.2.2.2.2.2.2.1
theorem dX10_qGoesOn_208 : decode cX10_qGoesOn 208 = .ok (.bipush 43, 2) := dk_dX10_qGoesOn_190.2.2.2.2.2.2.2.2.2.2.2.2.1
theorem dX10_qGoesOn_210 : decode cX10_qGoesOn 210 = .ok (.invokevirtual 312, 3) := dk_dX10_qGoesOn_190.2.2.2.2.2.2.2.2.2.2.2.2.2.1
theorem dX10_qGoesOn_213 : decode cX10_qGoesOn 213 = .ok (.ifCond .ne 12, 3) := dk_dX10_qGoesOn_190.2.2.2.2.2.2.2.2.2.2.2.2.2.2.1
theorem dX10_qGoesOn_216 : decode cX10_qGoesOn 216 = .ok (.aload_n 0, 1) := dk_dX10_qGoesOn_190.2.2.2.2.2.2.2.2.2.2.2.2.2.2.2
theorem dk_dX10_qGoesOn_217 : decode cX10_qGoesOn 217 = .ok (.bipush 45, 2) ∧ decode cX10_qGoesOn 219 = .ok (.invokevirtual 312, 3) ∧ decode cX10_qGoesOn 222 = .ok (.ifCond .eq 86, 3) ∧ decode cX10_qGoesOn 225 = .ok (.aload_n 0, 1) ∧ decode cX10_qGoesOn 226 = .ok (.getfield 7, 3) ∧ decode cX10_qGoesOn 229 = .ok (.aload_n 0, 1) ∧ decode cX10_qGoesOn 230 = .ok (.getfield 285, 3) ∧ decode cX10_qGoesOn 233 = .ok (.iconst 1, 1) ∧ decode cX10_qGoesOn 234 = .ok (.isub, 1) ∧ decode cX10_qGoesOn 235 = .ok (.iaload, 1) ∧ decode cX10_qGoesOn 236 = .ok (.bipush 43, 2) ∧ decode cX10_qGoesOn 238 = .ok (.if_icmp .ne 7, 3) ∧ decode cX10_qGoesOn 241 = .ok (.iconst 1, 1) ∧ decode cX10_qGoesOn 242 = .ok (.goto 4, 3) ∧ decode cX10_qGoesOn 245 = .ok (.iconst 2, 1) ∧ decode cX10_qGoesOn 246 = .ok (.istore_n 1, 1) := by decide +kernel
theorem dX10_qGoesOn_217 : decode cX10_qGoesOn 217 = .ok (.bipush 45, 2) := dk_dX10_qGoesOn_217.1
theorem dX10_qGoesOn_219 : decode cX10_qGoesOn 219 = .ok (.invokevirtual 312, 3) := dk_dX10_qGoesOn_217.2.1
theorem dX10_qGoesOn_222 : decode cX10_qGoesOn 222 = .ok (.ifCond .eq 86, 3) := dk_dX10_qGoesOn_217.2.2.1
theorem dX10_qGoesOn_225 : decode cX10_qGoesOn 225 = .ok (.aload_n 0, 1) := dk_dX10_qGoesOn_217.2.2.2.1
theorem dX10_qGoesOn_226 : decode cX10_qGoesOn 226 = .ok (.getfield 7, 3) := dk_dX10_qGoesOn_217.2.2.2.2.1
theorem dX10_qGoesOn_229 : decode cX10_qGoesOn 229 = .ok (.aload_n 0, 1) := dk_dX10_qGoesOn_217.2.2.2.2.2.1
theorem dX10_qGoesOn_230 : decode cX10_qGoesOn 230 = .ok (.getfield 285, 3) := dk_dX10_qGoesOn_217.2.2.2.2.2.2.1
theorem dX10_qGoesOn_233 : decode cX10_qGoesOn 233 = .ok (.iconst 1, 1) := dk_dX10_qGoesOn_217.2.2.2.2.2.2.2.1
theorem dX10_qGoesOn_234 : decode cX10_qGoesOn 234 = .ok (.isub, 1) := dk_dX10_qGoesOn_217.2.2.2.2.2.2.2.2.1
theorem dX10_qGoesOn_235 : decode cX10_qGoesOn 235 = .ok (.iaload, 1) := dk_dX10_qGoesOn_217.2.2.2.2.2.2.2.2.2.1
theorem dX10_qGoesOn_236 : decode cX10_qGoesOn 236 = .ok (.bipush 43, 2) := dk_dX10_qGoesOn_217.2.2.2.2.2.2.2.2.2.2.1
theorem dX10_qGoesOn_238 : decode cX10_qGoesOn 238 = .ok (.if_icmp .ne 7, 3) := dk_dX10_qGoesOn_217.2.2.2.2.2.2.2.2.2.2.2.1
theorem dX10_qGoesOn_241 : decode cX10_qGoesOn 241 = .ok (.iconst 1, 1) := dk_dX10_qGoesOn_217.2.2.2.2.2.2.2.2.2.2.2.2.1
theorem dX10_qGoesOn_242 : decode cX10_qGoesOn 242 = .ok (.goto 4, 3) := dk_dX10_qGoesOn_217.2.2.2.2.2.2.2.2.2.2.2.2.2.1
theorem dX10_qGoesOn_245 : decode cX10_qGoesOn 245 = .ok (.iconst 2, 1) := dk_dX10_qGoesOn_217.2.2.2.2.2.2.2.2.2.2.2.2.2.2.1
theorem dX10_qGoesOn_246 : decode cX10_qGoesOn 246 = .ok (.istore_n 1, 1) := dk_dX10_qGoesOn_217.2.2.2.2.2.2.2.2.2.2.2.2.2.2.2
theorem dk_dX10_qGoesOn_247 : decode cX10_qGoesOn 247 = .ok (.aload_n 0, 1) ∧ decode cX10_qGoesOn 248 = .ok (.iconst 3, 1) ∧ decode cX10_qGoesOn 249 = .ok (.invokevirtual 641, 3) ∧ decode cX10_qGoesOn 252 = .ok (.ifCond .ne 27, 3) ∧ decode cX10_qGoesOn 255 = .ok (.aload_n 0, 1) ∧ decode cX10_qGoesOn 256 = .ok (.iconst 4, 1) ∧ decode cX10_qGoesOn 257 = .ok (.invokevirtual 641, 3) ∧ decode cX10_qGoesOn 260 = .ok (.ifCond .ne 19, 3) ∧ decode cX10_qGoesOn 263 = .ok (.aload_n 0, 1) ∧ decode cX10_qGoesOn 264 = .ok (.iconst 1, 1) ∧ decode cX10_qGoesOn 265 = .ok (.invokevirtual 641, 3) ∧ decode cX10_qGoesOn 268 = .ok (.ifCond .ne 11, 3) ∧ decode cX10_qGoesOn 271 = .ok (.aload_n 0, 1) ∧ decode cX10_qGoesOn 272 = .ok (.iconst 2, 1) ∧ decode cX10_qGoesOn 273 = .ok (.invokevirtual 641, 3) ∧ decode cX10_qGoesOn 276 = .ok (.ifCond .eq 10, 3) := by decide +kernel
theorem dX10_qGoesOn_247 : decode cX10_qGoesOn 247 = .ok (.aload_n 0, 1) := dk_dX10_qGoesOn_247.1
theorem dX10_qGoesOn_248 : decode cX10_qGoesOn 248 = .ok (.iconst 3, 1) := dk_dX10_qGoesOn_247.2.1
theorem dX10_qGoesOn_249 : decode cX10_qGoesOn 249 = .ok (.invokevirtual 641, 3) := dk_dX10_qGoesOn_247.2.2.1
theorem dX10_qGoesOn_252 : decode cX10_qGoesOn 252 = .ok (.ifCond .ne 27, 3) := dk_dX10_qGoesOn_247.2.2.2.1
theorem dX10_qGoesOn_255 : decode cX10_qGoesOn 255 = .ok (.aload_n 0, 1) := dk_dX10_qGoesOn_247.2.2.2.2.1
theorem dX10_qGoesOn_256 : decode cX10_qGoesOn 256 = .ok (.iconst 4, 1) := dk_dX10_qGoesOn_247.2.2.2.2.2.1
theorem dX10_qGoesOn_257 : decode cX10_qGoesOn 257 = .ok (.invokevirtual 641, 3) := dk_dX10_qGoesOn_247.2.2.2.2.2.2.1
theorem dX10_qGoesOn_260 : decode cX10_qGoesOn 260 = .ok (.ifCond .ne 19, 3) := dk_dX10_qGoesOn_247.2.2.2.2.2.2.2.1
theorem dX10_qGoesOn_263 : decode cX10_qGoesOn 263 = .ok (.aload_n 0, 1) := dk_dX10_qGoesOn_247.2.2.2.2.2.2.2.2.1
theorem dX10_qGoesOn_264 : decode cX10_qGoesOn 264 = .ok (.iconst 1, 1) := dk_dX10_qGoesOn_247.2.2.2.2.2.2.2.2.2.1
theorem dX10_qGoesOn_265 : decode cX10_qGoesOn 265 = .ok (.invokevirtual 641, 3) := dk_dX10_qGoesOn_247.2.2.2.2.2.2.2.2.2.2.1
theorem dX10_qGoesOn_268 : decode cX10_qGoesOn 268 = .ok (.ifCond .ne 11, 3) := dk_dX10_qGoesOn_247.2.2.2.2.2.2.2.2.2.2.2.1
theorem dX10_qGoesOn_271 : decode cX10_qGoesOn 271 = .ok (.aload_n 0, 1) := dk_dX10_qGoesOn_247.2.2.2.2.2.2.2.2.2.2.2.2.1
theorem dX10_qGoesOn_272 : decode cX10_qGoesOn 272 = .ok (.iconst 2, 1) := dk_dX10_qGoesOn_247.2.2.2.2.2.2.2.2.2.2.2.2.2.1
theorem dX10_qGoesOn_273 : decode cX10_qGoesOn 273 = .ok (.invokevirtual 641, 3) := dk_dX10_qGoesOn_247.2.2.2.2.2.2.2.2.2.2.2.2.2.2.1
theorem dX10_qGoesOn_276 : decode cX10_qGoesOn 276 = .ok (.ifCond .eq 10, 3) := dk_dX10_qGoesOn_247.2.2.2.2.2.2.2.2.2.2.2.2.2.2.2
theorem dk_dX10_qGoesOn_279 : decode cX10_qGoesOn 279 = .ok (.aload_n 0, 1) ∧ decode cX10_qGoesOn 280 = .ok (.invokevirtual 614, 3) ∧ decode cX10_qGoesOn 283 = .ok (.goto (-36), 3) ∧ decode cX10_qGoesOn 286 = .ok (.aload_n 0, 1) ∧ decode cX10_qGoesOn 287 = .ok (.getfield 267, 3) ∧ decode cX10_qGoesOn 290 = .ok (.aload_n 0, 1) ∧ decode cX10_qGoesOn 291 = .ok (.getfield 372, 3) ∧ decode cX10_qGoesOn 294 = .ok (.iload_n 1, 1) ∧ decode cX10_qGoesOn 295 = .ok (.iastore, 1) ∧ decode cX10_qGoesOn 296 = .ok (.aload_n 0, 1) ∧ decode cX10_qGoesOn 297 = .ok (.dup, 1) ∧ decode cX10_qGoesOn 298 = .ok (.getfield 372, 3) ∧ decode cX10_qGoesOn 301 = .ok (.iconst 1, 1) ∧ decode cX10_qGoesOn 302 = .ok (.iadd, 1) ∧ decode cX10_qGoesOn 303 = .ok (.putfield 372, 3) ∧ decode cX10_qGoesOn 306 = .ok (.iconst 1, 1) := by decide +kernel
theorem dX10_qGoesOn_279 : decode cX10_qGoesOn 279 = .ok (.aload_n 0, 1) := dk_dX10_qGoesOn_279.1
theorem dX10_qGoesOn_280 : decode cX10_qGoesOn 280 = .ok (.invokevirtual 614, 3) := dk_dX10_qGoesOn_279.2.1
theorem dX10_qGoesOn_283 : decode cX10_qGoesOn 283 = .ok (.goto (-36), 3) := dk_dX10_qGoesOn_279.2.2.1
theorem dX10_qGoesOn_286 : decode cX10_qGoesOn 286 = .ok (.aload_n 0, 1) := dk_dX10_qGoesOn_279.2.2.2.1
theorem dX10_qGoesOn_287 : decode cX10_qGoesOn 287 = .ok (.getfield 267, 3) := dk_dX10_qGoesOn_279.2.2.2.2.1
theorem dX10_qGoesOn_290 : decode cX10_qGoesOn 290 = .ok (.aload_n 0, 1) := dk_dX10_qGoesOn_279.2.2.2.2.2.1
theorem dX10_qGoesOn_291 : decode cX10_qGoesOn 291 = .ok (.getfield 372, 3) := dk_dX10_qGoesOn_279.2.2.2.2.2.2.1
theorem dX10_qGoesOn_294 : decode cX10_qGoesOn 294 = .ok (.iload_n 1, 1) := dk_dX10_qGoesOn_279.2.2.2.2.2.2.2.1
theorem dX10_qGoesOn_295 : decode cX10_qGoesOn 295 = .ok (.iastore, 1) := dk_dX10_qGoesOn_279.2.2.2.2.2.2.2.2.1
theorem dX10_qGoesOn_296 : decode cX10_qGoesOn 296 = .ok (.aload_n 0, 1) := dk_dX10_qGoesOn_279.2.2.2.2.2.2.2.2.2.1
theorem dX10_qGoesOn_297 : decode cX10_qGoesOn 297 = .ok (.dup, 1) := dk_dX10_qGoesOn_279.2.2.2.2.2.2.2.2.2.2.1
theorem dX10_qGoesOn_298 : decode cX10_qGoesOn 298 = .ok (.getfield 372, 3) := dk_dX10_qGoesOn_279.2.2.2.2.2.2.2.2.2.2.2.1
theorem dX10_qGoesOn_301 : decode cX10_qGoesOn 301 = .ok (.iconst 1, 1) := dk_dX10_qGoesOn_279.2.2.2.2.2.2.2.2.2.2.2.2.1
theorem dX10_qGoesOn_302 : decode cX10_qGoesOn 302 = .ok (.iadd, 1) := dk_dX10_qGoesOn_279.2.2.2.2.2.2.2.2.2.2.2.2.2.1
theorem dX10_qGoesOn_303 : decode cX10_qGoesOn 303 = .ok (.putfield 372, 3) := dk_dX10_qGoesOn_279.2.2.2.2.2.2.2.2.2.2.2.2.2.2.1
theorem dX10_qGoesOn_306 : decode cX10_qGoesOn 306 = .ok (.iconst 1, 1) := dk_dX10_qGoesOn_279.2.2.2.2.2.2.2.2.2.2.2.2.2.2.2
theorem dk_dX10_qGoesOn_307 : decode cX10_qGoesOn 307 = .ok (.ireturn, 1) ∧ decode cX10_qGoesOn 308 = .ok (.aload_n 0, 1) ∧ decode cX10_qGoesOn 309 = .ok (.invokevirtual 635, 3) ∧ decode cX10_qGoesOn 312 = .ok (.bipush 21, 2) ∧ decode cX10_qGoesOn 314 = .ok (.if_icmp .eq 12, 3) ∧ decode cX10_qGoesOn 317 = .ok (.aload_n 0, 1) ∧ decode cX10_qGoesOn 318 = .ok (.invokevirtual 635, 3) ∧ decode cX10_qGoesOn 321 = .ok (.bipush 22, 2) ∧ decode cX10_qGoesOn 323 = .ok (.if_icmp .ne 39, 3) ∧ decode cX10_qGoesOn 326 = .ok (.aload_n 0, 1) ∧ decode cX10_qGoesOn 327 = .ok (.bipush 44, 2) ∧ decode cX10_qGoesOn 329 = .ok (.invokevirtual 358, 3) ∧ decode cX10_qGoesOn 332 = .ok (.aload_n 0, 1) ∧ decode cX10_qGoesOn 333 = .ok (.getfield 279, 3) ∧ decode cX10_qGoesOn 336 = .ok (.ifCond .eq 5, 3) ∧ decode cX10_qGoesOn 339 = .ok (.iconst 0, 1) := by decide +kernel
theorem dX10_qGoesOn_307 : decode cX10_qGoesOn 307 = .ok (.ireturn, 1) := dk_dX10_qGoesOn_307.1
theorem dX10_qGoesOn_308 : decode cX10_qGoesOn 308 = .ok (.aload_n 0, 1) := dk_dX10_qGoesOn_307.2.1
theorem dX10_qGoesOn_309 : decode cX10_qGoesOn 309 = .ok (.invokevirtual 635, 3) := dk_dX10_qGoesOn_307.2.2.1
theorem dX10_qGoesOn_312 : decode cX10_qGoesOn 312 = .ok (.bipush 21, 2) := dk_dX10_qGoesOn_307.2.2.2.1
theorem dX10_qGoesOn_314 : decode cX10_qGoesOn 314 = .ok (.if_icmp .eq 12, 3) := dk_dX10_qGoesOn_307.2.2.2.2.1
theorem dX10_qGoesOn_317 : decode cX10_qGoesOn 317 = .ok (.aload_n 0, 1) := dk_dX10_qGoesOn_307.2.2.2.2.2.1
theorem dX10_qGoesOn_318 : decode cX10_qGoesOn 318 = .ok (.invokevirtual 635, 3) := dk_dX10_qGoesOn_307.2.2.2.2.2.2.1
theorem dX10_qGoesOn_321 : decode cX10_qGoesOn 321 = .ok (.bipush 22, 2) := dk_dX10_qGoesOn_307.2.2.2.2.2.2.2.1
theorem dX10_qGoesOn_323 : decode cX10_qGoesOn 323 = .ok (.if_icmp .ne 39, 3) := dk_dX10_qGoesOn_307.2.2.2.2.2.2.2.2.1
theorem dX10_qGoesOn_326 : decode cX10_qGoesOn 326 = .ok (.aload_n 0, 1) := dk_dX10_qGoesOn_307.2.2.2.2.2.2.2.2.2.1
theorem dX10_qGoesOn_327 : decode cX10_qGoesOn 327 = .ok (.bipush 44, 2) := dk_dX10_qGoesOn_307.2.2.2.2.2.2.2.2.2.2.1
theorem dX10_qGoesOn_329 : decode cX10_qGoesOn 329 = .ok (.invokevirtual 358, 3) := dk_dX10_qGoesOn_307.2.2.2.2.2.2.2.2.2.2.2.1
theorem dX10_qGoesOn_332 : decode cX10_qGoesOn 332 = .ok (.aload_n 0, 1) := dk_dX10_qGoesOn_307.2.2.2.2.2.2.2.2.2.2.2.2.1
theorem dX10_qGoesOn_333 : decode cX10_qGoesOn 333 = .ok (.getfield 279, 3) := dk_dX10_qGoesOn_307.2.2.2.2.2.2.2.2.2.2.2.2.2.1
theorem dX10_qGoesOn_336 : decode cX10_qGoesOn 336 = .ok (.ifCond .eq 5, 3) := dk_dX10_qGoesOn_307.2.2.2.2.2.2.2.2.2.2.2.2.2.2.1
theorem dX10_qGoesOn_339 : decode cX10_qGoesOn 339 = .ok (.iconst 0, 1) := dk_dX10_qGoesOn_307.2.2.2.2.2.2.2.2.2.2.2.2.2.2.2
theorem dk_dX10_qGoesOn_340 : decode cX10_qGoesOn 340 = .ok (.ireturn, 1) ∧ decode cX10_qGoesOn 341 = .ok (.aload_n 0, 1) ∧ decode cX10_qGoesOn 342 = .ok (.invokevirtual 638, 3) ∧ decode cX10_qGoesOn 345 = .ok (.aload_n 0, 1) ∧ decode cX10_qGoesOn 346 = .ok (.getfield 267, 3) ∧ decode cX10_qGoesOn 349 = .ok (.aload_n 0, 1) ∧ decode cX10_qGoesOn 350 = .ok (.getfield 372, 3) ∧ decode cX10_qGoesOn 353 = .ok (.iconst 1, 1) ∧ decode cX10_qGoesOn 354 = .ok (.isub, 1) ∧ decode cX10_qGoesOn 355 = .ok (.dup2, 1) ∧ decode cX10_qGoesOn 356 = .ok (.iaload, 1) ∧ decode cX10_qGoesOn 357 = .ok (.iconst 2, 1) ∧ decode cX10_qGoesOn 358 = .ok (.iadd, 1) ∧ decode cX10_qGoesOn 359 = .ok (.iastore, 1) ∧ decode cX10_qGoesOn 360 = .ok (.iconst 1, 1) ∧ decode cX10_qGoesOn 361 = .ok (.ireturn, 1) := by decide +kernel
theorem dX10_qGoesOn_340 : decode cX10_qGoesOn 340 = .ok (.ireturn, 1) := dk_dX10_qGoesOn_340.1
theorem dX10_qGoesOn_341 : decode cX10_qGoesOn 341 = .ok (.aload_n 0, 1) := dk_dX10_qGoesOn_340.2.1
theorem dX10_qGoesOn_342 : decode cX10_qGoesOn 342 = .ok (.invokevirtual 638, 3) := dk_dX10_qGoesOn_340.2.2.1
theorem dX10_qGoesOn_345 : decode cX10_qGoesOn 345 = .ok (.aload_n 0, 1) := dk_dX10_qGoesOn_340.2.2.2.1
theorem dX10_qGoesOn_346 : decode cX10_qGoesOn 346 = .ok (.getfield 267, 3) := dk_dX10_qGoesOn_340.2.2.2.2.1
theorem dX10_qGoesOn_349 : decode cX10_qGoesOn 349 = .ok (.aload_n 0, 1) := dk_dX10_qGoesOn_340.2.2.2.2.2.1
theorem dX10_qGoesOn_350 : decode cX10_qGoesOn 350 = .ok (.getfield 372, 3) := dk_dX10_qGoesOn_340.2.2.2.2.2.2.1
theorem dX10_qGoesOn_353 : decode cX10_qGoesOn 353 = .ok (.iconst 1, 1) := dk_dX10_qGoesOn_340.2.2.2.2.2.2.2.1
theorem dX10_qGoesOn_354 : decode cX10_qGoesOn 354 = .ok (.isub, 1) := dk_dX10_qGoesOn_340.2.2.2.2.2.2.2.2.1
theorem dX10_qGoesOn_355 : decode cX10_qGoesOn 355 = .ok (.dup2, 1) := dk_dX10_qGoesOn_340.2.2.2.2.2.2.2.2.2.1
theorem dX10_qGoesOn_356 : decode cX10_qGoesOn 356 = .ok (.iaload, 1) := dk_dX10_qGoesOn_340.2.2.2.2.2.2.2.2.2.2.1
theorem dX10_qGoesOn_357 : decode cX10_qGoesOn 357 = .ok (.iconst 2, 1) := dk_dX10_qGoesOn_340.2.2.2.2.2.2.2.2.2.2.2.1
theorem dX10_qGoesOn_358 : decode cX10_qGoesOn 358 = .ok (.iadd, 1) := dk_dX10_qGoesOn_340.2.2.2.2.2.2.2.2.2.2.2.2.1
theorem dX10_qGoesOn_359 : decode cX10_qGoesOn 359 = .ok (.iastore, 1) := dk_dX10_qGoesOn_340.2.2.2.2.2.2.2.2.2.2.2.2.2.1
theorem dX10_qGoesOn_360 : decode cX10_qGoesOn 360 = .ok (.iconst 1, 1) := dk_dX10_qGoesOn_340.2.2.2.2.2.2.2.2.2.2.2.2.2.2.1
theorem dX10_qGoesOn_361 : decode cX10_qGoesOn 361 = .ok (.ireturn, 1) := dk_dX10_qGoesOn_340.2.2.2.2.2.2.2.2.2.2.2.2.2.2.2
theorem dk_dX10_qGoesOn_362 : decode cX10_qGoesOn 362 = .ok (.aload_n 0, 1) ∧ decode cX10_qGoesOn 363 = .ok (.invokevirtual 635, 3) ∧ decode cX10_qGoesOn 366 = .ok (.iconst (-1), 1) ∧ decode cX10_qGoesOn 367 = .ok (.if_icmp .eq 19, 3) ∧ decode cX10_qGoesOn 370 = .ok (.aload_n 0, 1) ∧ decode cX10_qGoesOn 371 = .ok (.getfield 279, 3) ∧ decode cX10_qGoesOn 374 = .ok (.ifCond .ne 12, 3) ∧ decode cX10_qGoesOn 377 = .ok (.aload_n 0, 1) ∧ decode cX10_qGoesOn 378 = .ok (.iconst 1, 1) ∧ decode cX10_qGoesOn 379 = .ok (.aload_n 0, 1) ∧ decode cX10_qGoesOn 380 = .ok (.getfield 285, 3) ∧ decode cX10_qGoesOn 383 = .ok (.invokevirtual 308, 3) ∧ decode cX10_qGoesOn 386 = .ok (.iconst 0, 1) ∧ decode cX10_qGoesOn 387 = .ok (.ireturn, 1) := by decide +kernel
theorem dX10_qGoesOn_362 : decode cX10_qGoesOn 362 = .ok (.aload_n 0, 1) := dk_dX10_qGoesOn_362.1
theorem dX10_qGoesOn_363 : decode cX10_qGoesOn 363 = .ok (.invokevirtual 635, 3) := dk_dX10_qGoesOn_362.2.1
theorem dX10_qGoesOn_366 : decode cX10_qGoesOn 366 = .ok (.iconst (-1), 1) := dk_dX10_qGoesOn_362.2.2.1
theorem dX10_qGoesOn_367 : decode cX10_qGoesOn 367 = .ok (.if_icmp .eq 19, 3) := dk_dX10_qGoesOn_362.2.2.2.1
theorem dX10_qGoesOn_370 : decode cX10_qGoesOn 370 = .ok (.aload_n 0, 1) := dk_dX10_qGoesOn_362.2.2.2.2.1
theorem dX10_qGoesOn_371 : decode cX10_qGoesOn 371 = .ok (.getfield 279, 3) := dk_dX10_qGoesOn_362.2.2.2.2.2.1
theorem dX10_qGoesOn_374 : decode cX10_qGoesOn 374 = .ok (.ifCond .ne 12, 3) := dk_dX10_qGoesOn_362.2.2.2.2.2.2.1
theorem dX10_qGoesOn_377 : decode cX10_qGoesOn 377 = .ok (.aload_n 0, 1) := dk_dX10_qGoesOn_362.2.2.2.2.2.2.2.1
theorem dX10_qGoesOn_378 : decode cX10_qGoesOn 378 = .ok (.iconst 1, 1) := dk_dX10_qGoesOn_362.2.2.2.2.2.2.2.2.1
theorem dX10_qGoesOn_379 : decode cX10_qGoesOn 379 = .ok (.aload_n 0, 1) := dk_dX10_qGoesOn_362.2.2.2.2.2.2.2.2.2.1
theorem dX10_qGoesOn_380 : decode cX10_qGoesOn 380 = .ok (.getfield 285, 3) := dk_dX10_qGoesOn_362.2.2.2.2.2.2.2.2.2.2.1
theorem dX10_qGoesOn_383 : decode cX10_qGoesOn 383 = .ok (.invokevirtual 308, 3) := dk_dX10_qGoesOn_362.2.2.2.2.2.2.2.2.2.2.2.1
theorem dX10_qGoesOn_386 : decode cX10_qGoesOn 386 = .ok (.iconst 0, 1) := dk_dX10_qGoesOn_362.2.2.2.2.2.2.2.2.2.2.2.2.1
theorem dX10_qGoesOn_387 : decode cX10_qGoesOn 387 = .ok (.ireturn, 1) := dk_dX10_qGoesOn_362.2.2.2.2.2.2.2.2.2.2.2.2.2
theorem dk_dX10_qGoesOnTest_0 : decode cX10_qGoesOnTest 0 = .ok (.aload_n 0, 1) ∧ decode cX10_qGoesOnTest 1 = .ok (.getfield 279, 3) ∧ decode cX10_qGoesOnTest 4 = .ok (.ifCond .ne 72, 3) ∧ decode cX10_qGoesOnTest 7 = .ok (.aload_n 0, 1) ∧ decode cX10_qGoesOnTest 8 = .ok (.invokevirtual 291, 3) ∧ decode cX10_qGoesOnTest 11 = .ok (.bipush 93, 2) ∧ decode cX10_qGoesOnTest 13 = .ok (.if_icmp .ne 63, 3) ∧ decode cX10_qGoesOnTest 16 = .ok (.aload_n 0, 1) ∧ decode cX10_qGoesOnTest 17 = .ok (.invokevirtual 659, 3) ∧ decode cX10_qGoesOnTest 20 = .ok (.ifCond .eq 56, 3) ∧ decode cX10_qGoesOnTest 23 = .ok (.aload_n 0, 1) ∧ decode cX10_qGoesOnTest 24 = .ok (.dup, 1) ∧ decode cX10_qGoesOnTest 25 = .ok (.getfield 285, 3) ∧ decode cX10_qGoesOnTest 28 = .ok (.iconst 1, 1) ∧ decode cX10_qGoesOnTest 29 = .ok (.iadd, 1) ∧ decode cX10_qGoesOnTest 30 = .ok (.putfield 285, 3) := by decide +kernel
theorem dX10_qGoesOnTest_0 : decode cX10_qGoesOnTest 0 = .ok (.aload_n 0, 1) := dk_dX10_qGoesOnTest_0.1
theorem dX10_qGoesOnTest_1 : decode cX10_qGoesOnTest 1 = .ok (.getfield 279, 3) := dk_dX10_qGoesOnTest_0.2.1
theorem dX10_qGoesOnTest_4 : decode cX10_qGoesOnTest 4 = .ok (.ifCond .ne 72, 3) := dk_dX10_qGoesOnTest_0.2.2.1
theorem dX10_qGoesOnTest_7 : decode cX10_qGoesOnTest 7 = .ok (.aload_n 0, 1) := dk_dX10_qGoesOnTest_0.2.2.2.1
theorem dX10_qGoesOnTest_8 : decode cX10_qGoesOnTest 8 = .ok (.invokevirtual 291, 3) := dk_dX10_qGoesOnTest_0.2.2.2.2.1
theorem dX10_qGoesOnTest_11 : decode cX10_qGoesOnTest 11 = .ok (.bipush 93, 2) := dk_dX10_qGoesOnTest_0.2.2.2.2.2.1
theorem dX10_qGoesOnTest_13 : decode cX10_qGoesOnTest 13 = .ok (.if_icmp .ne 63, 3) := dk_dX10_qGoesOnTest_0.2.2.2.2.2.2.1
theorem dX10_qGoesOnTest_16 : decode cX10_qGoesOnTest 16 = .ok (.aload_n 0, 1) := dk_dX10_qGoesOnTest_0.2.2.2.2.2.2.2.1
theorem dX10_qGoesOnTest_17 : decode cX10_qGoesOnTest 17 = .ok (.invokevirtual 659, 3) := dk_dX10_qGoesOnTest_0.2.2.2.2.2.2.2.2.1
theorem dX10_qGoesOnTest_20 : decode cX10_qGoesOnTest 20 = .ok (.ifCond .eq 56, 3) := dk_dX10_qGoesOnTest_0.2.2.2.2.2.2.2.2.2.1
theorem dX10_qGoesOnTest_23 : decode cX10_qGoesOnTest 23 = .ok (.aload_n 0, 1) := dk_dX10_qGoesOnTest_0.2.2.2.2.2.2.2.2.2.2.1
theorem dX10_qGoesOnTest_24 : decode cX10_qGoesOnTest 24 = .ok (.dup, 1) := dk_dX10_qGoesOnTest_0.2.2.2.2.2.2.2.2.2.2.2.1
theorem dX10_qGoesOnTest_25 : decode cX10_qGoesOnTest 25 = .ok (.getfield 285, 3) := dk_dX10_qGoesOnTest_0.2.2.2.2.2.2.2.2.2.2.2.2.1
theorem dX10_qGoesOnTest_28 : decode cX10_qGoesOnTest 28 = .ok (.iconst 1, 1) := dk_dX10_qGoesOnTest_0.2.2.2.2.2.2.2.2.2.2.2.2.2.1
theorem dX10_qGoesOnTest_29 : decode cX10_qGoesOnTest 29 = .ok (.iadd, 1) := dk_dX10_qGoesOnTest_0.2.2.2.2.2.2.2.2.2.2.2.2.2.2.1
theorem dX10_qGoesOnTest_30 : decode cX10_qGoesOnTest 30 = .ok (.putfield 285, 3) := dk_dX10_qGoesOnTest_0.2.2.2.2.2.2.2.2.2.2.2.2.2.2.2
theorem dk_dX10_qGoesOnTest_33 : decode cX10_qGoesOnTest 33 = .ok (.aload_n 0, 1) ∧ decode cX10_qGoesOnTest 34 = .ok (.bipush 25, 2) ∧ decode cX10_qGoesOnTest 36 = .ok (.invokevirtual 641, 3) ∧ decode cX10_qGoesOnTest 39 = .ok (.ifCond .ne 10, 3) ∧ decode cX10_qGoesOnTest 42 = .ok (.aload_n 0, 1) ∧ decode cX10_qGoesOnTest 43 = .ok (.invokevirtual 614, 3) ∧ decode cX10_qGoesOnTest 46 = .ok (.goto (-13), 3) ∧ decode cX10_qGoesOnTest 49 = .ok (.aload_n 0, 1) ∧ decode cX10_qGoesOnTest 50 = .ok (.dup, 1) ∧ decode cX10_qGoesOnTest 51 = .ok (.getfield 372, 3) ∧ decode cX10_qGoesOnTest 54 = .ok (.iconst 1, 1) ∧ decode cX10_qGoesOnTest 55 = .ok (.isub, 1) ∧ decode cX10_qGoesOnTest 56 = .ok (.putfield 372, 3) ∧ decode cX10_qGoesOnTest 59 = .ok (.aload_n 0, 1) ∧ decode cX10_qGoesOnTest 60 = .ok (.dup, 1) ∧ decode cX10_qGoesOnTest 61 = .ok (.getfield 375, 3) := by decide +kernel
theorem dX10_qGoesOnTest_33 : decode cX10_qGoesOnTest 33 = .ok (.aload_n 0, 1) := dk_dX10_qGoesOnTest_33.1
theorem dX10_qGoesOnTest_34 : decode cX10_qGoesOnTest 34 = .ok (.bipush 25, 2) := dk_dX10_qGoesOnTest_33.2.1
theorem dX10_qGoesOnTest_36 : decode cX10_qGoesOnTest 36 = .ok (.invokevirtual 641, 3) := dk_dX10_qGoesOnTest_33.2.2.1
theorem dX10_qGoesOnTest_39 : decode cX10_qGoesOnTest 39 = .ok (.ifCond .ne 10, 3) := dk_dX10_qGoesOnTest_33.2.2.2.1
theorem dX10_qGoesOnTest_42 : decode cX10_qGoesOnTest 42 = .ok (.aload_n 0, 1) := dk_dX10_qGoesOnTest_33.2.2.2.2.1
theorem dX10_qGoesOnTest_43 : decode cX10_qGoesOnTest 43 = .ok (.invokevirtual 614, 3) := dk_dX10_qGoesOnTest_33.2.2.2.2.2.1
theorem dX10_qGoesOnTest_46 : decode cX10_qGoesOnTest 46 = .ok (.goto (-13), 3) := dk_dX10_qGoesOnTest_33.2.2.2.2.2.2.1
theorem dX10_qGoesOnTest_49 : decode cX10_qGoesOnTest 49 = .ok (.aload_n 0, 1) := dk_dX10_qGoesOnTest_33.2.2.2.2.2.2.2.1
theorem dX10_qGoesOnTest_50 : decode cX10_qGoesOnTest 50 = .ok (.dup, 1) := dk_dX10_qGoesOnTest_33.2.2.2.2.2.2.2.2.1
theorem dX10_qGoesOnTest_51 : decode cX10_qGoesOnTest 51 = .ok (.getfield 372, 3) := dk_dX10_qGoesOnTest_33.2.2.2.2.2.2.2.2.2.1
theorem dX10_qGoesOnTest_54 : decode cX10_qGoesOnTest 54 = .ok (.iconst 1, 1) := dk_dX10_qGoesOnTest_33.2.2.2.2.2.2.2.2.2.2.1
theorem dX10_qGoesOnTest_55 : decode cX10_qGoesOnTest 55 = .ok (.isub, 1) := dk_dX10_qGoesOnTest_33.2.2.2.2.2.2.2.2.2.2.2.1
theorem dX10_qGoesOnTest_56 : decode cX10_qGoesOnTest 56 = .ok (.putfield 372, 3) := dk_dX10_qGoesOnTest_33.2.2.2.2.2.2.2.2.2.2.2.2.1
theorem dX10_qGoesOnTest_59 : decode cX10_qGoesOnTest 59 = .ok (.aload_n 0, 1) := dk_dX10_qGoesOnTest_33.2.2.2.2.2.2.2.2.2.2.2.2.2.1
theorem dX10_qGoesOnTest_60 : decode cX10_qGoesOnTest 60 = .ok (.dup, 1) := dk_dX10_qGoesOnTest_33.2.2.2.2.2.2.2.2.2.2.2.2.2.2.1
theorem dX10_qGoesOnTest_61 : decode cX10_qGoesOnTest 61 = .ok (.getfield 375, 3) := dk_dX10_qGoesOnTest_33.2.2.2.2.2.2.2.2.2.2.2.2.2.2.2
theorem dk_dX10_qGoesOnTest_64 : decode cX10_qGoesOnTest 64 = .ok (.iconst 1, 1) ∧ decode cX10_qGoesOnTest 65 = .ok (.isub, 1) ∧ decode cX10_qGoesOnTest 66 = .ok (.putfield 375, 3) ∧ decode cX10_qGoesOnTest 69 = .ok (.aload_n 0, 1) ∧ decode cX10_qGoesOnTest 70 = .ok (.invokevirtual 653, 3) ∧ decode cX10_qGoesOnTest 73 = .ok (.goto (-73), 3) ∧ decode cX10_qGoesOnTest 76 = .ok (.aload_n 0, 1) ∧ decode cX10_qGoesOnTest 77 = .ok (.aload_n 0, 1) ∧ decode cX10_qGoesOnTest 78 = .ok (.getfield 210, 3) ∧ decode cX10_qGoesOnTest 81 = .ok (.invokevirtual 305, 3) ∧ decode cX10_qGoesOnTest 84 = .ok (.ifCond .eq 42, 3) ∧ decode cX10_qGoesOnTest 87 = .ok (.aload_n 0, 1) ∧ decode cX10_qGoesOnTest 88 = .ok (.bipush 10, 2) ∧ decode cX10_qGoesOnTest 90 = .ok (.invokevirtual 641, 3) ∧ decode cX10_qGoesOnTest 93 = .ok (.ifCond .eq 10, 3) ∧ decode cX10_qGoesOnTest 96 = .ok (.aload_n 0, 1) := by decide +kernel
theorem dX10_qGoesOnTest_64 : decode cX10_qGoesOnTest 64 = .ok (.iconst 1, 1) := dk_dX10_qGoesOnTest_64.1
theorem dX10_qGoesOnTest_65 : decode cX10_qGoesOnTest 65 = .ok (.isub, 1) := dk_dX10_qGoesOnTest_64.2.1
theorem dX10_qGoesOnTest_66 : decode cX10_qGoesOnTest 66 = .ok (.putfield 375, 3) := dk_dX10_qGoesOnTest_64.2.2.1
theorem dX10_qGoesOnTest_69 : decode cX10_qGoesOnTest 69 = .ok (.aload_n 0, 1) := dk_dX10_qGoesOnTest_64.2.2.2.1
theorem dX10_qGoesOnTest_70 : decode cX10_qGoesOnTest 70 = .ok (.invokevirtual 653, 3) := dk_dX10_qGoesOnTest_64.2.2.2.2.1
theorem dX10_qGoesOnTest_73 : decode cX10_qGoesOnTest 73 = .ok (.goto (-73), 3) := dk_dX10_qGoesOnTest_64.2.2.2.2.2.1
theorem dX10_qGoesOnTest_76 : decode cX10_qGoesOnTest 76 = .ok (.aload_n 0, 1) := dk_dX10_qGoesOnTest_64.2.2.2.2.2.2.1
theorem dX10_qGoesOnTest_77 : decode cX10_qGoesOnTest 77 = .ok (.aload_n 0, 1) := dk_dX10_qGoesOnTest_64.2.2.2.2.2.2.2.1
theorem dX10_qGoesOnTest_78 : decode cX10_qGoesOnTest 78 = .ok (.getfield 210, 3) := dk_dX10_qGoesOnTest_64.2.2.2.2.2.2.2.2.1
theorem dX10_qGoesOnTest_81 : decode cX10_qGoesOnTest 81 = .ok (.invokevirtual 305, 3) := dk_dX10_qGoesOnTest_64.2.2.2.2.2.2.2.2.2.1
theorem dX10_qGoesOnTest_84 : decode cX10_qGoesOnTest 84 = .ok (.ifCond .eq 42, 3) := dk_dX10_qGoesOnTest_64.2.2.2.2.2.2.2.2.2.2.1
theorem dX10_qGoesOnTest_87 : decode cX10_qGoesOnTest 87 = .ok (.aload_n 0, 1) := dk_dX10_qGoesOnTest_64.2.2.2.2.2.2.2.2.2.2.2.1
theorem dX10_qGoesOnTest_88 : decode cX10_qGoesOnTest 88 = .ok (.bipush 10, 2) := dk_dX10_qGoesOnTest_64.2.2.2.2.2.2.2.2.2.2.2.2.1
theorem dX10_qGoesOnTest_90 : decode cX10_qGoesOnTest 90 = .ok (.invokevirtual 641, 3) := dk_dX10_qGoesOnTest_64.2.2.2.2.2.2.2.2.2.2.2.2.2.1
theorem dX10_qGoesOnTest_93 : decode cX10_qGoesOnTest 93 = .ok (.ifCond .eq 10, 3) := dk_dX10_qGoesOnTest_64.2.2.2.2.2.2.2.2.2.2.2.2.2.2.1
theorem dX10_qGoesOnTest_96 : decode cX10_qGoesOnTest 96 = .ok (.aload_n 0, 1) := dk_dX10_qGoesOnTest_64.2.2.2.2.2.2.2.2.2.2.2.2.2.2.2
theorem dk_dX10_qGoesOnTest_97 : decode cX10_qGoesOnTest 97 = .ok (.invokevirtual 614, 3) ∧ decode cX10_qGoesOnTest 100 = .ok (.goto (-13), 3) ∧ decode cX10_qGoesOnTest 103 = .ok (.aload_n 0, 1) ∧ decode cX10_qGoesOnTest 104 = .ok (.getfield 267, 3) ∧ decode cX10_qGoesOnTest 107 = .ok (.aload_n 0, 1) ∧ decode cX10_qGoesOnTest 108 = .ok (.getfield 372, 3) ∧ decode cX10_qGoesOnTest 111 = .ok (.bipush 10, 2) ∧ decode cX10_qGoesOnTest 113 = .ok (.iastore, 1) ∧ decode cX10_qGoesOnTest 114 = .ok (.aload_n 0, 1) ∧ decode cX10_qGoesOnTest 115 = .ok (.dup, 1) ∧ decode cX10_qGoesOnTest 116 = .ok (.getfield 372, 3) ∧ decode cX10_qGoesOnTest 119 = .ok (.iconst 1, 1) ∧ decode cX10_qGoesOnTest 120 = .ok (.iadd, 1) ∧ decode cX10_qGoesOnTest 121 = .ok (.putfield 372, 3) ∧ decode cX10_qGoesOnTest 124 = .ok (.iconst 1, 1) ∧ decode cX10_qGoesOnTest 125 = .ok (.ireturn, 1) := by decide +kernel
theorem dX10_qGoesOnTest_97 : decode cX10_qGoesOnTest 97 = .ok (.invokevirtual 614, 3) := dk_dX10_qGoesOnTest_97.1
theorem dX10_qGoesOnTest_100 : decode cX10_qGoesOnTest 100 = .ok (.goto (-13), 3) := dk_dX10_qGoesOnTest_97.2.1
theorem dX10_qGoesOnTest_103 : decode cX10_qGoesOnTest 103 = .ok (.aload_n 0, 1) := dk_dX10_qGoesOnTest_97.2.2.1
theorem dX10_qGoesOnTest_104 : decode cX10_qGoesOnTest 104 = .ok (.getfield 267, 3) := dk_dX10_qGoesOnTest_97.2.2.2.1
theorem dX10_qGoesOnTest_107 : decode cX10_qGoesOnTest 107 = .ok (.aload_n 0, 1) := dk_dX10_qGoesOnTest_97.2.2.2.2.1
theorem dX10_qGoesOnTest_108 : decode cX10_qGoesOnTest 108 = .ok (.getfield 372, 3) := dk_dX10_qGoesOnTest_97.2.2.2.2.2.1
theorem dX10_qGoesOnTest_111 : decode cX10_qGoesOnTest 111 = .ok (.bipush 10, 2) := dk_dX10_qGoesOnTest_97.2.2.2.2.2.2.1
theorem dX10_qGoesOnTest_113 : decode cX10_qGoesOnTest 113 = .ok (.iastore, 1) := dk_dX10_qGoesOnTest_97.2.2.2.2.2.2.2.1
theorem dX10_qGoesOnTest_114 : decode cX10_qGoesOnTest 114 = .ok (.aload_n 0, 1) := dk_dX10_qGoesOnTest_97.2.2.2.2.2.2.2.2.1
theorem dX10_qGoesOnTest_115 : decode cX10_qGoesOnTest 115 = .ok (.dup, 1) := dk_dX10_qGoesOnTest_97.2.2.2.2.2.2.2.2.2.1
theorem dX10_qGoesOnTest_116 : decode cX10_qGoesOnTest 116 = .ok (.getfield 372, 3) := dk_dX10_qGoesOnTest_97.2.2.2.2.2.2.2.2.2.2.1
theorem dX10_qGoesOnTest_119 : decode cX10_qGoesOnTest 119 = .ok (.iconst 1, 1) := dk_dX10_qGoesOnTest_97.2.2.2.2.2.2.2.2.2.2.2.1
theorem dX10_qGoesOnTest_120 : decode cX10_qGoesOnTest 120 = .ok (.iadd, 1) := dk_dX10_qGoesOnTest_97.2.2.2.2.2.2.2.2.2.2.2.2.1
theorem dX10_qGoesOnTest_121 : decode cX10_qGoesOnTest 121 = .ok (.putfield 372, 3) := dk_dX10_qGoesOnTest_97.2.2.2.2.2.2.2.2.2.2.2.2.2.1
theorem dX10_qGoesOnTest_124 : decode cX10_qGoesOnTest 124 = .ok (.iconst 1, 1) := dk_dX10_qGoesOnTest_97.2.2.2.2.2.2.2.2.2.2.2.2.2.2.1
theorem dX10_qGoesOnTest_125 : decode cX10_qGoesOnTest 125 = .ok (.ireturn, 1) := dk_dX10_qGoesOnTest_97.2.2.2.2.2.2.2.2.2.2.2.2.2.2.2
theorem dk_dX10_qGoesOnTest_126 : decode cX10_qGoesOnTest 126 = .ok (.aload_n 0, 1) ∧ decode cX10_qGoesOnTest 127 = .ok (.aload_n 0, 1) ∧ decode cX10_qGoesOnTest 128 = .ok (.getfield 213, 3) ∧ decode cX10_qGoesOnTest 131 = .ok (.invokevirtual 305, 3) ∧ decode cX10_qGoesOnTest 134 = .ok (.ifCond .eq 51, 3) ∧ decode cX10_qGoesOnTest 137 = .ok (.aload_n 0, 1) ∧ decode cX10_qGoesOnTest 138 = .ok (.bipush 10, 2) ∧ decode cX10_qGoesOnTest 140 = .ok (.invokevirtual 641, 3) ∧ decode cX10_qGoesOnTest 143 = .ok (.ifCond .ne 12, 3) ∧ decode cX10_qGoesOnTest 146 = .ok (.aload_n 0, 1) ∧ decode cX10_qGoesOnTest 147 = .ok (.bipush 11, 2) ∧ decode cX10_qGoesOnTest 149 = .ok (.invokevirtual 641, 3) ∧ decode cX10_qGoesOnTest 152 = .ok (.ifCond .eq 10, 3) ∧ decode cX10_qGoesOnTest 155 = .ok (.aload_n 0, 1) ∧ decode cX10_qGoesOnTest 156 = .ok (.invokevirtual 614, 3) ∧ decode cX10_qGoesOnTest 159 = .ok (.goto (-22), 3) := by decide +kernel
theorem dX10_qGoesOnTest_126 : decode cX10_qGoesOnTest 126 = .ok (.aload_n 0, 1) := dk_dX10_qGoesOnTest_126.1
theorem dX10_qGoesOnTest_127 : decode cX10_qGoesOnTest 127 = .ok (.aload_n 0, 1) := dk_dX10_qGoesOnTest_126.2.1
theorem dX10_qGoesOnTest_128 : decode cX10_qGoesOnTest 128 = .ok (.getfield 213, 3) := dk_dX10_qGoesOnTest_126.2.2.1
theorem dX10_qGoesOnTest_131 : decode cX10_qGoesOnTest 131 = .ok (.invokevirtual 305, 3) := dk_dX10_qGoesOnTest_126.2.2.2.1
theorem dX10_qGoesOnTest_134 : decode cX10_qGoesOnTest 134 = .ok (.ifCond .eq 51, 3) := dk_dX10_qGoesOnTest_126.2.2.2.2.1
theorem dX10_qGoesOnTest_137 : decode cX10_qGoesOnTest 137 = .ok (.aload_n 0, 1) := dk_dX10_qGoesOnTest_126.2.2.2.2.2.1
theorem dX10_qGoesOnTest_138 : decode cX10_qGoesOnTest 138 = .ok (.bipush 10, 2) := dk_dX10_qGoesOnTest_126.2.2.2.2.2.2.1
theorem dX10_qGoesOnTest_140 : decode cX10_qGoesOnTest 140 = .ok (.invokevirtual 641, 3) := dk_dX10_qGoesOnTest_126.2.2.2.2.2.2.2.1
theorem dX10_qGoesOnTest_143 : decode cX10_qGoesOnTest 143 = .ok (.ifCond .ne 12, 3) := dk_dX10_qGoesOnTest_126.2.2.2.2.2.2.2.2.1
theorem dX10_qGoesOnTest_146 : decode cX10_qGoesOnTest 146 = .ok (.aload_n 0, 1) := dk_dX10_qGoesOnTest_126.2.2.2.2.2.2.2.2.2.1
theorem dX10_qGoesOnTest_147 : decode cX10_qGoesOnTest 147 = .ok (.bipush 11, 2) := dk_dX10_qGoesOnTest_126.2.2.2.2.2.2.2.2.2.2.1
theorem dX10_qGoesOnTest_149 : decode cX10_qGoesOnTest 149 = .ok (.invokevirtual 641, 3) := dk_dX10_qGoesOnTest_126.2.2.2.2.2.2.2.2.2.2.2.1
theorem dX10_qGoesOnTest_152 : decode cX10_qGoesOnTest 152 = .ok (.ifCond .eq 10, 3) := dk_dX10_qGoesOnTest_126.2.2.2.2.2.2.2.2.2.2.2.2.1
theorem dX10_qGoesOnTest_155 : decode cX10_qGoesOnTest 155 = .ok (.aload_n 0, 1) := dk_dX10_qGoesOnTest_126.2.2.2.2.2.2.2.2.2.2.2.2.2.1
theorem dX10_qGoesOnTest_156 : decode cX10_qGoesOnTest 156 = .ok (.invokevirtual 614, 3) := dk_dX10_qGoesOnTest_126.2.2.2.2.2.2.2.2.2.2.2.2.2.2.1
theorem dX10_qGoesOnTest_159 : decode cX10_qGoesOnTest 159 = .ok (.goto (-22), 3) := dk_dX10_qGoesOnTest_126.2.2.2.2.2.2.2.2.2.2.2.2.2.2.2
theorem dk_dX10_qGoesOnTest_162 : decode cX10_qGoesOnTest 162 = .ok (.aload_n 0, 1) ∧ decode cX10_qGoesOnTest 163 = .ok (.getfield 267, 3) ∧ decode cX10_qGoesOnTest 166 = .ok (.aload_n 0, 1) ∧ decode cX10_qGoesOnTest 167 = .ok (.getfield 372, 3) ∧ decode cX10_qGoesOnTest 170 = .ok (.bipush 11, 2) ∧ decode cX10_qGoesOnTest 172 = .ok (.iastore, 1) ∧ decode cX10_qGoesOnTest 173 = .ok (.aload_n 0, 1) ∧ decode cX10_qGoesOnTest 174 = .ok (.dup, 1) ∧ decode cX10_qGoesOnTest 175 = .ok (.getfield 372, 3) ∧ decode cX10_qGoesOnTest 178 = .ok (.iconst 1, 1) ∧ decode cX10_qGoesOnTest 179 = .ok (.iadd, 1) ∧ decode cX10_qGoesOnTest 180 = .ok (.putfield 372, 3) ∧ decode cX10_qGoesOnTest 183 = .ok (.iconst 1, 1) ∧ decode cX10_qGoesOnTest 184 = .ok (.ireturn, 1) ∧ decode cX10_qGoesOnTest 185 = .ok (.aload_n 0, 1) ∧ decode cX10_qGoesOnTest 186 = .ok (.getfield 279, 3) := by decide +kernel
theorem dX10_qGoesOnTest_162 : decode cX10_qGoesOnTest 162 = .ok (.aload_n 0, 1) := dk_dX10_qGoesOnTest_162.1
theorem dX10_qGoesOnTest_163 : decode cX10_qGoesOnTest 163 = .ok (.getfield 267, 3) := dk_dX10_qGoesOnTest_162.2.1
theorem dX10_qGoesOnTest_166 : decode cX10_qGoesOnTest 166 = .ok (.aload_n 0, 1) := dk_dX10_qGoesOnTest_162.2.2.1
theorem dX10_qGoesOnTest_167 : decode cX10_qGoesOnTest 167 = .ok (.getfield 372, 3) := dk_dX10_qGoesOnTest_162.2.2.2.1
theorem dX10_qGoesOnTest_170 : decode cX10_qGoesOnTest 170 = .ok (.bipush 11, 2) := dk_dX10_qGoesOnTest_162.2.2.2.2.1
theorem dX10_qGoesOnTest_172 : decode cX10_qGoesOnTest 172 = .ok (.iastore, 1) := dk_dX10_qGoesOnTest_162.2.2.2.2.2.1
theorem dX10_qGoesOnTest_173 : decode cX10_qGoesOnTest 173 = .ok (.aload_n 0, 1) := dk_dX10_qGoesOnTest_162.2.2.2.2.2.2.1
theorem dX10_qGoesOnTest_174 : decode cX10_qGoesOnTest 174 = .ok (.dup, 1) := dk_dX10_qGoesOnTest_162.2.2.2.2.2.2.2.1
theorem dX10_qGoesOnTest_175 : decode cX10_qGoesOnTest 175 = .ok (.getfield 372, 3) := dk_dX10_qGoesOnTest_162.2.2.2.2.2.2.2.2.1
theorem dX10_qGoesOnTest_178 : decode cX10_qGoesOnTest 178 = .ok (.iconst 1, 1) := dk_dX10_qGoesOnTest_162.2.2.2.2.2.2.2.2.2.1
theorem dX10_qGoesOnTest_179 : decode cX10_qGoesOnTest 179 = .ok (.iadd, 1) := dk_dX10_qGoesOnTest_162.2.2.2.2.2.2.2.2.2.2.1
theorem dX10_qGoesOnTest_180 : decode cX10_qGoesOnTest 180 = .ok (.putfield 372, 3) := dk_dX10_qGoesOnTest_162.2.2.2.2.2.2.2.2.2.2.2.1
theorem dX10_qGoesOnTest_183 : decode cX10_qGoesOnTest 183 = .ok (.iconst 1, 1) := dk_dX10_qGoesOnTest_162.2.2.2.2.2.2.2.2.2.2.2.2.1
theorem dX10_qGoesOnTest_184 : decode cX10_qGoesOnTest 184 = .ok (.ireturn, 1) := dk_dX10_qGoesOnTest_162.2.2.2.2.2.2.2.2.2.2.2.2.2.1
theorem dX10_qGoesOnTest_185 : decode cX10_qGoesOnTest 185 = .ok (.aload_n 0, 1) := dk_dX10_qGoesOnTest_162.2.2.2.2.2.2.2.2.2.2.2.2.2.2.1
theorem dX10_qGoesOnTest_186 : decode cX10_qGoesOnTest 186 = .ok (.getfield 279, 3) := dk_dX10_qGoesOnTest_162.2.2.2.2.2.2.2.2.2.2.2.2.2.2.2
theorem dk_dX10_qGoesOnTest_189 : decode cX10_qGoesOnTest 189 = .ok (.ifCond .ne 19, 3) ∧ decode cX10_qGoesOnTest 192 = .ok (.aload_n 0, 1) ∧ decode cX10_qGoesOnTest 193 = .ok (.invokevirtual 659, 3) ∧ decode cX10_qGoesOnTest 196 = .ok (.ifCond .eq 12, 3) ∧ decode cX10_qGoesOnTest 199 = .ok (.aload_n 0, 1) ∧ decode cX10_qGoesOnTest 200 = .ok (.iconst 1, 1) ∧ decode cX10_qGoesOnTest 201 = .ok (.aload_n 0, 1) ∧ decode cX10_qGoesOnTest 202 = .ok (.getfield 285, 3) ∧ decode cX10_qGoesOnTest 205 = .ok (.invokevirtual 308, 3) ∧ decode cX10_qGoesOnTest 208 = .ok (.iconst 0, 1) ∧ decode cX10_qGoesOnTest 209 = .ok (.ireturn, 1) := by decide +kernel
theorem dX10_qGoesOnTest_189 : decode cX10_qGoesOnTest 189 = .ok (.ifCond .ne 19, 3) := dk_dX10_qGoesOnTest_189.1
theorem dX10_qGoesOnTest_192 : decode cX10_qGoesOnTest 192 = .ok (.aload_n 0, 1) := dk_dX10_qGoesOnTest_189.2.1
theorem dX10_qGoesOnTest_193 : decode cX10_qGoesOnTest 193 = .ok (.invokevirtual 659, 3) := dk_dX10_qGoesOnTest_189.2.2.1
theorem dX10_qGoesOnTest_196 : decode cX10_qGoesOnTest 196 = .ok (.ifCond .eq 12, 3) := dk_dX10_qGoesOnTest_189.2.2.2.1
theorem dX10_qGoesOnTest_199 : decode cX10_qGoesOnTest 199 = .ok (.aload_n 0, 1) := dk_dX10_qGoesOnTest_189.2.2.2.2.1
theorem dX10_qGoesOnTest_200 : decode cX10_qGoesOnTest 200 = .ok (.iconst 1, 1) := dk_dX10_qGoesOnTest_189.2.2.2.2.2.1
theorem dX10_qGoesOnTest_201 : decode cX10_qGoesOnTest 201 = .ok (.aload_n 0, 1) := dk_dX10_qGoesOnTest_189.2.2.2.2.2.2.1
theorem dX10_qGoesOnTest_202 : decode cX10_qGoesOnTest 202 = .ok (.getfield 285, 3) := dk_dX10_qGoesOnTest_189.2.2.2.2.2.2.2.1
theorem dX10_qGoesOnTest_205 : decode cX10_qGoesOnTest 205 = .ok (.invokevirtual 308, 3) := dk_dX10_qGoesOnTest_189.2.2.2.2.2.2.2.2.1
theorem dX10_qGoesOnTest_208 : decode cX10_qGoesOnTest 208 = .ok (.iconst 0, 1) := dk_dX10_qGoesOnTest_189.2.2.2.2.2.2.2.2.2.1
theorem dX10_qGoesOnTest_209 : decode cX10_qGoesOnTest 209 = .ok (.ireturn, 1) := dk_dX10_qGoesOnTest_189.2.2.2.2.2.2.2.2.2.2
theorem dk_dX10_qHasSquare_0 : decode cX10_qHasSquare 0 = .ok (.iconst 0, 1) ∧ decode cX10_qHasSquare 1 = .ok (.istore_n 1, 1) ∧ decode cX10_qHasSquare 2 = .ok (.iload_n 1, 1) ∧ decode cX10_qHasSquare 3 = .ok (.aload_n 0, 1) ∧ decode cX10_qHasSquare 4 = .ok (.getfield 372, 3) ∧ decode cX10_qHasSquare 7 = .ok (.if_icmp .ge 22, 3) ∧ decode cX10_qHasSquare 10 = .ok (.aload_n 0, 1) ∧ decode cX10_qHasSquare 11 = .ok (.getfield 267, 3) ∧ decode cX10_qHasSquare 14 = .ok (.iload_n 1, 1) ∧ decode cX10_qHasSquare 15 = .ok (.iaload, 1) ∧ decode cX10_qHasSquare 16 = .ok (.bipush 25, 2) ∧ decode cX10_qHasSquare 18 = .ok (.if_icmp .ne 5, 3) ∧ decode cX10_qHasSquare 21 = .ok (.iconst 1, 1) ∧ decode cX10_qHasSquare 22 = .ok (.ireturn, 1) ∧ decode cX10_qHasSquare 23 = .ok (.iinc 1 1, 3) ∧ decode cX10_qHasSquare 26 = .ok (.goto (-24), 3) := by decide +kernel
theorem dX10_qHasSquare_0 : decode cX10_qHasSquare 0 = .ok (.iconst 0, 1) := dk_dX10_qHasSquare_0.1
theorem dX10_qHasSquare_1 : decode cX10_qHasSquare 1 = .ok (.istore_n 1, 1) := dk_dX10_qHasSquare_0.2.1
theorem dX10_qHasSquare_2 : decode cX10_qHasSquare 2 = .ok (.iload_n 1, 1) := dk_dX10_qHasSquare_0.2.2.1
theorem dX10_qHasSquare_3 : decode cX10_qHasSquare 3 = .ok (.aload_n 0, 1) := dk_dX10_qHasSquare_0.2.2.2.1
theorem dX10_qHasSquare_4 : decode cX10_qHasSquare 4 = .ok (.getfield 372, 3) := dk_dX10_qHasSquare_0.2.2.2.2.1
theorem dX10_qHasSquare_7 : decode cX10_qHasSquare 7 = .ok (.if_icmp .ge 22, 3) := dk_dX10_qHasSquare_0.2.2.2.2.2.1
theorem dX10_qHasSquare_10 : decode cX10_qHasSquare 10 = .ok (.aload_n 0, 1) := dk_dX10_qHasSquare_0.2.2.2.2.2.2.1
theorem dX10_qHasSquare_11 : decode cX10_qHasSquare 11 = .ok (.getfield 267, 3) := dk_dX10_qHasSquare_0.2.2.2.2.2.2.2.1
theorem dX10_qHasSquare_14 : decode cX10_qHasSquare 14 = .ok (.iload_n 1, 1) := dk_dX10_qHasSquare_0.2.2.2.2.2.2.2.2.1
theorem dX10_qHasSquare_15 : decode cX10_qHasSquare 15 = .ok (.iaload, 1) := dk_dX10_qHasSquare_0.2.2.2.2.2.2.2.2.2.1
theorem dX10_qHasSquare_16 : decode cX10_qHasSquare 16 = .ok (.bipush 25, 2) := dk_dX10_qHasSquare_0.2.2.2.2.2.2.2.2.2.2.1
theorem dX10_qHasSquare_18 : decode cX10_qHasSquare 18 = .ok (.if_icmp .ne 5, 3) := dk_dX10_qHasSquare_0.2.2.2.2.2.2.2.2.2.2.2.1
theorem dX10_qHasSquare_21 : decode cX10_qHasSquare 21 = .ok (.iconst 1, 1) := dk_dX10_qHasSquare_0.2.2.2.2.2.2.2.2.2.2.2.2.1
theorem dX10_qHasSquare_22 : decode cX10_qHasSquare 22 = .ok (.ireturn, 1) := dk_dX10_qHasSquare_0.2.2.2.2.2.2.2.2.2.2.2.2.2.1
theorem dX10_qHasSquare_23 : decode cX10_qHasSquare 23 = .ok (.iinc 1 1, 3) := dk_dX10_qHasSquare_0.2.2.2.2.2.2.2.2.2.2.2.2.2.2.1
theorem dX10_qHasSquare_26 : decode cX10_qHasSquare 26 = .ok (.goto (-24), 3) := dk_dX10_qHasSquare_0.2.2.2.2.2.2.2.2.2.2.2.2.2.2.2
theorem dk_dX10_qHasSquare_29 : decode cX10_qHasSquare 29 = .ok (.iconst 0, 1) ∧ decode cX10_qHasSquare 30 = .ok (.ireturn, 1) := by decide +kernel
theorem dX10_qHasSquare_29 : decode cX10_qHasSquare 29 = .ok (.iconst 0, 1) := dk_dX10_qHasSquare_29.1
theorem dX10_qHasSquare_30 : decode cX10_qHasSquare 30 = .ok (.ireturn, 1) := dk_dX10_qHasSquare_29.2
theorem dk_dX10_qIsBracket_0 : decode cX10_qIsBracket 0 = .ok (.iload_n 0, 1) ∧ decode cX10_qIsBracket 1 = .ok (.bipush 20, 2) ∧ decode cX10_qIsBracket 3 = .ok (.if_icmp .lt 13, 3) ∧ decode cX10_qIsBracket 6 = .ok (.iload_n 0, 1) ∧ decode cX10_qIsBracket 7 = .ok (.bipush 24, 2) ∧ decode cX10_qIsBracket 9 = .ok (.if_icmp .gt 7, 3) ∧ decode cX10_qIsBracket 12 = .ok (.iconst 1, 1) ∧ decode cX10_qIsBracket 13 = .ok (.goto 4, 3) ∧ decode cX10_qIsBracket 16 = .ok (.iconst 0, 1) ∧ decode cX10_qIsBracket 17 = .ok (.ireturn, 1) := by decide +kernel
theorem dX10_qIsBracket_0 : decode cX10_qIsBracket 0 = .ok (.iload_n 0, 1) := dk_dX10_qIsBracket_0.1
theorem dX10_qIsBracket_1 : decode cX10_qIsBracket 1 = .ok (.bipush 20, 2) := dk_dX10_qIsBracket_0.2.1
theorem dX10_qIsBracket_3 : decode cX10_qIsBracket 3 = .ok (.if_icmp .lt 13, 3) := dk_dX10_qIsBracket_0.2.2.1
theorem dX10_qIsBracket_6 : decode cX10_qIsBracket 6 = .ok (.iload_n 0, 1) := dk_dX10_qIsBracket_0.2.2.2.1
theorem dX10_qIsBracket_7 : decode cX10_qIsBracket 7 = .ok (.bipush 24, 2) := dk_dX10_qIsBracket_0.2.2.2.2.1
theorem dX10_qIsBracket_9 : decode cX10_qIsBracket 9 = .ok (.if_icmp .gt 7, 3) := dk_dX10_qIsBracket_0.2.2.2.2.2.1
theorem dX10_qIsBracket_12 : decode cX10_qIsBracket 12 = .ok (.iconst 1, 1) := dk_dX10_qIsBracket_0.2.2.2.2.2.2.1
theorem dX10_qIsBracket_13 : decode cX10_qIsBracket 13 = .ok (.goto 4, 3) := dk_dX10_qIsBracket_0.2.2.2.2.2.2.2.1
theorem dX10_qIsBracket_16 : decode cX10_qIsBracket 16 = .ok (.iconst 0, 1) := dk_dX10_qIsBracket_0.2.2.2.2.2.2.2.2.1
theorem dX10_qIsBracket_17 : decode cX10_qIsBracket 17 = .ok (.ireturn, 1) := dk_dX10_qIsBracket_0.2.2.2.2.2.2.2.2.2
theorem dk_dX10_qIsOn_0 : decode cX10_qIsOn 0 = .ok (.aload_n 0, 1) ∧ decode cX10_qIsOn 1 = .ok (.getfield 372, 3) ∧ decode cX10_qIsOn 4 = .ok (.ifCond .le 22, 3) ∧ decode cX10_qIsOn 7 = .ok (.aload_n 0, 1) ∧ decode cX10_qIsOn 8 = .ok (.getfield 267, 3) ∧ decode cX10_qIsOn 11 = .ok (.aload_n 0, 1) ∧ decode cX10_qIsOn 12 = .ok (.getfield 372, 3) ∧ decode cX10_qIsOn 15 = .ok (.iconst 1, 1) ∧ decode cX10_qIsOn 16 = .ok (.isub, 1) ∧ decode cX10_qIsOn 17 = .ok (.iaload, 1) ∧ decode cX10_qIsOn 18 = .ok (.iload_n 1, 1) ∧ decode cX10_qIsOn 19 = .ok (.if_icmp .ne 7, 3) ∧ decode cX10_qIsOn 22 = .ok (.iconst 1, 1) ∧ decode cX10_qIsOn 23 = .ok (.goto 4, 3) ∧ decode cX10_qIsOn 26 = .ok (.iconst 0, 1) ∧ decode cX10_qIsOn 27 = .ok (.ireturn, 1) := by decide +kernel
theorem dX10_qIsOn_0 : decode cX10_qIsOn 0 = .ok (.aload_n 0, 1) := dk_dX10_qIsOn_0.1
theorem dX10_qIsOn_1 : decode cX10_qIsOn 1 = .ok (.getfield 372, 3) := dk_dX10_qIsOn_0.2.1
theorem dX10_qIsOn_4 : decode cX10_qIsOn 4 = .ok (.ifCond .le 22, 3) := dk_dX10_qIsOn_0.2.2.1
theorem dX10_qIsOn_7 : decode cX10_qIsOn 7 = .ok (.aload_n 0, 1) := dk_dX10_qIsOn_0.2.2.2.1
theorem dX10_qIsOn_8 : decode cX10_qIsOn 8 = .ok (.getfield 267, 3) := dk_dX10_qIsOn_0.2.2.2.2.1
theorem dX10_qIsOn_11 : decode cX10_qIsOn 11 = .ok (.aload_n 0, 1) := dk_dX10_qIsOn_0.2.2.2.2.2.1
theorem dX10_qIsOn_12 : decode cX10_qIsOn 12 = .ok (.getfield 372, 3) := dk_dX10_qIsOn_0.2.2.2.2.2.2.1
theorem dX10_qIsOn_15 : decode cX10_qIsOn 15 = .ok (.iconst 1, 1) := dk_dX10_qIsOn_0.2.2.2.2.2.2.2.1
theorem dX10_qIsOn_16 : decode cX10_qIsOn 16 = .ok (.isub, 1) := dk_dX10_qIsOn_0.2.2.2.2.2.2.2.2.1
theorem dX10_qIsOn_17 : decode cX10_qIsOn 17 = .ok (.iaload, 1) := dk_dX10_qIsOn_0.2.2.2.2.2.2.2.2.2.1
theorem dX10_qIsOn_18 : decode cX10_qIsOn 18 = .ok (.iload_n 1, 1) := dk_dX10_qIsOn_0.2.2.2.2.2.2.2.2.2.2.1
theorem dX10_qIsOn_19 : decode cX10_qIsOn 19 = .ok (.if_icmp .ne 7, 3) := dk_dX10_qIsOn_0.2.2.2.2.2.2.2.2.2.2.2.1
theorem dX10_qIsOn_22 : decode cX10_qIsOn 22 = .ok (.iconst 1, 1) := dk_dX10_qIsOn_0.2.2.2.2.2.2.2.2.2.2.2.2.1
theorem dX10_qIsOn_23 : decode cX10_qIsOn 23 = .ok (.goto 4, 3) := dk_dX10_qIsOn_0.2.2.2.2.2.2.2.2.2.2.2.2.2.1
theorem dX10_qIsOn_26 : decode cX10_qIsOn 26 = .ok (.iconst 0, 1) := dk_dX10_qIsOn_0.2.2.2.2.2.2.2.2.2.2.2.2.2.2.1
theorem dX10_qIsOn_27 : decode cX10_qIsOn 27 = .ok (.ireturn, 1) := dk_dX10_qIsOn_0.2.2.2.2.2.2.2.2.2.2.2.2.2.2.2
theorem dk_dX10_qJoins_0 : decode cX10_qJoins 0 = .ok (.aload_n 0, 1) ∧ decode cX10_qJoins 1 = .ok (.getfield 270, 3) ∧ decode cX10_qJoins 4 = .ok (.aload_n 0, 1) ∧ decode cX10_qJoins 5 = .ok (.getfield 440, 3) ∧ decode cX10_qJoins 8 = .ok (.iconst 1, 1) ∧ decode cX10_qJoins 9 = .ok (.isub, 1) ∧ decode cX10_qJoins 10 = .ok (.laload, 1) ∧ decode cX10_qJoins 11 = .ok (.lstore_n 2, 1) ∧ decode cX10_qJoins 12 = .ok (.aload_n 0, 1) ∧ decode cX10_qJoins 13 = .ok (.getfield 270, 3) ∧ decode cX10_qJoins 16 = .ok (.aload_n 0, 1) ∧ decode cX10_qJoins 17 = .ok (.getfield 440, 3) ∧ decode cX10_qJoins 20 = .ok (.iconst 2, 1) ∧ decode cX10_qJoins 21 = .ok (.isub, 1) ∧ decode cX10_qJoins 22 = .ok (.laload, 1) ∧ decode cX10_qJoins 23 = .ok (.lstore 4, 2) := by decide +kernel
theorem dX10_qJoins_0 : decode cX10_qJoins 0 = .ok (.aload_n 0, 1) := dk_dX10_qJoins_0.1
theorem dX10_qJoins_1 : decode cX10_qJoins 1 = .ok (.getfield 270, 3) := dk_dX10_qJoins_0.2.1
theorem dX10_qJoins_4 : decode cX10_qJoins 4 = .ok (.aload_n 0, 1) := dk_dX10_qJoins_0.2.2.1
theorem dX10_qJoins_5 : decode cX10_qJoins 5 = .ok (.getfield 440, 3) := dk_dX10_qJoins_0.2.2.2.1
theorem dX10_qJoins_8 : decode cX10_qJoins 8 = .ok (.iconst 1, 1) := dk_dX10_qJoins_0.2.2.2.2.1
theorem dX10_qJoins_9 : decode cX10_qJoins 9 = .ok (.isub, 1) := dk_dX10_qJoins_0.2.2.2.2.2.1
theorem dX10_qJoins_10 : decode cX10_qJoins 10 = .ok (.laload, 1) := dk_dX10_qJoins_0.2.2.2.2.2.2.1
theorem dX10_qJoins_11 : decode cX10_qJoins 11 = .ok (.lstore_n 2, 1) := dk_dX10_qJoins_0.2.2.2.2.2.2.2.1
theorem dX10_qJoins_12 : decode cX10_qJoins 12 = .ok (.aload_n 0, 1) := dk_dX10_qJoins_0.2.2.2.2.2.2.2.2.1
theorem dX10_qJoins_13 : decode cX10_qJoins 13 = .ok (.getfield 270, 3) := dk_dX10_qJoins_0.2.2.2.2.2.2.2.2.2.1
theorem dX10_qJoins_16 : decode cX10_qJoins 16 = .ok (.aload_n 0, 1) := dk_dX10_qJoins_0.2.2.2.2.2.2.2.2.2.2.1
theorem dX10_qJoins_17 : decode cX10_qJoins 17 = .ok (.getfield 440, 3) := dk_dX10_qJoins_0.2.2.2.2.2.2.2.2.2.2.2.1
theorem dX10_qJoins_20 : decode cX10_qJoins 20 = .ok (.iconst 2, 1) := dk_dX10_qJoins_0.2.2.2.2.2.2.2.2.2.2.2.2.1
theorem dX10_qJoins_21 : decode cX10_qJoins 21 = .ok (.isub, 1) := dk_dX10_qJoins_0.2.2.2.2.2.2.2.2.2.2.2.2.2.1
theorem dX10_qJoins_22 : decode cX10_qJoins 22 = .ok (.laload, 1) := dk_dX10_qJoins_0.2.2.2.2.2.2.2.2.2.2.2.2.2.2.1
theorem dX10_qJoins_23 : decode cX10_qJoins 23 = .ok (.lstore 4, 2) := dk_dX10_qJoins_0.2.2.2.2.2.2.2.2.2.2.2.2.2.2.2
theorem dk_dX10_qJoins_25 : decode cX10_qJoins 25 = .ok (.aload_n 0, 1) ∧ decode cX10_qJoins 26 = .ok (.dup, 1) ∧ decode cX10_qJoins 27 = .ok (.getfield 440, 3) ∧ decode cX10_qJoins 30 = .ok (.iconst 2, 1) ∧ decode cX10_qJoins 31 = .ok (.isub, 1) ∧ decode cX10_qJoins 32 = .ok (.putfield 440, 3) ∧ decode cX10_qJoins 35 = .ok (.iload_n 1, 1) ∧ decode cX10_qJoins 36 = .ok (.tableswitch 219 1 10 #[56, 70, 84, 98, 111, 131, 151, 170, 189, 208], 56) ∧ decode cX10_qJoins 92 = .ok (.aload_n 0, 1) ∧ decode cX10_qJoins 93 = .ok (.lload 4, 2) ∧ decode cX10_qJoins 95 = .ok (.lload_n 2, 1) ∧ decode cX10_qJoins 96 = .ok (.ladd, 1) ∧ decode cX10_qJoins 97 = .ok (.invokestatic 666, 3) ∧ decode cX10_qJoins 100 = .ok (.invokevirtual 443, 3) ∧ decode cX10_qJoins 103 = .ok (.goto 170, 3) ∧ decode cX10_qJoins 106 = .ok (.aload_n 0, 1) := by decide +kernel
theorem dX10_qJoins_25 : decode cX10_qJoins 25 = .ok (.aload_n 0, 1) := dk_dX10_qJoins_25.1
theorem dX10_qJoins_26 : decode cX10_qJoins 26 = .ok (.dup, 1) := dk_dX10_qJoins_25.2.1
theorem dX10_qJoins_27 : decode cX10_qJoins 27 = .ok (.getfield 440, 3) := dk_dX10_qJoins_25.2.2.1
theorem dX10_qJoins_30 : decode cX10_qJoins 30 = .ok (.iconst 2, 1) := dk_dX10_qJoins_25.2.2.2.1
theorem dX10_qJoins_31 : decode cX10_qJoins 31 = .ok (.isub, 1) := dk_dX10_qJoins_25.2.2.2.2.1
theorem dX10_qJoins_32 : decode cX10_qJoins 32 = .ok (.putfield 440, 3) := dk_dX10_qJoins_25.2.2.2.2.2.1
theorem dX10_qJoins_35 : decode cX10_qJoins 35 = .ok (.iload_n 1, 1) := dk_dX10_qJoins_25.2.2.2.2.2.2.1
theorem dX10_qJoins_36 : decode cX10_qJoins 36 = .ok (.tableswitch 219 1 10 #[56, 70, 84, 98, 111, 131, 151, 170, 189, 208], 56) := dk_dX10_qJoins_25.2.2.2.2.2.2.2.1
theorem dX10_qJoins_92 : decode cX10_qJoins 92 = .ok (.aload_n 0, 1) := dk_dX10_qJoins_25.2.2.2.2.2.2.2.2.1
theorem dX10_qJoins_93 : decode cX10_qJoins 93 = .ok (.lload 4, 2) := dk_dX10_qJoins_25.2.2.2.2.2.2.2.2.2.1
theorem dX10_qJoins_95 : decode cX10_qJoins 95 = .ok (.lload_n 2, 1) := dk_dX10_qJoins_25.2.2.2.2.2.2.2.2.2.2.1
theorem dX10_qJoins_96 : decode cX10_qJoins 96 = .ok (.ladd, 1) := dk_dX10_qJoins_25.2.2.2.2.2.2.2.2.2.2.2.1
theorem dX10_qJoins_97 : decode cX10_qJoins 97 = .ok (.invokestatic 666, 3) := dk_dX10_qJoins_25.2.2.2.2.2.2.2.2.2.2.2.2.1
theorem dX10_qJoins_100 : decode cX10_qJoins 100 = .ok (.invokevirtual 443, 3) := dk_dX10_qJoins_25.2.2.2.2.2.2.2.2.2.2.2.2.2.1
theorem dX10_qJoins_103 : decode cX10_qJoins 103 = .ok (.goto 170, 3) := dk_dX10_qJoins_25.2.2.2.2.2.2.2.2.2.2.2.2.2.2.1
theorem dX10_qJoins_106 : decode cX10_qJoins 106 = .ok (.aload_n 0, 1) := dk_dX10_qJoins_25.2.2.2.2.2.2.2.2.2.2.2.2.2.2.2
theorem dk_dX10_qJoins_107 : decode cX10_qJoins 107 = .ok (.lload 4, 2) ∧ decode cX10_qJoins 109 = .ok (.lload_n 2, 1) ∧ decode cX10_qJoins 110 = .ok (.lsub, 1) ∧ decode cX10_qJoins 111 = .ok (.invokestatic 666, 3) ∧ decode cX10_qJoins 114 = .ok (.invokevirtual 443, 3) ∧ decode cX10_qJoins 117 = .ok (.goto 156, 3) ∧ decode cX10_qJoins 120 = .ok (.aload_n 0, 1) ∧ decode cX10_qJoins 121 = .ok (.lload 4, 2) ∧ decode cX10_qJoins 123 = .ok (.lload_n 2, 1) := by decide +kernel
theorem dX10_qJoins_107 : decode cX10_qJoins 107 = .ok (.lload 4, 2) := dk_dX10_qJoins_107.1
theorem dX10_qJoins_109 : decode cX10_qJoins 109 = .ok (.lload_n 2, 1) := dk_dX10_qJoins_107.2.1
theorem dX10_qJoins_110 : decode cX10_qJoins 110 = .ok (.lsub, 1) := dk_dX10_qJoins_107.2.2.1
theorem dX10_qJoins_111 : decode cX10_qJoins 111 = .ok (.invokestatic 666, 3) := dk_dX10_qJoins_107.2.2.2.1
theorem dX10_qJoins_114 : decode cX10_qJoins 114 = .ok (.invokevirtual 443, 3) := dk_dX10_qJoins_107.2.2.2.2.1
theorem dX10_qJoins_117 : decode cX10_qJoins 117 = .ok (.goto 156, 3) := dk_dX10_qJoins_107.2.2.2.2.2.1
theorem dX10_qJoins_120 : decode cX10_qJoins 120 = .ok (.aload_n 0, 1) := dk_dX10_qJoins_107.2.2.2.2.2.2.1
theorem dX10_qJoins_121 : decode cX10_qJoins 121 = .ok (.lload 4, 2) := dk_dX10_qJoins_107.2.2.2.2.2.2.2.1
theorem dX10_qJoins_123 : decode cX10_qJoins 123 = .ok (.lload_n 2, 1) := dk_dX10_qJoins_107.2.2.2.2.2.2.2.2
