theorem dJ7_fill_53178_0 : decode cJ7_fill_53178 0 = .ok (.iconst 0, 1) := by decide +kernel
theorem dJ7_fill_53178_1 : decode cJ7_fill_53178 1 = .ok (.istore_n 2, 1) := by decide +kernel
theorem dJ7_fill_53178_2 : decode cJ7_fill_53178 2 = .ok (.aload_n 0, 1) := by decide +kernel
theorem dJ7_fill_53178_3 : decode cJ7_fill_53178 3 = .ok (.arraylength, 1) := by decide +kernel
theorem dJ7_fill_53178_4 : decode cJ7_fill_53178 4 = .ok (.istore_n 3, 1) := by decide +kernel
theorem dJ7_fill_53178_5 : decode cJ7_fill_53178 5 = .ok (.iload_n 2, 1) := by decide +kernel
theorem dJ7_fill_53178_6 : decode cJ7_fill_53178 6 = .ok (.iload_n 3, 1) := by decide +kernel
theorem dJ7_fill_53178_7 : decode cJ7_fill_53178 7 = .ok (.if_icmp .ge 13, 3) := by decide +kernel
theorem dJ7_fill_53178_10 : decode cJ7_fill_53178 10 = .ok (.aload_n 0, 1) := by decide +kernel
theorem dJ7_fill_53178_11 : decode cJ7_fill_53178 11 = .ok (.iload_n 2, 1) := by decide +kernel
theorem dJ7_fill_53178_12 : decode cJ7_fill_53178 12 = .ok (.iload_n 1, 1) := by decide +kernel
theorem dJ7_fill_53178_13 : decode cJ7_fill_53178 13 = .ok (.iastore, 1) := by decide +kernel
theorem dJ7_fill_53178_14 : decode cJ7_fill_53178 14 = .ok (.iinc 2 1, 3) := by decide +kernel
theorem dJ7_fill_53178_17 : decode cJ7_fill_53178 17 = .ok (.goto (-12), 3) := by decide +kernel
theorem dJ7_fill_53178_20 : decode cJ7_fill_53178 20 = .ok (.return_, 1) := by decide +kernel
theorem dX0_init_0 : decode cX0_init 0 = .ok (.aload_n 0, 1) := by decide +kernel
theorem dX0_init_1 : decode cX0_init 1 = .ok (.invokespecial 3, 3) := by decide +kernel
theorem dX0_init_4 : decode cX0_init 4 = .ok (.aload_n 0, 1) := by decide +kernel
theorem dX0_init_5 : decode cX0_init 5 = .ok (.new 9, 3) := by decide +kernel
theorem dX0_init_8 : decode cX0_init 8 = .ok (.dup, 1) := by decide +kernel
theorem dX0_init_9 : decode cX0_init 9 = .ok (.invokespecial 11, 3) := by decide +kernel
theorem dX0_init_12 : decode cX0_init 12 = .ok (.putfield 12, 3) := by decide +kernel
theorem dX0_init_15 : decode cX0_init 15 = .ok (.aload_n 0, 1) := by decide +kernel
theorem dX0_init_16 : decode cX0_init 16 = .ok (.sipush 180, 3) := by decide +kernel
theorem dX0_init_19 : decode cX0_init 19 = .ok (.newarray .int, 2) := by decide +kernel
theorem dX0_init_21 : decode cX0_init 21 = .ok (.putfield 18, 3) := by decide +kernel
theorem dX0_init_24 : decode cX0_init 24 = .ok (.aload_n 0, 1) := by decide +kernel
theorem dX0_init_25 : decode cX0_init 25 = .ok (.sipush 180, 3) := by decide +kernel
theorem dX0_init_28 : decode cX0_init 28 = .ok (.newarray .int, 2) := by decide +kernel
theorem dX0_init_30 : decode cX0_init 30 = .ok (.putfield 22, 3) := by decide +kernel
theorem dX0_init_33 : decode cX0_init 33 = .ok (.aload_n 0, 1) := by decide +kernel
theorem dX0_init_34 : decode cX0_init 34 = .ok (.iconst 0, 1) := by decide +kernel
theorem dX0_init_35 : decode cX0_init 35 = .ok (.putfield 25, 3) := by decide +kernel
theorem dX0_init_38 : decode cX0_init 38 = .ok (.aload_n 0, 1) := by decide +kernel
theorem dX0_init_39 : decode cX0_init 39 = .ok (.aload_n 1, 1) := by decide +kernel
theorem dX0_init_40 : decode cX0_init 40 = .ok (.putfield 29, 3) := by decide +kernel
theorem dX0_init_43 : decode cX0_init 43 = .ok (.return_, 1) := by decide +kernel
theorem dX10_ask_0 : decode cX10_ask 0 = .ok (.aload_n 0, 1) := by decide +kernel
theorem dX10_ask_1 : decode cX10_ask 1 = .ok (.getfield 417, 3) := by decide +kernel
theorem dX10_ask_4 : decode cX10_ask 4 = .ok (.ifCond .ne 12, 3) := by decide +kernel
theorem dX10_ask_7 : decode cX10_ask 7 = .ok (.aload_n 0, 1) := by decide +kernel
theorem dX10_ask_8 : decode cX10_ask 8 = .ok (.iconst 0, 1) := by decide +kernel
theorem dX10_ask_9 : decode cX10_ask 9 = .ok (.putfield 276, 3) := by decide +kernel
theorem dX10_ask_12 : decode cX10_ask 12 = .ok (.ldc2_w 686, 3) := by decide +kernel
theorem dX10_ask_15 : decode cX10_ask 15 = .ok (.lreturn, 1) := by decide +kernel
theorem dX10_asks_0 : decode cX10_asks 0 = .ok (.aload_n 0, 1) := by decide +kernel
theorem dX10_asks_1 : decode cX10_asks 1 = .ok (.getfield 279, 3) := by decide +kernel
theorem dX10_asks_4 : decode cX10_asks 4 = .ok (.ifCond .ne 20, 3) := by decide +kernel
theorem dX10_asks_7 : decode cX10_asks 7 = .ok (.aload_n 0, 1) := by decide +kernel
theorem dX10_asks_8 : decode cX10_asks 8 = .ok (.aload_n 1, 1) := by decide +kernel
theorem dX10_asks_9 : decode cX10_asks 9 = .ok (.invokevirtual 305, 3) := by decide +kernel
theorem dX10_asks_12 : decode cX10_asks 12 = .ok (.ifCond .ne 12, 3) := by decide +kernel
theorem dX10_asks_15 : decode cX10_asks 15 = .ok (.aload_n 0, 1) := by decide +kernel
theorem dX10_asks_16 : decode cX10_asks 16 = .ok (.iconst 1, 1) := by decide +kernel
theorem dX10_asks_17 : decode cX10_asks 17 = .ok (.aload_n 0, 1) := by decide +kernel
theorem dX10_asks_18 : decode cX10_asks 18 = .ok (.getfield 285, 3) := by decide +kernel
theorem dX10_asks_21 : decode cX10_asks 21 = .ok (.invokevirtual 308, 3) := by decide +kernel
theorem dX10_asks_24 : decode cX10_asks 24 = .ok (.return_, 1) := by decide +kernel
theorem dX10_asksSign_0 : decode cX10_asksSign 0 = .ok (.aload_n 0, 1) := by decide +kernel
theorem dX10_asksSign_1 : decode cX10_asksSign 1 = .ok (.getfield 279, 3) := by decide +kernel
theorem dX10_asksSign_4 : decode cX10_asksSign 4 = .ok (.ifCond .ne 20, 3) := by decide +kernel
theorem dX10_asksSign_24 : decode cX10_asksSign 24 = .ok (.return_, 1) := by decide +kernel
theorem dX10_barTold_0 : decode cX10_barTold 0 = .ok (.aload_n 0, 1) := by decide +kernel
theorem dX10_barTold_1 : decode cX10_barTold 1 = .ok (.aload_n 0, 1) := by decide +kernel
theorem dX10_barTold_2 : decode cX10_barTold 2 = .ok (.getfield 20, 3) := by decide +kernel
theorem dX10_barTold_5 : decode cX10_barTold 5 = .ok (.invokevirtual 350, 3) := by decide +kernel
theorem dX10_barTold_8 : decode cX10_barTold 8 = .ok (.aload_n 0, 1) := by decide +kernel
theorem dX10_barTold_9 : decode cX10_barTold 9 = .ok (.getfield 118, 3) := by decide +kernel
theorem dX10_barTold_12 : decode cX10_barTold 12 = .ok (.iconst 0, 1) := by decide +kernel
theorem dX10_barTold_13 : decode cX10_barTold 13 = .ok (.aload_n 0, 1) := by decide +kernel
theorem dX10_barTold_14 : decode cX10_barTold 14 = .ok (.bipush 10, 2) := by decide +kernel
theorem dX10_barTold_16 : decode cX10_barTold 16 = .ok (.bipush 120, 2) := by decide +kernel
theorem dX10_barTold_18 : decode cX10_barTold 18 = .ok (.invokevirtual 354, 3) := by decide +kernel
theorem dX10_barTold_21 : decode cX10_barTold 21 = .ok (.iastore, 1) := by decide +kernel
theorem dX10_barTold_22 : decode cX10_barTold 22 = .ok (.aload_n 0, 1) := by decide +kernel
theorem dX10_barTold_23 : decode cX10_barTold 23 = .ok (.aload_n 0, 1) := by decide +kernel
theorem dX10_barTold_24 : decode cX10_barTold 24 = .ok (.getfield 24, 3) := by decide +kernel
theorem dX10_barTold_27 : decode cX10_barTold 27 = .ok (.invokevirtual 350, 3) := by decide +kernel
theorem dX10_barTold_30 : decode cX10_barTold 30 = .ok (.aload_n 0, 1) := by decide +kernel
theorem dX10_barTold_31 : decode cX10_barTold 31 = .ok (.getfield 118, 3) := by decide +kernel
theorem dX10_barTold_34 : decode cX10_barTold 34 = .ok (.iconst 1, 1) := by decide +kernel
theorem dX10_barTold_35 : decode cX10_barTold 35 = .ok (.aload_n 0, 1) := by decide +kernel
theorem dX10_barTold_36 : decode cX10_barTold 36 = .ok (.iconst 1, 1) := by decide +kernel
theorem dX10_barTold_37 : decode cX10_barTold 37 = .ok (.aload_n 0, 1) := by decide +kernel
theorem dX10_barTold_38 : decode cX10_barTold 38 = .ok (.getfield 118, 3) := by decide +kernel
theorem dX10_barTold_41 : decode cX10_barTold 41 = .ok (.iconst 0, 1) := by decide +kernel
theorem dX10_barTold_42 : decode cX10_barTold 42 = .ok (.iaload, 1) := by decide +kernel
theorem dX10_barTold_43 : decode cX10_barTold 43 = .ok (.bipush 60, 2) := by decide +kernel
theorem dX10_barTold_45 : decode cX10_barTold 45 = .ok (.if_icmp .le 8, 3) := by decide +kernel
theorem dX10_barTold_53 : decode cX10_barTold 53 = .ok (.aload_n 0, 1) := by decide +kernel
theorem dX10_barTold_54 : decode cX10_barTold 54 = .ok (.getfield 118, 3) := by decide +kernel
theorem dX10_barTold_57 : decode cX10_barTold 57 = .ok (.iconst 0, 1) := by decide +kernel
theorem dX10_barTold_58 : decode cX10_barTold 58 = .ok (.iaload, 1) := by decide +kernel
theorem dX10_barTold_59 : decode cX10_barTold 59 = .ok (.iconst 1, 1) := by decide +kernel
theorem dX10_barTold_60 : decode cX10_barTold 60 = .ok (.isub, 1) := by decide +kernel
theorem dX10_barTold_61 : decode cX10_barTold 61 = .ok (.invokevirtual 354, 3) := by decide +kernel
theorem dX10_barTold_64 : decode cX10_barTold 64 = .ok (.iastore, 1) := by decide +kernel
theorem dX10_barTold_65 : decode cX10_barTold 65 = .ok (.aload_n 0, 1) := by decide +kernel
theorem dX10_barTold_66 : decode cX10_barTold 66 = .ok (.aload_n 0, 1) := by decide +kernel
theorem dX10_barTold_67 : decode cX10_barTold 67 = .ok (.getfield 27, 3) := by decide +kernel
theorem dX10_barTold_70 : decode cX10_barTold 70 = .ok (.invokevirtual 350, 3) := by decide +kernel
theorem dX10_barTold_73 : decode cX10_barTold 73 = .ok (.aload_n 0, 1) := by decide +kernel
theorem dX10_barTold_74 : decode cX10_barTold 74 = .ok (.getfield 118, 3) := by decide +kernel
theorem dX10_barTold_77 : decode cX10_barTold 77 = .ok (.iconst 2, 1) := by decide +kernel
theorem dX10_barTold_78 : decode cX10_barTold 78 = .ok (.aload_n 0, 1) := by decide +kernel
theorem dX10_barTold_79 : decode cX10_barTold 79 = .ok (.iconst 0, 1) := by decide +kernel
theorem dX10_barTold_80 : decode cX10_barTold 80 = .ok (.iconst 2, 1) := by decide +kernel
theorem dX10_barTold_81 : decode cX10_barTold 81 = .ok (.invokevirtual 354, 3) := by decide +kernel
theorem dX10_barTold_84 : decode cX10_barTold 84 = .ok (.iastore, 1) := by decide +kernel
theorem dX10_barTold_85 : decode cX10_barTold 85 = .ok (.aload_n 0, 1) := by decide +kernel
theorem dX10_barTold_86 : decode cX10_barTold 86 = .ok (.aload_n 0, 1) := by decide +kernel
theorem dX10_barTold_87 : decode cX10_barTold 87 = .ok (.getfield 30, 3) := by decide +kernel
theorem dX10_barTold_90 : decode cX10_barTold 90 = .ok (.invokevirtual 350, 3) := by decide +kernel
theorem dX10_barTold_93 : decode cX10_barTold 93 = .ok (.aload_n 0, 1) := by decide +kernel
theorem dX10_barTold_94 : decode cX10_barTold 94 = .ok (.getfield 118, 3) := by decide +kernel
theorem dX10_barTold_97 : decode cX10_barTold 97 = .ok (.iconst 3, 1) := by decide +kernel
theorem dX10_barTold_98 : decode cX10_barTold 98 = .ok (.aload_n 0, 1) := by decide +kernel
theorem dX10_barTold_99 : decode cX10_barTold 99 = .ok (.iconst 0, 1) := by decide +kernel
theorem dX10_barTold_100 : decode cX10_barTold 100 = .ok (.bipush 99, 2) := by decide +kernel
theorem dX10_barTold_102 : decode cX10_barTold 102 = .ok (.invokevirtual 354, 3) := by decide +kernel
theorem dX10_barTold_105 : decode cX10_barTold 105 = .ok (.iastore, 1) := by decide +kernel
theorem dX10_barTold_106 : decode cX10_barTold 106 = .ok (.aload_n 0, 1) := by decide +kernel
theorem dX10_barTold_107 : decode cX10_barTold 107 = .ok (.bipush 59, 2) := by decide +kernel
theorem dX10_barTold_109 : decode cX10_barTold 109 = .ok (.invokevirtual 358, 3) := by decide +kernel
theorem dX10_barTold_112 : decode cX10_barTold 112 = .ok (.return_, 1) := by decide +kernel
theorem dX10_best_0 : decode cX10_best 0 = .ok (.aload_n 0, 1) := by decide +kernel
theorem dX10_best_1 : decode cX10_best 1 = .ok (.getfield 417, 3) := by decide +kernel
theorem dX10_best_4 : decode cX10_best 4 = .ok (.ifCond .eq 27, 3) := by decide +kernel
theorem dX10_best_31 : decode cX10_best 31 = .ok (.iconst (-1), 1) := by decide +kernel
theorem dX10_best_32 : decode cX10_best 32 = .ok (.ireturn, 1) := by decide +kernel
theorem dX10_car_0 : decode cX10_car 0 = .ok (.aload_n 0, 1) := by decide +kernel
theorem dX10_car_1 : decode cX10_car 1 = .ok (.getfield 417, 3) := by decide +kernel
theorem dX10_car_4 : decode cX10_car 4 = .ok (.ifCond .eq 15, 3) := by decide +kernel
theorem dX10_car_19 : decode cX10_car 19 = .ok (.iconst (-1), 1) := by decide +kernel
theorem dX10_car_20 : decode cX10_car 20 = .ok (.ireturn, 1) := by decide +kernel
theorem dX10_chance_0 : decode cX10_chance 0 = .ok (.aload_n 0, 1) := by decide +kernel
theorem dX10_chance_1 : decode cX10_chance 1 = .ok (.iload_n 1, 1) := by decide +kernel
theorem dX10_chance_2 : decode cX10_chance 2 = .ok (.iconst 1, 1) := by decide +kernel
theorem dX10_chance_3 : decode cX10_chance 3 = .ok (.bipush 30, 2) := by decide +kernel
theorem dX10_chance_5 : decode cX10_chance 5 = .ok (.invokevirtual 554, 3) := by decide +kernel
theorem dX10_chance_8 : decode cX10_chance 8 = .ok (.ifCond .ne 9, 3) := by decide +kernel
theorem dX10_chance_11 : decode cX10_chance 11 = .ok (.aload_n 0, 1) := by decide +kernel
theorem dX10_chance_12 : decode cX10_chance 12 = .ok (.iconst 3, 1) := by decide +kernel
theorem dX10_chance_13 : decode cX10_chance 13 = .ok (.invokevirtual 567, 3) := by decide +kernel
theorem dX10_chance_16 : decode cX10_chance 16 = .ok (.ireturn, 1) := by decide +kernel
theorem dX10_checked_0 : decode cX10_checked 0 = .ok (.bipush 101, 2) := by decide +kernel
theorem dX10_checked_2 : decode cX10_checked 2 = .ok (.istore_n 2, 1) := by decide +kernel
theorem dX10_checked_3 : decode cX10_checked 3 = .ok (.iconst 0, 1) := by decide +kernel
theorem dX10_checked_4 : decode cX10_checked 4 = .ok (.istore_n 3, 1) := by decide +kernel
theorem dX10_checked_5 : decode cX10_checked 5 = .ok (.iload_n 3, 1) := by decide +kernel
theorem dX10_checked_6 : decode cX10_checked 6 = .ok (.iload_n 1, 1) := by decide +kernel
theorem dX10_checked_7 : decode cX10_checked 7 = .ok (.if_icmp .ge 21, 3) := by decide +kernel
theorem dX10_checked_10 : decode cX10_checked 10 = .ok (.iconst 3, 1) := by decide +kernel
theorem dX10_checked_11 : decode cX10_checked 11 = .ok (.iload_n 2, 1) := by decide +kernel
theorem dX10_checked_12 : decode cX10_checked 12 = .ok (.imul, 1) := by decide +kernel
theorem dX10_checked_13 : decode cX10_checked 13 = .ok (.aload_n 0, 1) := by decide +kernel
theorem dX10_checked_14 : decode cX10_checked 14 = .ok (.iload_n 3, 1) := by decide +kernel
theorem dX10_checked_15 : decode cX10_checked 15 = .ok (.iaload, 1) := by decide +kernel
theorem dX10_checked_16 : decode cX10_checked 16 = .ok (.iadd, 1) := by decide +kernel
theorem dX10_checked_17 : decode cX10_checked 17 = .ok (.sipush 251, 3) := by decide +kernel
theorem dX10_checked_20 : decode cX10_checked 20 = .ok (.irem, 1) := by decide +kernel
theorem dX10_checked_21 : decode cX10_checked 21 = .ok (.istore_n 2, 1) := by decide +kernel
theorem dX10_checked_22 : decode cX10_checked 22 = .ok (.iinc 3 1, 3) := by decide +kernel
theorem dX10_checked_25 : decode cX10_checked 25 = .ok (.goto (-20), 3) := by decide +kernel
theorem dX10_checked_28 : decode cX10_checked 28 = .ok (.iload_n 2, 1) := by decide +kernel
theorem dX10_checked_29 : decode cX10_checked 29 = .ok (.ireturn, 1) := by decide +kernel
theorem dX10_crossing_0 : decode cX10_crossing 0 = .ok (.aload_n 0, 1) := by decide +kernel
theorem dX10_crossing_1 : decode cX10_crossing 1 = .ok (.aload_n 0, 1) := by decide +kernel
theorem dX10_crossing_2 : decode cX10_crossing 2 = .ok (.getfield 276, 3) := by decide +kernel
theorem dX10_crossing_5 : decode cX10_crossing 5 = .ok (.putfield 288, 3) := by decide +kernel
theorem dX10_crossing_8 : decode cX10_crossing 8 = .ok (.aload_n 0, 1) := by decide +kernel
theorem dX10_crossing_9 : decode cX10_crossing 9 = .ok (.iconst 0, 1) := by decide +kernel
theorem dX10_crossing_10 : decode cX10_crossing 10 = .ok (.putfield 276, 3) := by decide +kernel
theorem dX10_crossing_13 : decode cX10_crossing 13 = .ok (.aload_n 0, 1) := by decide +kernel
theorem dX10_crossing_14 : decode cX10_crossing 14 = .ok (.iconst 0, 1) := by decide +kernel
theorem dX10_crossing_15 : decode cX10_crossing 15 = .ok (.putfield 285, 3) := by decide +kernel
theorem dX10_crossing_18 : decode cX10_crossing 18 = .ok (.aload_n 0, 1) := by decide +kernel
theorem dX10_crossing_19 : decode cX10_crossing 19 = .ok (.iconst (-1), 1) := by decide +kernel
theorem dX10_crossing_20 : decode cX10_crossing 20 = .ok (.putfield 299, 3) := by decide +kernel
theorem dX10_crossing_23 : decode cX10_crossing 23 = .ok (.aload_n 0, 1) := by decide +kernel
theorem dX10_crossing_24 : decode cX10_crossing 24 = .ok (.iconst 0, 1) := by decide +kernel
theorem dX10_crossing_25 : decode cX10_crossing 25 = .ok (.putfield 279, 3) := by decide +kernel
theorem dX10_crossing_28 : decode cX10_crossing 28 = .ok (.aload_n 0, 1) := by decide +kernel
theorem dX10_crossing_29 : decode cX10_crossing 29 = .ok (.iconst (-1), 1) := by decide +kernel
theorem dX10_crossing_30 : decode cX10_crossing 30 = .ok (.putfield 282, 3) := by decide +kernel
theorem dX10_crossing_33 : decode cX10_crossing 33 = .ok (.aload_n 0, 1) := by decide +kernel
theorem dX10_crossing_34 : decode cX10_crossing 34 = .ok (.iconst 0, 1) := by decide +kernel
theorem dX10_crossing_35 : decode cX10_crossing 35 = .ok (.putfield 387, 3) := by decide +kernel
theorem dX10_crossing_38 : decode cX10_crossing 38 = .ok (.aload_n 0, 1) := by decide +kernel
theorem dX10_crossing_39 : decode cX10_crossing 39 = .ok (.getfield 111, 3) := by decide +kernel
theorem dX10_crossing_42 : decode cX10_crossing 42 = .ok (.iconst 0, 1) := by decide +kernel
theorem dX10_crossing_43 : decode cX10_crossing 43 = .ok (.iconst 0, 1) := by decide +kernel
theorem dX10_crossing_44 : decode cX10_crossing 44 = .ok (.iastore, 1) := by decide +kernel
theorem dX10_crossing_45 : decode cX10_crossing 45 = .ok (.aload_n 0, 1) := by decide +kernel
theorem dX10_crossing_46 : decode cX10_crossing 46 = .ok (.getfield 111, 3) := by decide +kernel
theorem dX10_crossing_49 : decode cX10_crossing 49 = .ok (.iconst 1, 1) := by decide +kernel
theorem dX10_crossing_50 : decode cX10_crossing 50 = .ok (.iconst 0, 1) := by decide +kernel
theorem dX10_crossing_51 : decode cX10_crossing 51 = .ok (.iastore, 1) := by decide +kernel
theorem dX10_crossing_52 : decode cX10_crossing 52 = .ok (.iconst 0, 1) := by decide +kernel
theorem dX10_crossing_53 : decode cX10_crossing 53 = .ok (.istore_n 1, 1) := by decide +kernel
theorem dX10_crossing_54 : decode cX10_crossing 54 = .ok (.iload_n 1, 1) := by decide +kernel
theorem dX10_crossing_55 : decode cX10_crossing 55 = .ok (.iconst 3, 1) := by decide +kernel
theorem dX10_crossing_56 : decode cX10_crossing 56 = .ok (.if_icmp .ge 16, 3) := by decide +kernel
theorem dX10_crossing_59 : decode cX10_crossing 59 = .ok (.aload_n 0, 1) := by decide +kernel
theorem dX10_crossing_60 : decode cX10_crossing 60 = .ok (.getfield 130, 3) := by decide +kernel
theorem dX10_crossing_63 : decode cX10_crossing 63 = .ok (.iload_n 1, 1) := by decide +kernel
theorem dX10_crossing_64 : decode cX10_crossing 64 = .ok (.iconst (-1), 1) := by decide +kernel
theorem dX10_crossing_65 : decode cX10_crossing 65 = .ok (.iastore, 1) := by decide +kernel
theorem dX10_crossing_66 : decode cX10_crossing 66 = .ok (.iinc 1 1, 3) := by decide +kernel
theorem dX10_crossing_69 : decode cX10_crossing 69 = .ok (.goto (-15), 3) := by decide +kernel
theorem dX10_crossing_72 : decode cX10_crossing 72 = .ok (.aload_n 0, 1) := by decide +kernel
theorem dX10_crossing_73 : decode cX10_crossing 73 = .ok (.iconst 0, 1) := by decide +kernel
theorem dX10_crossing_74 : decode cX10_crossing 74 = .ok (.putfield 402, 3) := by decide +kernel
theorem dX10_crossing_77 : decode cX10_crossing 77 = .ok (.aload_n 0, 1) := by decide +kernel
theorem dX10_crossing_78 : decode cX10_crossing 78 = .ok (.invokevirtual 405, 3) := by decide +kernel
theorem dX10_crossing_81 : decode cX10_crossing 81 = .ok (.aload_n 0, 1) := by decide +kernel
theorem dX10_crossing_82 : decode cX10_crossing 82 = .ok (.iconst 1, 1) := by decide +kernel
theorem dX10_crossing_83 : decode cX10_crossing 83 = .ok (.putfield 390, 3) := by decide +kernel
theorem dX10_crossing_86 : decode cX10_crossing 86 = .ok (.aload_n 0, 1) := by decide +kernel
theorem dX10_crossing_87 : decode cX10_crossing 87 = .ok (.getfield 279, 3) := by decide +kernel
theorem dX10_crossing_90 : decode cX10_crossing 90 = .ok (.ifCond .ne 18, 3) := by decide +kernel
theorem dX10_crossing_108 : decode cX10_crossing 108 = .ok (.aload_n 0, 1) := by decide +kernel
theorem dX10_crossing_109 : decode cX10_crossing 109 = .ok (.aload_n 0, 1) := by decide +kernel
theorem dX10_crossing_110 : decode cX10_crossing 110 = .ok (.getfield 279, 3) := by decide +kernel
theorem dX10_crossing_113 : decode cX10_crossing 113 = .ok (.putfield 411, 3) := by decide +kernel
theorem dX10_crossing_116 : decode cX10_crossing 116 = .ok (.aload_n 0, 1) := by decide +kernel
theorem dX10_crossing_117 : decode cX10_crossing 117 = .ok (.aload_n 0, 1) := by decide +kernel
theorem dX10_crossing_118 : decode cX10_crossing 118 = .ok (.getfield 282, 3) := by decide +kernel
theorem dX10_crossing_121 : decode cX10_crossing 121 = .ok (.putfield 13, 3) := by decide +kernel
theorem dX10_crossing_124 : decode cX10_crossing 124 = .ok (.aload_n 0, 1) := by decide +kernel
theorem dX10_crossing_125 : decode cX10_crossing 125 = .ok (.getfield 279, 3) := by decide +kernel
theorem dX10_crossing_128 : decode cX10_crossing 128 = .ok (.ifCond .eq 15, 3) := by decide +kernel
theorem dX10_crossing_131 : decode cX10_crossing 131 = .ok (.aload_n 0, 1) := by decide +kernel
theorem dX10_crossing_132 : decode cX10_crossing 132 = .ok (.getfield 17, 3) := by decide +kernel
theorem dX10_crossing_135 : decode cX10_crossing 135 = .ok (.iconst 1, 1) := by decide +kernel
theorem dX10_crossing_136 : decode cX10_crossing 136 = .ok (.dup2, 1) := by decide +kernel
theorem dX10_crossing_137 : decode cX10_crossing 137 = .ok (.iaload, 1) := by decide +kernel
theorem dX10_crossing_138 : decode cX10_crossing 138 = .ok (.iconst 1, 1) := by decide +kernel
theorem dX10_crossing_139 : decode cX10_crossing 139 = .ok (.iadd, 1) := by decide +kernel
theorem dX10_crossing_140 : decode cX10_crossing 140 = .ok (.iastore, 1) := by decide +kernel
theorem dX10_crossing_141 : decode cX10_crossing 141 = .ok (.iconst (-1), 1) := by decide +kernel
theorem dX10_crossing_142 : decode cX10_crossing 142 = .ok (.ireturn, 1) := by decide +kernel
theorem dX10_day_0 : decode cX10_day 0 = .ok (.aload_n 0, 1) := by decide +kernel
theorem dX10_day_1 : decode cX10_day 1 = .ok (.getfield 417, 3) := by decide +kernel
theorem dX10_day_4 : decode cX10_day 4 = .ok (.ifCond .eq 15, 3) := by decide +kernel
theorem dX10_day_19 : decode cX10_day 19 = .ok (.iconst (-1), 1) := by decide +kernel
theorem dX10_day_20 : decode cX10_day 20 = .ok (.ireturn, 1) := by decide +kernel
theorem dX10_days_0 : decode cX10_days 0 = .ok (.aload_n 0, 1) := by decide +kernel
theorem dX10_days_1 : decode cX10_days 1 = .ok (.iload_n 1, 1) := by decide +kernel
theorem dX10_days_2 : decode cX10_days 2 = .ok (.iconst 1, 1) := by decide +kernel
theorem dX10_days_3 : decode cX10_days 3 = .ok (.bipush 30, 2) := by decide +kernel
theorem dX10_days_5 : decode cX10_days 5 = .ok (.invokevirtual 554, 3) := by decide +kernel
theorem dX10_days_8 : decode cX10_days 8 = .ok (.ifCond .ne 9, 3) := by decide +kernel
theorem dX10_days_11 : decode cX10_days 11 = .ok (.aload_n 0, 1) := by decide +kernel
theorem dX10_days_12 : decode cX10_days 12 = .ok (.iconst 3, 1) := by decide +kernel
theorem dX10_days_13 : decode cX10_days 13 = .ok (.invokevirtual 567, 3) := by decide +kernel
theorem dX10_days_16 : decode cX10_days 16 = .ok (.ireturn, 1) := by decide +kernel
theorem dX10_doubts_0 : decode cX10_doubts 0 = .ok (.aload_n 0, 1) := by decide +kernel
theorem dX10_doubts_1 : decode cX10_doubts 1 = .ok (.iload_n 1, 1) := by decide +kernel
theorem dX10_doubts_2 : decode cX10_doubts 2 = .ok (.invokevirtual 528, 3) := by decide +kernel
theorem dX10_doubts_5 : decode cX10_doubts 5 = .ok (.ifCond .ne 5, 3) := by decide +kernel
theorem dX10_doubts_8 : decode cX10_doubts 8 = .ok (.iconst (-1), 1) := by decide +kernel
theorem dX10_doubts_9 : decode cX10_doubts 9 = .ok (.ireturn, 1) := by decide +kernel
theorem dX10_end_0 : decode cX10_end 0 = .ok (.iload_n 1, 1) := by decide +kernel
theorem dX10_end_1 : decode cX10_end 1 = .ok (.ifCond .lt 11, 3) := by decide +kernel
theorem dX10_end_4 : decode cX10_end 4 = .ok (.iload_n 1, 1) := by decide +kernel
theorem dX10_end_5 : decode cX10_end 5 = .ok (.aload_n 0, 1) := by decide +kernel
theorem dX10_end_6 : decode cX10_end 6 = .ok (.getfield 276, 3) := by decide +kernel
theorem dX10_end_9 : decode cX10_end 9 = .ok (.if_icmp .le 15, 3) := by decide +kernel
theorem dX10_end_12 : decode cX10_end 12 = .ok (.aload_n 0, 1) := by decide +kernel
theorem dX10_end_13 : decode cX10_end 13 = .ok (.getfield 17, 3) := by decide +kernel
theorem dX10_end_16 : decode cX10_end 16 = .ok (.iconst 0, 1) := by decide +kernel
theorem dX10_end_17 : decode cX10_end 17 = .ok (.dup2, 1) := by decide +kernel
theorem dX10_end_18 : decode cX10_end 18 = .ok (.iaload, 1) := by decide +kernel
theorem dX10_end_19 : decode cX10_end 19 = .ok (.iconst 1, 1) := by decide +kernel
theorem dX10_end_20 : decode cX10_end 20 = .ok (.iadd, 1) := by decide +kernel
theorem dX10_end_21 : decode cX10_end 21 = .ok (.iastore, 1) := by decide +kernel
theorem dX10_end_22 : decode cX10_end 22 = .ok (.iconst 0, 1) := by decide +kernel
theorem dX10_end_23 : decode cX10_end 23 = .ok (.ireturn, 1) := by decide +kernel
theorem dX10_end_24 : decode cX10_end 24 = .ok (.aload_n 0, 1) := by decide +kernel
theorem dX10_end_25 : decode cX10_end 25 = .ok (.iload_n 1, 1) := by decide +kernel
theorem dX10_end_26 : decode cX10_end 26 = .ok (.putfield 276, 3) := by decide +kernel
theorem dX10_end_29 : decode cX10_end 29 = .ok (.iconst 1, 1) := by decide +kernel
theorem dX10_end_30 : decode cX10_end 30 = .ok (.ireturn, 1) := by decide +kernel
theorem dX10_fail_0 : decode cX10_fail 0 = .ok (.aload_n 0, 1) := by decide +kernel
theorem dX10_fail_1 : decode cX10_fail 1 = .ok (.getfield 279, 3) := by decide +kernel
theorem dX10_fail_4 : decode cX10_fail 4 = .ok (.ifCond .eq 4, 3) := by decide +kernel
theorem dX10_fail_8 : decode cX10_fail 8 = .ok (.aload_n 0, 1) := by decide +kernel
theorem dX10_fail_9 : decode cX10_fail 9 = .ok (.iload_n 1, 1) := by decide +kernel
theorem dX10_fail_10 : decode cX10_fail 10 = .ok (.putfield 279, 3) := by decide +kernel
theorem dX10_fail_13 : decode cX10_fail 13 = .ok (.aload_n 0, 1) := by decide +kernel
theorem dX10_fail_14 : decode cX10_fail 14 = .ok (.iload_n 2, 1) := by decide +kernel
theorem dX10_fail_15 : decode cX10_fail 15 = .ok (.putfield 282, 3) := by decide +kernel
theorem dX10_fail_18 : decode cX10_fail 18 = .ok (.return_, 1) := by decide +kernel
theorem dX10_fault_0 : decode cX10_fault 0 = .ok (.iload_n 1, 1) := by decide +kernel
theorem dX10_fault_1 : decode cX10_fault 1 = .ok (.ifCond .ne 10, 3) := by decide +kernel
theorem dX10_fault_4 : decode cX10_fault 4 = .ok (.aload_n 0, 1) := by decide +kernel
theorem dX10_fault_5 : decode cX10_fault 5 = .ok (.getfield 411, 3) := by decide +kernel
theorem dX10_fault_8 : decode cX10_fault 8 = .ok (.goto 16, 3) := by decide +kernel
theorem dX10_fault_11 : decode cX10_fault 11 = .ok (.iload_n 1, 1) := by decide +kernel
theorem dX10_fault_12 : decode cX10_fault 12 = .ok (.iconst 1, 1) := by decide +kernel
theorem dX10_fault_13 : decode cX10_fault 13 = .ok (.if_icmp .ne 10, 3) := by decide +kernel
theorem dX10_fault_16 : decode cX10_fault 16 = .ok (.aload_n 0, 1) := by decide +kernel
theorem dX10_fault_17 : decode cX10_fault 17 = .ok (.getfield 13, 3) := by decide +kernel
theorem dX10_fault_20 : decode cX10_fault 20 = .ok (.goto 4, 3) := by decide +kernel
theorem dX10_fault_23 : decode cX10_fault 23 = .ok (.iconst (-1), 1) := by decide +kernel
theorem dX10_fault_24 : decode cX10_fault 24 = .ok (.ireturn, 1) := by decide +kernel
theorem dX10_feed_0 : decode cX10_feed 0 = .ok (.aload_n 0, 1) := by decide +kernel
theorem dX10_feed_1 : decode cX10_feed 1 = .ok (.getfield 276, 3) := by decide +kernel
theorem dX10_feed_4 : decode cX10_feed 4 = .ok (.bipush 20, 2) := by decide +kernel
theorem dX10_feed_6 : decode cX10_feed 6 = .ok (.iadd, 1) := by decide +kernel
theorem dX10_feed_7 : decode cX10_feed 7 = .ok (.sipush 1600, 3) := by decide +kernel
theorem dX10_feed_10 : decode cX10_feed 10 = .ok (.if_icmp .le 15, 3) := by decide +kernel
theorem dX10_feed_25 : decode cX10_feed 25 = .ok (.iconst 0, 1) := by decide +kernel
theorem dX10_feed_26 : decode cX10_feed 26 = .ok (.istore 6, 2) := by decide +kernel
theorem dX10_feed_28 : decode cX10_feed 28 = .ok (.iload 6, 2) := by decide +kernel
theorem dX10_feed_30 : decode cX10_feed 30 = .ok (.bipush 20, 2) := by decide +kernel
theorem dX10_feed_32 : decode cX10_feed 32 = .ok (.if_icmp .ge 92, 3) := by decide +kernel
theorem dX10_feed_35 : decode cX10_feed 35 = .ok (.iload 6, 2) := by decide +kernel
theorem dX10_feed_37 : decode cX10_feed 37 = .ok (.iconst 4, 1) := by decide +kernel
theorem dX10_feed_38 : decode cX10_feed 38 = .ok (.if_icmp .ge 7, 3) := by decide +kernel
theorem dX10_feed_41 : decode cX10_feed 41 = .ok (.iload_n 1, 1) := by decide +kernel
theorem dX10_feed_42 : decode cX10_feed 42 = .ok (.goto 39, 3) := by decide +kernel
theorem dX10_feed_45 : decode cX10_feed 45 = .ok (.iload 6, 2) := by decide +kernel
theorem dX10_feed_47 : decode cX10_feed 47 = .ok (.bipush 8, 2) := by decide +kernel
theorem dX10_feed_49 : decode cX10_feed 49 = .ok (.if_icmp .ge 7, 3) := by decide +kernel
theorem dX10_feed_52 : decode cX10_feed 52 = .ok (.iload_n 2, 1) := by decide +kernel
theorem dX10_feed_53 : decode cX10_feed 53 = .ok (.goto 28, 3) := by decide +kernel
theorem dX10_feed_56 : decode cX10_feed 56 = .ok (.iload 6, 2) := by decide +kernel
theorem dX10_feed_58 : decode cX10_feed 58 = .ok (.bipush 12, 2) := by decide +kernel
theorem dX10_feed_60 : decode cX10_feed 60 = .ok (.if_icmp .ge 7, 3) := by decide +kernel
theorem dX10_feed_63 : decode cX10_feed 63 = .ok (.iload_n 3, 1) := by decide +kernel
theorem dX10_feed_64 : decode cX10_feed 64 = .ok (.goto 17, 3) := by decide +kernel
theorem dX10_feed_67 : decode cX10_feed 67 = .ok (.iload 6, 2) := by decide +kernel
theorem dX10_feed_69 : decode cX10_feed 69 = .ok (.bipush 16, 2) := by decide +kernel
theorem dX10_feed_71 : decode cX10_feed 71 = .ok (.if_icmp .ge 8, 3) := by decide +kernel
theorem dX10_feed_74 : decode cX10_feed 74 = .ok (.iload 4, 2) := by decide +kernel
theorem dX10_feed_76 : decode cX10_feed 76 = .ok (.goto 5, 3) := by decide +kernel
theorem dX10_feed_79 : decode cX10_feed 79 = .ok (.iload 5, 2) := by decide +kernel
theorem dX10_feed_81 : decode cX10_feed 81 = .ok (.istore 7, 2) := by decide +kernel
theorem dX10_feed_83 : decode cX10_feed 83 = .ok (.aload_n 0, 1) := by decide +kernel
theorem dX10_feed_84 : decode cX10_feed 84 = .ok (.getfield 7, 3) := by decide +kernel
theorem dX10_feed_87 : decode cX10_feed 87 = .ok (.aload_n 0, 1) := by decide +kernel
theorem dX10_feed_88 : decode cX10_feed 88 = .ok (.getfield 276, 3) := by decide +kernel
theorem dX10_feed_91 : decode cX10_feed 91 = .ok (.iload 7, 2) := by decide +kernel
theorem dX10_feed_93 : decode cX10_feed 93 = .ok (.bipush 8, 2) := by decide +kernel
theorem dX10_feed_95 : decode cX10_feed 95 = .ok (.iconst 3, 1) := by decide +kernel
theorem dX10_feed_96 : decode cX10_feed 96 = .ok (.iload 6, 2) := by decide +kernel
theorem dX10_feed_98 : decode cX10_feed 98 = .ok (.iconst 4, 1) := by decide +kernel
theorem dX10_feed_99 : decode cX10_feed 99 = .ok (.irem, 1) := by decide +kernel
theorem dX10_feed_100 : decode cX10_feed 100 = .ok (.isub, 1) := by decide +kernel
theorem dX10_feed_101 : decode cX10_feed 101 = .ok (.imul, 1) := by decide +kernel
theorem dX10_feed_102 : decode cX10_feed 102 = .ok (.ishr, 1) := by decide +kernel
theorem dX10_feed_103 : decode cX10_feed 103 = .ok (.sipush 255, 3) := by decide +kernel
theorem dX10_feed_106 : decode cX10_feed 106 = .ok (.iand, 1) := by decide +kernel
theorem dX10_feed_107 : decode cX10_feed 107 = .ok (.iastore, 1) := by decide +kernel
theorem dX10_feed_108 : decode cX10_feed 108 = .ok (.aload_n 0, 1) := by decide +kernel
theorem dX10_feed_109 : decode cX10_feed 109 = .ok (.dup, 1) := by decide +kernel
theorem dX10_feed_110 : decode cX10_feed 110 = .ok (.getfield 276, 3) := by decide +kernel
theorem dX10_feed_113 : decode cX10_feed 113 = .ok (.iconst 1, 1) := by decide +kernel
theorem dX10_feed_114 : decode cX10_feed 114 = .ok (.iadd, 1) := by decide +kernel
theorem dX10_feed_115 : decode cX10_feed 115 = .ok (.putfield 276, 3) := by decide +kernel
theorem dX10_feed_118 : decode cX10_feed 118 = .ok (.iinc 6 1, 3) := by decide +kernel
theorem dX10_feed_121 : decode cX10_feed 121 = .ok (.goto (-93), 3) := by decide +kernel
theorem dX10_feed_124 : decode cX10_feed 124 = .ok (.aload_n 0, 1) := by decide +kernel
theorem dX10_feed_125 : decode cX10_feed 125 = .ok (.getfield 276, 3) := by decide +kernel
theorem dX10_feed_128 : decode cX10_feed 128 = .ok (.ireturn, 1) := by decide +kernel
theorem dX10_fits_0 : decode cX10_fits 0 = .ok (.aload_n 0, 1) := by decide +kernel
theorem dX10_fits_1 : decode cX10_fits 1 = .ok (.getfield 417, 3) := by decide +kernel
theorem dX10_fits_4 : decode cX10_fits 4 = .ok (.ifCond .eq 15, 3) := by decide +kernel
theorem dX10_fits_19 : decode cX10_fits 19 = .ok (.iconst (-1), 1) := by decide +kernel
theorem dX10_fits_20 : decode cX10_fits 20 = .ok (.ireturn, 1) := by decide +kernel
theorem dX10_green_0 : decode cX10_green 0 = .ok (.aload_n 0, 1) := by decide +kernel
theorem dX10_green_1 : decode cX10_green 1 = .ok (.getfield 417, 3) := by decide +kernel
theorem dX10_green_4 : decode cX10_green 4 = .ok (.ifCond .eq 23, 3) := by decide +kernel
theorem dX10_green_27 : decode cX10_green 27 = .ok (.aload_n 0, 1) := by decide +kernel
theorem dX10_green_28 : decode cX10_green 28 = .ok (.invokevirtual 591, 3) := by decide +kernel
theorem dX10_green_31 : decode cX10_green 31 = .ok (.ireturn, 1) := by decide +kernel
theorem dX10_has_0 : decode cX10_has 0 = .ok (.iload_n 1, 1) := by decide +kernel
theorem dX10_has_1 : decode cX10_has 1 = .ok (.tableswitch 83 0 7 #[47, 54, 59, 64, 64, 64, 73, 78], 47) := by decide +kernel
theorem dX10_has_48 : decode cX10_has 48 = .ok (.aload_n 0, 1) := by decide +kernel
theorem dX10_has_49 : decode cX10_has 49 = .ok (.getfield 118, 3) := by decide +kernel
theorem dX10_has_52 : decode cX10_has 52 = .ok (.iconst 4, 1) := by decide +kernel
theorem dX10_has_53 : decode cX10_has 53 = .ok (.iaload, 1) := by decide +kernel
theorem dX10_has_54 : decode cX10_has 54 = .ok (.ireturn, 1) := by decide +kernel
theorem dX10_has_55 : decode cX10_has 55 = .ok (.aload_n 0, 1) := by decide +kernel
theorem dX10_has_56 : decode cX10_has 56 = .ok (.invokevirtual 430, 3) := by decide +kernel
theorem dX10_has_59 : decode cX10_has 59 = .ok (.ireturn, 1) := by decide +kernel
theorem dX10_has_60 : decode cX10_has 60 = .ok (.aload_n 0, 1) := by decide +kernel
theorem dX10_has_61 : decode cX10_has 61 = .ok (.invokevirtual 433, 3) := by decide +kernel
theorem dX10_has_64 : decode cX10_has 64 = .ok (.ireturn, 1) := by decide +kernel
theorem dX10_has_65 : decode cX10_has 65 = .ok (.aload_n 0, 1) := by decide +kernel
theorem dX10_has_66 : decode cX10_has 66 = .ok (.getfield 139, 3) := by decide +kernel
theorem dX10_has_69 : decode cX10_has 69 = .ok (.iload_n 1, 1) := by decide +kernel
theorem dX10_has_70 : decode cX10_has 70 = .ok (.iconst 3, 1) := by decide +kernel
theorem dX10_has_71 : decode cX10_has 71 = .ok (.isub, 1) := by decide +kernel
theorem dX10_has_72 : decode cX10_has 72 = .ok (.iaload, 1) := by decide +kernel
theorem dX10_has_73 : decode cX10_has 73 = .ok (.ireturn, 1) := by decide +kernel
theorem dX10_has_74 : decode cX10_has 74 = .ok (.aload_n 0, 1) := by decide +kernel
theorem dX10_has_75 : decode cX10_has 75 = .ok (.getfield 427, 3) := by decide +kernel
theorem dX10_has_78 : decode cX10_has 78 = .ok (.ireturn, 1) := by decide +kernel
theorem dX10_has_79 : decode cX10_has 79 = .ok (.aload_n 0, 1) := by decide +kernel
theorem dX10_has_80 : decode cX10_has 80 = .ok (.getfield 424, 3) := by decide +kernel
theorem dX10_has_83 : decode cX10_has 83 = .ok (.ireturn, 1) := by decide +kernel
theorem dX10_has_84 : decode cX10_has 84 = .ok (.iconst (-1), 1) := by decide +kernel
theorem dX10_has_85 : decode cX10_has 85 = .ok (.ireturn, 1) := by decide +kernel
theorem dX10_hold_0 : decode cX10_hold 0 = .ok (.aload_n 0, 1) := by decide +kernel
theorem dX10_hold_1 : decode cX10_hold 1 = .ok (.getfield 417, 3) := by decide +kernel
theorem dX10_hold_4 : decode cX10_hold 4 = .ok (.ifCond .ne 5, 3) := by decide +kernel
theorem dX10_hold_7 : decode cX10_hold 7 = .ok (.iconst (-1), 1) := by decide +kernel
theorem dX10_hold_8 : decode cX10_hold 8 = .ok (.ireturn, 1) := by decide +kernel
theorem dX10_image_0 : decode cX10_image 0 = .ok (.aload_n 0, 1) := by decide +kernel
theorem dX10_image_1 : decode cX10_image 1 = .ok (.iconst 0, 1) := by decide +kernel
theorem dX10_image_2 : decode cX10_image 2 = .ok (.putfield 699, 3) := by decide +kernel
theorem dX10_image_5 : decode cX10_image 5 = .ok (.aload_n 0, 1) := by decide +kernel
theorem dX10_image_6 : decode cX10_image 6 = .ok (.aload_n 0, 1) := by decide +kernel
theorem dX10_image_7 : decode cX10_image 7 = .ok (.getfield 139, 3) := by decide +kernel
theorem dX10_image_10 : decode cX10_image 10 = .ok (.iconst 0, 1) := by decide +kernel
theorem dX10_image_11 : decode cX10_image 11 = .ok (.iaload, 1) := by decide +kernel
theorem dX10_image_12 : decode cX10_image 12 = .ok (.sipush 256, 3) := by decide +kernel
theorem dX10_image_15 : decode cX10_image 15 = .ok (.idiv, 1) := by decide +kernel
theorem dX10_image_16 : decode cX10_image 16 = .ok (.invokevirtual 702, 3) := by decide +kernel
theorem dX10_image_19 : decode cX10_image 19 = .ok (.aload_n 0, 1) := by decide +kernel
theorem dX10_image_20 : decode cX10_image 20 = .ok (.aload_n 0, 1) := by decide +kernel
theorem dX10_image_21 : decode cX10_image 21 = .ok (.getfield 139, 3) := by decide +kernel
theorem dX10_image_24 : decode cX10_image 24 = .ok (.iconst 0, 1) := by decide +kernel
theorem dX10_image_25 : decode cX10_image 25 = .ok (.iaload, 1) := by decide +kernel
theorem dX10_image_26 : decode cX10_image 26 = .ok (.sipush 256, 3) := by decide +kernel
theorem dX10_image_29 : decode cX10_image 29 = .ok (.irem, 1) := by decide +kernel
theorem dX10_image_30 : decode cX10_image 30 = .ok (.invokevirtual 702, 3) := by decide +kernel
theorem dX10_image_33 : decode cX10_image 33 = .ok (.aload_n 0, 1) := by decide +kernel
theorem dX10_image_34 : decode cX10_image 34 = .ok (.aload_n 0, 1) := by decide +kernel
theorem dX10_image_35 : decode cX10_image 35 = .ok (.getfield 139, 3) := by decide +kernel
theorem dX10_image_38 : decode cX10_image 38 = .ok (.iconst 1, 1) := by decide +kernel
theorem dX10_image_39 : decode cX10_image 39 = .ok (.iaload, 1) := by decide +kernel
theorem dX10_image_40 : decode cX10_image 40 = .ok (.invokevirtual 702, 3) := by decide +kernel
theorem dX10_image_43 : decode cX10_image 43 = .ok (.aload_n 0, 1) := by decide +kernel
theorem dX10_image_44 : decode cX10_image 44 = .ok (.aload_n 0, 1) := by decide +kernel
theorem dX10_image_45 : decode cX10_image 45 = .ok (.getfield 139, 3) := by decide +kernel
theorem dX10_image_48 : decode cX10_image 48 = .ok (.iconst 2, 1) := by decide +kernel
theorem dX10_image_49 : decode cX10_image 49 = .ok (.iaload, 1) := by decide +kernel
theorem dX10_image_50 : decode cX10_image 50 = .ok (.invokevirtual 702, 3) := by decide +kernel
theorem dX10_image_53 : decode cX10_image 53 = .ok (.iconst 0, 1) := by decide +kernel
theorem dX10_image_54 : decode cX10_image 54 = .ok (.istore_n 1, 1) := by decide +kernel
theorem dX10_image_55 : decode cX10_image 55 = .ok (.iload_n 1, 1) := by decide +kernel
theorem dX10_image_56 : decode cX10_image 56 = .ok (.aload_n 0, 1) := by decide +kernel
theorem dX10_image_57 : decode cX10_image 57 = .ok (.invokevirtual 430, 3) := by decide +kernel
theorem dX10_image_60 : decode cX10_image 60 = .ok (.if_icmp .ge 18, 3) := by decide +kernel
theorem dX10_image_78 : decode cX10_image 78 = .ok (.aload_n 0, 1) := by decide +kernel
theorem dX10_image_79 : decode cX10_image 79 = .ok (.aload_n 0, 1) := by decide +kernel
theorem dX10_image_80 : decode cX10_image 80 = .ok (.getfield 273, 3) := by decide +kernel
theorem dX10_image_83 : decode cX10_image 83 = .ok (.aload_n 0, 1) := by decide +kernel
theorem dX10_image_84 : decode cX10_image 84 = .ok (.getfield 699, 3) := by decide +kernel
theorem dX10_image_87 : decode cX10_image 87 = .ok (.invokestatic 705, 3) := by decide +kernel
theorem dX10_image_90 : decode cX10_image 90 = .ok (.invokevirtual 702, 3) := by decide +kernel
theorem dX10_image_93 : decode cX10_image 93 = .ok (.aload_n 0, 1) := by decide +kernel
theorem dX10_image_94 : decode cX10_image 94 = .ok (.getfield 699, 3) := by decide +kernel
theorem dX10_image_97 : decode cX10_image 97 = .ok (.ireturn, 1) := by decide +kernel
theorem dX10_isAhead_0 : decode cX10_isAhead 0 = .ok (.aload_n 0, 1) := by decide +kernel
theorem dX10_isAhead_1 : decode cX10_isAhead 1 = .ok (.getfield 417, 3) := by decide +kernel
theorem dX10_isAhead_4 : decode cX10_isAhead 4 = .ok (.ifCond .eq 33, 3) := by decide +kernel
theorem dX10_isAhead_37 : decode cX10_isAhead 37 = .ok (.iconst 0, 1) := by decide +kernel
theorem dX10_isAhead_38 : decode cX10_isAhead 38 = .ok (.ireturn, 1) := by decide +kernel
theorem dX10_isHere_0 : decode cX10_isHere 0 = .ok (.aload_n 0, 1) := by decide +kernel
theorem dX10_isHere_1 : decode cX10_isHere 1 = .ok (.getfield 279, 3) := by decide +kernel
theorem dX10_isHere_4 : decode cX10_isHere 4 = .ok (.ifCond .ne 24, 3) := by decide +kernel
theorem dX10_isHere_7 : decode cX10_isHere 7 = .ok (.aload_n 0, 1) := by decide +kernel
theorem dX10_isHere_8 : decode cX10_isHere 8 = .ok (.invokevirtual 291, 3) := by decide +kernel
theorem dX10_isHere_11 : decode cX10_isHere 11 = .ok (.invokestatic 295, 3) := by decide +kernel
theorem dX10_isHere_14 : decode cX10_isHere 14 = .ok (.ifCond .eq 14, 3) := by decide +kernel
theorem dX10_isHere_28 : decode cX10_isHere 28 = .ok (.iconst 0, 1) := by decide +kernel
theorem dX10_isHere_29 : decode cX10_isHere 29 = .ok (.ireturn, 1) := by decide +kernel
theorem dX10_isImage_0 : decode cX10_isImage 0 = .ok (.aload_n 0, 1) := by decide +kernel
theorem dX10_isImage_1 : decode cX10_isImage 1 = .ok (.getfield 417, 3) := by decide +kernel
theorem dX10_isImage_4 : decode cX10_isImage 4 = .ok (.ifCond .eq 82, 3) := by decide +kernel
theorem dX10_isImage_86 : decode cX10_isImage 86 = .ok (.iconst 0, 1) := by decide +kernel
theorem dX10_isImage_87 : decode cX10_isImage 87 = .ok (.ireturn, 1) := by decide +kernel
theorem dX10_isIn_0 : decode cX10_isIn 0 = .ok (.lload_n 0, 1) := by decide +kernel
theorem dX10_isIn_1 : decode cX10_isIn 1 = .ok (.lload_n 2, 1) := by decide +kernel
theorem dX10_isIn_2 : decode cX10_isIn 2 = .ok (.lcmp, 1) := by decide +kernel
theorem dX10_isIn_3 : decode cX10_isIn 3 = .ok (.ifCond .lt 14, 3) := by decide +kernel
theorem dX10_isIn_6 : decode cX10_isIn 6 = .ok (.lload_n 0, 1) := by decide +kernel
theorem dX10_isIn_7 : decode cX10_isIn 7 = .ok (.lload 4, 2) := by decide +kernel
theorem dX10_isIn_9 : decode cX10_isIn 9 = .ok (.lcmp, 1) := by decide +kernel
theorem dX10_isIn_10 : decode cX10_isIn 10 = .ok (.ifCond .gt 7, 3) := by decide +kernel
theorem dX10_isIn_13 : decode cX10_isIn 13 = .ok (.iconst 1, 1) := by decide +kernel
theorem dX10_isIn_14 : decode cX10_isIn 14 = .ok (.goto 4, 3) := by decide +kernel
theorem dX10_isIn_17 : decode cX10_isIn 17 = .ok (.iconst 0, 1) := by decide +kernel
theorem dX10_isIn_18 : decode cX10_isIn 18 = .ok (.ireturn, 1) := by decide +kernel
theorem dX10_isKind_0 : decode cX10_isKind 0 = .ok (.iload_n 1, 1) := by decide +kernel
theorem dX10_isKind_1 : decode cX10_isKind 1 = .ok (.i2l, 1) := by decide +kernel
theorem dX10_isKind_2 : decode cX10_isKind 2 = .ok (.lconst 0, 1) := by decide +kernel
theorem dX10_isKind_3 : decode cX10_isKind 3 = .ok (.aload_n 0, 1) := by decide +kernel
theorem dX10_isKind_4 : decode cX10_isKind 4 = .ok (.invokevirtual 430, 3) := by decide +kernel
theorem dX10_isKind_7 : decode cX10_isKind 7 = .ok (.iconst 1, 1) := by decide +kernel
theorem dX10_isKind_8 : decode cX10_isKind 8 = .ok (.isub, 1) := by decide +kernel
theorem dX10_isKind_9 : decode cX10_isKind 9 = .ok (.i2l, 1) := by decide +kernel
theorem dX10_isKind_10 : decode cX10_isKind 10 = .ok (.invokestatic 318, 3) := by decide +kernel
theorem dX10_isKind_13 : decode cX10_isKind 13 = .ok (.ireturn, 1) := by decide +kernel
theorem dX10_isLetter_0 : decode cX10_isLetter 0 = .ok (.iload_n 0, 1) := by decide +kernel
theorem dX10_isLetter_1 : decode cX10_isLetter 1 = .ok (.bipush 97, 2) := by decide +kernel
theorem dX10_isLetter_3 : decode cX10_isLetter 3 = .ok (.if_icmp .lt 13, 3) := by decide +kernel
theorem dX10_isLetter_16 : decode cX10_isLetter 16 = .ok (.iconst 0, 1) := by decide +kernel
theorem dX10_isLetter_17 : decode cX10_isLetter 17 = .ok (.ireturn, 1) := by decide +kernel
theorem dX10_isRefused_0 : decode cX10_isRefused 0 = .ok (.aload_n 0, 1) := by decide +kernel
theorem dX10_isRefused_1 : decode cX10_isRefused 1 = .ok (.getfield 17, 3) := by decide +kernel
theorem dX10_isRefused_4 : decode cX10_isRefused 4 = .ok (.iconst 2, 1) := by decide +kernel
theorem dX10_isRefused_5 : decode cX10_isRefused 5 = .ok (.dup2, 1) := by decide +kernel
theorem dX10_isRefused_6 : decode cX10_isRefused 6 = .ok (.iaload, 1) := by decide +kernel
theorem dX10_isRefused_7 : decode cX10_isRefused 7 = .ok (.iconst 1, 1) := by decide +kernel
theorem dX10_isRefused_8 : decode cX10_isRefused 8 = .ok (.iadd, 1) := by decide +kernel
theorem dX10_isRefused_9 : decode cX10_isRefused 9 = .ok (.iastore, 1) := by decide +kernel
theorem dX10_isRefused_10 : decode cX10_isRefused 10 = .ok (.iconst 0, 1) := by decide +kernel
theorem dX10_isRefused_11 : decode cX10_isRefused 11 = .ok (.ireturn, 1) := by decide +kernel
theorem dX10_isWalker_0 : decode cX10_isWalker 0 = .ok (.iload_n 1, 1) := by decide +kernel
theorem dX10_isWalker_1 : decode cX10_isWalker 1 = .ok (.i2l, 1) := by decide +kernel
theorem dX10_isWalker_2 : decode cX10_isWalker 2 = .ok (.lconst 0, 1) := by decide +kernel
theorem dX10_isWalker_3 : decode cX10_isWalker 3 = .ok (.aload_n 0, 1) := by decide +kernel
theorem dX10_isWalker_4 : decode cX10_isWalker 4 = .ok (.invokevirtual 433, 3) := by decide +kernel
theorem dX10_isWalker_7 : decode cX10_isWalker 7 = .ok (.iconst 1, 1) := by decide +kernel
theorem dX10_isWalker_8 : decode cX10_isWalker 8 = .ok (.isub, 1) := by decide +kernel
theorem dX10_isWalker_9 : decode cX10_isWalker 9 = .ok (.i2l, 1) := by decide +kernel
theorem dX10_isWalker_10 : decode cX10_isWalker 10 = .ok (.invokestatic 318, 3) := by decide +kernel
theorem dX10_isWalker_13 : decode cX10_isWalker 13 = .ok (.ireturn, 1) := by decide +kernel
theorem dX10_kind_0 : decode cX10_kind 0 = .ok (.aload_n 0, 1) := by decide +kernel
theorem dX10_kind_1 : decode cX10_kind 1 = .ok (.iload_n 1, 1) := by decide +kernel
theorem dX10_kind_2 : decode cX10_kind 2 = .ok (.invokevirtual 528, 3) := by decide +kernel
theorem dX10_kind_5 : decode cX10_kind 5 = .ok (.ifCond .ne 5, 3) := by decide +kernel
theorem dX10_kind_8 : decode cX10_kind 8 = .ok (.iconst (-1), 1) := by decide +kernel
theorem dX10_kind_9 : decode cX10_kind 9 = .ok (.ireturn, 1) := by decide +kernel
theorem dX10_kindMany_0 : decode cX10_kindMany 0 = .ok (.aload_n 0, 1) := by decide +kernel
theorem dX10_kindMany_1 : decode cX10_kindMany 1 = .ok (.getfield 111, 3) := by decide +kernel
theorem dX10_kindMany_4 : decode cX10_kindMany 4 = .ok (.iconst 2, 1) := by decide +kernel
theorem dX10_kindMany_5 : decode cX10_kindMany 5 = .ok (.iaload, 1) := by decide +kernel
theorem dX10_kindMany_6 : decode cX10_kindMany 6 = .ok (.ireturn, 1) := by decide +kernel
theorem dX10_later_0 : decode cX10_later 0 = .ok (.aload_n 0, 1) := by decide +kernel
theorem dX10_later_1 : decode cX10_later 1 = .ok (.iload_n 1, 1) := by decide +kernel
theorem dX10_later_2 : decode cX10_later 2 = .ok (.iconst 0, 1) := by decide +kernel
theorem dX10_later_3 : decode cX10_later 3 = .ok (.bipush 29, 2) := by decide +kernel
theorem dX10_later_5 : decode cX10_later 5 = .ok (.invokevirtual 554, 3) := by decide +kernel
theorem dX10_later_8 : decode cX10_later 8 = .ok (.ifCond .eq 15, 3) := by decide +kernel
theorem dX10_later_23 : decode cX10_later 23 = .ok (.iconst (-1), 1) := by decide +kernel
theorem dX10_later_24 : decode cX10_later 24 = .ok (.ireturn, 1) := by decide +kernel
theorem dX10_least_0 : decode cX10_least 0 = .ok (.aload_n 0, 1) := by decide +kernel
theorem dX10_least_1 : decode cX10_least 1 = .ok (.getfield 417, 3) := by decide +kernel
theorem dX10_least_4 : decode cX10_least 4 = .ok (.ifCond .ne 5, 3) := by decide +kernel
theorem dX10_least_7 : decode cX10_least 7 = .ok (.iconst (-1), 1) := by decide +kernel
theorem dX10_least_8 : decode cX10_least 8 = .ok (.ireturn, 1) := by decide +kernel
theorem dX10_letter_0 : decode cX10_letter 0 = .ok (.iload_n 1, 1) := by decide +kernel
theorem dX10_letter_1 : decode cX10_letter 1 = .ok (.i2l, 1) := by decide +kernel
theorem dX10_letter_2 : decode cX10_letter 2 = .ok (.lconst 0, 1) := by decide +kernel
theorem dX10_letter_3 : decode cX10_letter 3 = .ok (.lconst 1, 1) := by decide +kernel
theorem dX10_letter_4 : decode cX10_letter 4 = .ok (.invokestatic 318, 3) := by decide +kernel
theorem dX10_letter_7 : decode cX10_letter 7 = .ok (.ifCond .eq 35, 3) := by decide +kernel
theorem dX10_letter_10 : decode cX10_letter 10 = .ok (.iload_n 2, 1) := by decide +kernel
theorem dX10_letter_11 : decode cX10_letter 11 = .ok (.i2l, 1) := by decide +kernel
theorem dX10_letter_12 : decode cX10_letter 12 = .ok (.lconst 0, 1) := by decide +kernel
theorem dX10_letter_13 : decode cX10_letter 13 = .ok (.aload_n 0, 1) := by decide +kernel
theorem dX10_letter_14 : decode cX10_letter 14 = .ok (.getfield 111, 3) := by decide +kernel
theorem dX10_letter_17 : decode cX10_letter 17 = .ok (.iconst 2, 1) := by decide +kernel
theorem dX10_letter_18 : decode cX10_letter 18 = .ok (.iload_n 1, 1) := by decide +kernel
theorem dX10_letter_19 : decode cX10_letter 19 = .ok (.iadd, 1) := by decide +kernel
theorem dX10_letter_20 : decode cX10_letter 20 = .ok (.iaload, 1) := by decide +kernel
theorem dX10_letter_21 : decode cX10_letter 21 = .ok (.iconst 1, 1) := by decide +kernel
theorem dX10_letter_22 : decode cX10_letter 22 = .ok (.isub, 1) := by decide +kernel
theorem dX10_letter_23 : decode cX10_letter 23 = .ok (.i2l, 1) := by decide +kernel
theorem dX10_letter_24 : decode cX10_letter 24 = .ok (.invokestatic 318, 3) := by decide +kernel
theorem dX10_letter_27 : decode cX10_letter 27 = .ok (.ifCond .eq 15, 3) := by decide +kernel
theorem dX10_letter_42 : decode cX10_letter 42 = .ok (.iconst (-1), 1) := by decide +kernel
theorem dX10_letter_43 : decode cX10_letter 43 = .ok (.ireturn, 1) := by decide +kernel
theorem dX10_light_0 : decode cX10_light 0 = .ok (.aload_n 0, 1) := by decide +kernel
theorem dX10_light_1 : decode cX10_light 1 = .ok (.getfield 417, 3) := by decide +kernel
theorem dX10_light_4 : decode cX10_light 4 = .ok (.ifCond .eq 15, 3) := by decide +kernel
theorem dX10_light_19 : decode cX10_light 19 = .ok (.iconst (-1), 1) := by decide +kernel
theorem dX10_light_20 : decode cX10_light 20 = .ok (.ireturn, 1) := by decide +kernel
theorem dX10_look_0 : decode cX10_look 0 = .ok (.aload_n 0, 1) := by decide +kernel
theorem dX10_look_1 : decode cX10_look 1 = .ok (.getfield 285, 3) := by decide +kernel
theorem dX10_look_4 : decode cX10_look 4 = .ok (.aload_n 0, 1) := by decide +kernel
theorem dX10_look_5 : decode cX10_look 5 = .ok (.getfield 288, 3) := by decide +kernel
theorem dX10_look_8 : decode cX10_look 8 = .ok (.if_icmp .ge 44, 3) := by decide +kernel
theorem dX10_look_52 : decode cX10_look 52 = .ok (.aload_n 0, 1) := by decide +kernel
theorem dX10_look_53 : decode cX10_look 53 = .ok (.getfield 285, 3) := by decide +kernel
theorem dX10_look_56 : decode cX10_look 56 = .ok (.aload_n 0, 1) := by decide +kernel
theorem dX10_look_57 : decode cX10_look 57 = .ok (.getfield 288, 3) := by decide +kernel
theorem dX10_look_60 : decode cX10_look 60 = .ok (.if_icmp .ge 15, 3) := by decide +kernel
theorem dX10_look_75 : decode cX10_look 75 = .ok (.iconst (-1), 1) := by decide +kernel
theorem dX10_look_76 : decode cX10_look 76 = .ok (.ireturn, 1) := by decide +kernel
theorem dX10_number_0 : decode cX10_number 0 = .ok (.aload_n 0, 1) := by decide +kernel
theorem dX10_number_1 : decode cX10_number 1 = .ok (.getfield 279, 3) := by decide +kernel
theorem dX10_number_4 : decode cX10_number 4 = .ok (.ifCond .eq 5, 3) := by decide +kernel
theorem dX10_number_7 : decode cX10_number 7 = .ok (.iconst 0, 1) := by decide +kernel
theorem dX10_number_8 : decode cX10_number 8 = .ok (.ireturn, 1) := by decide +kernel
theorem dX10_octet_0 : decode cX10_octet 0 = .ok (.iload_n 1, 1) := by decide +kernel
theorem dX10_octet_1 : decode cX10_octet 1 = .ok (.ifCond .lt 20, 3) := by decide +kernel
theorem dX10_octet_4 : decode cX10_octet 4 = .ok (.iload_n 1, 1) := by decide +kernel
theorem dX10_octet_5 : decode cX10_octet 5 = .ok (.aload_n 0, 1) := by decide +kernel
theorem dX10_octet_6 : decode cX10_octet 6 = .ok (.getfield 699, 3) := by decide +kernel
theorem dX10_octet_9 : decode cX10_octet 9 = .ok (.if_icmp .ge 12, 3) := by decide +kernel
theorem dX10_octet_21 : decode cX10_octet 21 = .ok (.iconst (-1), 1) := by decide +kernel
theorem dX10_octet_22 : decode cX10_octet 22 = .ok (.ireturn, 1) := by decide +kernel
theorem dX10_on_0 : decode cX10_on 0 = .ok (.aload_n 0, 1) := by decide +kernel
theorem dX10_on_1 : decode cX10_on 1 = .ok (.getfield 276, 3) := by decide +kernel
theorem dX10_on_4 : decode cX10_on 4 = .ok (.istore_n 1, 1) := by decide +kernel
theorem dX10_on_5 : decode cX10_on 5 = .ok (.aload_n 0, 1) := by decide +kernel
theorem dX10_on_6 : decode cX10_on 6 = .ok (.iconst 0, 1) := by decide +kernel
theorem dX10_on_7 : decode cX10_on 7 = .ok (.putfield 276, 3) := by decide +kernel
theorem dX10_on_10 : decode cX10_on 10 = .ok (.aload_n 0, 1) := by decide +kernel
theorem dX10_on_11 : decode cX10_on 11 = .ok (.iload_n 1, 1) := by decide +kernel
theorem dX10_on_12 : decode cX10_on 12 = .ok (.invokevirtual 709, 3) := by decide +kernel
theorem dX10_on_15 : decode cX10_on 15 = .ok (.ifCond .ne 15, 3) := by decide +kernel
theorem dX10_on_18 : decode cX10_on 18 = .ok (.aload_n 0, 1) := by decide +kernel
theorem dX10_on_19 : decode cX10_on 19 = .ok (.getfield 17, 3) := by decide +kernel
theorem dX10_on_22 : decode cX10_on 22 = .ok (.iconst 5, 1) := by decide +kernel
theorem dX10_on_23 : decode cX10_on 23 = .ok (.dup2, 1) := by decide +kernel
theorem dX10_on_24 : decode cX10_on 24 = .ok (.iaload, 1) := by decide +kernel
theorem dX10_on_25 : decode cX10_on 25 = .ok (.iconst 1, 1) := by decide +kernel
theorem dX10_on_26 : decode cX10_on 26 = .ok (.iadd, 1) := by decide +kernel
theorem dX10_on_27 : decode cX10_on 27 = .ok (.iastore, 1) := by decide +kernel
theorem dX10_on_28 : decode cX10_on 28 = .ok (.iconst 0, 1) := by decide +kernel
theorem dX10_on_29 : decode cX10_on 29 = .ok (.ireturn, 1) := by decide +kernel
theorem dX10_refuses_0 : decode cX10_refuses 0 = .ok (.aload_n 0, 1) := by decide +kernel
theorem dX10_refuses_1 : decode cX10_refuses 1 = .ok (.getfield 17, 3) := by decide +kernel
theorem dX10_refuses_4 : decode cX10_refuses 4 = .ok (.iload_n 1, 1) := by decide +kernel
theorem dX10_refuses_5 : decode cX10_refuses 5 = .ok (.dup2, 1) := by decide +kernel
theorem dX10_refuses_6 : decode cX10_refuses 6 = .ok (.iaload, 1) := by decide +kernel
theorem dX10_refuses_7 : decode cX10_refuses 7 = .ok (.iconst 1, 1) := by decide +kernel
theorem dX10_refuses_8 : decode cX10_refuses 8 = .ok (.iadd, 1) := by decide +kernel
theorem dX10_refuses_9 : decode cX10_refuses 9 = .ok (.iastore, 1) := by decide +kernel
theorem dX10_refuses_10 : decode cX10_refuses 10 = .ok (.iconst (-1), 1) := by decide +kernel
theorem dX10_refuses_11 : decode cX10_refuses 11 = .ok (.ireturn, 1) := by decide +kernel
theorem dX10_rule_0 : decode cX10_rule 0 = .ok (.aload_n 0, 1) := by decide +kernel
theorem dX10_rule_1 : decode cX10_rule 1 = .ok (.getfield 417, 3) := by decide +kernel
theorem dX10_rule_4 : decode cX10_rule 4 = .ok (.ifCond .eq 25, 3) := by decide +kernel
theorem dX10_rule_29 : decode cX10_rule 29 = .ok (.aload_n 0, 1) := by decide +kernel
theorem dX10_rule_30 : decode cX10_rule 30 = .ok (.invokevirtual 591, 3) := by decide +kernel
theorem dX10_rule_33 : decode cX10_rule 33 = .ok (.ireturn, 1) := by decide +kernel
theorem dX10_see_0 : decode cX10_see 0 = .ok (.aload_n 0, 1) := by decide +kernel
theorem dX10_see_1 : decode cX10_see 1 = .ok (.getfield 276, 3) := by decide +kernel
theorem dX10_see_4 : decode cX10_see 4 = .ok (.istore_n 1, 1) := by decide +kernel
theorem dX10_see_5 : decode cX10_see 5 = .ok (.aload_n 0, 1) := by decide +kernel
theorem dX10_see_6 : decode cX10_see 6 = .ok (.iconst 0, 1) := by decide +kernel
theorem dX10_see_7 : decode cX10_see 7 = .ok (.putfield 276, 3) := by decide +kernel
theorem dX10_see_10 : decode cX10_see 10 = .ok (.iload_n 1, 1) := by decide +kernel
theorem dX10_see_11 : decode cX10_see 11 = .ok (.ifCond .le 21, 3) := by decide +kernel
theorem dX10_see_32 : decode cX10_see 32 = .ok (.iconst 0, 1) := by decide +kernel
theorem dX10_see_33 : decode cX10_see 33 = .ok (.istore_n 2, 1) := by decide +kernel
theorem dX10_see_34 : decode cX10_see 34 = .ok (.iconst 0, 1) := by decide +kernel
theorem dX10_see_35 : decode cX10_see 35 = .ok (.istore_n 3, 1) := by decide +kernel
theorem dX10_see_36 : decode cX10_see 36 = .ok (.iload_n 3, 1) := by decide +kernel
theorem dX10_see_37 : decode cX10_see 37 = .ok (.iload_n 1, 1) := by decide +kernel
theorem dX10_see_38 : decode cX10_see 38 = .ok (.if_icmp .ge 71, 3) := by decide +kernel
theorem dX10_see_109 : decode cX10_see 109 = .ok (.iload_n 2, 1) := by decide +kernel
theorem dX10_see_110 : decode cX10_see 110 = .ok (.ifCond .ne 9, 3) := by decide +kernel
theorem dX10_see_113 : decode cX10_see 113 = .ok (.aload_n 0, 1) := by decide +kernel
theorem dX10_see_114 : decode cX10_see 114 = .ok (.iconst 1, 1) := by decide +kernel
theorem dX10_see_115 : decode cX10_see 115 = .ok (.invokevirtual 567, 3) := by decide +kernel
theorem dX10_see_118 : decode cX10_see 118 = .ok (.ireturn, 1) := by decide +kernel
theorem dX10_seed_0 : decode cX10_seed 0 = .ok (.iload_n 1, 1) := by decide +kernel
theorem dX10_seed_1 : decode cX10_seed 1 = .ok (.ifCond .ge 15, 3) := by decide +kernel
theorem dX10_seed_4 : decode cX10_seed 4 = .ok (.aload_n 0, 1) := by decide +kernel
theorem dX10_seed_5 : decode cX10_seed 5 = .ok (.getfield 17, 3) := by decide +kernel
theorem dX10_seed_8 : decode cX10_seed 8 = .ok (.iconst 5, 1) := by decide +kernel
theorem dX10_seed_9 : decode cX10_seed 9 = .ok (.dup2, 1) := by decide +kernel
theorem dX10_seed_10 : decode cX10_seed 10 = .ok (.iaload, 1) := by decide +kernel
theorem dX10_seed_11 : decode cX10_seed 11 = .ok (.iconst 1, 1) := by decide +kernel
theorem dX10_seed_12 : decode cX10_seed 12 = .ok (.iadd, 1) := by decide +kernel
theorem dX10_seed_13 : decode cX10_seed 13 = .ok (.iastore, 1) := by decide +kernel
theorem dX10_seed_14 : decode cX10_seed 14 = .ok (.iconst 0, 1) := by decide +kernel
theorem dX10_seed_15 : decode cX10_seed 15 = .ok (.ireturn, 1) := by decide +kernel
theorem dX10_seed_16 : decode cX10_seed 16 = .ok (.aload_n 0, 1) := by decide +kernel
theorem dX10_seed_17 : decode cX10_seed 17 = .ok (.iload_n 1, 1) := by decide +kernel
theorem dX10_seed_18 : decode cX10_seed 18 = .ok (.i2l, 1) := by decide +kernel
theorem dX10_seed_19 : decode cX10_seed 19 = .ok (.putfield 185, 3) := by decide +kernel
theorem dX10_seed_22 : decode cX10_seed 22 = .ok (.iconst 1, 1) := by decide +kernel
theorem dX10_seed_23 : decode cX10_seed 23 = .ok (.ireturn, 1) := by decide +kernel
theorem dX10_status_0 : decode cX10_status 0 = .ok (.iload_n 1, 1) := by decide +kernel
theorem dX10_status_1 : decode cX10_status 1 = .ok (.i2l, 1) := by decide +kernel
theorem dX10_status_2 : decode cX10_status 2 = .ok (.lconst 0, 1) := by decide +kernel
theorem dX10_status_3 : decode cX10_status 3 = .ok (.ldc2_w 526, 3) := by decide +kernel
theorem dX10_status_6 : decode cX10_status 6 = .ok (.invokestatic 318, 3) := by decide +kernel
theorem dX10_status_9 : decode cX10_status 9 = .ok (.ifCond .eq 12, 3) := by decide +kernel
theorem dX10_status_12 : decode cX10_status 12 = .ok (.aload_n 0, 1) := by decide +kernel
theorem dX10_status_13 : decode cX10_status 13 = .ok (.getfield 17, 3) := by decide +kernel
theorem dX10_status_16 : decode cX10_status 16 = .ok (.iload_n 1, 1) := by decide +kernel
theorem dX10_status_17 : decode cX10_status 17 = .ok (.iaload, 1) := by decide +kernel
theorem dX10_status_18 : decode cX10_status 18 = .ok (.goto 4, 3) := by decide +kernel
theorem dX10_status_21 : decode cX10_status 21 = .ok (.iconst (-1), 1) := by decide +kernel
theorem dX10_status_22 : decode cX10_status 22 = .ok (.ireturn, 1) := by decide +kernel
theorem dX10_takes_0 : decode cX10_takes 0 = .ok (.aload_n 0, 1) := by decide +kernel
theorem dX10_takes_1 : decode cX10_takes 1 = .ok (.aload_n 1, 1) := by decide +kernel
theorem dX10_takes_2 : decode cX10_takes 2 = .ok (.invokevirtual 302, 3) := by decide +kernel
theorem dX10_takes_5 : decode cX10_takes 5 = .ok (.ifCond .ne 5, 3) := by decide +kernel
theorem dX10_takes_8 : decode cX10_takes 8 = .ok (.iconst 0, 1) := by decide +kernel
theorem dX10_takes_9 : decode cX10_takes 9 = .ok (.ireturn, 1) := by decide +kernel
theorem dX10_trust_0 : decode cX10_trust 0 = .ok (.aload_n 0, 1) := by decide +kernel
theorem dX10_trust_1 : decode cX10_trust 1 = .ok (.iload_n 1, 1) := by decide +kernel
theorem dX10_trust_2 : decode cX10_trust 2 = .ok (.invokevirtual 528, 3) := by decide +kernel
theorem dX10_trust_5 : decode cX10_trust 5 = .ok (.ifCond .eq 24, 3) := by decide +kernel
theorem dX10_trust_29 : decode cX10_trust 29 = .ok (.aload_n 0, 1) := by decide +kernel
theorem dX10_trust_30 : decode cX10_trust 30 = .ok (.invokevirtual 591, 3) := by decide +kernel
theorem dX10_trust_33 : decode cX10_trust 33 = .ok (.ireturn, 1) := by decide +kernel
theorem dX10_undo_0 : decode cX10_undo 0 = .ok (.aload_n 0, 1) := by decide +kernel
theorem dX10_undo_1 : decode cX10_undo 1 = .ok (.getfield 424, 3) := by decide +kernel
theorem dX10_undo_4 : decode cX10_undo 4 = .ok (.ifCond .ne 15, 3) := by decide +kernel
theorem dX10_undo_7 : decode cX10_undo 7 = .ok (.aload_n 0, 1) := by decide +kernel
theorem dX10_undo_8 : decode cX10_undo 8 = .ok (.getfield 17, 3) := by decide +kernel
theorem dX10_undo_11 : decode cX10_undo 11 = .ok (.iconst 4, 1) := by decide +kernel
theorem dX10_undo_12 : decode cX10_undo 12 = .ok (.dup2, 1) := by decide +kernel
theorem dX10_undo_13 : decode cX10_undo 13 = .ok (.iaload, 1) := by decide +kernel
theorem dX10_undo_14 : decode cX10_undo 14 = .ok (.iconst 1, 1) := by decide +kernel
theorem dX10_undo_15 : decode cX10_undo 15 = .ok (.iadd, 1) := by decide +kernel
theorem dX10_undo_16 : decode cX10_undo 16 = .ok (.iastore, 1) := by decide +kernel
theorem dX10_undo_17 : decode cX10_undo 17 = .ok (.iconst 0, 1) := by decide +kernel
theorem dX10_undo_18 : decode cX10_undo 18 = .ok (.ireturn, 1) := by decide +kernel
theorem dX10_walker_0 : decode cX10_walker 0 = .ok (.aload_n 0, 1) := by decide +kernel
theorem dX10_walker_1 : decode cX10_walker 1 = .ok (.iload_n 1, 1) := by decide +kernel
theorem dX10_walker_2 : decode cX10_walker 2 = .ok (.invokevirtual 531, 3) := by decide +kernel
theorem dX10_walker_5 : decode cX10_walker 5 = .ok (.ifCond .ne 5, 3) := by decide +kernel
theorem dX10_walker_8 : decode cX10_walker 8 = .ok (.iconst (-1), 1) := by decide +kernel
theorem dX10_walker_9 : decode cX10_walker 9 = .ok (.ireturn, 1) := by decide +kernel
theorem dX10_walkerMany_0 : decode cX10_walkerMany 0 = .ok (.aload_n 0, 1) := by decide +kernel
theorem dX10_walkerMany_1 : decode cX10_walkerMany 1 = .ok (.getfield 111, 3) := by decide +kernel
theorem dX10_walkerMany_4 : decode cX10_walkerMany 4 = .ok (.iconst 3, 1) := by decide +kernel
theorem dX10_walkerMany_5 : decode cX10_walkerMany 5 = .ok (.iaload, 1) := by decide +kernel
theorem dX10_walkerMany_6 : decode cX10_walkerMany 6 = .ok (.ireturn, 1) := by decide +kernel
theorem dX10_watched_0 : decode cX10_watched 0 = .ok (.aload_n 0, 1) := by decide +kernel
theorem dX10_watched_1 : decode cX10_watched 1 = .ok (.getfield 417, 3) := by decide +kernel
theorem dX10_watched_4 : decode cX10_watched 4 = .ok (.ifCond .eq 13, 3) := by decide +kernel
theorem dX10_watched_17 : decode cX10_watched 17 = .ok (.iconst (-1), 1) := by decide +kernel
theorem dX10_watched_18 : decode cX10_watched 18 = .ok (.ireturn, 1) := by decide +kernel
theorem dX10_writes_0 : decode cX10_writes 0 = .ok (.aload_n 0, 1) := by decide +kernel
theorem dX10_writes_1 : decode cX10_writes 1 = .ok (.getfield 273, 3) := by decide +kernel
theorem dX10_writes_4 : decode cX10_writes 4 = .ok (.aload_n 0, 1) := by decide +kernel
theorem dX10_writes_5 : decode cX10_writes 5 = .ok (.getfield 699, 3) := by decide +kernel
theorem dX10_writes_8 : decode cX10_writes 8 = .ok (.iload_n 1, 1) := by decide +kernel
theorem dX10_writes_9 : decode cX10_writes 9 = .ok (.iastore, 1) := by decide +kernel
theorem dX10_writes_10 : decode cX10_writes 10 = .ok (.aload_n 0, 1) := by decide +kernel
theorem dX10_writes_11 : decode cX10_writes 11 = .ok (.dup, 1) := by decide +kernel
theorem dX10_writes_12 : decode cX10_writes 12 = .ok (.getfield 699, 3) := by decide +kernel
theorem dX10_writes_15 : decode cX10_writes 15 = .ok (.iconst 1, 1) := by decide +kernel
theorem dX10_writes_16 : decode cX10_writes 16 = .ok (.iadd, 1) := by decide +kernel
theorem dX10_writes_17 : decode cX10_writes 17 = .ok (.putfield 699, 3) := by decide +kernel
theorem dX10_writes_20 : decode cX10_writes 20 = .ok (.return_, 1) := by decide +kernel
theorem dX1_init_0 : decode cX1_init 0 = .ok (.aload_n 0, 1) := by decide +kernel
theorem dX1_init_1 : decode cX1_init 1 = .ok (.invokespecial 3, 3) := by decide +kernel
theorem dX1_init_4 : decode cX1_init 4 = .ok (.aload_n 0, 1) := by decide +kernel
theorem dX1_init_5 : decode cX1_init 5 = .ok (.bipush 39, 2) := by decide +kernel
theorem dX1_init_7 : decode cX1_init 7 = .ok (.newarray .int, 2) := by decide +kernel
theorem dX1_init_9 : decode cX1_init 9 = .ok (.putfield 11, 3) := by decide +kernel
theorem dX1_init_12 : decode cX1_init 12 = .ok (.aload_n 0, 1) := by decide +kernel
theorem dX1_init_13 : decode cX1_init 13 = .ok (.iconst 0, 1) := by decide +kernel
theorem dX1_init_14 : decode cX1_init 14 = .ok (.putfield 15, 3) := by decide +kernel
theorem dX1_init_17 : decode cX1_init 17 = .ok (.aload_n 0, 1) := by decide +kernel
theorem dX1_init_18 : decode cX1_init 18 = .ok (.aload_n 1, 1) := by decide +kernel
theorem dX1_init_19 : decode cX1_init 19 = .ok (.putfield 19, 3) := by decide +kernel
theorem dX1_init_22 : decode cX1_init 22 = .ok (.return_, 1) := by decide +kernel
theorem dX2_giveBack_0 : decode cX2_giveBack 0 = .ok (.aload_n 0, 1) := by decide +kernel
theorem dX2_giveBack_1 : decode cX2_giveBack 1 = .ok (.getfield 21, 3) := by decide +kernel
theorem dX2_giveBack_4 : decode cX2_giveBack 4 = .ok (.ifCond .ne 5, 3) := by decide +kernel
theorem dX2_giveBack_7 : decode cX2_giveBack 7 = .ok (.iconst 0, 1) := by decide +kernel
theorem dX2_giveBack_8 : decode cX2_giveBack 8 = .ok (.ireturn, 1) := by decide +kernel
theorem dX2_init_0 : decode cX2_init 0 = .ok (.aload_n 0, 1) := by decide +kernel
theorem dX2_init_1 : decode cX2_init 1 = .ok (.invokespecial 3, 3) := by decide +kernel
theorem dX2_init_4 : decode cX2_init 4 = .ok (.aload_n 0, 1) := by decide +kernel
theorem dX2_init_5 : decode cX2_init 5 = .ok (.bipush 20, 2) := by decide +kernel
theorem dX2_init_7 : decode cX2_init 7 = .ok (.anewarray 9, 3) := by decide +kernel
theorem dX2_init_10 : decode cX2_init 10 = .ok (.putfield 11, 3) := by decide +kernel
theorem dX2_init_13 : decode cX2_init 13 = .ok (.aload_n 0, 1) := by decide +kernel
theorem dX2_init_14 : decode cX2_init 14 = .ok (.iconst 0, 1) := by decide +kernel
theorem dX2_init_15 : decode cX2_init 15 = .ok (.putfield 17, 3) := by decide +kernel
theorem dX2_init_18 : decode cX2_init 18 = .ok (.aload_n 0, 1) := by decide +kernel
theorem dX2_init_19 : decode cX2_init 19 = .ok (.iconst 0, 1) := by decide +kernel
theorem dX2_init_20 : decode cX2_init 20 = .ok (.putfield 21, 3) := by decide +kernel
theorem dX2_init_23 : decode cX2_init 23 = .ok (.iconst 0, 1) := by decide +kernel
theorem dX2_init_24 : decode cX2_init 24 = .ok (.istore_n 1, 1) := by decide +kernel
theorem dX2_init_25 : decode cX2_init 25 = .ok (.iload_n 1, 1) := by decide +kernel
theorem dX2_init_26 : decode cX2_init 26 = .ok (.bipush 20, 2) := by decide +kernel
theorem dX2_init_28 : decode cX2_init 28 = .ok (.if_icmp .ge 22, 3) := by decide +kernel
theorem dX2_init_31 : decode cX2_init 31 = .ok (.aload_n 0, 1) := by decide +kernel
theorem dX2_init_32 : decode cX2_init 32 = .ok (.getfield 11, 3) := by decide +kernel
theorem dX2_init_35 : decode cX2_init 35 = .ok (.iload_n 1, 1) := by decide +kernel
theorem dX2_init_36 : decode cX2_init 36 = .ok (.new 9, 3) := by decide +kernel
theorem dX2_init_39 : decode cX2_init 39 = .ok (.dup, 1) := by decide +kernel
theorem dX2_init_40 : decode cX2_init 40 = .ok (.invokespecial 24, 3) := by decide +kernel
theorem dX2_init_43 : decode cX2_init 43 = .ok (.aastore, 1) := by decide +kernel
theorem dX2_init_44 : decode cX2_init 44 = .ok (.iinc 1 1, 3) := by decide +kernel
theorem dX2_init_47 : decode cX2_init 47 = .ok (.goto (-22), 3) := by decide +kernel
theorem dX2_init_50 : decode cX2_init 50 = .ok (.return_, 1) := by decide +kernel
theorem dX3_init_0 : decode cX3_init 0 = .ok (.aload_n 0, 1) := by decide +kernel
theorem dX3_init_1 : decode cX3_init 1 = .ok (.invokespecial 3, 3) := by decide +kernel
theorem dX3_init_4 : decode cX3_init 4 = .ok (.aload_n 0, 1) := by decide +kernel
theorem dX3_init_5 : decode cX3_init 5 = .ok (.bipush 13, 2) := by decide +kernel
theorem dX3_init_7 : decode cX3_init 7 = .ok (.newarray .int, 2) := by decide +kernel
theorem dX3_init_9 : decode cX3_init 9 = .ok (.putfield 9, 3) := by decide +kernel
theorem dX3_init_12 : decode cX3_init 12 = .ok (.aload_n 0, 1) := by decide +kernel
theorem dX3_init_13 : decode cX3_init 13 = .ok (.bipush 64, 2) := by decide +kernel
theorem dX3_init_15 : decode cX3_init 15 = .ok (.newarray .int, 2) := by decide +kernel
theorem dX3_init_17 : decode cX3_init 17 = .ok (.putfield 15, 3) := by decide +kernel
theorem dX3_init_20 : decode cX3_init 20 = .ok (.return_, 1) := by decide +kernel
theorem dX4_allowsGreen_0 : decode cX4_allowsGreen 0 = .ok (.iload_n 1, 1) := by decide +kernel
theorem dX4_allowsGreen_1 : decode cX4_allowsGreen 1 = .ok (.iconst 1, 1) := by decide +kernel
theorem dX4_allowsGreen_2 : decode cX4_allowsGreen 2 = .ok (.if_icmp .lt 21, 3) := by decide +kernel
theorem dX4_allowsGreen_5 : decode cX4_allowsGreen 5 = .ok (.iload_n 1, 1) := by decide +kernel
theorem dX4_allowsGreen_6 : decode cX4_allowsGreen 6 = .ok (.bipush 60, 2) := by decide +kernel
theorem dX4_allowsGreen_8 : decode cX4_allowsGreen 8 = .ok (.if_icmp .gt 15, 3) := by decide +kernel
theorem dX4_allowsGreen_11 : decode cX4_allowsGreen 11 = .ok (.iload_n 1, 1) := by decide +kernel
theorem dX4_allowsGreen_12 : decode cX4_allowsGreen 12 = .ok (.aload_n 0, 1) := by decide +kernel
theorem dX4_allowsGreen_13 : decode cX4_allowsGreen 13 = .ok (.getfield 39, 3) := by decide +kernel
theorem dX4_allowsGreen_16 : decode cX4_allowsGreen 16 = .ok (.if_icmp .ge 7, 3) := by decide +kernel
theorem dX4_allowsGreen_23 : decode cX4_allowsGreen 23 = .ok (.iconst 0, 1) := by decide +kernel
theorem dX4_allowsGreen_24 : decode cX4_allowsGreen 24 = .ok (.ireturn, 1) := by decide +kernel
theorem dX4_clear_0 : decode cX4_clear 0 = .ok (.aload_n 0, 1) := by decide +kernel
theorem dX4_clear_1 : decode cX4_clear 1 = .ok (.iconst 0, 1) := by decide +kernel
theorem dX4_clear_2 : decode cX4_clear 2 = .ok (.putfield 39, 3) := by decide +kernel
theorem dX4_clear_5 : decode cX4_clear 5 = .ok (.aload_n 0, 1) := by decide +kernel
theorem dX4_clear_6 : decode cX4_clear 6 = .ok (.iconst 0, 1) := by decide +kernel
theorem dX4_clear_7 : decode cX4_clear 7 = .ok (.putfield 43, 3) := by decide +kernel
theorem dX4_clear_10 : decode cX4_clear 10 = .ok (.aload_n 0, 1) := by decide +kernel
theorem dX4_clear_11 : decode cX4_clear 11 = .ok (.iconst 0, 1) := by decide +kernel
theorem dX4_clear_12 : decode cX4_clear 12 = .ok (.putfield 46, 3) := by decide +kernel
theorem dX4_clear_15 : decode cX4_clear 15 = .ok (.aload_n 0, 1) := by decide +kernel
theorem dX4_clear_16 : decode cX4_clear 16 = .ok (.iconst 0, 1) := by decide +kernel
theorem dX4_clear_17 : decode cX4_clear 17 = .ok (.putfield 49, 3) := by decide +kernel
theorem dX4_clear_20 : decode cX4_clear 20 = .ok (.aload_n 0, 1) := by decide +kernel
theorem dX4_clear_21 : decode cX4_clear 21 = .ok (.iconst 0, 1) := by decide +kernel
theorem dX4_clear_22 : decode cX4_clear 22 = .ok (.putfield 52, 3) := by decide +kernel
theorem dX4_clear_25 : decode cX4_clear 25 = .ok (.aload_n 0, 1) := by decide +kernel
theorem dX4_clear_26 : decode cX4_clear 26 = .ok (.iconst 0, 1) := by decide +kernel
theorem dX4_clear_27 : decode cX4_clear 27 = .ok (.putfield 55, 3) := by decide +kernel
theorem dX4_clear_30 : decode cX4_clear 30 = .ok (.aload_n 0, 1) := by decide +kernel
theorem dX4_clear_31 : decode cX4_clear 31 = .ok (.getfield 27, 3) := by decide +kernel
theorem dX4_clear_34 : decode cX4_clear 34 = .ok (.iconst 0, 1) := by decide +kernel
theorem dX4_clear_35 : decode cX4_clear 35 = .ok (.invokestatic 58, 3) := by decide +kernel
theorem dX4_clear_38 : decode cX4_clear 38 = .ok (.aload_n 0, 1) := by decide +kernel
theorem dX4_clear_39 : decode cX4_clear 39 = .ok (.getfield 36, 3) := by decide +kernel
theorem dX4_clear_42 : decode cX4_clear 42 = .ok (.iconst 0, 1) := by decide +kernel
theorem dX4_clear_43 : decode cX4_clear 43 = .ok (.invokestatic 58, 3) := by decide +kernel
theorem dX4_clear_46 : decode cX4_clear 46 = .ok (.return_, 1) := by decide +kernel
theorem dX4_init_0 : decode cX4_init 0 = .ok (.aload_n 0, 1) := by decide +kernel
theorem dX4_init_1 : decode cX4_init 1 = .ok (.invokespecial 3, 3) := by decide +kernel
theorem dX4_init_4 : decode cX4_init 4 = .ok (.aload_n 0, 1) := by decide +kernel
theorem dX4_init_5 : decode cX4_init 5 = .ok (.bipush 6, 2) := by decide +kernel
theorem dX4_init_7 : decode cX4_init 7 = .ok (.newarray .int, 2) := by decide +kernel
theorem dX4_init_9 : decode cX4_init 9 = .ok (.putfield 9, 3) := by decide +kernel
theorem dX4_init_12 : decode cX4_init 12 = .ok (.aload_n 0, 1) := by decide +kernel
theorem dX4_init_13 : decode cX4_init 13 = .ok (.bipush 6, 2) := by decide +kernel
theorem dX4_init_15 : decode cX4_init 15 = .ok (.newarray .int, 2) := by decide +kernel
theorem dX4_init_17 : decode cX4_init 17 = .ok (.putfield 15, 3) := by decide +kernel
theorem dX4_init_20 : decode cX4_init 20 = .ok (.aload_n 0, 1) := by decide +kernel
theorem dX4_init_21 : decode cX4_init 21 = .ok (.bipush 6, 2) := by decide +kernel
theorem dX4_init_23 : decode cX4_init 23 = .ok (.newarray .int, 2) := by decide +kernel
theorem dX4_init_25 : decode cX4_init 25 = .ok (.putfield 18, 3) := by decide +kernel
theorem dX4_init_28 : decode cX4_init 28 = .ok (.aload_n 0, 1) := by decide +kernel
theorem dX4_init_29 : decode cX4_init 29 = .ok (.bipush 12, 2) := by decide +kernel
theorem dX4_init_31 : decode cX4_init 31 = .ok (.newarray .int, 2) := by decide +kernel
theorem dX4_init_33 : decode cX4_init 33 = .ok (.putfield 21, 3) := by decide +kernel
theorem dX4_init_36 : decode cX4_init 36 = .ok (.aload_n 0, 1) := by decide +kernel
theorem dX4_init_37 : decode cX4_init 37 = .ok (.bipush 12, 2) := by decide +kernel
theorem dX4_init_39 : decode cX4_init 39 = .ok (.newarray .int, 2) := by decide +kernel
theorem dX4_init_41 : decode cX4_init 41 = .ok (.putfield 24, 3) := by decide +kernel
theorem dX4_init_44 : decode cX4_init 44 = .ok (.aload_n 0, 1) := by decide +kernel
theorem dX4_init_45 : decode cX4_init 45 = .ok (.sipush 200, 3) := by decide +kernel
theorem dX4_init_48 : decode cX4_init 48 = .ok (.newarray .int, 2) := by decide +kernel
theorem dX4_init_50 : decode cX4_init 50 = .ok (.putfield 27, 3) := by decide +kernel
theorem dX4_init_53 : decode cX4_init 53 = .ok (.aload_n 0, 1) := by decide +kernel
theorem dX4_init_54 : decode cX4_init 54 = .ok (.bipush 108, 2) := by decide +kernel
theorem dX4_init_56 : decode cX4_init 56 = .ok (.newarray .int, 2) := by decide +kernel
theorem dX4_init_58 : decode cX4_init 58 = .ok (.putfield 30, 3) := by decide +kernel
theorem dX4_init_61 : decode cX4_init 61 = .ok (.aload_n 0, 1) := by decide +kernel
theorem dX4_init_62 : decode cX4_init 62 = .ok (.sipush 1600, 3) := by decide +kernel
theorem dX4_init_65 : decode cX4_init 65 = .ok (.newarray .int, 2) := by decide +kernel
theorem dX4_init_67 : decode cX4_init 67 = .ok (.putfield 33, 3) := by decide +kernel
theorem dX4_init_70 : decode cX4_init 70 = .ok (.aload_n 0, 1) := by decide +kernel
theorem dX4_init_71 : decode cX4_init 71 = .ok (.bipush 6, 2) := by decide +kernel
theorem dX4_init_73 : decode cX4_init 73 = .ok (.newarray .int, 2) := by decide +kernel
theorem dX4_init_75 : decode cX4_init 75 = .ok (.putfield 36, 3) := by decide +kernel
theorem dX4_init_78 : decode cX4_init 78 = .ok (.return_, 1) := by decide +kernel
theorem dX5_begin_0 : decode cX5_begin 0 = .ok (.aload_n 1, 1) := by decide +kernel
theorem dX5_begin_1 : decode cX5_begin 1 = .ok (.invokevirtual 96, 3) := by decide +kernel
theorem dX5_begin_4 : decode cX5_begin 4 = .ok (.aload_n 0, 1) := by decide +kernel
theorem dX5_begin_5 : decode cX5_begin 5 = .ok (.aload_n 1, 1) := by decide +kernel
theorem dX5_begin_6 : decode cX5_begin 6 = .ok (.putfield 37, 3) := by decide +kernel
theorem dX5_begin_9 : decode cX5_begin 9 = .ok (.aload_n 0, 1) := by decide +kernel
theorem dX5_begin_10 : decode cX5_begin 10 = .ok (.iload_n 2, 1) := by decide +kernel
theorem dX5_begin_11 : decode cX5_begin 11 = .ok (.aload_n 0, 1) := by decide +kernel
theorem dX5_begin_12 : decode cX5_begin 12 = .ok (.getfield 33, 3) := by decide +kernel
theorem dX5_begin_15 : decode cX5_begin 15 = .ok (.arraylength, 1) := by decide +kernel
theorem dX5_begin_16 : decode cX5_begin 16 = .ok (.invokestatic 99, 3) := by decide +kernel
theorem dX5_begin_19 : decode cX5_begin 19 = .ok (.putfield 11, 3) := by decide +kernel
theorem dX5_begin_22 : decode cX5_begin 22 = .ok (.aload_n 0, 1) := by decide +kernel
theorem dX5_begin_23 : decode cX5_begin 23 = .ok (.iconst 0, 1) := by decide +kernel
theorem dX5_begin_24 : decode cX5_begin 24 = .ok (.putfield 27, 3) := by decide +kernel
theorem dX5_begin_27 : decode cX5_begin 27 = .ok (.aload_n 0, 1) := by decide +kernel
theorem dX5_begin_28 : decode cX5_begin 28 = .ok (.iconst (-1), 1) := by decide +kernel
theorem dX5_begin_29 : decode cX5_begin 29 = .ok (.putfield 30, 3) := by decide +kernel
theorem dX5_begin_32 : decode cX5_begin 32 = .ok (.aload_n 0, 1) := by decide +kernel
theorem dX5_begin_33 : decode cX5_begin 33 = .ok (.iconst 0, 1) := by decide +kernel
theorem dX5_begin_34 : decode cX5_begin 34 = .ok (.invokevirtual 86, 3) := by decide +kernel
theorem dX5_begin_37 : decode cX5_begin 37 = .ok (.return_, 1) := by decide +kernel
theorem dX5_fail_0 : decode cX5_fail 0 = .ok (.aload_n 0, 1) := by decide +kernel
theorem dX5_fail_1 : decode cX5_fail 1 = .ok (.getfield 27, 3) := by decide +kernel
theorem dX5_fail_4 : decode cX5_fail 4 = .ok (.ifCond .ne 13, 3) := by decide +kernel
theorem dX5_fail_7 : decode cX5_fail 7 = .ok (.aload_n 0, 1) := by decide +kernel
theorem dX5_fail_8 : decode cX5_fail 8 = .ok (.iload_n 1, 1) := by decide +kernel
theorem dX5_fail_9 : decode cX5_fail 9 = .ok (.putfield 27, 3) := by decide +kernel
theorem dX5_fail_12 : decode cX5_fail 12 = .ok (.aload_n 0, 1) := by decide +kernel
theorem dX5_fail_13 : decode cX5_fail 13 = .ok (.iload_n 2, 1) := by decide +kernel
theorem dX5_fail_14 : decode cX5_fail 14 = .ok (.putfield 30, 3) := by decide +kernel
theorem dX5_fail_17 : decode cX5_fail 17 = .ok (.aload_n 0, 1) := by decide +kernel
theorem dX5_fail_18 : decode cX5_fail 18 = .ok (.aload_n 0, 1) := by decide +kernel
theorem dX5_fail_19 : decode cX5_fail 19 = .ok (.getfield 11, 3) := by decide +kernel
theorem dX5_fail_22 : decode cX5_fail 22 = .ok (.putfield 15, 3) := by decide +kernel
theorem dX5_fail_25 : decode cX5_fail 25 = .ok (.aload_n 0, 1) := by decide +kernel
theorem dX5_fail_26 : decode cX5_fail 26 = .ok (.aload_n 0, 1) := by decide +kernel
theorem dX5_fail_27 : decode cX5_fail 27 = .ok (.getfield 11, 3) := by decide +kernel
theorem dX5_fail_30 : decode cX5_fail 30 = .ok (.putfield 18, 3) := by decide +kernel
theorem dX5_fail_33 : decode cX5_fail 33 = .ok (.aload_n 0, 1) := by decide +kernel
theorem dX5_fail_34 : decode cX5_fail 34 = .ok (.iconst 0, 1) := by decide +kernel
theorem dX5_fail_35 : decode cX5_fail 35 = .ok (.putfield 21, 3) := by decide +kernel
theorem dX5_fail_38 : decode cX5_fail 38 = .ok (.return_, 1) := by decide +kernel
theorem dX5_firstStatement_0 : decode cX5_firstStatement 0 = .ok (.aload_n 0, 1) := by decide +kernel
theorem dX5_firstStatement_1 : decode cX5_firstStatement 1 = .ok (.getfield 37, 3) := by decide +kernel
theorem dX5_firstStatement_4 : decode cX5_firstStatement 4 = .ok (.aload_n 0, 1) := by decide +kernel
theorem dX5_firstStatement_5 : decode cX5_firstStatement 5 = .ok (.ldc 105, 2) := by decide +kernel
theorem dX5_firstStatement_7 : decode cX5_firstStatement 7 = .ok (.bipush 10, 2) := by decide +kernel
theorem dX5_firstStatement_9 : decode cX5_firstStatement 9 = .ok (.bipush 120, 2) := by decide +kernel
theorem dX5_firstStatement_11 : decode cX5_firstStatement 11 = .ok (.invokevirtual 70, 3) := by decide +kernel
theorem dX5_firstStatement_14 : decode cX5_firstStatement 14 = .ok (.putfield 107, 3) := by decide +kernel
theorem dX5_firstStatement_17 : decode cX5_firstStatement 17 = .ok (.aload_n 0, 1) := by decide +kernel
theorem dX5_firstStatement_18 : decode cX5_firstStatement 18 = .ok (.getfield 37, 3) := by decide +kernel
theorem dX5_firstStatement_21 : decode cX5_firstStatement 21 = .ok (.aload_n 0, 1) := by decide +kernel
theorem dX5_firstStatement_22 : decode cX5_firstStatement 22 = .ok (.ldc 109, 2) := by decide +kernel
theorem dX5_firstStatement_24 : decode cX5_firstStatement 24 = .ok (.iconst 1, 1) := by decide +kernel
theorem dX5_firstStatement_25 : decode cX5_firstStatement 25 = .ok (.bipush 60, 2) := by decide +kernel
theorem dX5_firstStatement_27 : decode cX5_firstStatement 27 = .ok (.aload_n 0, 1) := by decide +kernel
theorem dX5_firstStatement_28 : decode cX5_firstStatement 28 = .ok (.getfield 37, 3) := by decide +kernel
theorem dX5_firstStatement_31 : decode cX5_firstStatement 31 = .ok (.getfield 107, 3) := by decide +kernel
theorem dX5_firstStatement_34 : decode cX5_firstStatement 34 = .ok (.iconst 1, 1) := by decide +kernel
theorem dX5_firstStatement_35 : decode cX5_firstStatement 35 = .ok (.isub, 1) := by decide +kernel
theorem dX5_firstStatement_36 : decode cX5_firstStatement 36 = .ok (.invokestatic 99, 3) := by decide +kernel
theorem dX5_firstStatement_39 : decode cX5_firstStatement 39 = .ok (.invokevirtual 70, 3) := by decide +kernel
theorem dX5_firstStatement_42 : decode cX5_firstStatement 42 = .ok (.putfield 111, 3) := by decide +kernel
theorem dX5_firstStatement_45 : decode cX5_firstStatement 45 = .ok (.aload_n 0, 1) := by decide +kernel
theorem dX5_firstStatement_46 : decode cX5_firstStatement 46 = .ok (.getfield 37, 3) := by decide +kernel
theorem dX5_firstStatement_49 : decode cX5_firstStatement 49 = .ok (.aload_n 0, 1) := by decide +kernel
theorem dX5_firstStatement_50 : decode cX5_firstStatement 50 = .ok (.ldc 113, 2) := by decide +kernel
theorem dX5_firstStatement_52 : decode cX5_firstStatement 52 = .ok (.iconst 0, 1) := by decide +kernel
theorem dX5_firstStatement_53 : decode cX5_firstStatement 53 = .ok (.iconst 2, 1) := by decide +kernel
theorem dX5_firstStatement_54 : decode cX5_firstStatement 54 = .ok (.invokevirtual 70, 3) := by decide +kernel
theorem dX5_firstStatement_57 : decode cX5_firstStatement 57 = .ok (.putfield 115, 3) := by decide +kernel
theorem dX5_firstStatement_60 : decode cX5_firstStatement 60 = .ok (.aload_n 0, 1) := by decide +kernel
theorem dX5_firstStatement_61 : decode cX5_firstStatement 61 = .ok (.getfield 37, 3) := by decide +kernel
theorem dX5_firstStatement_64 : decode cX5_firstStatement 64 = .ok (.aload_n 0, 1) := by decide +kernel
theorem dX5_firstStatement_65 : decode cX5_firstStatement 65 = .ok (.ldc 117, 2) := by decide +kernel
theorem dX5_firstStatement_67 : decode cX5_firstStatement 67 = .ok (.iconst 0, 1) := by decide +kernel
theorem dX5_firstStatement_68 : decode cX5_firstStatement 68 = .ok (.bipush 99, 2) := by decide +kernel
theorem dX5_firstStatement_70 : decode cX5_firstStatement 70 = .ok (.invokevirtual 70, 3) := by decide +kernel
theorem dX5_firstStatement_73 : decode cX5_firstStatement 73 = .ok (.putfield 119, 3) := by decide +kernel
theorem dX5_firstStatement_76 : decode cX5_firstStatement 76 = .ok (.return_, 1) := by decide +kernel
theorem dX5_init_0 : decode cX5_init 0 = .ok (.aload_n 0, 1) := by decide +kernel
theorem dX5_init_1 : decode cX5_init 1 = .ok (.invokespecial 5, 3) := by decide +kernel
theorem dX5_init_4 : decode cX5_init 4 = .ok (.aload_n 0, 1) := by decide +kernel
theorem dX5_init_5 : decode cX5_init 5 = .ok (.iconst 0, 1) := by decide +kernel
theorem dX5_init_6 : decode cX5_init 6 = .ok (.putfield 11, 3) := by decide +kernel
theorem dX5_init_9 : decode cX5_init 9 = .ok (.aload_n 0, 1) := by decide +kernel
theorem dX5_init_10 : decode cX5_init 10 = .ok (.iconst 0, 1) := by decide +kernel
theorem dX5_init_11 : decode cX5_init 11 = .ok (.putfield 15, 3) := by decide +kernel
theorem dX5_init_14 : decode cX5_init 14 = .ok (.aload_n 0, 1) := by decide +kernel
theorem dX5_init_15 : decode cX5_init 15 = .ok (.iconst 0, 1) := by decide +kernel
theorem dX5_init_16 : decode cX5_init 16 = .ok (.putfield 18, 3) := by decide +kernel
theorem dX5_init_19 : decode cX5_init 19 = .ok (.aload_n 0, 1) := by decide +kernel
theorem dX5_init_20 : decode cX5_init 20 = .ok (.iconst 0, 1) := by decide +kernel
theorem dX5_init_21 : decode cX5_init 21 = .ok (.putfield 21, 3) := by decide +kernel
theorem dX5_init_24 : decode cX5_init 24 = .ok (.aload_n 0, 1) := by decide +kernel
theorem dX5_init_25 : decode cX5_init 25 = .ok (.iconst 0, 1) := by decide +kernel
theorem dX5_init_26 : decode cX5_init 26 = .ok (.putfield 24, 3) := by decide +kernel
theorem dX5_init_29 : decode cX5_init 29 = .ok (.aload_n 0, 1) := by decide +kernel
theorem dX5_init_30 : decode cX5_init 30 = .ok (.iconst 0, 1) := by decide +kernel
theorem dX5_init_31 : decode cX5_init 31 = .ok (.putfield 27, 3) := by decide +kernel
theorem dX5_init_34 : decode cX5_init 34 = .ok (.aload_n 0, 1) := by decide +kernel
theorem dX5_init_35 : decode cX5_init 35 = .ok (.iconst (-1), 1) := by decide +kernel
theorem dX5_init_36 : decode cX5_init 36 = .ok (.putfield 30, 3) := by decide +kernel
theorem dX5_init_39 : decode cX5_init 39 = .ok (.aload_n 0, 1) := by decide +kernel
theorem dX5_init_40 : decode cX5_init 40 = .ok (.aload_n 1, 1) := by decide +kernel
theorem dX5_init_41 : decode cX5_init 41 = .ok (.putfield 33, 3) := by decide +kernel
theorem dX5_init_44 : decode cX5_init 44 = .ok (.aload_n 0, 1) := by decide +kernel
theorem dX5_init_45 : decode cX5_init 45 = .ok (.aload_n 2, 1) := by decide +kernel
theorem dX5_init_46 : decode cX5_init 46 = .ok (.putfield 37, 3) := by decide +kernel
theorem dX5_init_49 : decode cX5_init 49 = .ok (.return_, 1) := by decide +kernel
theorem dX5_moveTo_0 : decode cX5_moveTo 0 = .ok (.aload_n 0, 1) := by decide +kernel
theorem dX5_moveTo_1 : decode cX5_moveTo 1 = .ok (.iload_n 1, 1) := by decide +kernel
theorem dX5_moveTo_2 : decode cX5_moveTo 2 = .ok (.putfield 15, 3) := by decide +kernel
theorem dX5_moveTo_5 : decode cX5_moveTo 5 = .ok (.aload_n 0, 1) := by decide +kernel
theorem dX5_moveTo_6 : decode cX5_moveTo 6 = .ok (.getfield 15, 3) := by decide +kernel
theorem dX5_moveTo_9 : decode cX5_moveTo 9 = .ok (.aload_n 0, 1) := by decide +kernel
theorem dX5_moveTo_10 : decode cX5_moveTo 10 = .ok (.getfield 11, 3) := by decide +kernel
theorem dX5_moveTo_13 : decode cX5_moveTo 13 = .ok (.if_icmp .ge 44, 3) := by decide +kernel
theorem dX5_moveTo_57 : decode cX5_moveTo 57 = .ok (.aload_n 0, 1) := by decide +kernel
theorem dX5_moveTo_58 : decode cX5_moveTo 58 = .ok (.aload_n 0, 1) := by decide +kernel
theorem dX5_moveTo_59 : decode cX5_moveTo 59 = .ok (.aload_n 0, 1) := by decide +kernel
theorem dX5_moveTo_60 : decode cX5_moveTo 60 = .ok (.getfield 15, 3) := by decide +kernel
theorem dX5_moveTo_63 : decode cX5_moveTo 63 = .ok (.invokevirtual 252, 3) := by decide +kernel
theorem dX5_moveTo_66 : decode cX5_moveTo 66 = .ok (.putfield 21, 3) := by decide +kernel
theorem dX5_moveTo_69 : decode cX5_moveTo 69 = .ok (.aload_n 0, 1) := by decide +kernel
theorem dX5_moveTo_70 : decode cX5_moveTo 70 = .ok (.aload_n 0, 1) := by decide +kernel
theorem dX5_moveTo_71 : decode cX5_moveTo 71 = .ok (.getfield 15, 3) := by decide +kernel
theorem dX5_moveTo_74 : decode cX5_moveTo 74 = .ok (.iconst 1, 1) := by decide +kernel
theorem dX5_moveTo_75 : decode cX5_moveTo 75 = .ok (.iadd, 1) := by decide +kernel
theorem dX5_moveTo_76 : decode cX5_moveTo 76 = .ok (.aload_n 0, 1) := by decide +kernel
theorem dX5_moveTo_77 : decode cX5_moveTo 77 = .ok (.getfield 11, 3) := by decide +kernel
theorem dX5_moveTo_80 : decode cX5_moveTo 80 = .ok (.invokestatic 99, 3) := by decide +kernel
theorem dX5_moveTo_83 : decode cX5_moveTo 83 = .ok (.putfield 18, 3) := by decide +kernel
theorem dX5_moveTo_86 : decode cX5_moveTo 86 = .ok (.aload_n 0, 1) := by decide +kernel
theorem dX5_moveTo_87 : decode cX5_moveTo 87 = .ok (.getfield 18, 3) := by decide +kernel
theorem dX5_moveTo_90 : decode cX5_moveTo 90 = .ok (.aload_n 0, 1) := by decide +kernel
theorem dX5_moveTo_91 : decode cX5_moveTo 91 = .ok (.getfield 11, 3) := by decide +kernel
theorem dX5_moveTo_94 : decode cX5_moveTo 94 = .ok (.if_icmp .ge 39, 3) := by decide +kernel
theorem dX5_moveTo_133 : decode cX5_moveTo 133 = .ok (.aload_n 0, 1) := by decide +kernel
theorem dX5_moveTo_134 : decode cX5_moveTo 134 = .ok (.getfield 15, 3) := by decide +kernel
theorem dX5_moveTo_137 : decode cX5_moveTo 137 = .ok (.iload_n 1, 1) := by decide +kernel
theorem dX5_moveTo_138 : decode cX5_moveTo 138 = .ok (.if_icmp .gt 24, 3) := by decide +kernel
theorem dX5_moveTo_141 : decode cX5_moveTo 141 = .ok (.aload_n 0, 1) := by decide +kernel
theorem dX5_moveTo_142 : decode cX5_moveTo 142 = .ok (.getfield 15, 3) := by decide +kernel
theorem dX5_moveTo_145 : decode cX5_moveTo 145 = .ok (.ifCond .eq 17, 3) := by decide +kernel
theorem dX5_moveTo_162 : decode cX5_moveTo 162 = .ok (.iconst 1, 1) := by decide +kernel
theorem dX5_moveTo_163 : decode cX5_moveTo 163 = .ok (.goto 4, 3) := by decide +kernel
theorem dX5_moveTo_167 : decode cX5_moveTo 167 = .ok (.istore_n 2, 1) := by decide +kernel
theorem dX5_moveTo_168 : decode cX5_moveTo 168 = .ok (.iload_n 2, 1) := by decide +kernel
theorem dX5_moveTo_169 : decode cX5_moveTo 169 = .ok (.ifCond .ne 24, 3) := by decide +kernel
theorem dX5_moveTo_193 : decode cX5_moveTo 193 = .ok (.return_, 1) := by decide +kernel
theorem dX5_need_0 : decode cX5_need 0 = .ok (.aload_n 0, 1) := by decide +kernel
theorem dX5_need_1 : decode cX5_need 1 = .ok (.iload_n 1, 1) := by decide +kernel
theorem dX5_need_2 : decode cX5_need 2 = .ok (.invokevirtual 213, 3) := by decide +kernel
theorem dX5_need_5 : decode cX5_need 5 = .ok (.ifCond .eq 14, 3) := by decide +kernel
theorem dX5_need_19 : decode cX5_need 19 = .ok (.aload_n 0, 1) := by decide +kernel
theorem dX5_need_20 : decode cX5_need 20 = .ok (.iconst 1, 1) := by decide +kernel
theorem dX5_need_21 : decode cX5_need 21 = .ok (.aload_n 0, 1) := by decide +kernel
theorem dX5_need_22 : decode cX5_need 22 = .ok (.getfield 15, 3) := by decide +kernel
theorem dX5_need_25 : decode cX5_need 25 = .ok (.invokevirtual 78, 3) := by decide +kernel
theorem dX5_need_28 : decode cX5_need 28 = .ok (.return_, 1) := by decide +kernel
theorem dX5_needWord_0 : decode cX5_needWord 0 = .ok (.aload_n 0, 1) := by decide +kernel
theorem dX5_needWord_1 : decode cX5_needWord 1 = .ok (.aload_n 1, 1) := by decide +kernel
theorem dX5_needWord_2 : decode cX5_needWord 2 = .ok (.invokevirtual 54, 3) := by decide +kernel
theorem dX5_needWord_5 : decode cX5_needWord 5 = .ok (.iconst (-1), 1) := by decide +kernel
theorem dX5_needWord_6 : decode cX5_needWord 6 = .ok (.if_icmp .ne 15, 3) := by decide +kernel
theorem dX5_needWord_9 : decode cX5_needWord 9 = .ok (.aload_n 0, 1) := by decide +kernel
theorem dX5_needWord_10 : decode cX5_needWord 10 = .ok (.iconst 1, 1) := by decide +kernel
theorem dX5_needWord_11 : decode cX5_needWord 11 = .ok (.aload_n 0, 1) := by decide +kernel
theorem dX5_needWord_12 : decode cX5_needWord 12 = .ok (.getfield 15, 3) := by decide +kernel
theorem dX5_needWord_15 : decode cX5_needWord 15 = .ok (.invokevirtual 78, 3) := by decide +kernel
theorem dX5_needWord_18 : decode cX5_needWord 18 = .ok (.goto 11, 3) := by decide +kernel
theorem dX5_needWord_29 : decode cX5_needWord 29 = .ok (.return_, 1) := by decide +kernel
theorem dX5_number_0 : decode cX5_number 0 = .ok (.aload_n 0, 1) := by decide +kernel
theorem dX5_number_1 : decode cX5_number 1 = .ok (.getfield 21, 3) := by decide +kernel
theorem dX5_number_4 : decode cX5_number 4 = .ok (.iconst 2, 1) := by decide +kernel
theorem dX5_number_5 : decode cX5_number 5 = .ok (.if_icmp .eq 14, 3) := by decide +kernel
theorem dX5_number_8 : decode cX5_number 8 = .ok (.aload_n 0, 1) := by decide +kernel
theorem dX5_number_9 : decode cX5_number 9 = .ok (.iconst 1, 1) := by decide +kernel
theorem dX5_number_10 : decode cX5_number 10 = .ok (.aload_n 0, 1) := by decide +kernel
theorem dX5_number_11 : decode cX5_number 11 = .ok (.getfield 15, 3) := by decide +kernel
theorem dX5_number_14 : decode cX5_number 14 = .ok (.invokevirtual 78, 3) := by decide +kernel
theorem dX5_number_17 : decode cX5_number 17 = .ok (.iload_n 1, 1) := by decide +kernel
theorem dX5_number_18 : decode cX5_number 18 = .ok (.ireturn, 1) := by decide +kernel
theorem dX5_numberBehind_0 : decode cX5_numberBehind 0 = .ok (.aload_n 0, 1) := by decide +kernel
theorem dX5_numberBehind_1 : decode cX5_numberBehind 1 = .ok (.aload_n 1, 1) := by decide +kernel
theorem dX5_numberBehind_2 : decode cX5_numberBehind 2 = .ok (.invokevirtual 144, 3) := by decide +kernel
theorem dX5_numberBehind_5 : decode cX5_numberBehind 5 = .ok (.aload_n 0, 1) := by decide +kernel
theorem dX5_numberBehind_6 : decode cX5_numberBehind 6 = .ok (.iload_n 2, 1) := by decide +kernel
theorem dX5_numberBehind_7 : decode cX5_numberBehind 7 = .ok (.iload_n 3, 1) := by decide +kernel
theorem dX5_numberBehind_8 : decode cX5_numberBehind 8 = .ok (.invokevirtual 168, 3) := by decide +kernel
theorem dX5_numberBehind_11 : decode cX5_numberBehind 11 = .ok (.ireturn, 1) := by decide +kernel
theorem dX5_readCrossing_0 : decode cX5_readCrossing 0 = .ok (.aload_n 0, 1) := by decide +kernel
theorem dX5_readCrossing_1 : decode cX5_readCrossing 1 = .ok (.aload_n 1, 1) := by decide +kernel
theorem dX5_readCrossing_2 : decode cX5_readCrossing 2 = .ok (.iload_n 2, 1) := by decide +kernel
theorem dX5_readCrossing_3 : decode cX5_readCrossing 3 = .ok (.invokevirtual 41, 3) := by decide +kernel
theorem dX5_readCrossing_6 : decode cX5_readCrossing 6 = .ok (.aload_n 0, 1) := by decide +kernel
theorem dX5_readCrossing_7 : decode cX5_readCrossing 7 = .ok (.invokevirtual 45, 3) := by decide +kernel
theorem dX5_readCrossing_10 : decode cX5_readCrossing 10 = .ok (.aload_n 0, 1) := by decide +kernel
theorem dX5_readCrossing_11 : decode cX5_readCrossing 11 = .ok (.bipush 59, 2) := by decide +kernel
theorem dX5_readCrossing_13 : decode cX5_readCrossing 13 = .ok (.invokevirtual 48, 3) := by decide +kernel
theorem dX5_readCrossing_16 : decode cX5_readCrossing 16 = .ok (.iconst 1, 1) := by decide +kernel
theorem dX5_readCrossing_17 : decode cX5_readCrossing 17 = .ok (.istore_n 3, 1) := by decide +kernel
theorem dX5_readCrossing_18 : decode cX5_readCrossing 18 = .ok (.aload_n 0, 1) := by decide +kernel
theorem dX5_readCrossing_19 : decode cX5_readCrossing 19 = .ok (.getfield 21, 3) := by decide +kernel
theorem dX5_readCrossing_22 : decode cX5_readCrossing 22 = .ok (.ifCond .eq 136, 3) := by decide +kernel
theorem dX5_readCrossing_158 : decode cX5_readCrossing 158 = .ok (.aload_n 0, 1) := by decide +kernel
theorem dX5_readCrossing_159 : decode cX5_readCrossing 159 = .ok (.getfield 21, 3) := by decide +kernel
theorem dX5_readCrossing_162 : decode cX5_readCrossing 162 = .ok (.ifCond .eq 12, 3) := by decide +kernel
theorem dX5_readCrossing_174 : decode cX5_readCrossing 174 = .ok (.aload_n 1, 1) := by decide +kernel
theorem dX5_readCrossing_175 : decode cX5_readCrossing 175 = .ok (.iload_n 3, 1) := by decide +kernel
theorem dX5_readCrossing_176 : decode cX5_readCrossing 176 = .ok (.putfield 81, 3) := by decide +kernel
theorem dX5_readCrossing_179 : decode cX5_readCrossing 179 = .ok (.return_, 1) := by decide +kernel
theorem dX5_sees_0 : decode cX5_sees 0 = .ok (.aload_n 0, 1) := by decide +kernel
theorem dX5_sees_1 : decode cX5_sees 1 = .ok (.getfield 21, 3) := by decide +kernel
theorem dX5_sees_4 : decode cX5_sees 4 = .ok (.iconst 3, 1) := by decide +kernel
theorem dX5_sees_5 : decode cX5_sees 5 = .ok (.if_icmp .ne 20, 3) := by decide +kernel
theorem dX5_sees_25 : decode cX5_sees 25 = .ok (.iconst 0, 1) := by decide +kernel
theorem dX5_sees_26 : decode cX5_sees 26 = .ok (.ireturn, 1) := by decide +kernel
theorem dX5_sortOf_0 : decode cX5_sortOf 0 = .ok (.iload_n 1, 1) := by decide +kernel
theorem dX5_sortOf_1 : decode cX5_sortOf 1 = .ok (.ifCond .lt 11, 3) := by decide +kernel
theorem dX5_sortOf_4 : decode cX5_sortOf 4 = .ok (.iload_n 1, 1) := by decide +kernel
theorem dX5_sortOf_5 : decode cX5_sortOf 5 = .ok (.aload_n 0, 1) := by decide +kernel
theorem dX5_sortOf_6 : decode cX5_sortOf 6 = .ok (.getfield 11, 3) := by decide +kernel
theorem dX5_sortOf_9 : decode cX5_sortOf 9 = .ok (.if_icmp .lt 5, 3) := by decide +kernel
theorem dX5_sortOf_12 : decode cX5_sortOf 12 = .ok (.iconst 0, 1) := by decide +kernel
theorem dX5_sortOf_13 : decode cX5_sortOf 13 = .ok (.ireturn, 1) := by decide +kernel
theorem dX5_wordIn_0 : decode cX5_wordIn 0 = .ok (.aload_n 0, 1) := by decide +kernel
theorem dX5_wordIn_1 : decode cX5_wordIn 1 = .ok (.getfield 21, 3) := by decide +kernel
theorem dX5_wordIn_4 : decode cX5_wordIn 4 = .ok (.iconst 1, 1) := by decide +kernel
theorem dX5_wordIn_5 : decode cX5_wordIn 5 = .ok (.if_icmp .eq 5, 3) := by decide +kernel
theorem dX5_wordIn_8 : decode cX5_wordIn 8 = .ok (.iconst (-1), 1) := by decide +kernel
theorem dX5_wordIn_9 : decode cX5_wordIn 9 = .ok (.ireturn, 1) := by decide +kernel
theorem dX6_init_0 : decode cX6_init 0 = .ok (.aload_n 0, 1) := by decide +kernel
theorem dX6_init_1 : decode cX6_init 1 = .ok (.invokespecial 3, 3) := by decide +kernel
theorem dX6_init_4 : decode cX6_init 4 = .ok (.aload_n 0, 1) := by decide +kernel
theorem dX6_init_5 : decode cX6_init 5 = .ok (.iconst 0, 1) := by decide +kernel
theorem dX6_init_6 : decode cX6_init 6 = .ok (.putfield 9, 3) := by decide +kernel
theorem dX6_init_9 : decode cX6_init 9 = .ok (.aload_n 0, 1) := by decide +kernel
theorem dX6_init_10 : decode cX6_init 10 = .ok (.iconst 0, 1) := by decide +kernel
theorem dX6_init_11 : decode cX6_init 11 = .ok (.putfield 15, 3) := by decide +kernel
theorem dX6_init_14 : decode cX6_init 14 = .ok (.aload_n 0, 1) := by decide +kernel
theorem dX6_init_15 : decode cX6_init 15 = .ok (.iconst 0, 1) := by decide +kernel
theorem dX6_init_16 : decode cX6_init 16 = .ok (.putfield 18, 3) := by decide +kernel
theorem dX6_init_19 : decode cX6_init 19 = .ok (.aload_n 0, 1) := by decide +kernel
theorem dX6_init_20 : decode cX6_init 20 = .ok (.bipush 6, 2) := by decide +kernel
theorem dX6_init_22 : decode cX6_init 22 = .ok (.newarray .int, 2) := by decide +kernel
theorem dX6_init_24 : decode cX6_init 24 = .ok (.putfield 21, 3) := by decide +kernel
theorem dX6_init_27 : decode cX6_init 27 = .ok (.return_, 1) := by decide +kernel
theorem dX7_init_0 : decode cX7_init 0 = .ok (.aload_n 0, 1) := by decide +kernel
theorem dX7_init_1 : decode cX7_init 1 = .ok (.invokespecial 3, 3) := by decide +kernel
theorem dX7_init_4 : decode cX7_init 4 = .ok (.aload_n 0, 1) := by decide +kernel
theorem dX7_init_5 : decode cX7_init 5 = .ok (.iconst (-1), 1) := by decide +kernel
theorem dX7_init_6 : decode cX7_init 6 = .ok (.putfield 9, 3) := by decide +kernel
theorem dX7_init_9 : decode cX7_init 9 = .ok (.aload_n 0, 1) := by decide +kernel
theorem dX7_init_10 : decode cX7_init 10 = .ok (.bipush 6, 2) := by decide +kernel
theorem dX7_init_12 : decode cX7_init 12 = .ok (.newarray .int, 2) := by decide +kernel
theorem dX7_init_14 : decode cX7_init 14 = .ok (.putfield 15, 3) := by decide +kernel
theorem dX7_init_17 : decode cX7_init 17 = .ok (.aload_n 0, 1) := by decide +kernel
theorem dX7_init_18 : decode cX7_init 18 = .ok (.iconst (-1), 1) := by decide +kernel
theorem dX7_init_19 : decode cX7_init 19 = .ok (.putfield 19, 3) := by decide +kernel
theorem dX7_init_22 : decode cX7_init 22 = .ok (.aload_n 0, 1) := by decide +kernel
theorem dX7_init_23 : decode cX7_init 23 = .ok (.iconst 0, 1) := by decide +kernel
theorem dX7_init_24 : decode cX7_init 24 = .ok (.putfield 22, 3) := by decide +kernel
theorem dX7_init_27 : decode cX7_init 27 = .ok (.aload_n 0, 1) := by decide +kernel
theorem dX7_init_28 : decode cX7_init 28 = .ok (.iconst 0, 1) := by decide +kernel
theorem dX7_init_29 : decode cX7_init 29 = .ok (.putfield 25, 3) := by decide +kernel
theorem dX7_init_32 : decode cX7_init 32 = .ok (.aload_n 0, 1) := by decide +kernel
theorem dX7_init_33 : decode cX7_init 33 = .ok (.iconst 0, 1) := by decide +kernel
theorem dX7_init_34 : decode cX7_init 34 = .ok (.putfield 28, 3) := by decide +kernel
theorem dX7_init_37 : decode cX7_init 37 = .ok (.aload_n 0, 1) := by decide +kernel
theorem dX7_init_38 : decode cX7_init 38 = .ok (.sipush 320, 3) := by decide +kernel
theorem dX7_init_41 : decode cX7_init 41 = .ok (.newarray .int, 2) := by decide +kernel
theorem dX7_init_43 : decode cX7_init 43 = .ok (.putfield 32, 3) := by decide +kernel
theorem dX7_init_46 : decode cX7_init 46 = .ok (.aload_n 0, 1) := by decide +kernel
theorem dX7_init_47 : decode cX7_init 47 = .ok (.sipush 320, 3) := by decide +kernel
theorem dX7_init_50 : decode cX7_init 50 = .ok (.newarray .int, 2) := by decide +kernel
theorem dX7_init_52 : decode cX7_init 52 = .ok (.putfield 35, 3) := by decide +kernel
theorem dX7_init_55 : decode cX7_init 55 = .ok (.aload_n 0, 1) := by decide +kernel
theorem dX7_init_56 : decode cX7_init 56 = .ok (.sipush 3600, 3) := by decide +kernel
theorem dX7_init_59 : decode cX7_init 59 = .ok (.newarray .int, 2) := by decide +kernel
theorem dX7_init_61 : decode cX7_init 61 = .ok (.putfield 38, 3) := by decide +kernel
theorem dX7_init_64 : decode cX7_init 64 = .ok (.aload_n 0, 1) := by decide +kernel
theorem dX7_init_65 : decode cX7_init 65 = .ok (.sipush 300, 3) := by decide +kernel
theorem dX7_init_68 : decode cX7_init 68 = .ok (.newarray .int, 2) := by decide +kernel
theorem dX7_init_70 : decode cX7_init 70 = .ok (.putfield 41, 3) := by decide +kernel
theorem dX7_init_73 : decode cX7_init 73 = .ok (.aload_n 0, 1) := by decide +kernel
theorem dX7_init_74 : decode cX7_init 74 = .ok (.bipush 12, 2) := by decide +kernel
theorem dX7_init_76 : decode cX7_init 76 = .ok (.newarray .int, 2) := by decide +kernel
theorem dX7_init_78 : decode cX7_init 78 = .ok (.putfield 44, 3) := by decide +kernel
theorem dX7_init_81 : decode cX7_init 81 = .ok (.aload_n 0, 1) := by decide +kernel
theorem dX7_init_82 : decode cX7_init 82 = .ok (.iconst 0, 1) := by decide +kernel
theorem dX7_init_83 : decode cX7_init 83 = .ok (.putfield 47, 3) := by decide +kernel
theorem dX7_init_86 : decode cX7_init 86 = .ok (.aload_n 0, 1) := by decide +kernel
theorem dX7_init_87 : decode cX7_init 87 = .ok (.iconst 0, 1) := by decide +kernel
theorem dX7_init_88 : decode cX7_init 88 = .ok (.putfield 50, 3) := by decide +kernel
theorem dX7_init_91 : decode cX7_init 91 = .ok (.aload_n 0, 1) := by decide +kernel
theorem dX7_init_92 : decode cX7_init 92 = .ok (.iconst 0, 1) := by decide +kernel
theorem dX7_init_93 : decode cX7_init 93 = .ok (.putfield 53, 3) := by decide +kernel
theorem dX7_init_96 : decode cX7_init 96 = .ok (.aload_n 0, 1) := by decide +kernel
theorem dX7_init_97 : decode cX7_init 97 = .ok (.iconst 0, 1) := by decide +kernel
theorem dX7_init_98 : decode cX7_init 98 = .ok (.putfield 56, 3) := by decide +kernel
theorem dX7_init_101 : decode cX7_init 101 = .ok (.aload_n 0, 1) := by decide +kernel
theorem dX7_init_102 : decode cX7_init 102 = .ok (.aload_n 1, 1) := by decide +kernel
theorem dX7_init_103 : decode cX7_init 103 = .ok (.putfield 59, 3) := by decide +kernel
theorem dX7_init_106 : decode cX7_init 106 = .ok (.aload_n 0, 1) := by decide +kernel
theorem dX7_init_107 : decode cX7_init 107 = .ok (.aload_n 2, 1) := by decide +kernel
theorem dX7_init_108 : decode cX7_init 108 = .ok (.putfield 63, 3) := by decide +kernel
theorem dX7_init_111 : decode cX7_init 111 = .ok (.return_, 1) := by decide +kernel
theorem dX8_accepts_0 : decode cX8_accepts 0 = .ok (.iload_n 2, 1) := by decide +kernel
theorem dX8_accepts_1 : decode cX8_accepts 1 = .ok (.iconst 3, 1) := by decide +kernel
theorem dX8_accepts_2 : decode cX8_accepts 2 = .ok (.if_icmp .lt 15, 3) := by decide +kernel
theorem dX8_accepts_17 : decode cX8_accepts 17 = .ok (.iconst 0, 1) := by decide +kernel
theorem dX8_accepts_18 : decode cX8_accepts 18 = .ok (.ireturn, 1) := by decide +kernel
theorem dX8_init_0 : decode cX8_init 0 = .ok (.aload_n 0, 1) := by decide +kernel
theorem dX8_init_1 : decode cX8_init 1 = .ok (.invokespecial 3, 3) := by decide +kernel
theorem dX8_init_4 : decode cX8_init 4 = .ok (.aload_n 0, 1) := by decide +kernel
theorem dX8_init_5 : decode cX8_init 5 = .ok (.bipush 16, 2) := by decide +kernel
theorem dX8_init_7 : decode cX8_init 7 = .ok (.newarray .int, 2) := by decide +kernel
theorem dX8_init_9 : decode cX8_init 9 = .ok (.putfield 9, 3) := by decide +kernel
theorem dX8_init_12 : decode cX8_init 12 = .ok (.aload_n 0, 1) := by decide +kernel
theorem dX8_init_13 : decode cX8_init 13 = .ok (.bipush 16, 2) := by decide +kernel
theorem dX8_init_15 : decode cX8_init 15 = .ok (.newarray .int, 2) := by decide +kernel
theorem dX8_init_17 : decode cX8_init 17 = .ok (.putfield 15, 3) := by decide +kernel
theorem dX8_init_20 : decode cX8_init 20 = .ok (.aload_n 0, 1) := by decide +kernel
theorem dX8_init_21 : decode cX8_init 21 = .ok (.iconst 0, 1) := by decide +kernel
theorem dX8_init_22 : decode cX8_init 22 = .ok (.putfield 18, 3) := by decide +kernel
theorem dX8_init_25 : decode cX8_init 25 = .ok (.aload_n 0, 1) := by decide +kernel
theorem dX8_init_26 : decode cX8_init 26 = .ok (.iconst 0, 1) := by decide +kernel
theorem dX8_init_27 : decode cX8_init 27 = .ok (.putfield 22, 3) := by decide +kernel
theorem dX8_init_30 : decode cX8_init 30 = .ok (.aload_n 0, 1) := by decide +kernel
theorem dX8_init_31 : decode cX8_init 31 = .ok (.sipush 720, 3) := by decide +kernel
theorem dX8_init_34 : decode cX8_init 34 = .ok (.newarray .int, 2) := by decide +kernel
theorem dX8_init_36 : decode cX8_init 36 = .ok (.putfield 26, 3) := by decide +kernel
theorem dX8_init_39 : decode cX8_init 39 = .ok (.aload_n 0, 1) := by decide +kernel
theorem dX8_init_40 : decode cX8_init 40 = .ok (.iconst 0, 1) := by decide +kernel
theorem dX8_init_41 : decode cX8_init 41 = .ok (.putfield 29, 3) := by decide +kernel
theorem dX8_init_44 : decode cX8_init 44 = .ok (.aload_n 0, 1) := by decide +kernel
theorem dX8_init_45 : decode cX8_init 45 = .ok (.iconst 0, 1) := by decide +kernel
theorem dX8_init_46 : decode cX8_init 46 = .ok (.putfield 32, 3) := by decide +kernel
theorem dX8_init_49 : decode cX8_init 49 = .ok (.aload_n 0, 1) := by decide +kernel
theorem dX8_init_50 : decode cX8_init 50 = .ok (.iconst (-1), 1) := by decide +kernel
theorem dX8_init_51 : decode cX8_init 51 = .ok (.putfield 35, 3) := by decide +kernel
theorem dX8_init_54 : decode cX8_init 54 = .ok (.aload_n 0, 1) := by decide +kernel
theorem dX8_init_55 : decode cX8_init 55 = .ok (.iconst (-1), 1) := by decide +kernel
theorem dX8_init_56 : decode cX8_init 56 = .ok (.putfield 38, 3) := by decide +kernel
theorem dX8_init_59 : decode cX8_init 59 = .ok (.aload_n 0, 1) := by decide +kernel
theorem dX8_init_60 : decode cX8_init 60 = .ok (.iconst (-1), 1) := by decide +kernel
theorem dX8_init_61 : decode cX8_init 61 = .ok (.putfield 41, 3) := by decide +kernel
theorem dX8_init_64 : decode cX8_init 64 = .ok (.aload_n 0, 1) := by decide +kernel
theorem dX8_init_65 : decode cX8_init 65 = .ok (.aload_n 1, 1) := by decide +kernel
theorem dX8_init_66 : decode cX8_init 66 = .ok (.putfield 44, 3) := by decide +kernel
theorem dX8_init_69 : decode cX8_init 69 = .ok (.return_, 1) := by decide +kernel
theorem dX9_ask_0 : decode cX9_ask 0 = .ok (.aload_n 0, 1) := by decide +kernel
theorem dX9_ask_1 : decode cX9_ask 1 = .ok (.invokevirtual 114, 3) := by decide +kernel
theorem dX9_ask_4 : decode cX9_ask 4 = .ok (.istore_n 1, 1) := by decide +kernel
theorem dX9_ask_5 : decode cX9_ask 5 = .ok (.aload_n 0, 1) := by decide +kernel
theorem dX9_ask_6 : decode cX9_ask 6 = .ok (.invokevirtual 218, 3) := by decide +kernel
theorem dX9_ask_9 : decode cX9_ask 9 = .ok (.ifCond .ne 7, 3) := by decide +kernel
theorem dX9_ask_12 : decode cX9_ask 12 = .ok (.ldc2_w 309, 3) := by decide +kernel
theorem dX9_ask_15 : decode cX9_ask 15 = .ok (.lreturn, 1) := by decide +kernel
theorem dX9_best_0 : decode cX9_best 0 = .ok (.aload_n 0, 1) := by decide +kernel
theorem dX9_best_1 : decode cX9_best 1 = .ok (.invokevirtual 218, 3) := by decide +kernel
theorem dX9_best_4 : decode cX9_best 4 = .ok (.ifCond .eq 22, 3) := by decide +kernel
theorem dX9_best_26 : decode cX9_best 26 = .ok (.iconst (-1), 1) := by decide +kernel
theorem dX9_best_27 : decode cX9_best 27 = .ok (.ireturn, 1) := by decide +kernel
theorem dX9_canLive_0 : decode cX9_canLive 0 = .ok (.aload_n 0, 1) := by decide +kernel
theorem dX9_canLive_1 : decode cX9_canLive 1 = .ok (.invokevirtual 218, 3) := by decide +kernel
theorem dX9_canLive_4 : decode cX9_canLive 4 = .ok (.ifCond .eq 33, 3) := by decide +kernel
theorem dX9_canLive_37 : decode cX9_canLive 37 = .ok (.iconst 0, 1) := by decide +kernel
theorem dX9_canLive_38 : decode cX9_canLive 38 = .ok (.ireturn, 1) := by decide +kernel
theorem dX9_car_0 : decode cX9_car 0 = .ok (.aload_n 0, 1) := by decide +kernel
theorem dX9_car_1 : decode cX9_car 1 = .ok (.invokevirtual 218, 3) := by decide +kernel
theorem dX9_car_4 : decode cX9_car 4 = .ok (.ifCond .eq 14, 3) := by decide +kernel
theorem dX9_car_18 : decode cX9_car 18 = .ok (.iconst (-1), 1) := by decide +kernel
theorem dX9_car_19 : decode cX9_car 19 = .ok (.ireturn, 1) := by decide +kernel
theorem dX9_chance_0 : decode cX9_chance 0 = .ok (.aload_n 0, 1) := by decide +kernel
theorem dX9_chance_1 : decode cX9_chance 1 = .ok (.iload_n 1, 1) := by decide +kernel
theorem dX9_chance_2 : decode cX9_chance 2 = .ok (.invokevirtual 287, 3) := by decide +kernel
theorem dX9_chance_5 : decode cX9_chance 5 = .ok (.ifCond .ne 9, 3) := by decide +kernel
theorem dX9_chance_8 : decode cX9_chance 8 = .ok (.aload_n 0, 1) := by decide +kernel
theorem dX9_chance_9 : decode cX9_chance 9 = .ok (.iconst 3, 1) := by decide +kernel
theorem dX9_chance_10 : decode cX9_chance 10 = .ok (.invokevirtual 102, 3) := by decide +kernel
theorem dX9_chance_13 : decode cX9_chance 13 = .ok (.ireturn, 1) := by decide +kernel
theorem dX9_check_0 : decode cX9_check 0 = .ok (.bipush 101, 2) := by decide +kernel
theorem dX9_check_2 : decode cX9_check 2 = .ok (.istore_n 2, 1) := by decide +kernel
theorem dX9_check_3 : decode cX9_check 3 = .ok (.iconst 0, 1) := by decide +kernel
theorem dX9_check_4 : decode cX9_check 4 = .ok (.istore_n 3, 1) := by decide +kernel
theorem dX9_check_5 : decode cX9_check 5 = .ok (.iload_n 3, 1) := by decide +kernel
theorem dX9_check_6 : decode cX9_check 6 = .ok (.iload_n 1, 1) := by decide +kernel
theorem dX9_check_7 : decode cX9_check 7 = .ok (.if_icmp .ge 21, 3) := by decide +kernel
theorem dX9_check_10 : decode cX9_check 10 = .ok (.iconst 3, 1) := by decide +kernel
theorem dX9_check_11 : decode cX9_check 11 = .ok (.iload_n 2, 1) := by decide +kernel
theorem dX9_check_12 : decode cX9_check 12 = .ok (.imul, 1) := by decide +kernel
theorem dX9_check_13 : decode cX9_check 13 = .ok (.aload_n 0, 1) := by decide +kernel
theorem dX9_check_14 : decode cX9_check 14 = .ok (.iload_n 3, 1) := by decide +kernel
theorem dX9_check_15 : decode cX9_check 15 = .ok (.iaload, 1) := by decide +kernel
theorem dX9_check_16 : decode cX9_check 16 = .ok (.iadd, 1) := by decide +kernel
theorem dX9_check_17 : decode cX9_check 17 = .ok (.sipush 251, 3) := by decide +kernel
theorem dX9_check_20 : decode cX9_check 20 = .ok (.irem, 1) := by decide +kernel
theorem dX9_check_21 : decode cX9_check 21 = .ok (.istore_n 2, 1) := by decide +kernel
theorem dX9_check_22 : decode cX9_check 22 = .ok (.iinc 3 1, 3) := by decide +kernel
theorem dX9_check_25 : decode cX9_check 25 = .ok (.goto (-20), 3) := by decide +kernel
theorem dX9_check_28 : decode cX9_check 28 = .ok (.iload_n 2, 1) := by decide +kernel
theorem dX9_check_29 : decode cX9_check 29 = .ok (.ireturn, 1) := by decide +kernel
theorem dX9_crossing_0 : decode cX9_crossing 0 = .ok (.aload_n 0, 1) := by decide +kernel
theorem dX9_crossing_1 : decode cX9_crossing 1 = .ok (.getfield 24, 3) := by decide +kernel
theorem dX9_crossing_4 : decode cX9_crossing 4 = .ok (.astore_n 1, 1) := by decide +kernel
theorem dX9_crossing_5 : decode cX9_crossing 5 = .ok (.aload_n 0, 1) := by decide +kernel
theorem dX9_crossing_6 : decode cX9_crossing 6 = .ok (.getfield 53, 3) := by decide +kernel
theorem dX9_crossing_9 : decode cX9_crossing 9 = .ok (.aload_n 1, 1) := by decide +kernel
theorem dX9_crossing_10 : decode cX9_crossing 10 = .ok (.aload_n 0, 1) := by decide +kernel
theorem dX9_crossing_11 : decode cX9_crossing 11 = .ok (.invokevirtual 114, 3) := by decide +kernel
theorem dX9_crossing_14 : decode cX9_crossing 14 = .ok (.invokevirtual 118, 3) := by decide +kernel
theorem dX9_crossing_17 : decode cX9_crossing 17 = .ok (.aload_n 0, 1) := by decide +kernel
theorem dX9_crossing_18 : decode cX9_crossing 18 = .ok (.getfield 53, 3) := by decide +kernel
theorem dX9_crossing_21 : decode cX9_crossing 21 = .ok (.getfield 122, 3) := by decide +kernel
theorem dX9_crossing_24 : decode cX9_crossing 24 = .ok (.ifCond .eq 9, 3) := by decide +kernel
theorem dX9_crossing_27 : decode cX9_crossing 27 = .ok (.aload_n 0, 1) := by decide +kernel
theorem dX9_crossing_28 : decode cX9_crossing 28 = .ok (.iconst 1, 1) := by decide +kernel
theorem dX9_crossing_29 : decode cX9_crossing 29 = .ok (.invokevirtual 102, 3) := by decide +kernel
theorem dX9_crossing_32 : decode cX9_crossing 32 = .ok (.ireturn, 1) := by decide +kernel
theorem dX9_day_0 : decode cX9_day 0 = .ok (.aload_n 0, 1) := by decide +kernel
theorem dX9_day_1 : decode cX9_day 1 = .ok (.invokevirtual 218, 3) := by decide +kernel
theorem dX9_day_4 : decode cX9_day 4 = .ok (.ifCond .ne 5, 3) := by decide +kernel
theorem dX9_day_7 : decode cX9_day 7 = .ok (.iconst (-1), 1) := by decide +kernel
theorem dX9_day_8 : decode cX9_day 8 = .ok (.ireturn, 1) := by decide +kernel
theorem dX9_days_0 : decode cX9_days 0 = .ok (.aload_n 0, 1) := by decide +kernel
theorem dX9_days_1 : decode cX9_days 1 = .ok (.iload_n 1, 1) := by decide +kernel
theorem dX9_days_2 : decode cX9_days 2 = .ok (.invokevirtual 287, 3) := by decide +kernel
theorem dX9_days_5 : decode cX9_days 5 = .ok (.ifCond .ne 9, 3) := by decide +kernel
theorem dX9_days_8 : decode cX9_days 8 = .ok (.aload_n 0, 1) := by decide +kernel
theorem dX9_days_9 : decode cX9_days 9 = .ok (.iconst 3, 1) := by decide +kernel
theorem dX9_days_10 : decode cX9_days 10 = .ok (.invokevirtual 102, 3) := by decide +kernel
theorem dX9_days_13 : decode cX9_days 13 = .ok (.ireturn, 1) := by decide +kernel
theorem dX9_deny_0 : decode cX9_deny 0 = .ok (.aload_n 0, 1) := by decide +kernel
theorem dX9_deny_1 : decode cX9_deny 1 = .ok (.getfield 95, 3) := by decide +kernel
theorem dX9_deny_4 : decode cX9_deny 4 = .ok (.iload_n 1, 1) := by decide +kernel
theorem dX9_deny_5 : decode cX9_deny 5 = .ok (.dup2, 1) := by decide +kernel
theorem dX9_deny_6 : decode cX9_deny 6 = .ok (.iaload, 1) := by decide +kernel
theorem dX9_deny_7 : decode cX9_deny 7 = .ok (.iconst 1, 1) := by decide +kernel
theorem dX9_deny_8 : decode cX9_deny 8 = .ok (.iadd, 1) := by decide +kernel
theorem dX9_deny_9 : decode cX9_deny 9 = .ok (.iastore, 1) := by decide +kernel
theorem dX9_deny_10 : decode cX9_deny 10 = .ok (.iconst 0, 1) := by decide +kernel
theorem dX9_deny_11 : decode cX9_deny 11 = .ok (.ireturn, 1) := by decide +kernel
theorem dX9_doubts_0 : decode cX9_doubts 0 = .ok (.aload_n 0, 1) := by decide +kernel
theorem dX9_doubts_1 : decode cX9_doubts 1 = .ok (.iload_n 1, 1) := by decide +kernel
theorem dX9_doubts_2 : decode cX9_doubts 2 = .ok (.invokevirtual 169, 3) := by decide +kernel
theorem dX9_doubts_5 : decode cX9_doubts 5 = .ok (.ifCond .ne 5, 3) := by decide +kernel
theorem dX9_doubts_8 : decode cX9_doubts 8 = .ok (.iconst (-1), 1) := by decide +kernel
theorem dX9_doubts_9 : decode cX9_doubts 9 = .ok (.ireturn, 1) := by decide +kernel
theorem dX9_end_0 : decode cX9_end 0 = .ok (.iload_n 1, 1) := by decide +kernel
theorem dX9_end_1 : decode cX9_end 1 = .ok (.ifCond .lt 11, 3) := by decide +kernel
theorem dX9_end_4 : decode cX9_end 4 = .ok (.iload_n 1, 1) := by decide +kernel
theorem dX9_end_5 : decode cX9_end 5 = .ok (.aload_n 0, 1) := by decide +kernel
theorem dX9_end_6 : decode cX9_end 6 = .ok (.getfield 13, 3) := by decide +kernel
theorem dX9_end_9 : decode cX9_end 9 = .ok (.if_icmp .le 9, 3) := by decide +kernel
theorem dX9_end_12 : decode cX9_end 12 = .ok (.aload_n 0, 1) := by decide +kernel
theorem dX9_end_13 : decode cX9_end 13 = .ok (.iconst 0, 1) := by decide +kernel
theorem dX9_end_14 : decode cX9_end 14 = .ok (.invokevirtual 110, 3) := by decide +kernel
theorem dX9_end_17 : decode cX9_end 17 = .ok (.ireturn, 1) := by decide +kernel
theorem dX9_end_18 : decode cX9_end 18 = .ok (.aload_n 0, 1) := by decide +kernel
theorem dX9_end_19 : decode cX9_end 19 = .ok (.iload_n 1, 1) := by decide +kernel
theorem dX9_end_20 : decode cX9_end 20 = .ok (.putfield 13, 3) := by decide +kernel
theorem dX9_end_23 : decode cX9_end 23 = .ok (.iconst 1, 1) := by decide +kernel
theorem dX9_end_24 : decode cX9_end 24 = .ok (.ireturn, 1) := by decide +kernel
theorem dX9_fault_0 : decode cX9_fault 0 = .ok (.iload_n 1, 1) := by decide +kernel
theorem dX9_fault_1 : decode cX9_fault 1 = .ok (.lookupswitch 43 #[(0, 27), (1, 35)], 27) := by decide +kernel
theorem dX9_fault_28 : decode cX9_fault 28 = .ok (.aload_n 0, 1) := by decide +kernel
theorem dX9_fault_29 : decode cX9_fault 29 = .ok (.getfield 53, 3) := by decide +kernel
theorem dX9_fault_32 : decode cX9_fault 32 = .ok (.getfield 122, 3) := by decide +kernel
theorem dX9_fault_35 : decode cX9_fault 35 = .ok (.ireturn, 1) := by decide +kernel
theorem dX9_fault_36 : decode cX9_fault 36 = .ok (.aload_n 0, 1) := by decide +kernel
theorem dX9_fault_37 : decode cX9_fault 37 = .ok (.getfield 53, 3) := by decide +kernel
theorem dX9_fault_40 : decode cX9_fault 40 = .ok (.getfield 142, 3) := by decide +kernel
theorem dX9_fault_43 : decode cX9_fault 43 = .ok (.ireturn, 1) := by decide +kernel
theorem dX9_fault_44 : decode cX9_fault 44 = .ok (.iconst (-1), 1) := by decide +kernel
theorem dX9_fault_45 : decode cX9_fault 45 = .ok (.ireturn, 1) := by decide +kernel
theorem dX9_feed_0 : decode cX9_feed 0 = .ok (.aload_n 0, 1) := by decide +kernel
theorem dX9_feed_1 : decode cX9_feed 1 = .ok (.getfield 13, 3) := by decide +kernel
theorem dX9_feed_4 : decode cX9_feed 4 = .ok (.bipush 20, 2) := by decide +kernel
theorem dX9_feed_6 : decode cX9_feed 6 = .ok (.iadd, 1) := by decide +kernel
theorem dX9_feed_7 : decode cX9_feed 7 = .ok (.sipush 1600, 3) := by decide +kernel
theorem dX9_feed_10 : decode cX9_feed 10 = .ok (.if_icmp .le 9, 3) := by decide +kernel
theorem dX9_feed_19 : decode cX9_feed 19 = .ok (.aload_n 0, 1) := by decide +kernel
theorem dX9_feed_20 : decode cX9_feed 20 = .ok (.iload_n 1, 1) := by decide +kernel
theorem dX9_feed_21 : decode cX9_feed 21 = .ok (.invokevirtual 106, 3) := by decide +kernel
theorem dX9_feed_24 : decode cX9_feed 24 = .ok (.aload_n 0, 1) := by decide +kernel
theorem dX9_feed_25 : decode cX9_feed 25 = .ok (.iload_n 2, 1) := by decide +kernel
theorem dX9_feed_26 : decode cX9_feed 26 = .ok (.invokevirtual 106, 3) := by decide +kernel
theorem dX9_feed_29 : decode cX9_feed 29 = .ok (.aload_n 0, 1) := by decide +kernel
theorem dX9_feed_30 : decode cX9_feed 30 = .ok (.iload_n 3, 1) := by decide +kernel
theorem dX9_feed_31 : decode cX9_feed 31 = .ok (.invokevirtual 106, 3) := by decide +kernel
theorem dX9_feed_34 : decode cX9_feed 34 = .ok (.aload_n 0, 1) := by decide +kernel
theorem dX9_feed_35 : decode cX9_feed 35 = .ok (.iload 4, 2) := by decide +kernel
theorem dX9_feed_37 : decode cX9_feed 37 = .ok (.invokevirtual 106, 3) := by decide +kernel
theorem dX9_feed_40 : decode cX9_feed 40 = .ok (.aload_n 0, 1) := by decide +kernel
theorem dX9_feed_41 : decode cX9_feed 41 = .ok (.iload 5, 2) := by decide +kernel
theorem dX9_feed_43 : decode cX9_feed 43 = .ok (.invokevirtual 106, 3) := by decide +kernel
theorem dX9_feed_46 : decode cX9_feed 46 = .ok (.aload_n 0, 1) := by decide +kernel
theorem dX9_feed_47 : decode cX9_feed 47 = .ok (.getfield 13, 3) := by decide +kernel
theorem dX9_feed_50 : decode cX9_feed 50 = .ok (.ireturn, 1) := by decide +kernel
theorem dX9_fits_0 : decode cX9_fits 0 = .ok (.aload_n 0, 1) := by decide +kernel
theorem dX9_fits_1 : decode cX9_fits 1 = .ok (.invokevirtual 218, 3) := by decide +kernel
theorem dX9_fits_4 : decode cX9_fits 4 = .ok (.ifCond .ne 5, 3) := by decide +kernel
theorem dX9_fits_7 : decode cX9_fits 7 = .ok (.iconst (-1), 1) := by decide +kernel
theorem dX9_fits_8 : decode cX9_fits 8 = .ok (.ireturn, 1) := by decide +kernel
theorem dX9_green_0 : decode cX9_green 0 = .ok (.aload_n 0, 1) := by decide +kernel
theorem dX9_green_1 : decode cX9_green 1 = .ok (.getfield 20, 3) := by decide +kernel
theorem dX9_green_4 : decode cX9_green 4 = .ok (.iload_n 1, 1) := by decide +kernel
theorem dX9_green_5 : decode cX9_green 5 = .ok (.invokevirtual 284, 3) := by decide +kernel
theorem dX9_green_8 : decode cX9_green 8 = .ok (.ifCond .eq 14, 3) := by decide +kernel
theorem dX9_green_22 : decode cX9_green 22 = .ok (.aload_n 0, 1) := by decide +kernel
theorem dX9_green_23 : decode cX9_green 23 = .ok (.iconst 2, 1) := by decide +kernel
theorem dX9_green_24 : decode cX9_green 24 = .ok (.invokevirtual 110, 3) := by decide +kernel
theorem dX9_green_27 : decode cX9_green 27 = .ok (.ireturn, 1) := by decide +kernel
theorem dX9_has_0 : decode cX9_has 0 = .ok (.iload_n 1, 1) := by decide +kernel
theorem dX9_has_1 : decode cX9_has 1 = .ok (.tableswitch 111 0 7 #[47, 55, 63, 71, 79, 87, 95, 103], 47) := by decide +kernel
theorem dX9_has_48 : decode cX9_has 48 = .ok (.aload_n 0, 1) := by decide +kernel
theorem dX9_has_49 : decode cX9_has 49 = .ok (.getfield 20, 3) := by decide +kernel
theorem dX9_has_52 : decode cX9_has 52 = .ok (.getfield 145, 3) := by decide +kernel
theorem dX9_has_55 : decode cX9_has 55 = .ok (.ireturn, 1) := by decide +kernel
theorem dX9_has_56 : decode cX9_has 56 = .ok (.aload_n 0, 1) := by decide +kernel
theorem dX9_has_57 : decode cX9_has 57 = .ok (.getfield 20, 3) := by decide +kernel
theorem dX9_has_60 : decode cX9_has 60 = .ok (.getfield 148, 3) := by decide +kernel
theorem dX9_has_63 : decode cX9_has 63 = .ok (.ireturn, 1) := by decide +kernel
theorem dX9_has_64 : decode cX9_has 64 = .ok (.aload_n 0, 1) := by decide +kernel
theorem dX9_has_65 : decode cX9_has 65 = .ok (.getfield 20, 3) := by decide +kernel
theorem dX9_has_68 : decode cX9_has 68 = .ok (.getfield 151, 3) := by decide +kernel
theorem dX9_has_71 : decode cX9_has 71 = .ok (.ireturn, 1) := by decide +kernel
theorem dX9_has_72 : decode cX9_has 72 = .ok (.aload_n 0, 1) := by decide +kernel
theorem dX9_has_73 : decode cX9_has 73 = .ok (.getfield 30, 3) := by decide +kernel
theorem dX9_has_76 : decode cX9_has 76 = .ok (.getfield 154, 3) := by decide +kernel
theorem dX9_has_79 : decode cX9_has 79 = .ok (.ireturn, 1) := by decide +kernel
theorem dX9_has_80 : decode cX9_has 80 = .ok (.aload_n 0, 1) := by decide +kernel
theorem dX9_has_81 : decode cX9_has 81 = .ok (.getfield 30, 3) := by decide +kernel
theorem dX9_has_84 : decode cX9_has 84 = .ok (.getfield 157, 3) := by decide +kernel
theorem dX9_has_87 : decode cX9_has 87 = .ok (.ireturn, 1) := by decide +kernel
theorem dX9_has_88 : decode cX9_has 88 = .ok (.aload_n 0, 1) := by decide +kernel
theorem dX9_has_89 : decode cX9_has 89 = .ok (.getfield 30, 3) := by decide +kernel
theorem dX9_has_92 : decode cX9_has 92 = .ok (.getfield 160, 3) := by decide +kernel
theorem dX9_has_95 : decode cX9_has 95 = .ok (.ireturn, 1) := by decide +kernel
theorem dX9_has_96 : decode cX9_has 96 = .ok (.aload_n 0, 1) := by decide +kernel
theorem dX9_has_97 : decode cX9_has 97 = .ok (.getfield 85, 3) := by decide +kernel
theorem dX9_has_100 : decode cX9_has 100 = .ok (.getfield 163, 3) := by decide +kernel
theorem dX9_has_103 : decode cX9_has 103 = .ok (.ireturn, 1) := by decide +kernel
theorem dX9_has_104 : decode cX9_has 104 = .ok (.aload_n 0, 1) := by decide +kernel
theorem dX9_has_105 : decode cX9_has 105 = .ok (.getfield 37, 3) := by decide +kernel
theorem dX9_has_108 : decode cX9_has 108 = .ok (.getfield 166, 3) := by decide +kernel
theorem dX9_has_111 : decode cX9_has 111 = .ok (.ireturn, 1) := by decide +kernel
theorem dX9_has_112 : decode cX9_has 112 = .ok (.iconst (-1), 1) := by decide +kernel
theorem dX9_has_113 : decode cX9_has 113 = .ok (.ireturn, 1) := by decide +kernel
theorem dX9_hold_0 : decode cX9_hold 0 = .ok (.aload_n 0, 1) := by decide +kernel
theorem dX9_hold_1 : decode cX9_hold 1 = .ok (.invokevirtual 218, 3) := by decide +kernel
theorem dX9_hold_4 : decode cX9_hold 4 = .ok (.ifCond .ne 5, 3) := by decide +kernel
theorem dX9_hold_7 : decode cX9_hold 7 = .ok (.iconst (-1), 1) := by decide +kernel
theorem dX9_hold_8 : decode cX9_hold 8 = .ok (.ireturn, 1) := by decide +kernel
theorem dX9_image_0 : decode cX9_image 0 = .ok (.aload_n 0, 1) := by decide +kernel
theorem dX9_image_1 : decode cX9_image 1 = .ok (.getfield 89, 3) := by decide +kernel
theorem dX9_image_4 : decode cX9_image 4 = .ok (.iconst 0, 1) := by decide +kernel
theorem dX9_image_5 : decode cX9_image 5 = .ok (.aload_n 0, 1) := by decide +kernel
theorem dX9_image_6 : decode cX9_image 6 = .ok (.getfield 30, 3) := by decide +kernel
theorem dX9_image_9 : decode cX9_image 9 = .ok (.getfield 154, 3) := by decide +kernel
theorem dX9_image_12 : decode cX9_image 12 = .ok (.bipush 8, 2) := by decide +kernel
theorem dX9_image_14 : decode cX9_image 14 = .ok (.ishr, 1) := by decide +kernel
theorem dX9_image_15 : decode cX9_image 15 = .ok (.iastore, 1) := by decide +kernel
theorem dX9_image_16 : decode cX9_image 16 = .ok (.aload_n 0, 1) := by decide +kernel
theorem dX9_image_17 : decode cX9_image 17 = .ok (.getfield 89, 3) := by decide +kernel
theorem dX9_image_20 : decode cX9_image 20 = .ok (.iconst 1, 1) := by decide +kernel
theorem dX9_image_21 : decode cX9_image 21 = .ok (.aload_n 0, 1) := by decide +kernel
theorem dX9_image_22 : decode cX9_image 22 = .ok (.getfield 30, 3) := by decide +kernel
theorem dX9_image_25 : decode cX9_image 25 = .ok (.getfield 154, 3) := by decide +kernel
theorem dX9_image_28 : decode cX9_image 28 = .ok (.sipush 255, 3) := by decide +kernel
theorem dX9_image_31 : decode cX9_image 31 = .ok (.iand, 1) := by decide +kernel
theorem dX9_image_32 : decode cX9_image 32 = .ok (.iastore, 1) := by decide +kernel
theorem dX9_image_33 : decode cX9_image 33 = .ok (.aload_n 0, 1) := by decide +kernel
theorem dX9_image_34 : decode cX9_image 34 = .ok (.getfield 89, 3) := by decide +kernel
theorem dX9_image_37 : decode cX9_image 37 = .ok (.iconst 2, 1) := by decide +kernel
theorem dX9_image_38 : decode cX9_image 38 = .ok (.aload_n 0, 1) := by decide +kernel
theorem dX9_image_39 : decode cX9_image 39 = .ok (.getfield 30, 3) := by decide +kernel
theorem dX9_image_42 : decode cX9_image 42 = .ok (.getfield 157, 3) := by decide +kernel
theorem dX9_image_45 : decode cX9_image 45 = .ok (.iastore, 1) := by decide +kernel
theorem dX9_image_46 : decode cX9_image 46 = .ok (.aload_n 0, 1) := by decide +kernel
theorem dX9_image_47 : decode cX9_image 47 = .ok (.getfield 89, 3) := by decide +kernel
theorem dX9_image_50 : decode cX9_image 50 = .ok (.iconst 3, 1) := by decide +kernel
theorem dX9_image_51 : decode cX9_image 51 = .ok (.aload_n 0, 1) := by decide +kernel
theorem dX9_image_52 : decode cX9_image 52 = .ok (.getfield 30, 3) := by decide +kernel
theorem dX9_image_55 : decode cX9_image 55 = .ok (.getfield 160, 3) := by decide +kernel
theorem dX9_image_58 : decode cX9_image 58 = .ok (.iastore, 1) := by decide +kernel
theorem dX9_image_59 : decode cX9_image 59 = .ok (.iconst 0, 1) := by decide +kernel
theorem dX9_image_60 : decode cX9_image 60 = .ok (.istore_n 1, 1) := by decide +kernel
theorem dX9_image_61 : decode cX9_image 61 = .ok (.iload_n 1, 1) := by decide +kernel
theorem dX9_image_62 : decode cX9_image 62 = .ok (.aload_n 0, 1) := by decide +kernel
theorem dX9_image_63 : decode cX9_image 63 = .ok (.getfield 20, 3) := by decide +kernel
theorem dX9_image_66 : decode cX9_image 66 = .ok (.getfield 148, 3) := by decide +kernel
theorem dX9_image_69 : decode cX9_image 69 = .ok (.if_icmp .ge 26, 3) := by decide +kernel
theorem dX9_image_95 : decode cX9_image 95 = .ok (.iconst 4, 1) := by decide +kernel
theorem dX9_image_96 : decode cX9_image 96 = .ok (.aload_n 0, 1) := by decide +kernel
theorem dX9_image_97 : decode cX9_image 97 = .ok (.getfield 20, 3) := by decide +kernel
theorem dX9_image_100 : decode cX9_image 100 = .ok (.getfield 148, 3) := by decide +kernel
theorem dX9_image_103 : decode cX9_image 103 = .ok (.iadd, 1) := by decide +kernel
theorem dX9_image_104 : decode cX9_image 104 = .ok (.istore_n 1, 1) := by decide +kernel
theorem dX9_image_105 : decode cX9_image 105 = .ok (.aload_n 0, 1) := by decide +kernel
theorem dX9_image_106 : decode cX9_image 106 = .ok (.getfield 89, 3) := by decide +kernel
theorem dX9_image_109 : decode cX9_image 109 = .ok (.iload_n 1, 1) := by decide +kernel
theorem dX9_image_110 : decode cX9_image 110 = .ok (.aload_n 0, 1) := by decide +kernel
theorem dX9_image_111 : decode cX9_image 111 = .ok (.getfield 89, 3) := by decide +kernel
theorem dX9_image_114 : decode cX9_image 114 = .ok (.iload_n 1, 1) := by decide +kernel
theorem dX9_image_115 : decode cX9_image 115 = .ok (.invokestatic 319, 3) := by decide +kernel
theorem dX9_image_118 : decode cX9_image 118 = .ok (.iastore, 1) := by decide +kernel
theorem dX9_image_119 : decode cX9_image 119 = .ok (.aload_n 0, 1) := by decide +kernel
theorem dX9_image_120 : decode cX9_image 120 = .ok (.iload_n 1, 1) := by decide +kernel
theorem dX9_image_121 : decode cX9_image 121 = .ok (.iconst 1, 1) := by decide +kernel
theorem dX9_image_122 : decode cX9_image 122 = .ok (.iadd, 1) := by decide +kernel
theorem dX9_image_123 : decode cX9_image 123 = .ok (.putfield 92, 3) := by decide +kernel
theorem dX9_image_126 : decode cX9_image 126 = .ok (.aload_n 0, 1) := by decide +kernel
theorem dX9_image_127 : decode cX9_image 127 = .ok (.getfield 92, 3) := by decide +kernel
theorem dX9_image_130 : decode cX9_image 130 = .ok (.ireturn, 1) := by decide +kernel
theorem dX9_init_0 : decode cX9_init 0 = .ok (.aload_n 0, 1) := by decide +kernel
theorem dX9_init_1 : decode cX9_init 1 = .ok (.invokespecial 1, 3) := by decide +kernel
theorem dX9_init_4 : decode cX9_init 4 = .ok (.aload_n 0, 1) := by decide +kernel
theorem dX9_init_5 : decode cX9_init 5 = .ok (.sipush 1600, 3) := by decide +kernel
theorem dX9_init_8 : decode cX9_init 8 = .ok (.newarray .int, 2) := by decide +kernel
theorem dX9_init_10 : decode cX9_init 10 = .ok (.putfield 9, 3) := by decide +kernel
theorem dX9_init_13 : decode cX9_init 13 = .ok (.aload_n 0, 1) := by decide +kernel
theorem dX9_init_14 : decode cX9_init 14 = .ok (.iconst 0, 1) := by decide +kernel
theorem dX9_init_15 : decode cX9_init 15 = .ok (.putfield 13, 3) := by decide +kernel
theorem dX9_init_18 : decode cX9_init 18 = .ok (.aload_n 0, 1) := by decide +kernel
theorem dX9_init_19 : decode cX9_init 19 = .ok (.new 17, 3) := by decide +kernel
theorem dX9_init_22 : decode cX9_init 22 = .ok (.dup, 1) := by decide +kernel
theorem dX9_init_23 : decode cX9_init 23 = .ok (.invokespecial 19, 3) := by decide +kernel
theorem dX9_init_26 : decode cX9_init 26 = .ok (.putfield 20, 3) := by decide +kernel
theorem dX9_init_29 : decode cX9_init 29 = .ok (.aload_n 0, 1) := by decide +kernel
theorem dX9_init_30 : decode cX9_init 30 = .ok (.new 17, 3) := by decide +kernel
theorem dX9_init_33 : decode cX9_init 33 = .ok (.dup, 1) := by decide +kernel
theorem dX9_init_34 : decode cX9_init 34 = .ok (.invokespecial 19, 3) := by decide +kernel
theorem dX9_init_37 : decode cX9_init 37 = .ok (.putfield 24, 3) := by decide +kernel
theorem dX9_init_40 : decode cX9_init 40 = .ok (.aload_n 0, 1) := by decide +kernel
theorem dX9_init_41 : decode cX9_init 41 = .ok (.new 27, 3) := by decide +kernel
theorem dX9_init_44 : decode cX9_init 44 = .ok (.dup, 1) := by decide +kernel
theorem dX9_init_45 : decode cX9_init 45 = .ok (.invokespecial 29, 3) := by decide +kernel
theorem dX9_init_48 : decode cX9_init 48 = .ok (.putfield 30, 3) := by decide +kernel
theorem dX9_init_51 : decode cX9_init 51 = .ok (.aload_n 0, 1) := by decide +kernel
theorem dX9_init_52 : decode cX9_init 52 = .ok (.new 34, 3) := by decide +kernel
theorem dX9_init_55 : decode cX9_init 55 = .ok (.dup, 1) := by decide +kernel
theorem dX9_init_56 : decode cX9_init 56 = .ok (.invokespecial 36, 3) := by decide +kernel
theorem dX9_init_59 : decode cX9_init 59 = .ok (.putfield 37, 3) := by decide +kernel
theorem dX9_init_62 : decode cX9_init 62 = .ok (.aload_n 0, 1) := by decide +kernel
theorem dX9_init_63 : decode cX9_init 63 = .ok (.new 41, 3) := by decide +kernel
theorem dX9_init_66 : decode cX9_init 66 = .ok (.dup, 1) := by decide +kernel
theorem dX9_init_67 : decode cX9_init 67 = .ok (.invokespecial 43, 3) := by decide +kernel
theorem dX9_init_70 : decode cX9_init 70 = .ok (.putfield 44, 3) := by decide +kernel
theorem dX9_init_73 : decode cX9_init 73 = .ok (.aload_n 0, 1) := by decide +kernel
theorem dX9_init_74 : decode cX9_init 74 = .ok (.new 48, 3) := by decide +kernel
theorem dX9_init_77 : decode cX9_init 77 = .ok (.dup, 1) := by decide +kernel
theorem dX9_init_78 : decode cX9_init 78 = .ok (.aload_n 0, 1) := by decide +kernel
theorem dX9_init_79 : decode cX9_init 79 = .ok (.getfield 9, 3) := by decide +kernel
theorem dX9_init_82 : decode cX9_init 82 = .ok (.aload_n 0, 1) := by decide +kernel
theorem dX9_init_83 : decode cX9_init 83 = .ok (.getfield 24, 3) := by decide +kernel
theorem dX9_init_86 : decode cX9_init 86 = .ok (.invokespecial 50, 3) := by decide +kernel
theorem dX9_init_89 : decode cX9_init 89 = .ok (.putfield 53, 3) := by decide +kernel
theorem dX9_init_92 : decode cX9_init 92 = .ok (.aload_n 0, 1) := by decide +kernel
theorem dX9_init_93 : decode cX9_init 93 = .ok (.new 57, 3) := by decide +kernel
theorem dX9_init_96 : decode cX9_init 96 = .ok (.dup, 1) := by decide +kernel
theorem dX9_init_97 : decode cX9_init 97 = .ok (.aload_n 0, 1) := by decide +kernel
theorem dX9_init_98 : decode cX9_init 98 = .ok (.getfield 44, 3) := by decide +kernel
theorem dX9_init_101 : decode cX9_init 101 = .ok (.aload_n 0, 1) := by decide +kernel
theorem dX9_init_102 : decode cX9_init 102 = .ok (.getfield 20, 3) := by decide +kernel
theorem dX9_init_105 : decode cX9_init 105 = .ok (.invokespecial 59, 3) := by decide +kernel
theorem dX9_init_108 : decode cX9_init 108 = .ok (.putfield 62, 3) := by decide +kernel
theorem dX9_init_111 : decode cX9_init 111 = .ok (.aload_n 0, 1) := by decide +kernel
theorem dX9_init_112 : decode cX9_init 112 = .ok (.new 66, 3) := by decide +kernel
theorem dX9_init_115 : decode cX9_init 115 = .ok (.dup, 1) := by decide +kernel
theorem dX9_init_116 : decode cX9_init 116 = .ok (.aload_n 0, 1) := by decide +kernel
theorem dX9_init_117 : decode cX9_init 117 = .ok (.getfield 62, 3) := by decide +kernel
theorem dX9_init_120 : decode cX9_init 120 = .ok (.invokespecial 68, 3) := by decide +kernel
theorem dX9_init_123 : decode cX9_init 123 = .ok (.putfield 71, 3) := by decide +kernel
theorem dX9_init_126 : decode cX9_init 126 = .ok (.aload_n 0, 1) := by decide +kernel
theorem dX9_init_127 : decode cX9_init 127 = .ok (.new 75, 3) := by decide +kernel
theorem dX9_init_130 : decode cX9_init 130 = .ok (.dup, 1) := by decide +kernel
theorem dX9_init_131 : decode cX9_init 131 = .ok (.aload_n 0, 1) := by decide +kernel
theorem dX9_init_132 : decode cX9_init 132 = .ok (.getfield 62, 3) := by decide +kernel
theorem dX9_init_135 : decode cX9_init 135 = .ok (.invokespecial 77, 3) := by decide +kernel
theorem dX9_init_138 : decode cX9_init 138 = .ok (.putfield 78, 3) := by decide +kernel
theorem dX9_init_141 : decode cX9_init 141 = .ok (.aload_n 0, 1) := by decide +kernel
theorem dX9_init_142 : decode cX9_init 142 = .ok (.new 82, 3) := by decide +kernel
theorem dX9_init_145 : decode cX9_init 145 = .ok (.dup, 1) := by decide +kernel
theorem dX9_init_146 : decode cX9_init 146 = .ok (.aload_n 0, 1) := by decide +kernel
theorem dX9_init_147 : decode cX9_init 147 = .ok (.getfield 62, 3) := by decide +kernel
theorem dX9_init_150 : decode cX9_init 150 = .ok (.invokespecial 84, 3) := by decide +kernel
theorem dX9_init_153 : decode cX9_init 153 = .ok (.putfield 85, 3) := by decide +kernel
theorem dX9_init_156 : decode cX9_init 156 = .ok (.aload_n 0, 1) := by decide +kernel
theorem dX9_init_157 : decode cX9_init 157 = .ok (.bipush 11, 2) := by decide +kernel
theorem dX9_init_159 : decode cX9_init 159 = .ok (.newarray .int, 2) := by decide +kernel
theorem dX9_init_161 : decode cX9_init 161 = .ok (.putfield 89, 3) := by decide +kernel
theorem dX9_init_164 : decode cX9_init 164 = .ok (.aload_n 0, 1) := by decide +kernel
theorem dX9_init_165 : decode cX9_init 165 = .ok (.iconst 0, 1) := by decide +kernel
theorem dX9_init_166 : decode cX9_init 166 = .ok (.putfield 92, 3) := by decide +kernel
theorem dX9_init_169 : decode cX9_init 169 = .ok (.aload_n 0, 1) := by decide +kernel
theorem dX9_init_170 : decode cX9_init 170 = .ok (.bipush 6, 2) := by decide +kernel
theorem dX9_init_172 : decode cX9_init 172 = .ok (.newarray .int, 2) := by decide +kernel
theorem dX9_init_174 : decode cX9_init 174 = .ok (.putfield 95, 3) := by decide +kernel
theorem dX9_init_177 : decode cX9_init 177 = .ok (.aload_n 0, 1) := by decide +kernel
theorem dX9_init_178 : decode cX9_init 178 = .ok (.lconst 1, 1) := by decide +kernel
theorem dX9_init_179 : decode cX9_init 179 = .ok (.putfield 98, 3) := by decide +kernel
theorem dX9_init_182 : decode cX9_init 182 = .ok (.return_, 1) := by decide +kernel
theorem dX9_isImage_0 : decode cX9_isImage 0 = .ok (.aload_n 0, 1) := by decide +kernel
theorem dX9_isImage_1 : decode cX9_isImage 1 = .ok (.invokevirtual 218, 3) := by decide +kernel
theorem dX9_isImage_4 : decode cX9_isImage 4 = .ok (.ifCond .eq 16, 3) := by decide +kernel
theorem dX9_isImage_20 : decode cX9_isImage 20 = .ok (.iconst 0, 1) := by decide +kernel
theorem dX9_isImage_21 : decode cX9_isImage 21 = .ok (.ireturn, 1) := by decide +kernel
theorem dX9_isKind_0 : decode cX9_isKind 0 = .ok (.iload_n 1, 1) := by decide +kernel
theorem dX9_isKind_1 : decode cX9_isKind 1 = .ok (.ifCond .lt 18, 3) := by decide +kernel
theorem dX9_isKind_4 : decode cX9_isKind 4 = .ok (.iload_n 1, 1) := by decide +kernel
theorem dX9_isKind_5 : decode cX9_isKind 5 = .ok (.aload_n 0, 1) := by decide +kernel
theorem dX9_isKind_6 : decode cX9_isKind 6 = .ok (.getfield 20, 3) := by decide +kernel
theorem dX9_isKind_9 : decode cX9_isKind 9 = .ok (.getfield 148, 3) := by decide +kernel
theorem dX9_isKind_12 : decode cX9_isKind 12 = .ok (.if_icmp .ge 7, 3) := by decide +kernel
theorem dX9_isKind_19 : decode cX9_isKind 19 = .ok (.iconst 0, 1) := by decide +kernel
theorem dX9_isKind_20 : decode cX9_isKind 20 = .ok (.ireturn, 1) := by decide +kernel
theorem dX9_isWalker_0 : decode cX9_isWalker 0 = .ok (.iload_n 1, 1) := by decide +kernel
theorem dX9_isWalker_1 : decode cX9_isWalker 1 = .ok (.ifCond .lt 18, 3) := by decide +kernel
theorem dX9_isWalker_4 : decode cX9_isWalker 4 = .ok (.iload_n 1, 1) := by decide +kernel
theorem dX9_isWalker_5 : decode cX9_isWalker 5 = .ok (.aload_n 0, 1) := by decide +kernel
theorem dX9_isWalker_6 : decode cX9_isWalker 6 = .ok (.getfield 20, 3) := by decide +kernel
theorem dX9_isWalker_9 : decode cX9_isWalker 9 = .ok (.getfield 151, 3) := by decide +kernel
theorem dX9_isWalker_12 : decode cX9_isWalker 12 = .ok (.if_icmp .ge 7, 3) := by decide +kernel
theorem dX9_isWalker_19 : decode cX9_isWalker 19 = .ok (.iconst 0, 1) := by decide +kernel
theorem dX9_isWalker_20 : decode cX9_isWalker 20 = .ok (.ireturn, 1) := by decide +kernel
theorem dX9_kind_0 : decode cX9_kind 0 = .ok (.aload_n 0, 1) := by decide +kernel
theorem dX9_kind_1 : decode cX9_kind 1 = .ok (.iload_n 1, 1) := by decide +kernel
theorem dX9_kind_2 : decode cX9_kind 2 = .ok (.invokevirtual 169, 3) := by decide +kernel
theorem dX9_kind_5 : decode cX9_kind 5 = .ok (.ifCond .ne 5, 3) := by decide +kernel
theorem dX9_kind_8 : decode cX9_kind 8 = .ok (.iconst (-1), 1) := by decide +kernel
theorem dX9_kind_9 : decode cX9_kind 9 = .ok (.ireturn, 1) := by decide +kernel
theorem dX9_later_0 : decode cX9_later 0 = .ok (.aload_n 0, 1) := by decide +kernel
theorem dX9_later_1 : decode cX9_later 1 = .ok (.invokevirtual 218, 3) := by decide +kernel
theorem dX9_later_4 : decode cX9_later 4 = .ok (.ifCond .eq 28, 3) := by decide +kernel
theorem dX9_later_32 : decode cX9_later 32 = .ok (.iconst (-1), 1) := by decide +kernel
theorem dX9_later_33 : decode cX9_later 33 = .ok (.ireturn, 1) := by decide +kernel
theorem dX9_least_0 : decode cX9_least 0 = .ok (.aload_n 0, 1) := by decide +kernel
theorem dX9_least_1 : decode cX9_least 1 = .ok (.invokevirtual 218, 3) := by decide +kernel
theorem dX9_least_4 : decode cX9_least 4 = .ok (.ifCond .eq 17, 3) := by decide +kernel
theorem dX9_least_21 : decode cX9_least 21 = .ok (.iconst (-1), 1) := by decide +kernel
theorem dX9_least_22 : decode cX9_least 22 = .ok (.ireturn, 1) := by decide +kernel
theorem dX9_letter_0 : decode cX9_letter 0 = .ok (.iload_n 1, 1) := by decide +kernel
theorem dX9_letter_1 : decode cX9_letter 1 = .ok (.ifCond .ne 11, 3) := by decide +kernel
theorem dX9_letter_4 : decode cX9_letter 4 = .ok (.aload_n 0, 1) := by decide +kernel
theorem dX9_letter_5 : decode cX9_letter 5 = .ok (.iload_n 2, 1) := by decide +kernel
theorem dX9_letter_6 : decode cX9_letter 6 = .ok (.invokevirtual 169, 3) := by decide +kernel
theorem dX9_letter_9 : decode cX9_letter 9 = .ok (.ifCond .ne 16, 3) := by decide +kernel
theorem dX9_letter_12 : decode cX9_letter 12 = .ok (.iload_n 1, 1) := by decide +kernel
theorem dX9_letter_13 : decode cX9_letter 13 = .ok (.iconst 1, 1) := by decide +kernel
theorem dX9_letter_14 : decode cX9_letter 14 = .ok (.if_icmp .ne 15, 3) := by decide +kernel
theorem dX9_letter_17 : decode cX9_letter 17 = .ok (.aload_n 0, 1) := by decide +kernel
theorem dX9_letter_18 : decode cX9_letter 18 = .ok (.iload_n 2, 1) := by decide +kernel
theorem dX9_letter_19 : decode cX9_letter 19 = .ok (.invokevirtual 172, 3) := by decide +kernel
theorem dX9_letter_22 : decode cX9_letter 22 = .ok (.ifCond .eq 7, 3) := by decide +kernel
theorem dX9_letter_29 : decode cX9_letter 29 = .ok (.iconst 0, 1) := by decide +kernel
theorem dX9_letter_30 : decode cX9_letter 30 = .ok (.istore 4, 2) := by decide +kernel
theorem dX9_letter_32 : decode cX9_letter 32 = .ok (.iload 4, 2) := by decide +kernel
theorem dX9_letter_34 : decode cX9_letter 34 = .ok (.ifCond .eq 13, 3) := by decide +kernel
theorem dX9_letter_47 : decode cX9_letter 47 = .ok (.iconst (-1), 1) := by decide +kernel
theorem dX9_letter_48 : decode cX9_letter 48 = .ok (.ireturn, 1) := by decide +kernel
theorem dX9_light_0 : decode cX9_light 0 = .ok (.aload_n 0, 1) := by decide +kernel
theorem dX9_light_1 : decode cX9_light 1 = .ok (.invokevirtual 218, 3) := by decide +kernel
theorem dX9_light_4 : decode cX9_light 4 = .ok (.ifCond .eq 14, 3) := by decide +kernel
theorem dX9_light_18 : decode cX9_light 18 = .ok (.iconst (-1), 1) := by decide +kernel
theorem dX9_light_19 : decode cX9_light 19 = .ok (.ireturn, 1) := by decide +kernel
theorem dX9_octet_0 : decode cX9_octet 0 = .ok (.iload_n 1, 1) := by decide +kernel
theorem dX9_octet_1 : decode cX9_octet 1 = .ok (.ifCond .lt 20, 3) := by decide +kernel
theorem dX9_octet_4 : decode cX9_octet 4 = .ok (.iload_n 1, 1) := by decide +kernel
theorem dX9_octet_5 : decode cX9_octet 5 = .ok (.aload_n 0, 1) := by decide +kernel
theorem dX9_octet_6 : decode cX9_octet 6 = .ok (.getfield 92, 3) := by decide +kernel
theorem dX9_octet_9 : decode cX9_octet 9 = .ok (.if_icmp .ge 12, 3) := by decide +kernel
theorem dX9_octet_21 : decode cX9_octet 21 = .ok (.iconst (-1), 1) := by decide +kernel
theorem dX9_octet_22 : decode cX9_octet 22 = .ok (.ireturn, 1) := by decide +kernel
theorem dX9_on_0 : decode cX9_on 0 = .ok (.aload_n 0, 1) := by decide +kernel
theorem dX9_on_1 : decode cX9_on 1 = .ok (.invokevirtual 114, 3) := by decide +kernel
theorem dX9_on_4 : decode cX9_on 4 = .ok (.istore_n 1, 1) := by decide +kernel
theorem dX9_on_5 : decode cX9_on 5 = .ok (.aload_n 0, 1) := by decide +kernel
theorem dX9_on_6 : decode cX9_on 6 = .ok (.iload_n 1, 1) := by decide +kernel
theorem dX9_on_7 : decode cX9_on 7 = .ok (.invokevirtual 322, 3) := by decide +kernel
theorem dX9_on_10 : decode cX9_on 10 = .ok (.ifCond .ne 9, 3) := by decide +kernel
theorem dX9_on_13 : decode cX9_on 13 = .ok (.aload_n 0, 1) := by decide +kernel
theorem dX9_on_14 : decode cX9_on 14 = .ok (.iconst 5, 1) := by decide +kernel
theorem dX9_on_15 : decode cX9_on 15 = .ok (.invokevirtual 110, 3) := by decide +kernel
theorem dX9_on_18 : decode cX9_on 18 = .ok (.ireturn, 1) := by decide +kernel
theorem dX9_putBytes_0 : decode cX9_putBytes 0 = .ok (.bipush 24, 2) := by decide +kernel
theorem dX9_putBytes_2 : decode cX9_putBytes 2 = .ok (.istore_n 2, 1) := by decide +kernel
theorem dX9_putBytes_3 : decode cX9_putBytes 3 = .ok (.iload_n 2, 1) := by decide +kernel
theorem dX9_putBytes_4 : decode cX9_putBytes 4 = .ok (.ifCond .lt 35, 3) := by decide +kernel
theorem dX9_putBytes_7 : decode cX9_putBytes 7 = .ok (.aload_n 0, 1) := by decide +kernel
theorem dX9_putBytes_8 : decode cX9_putBytes 8 = .ok (.getfield 9, 3) := by decide +kernel
theorem dX9_putBytes_11 : decode cX9_putBytes 11 = .ok (.aload_n 0, 1) := by decide +kernel
theorem dX9_putBytes_12 : decode cX9_putBytes 12 = .ok (.getfield 13, 3) := by decide +kernel
theorem dX9_putBytes_15 : decode cX9_putBytes 15 = .ok (.iload_n 1, 1) := by decide +kernel
theorem dX9_putBytes_16 : decode cX9_putBytes 16 = .ok (.iload_n 2, 1) := by decide +kernel
theorem dX9_putBytes_17 : decode cX9_putBytes 17 = .ok (.ishr, 1) := by decide +kernel
theorem dX9_putBytes_18 : decode cX9_putBytes 18 = .ok (.sipush 255, 3) := by decide +kernel
theorem dX9_putBytes_21 : decode cX9_putBytes 21 = .ok (.iand, 1) := by decide +kernel
theorem dX9_putBytes_22 : decode cX9_putBytes 22 = .ok (.iastore, 1) := by decide +kernel
theorem dX9_putBytes_23 : decode cX9_putBytes 23 = .ok (.aload_n 0, 1) := by decide +kernel
theorem dX9_putBytes_24 : decode cX9_putBytes 24 = .ok (.dup, 1) := by decide +kernel
theorem dX9_putBytes_25 : decode cX9_putBytes 25 = .ok (.getfield 13, 3) := by decide +kernel
theorem dX9_putBytes_28 : decode cX9_putBytes 28 = .ok (.iconst 1, 1) := by decide +kernel
theorem dX9_putBytes_29 : decode cX9_putBytes 29 = .ok (.iadd, 1) := by decide +kernel
theorem dX9_putBytes_30 : decode cX9_putBytes 30 = .ok (.putfield 13, 3) := by decide +kernel
theorem dX9_putBytes_33 : decode cX9_putBytes 33 = .ok (.iinc 2 (-8), 3) := by decide +kernel
theorem dX9_putBytes_36 : decode cX9_putBytes 36 = .ok (.goto (-33), 3) := by decide +kernel
theorem dX9_putBytes_39 : decode cX9_putBytes 39 = .ok (.return_, 1) := by decide +kernel
theorem dX9_refuse_0 : decode cX9_refuse 0 = .ok (.aload_n 0, 1) := by decide +kernel
theorem dX9_refuse_1 : decode cX9_refuse 1 = .ok (.getfield 95, 3) := by decide +kernel
theorem dX9_refuse_4 : decode cX9_refuse 4 = .ok (.iload_n 1, 1) := by decide +kernel
theorem dX9_refuse_5 : decode cX9_refuse 5 = .ok (.dup2, 1) := by decide +kernel
theorem dX9_refuse_6 : decode cX9_refuse 6 = .ok (.iaload, 1) := by decide +kernel
theorem dX9_refuse_7 : decode cX9_refuse 7 = .ok (.iconst 1, 1) := by decide +kernel
theorem dX9_refuse_8 : decode cX9_refuse 8 = .ok (.iadd, 1) := by decide +kernel
theorem dX9_refuse_9 : decode cX9_refuse 9 = .ok (.iastore, 1) := by decide +kernel
theorem dX9_refuse_10 : decode cX9_refuse 10 = .ok (.iconst (-1), 1) := by decide +kernel
theorem dX9_refuse_11 : decode cX9_refuse 11 = .ok (.ireturn, 1) := by decide +kernel
theorem dX9_rule_0 : decode cX9_rule 0 = .ok (.aload_n 0, 1) := by decide +kernel
theorem dX9_rule_1 : decode cX9_rule 1 = .ok (.invokevirtual 218, 3) := by decide +kernel
theorem dX9_rule_4 : decode cX9_rule 4 = .ok (.ifCond .eq 23, 3) := by decide +kernel
theorem dX9_rule_27 : decode cX9_rule 27 = .ok (.aload_n 0, 1) := by decide +kernel
theorem dX9_rule_28 : decode cX9_rule 28 = .ok (.iconst 2, 1) := by decide +kernel
theorem dX9_rule_29 : decode cX9_rule 29 = .ok (.invokevirtual 110, 3) := by decide +kernel
theorem dX9_rule_32 : decode cX9_rule 32 = .ok (.ireturn, 1) := by decide +kernel
theorem dX9_see_0 : decode cX9_see 0 = .ok (.aload_n 0, 1) := by decide +kernel
theorem dX9_see_1 : decode cX9_see 1 = .ok (.invokevirtual 114, 3) := by decide +kernel
theorem dX9_see_4 : decode cX9_see 4 = .ok (.istore_n 1, 1) := by decide +kernel
theorem dX9_see_5 : decode cX9_see 5 = .ok (.aload_n 0, 1) := by decide +kernel
theorem dX9_see_6 : decode cX9_see 6 = .ok (.getfield 85, 3) := by decide +kernel
theorem dX9_see_9 : decode cX9_see 9 = .ok (.aload_n 0, 1) := by decide +kernel
theorem dX9_see_10 : decode cX9_see 10 = .ok (.getfield 9, 3) := by decide +kernel
theorem dX9_see_13 : decode cX9_see 13 = .ok (.iload_n 1, 1) := by decide +kernel
theorem dX9_see_14 : decode cX9_see 14 = .ok (.aload_n 0, 1) := by decide +kernel
theorem dX9_see_15 : decode cX9_see 15 = .ok (.getfield 20, 3) := by decide +kernel
theorem dX9_see_18 : decode cX9_see 18 = .ok (.getfield 151, 3) := by decide +kernel
theorem dX9_see_21 : decode cX9_see 21 = .ok (.invokevirtual 254, 3) := by decide +kernel
theorem dX9_see_24 : decode cX9_see 24 = .ok (.ifCond .ne 9, 3) := by decide +kernel
theorem dX9_see_27 : decode cX9_see 27 = .ok (.aload_n 0, 1) := by decide +kernel
theorem dX9_see_28 : decode cX9_see 28 = .ok (.iconst 1, 1) := by decide +kernel
theorem dX9_see_29 : decode cX9_see 29 = .ok (.invokevirtual 102, 3) := by decide +kernel
theorem dX9_see_32 : decode cX9_see 32 = .ok (.ireturn, 1) := by decide +kernel
theorem dX9_seed_0 : decode cX9_seed 0 = .ok (.iload_n 1, 1) := by decide +kernel
theorem dX9_seed_1 : decode cX9_seed 1 = .ok (.ifCond .ge 9, 3) := by decide +kernel
theorem dX9_seed_4 : decode cX9_seed 4 = .ok (.aload_n 0, 1) := by decide +kernel
theorem dX9_seed_5 : decode cX9_seed 5 = .ok (.iconst 5, 1) := by decide +kernel
theorem dX9_seed_6 : decode cX9_seed 6 = .ok (.invokevirtual 110, 3) := by decide +kernel
theorem dX9_seed_9 : decode cX9_seed 9 = .ok (.ireturn, 1) := by decide +kernel
theorem dX9_seed_10 : decode cX9_seed 10 = .ok (.aload_n 0, 1) := by decide +kernel
theorem dX9_seed_11 : decode cX9_seed 11 = .ok (.iload_n 1, 1) := by decide +kernel
theorem dX9_seed_12 : decode cX9_seed 12 = .ok (.i2l, 1) := by decide +kernel
theorem dX9_seed_13 : decode cX9_seed 13 = .ok (.putfield 98, 3) := by decide +kernel
theorem dX9_seed_16 : decode cX9_seed 16 = .ok (.iconst 1, 1) := by decide +kernel
theorem dX9_seed_17 : decode cX9_seed 17 = .ok (.ireturn, 1) := by decide +kernel
theorem dX9_stands_0 : decode cX9_stands 0 = .ok (.aload_n 0, 1) := by decide +kernel
theorem dX9_stands_1 : decode cX9_stands 1 = .ok (.getfield 20, 3) := by decide +kernel
theorem dX9_stands_4 : decode cX9_stands 4 = .ok (.getfield 145, 3) := by decide +kernel
theorem dX9_stands_7 : decode cX9_stands 7 = .ok (.ifCond .le 7, 3) := by decide +kernel
theorem dX9_stands_14 : decode cX9_stands 14 = .ok (.iconst 0, 1) := by decide +kernel
theorem dX9_stands_15 : decode cX9_stands 15 = .ok (.ireturn, 1) := by decide +kernel
theorem dX9_status_0 : decode cX9_status 0 = .ok (.iload_n 1, 1) := by decide +kernel
theorem dX9_status_1 : decode cX9_status 1 = .ok (.ifCond .lt 18, 3) := by decide +kernel
theorem dX9_status_4 : decode cX9_status 4 = .ok (.iload_n 1, 1) := by decide +kernel
theorem dX9_status_5 : decode cX9_status 5 = .ok (.bipush 6, 2) := by decide +kernel
theorem dX9_status_7 : decode cX9_status 7 = .ok (.if_icmp .ge 12, 3) := by decide +kernel
theorem dX9_status_10 : decode cX9_status 10 = .ok (.aload_n 0, 1) := by decide +kernel
theorem dX9_status_11 : decode cX9_status 11 = .ok (.getfield 95, 3) := by decide +kernel
theorem dX9_status_14 : decode cX9_status 14 = .ok (.iload_n 1, 1) := by decide +kernel
theorem dX9_status_15 : decode cX9_status 15 = .ok (.iaload, 1) := by decide +kernel
theorem dX9_status_16 : decode cX9_status 16 = .ok (.goto 4, 3) := by decide +kernel
theorem dX9_status_19 : decode cX9_status 19 = .ok (.iconst (-1), 1) := by decide +kernel
theorem dX9_status_20 : decode cX9_status 20 = .ok (.ireturn, 1) := by decide +kernel
theorem dX9_takeTape_0 : decode cX9_takeTape 0 = .ok (.aload_n 0, 1) := by decide +kernel
theorem dX9_takeTape_1 : decode cX9_takeTape 1 = .ok (.getfield 13, 3) := by decide +kernel
theorem dX9_takeTape_4 : decode cX9_takeTape 4 = .ok (.istore_n 1, 1) := by decide +kernel
theorem dX9_takeTape_5 : decode cX9_takeTape 5 = .ok (.aload_n 0, 1) := by decide +kernel
theorem dX9_takeTape_6 : decode cX9_takeTape 6 = .ok (.iconst 0, 1) := by decide +kernel
theorem dX9_takeTape_7 : decode cX9_takeTape 7 = .ok (.putfield 13, 3) := by decide +kernel
theorem dX9_takeTape_10 : decode cX9_takeTape 10 = .ok (.iload_n 1, 1) := by decide +kernel
theorem dX9_takeTape_11 : decode cX9_takeTape 11 = .ok (.ireturn, 1) := by decide +kernel
theorem dX9_trust_0 : decode cX9_trust 0 = .ok (.aload_n 0, 1) := by decide +kernel
theorem dX9_trust_1 : decode cX9_trust 1 = .ok (.iload_n 1, 1) := by decide +kernel
theorem dX9_trust_2 : decode cX9_trust 2 = .ok (.invokevirtual 169, 3) := by decide +kernel
theorem dX9_trust_5 : decode cX9_trust 5 = .ok (.ifCond .eq 26, 3) := by decide +kernel
theorem dX9_trust_31 : decode cX9_trust 31 = .ok (.aload_n 0, 1) := by decide +kernel
theorem dX9_trust_32 : decode cX9_trust 32 = .ok (.iconst 2, 1) := by decide +kernel
theorem dX9_trust_33 : decode cX9_trust 33 = .ok (.invokevirtual 110, 3) := by decide +kernel
theorem dX9_trust_36 : decode cX9_trust 36 = .ok (.ireturn, 1) := by decide +kernel
theorem dX9_undo_0 : decode cX9_undo 0 = .ok (.aload_n 0, 1) := by decide +kernel
theorem dX9_undo_1 : decode cX9_undo 1 = .ok (.getfield 37, 3) := by decide +kernel
theorem dX9_undo_4 : decode cX9_undo 4 = .ok (.aload_n 0, 1) := by decide +kernel
theorem dX9_undo_5 : decode cX9_undo 5 = .ok (.getfield 30, 3) := by decide +kernel
theorem dX9_undo_8 : decode cX9_undo 8 = .ok (.invokevirtual 305, 3) := by decide +kernel
theorem dX9_undo_11 : decode cX9_undo 11 = .ok (.ifCond .ne 9, 3) := by decide +kernel
theorem dX9_undo_14 : decode cX9_undo 14 = .ok (.aload_n 0, 1) := by decide +kernel
theorem dX9_undo_15 : decode cX9_undo 15 = .ok (.iconst 4, 1) := by decide +kernel
theorem dX9_undo_16 : decode cX9_undo 16 = .ok (.invokevirtual 110, 3) := by decide +kernel
theorem dX9_undo_19 : decode cX9_undo 19 = .ok (.ireturn, 1) := by decide +kernel
theorem dX9_walker_0 : decode cX9_walker 0 = .ok (.aload_n 0, 1) := by decide +kernel
theorem dX9_walker_1 : decode cX9_walker 1 = .ok (.iload_n 1, 1) := by decide +kernel
theorem dX9_walker_2 : decode cX9_walker 2 = .ok (.invokevirtual 172, 3) := by decide +kernel
theorem dX9_walker_5 : decode cX9_walker 5 = .ok (.ifCond .ne 5, 3) := by decide +kernel
theorem dX9_walker_8 : decode cX9_walker 8 = .ok (.iconst (-1), 1) := by decide +kernel
theorem dX9_walker_9 : decode cX9_walker 9 = .ok (.ireturn, 1) := by decide +kernel
theorem dX9_watched_0 : decode cX9_watched 0 = .ok (.aload_n 0, 1) := by decide +kernel
theorem dX9_watched_1 : decode cX9_watched 1 = .ok (.invokevirtual 218, 3) := by decide +kernel
theorem dX9_watched_4 : decode cX9_watched 4 = .ok (.ifCond .ne 5, 3) := by decide +kernel
theorem dX9_watched_7 : decode cX9_watched 7 = .ok (.iconst (-1), 1) := by decide +kernel
theorem dX9_watched_8 : decode cX9_watched 8 = .ok (.ireturn, 1) := by decide +kernel
