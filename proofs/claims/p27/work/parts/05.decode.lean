theorem dX0_forget_0 : decode cX0_forget 0 = .ok (.aload_n 0, 1) := by decide +kernel
theorem dX0_forget_1 : decode cX0_forget 1 = .ok (.iconst 0, 1) := by decide +kernel
theorem dX0_forget_2 : decode cX0_forget 2 = .ok (.putfield 25, 3) := by decide +kernel
theorem dX0_forget_5 : decode cX0_forget 5 = .ok (.return_, 1) := by decide +kernel
theorem dX1_forget_0 : decode cX1_forget 0 = .ok (.aload_n 0, 1) := by decide +kernel
theorem dX1_forget_1 : decode cX1_forget 1 = .ok (.iconst 0, 1) := by decide +kernel
theorem dX1_forget_2 : decode cX1_forget 2 = .ok (.putfield 15, 3) := by decide +kernel
theorem dX1_forget_5 : decode cX1_forget 5 = .ok (.return_, 1) := by decide +kernel
theorem dX4_allowsGreen_0 : decode cX4_allowsGreen 0 = .ok (.iload_n 1, 1) := by decide +kernel
theorem dX4_allowsGreen_1 : decode cX4_allowsGreen 1 = .ok (.iconst 1, 1) := by decide +kernel
theorem dX4_allowsGreen_2 : decode cX4_allowsGreen 2 = .ok (.if_icmp .lt 21, 3) := by decide +kernel
theorem dX4_allowsGreen_5 : decode cX4_allowsGreen 5 = .ok (.iload_n 1, 1) := by decide +kernel
theorem dX4_allowsGreen_6 : decode cX4_allowsGreen 6 = .ok (.bipush 60, 2) := by decide +kernel
theorem dX4_allowsGreen_8 : decode cX4_allowsGreen 8 = .ok (.if_icmp .gt 15, 3) := by decide +kernel
theorem dX4_allowsGreen_11 : decode cX4_allowsGreen 11 = .ok (.iload_n 1, 1) := by decide +kernel
theorem dX4_allowsGreen_12 : decode cX4_allowsGreen 12 = .ok (.aload_n 0, 1) := by decide +kernel
theorem dX4_allowsGreen_13 : decode cX4_allowsGreen 13 = .ok (.getfield 39, 3) := by decide +kernel
theorem dX4_allowsGreen_16 : decode cX4_allowsGreen 16 = .ok (.if_icmp .ge 7, 3) := by decide +kernel
theorem dX4_allowsGreen_19 : decode cX4_allowsGreen 19 = .ok (.iconst 1, 1) := by decide +kernel
theorem dX4_allowsGreen_20 : decode cX4_allowsGreen 20 = .ok (.goto 4, 3) := by decide +kernel
theorem dX4_allowsGreen_23 : decode cX4_allowsGreen 23 = .ok (.iconst 0, 1) := by decide +kernel
theorem dX4_allowsGreen_24 : decode cX4_allowsGreen 24 = .ok (.ireturn, 1) := by decide +kernel
theorem dX4_comersIn_0 : decode cX4_comersIn 0 = .ok (.iload_n 1, 1) := by decide +kernel
theorem dX4_comersIn_1 : decode cX4_comersIn 1 = .ok (.ifCond .lt 19, 3) := by decide +kernel
theorem dX4_comersIn_4 : decode cX4_comersIn 4 = .ok (.iload_n 1, 1) := by decide +kernel
theorem dX4_comersIn_5 : decode cX4_comersIn 5 = .ok (.sipush 200, 3) := by decide +kernel
theorem dX4_comersIn_8 : decode cX4_comersIn 8 = .ok (.if_icmp .ge 12, 3) := by decide +kernel
theorem dX4_comersIn_11 : decode cX4_comersIn 11 = .ok (.aload_n 0, 1) := by decide +kernel
theorem dX4_comersIn_12 : decode cX4_comersIn 12 = .ok (.getfield 27, 3) := by decide +kernel
theorem dX4_comersIn_15 : decode cX4_comersIn 15 = .ok (.iload_n 1, 1) := by decide +kernel
theorem dX4_comersIn_16 : decode cX4_comersIn 16 = .ok (.iaload, 1) := by decide +kernel
theorem dX4_comersIn_17 : decode cX4_comersIn 17 = .ok (.goto 4, 3) := by decide +kernel
theorem dX4_comersIn_20 : decode cX4_comersIn 20 = .ok (.iconst 0, 1) := by decide +kernel
theorem dX4_comersIn_21 : decode cX4_comersIn 21 = .ok (.ireturn, 1) := by decide +kernel
theorem dX4_everyone_0 : decode cX4_everyone 0 = .ok (.iconst 1, 1) := by decide +kernel
theorem dX4_everyone_1 : decode cX4_everyone 1 = .ok (.aload_n 0, 1) := by decide +kernel
theorem dX4_everyone_2 : decode cX4_everyone 2 = .ok (.getfield 52, 3) := by decide +kernel
theorem dX4_everyone_5 : decode cX4_everyone 5 = .ok (.ishl, 1) := by decide +kernel
theorem dX4_everyone_6 : decode cX4_everyone 6 = .ok (.iconst 1, 1) := by decide +kernel
theorem dX4_everyone_7 : decode cX4_everyone 7 = .ok (.isub, 1) := by decide +kernel
theorem dX4_everyone_8 : decode cX4_everyone 8 = .ok (.ireturn, 1) := by decide +kernel
theorem dX4_walkersOf_0 : decode cX4_walkersOf 0 = .ok (.iconst 0, 1) := by decide +kernel
theorem dX4_walkersOf_1 : decode cX4_walkersOf 1 = .ok (.istore_n 2, 1) := by decide +kernel
theorem dX4_walkersOf_2 : decode cX4_walkersOf 2 = .ok (.iconst 0, 1) := by decide +kernel
theorem dX4_walkersOf_3 : decode cX4_walkersOf 3 = .ok (.istore_n 3, 1) := by decide +kernel
theorem dX4_walkersOf_4 : decode cX4_walkersOf 4 = .ok (.iload_n 3, 1) := by decide +kernel
theorem dX4_walkersOf_5 : decode cX4_walkersOf 5 = .ok (.aload_n 0, 1) := by decide +kernel
theorem dX4_walkersOf_6 : decode cX4_walkersOf 6 = .ok (.getfield 52, 3) := by decide +kernel
theorem dX4_walkersOf_9 : decode cX4_walkersOf 9 = .ok (.if_icmp .ge 25, 3) := by decide +kernel
theorem dX4_walkersOf_12 : decode cX4_walkersOf 12 = .ok (.aload_n 0, 1) := by decide +kernel
theorem dX4_walkersOf_13 : decode cX4_walkersOf 13 = .ok (.getfield 21, 3) := by decide +kernel
theorem dX4_walkersOf_16 : decode cX4_walkersOf 16 = .ok (.iload_n 3, 1) := by decide +kernel
theorem dX4_walkersOf_17 : decode cX4_walkersOf 17 = .ok (.iaload, 1) := by decide +kernel
theorem dX4_walkersOf_18 : decode cX4_walkersOf 18 = .ok (.iload_n 1, 1) := by decide +kernel
theorem dX4_walkersOf_19 : decode cX4_walkersOf 19 = .ok (.if_icmp .ne 9, 3) := by decide +kernel
theorem dX4_walkersOf_22 : decode cX4_walkersOf 22 = .ok (.iload_n 2, 1) := by decide +kernel
theorem dX4_walkersOf_23 : decode cX4_walkersOf 23 = .ok (.iconst 1, 1) := by decide +kernel
theorem dX4_walkersOf_24 : decode cX4_walkersOf 24 = .ok (.iload_n 3, 1) := by decide +kernel
theorem dX4_walkersOf_25 : decode cX4_walkersOf 25 = .ok (.ishl, 1) := by decide +kernel
theorem dX4_walkersOf_26 : decode cX4_walkersOf 26 = .ok (.ior, 1) := by decide +kernel
theorem dX4_walkersOf_27 : decode cX4_walkersOf 27 = .ok (.istore_n 2, 1) := by decide +kernel
theorem dX4_walkersOf_28 : decode cX4_walkersOf 28 = .ok (.iinc 3 1, 3) := by decide +kernel
theorem dX4_walkersOf_31 : decode cX4_walkersOf 31 = .ok (.goto (-27), 3) := by decide +kernel
theorem dX4_walkersOf_34 : decode cX4_walkersOf 34 = .ok (.iload_n 2, 1) := by decide +kernel
theorem dX4_walkersOf_35 : decode cX4_walkersOf 35 = .ok (.ireturn, 1) := by decide +kernel
theorem dX5_emit_0 : decode cX5_emit 0 = .ok (.aload_n 0, 1) := by decide +kernel
theorem dX5_emit_1 : decode cX5_emit 1 = .ok (.getfield 37, 3) := by decide +kernel
theorem dX5_emit_4 : decode cX5_emit 4 = .ok (.getfield 165, 3) := by decide +kernel
theorem dX5_emit_7 : decode cX5_emit 7 = .ok (.aload_n 0, 1) := by decide +kernel
theorem dX5_emit_8 : decode cX5_emit 8 = .ok (.getfield 37, 3) := by decide +kernel
theorem dX5_emit_11 : decode cX5_emit 11 = .ok (.getfield 241, 3) := by decide +kernel
theorem dX5_emit_14 : decode cX5_emit 14 = .ok (.arraylength, 1) := by decide +kernel
theorem dX5_emit_15 : decode cX5_emit 15 = .ok (.if_icmp .ge 32, 3) := by decide +kernel
theorem dX5_emit_18 : decode cX5_emit 18 = .ok (.aload_n 0, 1) := by decide +kernel
theorem dX5_emit_19 : decode cX5_emit 19 = .ok (.getfield 37, 3) := by decide +kernel
theorem dX5_emit_22 : decode cX5_emit 22 = .ok (.getfield 241, 3) := by decide +kernel
theorem dX5_emit_25 : decode cX5_emit 25 = .ok (.aload_n 0, 1) := by decide +kernel
theorem dX5_emit_26 : decode cX5_emit 26 = .ok (.getfield 37, 3) := by decide +kernel
theorem dX5_emit_29 : decode cX5_emit 29 = .ok (.getfield 165, 3) := by decide +kernel
theorem dX5_emit_32 : decode cX5_emit 32 = .ok (.iload_n 1, 1) := by decide +kernel
theorem dX5_emit_33 : decode cX5_emit 33 = .ok (.iastore, 1) := by decide +kernel
theorem dX5_emit_34 : decode cX5_emit 34 = .ok (.aload_n 0, 1) := by decide +kernel
theorem dX5_emit_35 : decode cX5_emit 35 = .ok (.getfield 37, 3) := by decide +kernel
theorem dX5_emit_38 : decode cX5_emit 38 = .ok (.dup, 1) := by decide +kernel
theorem dX5_emit_39 : decode cX5_emit 39 = .ok (.getfield 165, 3) := by decide +kernel
theorem dX5_emit_42 : decode cX5_emit 42 = .ok (.iconst 1, 1) := by decide +kernel
theorem dX5_emit_43 : decode cX5_emit 43 = .ok (.iadd, 1) := by decide +kernel
theorem dX5_emit_44 : decode cX5_emit 44 = .ok (.putfield 165, 3) := by decide +kernel
theorem dX5_emit_47 : decode cX5_emit 47 = .ok (.return_, 1) := by decide +kernel
theorem dX5_fail_0 : decode cX5_fail 0 = .ok (.aload_n 0, 1) := by decide +kernel
theorem dX5_fail_1 : decode cX5_fail 1 = .ok (.getfield 27, 3) := by decide +kernel
theorem dX5_fail_4 : decode cX5_fail 4 = .ok (.ifCond .ne 13, 3) := by decide +kernel
theorem dX5_fail_7 : decode cX5_fail 7 = .ok (.aload_n 0, 1) := by decide +kernel
theorem dX5_fail_8 : decode cX5_fail 8 = .ok (.iload_n 1, 1) := by decide +kernel
theorem dX5_fail_9 : decode cX5_fail 9 = .ok (.putfield 27, 3) := by decide +kernel
theorem dX5_fail_12 : decode cX5_fail 12 = .ok (.aload_n 0, 1) := by decide +kernel
theorem dX5_fail_13 : decode cX5_fail 13 = .ok (.iload_n 2, 1) := by decide +kernel
theorem dX5_fail_14 : decode cX5_fail 14 = .ok (.putfield 30, 3) := by decide +kernel
theorem dX5_fail_17 : decode cX5_fail 17 = .ok (.aload_n 0, 1) := by decide +kernel
theorem dX5_fail_18 : decode cX5_fail 18 = .ok (.aload_n 0, 1) := by decide +kernel
theorem dX5_fail_19 : decode cX5_fail 19 = .ok (.getfield 11, 3) := by decide +kernel
theorem dX5_fail_22 : decode cX5_fail 22 = .ok (.putfield 15, 3) := by decide +kernel
theorem dX5_fail_25 : decode cX5_fail 25 = .ok (.aload_n 0, 1) := by decide +kernel
theorem dX5_fail_26 : decode cX5_fail 26 = .ok (.aload_n 0, 1) := by decide +kernel
theorem dX5_fail_27 : decode cX5_fail 27 = .ok (.getfield 11, 3) := by decide +kernel
theorem dX5_fail_30 : decode cX5_fail 30 = .ok (.putfield 18, 3) := by decide +kernel
theorem dX5_fail_33 : decode cX5_fail 33 = .ok (.aload_n 0, 1) := by decide +kernel
theorem dX5_fail_34 : decode cX5_fail 34 = .ok (.iconst 0, 1) := by decide +kernel
theorem dX5_fail_35 : decode cX5_fail 35 = .ok (.putfield 21, 3) := by decide +kernel
theorem dX5_fail_38 : decode cX5_fail 38 = .ok (.return_, 1) := by decide +kernel
theorem dX5_sortOf_0 : decode cX5_sortOf 0 = .ok (.iload_n 1, 1) := by decide +kernel
theorem dX5_sortOf_1 : decode cX5_sortOf 1 = .ok (.ifCond .lt 11, 3) := by decide +kernel
theorem dX5_sortOf_4 : decode cX5_sortOf 4 = .ok (.iload_n 1, 1) := by decide +kernel
theorem dX5_sortOf_5 : decode cX5_sortOf 5 = .ok (.aload_n 0, 1) := by decide +kernel
theorem dX5_sortOf_6 : decode cX5_sortOf 6 = .ok (.getfield 11, 3) := by decide +kernel
theorem dX5_sortOf_9 : decode cX5_sortOf 9 = .ok (.if_icmp .lt 5, 3) := by decide +kernel
theorem dX5_sortOf_12 : decode cX5_sortOf 12 = .ok (.iconst 0, 1) := by decide +kernel
theorem dX5_sortOf_13 : decode cX5_sortOf 13 = .ok (.ireturn, 1) := by decide +kernel
theorem dX5_sortOf_14 : decode cX5_sortOf 14 = .ok (.aload_n 0, 1) := by decide +kernel
theorem dX5_sortOf_15 : decode cX5_sortOf 15 = .ok (.getfield 33, 3) := by decide +kernel
theorem dX5_sortOf_18 : decode cX5_sortOf 18 = .ok (.iload_n 1, 1) := by decide +kernel
theorem dX5_sortOf_19 : decode cX5_sortOf 19 = .ok (.iaload, 1) := by decide +kernel
theorem dX5_sortOf_20 : decode cX5_sortOf 20 = .ok (.bipush 97, 2) := by decide +kernel
theorem dX5_sortOf_22 : decode cX5_sortOf 22 = .ok (.if_icmp .lt 16, 3) := by decide +kernel
theorem dX5_sortOf_25 : decode cX5_sortOf 25 = .ok (.aload_n 0, 1) := by decide +kernel
theorem dX5_sortOf_26 : decode cX5_sortOf 26 = .ok (.getfield 33, 3) := by decide +kernel
theorem dX5_sortOf_29 : decode cX5_sortOf 29 = .ok (.iload_n 1, 1) := by decide +kernel
theorem dX5_sortOf_30 : decode cX5_sortOf 30 = .ok (.iaload, 1) := by decide +kernel
theorem dX5_sortOf_31 : decode cX5_sortOf 31 = .ok (.bipush 122, 2) := by decide +kernel
theorem dX5_sortOf_33 : decode cX5_sortOf 33 = .ok (.if_icmp .gt 5, 3) := by decide +kernel
theorem dX5_sortOf_36 : decode cX5_sortOf 36 = .ok (.iconst 1, 1) := by decide +kernel
theorem dX5_sortOf_37 : decode cX5_sortOf 37 = .ok (.ireturn, 1) := by decide +kernel
theorem dX5_sortOf_38 : decode cX5_sortOf 38 = .ok (.aload_n 0, 1) := by decide +kernel
theorem dX5_sortOf_39 : decode cX5_sortOf 39 = .ok (.getfield 33, 3) := by decide +kernel
theorem dX5_sortOf_42 : decode cX5_sortOf 42 = .ok (.iload_n 1, 1) := by decide +kernel
theorem dX5_sortOf_43 : decode cX5_sortOf 43 = .ok (.iaload, 1) := by decide +kernel
theorem dX5_sortOf_44 : decode cX5_sortOf 44 = .ok (.bipush 48, 2) := by decide +kernel
theorem dX5_sortOf_46 : decode cX5_sortOf 46 = .ok (.if_icmp .lt 18, 3) := by decide +kernel
theorem dX5_sortOf_49 : decode cX5_sortOf 49 = .ok (.aload_n 0, 1) := by decide +kernel
theorem dX5_sortOf_50 : decode cX5_sortOf 50 = .ok (.getfield 33, 3) := by decide +kernel
theorem dX5_sortOf_53 : decode cX5_sortOf 53 = .ok (.iload_n 1, 1) := by decide +kernel
theorem dX5_sortOf_54 : decode cX5_sortOf 54 = .ok (.iaload, 1) := by decide +kernel
theorem dX5_sortOf_55 : decode cX5_sortOf 55 = .ok (.bipush 57, 2) := by decide +kernel
theorem dX5_sortOf_57 : decode cX5_sortOf 57 = .ok (.if_icmp .gt 7, 3) := by decide +kernel
theorem dX5_sortOf_60 : decode cX5_sortOf 60 = .ok (.iconst 2, 1) := by decide +kernel
theorem dX5_sortOf_61 : decode cX5_sortOf 61 = .ok (.goto 4, 3) := by decide +kernel
theorem dX5_sortOf_64 : decode cX5_sortOf 64 = .ok (.iconst 3, 1) := by decide +kernel
theorem dX5_sortOf_65 : decode cX5_sortOf 65 = .ok (.ireturn, 1) := by decide +kernel
theorem dX7_allCross_0 : decode cX7_allCross 0 = .ok (.aload_n 0, 1) := by decide +kernel
theorem dX7_allCross_1 : decode cX7_allCross 1 = .ok (.getfield 50, 3) := by decide +kernel
theorem dX7_allCross_4 : decode cX7_allCross 4 = .ok (.aload_n 0, 1) := by decide +kernel
theorem dX7_allCross_5 : decode cX7_allCross 5 = .ok (.getfield 63, 3) := by decide +kernel
theorem dX7_allCross_8 : decode cX7_allCross 8 = .ok (.invokevirtual 143, 3) := by decide +kernel
theorem dX7_allCross_11 : decode cX7_allCross 11 = .ok (.if_icmp .ne 7, 3) := by decide +kernel
theorem dX7_allCross_14 : decode cX7_allCross 14 = .ok (.iconst 1, 1) := by decide +kernel
theorem dX7_allCross_15 : decode cX7_allCross 15 = .ok (.goto 4, 3) := by decide +kernel
theorem dX7_allCross_18 : decode cX7_allCross 18 = .ok (.iconst 0, 1) := by decide +kernel
theorem dX7_allCross_19 : decode cX7_allCross 19 = .ok (.ireturn, 1) := by decide +kernel
theorem dX7_someoneCrosses_0 : decode cX7_someoneCrosses 0 = .ok (.iconst 0, 1) := by decide +kernel
theorem dX7_someoneCrosses_1 : decode cX7_someoneCrosses 1 = .ok (.istore_n 2, 1) := by decide +kernel
theorem dX7_someoneCrosses_2 : decode cX7_someoneCrosses 2 = .ok (.iload_n 2, 1) := by decide +kernel
theorem dX7_someoneCrosses_3 : decode cX7_someoneCrosses 3 = .ok (.aload_n 0, 1) := by decide +kernel
theorem dX7_someoneCrosses_4 : decode cX7_someoneCrosses 4 = .ok (.getfield 63, 3) := by decide +kernel
theorem dX7_someoneCrosses_7 : decode cX7_someoneCrosses 7 = .ok (.getfield 137, 3) := by decide +kernel
theorem dX7_someoneCrosses_10 : decode cX7_someoneCrosses 10 = .ok (.if_icmp .ge 33, 3) := by decide +kernel
theorem dX7_someoneCrosses_13 : decode cX7_someoneCrosses 13 = .ok (.aload_n 0, 1) := by decide +kernel
theorem dX7_someoneCrosses_14 : decode cX7_someoneCrosses 14 = .ok (.getfield 44, 3) := by decide +kernel
theorem dX7_someoneCrosses_17 : decode cX7_someoneCrosses 17 = .ok (.iload_n 2, 1) := by decide +kernel
theorem dX7_someoneCrosses_18 : decode cX7_someoneCrosses 18 = .ok (.iaload, 1) := by decide +kernel
theorem dX7_someoneCrosses_19 : decode cX7_someoneCrosses 19 = .ok (.iload_n 1, 1) := by decide +kernel
theorem dX7_someoneCrosses_20 : decode cX7_someoneCrosses 20 = .ok (.if_icmp .ne 17, 3) := by decide +kernel
theorem dX7_someoneCrosses_23 : decode cX7_someoneCrosses 23 = .ok (.aload_n 0, 1) := by decide +kernel
theorem dX7_someoneCrosses_24 : decode cX7_someoneCrosses 24 = .ok (.getfield 50, 3) := by decide +kernel
theorem dX7_someoneCrosses_27 : decode cX7_someoneCrosses 27 = .ok (.iload_n 2, 1) := by decide +kernel
theorem dX7_someoneCrosses_28 : decode cX7_someoneCrosses 28 = .ok (.ishr, 1) := by decide +kernel
theorem dX7_someoneCrosses_29 : decode cX7_someoneCrosses 29 = .ok (.iconst 1, 1) := by decide +kernel
theorem dX7_someoneCrosses_30 : decode cX7_someoneCrosses 30 = .ok (.iand, 1) := by decide +kernel
theorem dX7_someoneCrosses_31 : decode cX7_someoneCrosses 31 = .ok (.iconst 1, 1) := by decide +kernel
theorem dX7_someoneCrosses_32 : decode cX7_someoneCrosses 32 = .ok (.if_icmp .ne 5, 3) := by decide +kernel
theorem dX7_someoneCrosses_35 : decode cX7_someoneCrosses 35 = .ok (.iconst 1, 1) := by decide +kernel
theorem dX7_someoneCrosses_36 : decode cX7_someoneCrosses 36 = .ok (.ireturn, 1) := by decide +kernel
theorem dX7_someoneCrosses_37 : decode cX7_someoneCrosses 37 = .ok (.iinc 2 1, 3) := by decide +kernel
theorem dX7_someoneCrosses_40 : decode cX7_someoneCrosses 40 = .ok (.goto (-38), 3) := by decide +kernel
theorem dX7_someoneCrosses_43 : decode cX7_someoneCrosses 43 = .ok (.iconst 0, 1) := by decide +kernel
theorem dX7_someoneCrosses_44 : decode cX7_someoneCrosses 44 = .ok (.ireturn, 1) := by decide +kernel
theorem dX7_waitedBy_0 : decode cX7_waitedBy 0 = .ok (.aload_n 0, 1) := by decide +kernel
theorem dX7_waitedBy_1 : decode cX7_waitedBy 1 = .ok (.getfield 44, 3) := by decide +kernel
theorem dX7_waitedBy_4 : decode cX7_waitedBy 4 = .ok (.iload_n 1, 1) := by decide +kernel
theorem dX7_waitedBy_5 : decode cX7_waitedBy 5 = .ok (.iaload, 1) := by decide +kernel
theorem dX7_waitedBy_6 : decode cX7_waitedBy 6 = .ok (.iconst (-1), 1) := by decide +kernel
theorem dX7_waitedBy_7 : decode cX7_waitedBy 7 = .ok (.if_icmp .ne 9, 3) := by decide +kernel
theorem dX7_waitedBy_10 : decode cX7_waitedBy 10 = .ok (.sipush 300, 3) := by decide +kernel
theorem dX7_waitedBy_13 : decode cX7_waitedBy 13 = .ok (.goto 9, 3) := by decide +kernel
theorem dX7_waitedBy_16 : decode cX7_waitedBy 16 = .ok (.aload_n 0, 1) := by decide +kernel
theorem dX7_waitedBy_17 : decode cX7_waitedBy 17 = .ok (.getfield 44, 3) := by decide +kernel
theorem dX7_waitedBy_20 : decode cX7_waitedBy 20 = .ok (.iload_n 1, 1) := by decide +kernel
theorem dX7_waitedBy_21 : decode cX7_waitedBy 21 = .ok (.iaload, 1) := by decide +kernel
theorem dX7_waitedBy_22 : decode cX7_waitedBy 22 = .ok (.aload_n 0, 1) := by decide +kernel
theorem dX7_waitedBy_23 : decode cX7_waitedBy 23 = .ok (.getfield 63, 3) := by decide +kernel
theorem dX7_waitedBy_26 : decode cX7_waitedBy 26 = .ok (.getfield 153, 3) := by decide +kernel
theorem dX7_waitedBy_29 : decode cX7_waitedBy 29 = .ok (.iload_n 1, 1) := by decide +kernel
theorem dX7_waitedBy_30 : decode cX7_waitedBy 30 = .ok (.iaload, 1) := by decide +kernel
theorem dX7_waitedBy_31 : decode cX7_waitedBy 31 = .ok (.isub, 1) := by decide +kernel
theorem dX7_waitedBy_32 : decode cX7_waitedBy 32 = .ok (.ireturn, 1) := by decide +kernel
theorem dX7_waitedByAll_0 : decode cX7_waitedByAll 0 = .ok (.iconst 0, 1) := by decide +kernel
theorem dX7_waitedByAll_1 : decode cX7_waitedByAll 1 = .ok (.istore_n 1, 1) := by decide +kernel
theorem dX7_waitedByAll_2 : decode cX7_waitedByAll 2 = .ok (.iconst 0, 1) := by decide +kernel
theorem dX7_waitedByAll_3 : decode cX7_waitedByAll 3 = .ok (.istore_n 2, 1) := by decide +kernel
theorem dX7_waitedByAll_4 : decode cX7_waitedByAll 4 = .ok (.iload_n 2, 1) := by decide +kernel
theorem dX7_waitedByAll_5 : decode cX7_waitedByAll 5 = .ok (.aload_n 0, 1) := by decide +kernel
theorem dX7_waitedByAll_6 : decode cX7_waitedByAll 6 = .ok (.getfield 63, 3) := by decide +kernel
theorem dX7_waitedByAll_9 : decode cX7_waitedByAll 9 = .ok (.getfield 137, 3) := by decide +kernel
theorem dX7_waitedByAll_12 : decode cX7_waitedByAll 12 = .ok (.if_icmp .ge 28, 3) := by decide +kernel
theorem dX7_waitedByAll_15 : decode cX7_waitedByAll 15 = .ok (.aload_n 0, 1) := by decide +kernel
theorem dX7_waitedByAll_16 : decode cX7_waitedByAll 16 = .ok (.getfield 25, 3) := by decide +kernel
theorem dX7_waitedByAll_19 : decode cX7_waitedByAll 19 = .ok (.iload_n 2, 1) := by decide +kernel
theorem dX7_waitedByAll_20 : decode cX7_waitedByAll 20 = .ok (.ishr, 1) := by decide +kernel
theorem dX7_waitedByAll_21 : decode cX7_waitedByAll 21 = .ok (.iconst 1, 1) := by decide +kernel
theorem dX7_waitedByAll_22 : decode cX7_waitedByAll 22 = .ok (.iand, 1) := by decide +kernel
theorem dX7_waitedByAll_23 : decode cX7_waitedByAll 23 = .ok (.ifCond .ne 11, 3) := by decide +kernel
theorem dX7_waitedByAll_26 : decode cX7_waitedByAll 26 = .ok (.iload_n 1, 1) := by decide +kernel
theorem dX7_waitedByAll_27 : decode cX7_waitedByAll 27 = .ok (.aload_n 0, 1) := by decide +kernel
theorem dX7_waitedByAll_28 : decode cX7_waitedByAll 28 = .ok (.iload_n 2, 1) := by decide +kernel
theorem dX7_waitedByAll_29 : decode cX7_waitedByAll 29 = .ok (.invokevirtual 163, 3) := by decide +kernel
theorem dX7_waitedByAll_32 : decode cX7_waitedByAll 32 = .ok (.iadd, 1) := by decide +kernel
theorem dX7_waitedByAll_33 : decode cX7_waitedByAll 33 = .ok (.istore_n 1, 1) := by decide +kernel
theorem dX7_waitedByAll_34 : decode cX7_waitedByAll 34 = .ok (.iinc 2 1, 3) := by decide +kernel
theorem dX7_waitedByAll_37 : decode cX7_waitedByAll 37 = .ok (.goto (-33), 3) := by decide +kernel
theorem dX7_waitedByAll_40 : decode cX7_waitedByAll 40 = .ok (.iload_n 1, 1) := by decide +kernel
theorem dX7_waitedByAll_41 : decode cX7_waitedByAll 41 = .ok (.ireturn, 1) := by decide +kernel
theorem dX7_walkers_0 : decode cX7_walkers 0 = .ok (.aload_n 0, 1) := by decide +kernel
theorem dX7_walkers_1 : decode cX7_walkers 1 = .ok (.getfield 63, 3) := by decide +kernel
theorem dX7_walkers_4 : decode cX7_walkers 4 = .ok (.getfield 137, 3) := by decide +kernel
theorem dX7_walkers_7 : decode cX7_walkers 7 = .ok (.ireturn, 1) := by decide +kernel
theorem dX7_willing_0 : decode cX7_willing 0 = .ok (.iconst 0, 1) := by decide +kernel
theorem dX7_willing_1 : decode cX7_willing 1 = .ok (.istore_n 1, 1) := by decide +kernel
theorem dX7_willing_2 : decode cX7_willing 2 = .ok (.iconst 0, 1) := by decide +kernel
theorem dX7_willing_3 : decode cX7_willing 3 = .ok (.istore_n 2, 1) := by decide +kernel
theorem dX7_willing_4 : decode cX7_willing 4 = .ok (.iload_n 2, 1) := by decide +kernel
theorem dX7_willing_5 : decode cX7_willing 5 = .ok (.aload_n 0, 1) := by decide +kernel
theorem dX7_willing_6 : decode cX7_willing 6 = .ok (.getfield 63, 3) := by decide +kernel
theorem dX7_willing_9 : decode cX7_willing 9 = .ok (.getfield 137, 3) := by decide +kernel
theorem dX7_willing_12 : decode cX7_willing 12 = .ok (.if_icmp .ge 32, 3) := by decide +kernel
theorem dX7_willing_15 : decode cX7_willing 15 = .ok (.aload_n 0, 1) := by decide +kernel
theorem dX7_willing_16 : decode cX7_willing 16 = .ok (.getfield 15, 3) := by decide +kernel
theorem dX7_willing_19 : decode cX7_willing 19 = .ok (.aload_n 0, 1) := by decide +kernel
theorem dX7_willing_20 : decode cX7_willing 20 = .ok (.getfield 63, 3) := by decide +kernel
theorem dX7_willing_23 : decode cX7_willing 23 = .ok (.getfield 140, 3) := by decide +kernel
theorem dX7_willing_26 : decode cX7_willing 26 = .ok (.iload_n 2, 1) := by decide +kernel
theorem dX7_willing_27 : decode cX7_willing 27 = .ok (.iaload, 1) := by decide +kernel
theorem dX7_willing_28 : decode cX7_willing 28 = .ok (.iaload, 1) := by decide +kernel
theorem dX7_willing_29 : decode cX7_willing 29 = .ok (.ifCond .le 9, 3) := by decide +kernel
theorem dX7_willing_32 : decode cX7_willing 32 = .ok (.iload_n 1, 1) := by decide +kernel
theorem dX7_willing_33 : decode cX7_willing 33 = .ok (.iconst 1, 1) := by decide +kernel
theorem dX7_willing_34 : decode cX7_willing 34 = .ok (.iload_n 2, 1) := by decide +kernel
theorem dX7_willing_35 : decode cX7_willing 35 = .ok (.ishl, 1) := by decide +kernel
theorem dX7_willing_36 : decode cX7_willing 36 = .ok (.ior, 1) := by decide +kernel
theorem dX7_willing_37 : decode cX7_willing 37 = .ok (.istore_n 1, 1) := by decide +kernel
theorem dX7_willing_38 : decode cX7_willing 38 = .ok (.iinc 2 1, 3) := by decide +kernel
theorem dX7_willing_41 : decode cX7_willing 41 = .ok (.goto (-37), 3) := by decide +kernel
theorem dX7_willing_44 : decode cX7_willing 44 = .ok (.iload_n 1, 1) := by decide +kernel
theorem dX7_willing_45 : decode cX7_willing 45 = .ok (.aload_n 0, 1) := by decide +kernel
theorem dX7_willing_46 : decode cX7_willing 46 = .ok (.getfield 25, 3) := by decide +kernel
theorem dX7_willing_49 : decode cX7_willing 49 = .ok (.iconst (-1), 1) := by decide +kernel
theorem dX7_willing_50 : decode cX7_willing 50 = .ok (.ixor, 1) := by decide +kernel
theorem dX7_willing_51 : decode cX7_willing 51 = .ok (.iand, 1) := by decide +kernel
theorem dX7_willing_52 : decode cX7_willing 52 = .ok (.ireturn, 1) := by decide +kernel
theorem dX8_accepts_0 : decode cX8_accepts 0 = .ok (.iload_n 2, 1) := by decide +kernel
theorem dX8_accepts_1 : decode cX8_accepts 1 = .ok (.iconst 3, 1) := by decide +kernel
theorem dX8_accepts_2 : decode cX8_accepts 2 = .ok (.if_icmp .lt 15, 3) := by decide +kernel
theorem dX8_accepts_5 : decode cX8_accepts 5 = .ok (.iload_n 2, 1) := by decide +kernel
theorem dX8_accepts_6 : decode cX8_accepts 6 = .ok (.bipush 48, 2) := by decide +kernel
theorem dX8_accepts_8 : decode cX8_accepts 8 = .ok (.if_icmp .gt 9, 3) := by decide +kernel
theorem dX8_accepts_11 : decode cX8_accepts 11 = .ok (.iload_n 2, 1) := by decide +kernel
theorem dX8_accepts_12 : decode cX8_accepts 12 = .ok (.iconst 3, 1) := by decide +kernel
theorem dX8_accepts_13 : decode cX8_accepts 13 = .ok (.irem, 1) := by decide +kernel
theorem dX8_accepts_14 : decode cX8_accepts 14 = .ok (.ifCond .eq 5, 3) := by decide +kernel
theorem dX8_accepts_17 : decode cX8_accepts 17 = .ok (.iconst 0, 1) := by decide +kernel
theorem dX8_accepts_18 : decode cX8_accepts 18 = .ok (.ireturn, 1) := by decide +kernel
theorem dX8_accepts_19 : decode cX8_accepts 19 = .ok (.iconst 0, 1) := by decide +kernel
theorem dX8_accepts_20 : decode cX8_accepts 20 = .ok (.istore 4, 2) := by decide +kernel
theorem dX8_accepts_22 : decode cX8_accepts 22 = .ok (.iload 4, 2) := by decide +kernel
theorem dX8_accepts_24 : decode cX8_accepts 24 = .ok (.iload_n 2, 1) := by decide +kernel
theorem dX8_accepts_25 : decode cX8_accepts 25 = .ok (.if_icmp .ge 53, 3) := by decide +kernel
theorem dX8_accepts_28 : decode cX8_accepts 28 = .ok (.aload_n 1, 1) := by decide +kernel
theorem dX8_accepts_29 : decode cX8_accepts 29 = .ok (.iload 4, 2) := by decide +kernel
theorem dX8_accepts_31 : decode cX8_accepts 31 = .ok (.iconst 1, 1) := by decide +kernel
theorem dX8_accepts_32 : decode cX8_accepts 32 = .ok (.iadd, 1) := by decide +kernel
theorem dX8_accepts_33 : decode cX8_accepts 33 = .ok (.iaload, 1) := by decide +kernel
theorem dX8_accepts_34 : decode cX8_accepts 34 = .ok (.sipush 256, 3) := by decide +kernel
theorem dX8_accepts_37 : decode cX8_accepts 37 = .ok (.imul, 1) := by decide +kernel
theorem dX8_accepts_38 : decode cX8_accepts 38 = .ok (.aload_n 1, 1) := by decide +kernel
theorem dX8_accepts_39 : decode cX8_accepts 39 = .ok (.iload 4, 2) := by decide +kernel
theorem dX8_accepts_41 : decode cX8_accepts 41 = .ok (.iconst 2, 1) := by decide +kernel
theorem dX8_accepts_42 : decode cX8_accepts 42 = .ok (.iadd, 1) := by decide +kernel
theorem dX8_accepts_43 : decode cX8_accepts 43 = .ok (.iaload, 1) := by decide +kernel
theorem dX8_accepts_44 : decode cX8_accepts 44 = .ok (.iadd, 1) := by decide +kernel
theorem dX8_accepts_45 : decode cX8_accepts 45 = .ok (.istore 5, 2) := by decide +kernel
theorem dX8_accepts_47 : decode cX8_accepts 47 = .ok (.aload_n 1, 1) := by decide +kernel
theorem dX8_accepts_48 : decode cX8_accepts 48 = .ok (.iload 4, 2) := by decide +kernel
theorem dX8_accepts_50 : decode cX8_accepts 50 = .ok (.iaload, 1) := by decide +kernel
theorem dX8_accepts_51 : decode cX8_accepts 51 = .ok (.iload_n 3, 1) := by decide +kernel
theorem dX8_accepts_52 : decode cX8_accepts 52 = .ok (.if_icmp .ge 18, 3) := by decide +kernel
theorem dX8_accepts_55 : decode cX8_accepts 55 = .ok (.iload 5, 2) := by decide +kernel
theorem dX8_accepts_57 : decode cX8_accepts 57 = .ok (.sipush 300, 3) := by decide +kernel
theorem dX8_accepts_60 : decode cX8_accepts 60 = .ok (.if_icmp .lt 12, 3) := by decide +kernel
theorem dX8_accepts_63 : decode cX8_accepts 63 = .ok (.iload 5, 2) := by decide +kernel
theorem dX8_accepts_65 : decode cX8_accepts 65 = .ok (.ldc 48, 2) := by decide +kernel
theorem dX8_accepts_67 : decode cX8_accepts 67 = .ok (.if_icmp .eq 5, 3) := by decide +kernel
theorem dX8_accepts_70 : decode cX8_accepts 70 = .ok (.iconst 0, 1) := by decide +kernel
theorem dX8_accepts_71 : decode cX8_accepts 71 = .ok (.ireturn, 1) := by decide +kernel
theorem dX8_accepts_72 : decode cX8_accepts 72 = .ok (.iinc 4 3, 3) := by decide +kernel
theorem dX8_accepts_75 : decode cX8_accepts 75 = .ok (.goto (-53), 3) := by decide +kernel
theorem dX8_accepts_78 : decode cX8_accepts 78 = .ok (.iconst 1, 1) := by decide +kernel
theorem dX8_accepts_79 : decode cX8_accepts 79 = .ok (.ireturn, 1) := by decide +kernel
theorem dX8_forget_0 : decode cX8_forget 0 = .ok (.aload_n 0, 1) := by decide +kernel
theorem dX8_forget_1 : decode cX8_forget 1 = .ok (.iconst 0, 1) := by decide +kernel
theorem dX8_forget_2 : decode cX8_forget 2 = .ok (.putfield 22, 3) := by decide +kernel
theorem dX8_forget_5 : decode cX8_forget 5 = .ok (.return_, 1) := by decide +kernel
theorem dX8_isSo_0 : decode cX8_isSo 0 = .ok (.iconst 0, 1) := by decide +kernel
theorem dX8_isSo_1 : decode cX8_isSo 1 = .ok (.istore_n 1, 1) := by decide +kernel
theorem dX8_isSo_2 : decode cX8_isSo 2 = .ok (.iload_n 1, 1) := by decide +kernel
theorem dX8_isSo_3 : decode cX8_isSo 3 = .ok (.aload_n 0, 1) := by decide +kernel
theorem dX8_isSo_4 : decode cX8_isSo 4 = .ok (.getfield 18, 3) := by decide +kernel
theorem dX8_isSo_7 : decode cX8_isSo 7 = .ok (.if_icmp .ge 34, 3) := by decide +kernel
theorem dX8_isSo_10 : decode cX8_isSo 10 = .ok (.aload_n 0, 1) := by decide +kernel
theorem dX8_isSo_11 : decode cX8_isSo 11 = .ok (.getfield 44, 3) := by decide +kernel
theorem dX8_isSo_14 : decode cX8_isSo 14 = .ok (.getfield 63, 3) := by decide +kernel
theorem dX8_isSo_17 : decode cX8_isSo 17 = .ok (.aload_n 0, 1) := by decide +kernel
theorem dX8_isSo_18 : decode cX8_isSo 18 = .ok (.getfield 9, 3) := by decide +kernel
theorem dX8_isSo_21 : decode cX8_isSo 21 = .ok (.iload_n 1, 1) := by decide +kernel
theorem dX8_isSo_22 : decode cX8_isSo 22 = .ok (.iaload, 1) := by decide +kernel
theorem dX8_isSo_23 : decode cX8_isSo 23 = .ok (.iaload, 1) := by decide +kernel
theorem dX8_isSo_24 : decode cX8_isSo 24 = .ok (.aload_n 0, 1) := by decide +kernel
theorem dX8_isSo_25 : decode cX8_isSo 25 = .ok (.getfield 15, 3) := by decide +kernel
theorem dX8_isSo_28 : decode cX8_isSo 28 = .ok (.iload_n 1, 1) := by decide +kernel
theorem dX8_isSo_29 : decode cX8_isSo 29 = .ok (.iaload, 1) := by decide +kernel
theorem dX8_isSo_30 : decode cX8_isSo 30 = .ok (.if_icmp .eq 5, 3) := by decide +kernel
theorem dX8_isSo_33 : decode cX8_isSo 33 = .ok (.iconst 0, 1) := by decide +kernel
theorem dX8_isSo_34 : decode cX8_isSo 34 = .ok (.ireturn, 1) := by decide +kernel
theorem dX8_isSo_35 : decode cX8_isSo 35 = .ok (.iinc 1 1, 3) := by decide +kernel
theorem dX8_isSo_38 : decode cX8_isSo 38 = .ok (.goto (-36), 3) := by decide +kernel
theorem dX8_isSo_41 : decode cX8_isSo 41 = .ok (.iconst 1, 1) := by decide +kernel
theorem dX8_isSo_42 : decode cX8_isSo 42 = .ok (.ireturn, 1) := by decide +kernel
theorem dX9_canLive_0 : decode cX9_canLive 0 = .ok (.aload_n 0, 1) := by decide +kernel
theorem dX9_canLive_1 : decode cX9_canLive 1 = .ok (.invokevirtual 218, 3) := by decide +kernel
theorem dX9_canLive_4 : decode cX9_canLive 4 = .ok (.ifCond .eq 33, 3) := by decide +kernel
theorem dX9_canLive_7 : decode cX9_canLive 7 = .ok (.iload_n 1, 1) := by decide +kernel
theorem dX9_canLive_8 : decode cX9_canLive 8 = .ok (.iconst 1, 1) := by decide +kernel
theorem dX9_canLive_9 : decode cX9_canLive 9 = .ok (.if_icmp .lt 28, 3) := by decide +kernel
theorem dX9_canLive_12 : decode cX9_canLive 12 = .ok (.iload_n 1, 1) := by decide +kernel
theorem dX9_canLive_13 : decode cX9_canLive 13 = .ok (.bipush 30, 2) := by decide +kernel
theorem dX9_canLive_15 : decode cX9_canLive 15 = .ok (.if_icmp .gt 22, 3) := by decide +kernel
theorem dX9_canLive_18 : decode cX9_canLive 18 = .ok (.aload_n 0, 1) := by decide +kernel
theorem dX9_canLive_19 : decode cX9_canLive 19 = .ok (.getfield 30, 3) := by decide +kernel
theorem dX9_canLive_22 : decode cX9_canLive 22 = .ok (.getfield 154, 3) := by decide +kernel
theorem dX9_canLive_25 : decode cX9_canLive 25 = .ok (.iload_n 1, 1) := by decide +kernel
theorem dX9_canLive_26 : decode cX9_canLive 26 = .ok (.iadd, 1) := by decide +kernel
theorem dX9_canLive_27 : decode cX9_canLive 27 = .ok (.sipush 999, 3) := by decide +kernel
theorem dX9_canLive_30 : decode cX9_canLive 30 = .ok (.if_icmp .gt 7, 3) := by decide +kernel
theorem dX9_canLive_33 : decode cX9_canLive 33 = .ok (.iconst 1, 1) := by decide +kernel
theorem dX9_canLive_34 : decode cX9_canLive 34 = .ok (.goto 4, 3) := by decide +kernel
theorem dX9_canLive_37 : decode cX9_canLive 37 = .ok (.iconst 0, 1) := by decide +kernel
theorem dX9_canLive_38 : decode cX9_canLive 38 = .ok (.ireturn, 1) := by decide +kernel
theorem dX9_changed_0 : decode cX9_changed 0 = .ok (.aload_n 0, 1) := by decide +kernel
theorem dX9_changed_1 : decode cX9_changed 1 = .ok (.getfield 71, 3) := by decide +kernel
theorem dX9_changed_4 : decode cX9_changed 4 = .ok (.invokevirtual 333, 3) := by decide +kernel
theorem dX9_changed_7 : decode cX9_changed 7 = .ok (.aload_n 0, 1) := by decide +kernel
theorem dX9_changed_8 : decode cX9_changed 8 = .ok (.getfield 78, 3) := by decide +kernel
theorem dX9_changed_11 : decode cX9_changed 11 = .ok (.invokevirtual 336, 3) := by decide +kernel
theorem dX9_changed_14 : decode cX9_changed 14 = .ok (.aload_n 0, 1) := by decide +kernel
theorem dX9_changed_15 : decode cX9_changed 15 = .ok (.getfield 85, 3) := by decide +kernel
theorem dX9_changed_18 : decode cX9_changed 18 = .ok (.invokevirtual 337, 3) := by decide +kernel
theorem dX9_changed_21 : decode cX9_changed 21 = .ok (.return_, 1) := by decide +kernel
theorem dX9_check_0 : decode cX9_check 0 = .ok (.bipush 101, 2) := by decide +kernel
theorem dX9_check_2 : decode cX9_check 2 = .ok (.istore_n 2, 1) := by decide +kernel
theorem dX9_check_3 : decode cX9_check 3 = .ok (.iconst 0, 1) := by decide +kernel
theorem dX9_check_4 : decode cX9_check 4 = .ok (.istore_n 3, 1) := by decide +kernel
theorem dX9_check_5 : decode cX9_check 5 = .ok (.iload_n 3, 1) := by decide +kernel
theorem dX9_check_6 : decode cX9_check 6 = .ok (.iload_n 1, 1) := by decide +kernel
theorem dX9_check_7 : decode cX9_check 7 = .ok (.if_icmp .ge 21, 3) := by decide +kernel
theorem dX9_check_10 : decode cX9_check 10 = .ok (.iconst 3, 1) := by decide +kernel
theorem dX9_check_11 : decode cX9_check 11 = .ok (.iload_n 2, 1) := by decide +kernel
theorem dX9_check_12 : decode cX9_check 12 = .ok (.imul, 1) := by decide +kernel
theorem dX9_check_13 : decode cX9_check 13 = .ok (.aload_n 0, 1) := by decide +kernel
theorem dX9_check_14 : decode cX9_check 14 = .ok (.iload_n 3, 1) := by decide +kernel
theorem dX9_check_15 : decode cX9_check 15 = .ok (.iaload, 1) := by decide +kernel
theorem dX9_check_16 : decode cX9_check 16 = .ok (.iadd, 1) := by decide +kernel
theorem dX9_check_17 : decode cX9_check 17 = .ok (.sipush 251, 3) := by decide +kernel
theorem dX9_check_20 : decode cX9_check 20 = .ok (.irem, 1) := by decide +kernel
theorem dX9_check_21 : decode cX9_check 21 = .ok (.istore_n 2, 1) := by decide +kernel
theorem dX9_check_22 : decode cX9_check 22 = .ok (.iinc 3 1, 3) := by decide +kernel
theorem dX9_check_25 : decode cX9_check 25 = .ok (.goto (-20), 3) := by decide +kernel
theorem dX9_check_28 : decode cX9_check 28 = .ok (.iload_n 2, 1) := by decide +kernel
theorem dX9_check_29 : decode cX9_check 29 = .ok (.ireturn, 1) := by decide +kernel
theorem dX9_fault_0 : decode cX9_fault 0 = .ok (.iload_n 1, 1) := by decide +kernel
theorem dX9_fault_1 : decode cX9_fault 1 = .ok (.lookupswitch 43 #[(0, 27), (1, 35)], 27) := by decide +kernel
theorem dX9_fault_28 : decode cX9_fault 28 = .ok (.aload_n 0, 1) := by decide +kernel
theorem dX9_fault_29 : decode cX9_fault 29 = .ok (.getfield 53, 3) := by decide +kernel
theorem dX9_fault_32 : decode cX9_fault 32 = .ok (.getfield 122, 3) := by decide +kernel
theorem dX9_fault_35 : decode cX9_fault 35 = .ok (.ireturn, 1) := by decide +kernel
theorem dX9_fault_36 : decode cX9_fault 36 = .ok (.aload_n 0, 1) := by decide +kernel
theorem dX9_fault_37 : decode cX9_fault 37 = .ok (.getfield 53, 3) := by decide +kernel
theorem dX9_fault_40 : decode cX9_fault 40 = .ok (.getfield 142, 3) := by decide +kernel
theorem dX9_fault_43 : decode cX9_fault 43 = .ok (.ireturn, 1) := by decide +kernel
theorem dX9_fault_44 : decode cX9_fault 44 = .ok (.iconst (-1), 1) := by decide +kernel
theorem dX9_fault_45 : decode cX9_fault 45 = .ok (.ireturn, 1) := by decide +kernel
theorem dX9_has_0 : decode cX9_has 0 = .ok (.iload_n 1, 1) := by decide +kernel
theorem dX9_has_1 : decode cX9_has 1 = .ok (.tableswitch 111 0 7 #[47, 55, 63, 71, 79, 87, 95, 103], 47) := by decide +kernel
theorem dX9_has_48 : decode cX9_has 48 = .ok (.aload_n 0, 1) := by decide +kernel
theorem dX9_has_49 : decode cX9_has 49 = .ok (.getfield 20, 3) := by decide +kernel
theorem dX9_has_52 : decode cX9_has 52 = .ok (.getfield 145, 3) := by decide +kernel
theorem dX9_has_55 : decode cX9_has 55 = .ok (.ireturn, 1) := by decide +kernel
theorem dX9_has_56 : decode cX9_has 56 = .ok (.aload_n 0, 1) := by decide +kernel
theorem dX9_has_57 : decode cX9_has 57 = .ok (.getfield 20, 3) := by decide +kernel
theorem dX9_has_60 : decode cX9_has 60 = .ok (.getfield 148, 3) := by decide +kernel
theorem dX9_has_63 : decode cX9_has 63 = .ok (.ireturn, 1) := by decide +kernel
theorem dX9_has_64 : decode cX9_has 64 = .ok (.aload_n 0, 1) := by decide +kernel
theorem dX9_has_65 : decode cX9_has 65 = .ok (.getfield 20, 3) := by decide +kernel
theorem dX9_has_68 : decode cX9_has 68 = .ok (.getfield 151, 3) := by decide +kernel
theorem dX9_has_71 : decode cX9_has 71 = .ok (.ireturn, 1) := by decide +kernel
theorem dX9_has_72 : decode cX9_has 72 = .ok (.aload_n 0, 1) := by decide +kernel
theorem dX9_has_73 : decode cX9_has 73 = .ok (.getfield 30, 3) := by decide +kernel
theorem dX9_has_76 : decode cX9_has 76 = .ok (.getfield 154, 3) := by decide +kernel
theorem dX9_has_79 : decode cX9_has 79 = .ok (.ireturn, 1) := by decide +kernel
theorem dX9_has_80 : decode cX9_has 80 = .ok (.aload_n 0, 1) := by decide +kernel
theorem dX9_has_81 : decode cX9_has 81 = .ok (.getfield 30, 3) := by decide +kernel
theorem dX9_has_84 : decode cX9_has 84 = .ok (.getfield 157, 3) := by decide +kernel
theorem dX9_has_87 : decode cX9_has 87 = .ok (.ireturn, 1) := by decide +kernel
theorem dX9_has_88 : decode cX9_has 88 = .ok (.aload_n 0, 1) := by decide +kernel
theorem dX9_has_89 : decode cX9_has 89 = .ok (.getfield 30, 3) := by decide +kernel
theorem dX9_has_92 : decode cX9_has 92 = .ok (.getfield 160, 3) := by decide +kernel
theorem dX9_has_95 : decode cX9_has 95 = .ok (.ireturn, 1) := by decide +kernel
theorem dX9_has_96 : decode cX9_has 96 = .ok (.aload_n 0, 1) := by decide +kernel
theorem dX9_has_97 : decode cX9_has 97 = .ok (.getfield 85, 3) := by decide +kernel
theorem dX9_has_100 : decode cX9_has 100 = .ok (.getfield 163, 3) := by decide +kernel
theorem dX9_has_103 : decode cX9_has 103 = .ok (.ireturn, 1) := by decide +kernel
theorem dX9_has_104 : decode cX9_has 104 = .ok (.aload_n 0, 1) := by decide +kernel
theorem dX9_has_105 : decode cX9_has 105 = .ok (.getfield 37, 3) := by decide +kernel
theorem dX9_has_108 : decode cX9_has 108 = .ok (.getfield 166, 3) := by decide +kernel
theorem dX9_has_111 : decode cX9_has 111 = .ok (.ireturn, 1) := by decide +kernel
theorem dX9_has_112 : decode cX9_has 112 = .ok (.iconst (-1), 1) := by decide +kernel
theorem dX9_has_113 : decode cX9_has 113 = .ok (.ireturn, 1) := by decide +kernel
theorem dX9_isKind_0 : decode cX9_isKind 0 = .ok (.iload_n 1, 1) := by decide +kernel
theorem dX9_isKind_1 : decode cX9_isKind 1 = .ok (.ifCond .lt 18, 3) := by decide +kernel
theorem dX9_isKind_4 : decode cX9_isKind 4 = .ok (.iload_n 1, 1) := by decide +kernel
theorem dX9_isKind_5 : decode cX9_isKind 5 = .ok (.aload_n 0, 1) := by decide +kernel
theorem dX9_isKind_6 : decode cX9_isKind 6 = .ok (.getfield 20, 3) := by decide +kernel
theorem dX9_isKind_9 : decode cX9_isKind 9 = .ok (.getfield 148, 3) := by decide +kernel
theorem dX9_isKind_12 : decode cX9_isKind 12 = .ok (.if_icmp .ge 7, 3) := by decide +kernel
theorem dX9_isKind_15 : decode cX9_isKind 15 = .ok (.iconst 1, 1) := by decide +kernel
theorem dX9_isKind_16 : decode cX9_isKind 16 = .ok (.goto 4, 3) := by decide +kernel
theorem dX9_isKind_19 : decode cX9_isKind 19 = .ok (.iconst 0, 1) := by decide +kernel
theorem dX9_isKind_20 : decode cX9_isKind 20 = .ok (.ireturn, 1) := by decide +kernel
theorem dX9_isWalker_0 : decode cX9_isWalker 0 = .ok (.iload_n 1, 1) := by decide +kernel
theorem dX9_isWalker_1 : decode cX9_isWalker 1 = .ok (.ifCond .lt 18, 3) := by decide +kernel
theorem dX9_isWalker_4 : decode cX9_isWalker 4 = .ok (.iload_n 1, 1) := by decide +kernel
theorem dX9_isWalker_5 : decode cX9_isWalker 5 = .ok (.aload_n 0, 1) := by decide +kernel
theorem dX9_isWalker_6 : decode cX9_isWalker 6 = .ok (.getfield 20, 3) := by decide +kernel
theorem dX9_isWalker_9 : decode cX9_isWalker 9 = .ok (.getfield 151, 3) := by decide +kernel
theorem dX9_isWalker_12 : decode cX9_isWalker 12 = .ok (.if_icmp .ge 7, 3) := by decide +kernel
theorem dX9_isWalker_15 : decode cX9_isWalker 15 = .ok (.iconst 1, 1) := by decide +kernel
theorem dX9_isWalker_16 : decode cX9_isWalker 16 = .ok (.goto 4, 3) := by decide +kernel
theorem dX9_isWalker_19 : decode cX9_isWalker 19 = .ok (.iconst 0, 1) := by decide +kernel
theorem dX9_isWalker_20 : decode cX9_isWalker 20 = .ok (.ireturn, 1) := by decide +kernel
theorem dX9_octet_0 : decode cX9_octet 0 = .ok (.iload_n 1, 1) := by decide +kernel
theorem dX9_octet_1 : decode cX9_octet 1 = .ok (.ifCond .lt 20, 3) := by decide +kernel
theorem dX9_octet_4 : decode cX9_octet 4 = .ok (.iload_n 1, 1) := by decide +kernel
theorem dX9_octet_5 : decode cX9_octet 5 = .ok (.aload_n 0, 1) := by decide +kernel
theorem dX9_octet_6 : decode cX9_octet 6 = .ok (.getfield 92, 3) := by decide +kernel
theorem dX9_octet_9 : decode cX9_octet 9 = .ok (.if_icmp .ge 12, 3) := by decide +kernel
theorem dX9_octet_12 : decode cX9_octet 12 = .ok (.aload_n 0, 1) := by decide +kernel
theorem dX9_octet_13 : decode cX9_octet 13 = .ok (.getfield 89, 3) := by decide +kernel
theorem dX9_octet_16 : decode cX9_octet 16 = .ok (.iload_n 1, 1) := by decide +kernel
theorem dX9_octet_17 : decode cX9_octet 17 = .ok (.iaload, 1) := by decide +kernel
theorem dX9_octet_18 : decode cX9_octet 18 = .ok (.goto 4, 3) := by decide +kernel
theorem dX9_octet_21 : decode cX9_octet 21 = .ok (.iconst (-1), 1) := by decide +kernel
theorem dX9_octet_22 : decode cX9_octet 22 = .ok (.ireturn, 1) := by decide +kernel
theorem dX9_stands_0 : decode cX9_stands 0 = .ok (.aload_n 0, 1) := by decide +kernel
theorem dX9_stands_1 : decode cX9_stands 1 = .ok (.getfield 20, 3) := by decide +kernel
theorem dX9_stands_4 : decode cX9_stands 4 = .ok (.getfield 145, 3) := by decide +kernel
theorem dX9_stands_7 : decode cX9_stands 7 = .ok (.ifCond .le 7, 3) := by decide +kernel
theorem dX9_stands_10 : decode cX9_stands 10 = .ok (.iconst 1, 1) := by decide +kernel
theorem dX9_stands_11 : decode cX9_stands 11 = .ok (.goto 4, 3) := by decide +kernel
theorem dX9_stands_14 : decode cX9_stands 14 = .ok (.iconst 0, 1) := by decide +kernel
theorem dX9_stands_15 : decode cX9_stands 15 = .ok (.ireturn, 1) := by decide +kernel
theorem dX9_status_0 : decode cX9_status 0 = .ok (.iload_n 1, 1) := by decide +kernel
theorem dX9_status_1 : decode cX9_status 1 = .ok (.ifCond .lt 18, 3) := by decide +kernel
theorem dX9_status_4 : decode cX9_status 4 = .ok (.iload_n 1, 1) := by decide +kernel
theorem dX9_status_5 : decode cX9_status 5 = .ok (.bipush 6, 2) := by decide +kernel
theorem dX9_status_7 : decode cX9_status 7 = .ok (.if_icmp .ge 12, 3) := by decide +kernel
theorem dX9_status_10 : decode cX9_status 10 = .ok (.aload_n 0, 1) := by decide +kernel
theorem dX9_status_11 : decode cX9_status 11 = .ok (.getfield 95, 3) := by decide +kernel
theorem dX9_status_14 : decode cX9_status 14 = .ok (.iload_n 1, 1) := by decide +kernel
theorem dX9_status_15 : decode cX9_status 15 = .ok (.iaload, 1) := by decide +kernel
theorem dX9_status_16 : decode cX9_status 16 = .ok (.goto 4, 3) := by decide +kernel
theorem dX9_status_19 : decode cX9_status 19 = .ok (.iconst (-1), 1) := by decide +kernel
theorem dX9_status_20 : decode cX9_status 20 = .ok (.ireturn, 1) := by decide +kernel
theorem dX9_takeTape_0 : decode cX9_takeTape 0 = .ok (.aload_n 0, 1) := by decide +kernel
theorem dX9_takeTape_1 : decode cX9_takeTape 1 = .ok (.getfield 13, 3) := by decide +kernel
theorem dX9_takeTape_4 : decode cX9_takeTape 4 = .ok (.istore_n 1, 1) := by decide +kernel
theorem dX9_takeTape_5 : decode cX9_takeTape 5 = .ok (.aload_n 0, 1) := by decide +kernel
theorem dX9_takeTape_6 : decode cX9_takeTape 6 = .ok (.iconst 0, 1) := by decide +kernel
theorem dX9_takeTape_7 : decode cX9_takeTape 7 = .ok (.putfield 13, 3) := by decide +kernel
theorem dX9_takeTape_10 : decode cX9_takeTape 10 = .ok (.iload_n 1, 1) := by decide +kernel
theorem dX9_takeTape_11 : decode cX9_takeTape 11 = .ok (.ireturn, 1) := by decide +kernel
