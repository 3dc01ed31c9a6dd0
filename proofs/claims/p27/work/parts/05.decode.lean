theorem dX0_forget_0 : decode cX0_forget 0 = .ok (.aload_n 0, 1) := by decide +kernel
theorem dX0_forget_1 : decode cX0_forget 1 = .ok (.iconst 0, 1) := by decide +kernel
theorem dX0_forget_2 : decode cX0_forget 2 = .ok (.putfield 25, 3) := by decide +kernel
theorem dX0_forget_5 : decode cX0_forget 5 = .ok (.return_, 1) := by decide +kernel
theorem dX1_forget_0 : decode cX1_forget 0 = .ok (.aload_n 0, 1) := by decide +kernel
theorem dX1_forget_1 : decode cX1_forget 1 = .ok (.iconst 0, 1) := by decide +kernel
theorem dX1_forget_2 : decode cX1_forget 2 = .ok (.putfield 15, 3) := by decide +kernel
theorem dX1_forget_5 : decode cX1_forget 5 = .ok (.return_, 1) := by decide +kernel
theorem dX4_allowsGreen_0 : decode cX4_allowsGreen 0 = .ok (.iload_n 1, 1) := by decide +kernel
theorem dX4_allowsGreen_1 : decode cX4_allowsGreen 1 = .ok (.iconst 1, 1) := by decide +kernel
theorem dX4_allowsGreen_2 : decode cX4_allowsGreen 2 = .ok (.if_icmp .lt 21, 3) := by decide +kernel
theorem dX4_allowsGreen_5 : decode cX4_allowsGreen 5 = .ok (.iload_n 1, 1) := by decide +kernel
theorem dX4_allowsGreen_6 : decode cX4_allowsGreen 6 = .ok (.bipush 60, 2) := by decide +kernel
theorem dX4_allowsGreen_8 : decode cX4_allowsGreen 8 = .ok (.if_icmp .gt 15, 3) := by decide +kernel
theorem dX4_allowsGreen_11 : decode cX4_allowsGreen 11 = .ok (.iload_n 1, 1) := by decide +kernel
theorem dX4_allowsGreen_12 : decode cX4_allowsGreen 12 = .ok (.aload_n 0, 1) := by decide +kernel
theorem dX4_allowsGreen_13 : decode cX4_allowsGreen 13 = .ok (.getfield 39, 3) := by decide +kernel
theorem dX4_allowsGreen_16 : decode cX4_allowsGreen 16 = .ok (.if_icmp .ge 7, 3) := by decide +kernel
theorem dX4_allowsGreen_19 : decode cX4_allowsGreen 19 = .ok (.iconst 1, 1) := by decide +kernel
theorem dX4_allowsGreen_20 : decode cX4_allowsGreen 20 = .ok (.goto 4, 3) := by decide +kernel
theorem dX4_allowsGreen_23 : decode cX4_allowsGreen 23 = .ok (.iconst 0, 1) := by decide +kernel
theorem dX4_allowsGreen_24 : decode cX4_allowsGreen 24 = .ok (.ireturn, 1) := by decide +kernel
theorem dX4_comersIn_0 : decode cX4_comersIn 0 = .ok (.iload_n 1, 1) := by decide +kernel
theorem dX4_comersIn_1 : decode cX4_comersIn 1 = .ok (.ifCond .lt 19, 3) := by decide +kernel
theorem dX4_comersIn_4 : decode cX4_comersIn 4 = .ok (.iload_n 1, 1) := by decide +kernel
theorem dX4_comersIn_5 : decode cX4_comersIn 5 = .ok (.sipush 200, 3) := by decide +kernel
theorem dX4_comersIn_8 : decode cX4_comersIn 8 = .ok (.if_icmp .ge 12, 3) := by decide +kernel
theorem dX4_comersIn_11 : decode cX4_comersIn 11 = .ok (.aload_n 0, 1) := by decide +kernel
theorem dX4_comersIn_12 : decode cX4_comersIn 12 = .ok (.getfield 27, 3) := by decide +kernel
theorem dX4_comersIn_15 : decode cX4_comersIn 15 = .ok (.iload_n 1, 1) := by decide +kernel
theorem dX4_comersIn_16 : decode cX4_comersIn 16 = .ok (.iaload, 1) := by decide +kernel
theorem dX4_comersIn_17 : decode cX4_comersIn 17 = .ok (.goto 4, 3) := by decide +kernel
theorem dX4_comersIn_20 : decode cX4_comersIn 20 = .ok (.iconst 0, 1) := by decide +kernel
theorem dX4_comersIn_21 : decode cX4_comersIn 21 = .ok (.ireturn, 1) := by decide +kernel
theorem dX4_everyone_0 : decode cX4_everyone 0 = .ok (.iconst 1, 1) := by decide +kernel
theorem dX4_everyone_1 : decode cX4_everyone 1 = .ok (.aload_n 0, 1) := by decide +kernel
theorem dX4_everyone_2 : decode cX4_everyone 2 = .ok (.getfield 52, 3) := by decide +kernel
theorem dX4_everyone_5 : decode cX4_everyone 5 = .ok (.ishl, 1) := by decide +kernel
theorem dX4_everyone_6 : decode cX4_everyone 6 = .ok (.iconst 1, 1) := by decide +kernel
theorem dX4_everyone_7 : decode cX4_everyone 7 = .ok (.isub, 1) := by decide +kernel
theorem dX4_everyone_8 : decode cX4_everyone 8 = .ok (.ireturn, 1) := by decide +kernel
theorem dX5_emit_0 : decode cX5_emit 0 = .ok (.aload_n 0, 1) := by decide +kernel
theorem dX5_emit_1 : decode cX5_emit 1 = .ok (.getfield 37, 3) := by decide +kernel
theorem dX5_emit_4 : decode cX5_emit 4 = .ok (.getfield 165, 3) := by decide +kernel
theorem dX5_emit_7 : decode cX5_emit 7 = .ok (.aload_n 0, 1) := by decide +kernel
theorem dX5_emit_8 : decode cX5_emit 8 = .ok (.getfield 37, 3) := by decide +kernel
theorem dX5_emit_11 : decode cX5_emit 11 = .ok (.getfield 241, 3) := by decide +kernel
theorem dX5_emit_14 : decode cX5_emit 14 = .ok (.arraylength, 1) := by decide +kernel
theorem dX5_emit_15 : decode cX5_emit 15 = .ok (.if_icmp .ge 32, 3) := by decide +kernel
theorem dX5_emit_18 : decode cX5_emit 18 = .ok (.aload_n 0, 1) := by decide +kernel
theorem dX5_emit_19 : decode cX5_emit 19 = .ok (.getfield 37, 3) := by decide +kernel
theorem dX5_emit_22 : decode cX5_emit 22 = .ok (.getfield 241, 3) := by decide +kernel
theorem dX5_emit_25 : decode cX5_emit 25 = .ok (.aload_n 0, 1) := by decide +kernel
theorem dX5_emit_26 : decode cX5_emit 26 = .ok (.getfield 37, 3) := by decide +kernel
theorem dX5_emit_29 : decode cX5_emit 29 = .ok (.getfield 165, 3) := by decide +kernel
theorem dX5_emit_32 : decode cX5_emit 32 = .ok (.iload_n 1, 1) := by decide +kernel
theorem dX5_emit_33 : decode cX5_emit 33 = .ok (.iastore, 1) := by decide +kernel
theorem dX5_emit_34 : decode cX5_emit 34 = .ok (.aload_n 0, 1) := by decide +kernel
theorem dX5_emit_35 : decode cX5_emit 35 = .ok (.getfield 37, 3) := by decide +kernel
theorem dX5_emit_38 : decode cX5_emit 38 = .ok (.dup, 1) := by decide +kernel
theorem dX5_emit_39 : decode cX5_emit 39 = .ok (.getfield 165, 3) := by decide +kernel
theorem dX5_emit_42 : decode cX5_emit 42 = .ok (.iconst 1, 1) := by decide +kernel
theorem dX5_emit_43 : decode cX5_emit 43 = .ok (.iadd, 1) := by decide +kernel
theorem dX5_emit_44 : decode cX5_emit 44 = .ok (.putfield 165, 3) := by decide +kernel
theorem dX5_emit_47 : decode cX5_emit 47 = .ok (.return_, 1) := by decide +kernel
theorem dX5_fail_0 : decode cX5_fail 0 = .ok (.aload_n 0, 1) := by decide +kernel
theorem dX5_fail_1 : decode cX5_fail 1 = .ok (.getfield 27, 3) := by decide +kernel
theorem dX5_fail_4 : decode cX5_fail 4 = .ok (.ifCond .ne 13, 3) := by decide +kernel
theorem dX5_fail_7 : decode cX5_fail 7 = .ok (.aload_n 0, 1) := by decide +kernel
theorem dX5_fail_8 : decode cX5_fail 8 = .ok (.iload_n 1, 1) := by decide +kernel
theorem dX5_fail_9 : decode cX5_fail 9 = .ok (.putfield 27, 3) := by decide +kernel
theorem dX5_fail_12 : decode cX5_fail 12 = .ok (.aload_n 0, 1) := by decide +kernel
theorem dX5_fail_13 : decode cX5_fail 13 = .ok (.iload_n 2, 1) := by decide +kernel
theorem dX5_fail_14 : decode cX5_fail 14 = .ok (.putfield 30, 3) := by decide +kernel
theorem dX5_fail_17 : decode cX5_fail 17 = .ok (.aload_n 0, 1) := by decide +kernel
theorem dX5_fail_18 : decode cX5_fail 18 = .ok (.aload_n 0, 1) := by decide +kernel
theorem dX5_fail_19 : decode cX5_fail 19 = .ok (.getfield 11, 3) := by decide +kernel
theorem dX5_fail_22 : decode cX5_fail 22 = .ok (.putfield 15, 3) := by decide +kernel
theorem dX5_fail_25 : decode cX5_fail 25 = .ok (.aload_n 0, 1) := by decide +kernel
theorem dX5_fail_26 : decode cX5_fail 26 = .ok (.aload_n 0, 1) := by decide +kernel
theorem dX5_fail_27 : decode cX5_fail 27 = .ok (.getfield 11, 3) := by decide +kernel
theorem dX5_fail_30 : decode cX5_fail 30 = .ok (.putfield 18, 3) := by decide +kernel
theorem dX5_fail_33 : decode cX5_fail 33 = .ok (.aload_n 0, 1) := by decide +kernel
theorem dX5_fail_34 : decode cX5_fail 34 = .ok (.iconst 0, 1) := by decide +kernel
theorem dX5_fail_35 : decode cX5_fail 35 = .ok (.putfield 21, 3) := by decide +kernel
theorem dX5_fail_38 : decode cX5_fail 38 = .ok (.return_, 1) := by decide +kernel
theorem dX5_sortOf_0 : decode cX5_sortOf 0 = .ok (.iload_n 1, 1) := by decide +kernel
theorem dX5_sortOf_1 : decode cX5_sortOf 1 = .ok (.ifCond .lt 11, 3) := by decide +kernel
theorem dX5_sortOf_4 : decode cX5_sortOf 4 = .ok (.iload_n 1, 1) := by decide +kernel
theorem dX5_sortOf_5 : decode cX5_sortOf 5 = .ok (.aload_n 0, 1) := by decide +kernel
theorem dX5_sortOf_6 : decode cX5_sortOf 6 = .ok (.getfield 11, 3) := by decide +kernel
theorem dX5_sortOf_9 : decode cX5_sortOf 9 = .ok (.if_icmp .lt 5, 3) := by decide +kernel
theorem dX5_sortOf_12 : decode cX5_sortOf 12 = .ok (.iconst 0, 1) := by decide +kernel
theorem dX5_sortOf_13 : decode cX5_sortOf 13 = .ok (.ireturn, 1) := by decide +kernel
theorem dX5_sortOf_14 : decode cX5_sortOf 14 = .ok (.aload_n 0, 1) := by decide +kernel
theorem dX5_sortOf_15 : decode cX5_sortOf 15 = .ok (.getfield 33, 3) := by decide +kernel
theorem dX5_sortOf_18 : decode cX5_sortOf 18 = .ok (.iload_n 1, 1) := by decide +kernel
theorem dX5_sortOf_19 : decode cX5_sortOf 19 = .ok (.iaload, 1) := by decide +kernel
theorem dX5_sortOf_20 : decode cX5_sortOf 20 = .ok (.bipush 97, 2) := by decide +kernel
theorem dX5_sortOf_22 : decode cX5_sortOf 22 = .ok (.if_icmp .lt 16, 3) := by decide +kernel
theorem dX5_sortOf_25 : decode cX5_sortOf 25 = .ok (.aload_n 0, 1) := by decide +kernel
theorem dX5_sortOf_26 : decode cX5_sortOf 26 = .ok (.getfield 33, 3) := by decide +kernel
theorem dX5_sortOf_29 : decode cX5_sortOf 29 = .ok (.iload_n 1, 1) := by decide +kernel
theorem dX5_sortOf_30 : decode cX5_sortOf 30 = .ok (.iaload, 1) := by decide +kernel
theorem dX5_sortOf_31 : decode cX5_sortOf 31 = .ok (.bipush 122, 2) := by decide +kernel
theorem dX5_sortOf_33 : decode cX5_sortOf 33 = .ok (.if_icmp .gt 5, 3) := by decide +kernel
theorem dX5_sortOf_36 : decode cX5_sortOf 36 = .ok (.iconst 1, 1) := by decide +kernel
theorem dX5_sortOf_37 : decode cX5_sortOf 37 = .ok (.ireturn, 1) := by decide +kernel
theorem dX5_sortOf_38 : decode cX5_sortOf 38 = .ok (.aload_n 0, 1) := by decide +kernel
theorem dX5_sortOf_39 : decode cX5_sortOf 39 = .ok (.getfield 33, 3) := by decide +kernel
theorem dX5_sortOf_42 : decode cX5_sortOf 42 = .ok (.iload_n 1, 1) := by decide +kernel
theorem dX5_sortOf_43 : decode cX5_sortOf 43 = .ok (.iaload, 1) := by decide +kernel
theorem dX5_sortOf_44 : decode cX5_sortOf 44 = .ok (.bipush 48, 2) := by decide +kernel
theorem dX5_sortOf_46 : decode cX5_sortOf 46 = .ok (.if_icmp .lt 18, 3) := by decide +kernel
theorem dX5_sortOf_49 : decode cX5_sortOf 49 = .ok (.aload_n 0, 1) := by decide +kernel
theorem dX5_sortOf_50 : decode cX5_sortOf 50 = .ok (.getfield 33, 3) := by decide +kernel
theorem dX5_sortOf_53 : decode cX5_sortOf 53 = .ok (.iload_n 1, 1) := by decide +kernel
theorem dX5_sortOf_54 : decode cX5_sortOf 54 = .ok (.iaload, 1) := by decide +kernel
theorem dX5_sortOf_55 : decode cX5_sortOf 55 = .ok (.bipush 57, 2) := by decide +kernel
theorem dX5_sortOf_57 : decode cX5_sortOf 57 = .ok (.if_icmp .gt 7, 3) := by decide +kernel
theorem dX5_sortOf_60 : decode cX5_sortOf 60 = .ok (.iconst 2, 1) := by decide +kernel
theorem dX5_sortOf_61 : decode cX5_sortOf 61 = .ok (.goto 4, 3) := by decide +kernel
theorem dX5_sortOf_64 : decode cX5_sortOf 64 = .ok (.iconst 3, 1) := by decide +kernel
theorem dX5_sortOf_65 : decode cX5_sortOf 65 = .ok (.ireturn, 1) := by decide +kernel
theorem dX7_allCross_0 : decode cX7_allCross 0 = .ok (.aload_n 0, 1) := by decide +kernel
theorem dX7_allCross_1 : decode cX7_allCross 1 = .ok (.getfield 50, 3) := by decide +kernel
theorem dX7_allCross_4 : decode cX7_allCross 4 = .ok (.aload_n 0, 1) := by decide +kernel
theorem dX7_allCross_5 : decode cX7_allCross 5 = .ok (.getfield 63, 3) := by decide +kernel
theorem dX7_allCross_8 : decode cX7_allCross 8 = .ok (.invokevirtual 143, 3) := by decide +kernel
theorem dX7_allCross_11 : decode cX7_allCross 11 = .ok (.if_icmp .ne 7, 3) := by decide +kernel
theorem dX7_allCross_14 : decode cX7_allCross 14 = .ok (.iconst 1, 1) := by decide +kernel
theorem dX7_allCross_15 : decode cX7_allCross 15 = .ok (.goto 4, 3) := by decide +kernel
theorem dX7_allCross_18 : decode cX7_allCross 18 = .ok (.iconst 0, 1) := by decide +kernel
theorem dX7_allCross_19 : decode cX7_allCross 19 = .ok (.ireturn, 1) := by decide +kernel
theorem dX7_walkers_0 : decode cX7_walkers 0 = .ok (.aload_n 0, 1) := by decide +kernel
theorem dX7_walkers_1 : decode cX7_walkers 1 = .ok (.getfield 63, 3) := by decide +kernel
theorem dX7_walkers_4 : decode cX7_walkers 4 = .ok (.getfield 137, 3) := by decide +kernel
theorem dX7_walkers_7 : decode cX7_walkers 7 = .ok (.ireturn, 1) := by decide +kernel
theorem dX8_forget_0 : decode cX8_forget 0 = .ok (.aload_n 0, 1) := by decide +kernel
theorem dX8_forget_1 : decode cX8_forget 1 = .ok (.iconst 0, 1) := by decide +kernel
theorem dX8_forget_2 : decode cX8_forget 2 = .ok (.putfield 22, 3) := by decide +kernel
theorem dX8_forget_5 : decode cX8_forget 5 = .ok (.return_, 1) := by decide +kernel
theorem dX9_canLive_0 : decode cX9_canLive 0 = .ok (.aload_n 0, 1) := by decide +kernel
theorem dX9_canLive_1 : decode cX9_canLive 1 = .ok (.invokevirtual 218, 3) := by decide +kernel
theorem dX9_canLive_4 : decode cX9_canLive 4 = .ok (.ifCond .eq 33, 3) := by decide +kernel
theorem dX9_canLive_7 : decode cX9_canLive 7 = .ok (.iload_n 1, 1) := by decide +kernel
theorem dX9_canLive_8 : decode cX9_canLive 8 = .ok (.iconst 1, 1) := by decide +kernel
theorem dX9_canLive_9 : decode cX9_canLive 9 = .ok (.if_icmp .lt 28, 3) := by decide +kernel
theorem dX9_canLive_12 : decode cX9_canLive 12 = .ok (.iload_n 1, 1) := by decide +kernel
theorem dX9_canLive_13 : decode cX9_canLive 13 = .ok (.bipush 30, 2) := by decide +kernel
theorem dX9_canLive_15 : decode cX9_canLive 15 = .ok (.if_icmp .gt 22, 3) := by decide +kernel
theorem dX9_canLive_18 : decode cX9_canLive 18 = .ok (.aload_n 0, 1) := by decide +kernel
theorem dX9_canLive_19 : decode cX9_canLive 19 = .ok (.getfield 30, 3) := by decide +kernel
theorem dX9_canLive_22 : decode cX9_canLive 22 = .ok (.getfield 154, 3) := by decide +kernel
theorem dX9_canLive_25 : decode cX9_canLive 25 = .ok (.iload_n 1, 1) := by decide +kernel
theorem dX9_canLive_26 : decode cX9_canLive 26 = .ok (.iadd, 1) := by decide +kernel
theorem dX9_canLive_27 : decode cX9_canLive 27 = .ok (.sipush 999, 3) := by decide +kernel
theorem dX9_canLive_30 : decode cX9_canLive 30 = .ok (.if_icmp .gt 7, 3) := by decide +kernel
theorem dX9_canLive_33 : decode cX9_canLive 33 = .ok (.iconst 1, 1) := by decide +kernel
theorem dX9_canLive_34 : decode cX9_canLive 34 = .ok (.goto 4, 3) := by decide +kernel
theorem dX9_canLive_37 : decode cX9_canLive 37 = .ok (.iconst 0, 1) := by decide +kernel
theorem dX9_canLive_38 : decode cX9_canLive 38 = .ok (.ireturn, 1) := by decide +kernel
theorem dX9_changed_0 : decode cX9_changed 0 = .ok (.aload_n 0, 1) := by decide +kernel
theorem dX9_changed_1 : decode cX9_changed 1 = .ok (.getfield 71, 3) := by decide +kernel
theorem dX9_changed_4 : decode cX9_changed 4 = .ok (.invokevirtual 333, 3) := by decide +kernel
theorem dX9_changed_7 : decode cX9_changed 7 = .ok (.aload_n 0, 1) := by decide +kernel
theorem dX9_changed_8 : decode cX9_changed 8 = .ok (.getfield 78, 3) := by decide +kernel
theorem dX9_changed_11 : decode cX9_changed 11 = .ok (.invokevirtual 336, 3) := by decide +kernel
theorem dX9_changed_14 : decode cX9_changed 14 = .ok (.aload_n 0, 1) := by decide +kernel
theorem dX9_changed_15 : decode cX9_changed 15 = .ok (.getfield 85, 3) := by decide +kernel
theorem dX9_changed_18 : decode cX9_changed 18 = .ok (.invokevirtual 337, 3) := by decide +kernel
theorem dX9_changed_21 : decode cX9_changed 21 = .ok (.return_, 1) := by decide +kernel
theorem dX9_fault_0 : decode cX9_fault 0 = .ok (.iload_n 1, 1) := by decide +kernel
theorem dX9_fault_1 : decode cX9_fault 1 = .ok (.lookupswitch 43 #[(0, 27), (1, 35)], 27) := by decide +kernel
theorem dX9_fault_28 : decode cX9_fault 28 = .ok (.aload_n 0, 1) := by decide +kernel
theorem dX9_fault_29 : decode cX9_fault 29 = .ok (.getfield 53, 3) := by decide +kernel
theorem dX9_fault_32 : decode cX9_fault 32 = .ok (.getfield 122, 3) := by decide +kernel
theorem dX9_fault_35 : decode cX9_fault 35 = .ok (.ireturn, 1) := by decide +kernel
theorem dX9_fault_36 : decode cX9_fault 36 = .ok (.aload_n 0, 1) := by decide +kernel
theorem dX9_fault_37 : decode cX9_fault 37 = .ok (.getfield 53, 3) := by decide +kernel
theorem dX9_fault_40 : decode cX9_fault 40 = .ok (.getfield 142, 3) := by decide +kernel
theorem dX9_fault_43 : decode cX9_fault 43 = .ok (.ireturn, 1) := by decide +kernel
theorem dX9_fault_44 : decode cX9_fault 44 = .ok (.iconst (-1), 1) := by decide +kernel
theorem dX9_fault_45 : decode cX9_fault 45 = .ok (.ireturn, 1) := by decide +kernel
theorem dX9_has_0 : decode cX9_has 0 = .ok (.iload_n 1, 1) := by decide +kernel
theorem dX9_has_1 : decode cX9_has 1 = .ok (.tableswitch 111 0 7 #[47, 55, 63, 71, 79, 87, 95, 103], 47) := by decide +kernel
theorem dX9_has_48 : decode cX9_has 48 = .ok (.aload_n 0, 1) := by decide +kernel
theorem dX9_has_49 : decode cX9_has 49 = .ok (.getfield 20, 3) := by decide +kernel
theorem dX9_has_52 : decode cX9_has 52 = .ok (.getfield 145, 3) := by decide +kernel
theorem dX9_has_55 : decode cX9_has 55 = .ok (.ireturn, 1) := by decide +kernel
theorem dX9_has_56 : decode cX9_has 56 = .ok (.aload_n 0, 1) := by decide +kernel
theorem dX9_has_57 : decode cX9_has 57 = .ok (.getfield 20, 3) := by decide +kernel
theorem dX9_has_60 : decode cX9_has 60 = .ok (.getfield 148, 3) := by decide +kernel
theorem dX9_has_63 : decode cX9_has 63 = .ok (.ireturn, 1) := by decide +kernel
theorem dX9_has_64 : decode cX9_has 64 = .ok (.aload_n 0, 1) := by decide +kernel
theorem dX9_has_65 : decode cX9_has 65 = .ok (.getfield 20, 3) := by decide +kernel
theorem dX9_has_68 : decode cX9_has 68 = .ok (.getfield 151, 3) := by decide +kernel
theorem dX9_has_71 : decode cX9_has 71 = .ok (.ireturn, 1) := by decide +kernel
theorem dX9_has_72 : decode cX9_has 72 = .ok (.aload_n 0, 1) := by decide +kernel
theorem dX9_has_73 : decode cX9_has 73 = .ok (.getfield 30, 3) := by decide +kernel
theorem dX9_has_76 : decode cX9_has 76 = .ok (.getfield 154, 3) := by decide +kernel
theorem dX9_has_79 : decode cX9_has 79 = .ok (.ireturn, 1) := by decide +kernel
theorem dX9_has_80 : decode cX9_has 80 = .ok (.aload_n 0, 1) := by decide +kernel
theorem dX9_has_81 : decode cX9_has 81 = .ok (.getfield 30, 3) := by decide +kernel
theorem dX9_has_84 : decode cX9_has 84 = .ok (.getfield 157, 3) := by decide +kernel
theorem dX9_has_87 : decode cX9_has 87 = .ok (.ireturn, 1) := by decide +kernel
theorem dX9_has_88 : decode cX9_has 88 = .ok (.aload_n 0, 1) := by decide +kernel
theorem dX9_has_89 : decode cX9_has 89 = .ok (.getfield 30, 3) := by decide +kernel
theorem dX9_has_92 : decode cX9_has 92 = .ok (.getfield 160, 3) := by decide +kernel
theorem dX9_has_95 : decode cX9_has 95 = .ok (.ireturn, 1) := by decide +kernel
theorem dX9_has_96 : decode cX9_has 96 = .ok (.aload_n 0, 1) := by decide +kernel
theorem dX9_has_97 : decode cX9_has 97 = .ok (.getfield 85, 3) := by decide +kernel
theorem dX9_has_100 : decode cX9_has 100 = .ok (.getfield 163, 3) := by decide +kernel
theorem dX9_has_103 : decode cX9_has 103 = .ok (.ireturn, 1) := by decide +kernel
theorem dX9_has_104 : decode cX9_has 104 = .ok (.aload_n 0, 1) := by decide +kernel
theorem dX9_has_105 : decode cX9_has 105 = .ok (.getfield 37, 3) := by decide +kernel
theorem dX9_has_108 : decode cX9_has 108 = .ok (.getfield 166, 3) := by decide +kernel
theorem dX9_has_111 : decode cX9_has 111 = .ok (.ireturn, 1) := by decide +kernel
theorem dX9_has_112 : decode cX9_has 112 = .ok (.iconst (-1), 1) := by decide +kernel
theorem dX9_has_113 : decode cX9_has 113 = .ok (.ireturn, 1) := by decide +kernel
theorem dX9_isKind_0 : decode cX9_isKind 0 = .ok (.iload_n 1, 1) := by decide +kernel
theorem dX9_isKind_1 : decode cX9_isKind 1 = .ok (.ifCond .lt 18, 3) := by decide +kernel
theorem dX9_isKind_4 : decode cX9_isKind 4 = .ok (.iload_n 1, 1) := by decide +kernel
theorem dX9_isKind_5 : decode cX9_isKind 5 = .ok (.aload_n 0, 1) := by decide +kernel
theorem dX9_isKind_6 : decode cX9_isKind 6 = .ok (.getfield 20, 3) := by decide +kernel
theorem dX9_isKind_9 : decode cX9_isKind 9 = .ok (.getfield 148, 3) := by decide +kernel
theorem dX9_isKind_12 : decode cX9_isKind 12 = .ok (.if_icmp .ge 7, 3) := by decide +kernel
theorem dX9_isKind_15 : decode cX9_isKind 15 = .ok (.iconst 1, 1) := by decide +kernel
theorem dX9_isKind_16 : decode cX9_isKind 16 = .ok (.goto 4, 3) := by decide +kernel
theorem dX9_isKind_19 : decode cX9_isKind 19 = .ok (.iconst 0, 1) := by decide +kernel
theorem dX9_isKind_20 : decode cX9_isKind 20 = .ok (.ireturn, 1) := by decide +kernel
theorem dX9_isWalker_0 : decode cX9_isWalker 0 = .ok (.iload_n 1, 1) := by decide +kernel
theorem dX9_isWalker_1 : decode cX9_isWalker 1 = .ok (.ifCond .lt 18, 3) := by decide +kernel
theorem dX9_isWalker_4 : decode cX9_isWalker 4 = .ok (.iload_n 1, 1) := by decide +kernel
theorem dX9_isWalker_5 : decode cX9_isWalker 5 = .ok (.aload_n 0, 1) := by decide +kernel
theorem dX9_isWalker_6 : decode cX9_isWalker 6 = .ok (.getfield 20, 3) := by decide +kernel
theorem dX9_isWalker_9 : decode cX9_isWalker 9 = .ok (.getfield 151, 3) := by decide +kernel
theorem dX9_isWalker_12 : decode cX9_isWalker 12 = .ok (.if_icmp .ge 7, 3) := by decide +kernel
theorem dX9_isWalker_15 : decode cX9_isWalker 15 = .ok (.iconst 1, 1) := by decide +kernel
theorem dX9_isWalker_16 : decode cX9_isWalker 16 = .ok (.goto 4, 3) := by decide +kernel
theorem dX9_isWalker_19 : decode cX9_isWalker 19 = .ok (.iconst 0, 1) := by decide +kernel
theorem dX9_isWalker_20 : decode cX9_isWalker 20 = .ok (.ireturn, 1) := by decide +kernel
theorem dX9_octet_0 : decode cX9_octet 0 = .ok (.iload_n 1, 1) := by decide +kernel
theorem dX9_octet_1 : decode cX9_octet 1 = .ok (.ifCond .lt 20, 3) := by decide +kernel
theorem dX9_octet_4 : decode cX9_octet 4 = .ok (.iload_n 1, 1) := by decide +kernel
theorem dX9_octet_5 : decode cX9_octet 5 = .ok (.aload_n 0, 1) := by decide +kernel
theorem dX9_octet_6 : decode cX9_octet 6 = .ok (.getfield 92, 3) := by decide +kernel
theorem dX9_octet_9 : decode cX9_octet 9 = .ok (.if_icmp .ge 12, 3) := by decide +kernel
theorem dX9_octet_12 : decode cX9_octet 12 = .ok (.aload_n 0, 1) := by decide +kernel
theorem dX9_octet_13 : decode cX9_octet 13 = .ok (.getfield 89, 3) := by decide +kernel
theorem dX9_octet_16 : decode cX9_octet 16 = .ok (.iload_n 1, 1) := by decide +kernel
theorem dX9_octet_17 : decode cX9_octet 17 = .ok (.iaload, 1) := by decide +kernel
theorem dX9_octet_18 : decode cX9_octet 18 = .ok (.goto 4, 3) := by decide +kernel
theorem dX9_octet_21 : decode cX9_octet 21 = .ok (.iconst (-1), 1) := by decide +kernel
theorem dX9_octet_22 : decode cX9_octet 22 = .ok (.ireturn, 1) := by decide +kernel
theorem dX9_stands_0 : decode cX9_stands 0 = .ok (.aload_n 0, 1) := by decide +kernel
theorem dX9_stands_1 : decode cX9_stands 1 = .ok (.getfield 20, 3) := by decide +kernel
theorem dX9_stands_4 : decode cX9_stands 4 = .ok (.getfield 145, 3) := by decide +kernel
theorem dX9_stands_7 : decode cX9_stands 7 = .ok (.ifCond .le 7, 3) := by decide +kernel
theorem dX9_stands_10 : decode cX9_stands 10 = .ok (.iconst 1, 1) := by decide +kernel
theorem dX9_stands_11 : decode cX9_stands 11 = .ok (.goto 4, 3) := by decide +kernel
theorem dX9_stands_14 : decode cX9_stands 14 = .ok (.iconst 0, 1) := by decide +kernel
theorem dX9_stands_15 : decode cX9_stands 15 = .ok (.ireturn, 1) := by decide +kernel
theorem dX9_status_0 : decode cX9_status 0 = .ok (.iload_n 1, 1) := by decide +kernel
theorem dX9_status_1 : decode cX9_status 1 = .ok (.ifCond .lt 18, 3) := by decide +kernel
theorem dX9_status_4 : decode cX9_status 4 = .ok (.iload_n 1, 1) := by decide +kernel
theorem dX9_status_5 : decode cX9_status 5 = .ok (.bipush 6, 2) := by decide +kernel
theorem dX9_status_7 : decode cX9_status 7 = .ok (.if_icmp .ge 12, 3) := by decide +kernel
theorem dX9_status_10 : decode cX9_status 10 = .ok (.aload_n 0, 1) := by decide +kernel
theorem dX9_status_11 : decode cX9_status 11 = .ok (.getfield 95, 3) := by decide +kernel
theorem dX9_status_14 : decode cX9_status 14 = .ok (.iload_n 1, 1) := by decide +kernel
theorem dX9_status_15 : decode cX9_status 15 = .ok (.iaload, 1) := by decide +kernel
theorem dX9_status_16 : decode cX9_status 16 = .ok (.goto 4, 3) := by decide +kernel
theorem dX9_status_19 : decode cX9_status 19 = .ok (.iconst (-1), 1) := by decide +kernel
theorem dX9_status_20 : decode cX9_status 20 = .ok (.ireturn, 1) := by decide +kernel
theorem dX9_takeTape_0 : decode cX9_takeTape 0 = .ok (.aload_n 0, 1) := by decide +kernel
theorem dX9_takeTape_1 : decode cX9_takeTape 1 = .ok (.getfield 13, 3) := by decide +kernel
theorem dX9_takeTape_4 : decode cX9_takeTape 4 = .ok (.istore_n 1, 1) := by decide +kernel
theorem dX9_takeTape_5 : decode cX9_takeTape 5 = .ok (.aload_n 0, 1) := by decide +kernel
theorem dX9_takeTape_6 : decode cX9_takeTape 6 = .ok (.iconst 0, 1) := by decide +kernel
theorem dX9_takeTape_7 : decode cX9_takeTape 7 = .ok (.putfield 13, 3) := by decide +kernel
theorem dX9_takeTape_10 : decode cX9_takeTape 10 = .ok (.iload_n 1, 1) := by decide +kernel
theorem dX9_takeTape_11 : decode cX9_takeTape 11 = .ok (.ireturn, 1) := by decide +kernel
