theorem dX0_init_0 : decode cX0_init 0 = .ok (.aload_n 0, 1) := by decide +kernel
theorem dX0_init_1 : decode cX0_init 1 = .ok (.invokespecial 3, 3) := by decide +kernel
theorem dX0_init_4 : decode cX0_init 4 = .ok (.aload_n 0, 1) := by decide +kernel
theorem dX0_init_5 : decode cX0_init 5 = .ok (.new 9, 3) := by decide +kernel
theorem dX0_init_8 : decode cX0_init 8 = .ok (.dup, 1) := by decide +kernel
theorem dX0_init_9 : decode cX0_init 9 = .ok (.sipush 240, 3) := by decide +kernel
theorem dX0_init_12 : decode cX0_init 12 = .ok (.ldc 11, 2) := by decide +kernel
theorem dX0_init_14 : decode cX0_init 14 = .ok (.invokespecial 12, 3) := by decide +kernel
theorem dX0_init_17 : decode cX0_init 17 = .ok (.putfield 15, 3) := by decide +kernel
theorem dX0_init_20 : decode cX0_init 20 = .ok (.return_, 1) := by decide +kernel
theorem dX0_forget_0 : decode cX0_forget 0 = .ok (.aload_n 0, 1) := by decide +kernel
theorem dX0_forget_1 : decode cX0_forget 1 = .ok (.getfield 15, 3) := by decide +kernel
theorem dX0_forget_4 : decode cX0_forget 4 = .ok (.invokevirtual 21, 3) := by decide +kernel
theorem dX0_forget_7 : decode cX0_forget 7 = .ok (.return_, 1) := by decide +kernel
theorem dX0_lower_0 : decode cX0_lower 0 = .ok (.iload_n 1, 1) := by decide +kernel
theorem dX0_lower_1 : decode cX0_lower 1 = .ok (.iload_n 2, 1) := by decide +kernel
theorem dX0_lower_2 : decode cX0_lower 2 = .ok (.invokestatic 24, 3) := by decide +kernel
theorem dX0_lower_5 : decode cX0_lower 5 = .ok (.istore 4, 2) := by decide +kernel
theorem dX0_lower_7 : decode cX0_lower 7 = .ok (.aload_n 0, 1) := by decide +kernel
theorem dX0_lower_8 : decode cX0_lower 8 = .ok (.getfield 15, 3) := by decide +kernel
theorem dX0_lower_11 : decode cX0_lower 11 = .ok (.iload 4, 2) := by decide +kernel
theorem dX0_lower_13 : decode cX0_lower 13 = .ok (.invokevirtual 28, 3) := by decide +kernel
theorem dX0_lower_16 : decode cX0_lower 16 = .ok (.istore 5, 2) := by decide +kernel
theorem dX0_lower_18 : decode cX0_lower 18 = .ok (.iload 5, 2) := by decide +kernel
theorem dX0_lower_20 : decode cX0_lower 20 = .ok (.ldc 11, 2) := by decide +kernel
theorem dX0_lower_22 : decode cX0_lower 22 = .ok (.if_icmp .eq 9, 3) := by decide +kernel
theorem dX0_lower_25 : decode cX0_lower 25 = .ok (.iload_n 3, 1) := by decide +kernel
theorem dX0_lower_26 : decode cX0_lower 26 = .ok (.iload 5, 2) := by decide +kernel
theorem dX0_lower_28 : decode cX0_lower 28 = .ok (.if_icmp .ge 14, 3) := by decide +kernel
theorem dX0_lower_31 : decode cX0_lower 31 = .ok (.aload_n 0, 1) := by decide +kernel
theorem dX0_lower_32 : decode cX0_lower 32 = .ok (.getfield 15, 3) := by decide +kernel
theorem dX0_lower_35 : decode cX0_lower 35 = .ok (.iload 4, 2) := by decide +kernel
theorem dX0_lower_37 : decode cX0_lower 37 = .ok (.iload_n 3, 1) := by decide +kernel
theorem dX0_lower_38 : decode cX0_lower 38 = .ok (.invokevirtual 32, 3) := by decide +kernel
theorem dX0_lower_41 : decode cX0_lower 41 = .ok (.pop, 1) := by decide +kernel
theorem dX0_lower_42 : decode cX0_lower 42 = .ok (.return_, 1) := by decide +kernel
theorem dX0_depthIn_0 : decode cX0_depthIn 0 = .ok (.aload_n 0, 1) := by decide +kernel
theorem dX0_depthIn_1 : decode cX0_depthIn 1 = .ok (.getfield 15, 3) := by decide +kernel
theorem dX0_depthIn_4 : decode cX0_depthIn 4 = .ok (.iload_n 1, 1) := by decide +kernel
theorem dX0_depthIn_5 : decode cX0_depthIn 5 = .ok (.iload_n 2, 1) := by decide +kernel
theorem dX0_depthIn_6 : decode cX0_depthIn 6 = .ok (.invokestatic 24, 3) := by decide +kernel
theorem dX0_depthIn_9 : decode cX0_depthIn 9 = .ok (.invokevirtual 28, 3) := by decide +kernel
theorem dX0_depthIn_12 : decode cX0_depthIn 12 = .ok (.ireturn, 1) := by decide +kernel
theorem dX0_lacks_0 : decode cX0_lacks 0 = .ok (.iload_n 1, 1) := by decide +kernel
theorem dX0_lacks_1 : decode cX0_lacks 1 = .ok (.iload_n 2, 1) := by decide +kernel
theorem dX0_lacks_2 : decode cX0_lacks 2 = .ok (.invokestatic 24, 3) := by decide +kernel
theorem dX0_lacks_5 : decode cX0_lacks 5 = .ok (.ifCond .lt 18, 3) := by decide +kernel
theorem dX0_lacks_8 : decode cX0_lacks 8 = .ok (.aload_n 0, 1) := by decide +kernel
theorem dX0_lacks_9 : decode cX0_lacks 9 = .ok (.iload_n 1, 1) := by decide +kernel
theorem dX0_lacks_10 : decode cX0_lacks 10 = .ok (.iload_n 2, 1) := by decide +kernel
theorem dX0_lacks_11 : decode cX0_lacks 11 = .ok (.invokevirtual 35, 3) := by decide +kernel
theorem dX0_lacks_14 : decode cX0_lacks 14 = .ok (.ldc 11, 2) := by decide +kernel
theorem dX0_lacks_16 : decode cX0_lacks 16 = .ok (.if_icmp .ne 7, 3) := by decide +kernel
theorem dX0_lacks_19 : decode cX0_lacks 19 = .ok (.iconst 1, 1) := by decide +kernel
theorem dX0_lacks_20 : decode cX0_lacks 20 = .ok (.goto 4, 3) := by decide +kernel
theorem dX0_lacks_23 : decode cX0_lacks 23 = .ok (.iconst 0, 1) := by decide +kernel
theorem dX0_lacks_24 : decode cX0_lacks 24 = .ok (.ireturn, 1) := by decide +kernel
theorem dX0_countDepths_0 : decode cX0_countDepths 0 = .ok (.iconst 0, 1) := by decide +kernel
theorem dX0_countDepths_1 : decode cX0_countDepths 1 = .ok (.istore_n 1, 1) := by decide +kernel
theorem dX0_countDepths_2 : decode cX0_countDepths 2 = .ok (.iconst 0, 1) := by decide +kernel
theorem dX0_countDepths_3 : decode cX0_countDepths 3 = .ok (.istore_n 2, 1) := by decide +kernel
theorem dX0_countDepths_4 : decode cX0_countDepths 4 = .ok (.iload_n 2, 1) := by decide +kernel
theorem dX0_countDepths_5 : decode cX0_countDepths 5 = .ok (.sipush 240, 3) := by decide +kernel
theorem dX0_countDepths_8 : decode cX0_countDepths 8 = .ok (.if_icmp .ge 30, 3) := by decide +kernel
theorem dX0_countDepths_11 : decode cX0_countDepths 11 = .ok (.iload_n 1, 1) := by decide +kernel
theorem dX0_countDepths_12 : decode cX0_countDepths 12 = .ok (.aload_n 0, 1) := by decide +kernel
theorem dX0_countDepths_13 : decode cX0_countDepths 13 = .ok (.getfield 15, 3) := by decide +kernel
theorem dX0_countDepths_16 : decode cX0_countDepths 16 = .ok (.iload_n 2, 1) := by decide +kernel
theorem dX0_countDepths_17 : decode cX0_countDepths 17 = .ok (.invokevirtual 28, 3) := by decide +kernel
theorem dX0_countDepths_20 : decode cX0_countDepths 20 = .ok (.ldc 11, 2) := by decide +kernel
theorem dX0_countDepths_22 : decode cX0_countDepths 22 = .ok (.if_icmp .eq 7, 3) := by decide +kernel
theorem dX0_countDepths_25 : decode cX0_countDepths 25 = .ok (.iconst 1, 1) := by decide +kernel
theorem dX0_countDepths_26 : decode cX0_countDepths 26 = .ok (.goto 4, 3) := by decide +kernel
theorem dX0_countDepths_29 : decode cX0_countDepths 29 = .ok (.iconst 0, 1) := by decide +kernel
theorem dX0_countDepths_30 : decode cX0_countDepths 30 = .ok (.iadd, 1) := by decide +kernel
theorem dX0_countDepths_31 : decode cX0_countDepths 31 = .ok (.istore_n 1, 1) := by decide +kernel
theorem dX0_countDepths_32 : decode cX0_countDepths 32 = .ok (.iinc 2 1, 3) := by decide +kernel
theorem dX0_countDepths_35 : decode cX0_countDepths 35 = .ok (.goto (-31), 3) := by decide +kernel
theorem dX0_countDepths_38 : decode cX0_countDepths 38 = .ok (.iload_n 1, 1) := by decide +kernel
theorem dX0_countDepths_39 : decode cX0_countDepths 39 = .ok (.ireturn, 1) := by decide +kernel
theorem dX0_sumOfDepths_0 : decode cX0_sumOfDepths 0 = .ok (.iconst 0, 1) := by decide +kernel
theorem dX0_sumOfDepths_1 : decode cX0_sumOfDepths 1 = .ok (.istore_n 1, 1) := by decide +kernel
theorem dX0_sumOfDepths_2 : decode cX0_sumOfDepths 2 = .ok (.iconst 0, 1) := by decide +kernel
theorem dX0_sumOfDepths_3 : decode cX0_sumOfDepths 3 = .ok (.istore_n 2, 1) := by decide +kernel
theorem dX0_sumOfDepths_4 : decode cX0_sumOfDepths 4 = .ok (.iload_n 2, 1) := by decide +kernel
theorem dX0_sumOfDepths_5 : decode cX0_sumOfDepths 5 = .ok (.sipush 240, 3) := by decide +kernel
theorem dX0_sumOfDepths_8 : decode cX0_sumOfDepths 8 = .ok (.if_icmp .ge 32, 3) := by decide +kernel
theorem dX0_sumOfDepths_11 : decode cX0_sumOfDepths 11 = .ok (.aload_n 0, 1) := by decide +kernel
theorem dX0_sumOfDepths_12 : decode cX0_sumOfDepths 12 = .ok (.getfield 15, 3) := by decide +kernel
theorem dX0_sumOfDepths_15 : decode cX0_sumOfDepths 15 = .ok (.iload_n 2, 1) := by decide +kernel
theorem dX0_sumOfDepths_16 : decode cX0_sumOfDepths 16 = .ok (.invokevirtual 28, 3) := by decide +kernel
theorem dX0_sumOfDepths_19 : decode cX0_sumOfDepths 19 = .ok (.istore_n 3, 1) := by decide +kernel
theorem dX0_sumOfDepths_20 : decode cX0_sumOfDepths 20 = .ok (.iload_n 1, 1) := by decide +kernel
theorem dX0_sumOfDepths_21 : decode cX0_sumOfDepths 21 = .ok (.iload_n 3, 1) := by decide +kernel
theorem dX0_sumOfDepths_22 : decode cX0_sumOfDepths 22 = .ok (.ldc 11, 2) := by decide +kernel
theorem dX0_sumOfDepths_24 : decode cX0_sumOfDepths 24 = .ok (.if_icmp .eq 7, 3) := by decide +kernel
theorem dX0_sumOfDepths_27 : decode cX0_sumOfDepths 27 = .ok (.iload_n 3, 1) := by decide +kernel
theorem dX0_sumOfDepths_28 : decode cX0_sumOfDepths 28 = .ok (.goto 4, 3) := by decide +kernel
theorem dX0_sumOfDepths_31 : decode cX0_sumOfDepths 31 = .ok (.iconst 0, 1) := by decide +kernel
theorem dX0_sumOfDepths_32 : decode cX0_sumOfDepths 32 = .ok (.iadd, 1) := by decide +kernel
theorem dX0_sumOfDepths_33 : decode cX0_sumOfDepths 33 = .ok (.istore_n 1, 1) := by decide +kernel
theorem dX0_sumOfDepths_34 : decode cX0_sumOfDepths 34 = .ok (.iinc 2 1, 3) := by decide +kernel
theorem dX0_sumOfDepths_37 : decode cX0_sumOfDepths 37 = .ok (.goto (-33), 3) := by decide +kernel
theorem dX0_sumOfDepths_40 : decode cX0_sumOfDepths 40 = .ok (.iload_n 1, 1) := by decide +kernel
theorem dX0_sumOfDepths_41 : decode cX0_sumOfDepths 41 = .ok (.ireturn, 1) := by decide +kernel
theorem dX0_emptyCell_0 : decode cX0_emptyCell 0 = .ok (.iconst 0, 1) := by decide +kernel
theorem dX0_emptyCell_1 : decode cX0_emptyCell 1 = .ok (.istore_n 2, 1) := by decide +kernel
theorem dX0_emptyCell_2 : decode cX0_emptyCell 2 = .ok (.iconst 0, 1) := by decide +kernel
theorem dX0_emptyCell_3 : decode cX0_emptyCell 3 = .ok (.istore_n 3, 1) := by decide +kernel
theorem dX0_emptyCell_4 : decode cX0_emptyCell 4 = .ok (.iload_n 3, 1) := by decide +kernel
theorem dX0_emptyCell_5 : decode cX0_emptyCell 5 = .ok (.sipush 240, 3) := by decide +kernel
theorem dX0_emptyCell_8 : decode cX0_emptyCell 8 = .ok (.if_icmp .ge 43, 3) := by decide +kernel
theorem dX0_emptyCell_11 : decode cX0_emptyCell 11 = .ok (.aload_n 0, 1) := by decide +kernel
theorem dX0_emptyCell_12 : decode cX0_emptyCell 12 = .ok (.getfield 15, 3) := by decide +kernel
theorem dX0_emptyCell_15 : decode cX0_emptyCell 15 = .ok (.iload_n 3, 1) := by decide +kernel
theorem dX0_emptyCell_16 : decode cX0_emptyCell 16 = .ok (.invokevirtual 28, 3) := by decide +kernel
theorem dX0_emptyCell_19 : decode cX0_emptyCell 19 = .ok (.ldc 11, 2) := by decide +kernel
theorem dX0_emptyCell_21 : decode cX0_emptyCell 21 = .ok (.if_icmp .ne 24, 3) := by decide +kernel
theorem dX0_emptyCell_24 : decode cX0_emptyCell 24 = .ok (.iload_n 2, 1) := by decide +kernel
theorem dX0_emptyCell_25 : decode cX0_emptyCell 25 = .ok (.iload_n 1, 1) := by decide +kernel
theorem dX0_emptyCell_26 : decode cX0_emptyCell 26 = .ok (.if_icmp .ne 16, 3) := by decide +kernel
theorem dX0_emptyCell_29 : decode cX0_emptyCell 29 = .ok (.bipush 100, 2) := by decide +kernel
theorem dX0_emptyCell_31 : decode cX0_emptyCell 31 = .ok (.iload_n 3, 1) := by decide +kernel
theorem dX0_emptyCell_32 : decode cX0_emptyCell 32 = .ok (.bipush 20, 2) := by decide +kernel
theorem dX0_emptyCell_34 : decode cX0_emptyCell 34 = .ok (.idiv, 1) := by decide +kernel
theorem dX0_emptyCell_35 : decode cX0_emptyCell 35 = .ok (.imul, 1) := by decide +kernel
theorem dX0_emptyCell_36 : decode cX0_emptyCell 36 = .ok (.iload_n 3, 1) := by decide +kernel
theorem dX0_emptyCell_37 : decode cX0_emptyCell 37 = .ok (.bipush 20, 2) := by decide +kernel
theorem dX0_emptyCell_39 : decode cX0_emptyCell 39 = .ok (.irem, 1) := by decide +kernel
theorem dX0_emptyCell_40 : decode cX0_emptyCell 40 = .ok (.iadd, 1) := by decide +kernel
theorem dX0_emptyCell_41 : decode cX0_emptyCell 41 = .ok (.ireturn, 1) := by decide +kernel
theorem dX0_emptyCell_42 : decode cX0_emptyCell 42 = .ok (.iinc 2 1, 3) := by decide +kernel
theorem dX0_emptyCell_45 : decode cX0_emptyCell 45 = .ok (.iinc 3 1, 3) := by decide +kernel
theorem dX0_emptyCell_48 : decode cX0_emptyCell 48 = .ok (.goto (-44), 3) := by decide +kernel
theorem dX0_emptyCell_51 : decode cX0_emptyCell 51 = .ok (.ldc 11, 2) := by decide +kernel
theorem dX0_emptyCell_53 : decode cX0_emptyCell 53 = .ok (.ireturn, 1) := by decide +kernel
theorem dX1_init_0 : decode cX1_init 0 = .ok (.aload_n 0, 1) := by decide +kernel
theorem dX1_init_1 : decode cX1_init 1 = .ok (.invokespecial 3, 3) := by decide +kernel
theorem dX1_init_4 : decode cX1_init 4 = .ok (.aload_n 0, 1) := by decide +kernel
theorem dX1_init_5 : decode cX1_init 5 = .ok (.new 9, 3) := by decide +kernel
theorem dX1_init_8 : decode cX1_init 8 = .ok (.dup, 1) := by decide +kernel
theorem dX1_init_9 : decode cX1_init 9 = .ok (.sipush 240, 3) := by decide +kernel
theorem dX1_init_12 : decode cX1_init 12 = .ok (.iconst 0, 1) := by decide +kernel
theorem dX1_init_13 : decode cX1_init 13 = .ok (.invokespecial 11, 3) := by decide +kernel
theorem dX1_init_16 : decode cX1_init 16 = .ok (.putfield 14, 3) := by decide +kernel
theorem dX1_init_19 : decode cX1_init 19 = .ok (.aload_n 0, 1) := by decide +kernel
theorem dX1_init_20 : decode cX1_init 20 = .ok (.iload_n 1, 1) := by decide +kernel
theorem dX1_init_21 : decode cX1_init 21 = .ok (.putfield 20, 3) := by decide +kernel
theorem dX1_init_24 : decode cX1_init 24 = .ok (.return_, 1) := by decide +kernel
theorem dX1_place_0 : decode cX1_place 0 = .ok (.aload_n 0, 1) := by decide +kernel
theorem dX1_place_1 : decode cX1_place 1 = .ok (.getfield 20, 3) := by decide +kernel
theorem dX1_place_4 : decode cX1_place 4 = .ok (.ireturn, 1) := by decide +kernel
theorem dX1_breakDown_0 : decode cX1_breakDown 0 = .ok (.iload_n 2, 1) := by decide +kernel
theorem dX1_breakDown_1 : decode cX1_breakDown 1 = .ok (.istore 4, 2) := by decide +kernel
theorem dX1_breakDown_3 : decode cX1_breakDown 3 = .ok (.iload 4, 2) := by decide +kernel
theorem dX1_breakDown_5 : decode cX1_breakDown 5 = .ok (.iload_n 3, 1) := by decide +kernel
theorem dX1_breakDown_6 : decode cX1_breakDown 6 = .ok (.if_icmp .ge 31, 3) := by decide +kernel
theorem dX1_breakDown_9 : decode cX1_breakDown 9 = .ok (.iload 4, 2) := by decide +kernel
theorem dX1_breakDown_11 : decode cX1_breakDown 11 = .ok (.bipush 24, 2) := by decide +kernel
theorem dX1_breakDown_13 : decode cX1_breakDown 13 = .ok (.if_icmp .ge 24, 3) := by decide +kernel
theorem dX1_breakDown_16 : decode cX1_breakDown 16 = .ok (.aload_n 0, 1) := by decide +kernel
theorem dX1_breakDown_17 : decode cX1_breakDown 17 = .ok (.getfield 14, 3) := by decide +kernel
theorem dX1_breakDown_20 : decode cX1_breakDown 20 = .ok (.iload_n 1, 1) := by decide +kernel
theorem dX1_breakDown_21 : decode cX1_breakDown 21 = .ok (.iload 4, 2) := by decide +kernel
theorem dX1_breakDown_23 : decode cX1_breakDown 23 = .ok (.invokestatic 24, 3) := by decide +kernel
theorem dX1_breakDown_26 : decode cX1_breakDown 26 = .ok (.iconst 1, 1) := by decide +kernel
theorem dX1_breakDown_27 : decode cX1_breakDown 27 = .ok (.invokevirtual 28, 3) := by decide +kernel
theorem dX1_breakDown_30 : decode cX1_breakDown 30 = .ok (.pop, 1) := by decide +kernel
theorem dX1_breakDown_31 : decode cX1_breakDown 31 = .ok (.iinc 4 1, 3) := by decide +kernel
theorem dX1_breakDown_34 : decode cX1_breakDown 34 = .ok (.goto (-31), 3) := by decide +kernel
theorem dX1_breakDown_37 : decode cX1_breakDown 37 = .ok (.return_, 1) := by decide +kernel
theorem dX1_repair_0 : decode cX1_repair 0 = .ok (.iconst 0, 1) := by decide +kernel
theorem dX1_repair_1 : decode cX1_repair 1 = .ok (.istore_n 2, 1) := by decide +kernel
theorem dX1_repair_2 : decode cX1_repair 2 = .ok (.iload_n 2, 1) := by decide +kernel
theorem dX1_repair_3 : decode cX1_repair 3 = .ok (.bipush 24, 2) := by decide +kernel
theorem dX1_repair_5 : decode cX1_repair 5 = .ok (.if_icmp .ge 23, 3) := by decide +kernel
theorem dX1_repair_8 : decode cX1_repair 8 = .ok (.aload_n 0, 1) := by decide +kernel
theorem dX1_repair_9 : decode cX1_repair 9 = .ok (.getfield 14, 3) := by decide +kernel
theorem dX1_repair_12 : decode cX1_repair 12 = .ok (.iload_n 1, 1) := by decide +kernel
theorem dX1_repair_13 : decode cX1_repair 13 = .ok (.iload_n 2, 1) := by decide +kernel
theorem dX1_repair_14 : decode cX1_repair 14 = .ok (.invokestatic 24, 3) := by decide +kernel
theorem dX1_repair_17 : decode cX1_repair 17 = .ok (.iconst 0, 1) := by decide +kernel
theorem dX1_repair_18 : decode cX1_repair 18 = .ok (.invokevirtual 28, 3) := by decide +kernel
theorem dX1_repair_21 : decode cX1_repair 21 = .ok (.pop, 1) := by decide +kernel
theorem dX1_repair_22 : decode cX1_repair 22 = .ok (.iinc 2 1, 3) := by decide +kernel
theorem dX1_repair_25 : decode cX1_repair 25 = .ok (.goto (-23), 3) := by decide +kernel
theorem dX1_repair_28 : decode cX1_repair 28 = .ok (.return_, 1) := by decide +kernel
theorem dX1_failedHours_0 : decode cX1_failedHours 0 = .ok (.iconst 0, 1) := by decide +kernel
theorem dX1_failedHours_1 : decode cX1_failedHours 1 = .ok (.istore_n 2, 1) := by decide +kernel
theorem dX1_failedHours_2 : decode cX1_failedHours 2 = .ok (.iconst 0, 1) := by decide +kernel
theorem dX1_failedHours_3 : decode cX1_failedHours 3 = .ok (.istore_n 3, 1) := by decide +kernel
theorem dX1_failedHours_4 : decode cX1_failedHours 4 = .ok (.iload_n 3, 1) := by decide +kernel
theorem dX1_failedHours_5 : decode cX1_failedHours 5 = .ok (.bipush 24, 2) := by decide +kernel
theorem dX1_failedHours_7 : decode cX1_failedHours 7 = .ok (.if_icmp .ge 24, 3) := by decide +kernel
theorem dX1_failedHours_10 : decode cX1_failedHours 10 = .ok (.iload_n 2, 1) := by decide +kernel
theorem dX1_failedHours_11 : decode cX1_failedHours 11 = .ok (.aload_n 0, 1) := by decide +kernel
theorem dX1_failedHours_12 : decode cX1_failedHours 12 = .ok (.getfield 14, 3) := by decide +kernel
theorem dX1_failedHours_15 : decode cX1_failedHours 15 = .ok (.iload_n 1, 1) := by decide +kernel
theorem dX1_failedHours_16 : decode cX1_failedHours 16 = .ok (.iload_n 3, 1) := by decide +kernel
theorem dX1_failedHours_17 : decode cX1_failedHours 17 = .ok (.invokestatic 24, 3) := by decide +kernel
theorem dX1_failedHours_20 : decode cX1_failedHours 20 = .ok (.invokevirtual 31, 3) := by decide +kernel
theorem dX1_failedHours_23 : decode cX1_failedHours 23 = .ok (.iadd, 1) := by decide +kernel
theorem dX1_failedHours_24 : decode cX1_failedHours 24 = .ok (.istore_n 2, 1) := by decide +kernel
theorem dX1_failedHours_25 : decode cX1_failedHours 25 = .ok (.iinc 3 1, 3) := by decide +kernel
theorem dX1_failedHours_28 : decode cX1_failedHours 28 = .ok (.goto (-24), 3) := by decide +kernel
theorem dX1_failedHours_31 : decode cX1_failedHours 31 = .ok (.iload_n 2, 1) := by decide +kernel
theorem dX1_failedHours_32 : decode cX1_failedHours 32 = .ok (.ireturn, 1) := by decide +kernel
theorem dX1_tellsIn_0 : decode cX1_tellsIn 0 = .ok (.aload_n 0, 1) := by decide +kernel
theorem dX1_tellsIn_1 : decode cX1_tellsIn 1 = .ok (.getfield 14, 3) := by decide +kernel
theorem dX1_tellsIn_4 : decode cX1_tellsIn 4 = .ok (.iload_n 2, 1) := by decide +kernel
theorem dX1_tellsIn_5 : decode cX1_tellsIn 5 = .ok (.iload_n 3, 1) := by decide +kernel
theorem dX1_tellsIn_6 : decode cX1_tellsIn 6 = .ok (.invokestatic 24, 3) := by decide +kernel
theorem dX1_tellsIn_9 : decode cX1_tellsIn 9 = .ok (.invokevirtual 31, 3) := by decide +kernel
theorem dX1_tellsIn_12 : decode cX1_tellsIn 12 = .ok (.ifCond .ne 14, 3) := by decide +kernel
theorem dX1_tellsIn_15 : decode cX1_tellsIn 15 = .ok (.aload_n 1, 1) := by decide +kernel
theorem dX1_tellsIn_16 : decode cX1_tellsIn 16 = .ok (.aload_n 0, 1) := by decide +kernel
theorem dX1_tellsIn_17 : decode cX1_tellsIn 17 = .ok (.getfield 20, 3) := by decide +kernel
theorem dX1_tellsIn_20 : decode cX1_tellsIn 20 = .ok (.iload_n 2, 1) := by decide +kernel
theorem dX1_tellsIn_21 : decode cX1_tellsIn 21 = .ok (.iload_n 3, 1) := by decide +kernel
theorem dX1_tellsIn_22 : decode cX1_tellsIn 22 = .ok (.invokevirtual 35, 3) := by decide +kernel
theorem dX1_tellsIn_25 : decode cX1_tellsIn 25 = .ok (.ireturn, 1) := by decide +kernel
theorem dX1_tellsIn_26 : decode cX1_tellsIn 26 = .ok (.aload_n 0, 1) := by decide +kernel
theorem dX1_tellsIn_27 : decode cX1_tellsIn 27 = .ok (.iload_n 2, 1) := by decide +kernel
theorem dX1_tellsIn_28 : decode cX1_tellsIn 28 = .ok (.iload_n 3, 1) := by decide +kernel
theorem dX1_tellsIn_29 : decode cX1_tellsIn 29 = .ok (.invokevirtual 41, 3) := by decide +kernel
theorem dX1_tellsIn_32 : decode cX1_tellsIn 32 = .ok (.istore 4, 2) := by decide +kernel
theorem dX1_tellsIn_34 : decode cX1_tellsIn 34 = .ok (.aload_n 0, 1) := by decide +kernel
theorem dX1_tellsIn_35 : decode cX1_tellsIn 35 = .ok (.iload_n 2, 1) := by decide +kernel
theorem dX1_tellsIn_36 : decode cX1_tellsIn 36 = .ok (.iload_n 3, 1) := by decide +kernel
theorem dX1_tellsIn_37 : decode cX1_tellsIn 37 = .ok (.invokevirtual 44, 3) := by decide +kernel
theorem dX1_tellsIn_40 : decode cX1_tellsIn 40 = .ok (.istore 5, 2) := by decide +kernel
theorem dX1_tellsIn_42 : decode cX1_tellsIn 42 = .ok (.iload 4, 2) := by decide +kernel
theorem dX1_tellsIn_44 : decode cX1_tellsIn 44 = .ok (.ifCond .lt 18, 3) := by decide +kernel
theorem dX1_tellsIn_47 : decode cX1_tellsIn 47 = .ok (.iload 5, 2) := by decide +kernel
theorem dX1_tellsIn_49 : decode cX1_tellsIn 49 = .ok (.ifCond .lt 13, 3) := by decide +kernel
theorem dX1_tellsIn_52 : decode cX1_tellsIn 52 = .ok (.iload 5, 2) := by decide +kernel
theorem dX1_tellsIn_54 : decode cX1_tellsIn 54 = .ok (.iload 4, 2) := by decide +kernel
theorem dX1_tellsIn_56 : decode cX1_tellsIn 56 = .ok (.isub, 1) := by decide +kernel
theorem dX1_tellsIn_57 : decode cX1_tellsIn 57 = .ok (.bipush 6, 2) := by decide +kernel
theorem dX1_tellsIn_59 : decode cX1_tellsIn 59 = .ok (.if_icmp .le 6, 3) := by decide +kernel
theorem dX1_tellsIn_62 : decode cX1_tellsIn 62 = .ok (.ldc 47, 2) := by decide +kernel
theorem dX1_tellsIn_64 : decode cX1_tellsIn 64 = .ok (.ireturn, 1) := by decide +kernel
theorem dX1_tellsIn_65 : decode cX1_tellsIn 65 = .ok (.aload_n 1, 1) := by decide +kernel
theorem dX1_tellsIn_66 : decode cX1_tellsIn 66 = .ok (.aload_n 0, 1) := by decide +kernel
theorem dX1_tellsIn_67 : decode cX1_tellsIn 67 = .ok (.getfield 20, 3) := by decide +kernel
theorem dX1_tellsIn_70 : decode cX1_tellsIn 70 = .ok (.iload_n 2, 1) := by decide +kernel
theorem dX1_tellsIn_71 : decode cX1_tellsIn 71 = .ok (.iload 4, 2) := by decide +kernel
theorem dX1_tellsIn_73 : decode cX1_tellsIn 73 = .ok (.invokevirtual 35, 3) := by decide +kernel
theorem dX1_tellsIn_76 : decode cX1_tellsIn 76 = .ok (.istore 6, 2) := by decide +kernel
theorem dX1_tellsIn_78 : decode cX1_tellsIn 78 = .ok (.aload_n 1, 1) := by decide +kernel
theorem dX1_tellsIn_79 : decode cX1_tellsIn 79 = .ok (.aload_n 0, 1) := by decide +kernel
theorem dX1_tellsIn_80 : decode cX1_tellsIn 80 = .ok (.getfield 20, 3) := by decide +kernel
theorem dX1_tellsIn_83 : decode cX1_tellsIn 83 = .ok (.iload_n 2, 1) := by decide +kernel
theorem dX1_tellsIn_84 : decode cX1_tellsIn 84 = .ok (.iload 5, 2) := by decide +kernel
theorem dX1_tellsIn_86 : decode cX1_tellsIn 86 = .ok (.invokevirtual 35, 3) := by decide +kernel
theorem dX1_tellsIn_89 : decode cX1_tellsIn 89 = .ok (.istore 7, 2) := by decide +kernel
theorem dX1_tellsIn_91 : decode cX1_tellsIn 91 = .ok (.iload 6, 2) := by decide +kernel
theorem dX1_tellsIn_93 : decode cX1_tellsIn 93 = .ok (.iload 7, 2) := by decide +kernel
theorem dX1_tellsIn_95 : decode cX1_tellsIn 95 = .ok (.iload_n 3, 1) := by decide +kernel
theorem dX1_tellsIn_96 : decode cX1_tellsIn 96 = .ok (.iload 4, 2) := by decide +kernel
theorem dX1_tellsIn_98 : decode cX1_tellsIn 98 = .ok (.isub, 1) := by decide +kernel
theorem dX1_tellsIn_99 : decode cX1_tellsIn 99 = .ok (.iload 5, 2) := by decide +kernel
theorem dX1_tellsIn_101 : decode cX1_tellsIn 101 = .ok (.iload 4, 2) := by decide +kernel
theorem dX1_tellsIn_103 : decode cX1_tellsIn 103 = .ok (.isub, 1) := by decide +kernel
theorem dX1_tellsIn_104 : decode cX1_tellsIn 104 = .ok (.invokestatic 48, 3) := by decide +kernel
theorem dX1_tellsIn_107 : decode cX1_tellsIn 107 = .ok (.ireturn, 1) := by decide +kernel
theorem dX1_workedBefore_0 : decode cX1_workedBefore 0 = .ok (.iload_n 2, 1) := by decide +kernel
theorem dX1_workedBefore_1 : decode cX1_workedBefore 1 = .ok (.iconst 1, 1) := by decide +kernel
theorem dX1_workedBefore_2 : decode cX1_workedBefore 2 = .ok (.isub, 1) := by decide +kernel
theorem dX1_workedBefore_3 : decode cX1_workedBefore 3 = .ok (.istore_n 3, 1) := by decide +kernel
theorem dX1_workedBefore_4 : decode cX1_workedBefore 4 = .ok (.iload_n 3, 1) := by decide +kernel
theorem dX1_workedBefore_5 : decode cX1_workedBefore 5 = .ok (.ifCond .lt 26, 3) := by decide +kernel
theorem dX1_workedBefore_8 : decode cX1_workedBefore 8 = .ok (.aload_n 0, 1) := by decide +kernel
theorem dX1_workedBefore_9 : decode cX1_workedBefore 9 = .ok (.getfield 14, 3) := by decide +kernel
theorem dX1_workedBefore_12 : decode cX1_workedBefore 12 = .ok (.iload_n 1, 1) := by decide +kernel
theorem dX1_workedBefore_13 : decode cX1_workedBefore 13 = .ok (.iload_n 3, 1) := by decide +kernel
theorem dX1_workedBefore_14 : decode cX1_workedBefore 14 = .ok (.invokestatic 24, 3) := by decide +kernel
theorem dX1_workedBefore_17 : decode cX1_workedBefore 17 = .ok (.invokevirtual 31, 3) := by decide +kernel
theorem dX1_workedBefore_20 : decode cX1_workedBefore 20 = .ok (.ifCond .ne 5, 3) := by decide +kernel
theorem dX1_workedBefore_23 : decode cX1_workedBefore 23 = .ok (.iload_n 3, 1) := by decide +kernel
theorem dX1_workedBefore_24 : decode cX1_workedBefore 24 = .ok (.ireturn, 1) := by decide +kernel
theorem dX1_workedBefore_25 : decode cX1_workedBefore 25 = .ok (.iinc 3 (-1), 3) := by decide +kernel
theorem dX1_workedBefore_28 : decode cX1_workedBefore 28 = .ok (.goto (-24), 3) := by decide +kernel
theorem dX1_workedBefore_31 : decode cX1_workedBefore 31 = .ok (.iconst (-1), 1) := by decide +kernel
theorem dX1_workedBefore_32 : decode cX1_workedBefore 32 = .ok (.ireturn, 1) := by decide +kernel
theorem dX1_workedBehind_0 : decode cX1_workedBehind 0 = .ok (.iload_n 2, 1) := by decide +kernel
theorem dX1_workedBehind_1 : decode cX1_workedBehind 1 = .ok (.iconst 1, 1) := by decide +kernel
theorem dX1_workedBehind_2 : decode cX1_workedBehind 2 = .ok (.iadd, 1) := by decide +kernel
theorem dX1_workedBehind_3 : decode cX1_workedBehind 3 = .ok (.istore_n 3, 1) := by decide +kernel
theorem dX1_workedBehind_4 : decode cX1_workedBehind 4 = .ok (.iload_n 3, 1) := by decide +kernel
theorem dX1_workedBehind_5 : decode cX1_workedBehind 5 = .ok (.bipush 24, 2) := by decide +kernel
theorem dX1_workedBehind_7 : decode cX1_workedBehind 7 = .ok (.if_icmp .ge 26, 3) := by decide +kernel
theorem dX1_workedBehind_10 : decode cX1_workedBehind 10 = .ok (.aload_n 0, 1) := by decide +kernel
theorem dX1_workedBehind_11 : decode cX1_workedBehind 11 = .ok (.getfield 14, 3) := by decide +kernel
theorem dX1_workedBehind_14 : decode cX1_workedBehind 14 = .ok (.iload_n 1, 1) := by decide +kernel
theorem dX1_workedBehind_15 : decode cX1_workedBehind 15 = .ok (.iload_n 3, 1) := by decide +kernel
theorem dX1_workedBehind_16 : decode cX1_workedBehind 16 = .ok (.invokestatic 24, 3) := by decide +kernel
theorem dX1_workedBehind_19 : decode cX1_workedBehind 19 = .ok (.invokevirtual 31, 3) := by decide +kernel
theorem dX1_workedBehind_22 : decode cX1_workedBehind 22 = .ok (.ifCond .ne 5, 3) := by decide +kernel
theorem dX1_workedBehind_25 : decode cX1_workedBehind 25 = .ok (.iload_n 3, 1) := by decide +kernel
theorem dX1_workedBehind_26 : decode cX1_workedBehind 26 = .ok (.ireturn, 1) := by decide +kernel
theorem dX1_workedBehind_27 : decode cX1_workedBehind 27 = .ok (.iinc 3 1, 3) := by decide +kernel
theorem dX1_workedBehind_30 : decode cX1_workedBehind 30 = .ok (.goto (-26), 3) := by decide +kernel
theorem dX1_workedBehind_33 : decode cX1_workedBehind 33 = .ok (.iconst (-1), 1) := by decide +kernel
theorem dX1_workedBehind_34 : decode cX1_workedBehind 34 = .ok (.ireturn, 1) := by decide +kernel
theorem dX2_init_0 : decode cX2_init 0 = .ok (.aload_n 0, 1) := by decide +kernel
theorem dX2_init_1 : decode cX2_init 1 = .ok (.invokespecial 3, 3) := by decide +kernel
theorem dX2_init_4 : decode cX2_init 4 = .ok (.aload_n 0, 1) := by decide +kernel
theorem dX2_init_5 : decode cX2_init 5 = .ok (.iconst 3, 1) := by decide +kernel
theorem dX2_init_6 : decode cX2_init 6 = .ok (.anewarray 9, 3) := by decide +kernel
theorem dX2_init_9 : decode cX2_init 9 = .ok (.putfield 11, 3) := by decide +kernel
theorem dX2_init_12 : decode cX2_init 12 = .ok (.aload_n 0, 1) := by decide +kernel
theorem dX2_init_13 : decode cX2_init 13 = .ok (.iconst 0, 1) := by decide +kernel
theorem dX2_init_14 : decode cX2_init 14 = .ok (.putfield 17, 3) := by decide +kernel
theorem dX2_init_17 : decode cX2_init 17 = .ok (.return_, 1) := by decide +kernel
theorem dX2_areFull_0 : decode cX2_areFull 0 = .ok (.aload_n 0, 1) := by decide +kernel
theorem dX2_areFull_1 : decode cX2_areFull 1 = .ok (.getfield 17, 3) := by decide +kernel
theorem dX2_areFull_4 : decode cX2_areFull 4 = .ok (.aload_n 0, 1) := by decide +kernel
theorem dX2_areFull_5 : decode cX2_areFull 5 = .ok (.getfield 11, 3) := by decide +kernel
theorem dX2_areFull_8 : decode cX2_areFull 8 = .ok (.arraylength, 1) := by decide +kernel
theorem dX2_areFull_9 : decode cX2_areFull 9 = .ok (.if_icmp .lt 7, 3) := by decide +kernel
theorem dX2_areFull_12 : decode cX2_areFull 12 = .ok (.iconst 1, 1) := by decide +kernel
theorem dX2_areFull_13 : decode cX2_areFull 13 = .ok (.goto 4, 3) := by decide +kernel
theorem dX2_areFull_16 : decode cX2_areFull 16 = .ok (.iconst 0, 1) := by decide +kernel
theorem dX2_areFull_17 : decode cX2_areFull 17 = .ok (.ireturn, 1) := by decide +kernel
theorem dX2_standIn_0 : decode cX2_standIn 0 = .ok (.iconst 0, 1) := by decide +kernel
theorem dX2_standIn_1 : decode cX2_standIn 1 = .ok (.istore_n 2, 1) := by decide +kernel
theorem dX2_standIn_2 : decode cX2_standIn 2 = .ok (.iload_n 2, 1) := by decide +kernel
theorem dX2_standIn_3 : decode cX2_standIn 3 = .ok (.aload_n 0, 1) := by decide +kernel
theorem dX2_standIn_4 : decode cX2_standIn 4 = .ok (.getfield 17, 3) := by decide +kernel
theorem dX2_standIn_7 : decode cX2_standIn 7 = .ok (.if_icmp .ge 29, 3) := by decide +kernel
theorem dX2_standIn_10 : decode cX2_standIn 10 = .ok (.aload_n 0, 1) := by decide +kernel
theorem dX2_standIn_11 : decode cX2_standIn 11 = .ok (.iload_n 2, 1) := by decide +kernel
theorem dX2_standIn_12 : decode cX2_standIn 12 = .ok (.invokevirtual 21, 3) := by decide +kernel
theorem dX2_standIn_15 : decode cX2_standIn 15 = .ok (.astore_n 3, 1) := by decide +kernel
theorem dX2_standIn_16 : decode cX2_standIn 16 = .ok (.aload_n 3, 1) := by decide +kernel
theorem dX2_standIn_17 : decode cX2_standIn 17 = .ok (.ifnull 13, 3) := by decide +kernel
theorem dX2_standIn_20 : decode cX2_standIn 20 = .ok (.aload_n 3, 1) := by decide +kernel
theorem dX2_standIn_21 : decode cX2_standIn 21 = .ok (.invokevirtual 25, 3) := by decide +kernel
theorem dX2_standIn_24 : decode cX2_standIn 24 = .ok (.iload_n 1, 1) := by decide +kernel
theorem dX2_standIn_25 : decode cX2_standIn 25 = .ok (.if_icmp .ne 5, 3) := by decide +kernel
theorem dX2_standIn_28 : decode cX2_standIn 28 = .ok (.iconst 1, 1) := by decide +kernel
theorem dX2_standIn_29 : decode cX2_standIn 29 = .ok (.ireturn, 1) := by decide +kernel
theorem dX2_standIn_30 : decode cX2_standIn 30 = .ok (.iinc 2 1, 3) := by decide +kernel
theorem dX2_standIn_33 : decode cX2_standIn 33 = .ok (.goto (-31), 3) := by decide +kernel
theorem dX2_standIn_36 : decode cX2_standIn 36 = .ok (.iconst 0, 1) := by decide +kernel
theorem dX2_standIn_37 : decode cX2_standIn 37 = .ok (.ireturn, 1) := by decide +kernel
theorem dX2_placeIn_0 : decode cX2_placeIn 0 = .ok (.aload_n 0, 1) := by decide +kernel
theorem dX2_placeIn_1 : decode cX2_placeIn 1 = .ok (.getfield 17, 3) := by decide +kernel
theorem dX2_placeIn_4 : decode cX2_placeIn 4 = .ok (.istore_n 2, 1) := by decide +kernel
theorem dX2_placeIn_5 : decode cX2_placeIn 5 = .ok (.iload_n 2, 1) := by decide +kernel
theorem dX2_placeIn_6 : decode cX2_placeIn 6 = .ok (.ifCond .lt 33, 3) := by decide +kernel
theorem dX2_placeIn_9 : decode cX2_placeIn 9 = .ok (.iload_n 2, 1) := by decide +kernel
theorem dX2_placeIn_10 : decode cX2_placeIn 10 = .ok (.aload_n 0, 1) := by decide +kernel
theorem dX2_placeIn_11 : decode cX2_placeIn 11 = .ok (.getfield 11, 3) := by decide +kernel
theorem dX2_placeIn_14 : decode cX2_placeIn 14 = .ok (.arraylength, 1) := by decide +kernel
theorem dX2_placeIn_15 : decode cX2_placeIn 15 = .ok (.if_icmp .ge 24, 3) := by decide +kernel
theorem dX2_placeIn_18 : decode cX2_placeIn 18 = .ok (.aload_n 0, 1) := by decide +kernel
theorem dX2_placeIn_19 : decode cX2_placeIn 19 = .ok (.getfield 11, 3) := by decide +kernel
theorem dX2_placeIn_22 : decode cX2_placeIn 22 = .ok (.iload_n 2, 1) := by decide +kernel
theorem dX2_placeIn_23 : decode cX2_placeIn 23 = .ok (.new 9, 3) := by decide +kernel
theorem dX2_placeIn_26 : decode cX2_placeIn 26 = .ok (.dup, 1) := by decide +kernel
theorem dX2_placeIn_27 : decode cX2_placeIn 27 = .ok (.iload_n 1, 1) := by decide +kernel
theorem dX2_placeIn_28 : decode cX2_placeIn 28 = .ok (.invokespecial 29, 3) := by decide +kernel
theorem dX2_placeIn_31 : decode cX2_placeIn 31 = .ok (.aastore, 1) := by decide +kernel
theorem dX2_placeIn_32 : decode cX2_placeIn 32 = .ok (.aload_n 0, 1) := by decide +kernel
theorem dX2_placeIn_33 : decode cX2_placeIn 33 = .ok (.iload_n 2, 1) := by decide +kernel
theorem dX2_placeIn_34 : decode cX2_placeIn 34 = .ok (.iconst 1, 1) := by decide +kernel
theorem dX2_placeIn_35 : decode cX2_placeIn 35 = .ok (.iadd, 1) := by decide +kernel
theorem dX2_placeIn_36 : decode cX2_placeIn 36 = .ok (.putfield 17, 3) := by decide +kernel
theorem dX2_placeIn_39 : decode cX2_placeIn 39 = .ok (.iload_n 2, 1) := by decide +kernel
theorem dX2_placeIn_40 : decode cX2_placeIn 40 = .ok (.ireturn, 1) := by decide +kernel
theorem dX2_gaugeOrNull_0 : decode cX2_gaugeOrNull 0 = .ok (.iload_n 1, 1) := by decide +kernel
theorem dX2_gaugeOrNull_1 : decode cX2_gaugeOrNull 1 = .ok (.ifCond .lt 29, 3) := by decide +kernel
theorem dX2_gaugeOrNull_4 : decode cX2_gaugeOrNull 4 = .ok (.iload_n 1, 1) := by decide +kernel
theorem dX2_gaugeOrNull_5 : decode cX2_gaugeOrNull 5 = .ok (.aload_n 0, 1) := by decide +kernel
theorem dX2_gaugeOrNull_6 : decode cX2_gaugeOrNull 6 = .ok (.getfield 17, 3) := by decide +kernel
theorem dX2_gaugeOrNull_9 : decode cX2_gaugeOrNull 9 = .ok (.if_icmp .ge 21, 3) := by decide +kernel
theorem dX2_gaugeOrNull_12 : decode cX2_gaugeOrNull 12 = .ok (.iload_n 1, 1) := by decide +kernel
theorem dX2_gaugeOrNull_13 : decode cX2_gaugeOrNull 13 = .ok (.aload_n 0, 1) := by decide +kernel
theorem dX2_gaugeOrNull_14 : decode cX2_gaugeOrNull 14 = .ok (.getfield 11, 3) := by decide +kernel
theorem dX2_gaugeOrNull_17 : decode cX2_gaugeOrNull 17 = .ok (.arraylength, 1) := by decide +kernel
theorem dX2_gaugeOrNull_18 : decode cX2_gaugeOrNull 18 = .ok (.if_icmp .ge 12, 3) := by decide +kernel
theorem dX2_gaugeOrNull_21 : decode cX2_gaugeOrNull 21 = .ok (.aload_n 0, 1) := by decide +kernel
theorem dX2_gaugeOrNull_22 : decode cX2_gaugeOrNull 22 = .ok (.getfield 11, 3) := by decide +kernel
theorem dX2_gaugeOrNull_25 : decode cX2_gaugeOrNull 25 = .ok (.iload_n 1, 1) := by decide +kernel
theorem dX2_gaugeOrNull_26 : decode cX2_gaugeOrNull 26 = .ok (.aaload, 1) := by decide +kernel
theorem dX2_gaugeOrNull_27 : decode cX2_gaugeOrNull 27 = .ok (.goto 4, 3) := by decide +kernel
theorem dX2_gaugeOrNull_30 : decode cX2_gaugeOrNull 30 = .ok (.aconst_null, 1) := by decide +kernel
theorem dX2_gaugeOrNull_31 : decode cX2_gaugeOrNull 31 = .ok (.areturn, 1) := by decide +kernel
theorem dX2_tideIn_0 : decode cX2_tideIn 0 = .ok (.iconst (-1), 1) := by decide +kernel
theorem dX2_tideIn_1 : decode cX2_tideIn 1 = .ok (.istore 5, 2) := by decide +kernel
theorem dX2_tideIn_3 : decode cX2_tideIn 3 = .ok (.bipush 20, 2) := by decide +kernel
theorem dX2_tideIn_5 : decode cX2_tideIn 5 = .ok (.istore 6, 2) := by decide +kernel
theorem dX2_tideIn_7 : decode cX2_tideIn 7 = .ok (.ldc 32, 2) := by decide +kernel
theorem dX2_tideIn_9 : decode cX2_tideIn 9 = .ok (.istore 7, 2) := by decide +kernel
theorem dX2_tideIn_11 : decode cX2_tideIn 11 = .ok (.ldc 32, 2) := by decide +kernel
theorem dX2_tideIn_13 : decode cX2_tideIn 13 = .ok (.istore 8, 2) := by decide +kernel
theorem dX2_tideIn_15 : decode cX2_tideIn 15 = .ok (.iconst 0, 1) := by decide +kernel
theorem dX2_tideIn_16 : decode cX2_tideIn 16 = .ok (.istore 9, 2) := by decide +kernel
theorem dX2_tideIn_18 : decode cX2_tideIn 18 = .ok (.iload 9, 2) := by decide +kernel
theorem dX2_tideIn_20 : decode cX2_tideIn 20 = .ok (.aload_n 0, 1) := by decide +kernel
theorem dX2_tideIn_21 : decode cX2_tideIn 21 = .ok (.getfield 17, 3) := by decide +kernel
theorem dX2_tideIn_24 : decode cX2_tideIn 24 = .ok (.if_icmp .ge 111, 3) := by decide +kernel
theorem dX2_tideIn_27 : decode cX2_tideIn 27 = .ok (.aload_n 0, 1) := by decide +kernel
theorem dX2_tideIn_28 : decode cX2_tideIn 28 = .ok (.iload 9, 2) := by decide +kernel
theorem dX2_tideIn_30 : decode cX2_tideIn 30 = .ok (.invokevirtual 21, 3) := by decide +kernel
theorem dX2_tideIn_33 : decode cX2_tideIn 33 = .ok (.astore 10, 2) := by decide +kernel
theorem dX2_tideIn_35 : decode cX2_tideIn 35 = .ok (.aload 10, 2) := by decide +kernel
theorem dX2_tideIn_37 : decode cX2_tideIn 37 = .ok (.ifnonnull 8, 3) := by decide +kernel
theorem dX2_tideIn_40 : decode cX2_tideIn 40 = .ok (.ldc 32, 2) := by decide +kernel
theorem dX2_tideIn_42 : decode cX2_tideIn 42 = .ok (.goto 12, 3) := by decide +kernel
theorem dX2_tideIn_45 : decode cX2_tideIn 45 = .ok (.aload 10, 2) := by decide +kernel
theorem dX2_tideIn_47 : decode cX2_tideIn 47 = .ok (.aload_n 1, 1) := by decide +kernel
theorem dX2_tideIn_48 : decode cX2_tideIn 48 = .ok (.iload_n 3, 1) := by decide +kernel
theorem dX2_tideIn_49 : decode cX2_tideIn 49 = .ok (.iload 4, 2) := by decide +kernel
theorem dX2_tideIn_51 : decode cX2_tideIn 51 = .ok (.invokevirtual 33, 3) := by decide +kernel
theorem dX2_tideIn_54 : decode cX2_tideIn 54 = .ok (.istore 11, 2) := by decide +kernel
theorem dX2_tideIn_56 : decode cX2_tideIn 56 = .ok (.aload 10, 2) := by decide +kernel
theorem dX2_tideIn_58 : decode cX2_tideIn 58 = .ok (.ifnull 71, 3) := by decide +kernel
theorem dX2_tideIn_61 : decode cX2_tideIn 61 = .ok (.iload 11, 2) := by decide +kernel
theorem dX2_tideIn_63 : decode cX2_tideIn 63 = .ok (.ldc 32, 2) := by decide +kernel
theorem dX2_tideIn_65 : decode cX2_tideIn 65 = .ok (.if_icmp .ne 6, 3) := by decide +kernel
theorem dX2_tideIn_68 : decode cX2_tideIn 68 = .ok (.goto 61, 3) := by decide +kernel
theorem dX2_tideIn_71 : decode cX2_tideIn 71 = .ok (.aload 10, 2) := by decide +kernel
theorem dX2_tideIn_73 : decode cX2_tideIn 73 = .ok (.invokevirtual 25, 3) := by decide +kernel
theorem dX2_tideIn_76 : decode cX2_tideIn 76 = .ok (.istore 12, 2) := by decide +kernel
theorem dX2_tideIn_78 : decode cX2_tideIn 78 = .ok (.iload 12, 2) := by decide +kernel
theorem dX2_tideIn_80 : decode cX2_tideIn 80 = .ok (.iload_n 2, 1) := by decide +kernel
theorem dX2_tideIn_81 : decode cX2_tideIn 81 = .ok (.if_icmp .ne 6, 3) := by decide +kernel
theorem dX2_tideIn_84 : decode cX2_tideIn 84 = .ok (.iload 11, 2) := by decide +kernel
theorem dX2_tideIn_86 : decode cX2_tideIn 86 = .ok (.ireturn, 1) := by decide +kernel
theorem dX2_tideIn_87 : decode cX2_tideIn 87 = .ok (.iload 12, 2) := by decide +kernel
theorem dX2_tideIn_89 : decode cX2_tideIn 89 = .ok (.iload_n 2, 1) := by decide +kernel
theorem dX2_tideIn_90 : decode cX2_tideIn 90 = .ok (.if_icmp .ge 18, 3) := by decide +kernel
theorem dX2_tideIn_93 : decode cX2_tideIn 93 = .ok (.iload 12, 2) := by decide +kernel
theorem dX2_tideIn_95 : decode cX2_tideIn 95 = .ok (.iload 5, 2) := by decide +kernel
theorem dX2_tideIn_97 : decode cX2_tideIn 97 = .ok (.if_icmp .le 11, 3) := by decide +kernel
theorem dX2_tideIn_100 : decode cX2_tideIn 100 = .ok (.iload 12, 2) := by decide +kernel
theorem dX2_tideIn_102 : decode cX2_tideIn 102 = .ok (.istore 5, 2) := by decide +kernel
theorem dX2_tideIn_104 : decode cX2_tideIn 104 = .ok (.iload 11, 2) := by decide +kernel
theorem dX2_tideIn_106 : decode cX2_tideIn 106 = .ok (.istore 7, 2) := by decide +kernel
theorem dX2_tideIn_108 : decode cX2_tideIn 108 = .ok (.iload 12, 2) := by decide +kernel
theorem dX2_tideIn_110 : decode cX2_tideIn 110 = .ok (.iload_n 2, 1) := by decide +kernel
theorem dX2_tideIn_111 : decode cX2_tideIn 111 = .ok (.if_icmp .le 18, 3) := by decide +kernel
theorem dX2_tideIn_114 : decode cX2_tideIn 114 = .ok (.iload 12, 2) := by decide +kernel
theorem dX2_tideIn_116 : decode cX2_tideIn 116 = .ok (.iload 6, 2) := by decide +kernel
theorem dX2_tideIn_118 : decode cX2_tideIn 118 = .ok (.if_icmp .ge 11, 3) := by decide +kernel
theorem dX2_tideIn_121 : decode cX2_tideIn 121 = .ok (.iload 12, 2) := by decide +kernel
theorem dX2_tideIn_123 : decode cX2_tideIn 123 = .ok (.istore 6, 2) := by decide +kernel
theorem dX2_tideIn_125 : decode cX2_tideIn 125 = .ok (.iload 11, 2) := by decide +kernel
theorem dX2_tideIn_127 : decode cX2_tideIn 127 = .ok (.istore 8, 2) := by decide +kernel
theorem dX2_tideIn_129 : decode cX2_tideIn 129 = .ok (.iinc 9 1, 3) := by decide +kernel
theorem dX2_tideIn_132 : decode cX2_tideIn 132 = .ok (.goto (-114), 3) := by decide +kernel
theorem dX2_tideIn_135 : decode cX2_tideIn 135 = .ok (.iload 7, 2) := by decide +kernel
theorem dX2_tideIn_137 : decode cX2_tideIn 137 = .ok (.ldc 32, 2) := by decide +kernel
theorem dX2_tideIn_139 : decode cX2_tideIn 139 = .ok (.if_icmp .ne 6, 3) := by decide +kernel
theorem dX2_tideIn_142 : decode cX2_tideIn 142 = .ok (.iload 8, 2) := by decide +kernel
theorem dX2_tideIn_144 : decode cX2_tideIn 144 = .ok (.ireturn, 1) := by decide +kernel
theorem dX2_tideIn_145 : decode cX2_tideIn 145 = .ok (.iload 8, 2) := by decide +kernel
theorem dX2_tideIn_147 : decode cX2_tideIn 147 = .ok (.ldc 32, 2) := by decide +kernel
theorem dX2_tideIn_149 : decode cX2_tideIn 149 = .ok (.if_icmp .ne 8, 3) := by decide +kernel
theorem dX2_tideIn_152 : decode cX2_tideIn 152 = .ok (.iload 7, 2) := by decide +kernel
theorem dX2_tideIn_154 : decode cX2_tideIn 154 = .ok (.goto 19, 3) := by decide +kernel
theorem dX2_tideIn_157 : decode cX2_tideIn 157 = .ok (.iload 7, 2) := by decide +kernel
theorem dX2_tideIn_159 : decode cX2_tideIn 159 = .ok (.iload 8, 2) := by decide +kernel
theorem dX2_tideIn_161 : decode cX2_tideIn 161 = .ok (.iload_n 2, 1) := by decide +kernel
theorem dX2_tideIn_162 : decode cX2_tideIn 162 = .ok (.iload 5, 2) := by decide +kernel
theorem dX2_tideIn_164 : decode cX2_tideIn 164 = .ok (.isub, 1) := by decide +kernel
theorem dX2_tideIn_165 : decode cX2_tideIn 165 = .ok (.iload 6, 2) := by decide +kernel
theorem dX2_tideIn_167 : decode cX2_tideIn 167 = .ok (.iload 5, 2) := by decide +kernel
theorem dX2_tideIn_169 : decode cX2_tideIn 169 = .ok (.isub, 1) := by decide +kernel
theorem dX2_tideIn_170 : decode cX2_tideIn 170 = .ok (.invokestatic 37, 3) := by decide +kernel
theorem dX2_tideIn_173 : decode cX2_tideIn 173 = .ok (.ireturn, 1) := by decide +kernel
theorem dX3_init_0 : decode cX3_init 0 = .ok (.aload_n 0, 1) := by decide +kernel
theorem dX3_init_1 : decode cX3_init 1 = .ok (.invokespecial 3, 3) := by decide +kernel
theorem dX3_init_4 : decode cX3_init 4 = .ok (.aload_n 0, 1) := by decide +kernel
theorem dX3_init_5 : decode cX3_init 5 = .ok (.iconst 0, 1) := by decide +kernel
theorem dX3_init_6 : decode cX3_init 6 = .ok (.putfield 9, 3) := by decide +kernel
theorem dX3_init_9 : decode cX3_init 9 = .ok (.aload_n 0, 1) := by decide +kernel
theorem dX3_init_10 : decode cX3_init 10 = .ok (.iconst 0, 1) := by decide +kernel
theorem dX3_init_11 : decode cX3_init 11 = .ok (.putfield 15, 3) := by decide +kernel
theorem dX3_init_14 : decode cX3_init 14 = .ok (.aload_n 0, 1) := by decide +kernel
theorem dX3_init_15 : decode cX3_init 15 = .ok (.new 18, 3) := by decide +kernel
theorem dX3_init_18 : decode cX3_init 18 = .ok (.dup, 1) := by decide +kernel
theorem dX3_init_19 : decode cX3_init 19 = .ok (.sipush 140, 3) := by decide +kernel
theorem dX3_init_22 : decode cX3_init 22 = .ok (.ldc 20, 2) := by decide +kernel
theorem dX3_init_24 : decode cX3_init 24 = .ok (.invokespecial 21, 3) := by decide +kernel
theorem dX3_init_27 : decode cX3_init 27 = .ok (.putfield 24, 3) := by decide +kernel
theorem dX3_init_30 : decode cX3_init 30 = .ok (.aload_n 0, 1) := by decide +kernel
theorem dX3_init_31 : decode cX3_init 31 = .ok (.new 18, 3) := by decide +kernel
theorem dX3_init_34 : decode cX3_init 34 = .ok (.dup, 1) := by decide +kernel
theorem dX3_init_35 : decode cX3_init 35 = .ok (.sipush 140, 3) := by decide +kernel
theorem dX3_init_38 : decode cX3_init 38 = .ok (.iconst 0, 1) := by decide +kernel
theorem dX3_init_39 : decode cX3_init 39 = .ok (.invokespecial 21, 3) := by decide +kernel
theorem dX3_init_42 : decode cX3_init 42 = .ok (.putfield 28, 3) := by decide +kernel
theorem dX3_init_45 : decode cX3_init 45 = .ok (.aload_n 0, 1) := by decide +kernel
theorem dX3_init_46 : decode cX3_init 46 = .ok (.new 18, 3) := by decide +kernel
theorem dX3_init_49 : decode cX3_init 49 = .ok (.dup, 1) := by decide +kernel
theorem dX3_init_50 : decode cX3_init 50 = .ok (.sipush 140, 3) := by decide +kernel
theorem dX3_init_53 : decode cX3_init 53 = .ok (.ldc 20, 2) := by decide +kernel
theorem dX3_init_55 : decode cX3_init 55 = .ok (.invokespecial 21, 3) := by decide +kernel
theorem dX3_init_58 : decode cX3_init 58 = .ok (.putfield 31, 3) := by decide +kernel
theorem dX3_init_61 : decode cX3_init 61 = .ok (.aload_n 0, 1) := by decide +kernel
theorem dX3_init_62 : decode cX3_init 62 = .ok (.iload_n 1, 1) := by decide +kernel
theorem dX3_init_63 : decode cX3_init 63 = .ok (.putfield 34, 3) := by decide +kernel
theorem dX3_init_66 : decode cX3_init 66 = .ok (.aload_n 0, 1) := by decide +kernel
theorem dX3_init_67 : decode cX3_init 67 = .ok (.iload_n 2, 1) := by decide +kernel
theorem dX3_init_68 : decode cX3_init 68 = .ok (.putfield 38, 3) := by decide +kernel
theorem dX3_init_71 : decode cX3_init 71 = .ok (.aload_n 0, 1) := by decide +kernel
theorem dX3_init_72 : decode cX3_init 72 = .ok (.iload_n 3, 1) := by decide +kernel
theorem dX3_init_73 : decode cX3_init 73 = .ok (.putfield 41, 3) := by decide +kernel
theorem dX3_init_76 : decode cX3_init 76 = .ok (.aload_n 0, 1) := by decide +kernel
theorem dX3_init_77 : decode cX3_init 77 = .ok (.iload 4, 2) := by decide +kernel
theorem dX3_init_79 : decode cX3_init 79 = .ok (.putfield 44, 3) := by decide +kernel
theorem dX3_init_82 : decode cX3_init 82 = .ok (.aload_n 0, 1) := by decide +kernel
theorem dX3_init_83 : decode cX3_init 83 = .ok (.iload 4, 2) := by decide +kernel
theorem dX3_init_85 : decode cX3_init 85 = .ok (.iload_n 3, 1) := by decide +kernel
theorem dX3_init_86 : decode cX3_init 86 = .ok (.isub, 1) := by decide +kernel
theorem dX3_init_87 : decode cX3_init 87 = .ok (.invokestatic 47, 3) := by decide +kernel
theorem dX3_init_90 : decode cX3_init 90 = .ok (.iconst 1, 1) := by decide +kernel
theorem dX3_init_91 : decode cX3_init 91 = .ok (.iadd, 1) := by decide +kernel
theorem dX3_init_92 : decode cX3_init 92 = .ok (.putfield 53, 3) := by decide +kernel
theorem dX3_init_95 : decode cX3_init 95 = .ok (.return_, 1) := by decide +kernel
theorem dX3_ranOn_0 : decode cX3_ranOn 0 = .ok (.aload_n 0, 1) := by decide +kernel
theorem dX3_ranOn_1 : decode cX3_ranOn 1 = .ok (.getfield 9, 3) := by decide +kernel
theorem dX3_ranOn_4 : decode cX3_ranOn 4 = .ok (.ireturn, 1) := by decide +kernel
theorem dX3_lastBehind_0 : decode cX3_lastBehind 0 = .ok (.aload_n 0, 1) := by decide +kernel
theorem dX3_lastBehind_1 : decode cX3_lastBehind 1 = .ok (.getfield 41, 3) := by decide +kernel
theorem dX3_lastBehind_4 : decode cX3_lastBehind 4 = .ok (.aload_n 0, 1) := by decide +kernel
theorem dX3_lastBehind_5 : decode cX3_lastBehind 5 = .ok (.getfield 44, 3) := by decide +kernel
theorem dX3_lastBehind_8 : decode cX3_lastBehind 8 = .ok (.invokestatic 56, 3) := by decide +kernel
theorem dX3_lastBehind_11 : decode cX3_lastBehind 11 = .ok (.ireturn, 1) := by decide +kernel
theorem dX3_isSoundedIn_0 : decode cX3_isSoundedIn 0 = .ok (.aload_n 0, 1) := by decide +kernel
theorem dX3_isSoundedIn_1 : decode cX3_isSoundedIn 1 = .ok (.getfield 9, 3) := by decide +kernel
theorem dX3_isSoundedIn_4 : decode cX3_isSoundedIn 4 = .ok (.iload_n 1, 1) := by decide +kernel
theorem dX3_isSoundedIn_5 : decode cX3_isSoundedIn 5 = .ok (.if_icmp .ne 28, 3) := by decide +kernel
theorem dX3_isSoundedIn_8 : decode cX3_isSoundedIn 8 = .ok (.aload_n 0, 1) := by decide +kernel
theorem dX3_isSoundedIn_9 : decode cX3_isSoundedIn 9 = .ok (.getfield 15, 3) := by decide +kernel
theorem dX3_isSoundedIn_12 : decode cX3_isSoundedIn 12 = .ok (.iload_n 3, 1) := by decide +kernel
theorem dX3_isSoundedIn_13 : decode cX3_isSoundedIn 13 = .ok (.if_icmp .gt 20, 3) := by decide +kernel
theorem dX3_isSoundedIn_16 : decode cX3_isSoundedIn 16 = .ok (.aload_n 0, 1) := by decide +kernel
theorem dX3_isSoundedIn_17 : decode cX3_isSoundedIn 17 = .ok (.getfield 15, 3) := by decide +kernel
theorem dX3_isSoundedIn_20 : decode cX3_isSoundedIn 20 = .ok (.aload_n 0, 1) := by decide +kernel
theorem dX3_isSoundedIn_21 : decode cX3_isSoundedIn 21 = .ok (.invokevirtual 60, 3) := by decide +kernel
theorem dX3_isSoundedIn_24 : decode cX3_isSoundedIn 24 = .ok (.iadd, 1) := by decide +kernel
theorem dX3_isSoundedIn_25 : decode cX3_isSoundedIn 25 = .ok (.iload_n 2, 1) := by decide +kernel
theorem dX3_isSoundedIn_26 : decode cX3_isSoundedIn 26 = .ok (.if_icmp .lt 7, 3) := by decide +kernel
theorem dX3_isSoundedIn_29 : decode cX3_isSoundedIn 29 = .ok (.iconst 1, 1) := by decide +kernel
theorem dX3_isSoundedIn_30 : decode cX3_isSoundedIn 30 = .ok (.goto 4, 3) := by decide +kernel
theorem dX3_isSoundedIn_33 : decode cX3_isSoundedIn 33 = .ok (.iconst 0, 1) := by decide +kernel
theorem dX3_isSoundedIn_34 : decode cX3_isSoundedIn 34 = .ok (.ireturn, 1) := by decide +kernel
theorem dX3_soundAll_0 : decode cX3_soundAll 0 = .ok (.aload_n 0, 1) := by decide +kernel
theorem dX3_soundAll_1 : decode cX3_soundAll 1 = .ok (.iload_n 2, 1) := by decide +kernel
theorem dX3_soundAll_2 : decode cX3_soundAll 2 = .ok (.putfield 9, 3) := by decide +kernel
theorem dX3_soundAll_5 : decode cX3_soundAll 5 = .ok (.aload_n 0, 1) := by decide +kernel
theorem dX3_soundAll_6 : decode cX3_soundAll 6 = .ok (.iload_n 3, 1) := by decide +kernel
theorem dX3_soundAll_7 : decode cX3_soundAll 7 = .ok (.putfield 15, 3) := by decide +kernel
theorem dX3_soundAll_10 : decode cX3_soundAll 10 = .ok (.aload_n 0, 1) := by decide +kernel
theorem dX3_soundAll_11 : decode cX3_soundAll 11 = .ok (.getfield 24, 3) := by decide +kernel
theorem dX3_soundAll_14 : decode cX3_soundAll 14 = .ok (.invokevirtual 64, 3) := by decide +kernel
theorem dX3_soundAll_17 : decode cX3_soundAll 17 = .ok (.aload_n 0, 1) := by decide +kernel
theorem dX3_soundAll_18 : decode cX3_soundAll 18 = .ok (.getfield 28, 3) := by decide +kernel
theorem dX3_soundAll_21 : decode cX3_soundAll 21 = .ok (.invokevirtual 64, 3) := by decide +kernel
theorem dX3_soundAll_24 : decode cX3_soundAll 24 = .ok (.iconst 0, 1) := by decide +kernel
theorem dX3_soundAll_25 : decode cX3_soundAll 25 = .ok (.istore 4, 2) := by decide +kernel
theorem dX3_soundAll_27 : decode cX3_soundAll 27 = .ok (.iload 4, 2) := by decide +kernel
theorem dX3_soundAll_29 : decode cX3_soundAll 29 = .ok (.aload_n 0, 1) := by decide +kernel
theorem dX3_soundAll_30 : decode cX3_soundAll 30 = .ok (.getfield 53, 3) := by decide +kernel
theorem dX3_soundAll_33 : decode cX3_soundAll 33 = .ok (.if_icmp .ge 126, 3) := by decide +kernel
theorem dX3_soundAll_36 : decode cX3_soundAll 36 = .ok (.aload_n 1, 1) := by decide +kernel
theorem dX3_soundAll_37 : decode cX3_soundAll 37 = .ok (.aload_n 0, 1) := by decide +kernel
theorem dX3_soundAll_38 : decode cX3_soundAll 38 = .ok (.iload 4, 2) := by decide +kernel
theorem dX3_soundAll_40 : decode cX3_soundAll 40 = .ok (.iconst 0, 1) := by decide +kernel
theorem dX3_soundAll_41 : decode cX3_soundAll 41 = .ok (.invokevirtual 67, 3) := by decide +kernel
theorem dX3_soundAll_44 : decode cX3_soundAll 44 = .ok (.aload_n 0, 1) := by decide +kernel
theorem dX3_soundAll_45 : decode cX3_soundAll 45 = .ok (.getfield 9, 3) := by decide +kernel
theorem dX3_soundAll_48 : decode cX3_soundAll 48 = .ok (.aload_n 0, 1) := by decide +kernel
theorem dX3_soundAll_49 : decode cX3_soundAll 49 = .ok (.iload 4, 2) := by decide +kernel
theorem dX3_soundAll_51 : decode cX3_soundAll 51 = .ok (.invokevirtual 70, 3) := by decide +kernel
theorem dX3_soundAll_54 : decode cX3_soundAll 54 = .ok (.invokevirtual 73, 3) := by decide +kernel
theorem dX3_soundAll_57 : decode cX3_soundAll 57 = .ok (.istore 5, 2) := by decide +kernel
theorem dX3_soundAll_59 : decode cX3_soundAll 59 = .ok (.aload_n 1, 1) := by decide +kernel
theorem dX3_soundAll_60 : decode cX3_soundAll 60 = .ok (.aload_n 0, 1) := by decide +kernel
theorem dX3_soundAll_61 : decode cX3_soundAll 61 = .ok (.iload 4, 2) := by decide +kernel
theorem dX3_soundAll_63 : decode cX3_soundAll 63 = .ok (.iconst 0, 1) := by decide +kernel
theorem dX3_soundAll_64 : decode cX3_soundAll 64 = .ok (.invokevirtual 67, 3) := by decide +kernel
theorem dX3_soundAll_67 : decode cX3_soundAll 67 = .ok (.aload_n 0, 1) := by decide +kernel
theorem dX3_soundAll_68 : decode cX3_soundAll 68 = .ok (.iload 4, 2) := by decide +kernel
theorem dX3_soundAll_70 : decode cX3_soundAll 70 = .ok (.iconst 0, 1) := by decide +kernel
theorem dX3_soundAll_71 : decode cX3_soundAll 71 = .ok (.invokevirtual 79, 3) := by decide +kernel
theorem dX3_soundAll_74 : decode cX3_soundAll 74 = .ok (.invokevirtual 82, 3) := by decide +kernel
theorem dX3_soundAll_77 : decode cX3_soundAll 77 = .ok (.istore 6, 2) := by decide +kernel
theorem dX3_soundAll_79 : decode cX3_soundAll 79 = .ok (.iload 6, 2) := by decide +kernel
theorem dX3_soundAll_81 : decode cX3_soundAll 81 = .ok (.ineg, 1) := by decide +kernel
theorem dX3_soundAll_82 : decode cX3_soundAll 82 = .ok (.istore 7, 2) := by decide +kernel
theorem dX3_soundAll_84 : decode cX3_soundAll 84 = .ok (.iload 7, 2) := by decide +kernel
theorem dX3_soundAll_86 : decode cX3_soundAll 86 = .ok (.iload 6, 2) := by decide +kernel
theorem dX3_soundAll_88 : decode cX3_soundAll 88 = .ok (.if_icmp .gt 65, 3) := by decide +kernel
theorem dX3_soundAll_91 : decode cX3_soundAll 91 = .ok (.aload_n 0, 1) := by decide +kernel
theorem dX3_soundAll_92 : decode cX3_soundAll 92 = .ok (.iload 4, 2) := by decide +kernel
theorem dX3_soundAll_94 : decode cX3_soundAll 94 = .ok (.iload 7, 2) := by decide +kernel
theorem dX3_soundAll_96 : decode cX3_soundAll 96 = .ok (.invokevirtual 67, 3) := by decide +kernel
theorem dX3_soundAll_99 : decode cX3_soundAll 99 = .ok (.istore 8, 2) := by decide +kernel
theorem dX3_soundAll_101 : decode cX3_soundAll 101 = .ok (.aload_n 0, 1) := by decide +kernel
theorem dX3_soundAll_102 : decode cX3_soundAll 102 = .ok (.iload 4, 2) := by decide +kernel
theorem dX3_soundAll_104 : decode cX3_soundAll 104 = .ok (.iload 7, 2) := by decide +kernel
theorem dX3_soundAll_106 : decode cX3_soundAll 106 = .ok (.invokevirtual 79, 3) := by decide +kernel
theorem dX3_soundAll_109 : decode cX3_soundAll 109 = .ok (.istore 9, 2) := by decide +kernel
theorem dX3_soundAll_111 : decode cX3_soundAll 111 = .ok (.iload 8, 2) := by decide +kernel
theorem dX3_soundAll_113 : decode cX3_soundAll 113 = .ok (.iload 9, 2) := by decide +kernel
theorem dX3_soundAll_115 : decode cX3_soundAll 115 = .ok (.invokestatic 85, 3) := by decide +kernel
theorem dX3_soundAll_118 : decode cX3_soundAll 118 = .ok (.ifCond .lt 29, 3) := by decide +kernel
theorem dX3_soundAll_121 : decode cX3_soundAll 121 = .ok (.aload_n 0, 1) := by decide +kernel
theorem dX3_soundAll_122 : decode cX3_soundAll 122 = .ok (.getfield 24, 3) := by decide +kernel
theorem dX3_soundAll_125 : decode cX3_soundAll 125 = .ok (.iload 4, 2) := by decide +kernel
theorem dX3_soundAll_127 : decode cX3_soundAll 127 = .ok (.iload 7, 2) := by decide +kernel
theorem dX3_soundAll_129 : decode cX3_soundAll 129 = .ok (.invokestatic 88, 3) := by decide +kernel
theorem dX3_soundAll_132 : decode cX3_soundAll 132 = .ok (.aload_n 1, 1) := by decide +kernel
theorem dX3_soundAll_133 : decode cX3_soundAll 133 = .ok (.iload 8, 2) := by decide +kernel
theorem dX3_soundAll_135 : decode cX3_soundAll 135 = .ok (.iload 9, 2) := by decide +kernel
theorem dX3_soundAll_137 : decode cX3_soundAll 137 = .ok (.invokevirtual 91, 3) := by decide +kernel
theorem dX3_soundAll_140 : decode cX3_soundAll 140 = .ok (.iload 5, 2) := by decide +kernel
theorem dX3_soundAll_142 : decode cX3_soundAll 142 = .ok (.iadd, 1) := by decide +kernel
theorem dX3_soundAll_143 : decode cX3_soundAll 143 = .ok (.invokevirtual 94, 3) := by decide +kernel
theorem dX3_soundAll_146 : decode cX3_soundAll 146 = .ok (.pop, 1) := by decide +kernel
theorem dX3_soundAll_147 : decode cX3_soundAll 147 = .ok (.iinc 7 1, 3) := by decide +kernel
theorem dX3_soundAll_150 : decode cX3_soundAll 150 = .ok (.goto (-66), 3) := by decide +kernel
theorem dX3_soundAll_153 : decode cX3_soundAll 153 = .ok (.iinc 4 1, 3) := by decide +kernel
theorem dX3_soundAll_156 : decode cX3_soundAll 156 = .ok (.goto (-129), 3) := by decide +kernel
theorem dX3_soundAll_159 : decode cX3_soundAll 159 = .ok (.return_, 1) := by decide +kernel
theorem dX3_putError_0 : decode cX3_putError 0 = .ok (.aload_n 0, 1) := by decide +kernel
theorem dX3_putError_1 : decode cX3_putError 1 = .ok (.getfield 28, 3) := by decide +kernel
theorem dX3_putError_4 : decode cX3_putError 4 = .ok (.iload_n 1, 1) := by decide +kernel
theorem dX3_putError_5 : decode cX3_putError 5 = .ok (.iload_n 2, 1) := by decide +kernel
theorem dX3_putError_6 : decode cX3_putError 6 = .ok (.invokestatic 88, 3) := by decide +kernel
theorem dX3_putError_9 : decode cX3_putError 9 = .ok (.iload_n 3, 1) := by decide +kernel
theorem dX3_putError_10 : decode cX3_putError 10 = .ok (.invokevirtual 94, 3) := by decide +kernel
theorem dX3_putError_13 : decode cX3_putError 13 = .ok (.ireturn, 1) := by decide +kernel
theorem dX3_reduceBy_0 : decode cX3_reduceBy 0 = .ok (.iconst 0, 1) := by decide +kernel
theorem dX3_reduceBy_1 : decode cX3_reduceBy 1 = .ok (.istore_n 3, 1) := by decide +kernel
theorem dX3_reduceBy_2 : decode cX3_reduceBy 2 = .ok (.iload_n 3, 1) := by decide +kernel
theorem dX3_reduceBy_3 : decode cX3_reduceBy 3 = .ok (.aload_n 0, 1) := by decide +kernel
theorem dX3_reduceBy_4 : decode cX3_reduceBy 4 = .ok (.getfield 53, 3) := by decide +kernel
theorem dX3_reduceBy_7 : decode cX3_reduceBy 7 = .ok (.if_icmp .ge 105, 3) := by decide +kernel
theorem dX3_reduceBy_10 : decode cX3_reduceBy 10 = .ok (.aload_n 1, 1) := by decide +kernel
theorem dX3_reduceBy_11 : decode cX3_reduceBy 11 = .ok (.aload_n 2, 1) := by decide +kernel
theorem dX3_reduceBy_12 : decode cX3_reduceBy 12 = .ok (.aload_n 0, 1) := by decide +kernel
theorem dX3_reduceBy_13 : decode cX3_reduceBy 13 = .ok (.iload_n 3, 1) := by decide +kernel
theorem dX3_reduceBy_14 : decode cX3_reduceBy 14 = .ok (.iconst 0, 1) := by decide +kernel
theorem dX3_reduceBy_15 : decode cX3_reduceBy 15 = .ok (.invokevirtual 67, 3) := by decide +kernel
theorem dX3_reduceBy_18 : decode cX3_reduceBy 18 = .ok (.aload_n 0, 1) := by decide +kernel
theorem dX3_reduceBy_19 : decode cX3_reduceBy 19 = .ok (.getfield 9, 3) := by decide +kernel
theorem dX3_reduceBy_22 : decode cX3_reduceBy 22 = .ok (.aload_n 0, 1) := by decide +kernel
theorem dX3_reduceBy_23 : decode cX3_reduceBy 23 = .ok (.iload_n 3, 1) := by decide +kernel
theorem dX3_reduceBy_24 : decode cX3_reduceBy 24 = .ok (.invokevirtual 70, 3) := by decide +kernel
theorem dX3_reduceBy_27 : decode cX3_reduceBy 27 = .ok (.invokevirtual 97, 3) := by decide +kernel
theorem dX3_reduceBy_30 : decode cX3_reduceBy 30 = .ok (.istore 4, 2) := by decide +kernel
theorem dX3_reduceBy_32 : decode cX3_reduceBy 32 = .ok (.bipush (-3), 2) := by decide +kernel
theorem dX3_reduceBy_34 : decode cX3_reduceBy 34 = .ok (.istore 5, 2) := by decide +kernel
theorem dX3_reduceBy_36 : decode cX3_reduceBy 36 = .ok (.iload 5, 2) := by decide +kernel
theorem dX3_reduceBy_38 : decode cX3_reduceBy 38 = .ok (.iconst 3, 1) := by decide +kernel
theorem dX3_reduceBy_39 : decode cX3_reduceBy 39 = .ok (.if_icmp .gt 67, 3) := by decide +kernel
theorem dX3_reduceBy_42 : decode cX3_reduceBy 42 = .ok (.iload 4, 2) := by decide +kernel
theorem dX3_reduceBy_44 : decode cX3_reduceBy 44 = .ok (.ldc 20, 2) := by decide +kernel
theorem dX3_reduceBy_46 : decode cX3_reduceBy 46 = .ok (.if_icmp .eq 17, 3) := by decide +kernel
theorem dX3_reduceBy_49 : decode cX3_reduceBy 49 = .ok (.aload_n 0, 1) := by decide +kernel
theorem dX3_reduceBy_50 : decode cX3_reduceBy 50 = .ok (.iload_n 3, 1) := by decide +kernel
theorem dX3_reduceBy_51 : decode cX3_reduceBy 51 = .ok (.iload 5, 2) := by decide +kernel
theorem dX3_reduceBy_53 : decode cX3_reduceBy 53 = .ok (.invokevirtual 103, 3) := by decide +kernel
theorem dX3_reduceBy_56 : decode cX3_reduceBy 56 = .ok (.ifCond .eq 7, 3) := by decide +kernel
theorem dX3_reduceBy_59 : decode cX3_reduceBy 59 = .ok (.iconst 1, 1) := by decide +kernel
theorem dX3_reduceBy_60 : decode cX3_reduceBy 60 = .ok (.goto 4, 3) := by decide +kernel
theorem dX3_reduceBy_63 : decode cX3_reduceBy 63 = .ok (.iconst 0, 1) := by decide +kernel
theorem dX3_reduceBy_64 : decode cX3_reduceBy 64 = .ok (.istore 6, 2) := by decide +kernel
theorem dX3_reduceBy_66 : decode cX3_reduceBy 66 = .ok (.aload_n 0, 1) := by decide +kernel
theorem dX3_reduceBy_67 : decode cX3_reduceBy 67 = .ok (.getfield 31, 3) := by decide +kernel
theorem dX3_reduceBy_70 : decode cX3_reduceBy 70 = .ok (.iload_n 3, 1) := by decide +kernel
theorem dX3_reduceBy_71 : decode cX3_reduceBy 71 = .ok (.iload 5, 2) := by decide +kernel
theorem dX3_reduceBy_73 : decode cX3_reduceBy 73 = .ok (.invokestatic 88, 3) := by decide +kernel
theorem dX3_reduceBy_76 : decode cX3_reduceBy 76 = .ok (.iload 6, 2) := by decide +kernel
theorem dX3_reduceBy_78 : decode cX3_reduceBy 78 = .ok (.ifCond .eq 16, 3) := by decide +kernel
theorem dX3_reduceBy_81 : decode cX3_reduceBy 81 = .ok (.aload_n 0, 1) := by decide +kernel
theorem dX3_reduceBy_82 : decode cX3_reduceBy 82 = .ok (.iload_n 3, 1) := by decide +kernel
theorem dX3_reduceBy_83 : decode cX3_reduceBy 83 = .ok (.iload 5, 2) := by decide +kernel
theorem dX3_reduceBy_85 : decode cX3_reduceBy 85 = .ok (.invokevirtual 107, 3) := by decide +kernel
theorem dX3_reduceBy_88 : decode cX3_reduceBy 88 = .ok (.iload 4, 2) := by decide +kernel
theorem dX3_reduceBy_90 : decode cX3_reduceBy 90 = .ok (.isub, 1) := by decide +kernel
theorem dX3_reduceBy_91 : decode cX3_reduceBy 91 = .ok (.goto 5, 3) := by decide +kernel
theorem dX3_reduceBy_94 : decode cX3_reduceBy 94 = .ok (.ldc 20, 2) := by decide +kernel
theorem dX3_reduceBy_96 : decode cX3_reduceBy 96 = .ok (.invokevirtual 94, 3) := by decide +kernel
theorem dX3_reduceBy_99 : decode cX3_reduceBy 99 = .ok (.pop, 1) := by decide +kernel
theorem dX3_reduceBy_100 : decode cX3_reduceBy 100 = .ok (.iinc 5 1, 3) := by decide +kernel
theorem dX3_reduceBy_103 : decode cX3_reduceBy 103 = .ok (.goto (-67), 3) := by decide +kernel
theorem dX3_reduceBy_106 : decode cX3_reduceBy 106 = .ok (.iinc 3 1, 3) := by decide +kernel
theorem dX3_reduceBy_109 : decode cX3_reduceBy 109 = .ok (.goto (-107), 3) := by decide +kernel
theorem dX3_reduceBy_112 : decode cX3_reduceBy 112 = .ok (.return_, 1) := by decide +kernel
theorem dX3_drawOn_0 : decode cX3_drawOn 0 = .ok (.iconst 0, 1) := by decide +kernel
theorem dX3_drawOn_1 : decode cX3_drawOn 1 = .ok (.istore_n 2, 1) := by decide +kernel
theorem dX3_drawOn_2 : decode cX3_drawOn 2 = .ok (.iload_n 2, 1) := by decide +kernel
theorem dX3_drawOn_3 : decode cX3_drawOn 3 = .ok (.aload_n 0, 1) := by decide +kernel
theorem dX3_drawOn_4 : decode cX3_drawOn 4 = .ok (.getfield 53, 3) := by decide +kernel
theorem dX3_drawOn_7 : decode cX3_drawOn 7 = .ok (.if_icmp .ge 54, 3) := by decide +kernel
theorem dX3_drawOn_10 : decode cX3_drawOn 10 = .ok (.bipush (-3), 2) := by decide +kernel
theorem dX3_drawOn_12 : decode cX3_drawOn 12 = .ok (.istore_n 3, 1) := by decide +kernel
theorem dX3_drawOn_13 : decode cX3_drawOn 13 = .ok (.iload_n 3, 1) := by decide +kernel
theorem dX3_drawOn_14 : decode cX3_drawOn 14 = .ok (.iconst 3, 1) := by decide +kernel
theorem dX3_drawOn_15 : decode cX3_drawOn 15 = .ok (.if_icmp .gt 40, 3) := by decide +kernel
theorem dX3_drawOn_18 : decode cX3_drawOn 18 = .ok (.aload_n 0, 1) := by decide +kernel
theorem dX3_drawOn_19 : decode cX3_drawOn 19 = .ok (.iload_n 2, 1) := by decide +kernel
theorem dX3_drawOn_20 : decode cX3_drawOn 20 = .ok (.iload_n 3, 1) := by decide +kernel
theorem dX3_drawOn_21 : decode cX3_drawOn 21 = .ok (.invokevirtual 110, 3) := by decide +kernel
theorem dX3_drawOn_24 : decode cX3_drawOn 24 = .ok (.ifCond .eq 25, 3) := by decide +kernel
theorem dX3_drawOn_27 : decode cX3_drawOn 27 = .ok (.aload_n 1, 1) := by decide +kernel
theorem dX3_drawOn_28 : decode cX3_drawOn 28 = .ok (.aload_n 0, 1) := by decide +kernel
theorem dX3_drawOn_29 : decode cX3_drawOn 29 = .ok (.iload_n 2, 1) := by decide +kernel
theorem dX3_drawOn_30 : decode cX3_drawOn 30 = .ok (.iload_n 3, 1) := by decide +kernel
theorem dX3_drawOn_31 : decode cX3_drawOn 31 = .ok (.invokevirtual 67, 3) := by decide +kernel
theorem dX3_drawOn_34 : decode cX3_drawOn 34 = .ok (.aload_n 0, 1) := by decide +kernel
theorem dX3_drawOn_35 : decode cX3_drawOn 35 = .ok (.iload_n 2, 1) := by decide +kernel
theorem dX3_drawOn_36 : decode cX3_drawOn 36 = .ok (.iload_n 3, 1) := by decide +kernel
theorem dX3_drawOn_37 : decode cX3_drawOn 37 = .ok (.invokevirtual 79, 3) := by decide +kernel
theorem dX3_drawOn_40 : decode cX3_drawOn 40 = .ok (.aload_n 0, 1) := by decide +kernel
theorem dX3_drawOn_41 : decode cX3_drawOn 41 = .ok (.iload_n 2, 1) := by decide +kernel
theorem dX3_drawOn_42 : decode cX3_drawOn 42 = .ok (.iload_n 3, 1) := by decide +kernel
theorem dX3_drawOn_43 : decode cX3_drawOn 43 = .ok (.invokevirtual 113, 3) := by decide +kernel
theorem dX3_drawOn_46 : decode cX3_drawOn 46 = .ok (.invokevirtual 116, 3) := by decide +kernel
theorem dX3_drawOn_49 : decode cX3_drawOn 49 = .ok (.iinc 3 1, 3) := by decide +kernel
theorem dX3_drawOn_52 : decode cX3_drawOn 52 = .ok (.goto (-39), 3) := by decide +kernel
theorem dX3_drawOn_55 : decode cX3_drawOn 55 = .ok (.iinc 2 1, 3) := by decide +kernel
theorem dX3_drawOn_58 : decode cX3_drawOn 58 = .ok (.goto (-56), 3) := by decide +kernel
theorem dX3_drawOn_61 : decode cX3_drawOn 61 = .ok (.return_, 1) := by decide +kernel
theorem dX3_hasSounded_0 : decode cX3_hasSounded 0 = .ok (.aload_n 0, 1) := by decide +kernel
theorem dX3_hasSounded_1 : decode cX3_hasSounded 1 = .ok (.getfield 24, 3) := by decide +kernel
theorem dX3_hasSounded_4 : decode cX3_hasSounded 4 = .ok (.iload_n 1, 1) := by decide +kernel
theorem dX3_hasSounded_5 : decode cX3_hasSounded 5 = .ok (.iload_n 2, 1) := by decide +kernel
theorem dX3_hasSounded_6 : decode cX3_hasSounded 6 = .ok (.invokestatic 88, 3) := by decide +kernel
theorem dX3_hasSounded_9 : decode cX3_hasSounded 9 = .ok (.invokevirtual 122, 3) := by decide +kernel
theorem dX3_hasSounded_12 : decode cX3_hasSounded 12 = .ok (.ldc 20, 2) := by decide +kernel
theorem dX3_hasSounded_14 : decode cX3_hasSounded 14 = .ok (.if_icmp .eq 7, 3) := by decide +kernel
theorem dX3_hasSounded_17 : decode cX3_hasSounded 17 = .ok (.iconst 1, 1) := by decide +kernel
theorem dX3_hasSounded_18 : decode cX3_hasSounded 18 = .ok (.goto 4, 3) := by decide +kernel
theorem dX3_hasSounded_21 : decode cX3_hasSounded 21 = .ok (.iconst 0, 1) := by decide +kernel
theorem dX3_hasSounded_22 : decode cX3_hasSounded 22 = .ok (.ireturn, 1) := by decide +kernel
theorem dX3_soundingAt_0 : decode cX3_soundingAt 0 = .ok (.iload_n 1, 1) := by decide +kernel
theorem dX3_soundingAt_1 : decode cX3_soundingAt 1 = .ok (.iload_n 2, 1) := by decide +kernel
theorem dX3_soundingAt_2 : decode cX3_soundingAt 2 = .ok (.invokestatic 88, 3) := by decide +kernel
theorem dX3_soundingAt_5 : decode cX3_soundingAt 5 = .ok (.istore_n 3, 1) := by decide +kernel
theorem dX3_soundingAt_6 : decode cX3_soundingAt 6 = .ok (.aload_n 0, 1) := by decide +kernel
theorem dX3_soundingAt_7 : decode cX3_soundingAt 7 = .ok (.getfield 24, 3) := by decide +kernel
theorem dX3_soundingAt_10 : decode cX3_soundingAt 10 = .ok (.iload_n 3, 1) := by decide +kernel
theorem dX3_soundingAt_11 : decode cX3_soundingAt 11 = .ok (.invokevirtual 122, 3) := by decide +kernel
theorem dX3_soundingAt_14 : decode cX3_soundingAt 14 = .ok (.aload_n 0, 1) := by decide +kernel
theorem dX3_soundingAt_15 : decode cX3_soundingAt 15 = .ok (.getfield 28, 3) := by decide +kernel
theorem dX3_soundingAt_18 : decode cX3_soundingAt 18 = .ok (.iload_n 3, 1) := by decide +kernel
theorem dX3_soundingAt_19 : decode cX3_soundingAt 19 = .ok (.invokevirtual 122, 3) := by decide +kernel
theorem dX3_soundingAt_22 : decode cX3_soundingAt 22 = .ok (.iadd, 1) := by decide +kernel
theorem dX3_soundingAt_23 : decode cX3_soundingAt 23 = .ok (.ireturn, 1) := by decide +kernel
theorem dX3_reducedAt_0 : decode cX3_reducedAt 0 = .ok (.aload_n 0, 1) := by decide +kernel
theorem dX3_reducedAt_1 : decode cX3_reducedAt 1 = .ok (.getfield 31, 3) := by decide +kernel
theorem dX3_reducedAt_4 : decode cX3_reducedAt 4 = .ok (.iload_n 1, 1) := by decide +kernel
theorem dX3_reducedAt_5 : decode cX3_reducedAt 5 = .ok (.iload_n 2, 1) := by decide +kernel
theorem dX3_reducedAt_6 : decode cX3_reducedAt 6 = .ok (.invokestatic 88, 3) := by decide +kernel
theorem dX3_reducedAt_9 : decode cX3_reducedAt 9 = .ok (.invokevirtual 122, 3) := by decide +kernel
theorem dX3_reducedAt_12 : decode cX3_reducedAt 12 = .ok (.ireturn, 1) := by decide +kernel
theorem dX3_standsOut_0 : decode cX3_standsOut 0 = .ok (.aload_n 0, 1) := by decide +kernel
theorem dX3_standsOut_1 : decode cX3_standsOut 1 = .ok (.iload_n 1, 1) := by decide +kernel
theorem dX3_standsOut_2 : decode cX3_standsOut 2 = .ok (.iload_n 2, 1) := by decide +kernel
theorem dX3_standsOut_3 : decode cX3_standsOut 3 = .ok (.invokevirtual 113, 3) := by decide +kernel
theorem dX3_standsOut_6 : decode cX3_standsOut 6 = .ok (.istore_n 3, 1) := by decide +kernel
theorem dX3_standsOut_7 : decode cX3_standsOut 7 = .ok (.aload_n 0, 1) := by decide +kernel
theorem dX3_standsOut_8 : decode cX3_standsOut 8 = .ok (.iload_n 1, 1) := by decide +kernel
theorem dX3_standsOut_9 : decode cX3_standsOut 9 = .ok (.iconst 1, 1) := by decide +kernel
theorem dX3_standsOut_10 : decode cX3_standsOut 10 = .ok (.isub, 1) := by decide +kernel
theorem dX3_standsOut_11 : decode cX3_standsOut 11 = .ok (.iload_n 2, 1) := by decide +kernel
theorem dX3_standsOut_12 : decode cX3_standsOut 12 = .ok (.invokevirtual 113, 3) := by decide +kernel
theorem dX3_standsOut_15 : decode cX3_standsOut 15 = .ok (.istore 4, 2) := by decide +kernel
theorem dX3_standsOut_17 : decode cX3_standsOut 17 = .ok (.aload_n 0, 1) := by decide +kernel
theorem dX3_standsOut_18 : decode cX3_standsOut 18 = .ok (.iload_n 1, 1) := by decide +kernel
theorem dX3_standsOut_19 : decode cX3_standsOut 19 = .ok (.iconst 1, 1) := by decide +kernel
theorem dX3_standsOut_20 : decode cX3_standsOut 20 = .ok (.iadd, 1) := by decide +kernel
theorem dX3_standsOut_21 : decode cX3_standsOut 21 = .ok (.iload_n 2, 1) := by decide +kernel
theorem dX3_standsOut_22 : decode cX3_standsOut 22 = .ok (.invokevirtual 113, 3) := by decide +kernel
theorem dX3_standsOut_25 : decode cX3_standsOut 25 = .ok (.istore 5, 2) := by decide +kernel
theorem dX3_standsOut_27 : decode cX3_standsOut 27 = .ok (.iload_n 3, 1) := by decide +kernel
theorem dX3_standsOut_28 : decode cX3_standsOut 28 = .ok (.ldc 20, 2) := by decide +kernel
theorem dX3_standsOut_30 : decode cX3_standsOut 30 = .ok (.if_icmp .eq 17, 3) := by decide +kernel
theorem dX3_standsOut_33 : decode cX3_standsOut 33 = .ok (.iload 4, 2) := by decide +kernel
theorem dX3_standsOut_35 : decode cX3_standsOut 35 = .ok (.ldc 20, 2) := by decide +kernel
theorem dX3_standsOut_37 : decode cX3_standsOut 37 = .ok (.if_icmp .ne 12, 3) := by decide +kernel
theorem dX3_standsOut_40 : decode cX3_standsOut 40 = .ok (.iload 5, 2) := by decide +kernel
theorem dX3_standsOut_42 : decode cX3_standsOut 42 = .ok (.ldc 20, 2) := by decide +kernel
theorem dX3_standsOut_44 : decode cX3_standsOut 44 = .ok (.if_icmp .ne 5, 3) := by decide +kernel
theorem dX3_standsOut_47 : decode cX3_standsOut 47 = .ok (.iconst 0, 1) := by decide +kernel
theorem dX3_standsOut_48 : decode cX3_standsOut 48 = .ok (.ireturn, 1) := by decide +kernel
theorem dX3_standsOut_49 : decode cX3_standsOut 49 = .ok (.iload_n 3, 1) := by decide +kernel
theorem dX3_standsOut_50 : decode cX3_standsOut 50 = .ok (.iload 4, 2) := by decide +kernel
theorem dX3_standsOut_52 : decode cX3_standsOut 52 = .ok (.invokestatic 125, 3) := by decide +kernel
theorem dX3_standsOut_55 : decode cX3_standsOut 55 = .ok (.ifCond .eq 16, 3) := by decide +kernel
theorem dX3_standsOut_58 : decode cX3_standsOut 58 = .ok (.iload_n 3, 1) := by decide +kernel
theorem dX3_standsOut_59 : decode cX3_standsOut 59 = .ok (.iload 5, 2) := by decide +kernel
theorem dX3_standsOut_61 : decode cX3_standsOut 61 = .ok (.invokestatic 125, 3) := by decide +kernel
theorem dX3_standsOut_64 : decode cX3_standsOut 64 = .ok (.ifCond .eq 7, 3) := by decide +kernel
theorem dX3_standsOut_67 : decode cX3_standsOut 67 = .ok (.iconst 1, 1) := by decide +kernel
theorem dX3_standsOut_68 : decode cX3_standsOut 68 = .ok (.goto 4, 3) := by decide +kernel
theorem dX3_standsOut_71 : decode cX3_standsOut 71 = .ok (.iconst 0, 1) := by decide +kernel
theorem dX3_standsOut_72 : decode cX3_standsOut 72 = .ok (.ireturn, 1) := by decide +kernel
theorem dX3_countSounded_0 : decode cX3_countSounded 0 = .ok (.iconst 0, 1) := by decide +kernel
theorem dX3_countSounded_1 : decode cX3_countSounded 1 = .ok (.istore_n 1, 1) := by decide +kernel
theorem dX3_countSounded_2 : decode cX3_countSounded 2 = .ok (.iconst 0, 1) := by decide +kernel
theorem dX3_countSounded_3 : decode cX3_countSounded 3 = .ok (.istore_n 2, 1) := by decide +kernel
theorem dX3_countSounded_4 : decode cX3_countSounded 4 = .ok (.iload_n 2, 1) := by decide +kernel
theorem dX3_countSounded_5 : decode cX3_countSounded 5 = .ok (.aload_n 0, 1) := by decide +kernel
theorem dX3_countSounded_6 : decode cX3_countSounded 6 = .ok (.getfield 53, 3) := by decide +kernel
theorem dX3_countSounded_9 : decode cX3_countSounded 9 = .ok (.if_icmp .ge 40, 3) := by decide +kernel
theorem dX3_countSounded_12 : decode cX3_countSounded 12 = .ok (.bipush (-3), 2) := by decide +kernel
theorem dX3_countSounded_14 : decode cX3_countSounded 14 = .ok (.istore_n 3, 1) := by decide +kernel
theorem dX3_countSounded_15 : decode cX3_countSounded 15 = .ok (.iload_n 3, 1) := by decide +kernel
theorem dX3_countSounded_16 : decode cX3_countSounded 16 = .ok (.iconst 3, 1) := by decide +kernel
theorem dX3_countSounded_17 : decode cX3_countSounded 17 = .ok (.if_icmp .gt 26, 3) := by decide +kernel
theorem dX3_countSounded_20 : decode cX3_countSounded 20 = .ok (.iload_n 1, 1) := by decide +kernel
theorem dX3_countSounded_21 : decode cX3_countSounded 21 = .ok (.aload_n 0, 1) := by decide +kernel
theorem dX3_countSounded_22 : decode cX3_countSounded 22 = .ok (.iload_n 2, 1) := by decide +kernel
theorem dX3_countSounded_23 : decode cX3_countSounded 23 = .ok (.iload_n 3, 1) := by decide +kernel
theorem dX3_countSounded_24 : decode cX3_countSounded 24 = .ok (.invokevirtual 103, 3) := by decide +kernel
theorem dX3_countSounded_27 : decode cX3_countSounded 27 = .ok (.ifCond .eq 7, 3) := by decide +kernel
theorem dX3_countSounded_30 : decode cX3_countSounded 30 = .ok (.iconst 1, 1) := by decide +kernel
theorem dX3_countSounded_31 : decode cX3_countSounded 31 = .ok (.goto 4, 3) := by decide +kernel
theorem dX3_countSounded_34 : decode cX3_countSounded 34 = .ok (.iconst 0, 1) := by decide +kernel
theorem dX3_countSounded_35 : decode cX3_countSounded 35 = .ok (.iadd, 1) := by decide +kernel
theorem dX3_countSounded_36 : decode cX3_countSounded 36 = .ok (.istore_n 1, 1) := by decide +kernel
theorem dX3_countSounded_37 : decode cX3_countSounded 37 = .ok (.iinc 3 1, 3) := by decide +kernel
theorem dX3_countSounded_40 : decode cX3_countSounded 40 = .ok (.goto (-25), 3) := by decide +kernel
theorem dX3_countSounded_43 : decode cX3_countSounded 43 = .ok (.iinc 2 1, 3) := by decide +kernel
theorem dX3_countSounded_46 : decode cX3_countSounded 46 = .ok (.goto (-42), 3) := by decide +kernel
theorem dX3_countSounded_49 : decode cX3_countSounded 49 = .ok (.iload_n 1, 1) := by decide +kernel
theorem dX3_countSounded_50 : decode cX3_countSounded 50 = .ok (.ireturn, 1) := by decide +kernel
theorem dX3_countSpikes_0 : decode cX3_countSpikes 0 = .ok (.iconst 0, 1) := by decide +kernel
theorem dX3_countSpikes_1 : decode cX3_countSpikes 1 = .ok (.istore_n 1, 1) := by decide +kernel
theorem dX3_countSpikes_2 : decode cX3_countSpikes 2 = .ok (.iconst 0, 1) := by decide +kernel
theorem dX3_countSpikes_3 : decode cX3_countSpikes 3 = .ok (.istore_n 2, 1) := by decide +kernel
theorem dX3_countSpikes_4 : decode cX3_countSpikes 4 = .ok (.iload_n 2, 1) := by decide +kernel
theorem dX3_countSpikes_5 : decode cX3_countSpikes 5 = .ok (.aload_n 0, 1) := by decide +kernel
theorem dX3_countSpikes_6 : decode cX3_countSpikes 6 = .ok (.getfield 53, 3) := by decide +kernel
theorem dX3_countSpikes_9 : decode cX3_countSpikes 9 = .ok (.if_icmp .ge 40, 3) := by decide +kernel
theorem dX3_countSpikes_12 : decode cX3_countSpikes 12 = .ok (.bipush (-3), 2) := by decide +kernel
theorem dX3_countSpikes_14 : decode cX3_countSpikes 14 = .ok (.istore_n 3, 1) := by decide +kernel
theorem dX3_countSpikes_15 : decode cX3_countSpikes 15 = .ok (.iload_n 3, 1) := by decide +kernel
theorem dX3_countSpikes_16 : decode cX3_countSpikes 16 = .ok (.iconst 3, 1) := by decide +kernel
theorem dX3_countSpikes_17 : decode cX3_countSpikes 17 = .ok (.if_icmp .gt 26, 3) := by decide +kernel
theorem dX3_countSpikes_20 : decode cX3_countSpikes 20 = .ok (.iload_n 1, 1) := by decide +kernel
theorem dX3_countSpikes_21 : decode cX3_countSpikes 21 = .ok (.aload_n 0, 1) := by decide +kernel
theorem dX3_countSpikes_22 : decode cX3_countSpikes 22 = .ok (.iload_n 2, 1) := by decide +kernel
theorem dX3_countSpikes_23 : decode cX3_countSpikes 23 = .ok (.iload_n 3, 1) := by decide +kernel
theorem dX3_countSpikes_24 : decode cX3_countSpikes 24 = .ok (.invokevirtual 128, 3) := by decide +kernel
theorem dX3_countSpikes_27 : decode cX3_countSpikes 27 = .ok (.ifCond .eq 7, 3) := by decide +kernel
theorem dX3_countSpikes_30 : decode cX3_countSpikes 30 = .ok (.iconst 1, 1) := by decide +kernel
theorem dX3_countSpikes_31 : decode cX3_countSpikes 31 = .ok (.goto 4, 3) := by decide +kernel
theorem dX3_countSpikes_34 : decode cX3_countSpikes 34 = .ok (.iconst 0, 1) := by decide +kernel
theorem dX3_countSpikes_35 : decode cX3_countSpikes 35 = .ok (.iadd, 1) := by decide +kernel
theorem dX3_countSpikes_36 : decode cX3_countSpikes 36 = .ok (.istore_n 1, 1) := by decide +kernel
theorem dX3_countSpikes_37 : decode cX3_countSpikes 37 = .ok (.iinc 3 1, 3) := by decide +kernel
theorem dX3_countSpikes_40 : decode cX3_countSpikes 40 = .ok (.goto (-25), 3) := by decide +kernel
theorem dX3_countSpikes_43 : decode cX3_countSpikes 43 = .ok (.iinc 2 1, 3) := by decide +kernel
theorem dX3_countSpikes_46 : decode cX3_countSpikes 46 = .ok (.goto (-42), 3) := by decide +kernel
theorem dX3_countSpikes_49 : decode cX3_countSpikes 49 = .ok (.iload_n 1, 1) := by decide +kernel
theorem dX3_countSpikes_50 : decode cX3_countSpikes 50 = .ok (.ireturn, 1) := by decide +kernel
theorem dX3_countLost_0 : decode cX3_countLost 0 = .ok (.iconst 0, 1) := by decide +kernel
theorem dX3_countLost_1 : decode cX3_countLost 1 = .ok (.istore_n 1, 1) := by decide +kernel
theorem dX3_countLost_2 : decode cX3_countLost 2 = .ok (.iconst 0, 1) := by decide +kernel
theorem dX3_countLost_3 : decode cX3_countLost 3 = .ok (.istore_n 2, 1) := by decide +kernel
theorem dX3_countLost_4 : decode cX3_countLost 4 = .ok (.iload_n 2, 1) := by decide +kernel
theorem dX3_countLost_5 : decode cX3_countLost 5 = .ok (.aload_n 0, 1) := by decide +kernel
theorem dX3_countLost_6 : decode cX3_countLost 6 = .ok (.getfield 53, 3) := by decide +kernel
theorem dX3_countLost_9 : decode cX3_countLost 9 = .ok (.if_icmp .ge 51, 3) := by decide +kernel
theorem dX3_countLost_12 : decode cX3_countLost 12 = .ok (.bipush (-3), 2) := by decide +kernel
theorem dX3_countLost_14 : decode cX3_countLost 14 = .ok (.istore_n 3, 1) := by decide +kernel
theorem dX3_countLost_15 : decode cX3_countLost 15 = .ok (.iload_n 3, 1) := by decide +kernel
theorem dX3_countLost_16 : decode cX3_countLost 16 = .ok (.iconst 3, 1) := by decide +kernel
theorem dX3_countLost_17 : decode cX3_countLost 17 = .ok (.if_icmp .gt 37, 3) := by decide +kernel
theorem dX3_countLost_20 : decode cX3_countLost 20 = .ok (.iload_n 1, 1) := by decide +kernel
theorem dX3_countLost_21 : decode cX3_countLost 21 = .ok (.aload_n 0, 1) := by decide +kernel
theorem dX3_countLost_22 : decode cX3_countLost 22 = .ok (.iload_n 2, 1) := by decide +kernel
theorem dX3_countLost_23 : decode cX3_countLost 23 = .ok (.iload_n 3, 1) := by decide +kernel
theorem dX3_countLost_24 : decode cX3_countLost 24 = .ok (.invokevirtual 103, 3) := by decide +kernel
theorem dX3_countLost_27 : decode cX3_countLost 27 = .ok (.ifCond .eq 18, 3) := by decide +kernel
theorem dX3_countLost_30 : decode cX3_countLost 30 = .ok (.aload_n 0, 1) := by decide +kernel
theorem dX3_countLost_31 : decode cX3_countLost 31 = .ok (.iload_n 2, 1) := by decide +kernel
theorem dX3_countLost_32 : decode cX3_countLost 32 = .ok (.iload_n 3, 1) := by decide +kernel
theorem dX3_countLost_33 : decode cX3_countLost 33 = .ok (.invokevirtual 113, 3) := by decide +kernel
theorem dX3_countLost_36 : decode cX3_countLost 36 = .ok (.ldc 20, 2) := by decide +kernel
theorem dX3_countLost_38 : decode cX3_countLost 38 = .ok (.if_icmp .ne 7, 3) := by decide +kernel
theorem dX3_countLost_41 : decode cX3_countLost 41 = .ok (.iconst 1, 1) := by decide +kernel
theorem dX3_countLost_42 : decode cX3_countLost 42 = .ok (.goto 4, 3) := by decide +kernel
theorem dX3_countLost_45 : decode cX3_countLost 45 = .ok (.iconst 0, 1) := by decide +kernel
theorem dX3_countLost_46 : decode cX3_countLost 46 = .ok (.iadd, 1) := by decide +kernel
theorem dX3_countLost_47 : decode cX3_countLost 47 = .ok (.istore_n 1, 1) := by decide +kernel
theorem dX3_countLost_48 : decode cX3_countLost 48 = .ok (.iinc 3 1, 3) := by decide +kernel
theorem dX3_countLost_51 : decode cX3_countLost 51 = .ok (.goto (-36), 3) := by decide +kernel
theorem dX3_countLost_54 : decode cX3_countLost 54 = .ok (.iinc 2 1, 3) := by decide +kernel
theorem dX3_countLost_57 : decode cX3_countLost 57 = .ok (.goto (-53), 3) := by decide +kernel
theorem dX3_countLost_60 : decode cX3_countLost 60 = .ok (.iload_n 1, 1) := by decide +kernel
theorem dX3_countLost_61 : decode cX3_countLost 61 = .ok (.ireturn, 1) := by decide +kernel
theorem dX3_depthOver_0 : decode cX3_depthOver 0 = .ok (.aload_n 0, 1) := by decide +kernel
theorem dX3_depthOver_1 : decode cX3_depthOver 1 = .ok (.aload_n 0, 1) := by decide +kernel
theorem dX3_depthOver_2 : decode cX3_depthOver 2 = .ok (.getfield 34, 3) := by decide +kernel
theorem dX3_depthOver_5 : decode cX3_depthOver 5 = .ok (.ifCond .eq 7, 3) := by decide +kernel
theorem dX3_depthOver_8 : decode cX3_depthOver 8 = .ok (.iload_n 1, 1) := by decide +kernel
theorem dX3_depthOver_9 : decode cX3_depthOver 9 = .ok (.goto 4, 3) := by decide +kernel
theorem dX3_depthOver_12 : decode cX3_depthOver 12 = .ok (.iload_n 2, 1) := by decide +kernel
theorem dX3_depthOver_13 : decode cX3_depthOver 13 = .ok (.invokevirtual 131, 3) := by decide +kernel
theorem dX3_depthOver_16 : decode cX3_depthOver 16 = .ok (.istore_n 3, 1) := by decide +kernel
theorem dX3_depthOver_17 : decode cX3_depthOver 17 = .ok (.aload_n 0, 1) := by decide +kernel
theorem dX3_depthOver_18 : decode cX3_depthOver 18 = .ok (.getfield 34, 3) := by decide +kernel
theorem dX3_depthOver_21 : decode cX3_depthOver 21 = .ok (.ifCond .eq 12, 3) := by decide +kernel
theorem dX3_depthOver_24 : decode cX3_depthOver 24 = .ok (.iload_n 2, 1) := by decide +kernel
theorem dX3_depthOver_25 : decode cX3_depthOver 25 = .ok (.aload_n 0, 1) := by decide +kernel
theorem dX3_depthOver_26 : decode cX3_depthOver 26 = .ok (.getfield 38, 3) := by decide +kernel
theorem dX3_depthOver_29 : decode cX3_depthOver 29 = .ok (.isub, 1) := by decide +kernel
theorem dX3_depthOver_30 : decode cX3_depthOver 30 = .ok (.goto 9, 3) := by decide +kernel
theorem dX3_depthOver_33 : decode cX3_depthOver 33 = .ok (.iload_n 1, 1) := by decide +kernel
theorem dX3_depthOver_34 : decode cX3_depthOver 34 = .ok (.aload_n 0, 1) := by decide +kernel
theorem dX3_depthOver_35 : decode cX3_depthOver 35 = .ok (.getfield 38, 3) := by decide +kernel
theorem dX3_depthOver_38 : decode cX3_depthOver 38 = .ok (.isub, 1) := by decide +kernel
theorem dX3_depthOver_39 : decode cX3_depthOver 39 = .ok (.istore 4, 2) := by decide +kernel
theorem dX3_depthOver_41 : decode cX3_depthOver 41 = .ok (.aload_n 0, 1) := by decide +kernel
theorem dX3_depthOver_42 : decode cX3_depthOver 42 = .ok (.iload_n 3, 1) := by decide +kernel
theorem dX3_depthOver_43 : decode cX3_depthOver 43 = .ok (.iload 4, 2) := by decide +kernel
theorem dX3_depthOver_45 : decode cX3_depthOver 45 = .ok (.invokevirtual 110, 3) := by decide +kernel
theorem dX3_depthOver_48 : decode cX3_depthOver 48 = .ok (.ifCond .eq 13, 3) := by decide +kernel
theorem dX3_depthOver_51 : decode cX3_depthOver 51 = .ok (.aload_n 0, 1) := by decide +kernel
theorem dX3_depthOver_52 : decode cX3_depthOver 52 = .ok (.iload_n 3, 1) := by decide +kernel
theorem dX3_depthOver_53 : decode cX3_depthOver 53 = .ok (.iload 4, 2) := by decide +kernel
theorem dX3_depthOver_55 : decode cX3_depthOver 55 = .ok (.invokevirtual 113, 3) := by decide +kernel
theorem dX3_depthOver_58 : decode cX3_depthOver 58 = .ok (.goto 5, 3) := by decide +kernel
theorem dX3_depthOver_61 : decode cX3_depthOver 61 = .ok (.ldc 20, 2) := by decide +kernel
theorem dX3_depthOver_63 : decode cX3_depthOver 63 = .ok (.ireturn, 1) := by decide +kernel
theorem dX3_meets_0 : decode cX3_meets 0 = .ok (.aload_n 0, 1) := by decide +kernel
theorem dX3_meets_1 : decode cX3_meets 1 = .ok (.getfield 34, 3) := by decide +kernel
theorem dX3_meets_4 : decode cX3_meets 4 = .ok (.aload_n 1, 1) := by decide +kernel
theorem dX3_meets_5 : decode cX3_meets 5 = .ok (.getfield 34, 3) := by decide +kernel
theorem dX3_meets_8 : decode cX3_meets 8 = .ok (.if_icmp .eq 29, 3) := by decide +kernel
theorem dX3_meets_11 : decode cX3_meets 11 = .ok (.aload_n 0, 1) := by decide +kernel
theorem dX3_meets_12 : decode cX3_meets 12 = .ok (.aload_n 1, 1) := by decide +kernel
theorem dX3_meets_13 : decode cX3_meets 13 = .ok (.getfield 38, 3) := by decide +kernel
theorem dX3_meets_16 : decode cX3_meets 16 = .ok (.invokevirtual 131, 3) := by decide +kernel
theorem dX3_meets_19 : decode cX3_meets 19 = .ok (.ifCond .lt 18, 3) := by decide +kernel
theorem dX3_meets_22 : decode cX3_meets 22 = .ok (.aload_n 1, 1) := by decide +kernel
theorem dX3_meets_23 : decode cX3_meets 23 = .ok (.aload_n 0, 1) := by decide +kernel
theorem dX3_meets_24 : decode cX3_meets 24 = .ok (.getfield 38, 3) := by decide +kernel
theorem dX3_meets_27 : decode cX3_meets 27 = .ok (.invokevirtual 131, 3) := by decide +kernel
theorem dX3_meets_30 : decode cX3_meets 30 = .ok (.ifCond .lt 7, 3) := by decide +kernel
theorem dX3_meets_33 : decode cX3_meets 33 = .ok (.iconst 1, 1) := by decide +kernel
theorem dX3_meets_34 : decode cX3_meets 34 = .ok (.goto 4, 3) := by decide +kernel
theorem dX3_meets_37 : decode cX3_meets 37 = .ok (.iconst 0, 1) := by decide +kernel
theorem dX3_meets_38 : decode cX3_meets 38 = .ok (.ireturn, 1) := by decide +kernel
theorem dX3_misfitTo_0 : decode cX3_misfitTo 0 = .ok (.aload_n 0, 1) := by decide +kernel
theorem dX3_misfitTo_1 : decode cX3_misfitTo 1 = .ok (.aload_n 0, 1) := by decide +kernel
theorem dX3_misfitTo_2 : decode cX3_misfitTo 2 = .ok (.aload_n 1, 1) := by decide +kernel
theorem dX3_misfitTo_3 : decode cX3_misfitTo 3 = .ok (.getfield 38, 3) := by decide +kernel
theorem dX3_misfitTo_6 : decode cX3_misfitTo 6 = .ok (.invokevirtual 131, 3) := by decide +kernel
theorem dX3_misfitTo_9 : decode cX3_misfitTo 9 = .ok (.iconst 0, 1) := by decide +kernel
theorem dX3_misfitTo_10 : decode cX3_misfitTo 10 = .ok (.invokevirtual 113, 3) := by decide +kernel
theorem dX3_misfitTo_13 : decode cX3_misfitTo 13 = .ok (.istore_n 2, 1) := by decide +kernel
theorem dX3_misfitTo_14 : decode cX3_misfitTo 14 = .ok (.aload_n 1, 1) := by decide +kernel
theorem dX3_misfitTo_15 : decode cX3_misfitTo 15 = .ok (.aload_n 1, 1) := by decide +kernel
theorem dX3_misfitTo_16 : decode cX3_misfitTo 16 = .ok (.aload_n 0, 1) := by decide +kernel
theorem dX3_misfitTo_17 : decode cX3_misfitTo 17 = .ok (.getfield 38, 3) := by decide +kernel
theorem dX3_misfitTo_20 : decode cX3_misfitTo 20 = .ok (.invokevirtual 131, 3) := by decide +kernel
theorem dX3_misfitTo_23 : decode cX3_misfitTo 23 = .ok (.iconst 0, 1) := by decide +kernel
theorem dX3_misfitTo_24 : decode cX3_misfitTo 24 = .ok (.invokevirtual 113, 3) := by decide +kernel
theorem dX3_misfitTo_27 : decode cX3_misfitTo 27 = .ok (.istore_n 3, 1) := by decide +kernel
theorem dX3_misfitTo_28 : decode cX3_misfitTo 28 = .ok (.iload_n 2, 1) := by decide +kernel
theorem dX3_misfitTo_29 : decode cX3_misfitTo 29 = .ok (.ldc 20, 2) := by decide +kernel
theorem dX3_misfitTo_31 : decode cX3_misfitTo 31 = .ok (.if_icmp .eq 9, 3) := by decide +kernel
theorem dX3_misfitTo_34 : decode cX3_misfitTo 34 = .ok (.iload_n 3, 1) := by decide +kernel
theorem dX3_misfitTo_35 : decode cX3_misfitTo 35 = .ok (.ldc 20, 2) := by decide +kernel
theorem dX3_misfitTo_37 : decode cX3_misfitTo 37 = .ok (.if_icmp .ne 8, 3) := by decide +kernel
theorem dX3_misfitTo_40 : decode cX3_misfitTo 40 = .ok (.ldc 20, 2) := by decide +kernel
theorem dX3_misfitTo_42 : decode cX3_misfitTo 42 = .ok (.goto 6, 3) := by decide +kernel
theorem dX3_misfitTo_45 : decode cX3_misfitTo 45 = .ok (.iload_n 2, 1) := by decide +kernel
theorem dX3_misfitTo_46 : decode cX3_misfitTo 46 = .ok (.iload_n 3, 1) := by decide +kernel
theorem dX3_misfitTo_47 : decode cX3_misfitTo 47 = .ok (.isub, 1) := by decide +kernel
theorem dX3_misfitTo_48 : decode cX3_misfitTo 48 = .ok (.ireturn, 1) := by decide +kernel
theorem dX3_describeIn_0 : decode cX3_describeIn 0 = .ok (.aload_n 1, 1) := by decide +kernel
theorem dX3_describeIn_1 : decode cX3_describeIn 1 = .ok (.aload_n 0, 1) := by decide +kernel
theorem dX3_describeIn_2 : decode cX3_describeIn 2 = .ok (.getfield 34, 3) := by decide +kernel
theorem dX3_describeIn_5 : decode cX3_describeIn 5 = .ok (.ifCond .eq 8, 3) := by decide +kernel
theorem dX3_describeIn_8 : decode cX3_describeIn 8 = .ok (.bipush 114, 2) := by decide +kernel
theorem dX3_describeIn_10 : decode cX3_describeIn 10 = .ok (.goto 5, 3) := by decide +kernel
theorem dX3_describeIn_13 : decode cX3_describeIn 13 = .ok (.bipush 99, 2) := by decide +kernel
theorem dX3_describeIn_15 : decode cX3_describeIn 15 = .ok (.invokevirtual 134, 3) := by decide +kernel
theorem dX3_describeIn_18 : decode cX3_describeIn 18 = .ok (.pop, 1) := by decide +kernel
theorem dX3_describeIn_19 : decode cX3_describeIn 19 = .ok (.aload_n 1, 1) := by decide +kernel
theorem dX3_describeIn_20 : decode cX3_describeIn 20 = .ok (.aload_n 0, 1) := by decide +kernel
theorem dX3_describeIn_21 : decode cX3_describeIn 21 = .ok (.getfield 38, 3) := by decide +kernel
theorem dX3_describeIn_24 : decode cX3_describeIn 24 = .ok (.invokevirtual 140, 3) := by decide +kernel
theorem dX3_describeIn_27 : decode cX3_describeIn 27 = .ok (.pop, 1) := by decide +kernel
theorem dX3_describeIn_28 : decode cX3_describeIn 28 = .ok (.aload_n 1, 1) := by decide +kernel
theorem dX3_describeIn_29 : decode cX3_describeIn 29 = .ok (.bipush 58, 2) := by decide +kernel
theorem dX3_describeIn_31 : decode cX3_describeIn 31 = .ok (.invokevirtual 134, 3) := by decide +kernel
theorem dX3_describeIn_34 : decode cX3_describeIn 34 = .ok (.pop, 1) := by decide +kernel
theorem dX3_describeIn_35 : decode cX3_describeIn 35 = .ok (.aload_n 1, 1) := by decide +kernel
theorem dX3_describeIn_36 : decode cX3_describeIn 36 = .ok (.aload_n 0, 1) := by decide +kernel
theorem dX3_describeIn_37 : decode cX3_describeIn 37 = .ok (.getfield 41, 3) := by decide +kernel
theorem dX3_describeIn_40 : decode cX3_describeIn 40 = .ok (.invokevirtual 140, 3) := by decide +kernel
theorem dX3_describeIn_43 : decode cX3_describeIn 43 = .ok (.pop, 1) := by decide +kernel
theorem dX3_describeIn_44 : decode cX3_describeIn 44 = .ok (.aload_n 1, 1) := by decide +kernel
theorem dX3_describeIn_45 : decode cX3_describeIn 45 = .ok (.bipush 45, 2) := by decide +kernel
theorem dX3_describeIn_47 : decode cX3_describeIn 47 = .ok (.invokevirtual 134, 3) := by decide +kernel
theorem dX3_describeIn_50 : decode cX3_describeIn 50 = .ok (.pop, 1) := by decide +kernel
theorem dX3_describeIn_51 : decode cX3_describeIn 51 = .ok (.aload_n 1, 1) := by decide +kernel
theorem dX3_describeIn_52 : decode cX3_describeIn 52 = .ok (.aload_n 0, 1) := by decide +kernel
theorem dX3_describeIn_53 : decode cX3_describeIn 53 = .ok (.getfield 44, 3) := by decide +kernel
theorem dX3_describeIn_56 : decode cX3_describeIn 56 = .ok (.invokevirtual 140, 3) := by decide +kernel
theorem dX3_describeIn_59 : decode cX3_describeIn 59 = .ok (.pop, 1) := by decide +kernel
theorem dX3_describeIn_60 : decode cX3_describeIn 60 = .ok (.aload_n 1, 1) := by decide +kernel
theorem dX3_describeIn_61 : decode cX3_describeIn 61 = .ok (.bipush 64, 2) := by decide +kernel
theorem dX3_describeIn_63 : decode cX3_describeIn 63 = .ok (.invokevirtual 134, 3) := by decide +kernel
theorem dX3_describeIn_66 : decode cX3_describeIn 66 = .ok (.pop, 1) := by decide +kernel
theorem dX3_describeIn_67 : decode cX3_describeIn 67 = .ok (.aload_n 1, 1) := by decide +kernel
theorem dX3_describeIn_68 : decode cX3_describeIn 68 = .ok (.aload_n 0, 1) := by decide +kernel
theorem dX3_describeIn_69 : decode cX3_describeIn 69 = .ok (.getfield 9, 3) := by decide +kernel
theorem dX3_describeIn_72 : decode cX3_describeIn 72 = .ok (.invokevirtual 140, 3) := by decide +kernel
theorem dX3_describeIn_75 : decode cX3_describeIn 75 = .ok (.pop, 1) := by decide +kernel
theorem dX3_describeIn_76 : decode cX3_describeIn 76 = .ok (.aload_n 1, 1) := by decide +kernel
theorem dX3_describeIn_77 : decode cX3_describeIn 77 = .ok (.bipush 47, 2) := by decide +kernel
theorem dX3_describeIn_79 : decode cX3_describeIn 79 = .ok (.invokevirtual 134, 3) := by decide +kernel
theorem dX3_describeIn_82 : decode cX3_describeIn 82 = .ok (.pop, 1) := by decide +kernel
theorem dX3_describeIn_83 : decode cX3_describeIn 83 = .ok (.aload_n 1, 1) := by decide +kernel
theorem dX3_describeIn_84 : decode cX3_describeIn 84 = .ok (.aload_n 0, 1) := by decide +kernel
theorem dX3_describeIn_85 : decode cX3_describeIn 85 = .ok (.getfield 15, 3) := by decide +kernel
theorem dX3_describeIn_88 : decode cX3_describeIn 88 = .ok (.invokevirtual 140, 3) := by decide +kernel
theorem dX3_describeIn_91 : decode cX3_describeIn 91 = .ok (.pop, 1) := by decide +kernel
theorem dX3_describeIn_92 : decode cX3_describeIn 92 = .ok (.aload_n 1, 1) := by decide +kernel
theorem dX3_describeIn_93 : decode cX3_describeIn 93 = .ok (.bipush 32, 2) := by decide +kernel
theorem dX3_describeIn_95 : decode cX3_describeIn 95 = .ok (.invokevirtual 134, 3) := by decide +kernel
theorem dX3_describeIn_98 : decode cX3_describeIn 98 = .ok (.pop, 1) := by decide +kernel
theorem dX3_describeIn_99 : decode cX3_describeIn 99 = .ok (.aload_n 0, 1) := by decide +kernel
theorem dX3_describeIn_100 : decode cX3_describeIn 100 = .ok (.invokevirtual 143, 3) := by decide +kernel
theorem dX3_describeIn_103 : decode cX3_describeIn 103 = .ok (.istore_n 2, 1) := by decide +kernel
theorem dX3_describeIn_104 : decode cX3_describeIn 104 = .ok (.aload_n 1, 1) := by decide +kernel
theorem dX3_describeIn_105 : decode cX3_describeIn 105 = .ok (.iload_n 2, 1) := by decide +kernel
theorem dX3_describeIn_106 : decode cX3_describeIn 106 = .ok (.ifCond .ne 8, 3) := by decide +kernel
theorem dX3_describeIn_109 : decode cX3_describeIn 109 = .ok (.ldc 146, 2) := by decide +kernel
theorem dX3_describeIn_111 : decode cX3_describeIn 111 = .ok (.goto 18, 3) := by decide +kernel
theorem dX3_describeIn_114 : decode cX3_describeIn 114 = .ok (.iload_n 2, 1) := by decide +kernel
theorem dX3_describeIn_115 : decode cX3_describeIn 115 = .ok (.aload_n 0, 1) := by decide +kernel
theorem dX3_describeIn_116 : decode cX3_describeIn 116 = .ok (.invokevirtual 148, 3) := by decide +kernel
theorem dX3_describeIn_119 : decode cX3_describeIn 119 = .ok (.if_icmp .ne 8, 3) := by decide +kernel
theorem dX3_describeIn_122 : decode cX3_describeIn 122 = .ok (.ldc 151, 2) := by decide +kernel
theorem dX3_describeIn_124 : decode cX3_describeIn 124 = .ok (.goto 5, 3) := by decide +kernel
theorem dX3_describeIn_127 : decode cX3_describeIn 127 = .ok (.ldc 153, 2) := by decide +kernel
theorem dX3_describeIn_129 : decode cX3_describeIn 129 = .ok (.invokevirtual 155, 3) := by decide +kernel
theorem dX3_describeIn_132 : decode cX3_describeIn 132 = .ok (.pop, 1) := by decide +kernel
theorem dX3_describeIn_133 : decode cX3_describeIn 133 = .ok (.return_, 1) := by decide +kernel
theorem dX3_isGood_0 : decode cX3_isGood 0 = .ok (.aload_n 0, 1) := by decide +kernel
theorem dX3_isGood_1 : decode cX3_isGood 1 = .ok (.iload_n 1, 1) := by decide +kernel
theorem dX3_isGood_2 : decode cX3_isGood 2 = .ok (.iload_n 2, 1) := by decide +kernel
theorem dX3_isGood_3 : decode cX3_isGood 3 = .ok (.invokevirtual 113, 3) := by decide +kernel
theorem dX3_isGood_6 : decode cX3_isGood 6 = .ok (.ldc 20, 2) := by decide +kernel
theorem dX3_isGood_8 : decode cX3_isGood 8 = .ok (.if_icmp .eq 16, 3) := by decide +kernel
theorem dX3_isGood_11 : decode cX3_isGood 11 = .ok (.aload_n 0, 1) := by decide +kernel
theorem dX3_isGood_12 : decode cX3_isGood 12 = .ok (.iload_n 1, 1) := by decide +kernel
theorem dX3_isGood_13 : decode cX3_isGood 13 = .ok (.iload_n 2, 1) := by decide +kernel
theorem dX3_isGood_14 : decode cX3_isGood 14 = .ok (.invokevirtual 128, 3) := by decide +kernel
theorem dX3_isGood_17 : decode cX3_isGood 17 = .ok (.ifCond .ne 7, 3) := by decide +kernel
theorem dX3_isGood_20 : decode cX3_isGood 20 = .ok (.iconst 1, 1) := by decide +kernel
theorem dX3_isGood_21 : decode cX3_isGood 21 = .ok (.goto 4, 3) := by decide +kernel
theorem dX3_isGood_24 : decode cX3_isGood 24 = .ok (.iconst 0, 1) := by decide +kernel
theorem dX3_isGood_25 : decode cX3_isGood 25 = .ok (.ireturn, 1) := by decide +kernel
theorem dX3_isFar_0 : decode cX3_isFar 0 = .ok (.iload_n 1, 1) := by decide +kernel
theorem dX3_isFar_1 : decode cX3_isFar 1 = .ok (.ldc 20, 2) := by decide +kernel
theorem dX3_isFar_3 : decode cX3_isFar 3 = .ok (.if_icmp .eq 13, 3) := by decide +kernel
theorem dX3_isFar_6 : decode cX3_isFar 6 = .ok (.iload_n 0, 1) := by decide +kernel
theorem dX3_isFar_7 : decode cX3_isFar 7 = .ok (.iload_n 1, 1) := by decide +kernel
theorem dX3_isFar_8 : decode cX3_isFar 8 = .ok (.isub, 1) := by decide +kernel
theorem dX3_isFar_9 : decode cX3_isFar 9 = .ok (.invokestatic 47, 3) := by decide +kernel
theorem dX3_isFar_12 : decode cX3_isFar 12 = .ok (.iconst 5, 1) := by decide +kernel
theorem dX3_isFar_13 : decode cX3_isFar 13 = .ok (.if_icmp .le 7, 3) := by decide +kernel
theorem dX3_isFar_16 : decode cX3_isFar 16 = .ok (.iconst 1, 1) := by decide +kernel
theorem dX3_isFar_17 : decode cX3_isFar 17 = .ok (.goto 4, 3) := by decide +kernel
theorem dX3_isFar_20 : decode cX3_isFar 20 = .ok (.iconst 0, 1) := by decide +kernel
theorem dX3_isFar_21 : decode cX3_isFar 21 = .ok (.ireturn, 1) := by decide +kernel
theorem dX3_cellAt_0 : decode cX3_cellAt 0 = .ok (.iload_n 1, 1) := by decide +kernel
theorem dX3_cellAt_1 : decode cX3_cellAt 1 = .ok (.aload_n 0, 1) := by decide +kernel
theorem dX3_cellAt_2 : decode cX3_cellAt 2 = .ok (.getfield 41, 3) := by decide +kernel
theorem dX3_cellAt_5 : decode cX3_cellAt 5 = .ok (.aload_n 0, 1) := by decide +kernel
theorem dX3_cellAt_6 : decode cX3_cellAt 6 = .ok (.getfield 44, 3) := by decide +kernel
theorem dX3_cellAt_9 : decode cX3_cellAt 9 = .ok (.invokestatic 158, 3) := by decide +kernel
theorem dX3_cellAt_12 : decode cX3_cellAt 12 = .ok (.if_icmp .lt 22, 3) := by decide +kernel
theorem dX3_cellAt_15 : decode cX3_cellAt 15 = .ok (.iload_n 1, 1) := by decide +kernel
theorem dX3_cellAt_16 : decode cX3_cellAt 16 = .ok (.aload_n 0, 1) := by decide +kernel
theorem dX3_cellAt_17 : decode cX3_cellAt 17 = .ok (.getfield 41, 3) := by decide +kernel
theorem dX3_cellAt_20 : decode cX3_cellAt 20 = .ok (.aload_n 0, 1) := by decide +kernel
theorem dX3_cellAt_21 : decode cX3_cellAt 21 = .ok (.getfield 44, 3) := by decide +kernel
theorem dX3_cellAt_24 : decode cX3_cellAt 24 = .ok (.invokestatic 161, 3) := by decide +kernel
theorem dX3_cellAt_27 : decode cX3_cellAt 27 = .ok (.if_icmp .gt 7, 3) := by decide +kernel
theorem dX3_cellAt_30 : decode cX3_cellAt 30 = .ok (.iconst 1, 1) := by decide +kernel
theorem dX3_cellAt_31 : decode cX3_cellAt 31 = .ok (.goto 4, 3) := by decide +kernel
theorem dX3_cellAt_34 : decode cX3_cellAt 34 = .ok (.iconst 0, 1) := by decide +kernel
theorem dX3_cellAt_35 : decode cX3_cellAt 35 = .ok (.istore_n 2, 1) := by decide +kernel
theorem dX3_cellAt_36 : decode cX3_cellAt 36 = .ok (.iload_n 2, 1) := by decide +kernel
theorem dX3_cellAt_37 : decode cX3_cellAt 37 = .ok (.ifCond .eq 15, 3) := by decide +kernel
theorem dX3_cellAt_40 : decode cX3_cellAt 40 = .ok (.iload_n 1, 1) := by decide +kernel
theorem dX3_cellAt_41 : decode cX3_cellAt 41 = .ok (.aload_n 0, 1) := by decide +kernel
theorem dX3_cellAt_42 : decode cX3_cellAt 42 = .ok (.getfield 41, 3) := by decide +kernel
theorem dX3_cellAt_45 : decode cX3_cellAt 45 = .ok (.isub, 1) := by decide +kernel
theorem dX3_cellAt_46 : decode cX3_cellAt 46 = .ok (.invokestatic 47, 3) := by decide +kernel
theorem dX3_cellAt_49 : decode cX3_cellAt 49 = .ok (.goto 4, 3) := by decide +kernel
theorem dX3_cellAt_52 : decode cX3_cellAt 52 = .ok (.iconst (-1), 1) := by decide +kernel
theorem dX3_cellAt_53 : decode cX3_cellAt 53 = .ok (.ireturn, 1) := by decide +kernel
theorem dX3_placeOf_0 : decode cX3_placeOf 0 = .ok (.aload_n 0, 1) := by decide +kernel
theorem dX3_placeOf_1 : decode cX3_placeOf 1 = .ok (.getfield 41, 3) := by decide +kernel
theorem dX3_placeOf_4 : decode cX3_placeOf 4 = .ok (.aload_n 0, 1) := by decide +kernel
theorem dX3_placeOf_5 : decode cX3_placeOf 5 = .ok (.getfield 44, 3) := by decide +kernel
theorem dX3_placeOf_8 : decode cX3_placeOf 8 = .ok (.if_icmp .gt 12, 3) := by decide +kernel
theorem dX3_placeOf_11 : decode cX3_placeOf 11 = .ok (.aload_n 0, 1) := by decide +kernel
theorem dX3_placeOf_12 : decode cX3_placeOf 12 = .ok (.getfield 41, 3) := by decide +kernel
theorem dX3_placeOf_15 : decode cX3_placeOf 15 = .ok (.iload_n 1, 1) := by decide +kernel
theorem dX3_placeOf_16 : decode cX3_placeOf 16 = .ok (.iadd, 1) := by decide +kernel
theorem dX3_placeOf_17 : decode cX3_placeOf 17 = .ok (.goto 9, 3) := by decide +kernel
theorem dX3_placeOf_20 : decode cX3_placeOf 20 = .ok (.aload_n 0, 1) := by decide +kernel
theorem dX3_placeOf_21 : decode cX3_placeOf 21 = .ok (.getfield 41, 3) := by decide +kernel
theorem dX3_placeOf_24 : decode cX3_placeOf 24 = .ok (.iload_n 1, 1) := by decide +kernel
theorem dX3_placeOf_25 : decode cX3_placeOf 25 = .ok (.isub, 1) := by decide +kernel
theorem dX3_placeOf_26 : decode cX3_placeOf 26 = .ok (.ireturn, 1) := by decide +kernel
theorem dX3_columnOf_0 : decode cX3_columnOf 0 = .ok (.aload_n 0, 1) := by decide +kernel
theorem dX3_columnOf_1 : decode cX3_columnOf 1 = .ok (.getfield 34, 3) := by decide +kernel
theorem dX3_columnOf_4 : decode cX3_columnOf 4 = .ok (.ifCond .eq 11, 3) := by decide +kernel
theorem dX3_columnOf_7 : decode cX3_columnOf 7 = .ok (.aload_n 0, 1) := by decide +kernel
theorem dX3_columnOf_8 : decode cX3_columnOf 8 = .ok (.iload_n 1, 1) := by decide +kernel
theorem dX3_columnOf_9 : decode cX3_columnOf 9 = .ok (.invokevirtual 164, 3) := by decide +kernel
theorem dX3_columnOf_12 : decode cX3_columnOf 12 = .ok (.goto 9, 3) := by decide +kernel
theorem dX3_columnOf_15 : decode cX3_columnOf 15 = .ok (.aload_n 0, 1) := by decide +kernel
theorem dX3_columnOf_16 : decode cX3_columnOf 16 = .ok (.getfield 38, 3) := by decide +kernel
theorem dX3_columnOf_19 : decode cX3_columnOf 19 = .ok (.iload_n 2, 1) := by decide +kernel
theorem dX3_columnOf_20 : decode cX3_columnOf 20 = .ok (.iadd, 1) := by decide +kernel
theorem dX3_columnOf_21 : decode cX3_columnOf 21 = .ok (.ireturn, 1) := by decide +kernel
theorem dX3_rowOf_0 : decode cX3_rowOf 0 = .ok (.aload_n 0, 1) := by decide +kernel
theorem dX3_rowOf_1 : decode cX3_rowOf 1 = .ok (.getfield 34, 3) := by decide +kernel
theorem dX3_rowOf_4 : decode cX3_rowOf 4 = .ok (.ifCond .eq 12, 3) := by decide +kernel
theorem dX3_rowOf_7 : decode cX3_rowOf 7 = .ok (.aload_n 0, 1) := by decide +kernel
theorem dX3_rowOf_8 : decode cX3_rowOf 8 = .ok (.getfield 38, 3) := by decide +kernel
theorem dX3_rowOf_11 : decode cX3_rowOf 11 = .ok (.iload_n 2, 1) := by decide +kernel
theorem dX3_rowOf_12 : decode cX3_rowOf 12 = .ok (.iadd, 1) := by decide +kernel
theorem dX3_rowOf_13 : decode cX3_rowOf 13 = .ok (.goto 8, 3) := by decide +kernel
theorem dX3_rowOf_16 : decode cX3_rowOf 16 = .ok (.aload_n 0, 1) := by decide +kernel
theorem dX3_rowOf_17 : decode cX3_rowOf 17 = .ok (.iload_n 1, 1) := by decide +kernel
theorem dX3_rowOf_18 : decode cX3_rowOf 18 = .ok (.invokevirtual 164, 3) := by decide +kernel
theorem dX3_rowOf_21 : decode cX3_rowOf 21 = .ok (.ireturn, 1) := by decide +kernel
theorem dX3_hourOf_0 : decode cX3_hourOf 0 = .ok (.aload_n 0, 1) := by decide +kernel
theorem dX3_hourOf_1 : decode cX3_hourOf 1 = .ok (.getfield 15, 3) := by decide +kernel
theorem dX3_hourOf_4 : decode cX3_hourOf 4 = .ok (.iload_n 1, 1) := by decide +kernel
theorem dX3_hourOf_5 : decode cX3_hourOf 5 = .ok (.iconst 5, 1) := by decide +kernel
theorem dX3_hourOf_6 : decode cX3_hourOf 6 = .ok (.idiv, 1) := by decide +kernel
theorem dX3_hourOf_7 : decode cX3_hourOf 7 = .ok (.iadd, 1) := by decide +kernel
theorem dX3_hourOf_8 : decode cX3_hourOf 8 = .ok (.ireturn, 1) := by decide +kernel
theorem dX3_slotOf_0 : decode cX3_slotOf 0 = .ok (.iload_n 0, 1) := by decide +kernel
theorem dX3_slotOf_1 : decode cX3_slotOf 1 = .ok (.ifCond .lt 24, 3) := by decide +kernel
theorem dX3_slotOf_4 : decode cX3_slotOf 4 = .ok (.iload_n 0, 1) := by decide +kernel
theorem dX3_slotOf_5 : decode cX3_slotOf 5 = .ok (.bipush 20, 2) := by decide +kernel
theorem dX3_slotOf_7 : decode cX3_slotOf 7 = .ok (.if_icmp .ge 18, 3) := by decide +kernel
theorem dX3_slotOf_10 : decode cX3_slotOf 10 = .ok (.iload_n 1, 1) := by decide +kernel
theorem dX3_slotOf_11 : decode cX3_slotOf 11 = .ok (.bipush (-3), 2) := by decide +kernel
theorem dX3_slotOf_13 : decode cX3_slotOf 13 = .ok (.if_icmp .lt 12, 3) := by decide +kernel
theorem dX3_slotOf_16 : decode cX3_slotOf 16 = .ok (.iload_n 1, 1) := by decide +kernel
theorem dX3_slotOf_17 : decode cX3_slotOf 17 = .ok (.iconst 3, 1) := by decide +kernel
theorem dX3_slotOf_18 : decode cX3_slotOf 18 = .ok (.if_icmp .gt 7, 3) := by decide +kernel
theorem dX3_slotOf_21 : decode cX3_slotOf 21 = .ok (.iconst 1, 1) := by decide +kernel
theorem dX3_slotOf_22 : decode cX3_slotOf 22 = .ok (.goto 4, 3) := by decide +kernel
theorem dX3_slotOf_25 : decode cX3_slotOf 25 = .ok (.iconst 0, 1) := by decide +kernel
theorem dX3_slotOf_26 : decode cX3_slotOf 26 = .ok (.istore_n 2, 1) := by decide +kernel
theorem dX3_slotOf_27 : decode cX3_slotOf 27 = .ok (.iload_n 2, 1) := by decide +kernel
theorem dX3_slotOf_28 : decode cX3_slotOf 28 = .ok (.ifCond .eq 14, 3) := by decide +kernel
theorem dX3_slotOf_31 : decode cX3_slotOf 31 = .ok (.iload_n 0, 1) := by decide +kernel
theorem dX3_slotOf_32 : decode cX3_slotOf 32 = .ok (.bipush 7, 2) := by decide +kernel
theorem dX3_slotOf_34 : decode cX3_slotOf 34 = .ok (.imul, 1) := by decide +kernel
theorem dX3_slotOf_35 : decode cX3_slotOf 35 = .ok (.iload_n 1, 1) := by decide +kernel
theorem dX3_slotOf_36 : decode cX3_slotOf 36 = .ok (.iadd, 1) := by decide +kernel
theorem dX3_slotOf_37 : decode cX3_slotOf 37 = .ok (.iconst 3, 1) := by decide +kernel
theorem dX3_slotOf_38 : decode cX3_slotOf 38 = .ok (.iadd, 1) := by decide +kernel
theorem dX3_slotOf_39 : decode cX3_slotOf 39 = .ok (.goto 4, 3) := by decide +kernel
theorem dX3_slotOf_42 : decode cX3_slotOf 42 = .ok (.iconst (-1), 1) := by decide +kernel
theorem dX3_slotOf_43 : decode cX3_slotOf 43 = .ok (.ireturn, 1) := by decide +kernel
theorem dX4_init_0 : decode cX4_init 0 = .ok (.aload_n 0, 1) := by decide +kernel
theorem dX4_init_1 : decode cX4_init 1 = .ok (.invokespecial 1, 3) := by decide +kernel
theorem dX4_init_4 : decode cX4_init 4 = .ok (.aload_n 0, 1) := by decide +kernel
theorem dX4_init_5 : decode cX4_init 5 = .ok (.iload_n 1, 1) := by decide +kernel
theorem dX4_init_6 : decode cX4_init 6 = .ok (.ifCond .le 7, 3) := by decide +kernel
theorem dX4_init_9 : decode cX4_init 9 = .ok (.iload_n 1, 1) := by decide +kernel
theorem dX4_init_10 : decode cX4_init 10 = .ok (.goto 4, 3) := by decide +kernel
theorem dX4_init_13 : decode cX4_init 13 = .ok (.iconst 0, 1) := by decide +kernel
theorem dX4_init_14 : decode cX4_init 14 = .ok (.newarray .int, 2) := by decide +kernel
theorem dX4_init_16 : decode cX4_init 16 = .ok (.putfield 7, 3) := by decide +kernel
theorem dX4_init_19 : decode cX4_init 19 = .ok (.aload_n 0, 1) := by decide +kernel
theorem dX4_init_20 : decode cX4_init 20 = .ok (.iload_n 2, 1) := by decide +kernel
theorem dX4_init_21 : decode cX4_init 21 = .ok (.putfield 13, 3) := by decide +kernel
theorem dX4_init_24 : decode cX4_init 24 = .ok (.aload_n 0, 1) := by decide +kernel
theorem dX4_init_25 : decode cX4_init 25 = .ok (.getfield 7, 3) := by decide +kernel
theorem dX4_init_28 : decode cX4_init 28 = .ok (.iload_n 2, 1) := by decide +kernel
theorem dX4_init_29 : decode cX4_init 29 = .ok (.invokestatic 17, 3) := by decide +kernel
theorem dX4_init_32 : decode cX4_init 32 = .ok (.return_, 1) := by decide +kernel
theorem dX4_read_0 : decode cX4_read 0 = .ok (.iload_n 1, 1) := by decide +kernel
theorem dX4_read_1 : decode cX4_read 1 = .ok (.ifCond .lt 21, 3) := by decide +kernel
theorem dX4_read_4 : decode cX4_read 4 = .ok (.iload_n 1, 1) := by decide +kernel
theorem dX4_read_5 : decode cX4_read 5 = .ok (.aload_n 0, 1) := by decide +kernel
theorem dX4_read_6 : decode cX4_read 6 = .ok (.getfield 7, 3) := by decide +kernel
theorem dX4_read_9 : decode cX4_read 9 = .ok (.arraylength, 1) := by decide +kernel
theorem dX4_read_10 : decode cX4_read 10 = .ok (.if_icmp .ge 12, 3) := by decide +kernel
theorem dX4_read_13 : decode cX4_read 13 = .ok (.aload_n 0, 1) := by decide +kernel
theorem dX4_read_14 : decode cX4_read 14 = .ok (.getfield 7, 3) := by decide +kernel
theorem dX4_read_17 : decode cX4_read 17 = .ok (.iload_n 1, 1) := by decide +kernel
theorem dX4_read_18 : decode cX4_read 18 = .ok (.iaload, 1) := by decide +kernel
theorem dX4_read_19 : decode cX4_read 19 = .ok (.goto 7, 3) := by decide +kernel
theorem dX4_read_22 : decode cX4_read 22 = .ok (.aload_n 0, 1) := by decide +kernel
theorem dX4_read_23 : decode cX4_read 23 = .ok (.getfield 13, 3) := by decide +kernel
theorem dX4_read_26 : decode cX4_read 26 = .ok (.ireturn, 1) := by decide +kernel
theorem dX4_write_0 : decode cX4_write 0 = .ok (.iload_n 1, 1) := by decide +kernel
theorem dX4_write_1 : decode cX4_write 1 = .ok (.ifCond .lt 12, 3) := by decide +kernel
theorem dX4_write_4 : decode cX4_write 4 = .ok (.iload_n 1, 1) := by decide +kernel
theorem dX4_write_5 : decode cX4_write 5 = .ok (.aload_n 0, 1) := by decide +kernel
theorem dX4_write_6 : decode cX4_write 6 = .ok (.getfield 7, 3) := by decide +kernel
theorem dX4_write_9 : decode cX4_write 9 = .ok (.arraylength, 1) := by decide +kernel
theorem dX4_write_10 : decode cX4_write 10 = .ok (.if_icmp .lt 8, 3) := by decide +kernel
theorem dX4_write_13 : decode cX4_write 13 = .ok (.aload_n 0, 1) := by decide +kernel
theorem dX4_write_14 : decode cX4_write 14 = .ok (.getfield 13, 3) := by decide +kernel
theorem dX4_write_17 : decode cX4_write 17 = .ok (.ireturn, 1) := by decide +kernel
theorem dX4_write_18 : decode cX4_write 18 = .ok (.aload_n 0, 1) := by decide +kernel
theorem dX4_write_19 : decode cX4_write 19 = .ok (.getfield 7, 3) := by decide +kernel
theorem dX4_write_22 : decode cX4_write 22 = .ok (.iload_n 1, 1) := by decide +kernel
theorem dX4_write_23 : decode cX4_write 23 = .ok (.iaload, 1) := by decide +kernel
theorem dX4_write_24 : decode cX4_write 24 = .ok (.istore_n 3, 1) := by decide +kernel
theorem dX4_write_25 : decode cX4_write 25 = .ok (.aload_n 0, 1) := by decide +kernel
theorem dX4_write_26 : decode cX4_write 26 = .ok (.getfield 7, 3) := by decide +kernel
theorem dX4_write_29 : decode cX4_write 29 = .ok (.iload_n 1, 1) := by decide +kernel
theorem dX4_write_30 : decode cX4_write 30 = .ok (.iload_n 2, 1) := by decide +kernel
theorem dX4_write_31 : decode cX4_write 31 = .ok (.iastore, 1) := by decide +kernel
theorem dX4_write_32 : decode cX4_write 32 = .ok (.iload_n 3, 1) := by decide +kernel
theorem dX4_write_33 : decode cX4_write 33 = .ok (.ireturn, 1) := by decide +kernel
theorem dX4_clear_0 : decode cX4_clear 0 = .ok (.aload_n 0, 1) := by decide +kernel
theorem dX4_clear_1 : decode cX4_clear 1 = .ok (.getfield 7, 3) := by decide +kernel
theorem dX4_clear_4 : decode cX4_clear 4 = .ok (.aload_n 0, 1) := by decide +kernel
theorem dX4_clear_5 : decode cX4_clear 5 = .ok (.getfield 13, 3) := by decide +kernel
theorem dX4_clear_8 : decode cX4_clear 8 = .ok (.invokestatic 17, 3) := by decide +kernel
theorem dX4_clear_11 : decode cX4_clear 11 = .ok (.return_, 1) := by decide +kernel
theorem dX5_init_0 : decode cX5_init 0 = .ok (.aload_n 0, 1) := by decide +kernel
theorem dX5_init_1 : decode cX5_init 1 = .ok (.invokespecial 3, 3) := by decide +kernel
theorem dX5_init_4 : decode cX5_init 4 = .ok (.aload_n 0, 1) := by decide +kernel
theorem dX5_init_5 : decode cX5_init 5 = .ok (.new 9, 3) := by decide +kernel
theorem dX5_init_8 : decode cX5_init 8 = .ok (.dup, 1) := by decide +kernel
theorem dX5_init_9 : decode cX5_init 9 = .ok (.sipush 240, 3) := by decide +kernel
theorem dX5_init_12 : decode cX5_init 12 = .ok (.bipush 20, 2) := by decide +kernel
theorem dX5_init_14 : decode cX5_init 14 = .ok (.invokespecial 11, 3) := by decide +kernel
theorem dX5_init_17 : decode cX5_init 17 = .ok (.putfield 14, 3) := by decide +kernel
theorem dX5_init_20 : decode cX5_init 20 = .ok (.aload_n 0, 1) := by decide +kernel
theorem dX5_init_21 : decode cX5_init 21 = .ok (.new 9, 3) := by decide +kernel
theorem dX5_init_24 : decode cX5_init 24 = .ok (.dup, 1) := by decide +kernel
theorem dX5_init_25 : decode cX5_init 25 = .ok (.sipush 240, 3) := by decide +kernel
theorem dX5_init_28 : decode cX5_init 28 = .ok (.iconst 0, 1) := by decide +kernel
theorem dX5_init_29 : decode cX5_init 29 = .ok (.invokespecial 11, 3) := by decide +kernel
theorem dX5_init_32 : decode cX5_init 32 = .ok (.putfield 20, 3) := by decide +kernel
theorem dX5_init_35 : decode cX5_init 35 = .ok (.aload_n 0, 1) := by decide +kernel
theorem dX5_init_36 : decode cX5_init 36 = .ok (.new 9, 3) := by decide +kernel
theorem dX5_init_39 : decode cX5_init 39 = .ok (.dup, 1) := by decide +kernel
theorem dX5_init_40 : decode cX5_init 40 = .ok (.bipush 10, 2) := by decide +kernel
theorem dX5_init_42 : decode cX5_init 42 = .ok (.iconst 0, 1) := by decide +kernel
theorem dX5_init_43 : decode cX5_init 43 = .ok (.invokespecial 11, 3) := by decide +kernel
theorem dX5_init_46 : decode cX5_init 46 = .ok (.putfield 23, 3) := by decide +kernel
theorem dX5_init_49 : decode cX5_init 49 = .ok (.aload_n 0, 1) := by decide +kernel
theorem dX5_init_50 : decode cX5_init 50 = .ok (.new 9, 3) := by decide +kernel
theorem dX5_init_53 : decode cX5_init 53 = .ok (.dup, 1) := by decide +kernel
theorem dX5_init_54 : decode cX5_init 54 = .ok (.bipush 10, 2) := by decide +kernel
theorem dX5_init_56 : decode cX5_init 56 = .ok (.iconst 0, 1) := by decide +kernel
theorem dX5_init_57 : decode cX5_init 57 = .ok (.invokespecial 11, 3) := by decide +kernel
theorem dX5_init_60 : decode cX5_init 60 = .ok (.putfield 26, 3) := by decide +kernel
theorem dX5_init_63 : decode cX5_init 63 = .ok (.return_, 1) := by decide +kernel
theorem dX5_putFloor_0 : decode cX5_putFloor 0 = .ok (.aload_n 0, 1) := by decide +kernel
theorem dX5_putFloor_1 : decode cX5_putFloor 1 = .ok (.getfield 14, 3) := by decide +kernel
theorem dX5_putFloor_4 : decode cX5_putFloor 4 = .ok (.iload_n 1, 1) := by decide +kernel
theorem dX5_putFloor_5 : decode cX5_putFloor 5 = .ok (.iload_n 2, 1) := by decide +kernel
theorem dX5_putFloor_6 : decode cX5_putFloor 6 = .ok (.invokestatic 29, 3) := by decide +kernel
theorem dX5_putFloor_9 : decode cX5_putFloor 9 = .ok (.iload_n 3, 1) := by decide +kernel
theorem dX5_putFloor_10 : decode cX5_putFloor 10 = .ok (.invokevirtual 33, 3) := by decide +kernel
theorem dX5_putFloor_13 : decode cX5_putFloor 13 = .ok (.ireturn, 1) := by decide +kernel
theorem dX5_putHeight_0 : decode cX5_putHeight 0 = .ok (.aload_n 0, 1) := by decide +kernel
theorem dX5_putHeight_1 : decode cX5_putHeight 1 = .ok (.getfield 20, 3) := by decide +kernel
theorem dX5_putHeight_4 : decode cX5_putHeight 4 = .ok (.iload_n 1, 1) := by decide +kernel
theorem dX5_putHeight_5 : decode cX5_putHeight 5 = .ok (.iload_n 2, 1) := by decide +kernel
theorem dX5_putHeight_6 : decode cX5_putHeight 6 = .ok (.invokestatic 36, 3) := by decide +kernel
theorem dX5_putHeight_9 : decode cX5_putHeight 9 = .ok (.iload_n 3, 1) := by decide +kernel
theorem dX5_putHeight_10 : decode cX5_putHeight 10 = .ok (.invokevirtual 33, 3) := by decide +kernel
theorem dX5_putHeight_13 : decode cX5_putHeight 13 = .ok (.ireturn, 1) := by decide +kernel
theorem dX5_putSlope_0 : decode cX5_putSlope 0 = .ok (.aload_n 0, 1) := by decide +kernel
theorem dX5_putSlope_1 : decode cX5_putSlope 1 = .ok (.getfield 23, 3) := by decide +kernel
theorem dX5_putSlope_4 : decode cX5_putSlope 4 = .ok (.iload_n 1, 1) := by decide +kernel
theorem dX5_putSlope_5 : decode cX5_putSlope 5 = .ok (.iload_n 2, 1) := by decide +kernel
theorem dX5_putSlope_6 : decode cX5_putSlope 6 = .ok (.invokevirtual 33, 3) := by decide +kernel
theorem dX5_putSlope_9 : decode cX5_putSlope 9 = .ok (.ireturn, 1) := by decide +kernel
theorem dX5_putForce_0 : decode cX5_putForce 0 = .ok (.aload_n 0, 1) := by decide +kernel
theorem dX5_putForce_1 : decode cX5_putForce 1 = .ok (.getfield 26, 3) := by decide +kernel
theorem dX5_putForce_4 : decode cX5_putForce 4 = .ok (.iload_n 1, 1) := by decide +kernel
theorem dX5_putForce_5 : decode cX5_putForce 5 = .ok (.iload_n 2, 1) := by decide +kernel
theorem dX5_putForce_6 : decode cX5_putForce 6 = .ok (.invokevirtual 33, 3) := by decide +kernel
theorem dX5_putForce_9 : decode cX5_putForce 9 = .ok (.ireturn, 1) := by decide +kernel
theorem dX5_floorIn_0 : decode cX5_floorIn 0 = .ok (.aload_n 0, 1) := by decide +kernel
theorem dX5_floorIn_1 : decode cX5_floorIn 1 = .ok (.getfield 14, 3) := by decide +kernel
theorem dX5_floorIn_4 : decode cX5_floorIn 4 = .ok (.iload_n 1, 1) := by decide +kernel
theorem dX5_floorIn_5 : decode cX5_floorIn 5 = .ok (.iload_n 2, 1) := by decide +kernel
theorem dX5_floorIn_6 : decode cX5_floorIn 6 = .ok (.invokestatic 29, 3) := by decide +kernel
theorem dX5_floorIn_9 : decode cX5_floorIn 9 = .ok (.invokevirtual 39, 3) := by decide +kernel
theorem dX5_floorIn_12 : decode cX5_floorIn 12 = .ok (.ireturn, 1) := by decide +kernel
theorem dX5_waterIn_0 : decode cX5_waterIn 0 = .ok (.aload_n 0, 1) := by decide +kernel
theorem dX5_waterIn_1 : decode cX5_waterIn 1 = .ok (.getfield 20, 3) := by decide +kernel
theorem dX5_waterIn_4 : decode cX5_waterIn 4 = .ok (.iload_n 2, 1) := by decide +kernel
theorem dX5_waterIn_5 : decode cX5_waterIn 5 = .ok (.iload_n 3, 1) := by decide +kernel
theorem dX5_waterIn_6 : decode cX5_waterIn 6 = .ok (.invokestatic 36, 3) := by decide +kernel
theorem dX5_waterIn_9 : decode cX5_waterIn 9 = .ok (.invokevirtual 39, 3) := by decide +kernel
theorem dX5_waterIn_12 : decode cX5_waterIn 12 = .ok (.aload_n 0, 1) := by decide +kernel
theorem dX5_waterIn_13 : decode cX5_waterIn 13 = .ok (.getfield 23, 3) := by decide +kernel
theorem dX5_waterIn_16 : decode cX5_waterIn 16 = .ok (.iload_n 2, 1) := by decide +kernel
theorem dX5_waterIn_17 : decode cX5_waterIn 17 = .ok (.invokevirtual 39, 3) := by decide +kernel
theorem dX5_waterIn_20 : decode cX5_waterIn 20 = .ok (.iload_n 1, 1) := by decide +kernel
theorem dX5_waterIn_21 : decode cX5_waterIn 21 = .ok (.imul, 1) := by decide +kernel
theorem dX5_waterIn_22 : decode cX5_waterIn 22 = .ok (.iconst 4, 1) := by decide +kernel
theorem dX5_waterIn_23 : decode cX5_waterIn 23 = .ok (.invokestatic 43, 3) := by decide +kernel
theorem dX5_waterIn_26 : decode cX5_waterIn 26 = .ok (.iadd, 1) := by decide +kernel
theorem dX5_waterIn_27 : decode cX5_waterIn 27 = .ok (.ireturn, 1) := by decide +kernel
theorem dX5_isRough_0 : decode cX5_isRough 0 = .ok (.aload_n 0, 1) := by decide +kernel
theorem dX5_isRough_1 : decode cX5_isRough 1 = .ok (.getfield 26, 3) := by decide +kernel
theorem dX5_isRough_4 : decode cX5_isRough 4 = .ok (.iload_n 1, 1) := by decide +kernel
theorem dX5_isRough_5 : decode cX5_isRough 5 = .ok (.invokevirtual 39, 3) := by decide +kernel
theorem dX5_isRough_8 : decode cX5_isRough 8 = .ok (.iconst 4, 1) := by decide +kernel
theorem dX5_isRough_9 : decode cX5_isRough 9 = .ok (.if_icmp .le 7, 3) := by decide +kernel
theorem dX5_isRough_12 : decode cX5_isRough 12 = .ok (.iconst 1, 1) := by decide +kernel
theorem dX5_isRough_13 : decode cX5_isRough 13 = .ok (.goto 4, 3) := by decide +kernel
theorem dX5_isRough_16 : decode cX5_isRough 16 = .ok (.iconst 0, 1) := by decide +kernel
theorem dX5_isRough_17 : decode cX5_isRough 17 = .ok (.ireturn, 1) := by decide +kernel
theorem dX5_reachFrom_0 : decode cX5_reachFrom 0 = .ok (.aload_n 0, 1) := by decide +kernel
theorem dX5_reachFrom_1 : decode cX5_reachFrom 1 = .ok (.iload_n 1, 1) := by decide +kernel
theorem dX5_reachFrom_2 : decode cX5_reachFrom 2 = .ok (.iload_n 2, 1) := by decide +kernel
theorem dX5_reachFrom_3 : decode cX5_reachFrom 3 = .ok (.invokevirtual 48, 3) := by decide +kernel
theorem dX5_reachFrom_6 : decode cX5_reachFrom 6 = .ok (.bipush 10, 2) := by decide +kernel
theorem dX5_reachFrom_8 : decode cX5_reachFrom 8 = .ok (.idiv, 1) := by decide +kernel
theorem dX5_reachFrom_9 : decode cX5_reachFrom 9 = .ok (.iconst 3, 1) := by decide +kernel
theorem dX5_reachFrom_10 : decode cX5_reachFrom 10 = .ok (.invokestatic 51, 3) := by decide +kernel
theorem dX5_reachFrom_13 : decode cX5_reachFrom 13 = .ok (.ireturn, 1) := by decide +kernel
theorem dX6_init_0 : decode cX6_init 0 = .ok (.aload_n 0, 1) := by decide +kernel
theorem dX6_init_1 : decode cX6_init 1 = .ok (.invokespecial 1, 3) := by decide +kernel
theorem dX6_init_4 : decode cX6_init 4 = .ok (.aload_n 0, 1) := by decide +kernel
theorem dX6_init_5 : decode cX6_init 5 = .ok (.new 7, 3) := by decide +kernel
theorem dX6_init_8 : decode cX6_init 8 = .ok (.dup, 1) := by decide +kernel
theorem dX6_init_9 : decode cX6_init 9 = .ok (.invokespecial 9, 3) := by decide +kernel
theorem dX6_init_12 : decode cX6_init 12 = .ok (.putfield 10, 3) := by decide +kernel
theorem dX6_init_15 : decode cX6_init 15 = .ok (.aload_n 0, 1) := by decide +kernel
theorem dX6_init_16 : decode cX6_init 16 = .ok (.new 16, 3) := by decide +kernel
theorem dX6_init_19 : decode cX6_init 19 = .ok (.dup, 1) := by decide +kernel
theorem dX6_init_20 : decode cX6_init 20 = .ok (.invokespecial 18, 3) := by decide +kernel
theorem dX6_init_23 : decode cX6_init 23 = .ok (.putfield 19, 3) := by decide +kernel
theorem dX6_init_26 : decode cX6_init 26 = .ok (.aload_n 0, 1) := by decide +kernel
theorem dX6_init_27 : decode cX6_init 27 = .ok (.bipush 16, 2) := by decide +kernel
theorem dX6_init_29 : decode cX6_init 29 = .ok (.anewarray 23, 3) := by decide +kernel
theorem dX6_init_32 : decode cX6_init 32 = .ok (.putfield 25, 3) := by decide +kernel
theorem dX6_init_35 : decode cX6_init 35 = .ok (.aload_n 0, 1) := by decide +kernel
theorem dX6_init_36 : decode cX6_init 36 = .ok (.iconst 0, 1) := by decide +kernel
theorem dX6_init_37 : decode cX6_init 37 = .ok (.putfield 29, 3) := by decide +kernel
theorem dX6_init_40 : decode cX6_init 40 = .ok (.aload_n 0, 1) := by decide +kernel
theorem dX6_init_41 : decode cX6_init 41 = .ok (.new 33, 3) := by decide +kernel
theorem dX6_init_44 : decode cX6_init 44 = .ok (.dup, 1) := by decide +kernel
theorem dX6_init_45 : decode cX6_init 45 = .ok (.invokespecial 35, 3) := by decide +kernel
theorem dX6_init_48 : decode cX6_init 48 = .ok (.putfield 36, 3) := by decide +kernel
theorem dX6_init_51 : decode cX6_init 51 = .ok (.aload_n 0, 1) := by decide +kernel
theorem dX6_init_52 : decode cX6_init 52 = .ok (.new 40, 3) := by decide +kernel
theorem dX6_init_55 : decode cX6_init 55 = .ok (.dup, 1) := by decide +kernel
theorem dX6_init_56 : decode cX6_init 56 = .ok (.invokespecial 42, 3) := by decide +kernel
theorem dX6_init_59 : decode cX6_init 59 = .ok (.putfield 43, 3) := by decide +kernel
theorem dX6_init_62 : decode cX6_init 62 = .ok (.return_, 1) := by decide +kernel
theorem dX6_setFloor_0 : decode cX6_setFloor 0 = .ok (.iload_n 1, 1) := by decide +kernel
theorem dX6_setFloor_1 : decode cX6_setFloor 1 = .ok (.iload_n 2, 1) := by decide +kernel
theorem dX6_setFloor_2 : decode cX6_setFloor 2 = .ok (.invokestatic 47, 3) := by decide +kernel
theorem dX6_setFloor_5 : decode cX6_setFloor 5 = .ok (.iload_n 3, 1) := by decide +kernel
theorem dX6_setFloor_6 : decode cX6_setFloor 6 = .ok (.iconst 1, 1) := by decide +kernel
theorem dX6_setFloor_7 : decode cX6_setFloor 7 = .ok (.if_icmp .lt 9, 3) := by decide +kernel
theorem dX6_setFloor_10 : decode cX6_setFloor 10 = .ok (.iload_n 3, 1) := by decide +kernel
theorem dX6_setFloor_11 : decode cX6_setFloor 11 = .ok (.bipush 99, 2) := by decide +kernel
theorem dX6_setFloor_13 : decode cX6_setFloor 13 = .ok (.if_icmp .le 13, 3) := by decide +kernel
theorem dX6_setFloor_16 : decode cX6_setFloor 16 = .ok (.new 51, 3) := by decide +kernel
theorem dX6_setFloor_19 : decode cX6_setFloor 19 = .ok (.dup, 1) := by decide +kernel
theorem dX6_setFloor_20 : decode cX6_setFloor 20 = .ok (.ldc 53, 2) := by decide +kernel
theorem dX6_setFloor_22 : decode cX6_setFloor 22 = .ok (.invokespecial 55, 3) := by decide +kernel
theorem dX6_setFloor_25 : decode cX6_setFloor 25 = .ok (.athrow, 1) := by decide +kernel
theorem dX6_setFloor_26 : decode cX6_setFloor 26 = .ok (.aload_n 0, 1) := by decide +kernel
theorem dX6_setFloor_27 : decode cX6_setFloor 27 = .ok (.getfield 10, 3) := by decide +kernel
theorem dX6_setFloor_30 : decode cX6_setFloor 30 = .ok (.iload_n 1, 1) := by decide +kernel
theorem dX6_setFloor_31 : decode cX6_setFloor 31 = .ok (.iload_n 2, 1) := by decide +kernel
theorem dX6_setFloor_32 : decode cX6_setFloor 32 = .ok (.iload_n 3, 1) := by decide +kernel
theorem dX6_setFloor_33 : decode cX6_setFloor 33 = .ok (.invokevirtual 58, 3) := by decide +kernel
theorem dX6_setFloor_36 : decode cX6_setFloor 36 = .ok (.ireturn, 1) := by decide +kernel
theorem dX6_setWater_0 : decode cX6_setWater 0 = .ok (.iload_n 1, 1) := by decide +kernel
theorem dX6_setWater_1 : decode cX6_setWater 1 = .ok (.iload_n 2, 1) := by decide +kernel
theorem dX6_setWater_2 : decode cX6_setWater 2 = .ok (.invokestatic 62, 3) := by decide +kernel
theorem dX6_setWater_5 : decode cX6_setWater 5 = .ok (.iload_n 3, 1) := by decide +kernel
theorem dX6_setWater_6 : decode cX6_setWater 6 = .ok (.ifCond .lt 9, 3) := by decide +kernel
theorem dX6_setWater_9 : decode cX6_setWater 9 = .ok (.iload_n 3, 1) := by decide +kernel
theorem dX6_setWater_10 : decode cX6_setWater 10 = .ok (.bipush 30, 2) := by decide +kernel
theorem dX6_setWater_12 : decode cX6_setWater 12 = .ok (.if_icmp .le 13, 3) := by decide +kernel
theorem dX6_setWater_15 : decode cX6_setWater 15 = .ok (.new 51, 3) := by decide +kernel
theorem dX6_setWater_18 : decode cX6_setWater 18 = .ok (.dup, 1) := by decide +kernel
theorem dX6_setWater_19 : decode cX6_setWater 19 = .ok (.ldc 65, 2) := by decide +kernel
theorem dX6_setWater_21 : decode cX6_setWater 21 = .ok (.invokespecial 55, 3) := by decide +kernel
theorem dX6_setWater_24 : decode cX6_setWater 24 = .ok (.athrow, 1) := by decide +kernel
theorem dX6_setWater_25 : decode cX6_setWater 25 = .ok (.aload_n 0, 1) := by decide +kernel
theorem dX6_setWater_26 : decode cX6_setWater 26 = .ok (.getfield 10, 3) := by decide +kernel
theorem dX6_setWater_29 : decode cX6_setWater 29 = .ok (.iload_n 1, 1) := by decide +kernel
theorem dX6_setWater_30 : decode cX6_setWater 30 = .ok (.iload_n 2, 1) := by decide +kernel
theorem dX6_setWater_31 : decode cX6_setWater 31 = .ok (.iload_n 3, 1) := by decide +kernel
theorem dX6_setWater_32 : decode cX6_setWater 32 = .ok (.invokevirtual 67, 3) := by decide +kernel
theorem dX6_setWater_35 : decode cX6_setWater 35 = .ok (.istore 4, 2) := by decide +kernel
theorem dX6_setWater_37 : decode cX6_setWater 37 = .ok (.aload_n 0, 1) := by decide +kernel
theorem dX6_setWater_38 : decode cX6_setWater 38 = .ok (.invokevirtual 70, 3) := by decide +kernel
theorem dX6_setWater_41 : decode cX6_setWater 41 = .ok (.iload 4, 2) := by decide +kernel
theorem dX6_setWater_43 : decode cX6_setWater 43 = .ok (.ireturn, 1) := by decide +kernel
theorem dX6_setSlope_0 : decode cX6_setSlope 0 = .ok (.iload_n 1, 1) := by decide +kernel
theorem dX6_setSlope_1 : decode cX6_setSlope 1 = .ok (.invokestatic 73, 3) := by decide +kernel
theorem dX6_setSlope_4 : decode cX6_setSlope 4 = .ok (.iload_n 2, 1) := by decide +kernel
theorem dX6_setSlope_5 : decode cX6_setSlope 5 = .ok (.bipush (-2), 2) := by decide +kernel
theorem dX6_setSlope_7 : decode cX6_setSlope 7 = .ok (.if_icmp .lt 8, 3) := by decide +kernel
theorem dX6_setSlope_10 : decode cX6_setSlope 10 = .ok (.iload_n 2, 1) := by decide +kernel
theorem dX6_setSlope_11 : decode cX6_setSlope 11 = .ok (.iconst 2, 1) := by decide +kernel
theorem dX6_setSlope_12 : decode cX6_setSlope 12 = .ok (.if_icmp .le 13, 3) := by decide +kernel
theorem dX6_setSlope_15 : decode cX6_setSlope 15 = .ok (.new 51, 3) := by decide +kernel
theorem dX6_setSlope_18 : decode cX6_setSlope 18 = .ok (.dup, 1) := by decide +kernel
theorem dX6_setSlope_19 : decode cX6_setSlope 19 = .ok (.ldc 77, 2) := by decide +kernel
theorem dX6_setSlope_21 : decode cX6_setSlope 21 = .ok (.invokespecial 55, 3) := by decide +kernel
theorem dX6_setSlope_24 : decode cX6_setSlope 24 = .ok (.athrow, 1) := by decide +kernel
theorem dX6_setSlope_25 : decode cX6_setSlope 25 = .ok (.aload_n 0, 1) := by decide +kernel
theorem dX6_setSlope_26 : decode cX6_setSlope 26 = .ok (.getfield 10, 3) := by decide +kernel
theorem dX6_setSlope_29 : decode cX6_setSlope 29 = .ok (.iload_n 1, 1) := by decide +kernel
theorem dX6_setSlope_30 : decode cX6_setSlope 30 = .ok (.iload_n 2, 1) := by decide +kernel
theorem dX6_setSlope_31 : decode cX6_setSlope 31 = .ok (.invokevirtual 79, 3) := by decide +kernel
theorem dX6_setSlope_34 : decode cX6_setSlope 34 = .ok (.istore_n 3, 1) := by decide +kernel
theorem dX6_setSlope_35 : decode cX6_setSlope 35 = .ok (.aload_n 0, 1) := by decide +kernel
theorem dX6_setSlope_36 : decode cX6_setSlope 36 = .ok (.invokevirtual 70, 3) := by decide +kernel
theorem dX6_setSlope_39 : decode cX6_setSlope 39 = .ok (.iload_n 3, 1) := by decide +kernel
theorem dX6_setSlope_40 : decode cX6_setSlope 40 = .ok (.ireturn, 1) := by decide +kernel
theorem dX6_waterAt_0 : decode cX6_waterAt 0 = .ok (.iload_n 1, 1) := by decide +kernel
theorem dX6_waterAt_1 : decode cX6_waterAt 1 = .ok (.invokestatic 83, 3) := by decide +kernel
theorem dX6_waterAt_4 : decode cX6_waterAt 4 = .ok (.iload_n 2, 1) := by decide +kernel
theorem dX6_waterAt_5 : decode cX6_waterAt 5 = .ok (.iload_n 3, 1) := by decide +kernel
theorem dX6_waterAt_6 : decode cX6_waterAt 6 = .ok (.invokestatic 62, 3) := by decide +kernel
theorem dX6_waterAt_9 : decode cX6_waterAt 9 = .ok (.aload_n 0, 1) := by decide +kernel
theorem dX6_waterAt_10 : decode cX6_waterAt 10 = .ok (.getfield 10, 3) := by decide +kernel
theorem dX6_waterAt_13 : decode cX6_waterAt 13 = .ok (.iload_n 1, 1) := by decide +kernel
theorem dX6_waterAt_14 : decode cX6_waterAt 14 = .ok (.iload_n 2, 1) := by decide +kernel
theorem dX6_waterAt_15 : decode cX6_waterAt 15 = .ok (.iload_n 3, 1) := by decide +kernel
theorem dX6_waterAt_16 : decode cX6_waterAt 16 = .ok (.invokevirtual 86, 3) := by decide +kernel
theorem dX6_waterAt_19 : decode cX6_waterAt 19 = .ok (.ireturn, 1) := by decide +kernel
theorem dX6_setWeather_0 : decode cX6_setWeather 0 = .ok (.iload_n 1, 1) := by decide +kernel
theorem dX6_setWeather_1 : decode cX6_setWeather 1 = .ok (.invokestatic 73, 3) := by decide +kernel
theorem dX6_setWeather_4 : decode cX6_setWeather 4 = .ok (.iload_n 2, 1) := by decide +kernel
theorem dX6_setWeather_5 : decode cX6_setWeather 5 = .ok (.ifCond .lt 9, 3) := by decide +kernel
theorem dX6_setWeather_8 : decode cX6_setWeather 8 = .ok (.iload_n 2, 1) := by decide +kernel
theorem dX6_setWeather_9 : decode cX6_setWeather 9 = .ok (.bipush 9, 2) := by decide +kernel
theorem dX6_setWeather_11 : decode cX6_setWeather 11 = .ok (.if_icmp .le 13, 3) := by decide +kernel
theorem dX6_setWeather_14 : decode cX6_setWeather 14 = .ok (.new 51, 3) := by decide +kernel
theorem dX6_setWeather_17 : decode cX6_setWeather 17 = .ok (.dup, 1) := by decide +kernel
theorem dX6_setWeather_18 : decode cX6_setWeather 18 = .ok (.ldc 89, 2) := by decide +kernel
theorem dX6_setWeather_20 : decode cX6_setWeather 20 = .ok (.invokespecial 55, 3) := by decide +kernel
theorem dX6_setWeather_23 : decode cX6_setWeather 23 = .ok (.athrow, 1) := by decide +kernel
theorem dX6_setWeather_24 : decode cX6_setWeather 24 = .ok (.aload_n 0, 1) := by decide +kernel
theorem dX6_setWeather_25 : decode cX6_setWeather 25 = .ok (.getfield 10, 3) := by decide +kernel
theorem dX6_setWeather_28 : decode cX6_setWeather 28 = .ok (.iload_n 1, 1) := by decide +kernel
theorem dX6_setWeather_29 : decode cX6_setWeather 29 = .ok (.iload_n 2, 1) := by decide +kernel
theorem dX6_setWeather_30 : decode cX6_setWeather 30 = .ok (.invokevirtual 91, 3) := by decide +kernel
theorem dX6_setWeather_33 : decode cX6_setWeather 33 = .ok (.ireturn, 1) := by decide +kernel
theorem dX6_addGauge_0 : decode cX6_addGauge 0 = .ok (.iload_n 1, 1) := by decide +kernel
theorem dX6_addGauge_1 : decode cX6_addGauge 1 = .ok (.invokestatic 83, 3) := by decide +kernel
theorem dX6_addGauge_4 : decode cX6_addGauge 4 = .ok (.aload_n 0, 1) := by decide +kernel
theorem dX6_addGauge_5 : decode cX6_addGauge 5 = .ok (.getfield 19, 3) := by decide +kernel
theorem dX6_addGauge_8 : decode cX6_addGauge 8 = .ok (.iload_n 1, 1) := by decide +kernel
theorem dX6_addGauge_9 : decode cX6_addGauge 9 = .ok (.invokevirtual 94, 3) := by decide +kernel
theorem dX6_addGauge_12 : decode cX6_addGauge 12 = .ok (.ifCond .eq 13, 3) := by decide +kernel
theorem dX6_addGauge_15 : decode cX6_addGauge 15 = .ok (.new 98, 3) := by decide +kernel
theorem dX6_addGauge_18 : decode cX6_addGauge 18 = .ok (.dup, 1) := by decide +kernel
theorem dX6_addGauge_19 : decode cX6_addGauge 19 = .ok (.ldc 100, 2) := by decide +kernel
theorem dX6_addGauge_21 : decode cX6_addGauge 21 = .ok (.invokespecial 102, 3) := by decide +kernel
theorem dX6_addGauge_24 : decode cX6_addGauge 24 = .ok (.athrow, 1) := by decide +kernel
theorem dX6_addGauge_25 : decode cX6_addGauge 25 = .ok (.aload_n 0, 1) := by decide +kernel
theorem dX6_addGauge_26 : decode cX6_addGauge 26 = .ok (.getfield 19, 3) := by decide +kernel
theorem dX6_addGauge_29 : decode cX6_addGauge 29 = .ok (.invokevirtual 103, 3) := by decide +kernel
theorem dX6_addGauge_32 : decode cX6_addGauge 32 = .ok (.ifCond .eq 13, 3) := by decide +kernel
theorem dX6_addGauge_35 : decode cX6_addGauge 35 = .ok (.new 107, 3) := by decide +kernel
theorem dX6_addGauge_38 : decode cX6_addGauge 38 = .ok (.dup, 1) := by decide +kernel
theorem dX6_addGauge_39 : decode cX6_addGauge 39 = .ok (.ldc 109, 2) := by decide +kernel
theorem dX6_addGauge_41 : decode cX6_addGauge 41 = .ok (.invokespecial 111, 3) := by decide +kernel
theorem dX6_addGauge_44 : decode cX6_addGauge 44 = .ok (.athrow, 1) := by decide +kernel
theorem dX6_addGauge_45 : decode cX6_addGauge 45 = .ok (.aload_n 0, 1) := by decide +kernel
theorem dX6_addGauge_46 : decode cX6_addGauge 46 = .ok (.getfield 19, 3) := by decide +kernel
theorem dX6_addGauge_49 : decode cX6_addGauge 49 = .ok (.iload_n 1, 1) := by decide +kernel
theorem dX6_addGauge_50 : decode cX6_addGauge 50 = .ok (.invokevirtual 112, 3) := by decide +kernel
