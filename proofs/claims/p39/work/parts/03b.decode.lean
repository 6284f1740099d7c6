theorem dX6_addGauge_53 : decode cX6_addGauge 53 = .ok (.istore_n 2, 1) := by decide +kernel
theorem dX6_addGauge_54 : decode cX6_addGauge 54 = .ok (.aload_n 0, 1) := by decide +kernel
theorem dX6_addGauge_55 : decode cX6_addGauge 55 = .ok (.invokevirtual 70, 3) := by decide +kernel
theorem dX6_addGauge_58 : decode cX6_addGauge 58 = .ok (.iload_n 2, 1) := by decide +kernel
theorem dX6_addGauge_59 : decode cX6_addGauge 59 = .ok (.ireturn, 1) := by decide +kernel
theorem dX6_fail_0 : decode cX6_fail 0 = .ok (.aload_n 0, 1) := by decide +kernel
theorem dX6_fail_1 : decode cX6_fail 1 = .ok (.iload_n 1, 1) := by decide +kernel
theorem dX6_fail_2 : decode cX6_fail 2 = .ok (.invokevirtual 116, 3) := by decide +kernel
theorem dX6_fail_5 : decode cX6_fail 5 = .ok (.astore 5, 2) := by decide +kernel
theorem dX6_fail_7 : decode cX6_fail 7 = .ok (.iload_n 2, 1) := by decide +kernel
theorem dX6_fail_8 : decode cX6_fail 8 = .ok (.iload_n 3, 1) := by decide +kernel
theorem dX6_fail_9 : decode cX6_fail 9 = .ok (.invokestatic 62, 3) := by decide +kernel
theorem dX6_fail_12 : decode cX6_fail 12 = .ok (.iload 4, 2) := by decide +kernel
theorem dX6_fail_14 : decode cX6_fail 14 = .ok (.iload_n 3, 1) := by decide +kernel
theorem dX6_fail_15 : decode cX6_fail 15 = .ok (.if_icmp .le 10, 3) := by decide +kernel
theorem dX6_fail_18 : decode cX6_fail 18 = .ok (.iload 4, 2) := by decide +kernel
theorem dX6_fail_20 : decode cX6_fail 20 = .ok (.bipush 24, 2) := by decide +kernel
theorem dX6_fail_22 : decode cX6_fail 22 = .ok (.if_icmp .le 13, 3) := by decide +kernel
theorem dX6_fail_25 : decode cX6_fail 25 = .ok (.new 51, 3) := by decide +kernel
theorem dX6_fail_28 : decode cX6_fail 28 = .ok (.dup, 1) := by decide +kernel
theorem dX6_fail_29 : decode cX6_fail 29 = .ok (.ldc 120, 2) := by decide +kernel
theorem dX6_fail_31 : decode cX6_fail 31 = .ok (.invokespecial 55, 3) := by decide +kernel
theorem dX6_fail_34 : decode cX6_fail 34 = .ok (.athrow, 1) := by decide +kernel
theorem dX6_fail_35 : decode cX6_fail 35 = .ok (.aload 5, 2) := by decide +kernel
theorem dX6_fail_37 : decode cX6_fail 37 = .ok (.iload_n 2, 1) := by decide +kernel
theorem dX6_fail_38 : decode cX6_fail 38 = .ok (.iload_n 3, 1) := by decide +kernel
theorem dX6_fail_39 : decode cX6_fail 39 = .ok (.iload 4, 2) := by decide +kernel
theorem dX6_fail_41 : decode cX6_fail 41 = .ok (.invokevirtual 122, 3) := by decide +kernel
theorem dX6_fail_44 : decode cX6_fail 44 = .ok (.aload_n 0, 1) := by decide +kernel
theorem dX6_fail_45 : decode cX6_fail 45 = .ok (.invokevirtual 70, 3) := by decide +kernel
theorem dX6_fail_48 : decode cX6_fail 48 = .ok (.bipush 24, 2) := by decide +kernel
theorem dX6_fail_50 : decode cX6_fail 50 = .ok (.aload 5, 2) := by decide +kernel
theorem dX6_fail_52 : decode cX6_fail 52 = .ok (.iload_n 2, 1) := by decide +kernel
theorem dX6_fail_53 : decode cX6_fail 53 = .ok (.invokevirtual 128, 3) := by decide +kernel
theorem dX6_fail_56 : decode cX6_fail 56 = .ok (.isub, 1) := by decide +kernel
theorem dX6_fail_57 : decode cX6_fail 57 = .ok (.ireturn, 1) := by decide +kernel
theorem dX6_mend_0 : decode cX6_mend 0 = .ok (.aload_n 0, 1) := by decide +kernel
theorem dX6_mend_1 : decode cX6_mend 1 = .ok (.iload_n 1, 1) := by decide +kernel
theorem dX6_mend_2 : decode cX6_mend 2 = .ok (.invokevirtual 116, 3) := by decide +kernel
theorem dX6_mend_5 : decode cX6_mend 5 = .ok (.astore_n 3, 1) := by decide +kernel
theorem dX6_mend_6 : decode cX6_mend 6 = .ok (.iload_n 2, 1) := by decide +kernel
theorem dX6_mend_7 : decode cX6_mend 7 = .ok (.invokestatic 73, 3) := by decide +kernel
theorem dX6_mend_10 : decode cX6_mend 10 = .ok (.aload_n 3, 1) := by decide +kernel
theorem dX6_mend_11 : decode cX6_mend 11 = .ok (.iload_n 2, 1) := by decide +kernel
theorem dX6_mend_12 : decode cX6_mend 12 = .ok (.invokevirtual 128, 3) := by decide +kernel
theorem dX6_mend_15 : decode cX6_mend 15 = .ok (.istore 4, 2) := by decide +kernel
theorem dX6_mend_17 : decode cX6_mend 17 = .ok (.aload_n 3, 1) := by decide +kernel
theorem dX6_mend_18 : decode cX6_mend 18 = .ok (.iload_n 2, 1) := by decide +kernel
theorem dX6_mend_19 : decode cX6_mend 19 = .ok (.invokevirtual 131, 3) := by decide +kernel
theorem dX6_mend_22 : decode cX6_mend 22 = .ok (.aload_n 0, 1) := by decide +kernel
theorem dX6_mend_23 : decode cX6_mend 23 = .ok (.invokevirtual 70, 3) := by decide +kernel
theorem dX6_mend_26 : decode cX6_mend 26 = .ok (.iload 4, 2) := by decide +kernel
theorem dX6_mend_28 : decode cX6_mend 28 = .ok (.ireturn, 1) := by decide +kernel
theorem dX6_told_0 : decode cX6_told 0 = .ok (.aload_n 0, 1) := by decide +kernel
theorem dX6_told_1 : decode cX6_told 1 = .ok (.iload_n 1, 1) := by decide +kernel
theorem dX6_told_2 : decode cX6_told 2 = .ok (.invokevirtual 116, 3) := by decide +kernel
theorem dX6_told_5 : decode cX6_told 5 = .ok (.astore 4, 2) := by decide +kernel
theorem dX6_told_7 : decode cX6_told 7 = .ok (.iload_n 2, 1) := by decide +kernel
theorem dX6_told_8 : decode cX6_told 8 = .ok (.iload_n 3, 1) := by decide +kernel
theorem dX6_told_9 : decode cX6_told 9 = .ok (.invokestatic 62, 3) := by decide +kernel
theorem dX6_told_12 : decode cX6_told 12 = .ok (.aload 4, 2) := by decide +kernel
theorem dX6_told_14 : decode cX6_told 14 = .ok (.aload_n 0, 1) := by decide +kernel
theorem dX6_told_15 : decode cX6_told 15 = .ok (.getfield 10, 3) := by decide +kernel
theorem dX6_told_18 : decode cX6_told 18 = .ok (.iload_n 2, 1) := by decide +kernel
theorem dX6_told_19 : decode cX6_told 19 = .ok (.iload_n 3, 1) := by decide +kernel
theorem dX6_told_20 : decode cX6_told 20 = .ok (.invokevirtual 134, 3) := by decide +kernel
theorem dX6_told_23 : decode cX6_told 23 = .ok (.istore 5, 2) := by decide +kernel
theorem dX6_told_25 : decode cX6_told 25 = .ok (.iload 5, 2) := by decide +kernel
theorem dX6_told_27 : decode cX6_told 27 = .ok (.ldc 138, 2) := by decide +kernel
theorem dX6_told_29 : decode cX6_told 29 = .ok (.if_icmp .ne 13, 3) := by decide +kernel
theorem dX6_told_32 : decode cX6_told 32 = .ok (.new 98, 3) := by decide +kernel
theorem dX6_told_35 : decode cX6_told 35 = .ok (.dup, 1) := by decide +kernel
theorem dX6_told_36 : decode cX6_told 36 = .ok (.ldc 139, 2) := by decide +kernel
theorem dX6_told_38 : decode cX6_told 38 = .ok (.invokespecial 102, 3) := by decide +kernel
theorem dX6_told_41 : decode cX6_told 41 = .ok (.athrow, 1) := by decide +kernel
theorem dX6_told_42 : decode cX6_told 42 = .ok (.iload 5, 2) := by decide +kernel
theorem dX6_told_44 : decode cX6_told 44 = .ok (.ireturn, 1) := by decide +kernel
theorem dX6_tide_0 : decode cX6_tide 0 = .ok (.iload_n 1, 1) := by decide +kernel
theorem dX6_tide_1 : decode cX6_tide 1 = .ok (.invokestatic 83, 3) := by decide +kernel
theorem dX6_tide_4 : decode cX6_tide 4 = .ok (.iload_n 2, 1) := by decide +kernel
theorem dX6_tide_5 : decode cX6_tide 5 = .ok (.iload_n 3, 1) := by decide +kernel
theorem dX6_tide_6 : decode cX6_tide 6 = .ok (.invokestatic 62, 3) := by decide +kernel
theorem dX6_tide_9 : decode cX6_tide 9 = .ok (.aload_n 0, 1) := by decide +kernel
theorem dX6_tide_10 : decode cX6_tide 10 = .ok (.getfield 19, 3) := by decide +kernel
theorem dX6_tide_13 : decode cX6_tide 13 = .ok (.aload_n 0, 1) := by decide +kernel
theorem dX6_tide_14 : decode cX6_tide 14 = .ok (.getfield 10, 3) := by decide +kernel
theorem dX6_tide_17 : decode cX6_tide 17 = .ok (.iload_n 1, 1) := by decide +kernel
theorem dX6_tide_18 : decode cX6_tide 18 = .ok (.iload_n 2, 1) := by decide +kernel
theorem dX6_tide_19 : decode cX6_tide 19 = .ok (.iload_n 3, 1) := by decide +kernel
theorem dX6_tide_20 : decode cX6_tide 20 = .ok (.invokevirtual 141, 3) := by decide +kernel
theorem dX6_tide_23 : decode cX6_tide 23 = .ok (.istore 4, 2) := by decide +kernel
theorem dX6_tide_25 : decode cX6_tide 25 = .ok (.iload 4, 2) := by decide +kernel
theorem dX6_tide_27 : decode cX6_tide 27 = .ok (.ldc 138, 2) := by decide +kernel
theorem dX6_tide_29 : decode cX6_tide 29 = .ok (.if_icmp .ne 13, 3) := by decide +kernel
theorem dX6_tide_32 : decode cX6_tide 32 = .ok (.new 98, 3) := by decide +kernel
theorem dX6_tide_35 : decode cX6_tide 35 = .ok (.dup, 1) := by decide +kernel
theorem dX6_tide_36 : decode cX6_tide 36 = .ok (.ldc 145, 2) := by decide +kernel
theorem dX6_tide_38 : decode cX6_tide 38 = .ok (.invokespecial 102, 3) := by decide +kernel
theorem dX6_tide_41 : decode cX6_tide 41 = .ok (.athrow, 1) := by decide +kernel
theorem dX6_tide_42 : decode cX6_tide 42 = .ok (.iload 4, 2) := by decide +kernel
theorem dX6_tide_44 : decode cX6_tide 44 = .ok (.ireturn, 1) := by decide +kernel
theorem dX6_run_0 : decode cX6_run 0 = .ok (.iload_n 1, 1) := by decide +kernel
theorem dX6_run_1 : decode cX6_run 1 = .ok (.bipush 114, 2) := by decide +kernel
theorem dX6_run_3 : decode cX6_run 3 = .ok (.if_icmp .eq 19, 3) := by decide +kernel
theorem dX6_run_6 : decode cX6_run 6 = .ok (.iload_n 1, 1) := by decide +kernel
theorem dX6_run_7 : decode cX6_run 7 = .ok (.bipush 99, 2) := by decide +kernel
theorem dX6_run_9 : decode cX6_run 9 = .ok (.if_icmp .eq 13, 3) := by decide +kernel
theorem dX6_run_12 : decode cX6_run 12 = .ok (.new 51, 3) := by decide +kernel
theorem dX6_run_15 : decode cX6_run 15 = .ok (.dup, 1) := by decide +kernel
theorem dX6_run_16 : decode cX6_run 16 = .ok (.ldc 147, 2) := by decide +kernel
theorem dX6_run_18 : decode cX6_run 18 = .ok (.invokespecial 55, 3) := by decide +kernel
theorem dX6_run_21 : decode cX6_run 21 = .ok (.athrow, 1) := by decide +kernel
theorem dX6_run_22 : decode cX6_run 22 = .ok (.iload_n 1, 1) := by decide +kernel
theorem dX6_run_23 : decode cX6_run 23 = .ok (.bipush 114, 2) := by decide +kernel
theorem dX6_run_25 : decode cX6_run 25 = .ok (.if_icmp .ne 7, 3) := by decide +kernel
theorem dX6_run_28 : decode cX6_run 28 = .ok (.iconst 1, 1) := by decide +kernel
theorem dX6_run_29 : decode cX6_run 29 = .ok (.goto 4, 3) := by decide +kernel
theorem dX6_run_32 : decode cX6_run 32 = .ok (.iconst 0, 1) := by decide +kernel
theorem dX6_run_33 : decode cX6_run 33 = .ok (.istore 7, 2) := by decide +kernel
theorem dX6_run_35 : decode cX6_run 35 = .ok (.iload 7, 2) := by decide +kernel
theorem dX6_run_37 : decode cX6_run 37 = .ok (.iload_n 2, 1) := by decide +kernel
theorem dX6_run_38 : decode cX6_run 38 = .ok (.iload_n 3, 1) := by decide +kernel
theorem dX6_run_39 : decode cX6_run 39 = .ok (.iload 4, 2) := by decide +kernel
theorem dX6_run_41 : decode cX6_run 41 = .ok (.invokestatic 149, 3) := by decide +kernel
theorem dX6_run_44 : decode cX6_run 44 = .ok (.iload 5, 2) := by decide +kernel
theorem dX6_run_46 : decode cX6_run 46 = .ok (.iload 6, 2) := by decide +kernel
theorem dX6_run_48 : decode cX6_run 48 = .ok (.invokestatic 62, 3) := by decide +kernel
theorem dX6_run_51 : decode cX6_run 51 = .ok (.aload_n 0, 1) := by decide +kernel
theorem dX6_run_52 : decode cX6_run 52 = .ok (.iload 5, 2) := by decide +kernel
theorem dX6_run_54 : decode cX6_run 54 = .ok (.invokevirtual 153, 3) := by decide +kernel
theorem dX6_run_57 : decode cX6_run 57 = .ok (.aload_n 0, 1) := by decide +kernel
theorem dX6_run_58 : decode cX6_run 58 = .ok (.getfield 29, 3) := by decide +kernel
theorem dX6_run_61 : decode cX6_run 61 = .ok (.istore 8, 2) := by decide +kernel
theorem dX6_run_63 : decode cX6_run 63 = .ok (.iload 8, 2) := by decide +kernel
theorem dX6_run_65 : decode cX6_run 65 = .ok (.ifCond .lt 31, 3) := by decide +kernel
theorem dX6_run_68 : decode cX6_run 68 = .ok (.iload 8, 2) := by decide +kernel
theorem dX6_run_70 : decode cX6_run 70 = .ok (.aload_n 0, 1) := by decide +kernel
theorem dX6_run_71 : decode cX6_run 71 = .ok (.getfield 25, 3) := by decide +kernel
theorem dX6_run_74 : decode cX6_run 74 = .ok (.arraylength, 1) := by decide +kernel
theorem dX6_run_75 : decode cX6_run 75 = .ok (.if_icmp .ge 21, 3) := by decide +kernel
theorem dX6_run_78 : decode cX6_run 78 = .ok (.aload_n 0, 1) := by decide +kernel
theorem dX6_run_79 : decode cX6_run 79 = .ok (.aconst_null, 1) := by decide +kernel
theorem dX6_run_80 : decode cX6_run 80 = .ok (.iload_n 3, 1) := by decide +kernel
theorem dX6_run_81 : decode cX6_run 81 = .ok (.iload 4, 2) := by decide +kernel
theorem dX6_run_83 : decode cX6_run 83 = .ok (.invokestatic 156, 3) := by decide +kernel
theorem dX6_run_86 : decode cX6_run 86 = .ok (.iload 5, 2) := by decide +kernel
theorem dX6_run_88 : decode cX6_run 88 = .ok (.iload 6, 2) := by decide +kernel
theorem dX6_run_90 : decode cX6_run 90 = .ok (.invokevirtual 159, 3) := by decide +kernel
theorem dX6_run_93 : decode cX6_run 93 = .ok (.ifCond .ne 13, 3) := by decide +kernel
theorem dX6_run_96 : decode cX6_run 96 = .ok (.new 107, 3) := by decide +kernel
theorem dX6_run_99 : decode cX6_run 99 = .ok (.dup, 1) := by decide +kernel
theorem dX6_run_100 : decode cX6_run 100 = .ok (.ldc 163, 2) := by decide +kernel
theorem dX6_run_102 : decode cX6_run 102 = .ok (.invokespecial 111, 3) := by decide +kernel
theorem dX6_run_105 : decode cX6_run 105 = .ok (.athrow, 1) := by decide +kernel
theorem dX6_run_106 : decode cX6_run 106 = .ok (.new 23, 3) := by decide +kernel
theorem dX6_run_109 : decode cX6_run 109 = .ok (.dup, 1) := by decide +kernel
theorem dX6_run_110 : decode cX6_run 110 = .ok (.iload 7, 2) := by decide +kernel
theorem dX6_run_112 : decode cX6_run 112 = .ok (.iload_n 2, 1) := by decide +kernel
theorem dX6_run_113 : decode cX6_run 113 = .ok (.iload_n 3, 1) := by decide +kernel
theorem dX6_run_114 : decode cX6_run 114 = .ok (.iload 4, 2) := by decide +kernel
theorem dX6_run_116 : decode cX6_run 116 = .ok (.invokespecial 165, 3) := by decide +kernel
theorem dX6_run_119 : decode cX6_run 119 = .ok (.astore 9, 2) := by decide +kernel
theorem dX6_run_121 : decode cX6_run 121 = .ok (.aload_n 0, 1) := by decide +kernel
theorem dX6_run_122 : decode cX6_run 122 = .ok (.getfield 25, 3) := by decide +kernel
theorem dX6_run_125 : decode cX6_run 125 = .ok (.iload 8, 2) := by decide +kernel
theorem dX6_run_127 : decode cX6_run 127 = .ok (.aload 9, 2) := by decide +kernel
theorem dX6_run_129 : decode cX6_run 129 = .ok (.aastore, 1) := by decide +kernel
theorem dX6_run_130 : decode cX6_run 130 = .ok (.aload_n 0, 1) := by decide +kernel
theorem dX6_run_131 : decode cX6_run 131 = .ok (.iload 8, 2) := by decide +kernel
theorem dX6_run_133 : decode cX6_run 133 = .ok (.iconst 1, 1) := by decide +kernel
theorem dX6_run_134 : decode cX6_run 134 = .ok (.iadd, 1) := by decide +kernel
theorem dX6_run_135 : decode cX6_run 135 = .ok (.putfield 29, 3) := by decide +kernel
theorem dX6_run_138 : decode cX6_run 138 = .ok (.aload 9, 2) := by decide +kernel
theorem dX6_run_140 : decode cX6_run 140 = .ok (.aload_n 0, 1) := by decide +kernel
theorem dX6_run_141 : decode cX6_run 141 = .ok (.getfield 10, 3) := by decide +kernel
theorem dX6_run_144 : decode cX6_run 144 = .ok (.iload 5, 2) := by decide +kernel
theorem dX6_run_146 : decode cX6_run 146 = .ok (.iload 6, 2) := by decide +kernel
theorem dX6_run_148 : decode cX6_run 148 = .ok (.invokevirtual 167, 3) := by decide +kernel
theorem dX6_run_151 : decode cX6_run 151 = .ok (.aload_n 0, 1) := by decide +kernel
theorem dX6_run_152 : decode cX6_run 152 = .ok (.invokevirtual 70, 3) := by decide +kernel
theorem dX6_run_155 : decode cX6_run 155 = .ok (.iload 8, 2) := by decide +kernel
theorem dX6_run_157 : decode cX6_run 157 = .ok (.ireturn, 1) := by decide +kernel
theorem dX6_runAnew_0 : decode cX6_runAnew 0 = .ok (.aload_n 0, 1) := by decide +kernel
theorem dX6_runAnew_1 : decode cX6_runAnew 1 = .ok (.iload_n 1, 1) := by decide +kernel
theorem dX6_runAnew_2 : decode cX6_runAnew 2 = .ok (.invokevirtual 171, 3) := by decide +kernel
theorem dX6_runAnew_5 : decode cX6_runAnew 5 = .ok (.astore 4, 2) := by decide +kernel
theorem dX6_runAnew_7 : decode cX6_runAnew 7 = .ok (.iload_n 2, 1) := by decide +kernel
theorem dX6_runAnew_8 : decode cX6_runAnew 8 = .ok (.iload_n 3, 1) := by decide +kernel
theorem dX6_runAnew_9 : decode cX6_runAnew 9 = .ok (.invokestatic 62, 3) := by decide +kernel
theorem dX6_runAnew_12 : decode cX6_runAnew 12 = .ok (.aload_n 0, 1) := by decide +kernel
theorem dX6_runAnew_13 : decode cX6_runAnew 13 = .ok (.iload_n 2, 1) := by decide +kernel
theorem dX6_runAnew_14 : decode cX6_runAnew 14 = .ok (.invokevirtual 153, 3) := by decide +kernel
theorem dX6_runAnew_17 : decode cX6_runAnew 17 = .ok (.aload_n 0, 1) := by decide +kernel
theorem dX6_runAnew_18 : decode cX6_runAnew 18 = .ok (.aload 4, 2) := by decide +kernel
theorem dX6_runAnew_20 : decode cX6_runAnew 20 = .ok (.aload 4, 2) := by decide +kernel
theorem dX6_runAnew_22 : decode cX6_runAnew 22 = .ok (.invokevirtual 175, 3) := by decide +kernel
theorem dX6_runAnew_25 : decode cX6_runAnew 25 = .ok (.iload_n 2, 1) := by decide +kernel
theorem dX6_runAnew_26 : decode cX6_runAnew 26 = .ok (.iload_n 3, 1) := by decide +kernel
theorem dX6_runAnew_27 : decode cX6_runAnew 27 = .ok (.invokevirtual 159, 3) := by decide +kernel
theorem dX6_runAnew_30 : decode cX6_runAnew 30 = .ok (.ifCond .ne 13, 3) := by decide +kernel
theorem dX6_runAnew_33 : decode cX6_runAnew 33 = .ok (.new 107, 3) := by decide +kernel
theorem dX6_runAnew_36 : decode cX6_runAnew 36 = .ok (.dup, 1) := by decide +kernel
theorem dX6_runAnew_37 : decode cX6_runAnew 37 = .ok (.ldc 163, 2) := by decide +kernel
theorem dX6_runAnew_39 : decode cX6_runAnew 39 = .ok (.invokespecial 111, 3) := by decide +kernel
theorem dX6_runAnew_42 : decode cX6_runAnew 42 = .ok (.athrow, 1) := by decide +kernel
theorem dX6_runAnew_43 : decode cX6_runAnew 43 = .ok (.aload 4, 2) := by decide +kernel
theorem dX6_runAnew_45 : decode cX6_runAnew 45 = .ok (.aload_n 0, 1) := by decide +kernel
theorem dX6_runAnew_46 : decode cX6_runAnew 46 = .ok (.getfield 10, 3) := by decide +kernel
theorem dX6_runAnew_49 : decode cX6_runAnew 49 = .ok (.iload_n 2, 1) := by decide +kernel
theorem dX6_runAnew_50 : decode cX6_runAnew 50 = .ok (.iload_n 3, 1) := by decide +kernel
theorem dX6_runAnew_51 : decode cX6_runAnew 51 = .ok (.invokevirtual 167, 3) := by decide +kernel
theorem dX6_runAnew_54 : decode cX6_runAnew 54 = .ok (.aload_n 0, 1) := by decide +kernel
theorem dX6_runAnew_55 : decode cX6_runAnew 55 = .ok (.invokevirtual 70, 3) := by decide +kernel
theorem dX6_runAnew_58 : decode cX6_runAnew 58 = .ok (.aload_n 0, 1) := by decide +kernel
theorem dX6_runAnew_59 : decode cX6_runAnew 59 = .ok (.getfield 36, 3) := by decide +kernel
theorem dX6_runAnew_62 : decode cX6_runAnew 62 = .ok (.invokevirtual 179, 3) := by decide +kernel
theorem dX6_runAnew_65 : decode cX6_runAnew 65 = .ok (.ireturn, 1) := by decide +kernel
theorem dX6_disturb_0 : decode cX6_disturb 0 = .ok (.aload_n 0, 1) := by decide +kernel
theorem dX6_disturb_1 : decode cX6_disturb 1 = .ok (.iload_n 1, 1) := by decide +kernel
theorem dX6_disturb_2 : decode cX6_disturb 2 = .ok (.iload_n 2, 1) := by decide +kernel
theorem dX6_disturb_3 : decode cX6_disturb 3 = .ok (.iload_n 3, 1) := by decide +kernel
theorem dX6_disturb_4 : decode cX6_disturb 4 = .ok (.invokevirtual 182, 3) := by decide +kernel
theorem dX6_disturb_7 : decode cX6_disturb 7 = .ok (.astore 5, 2) := by decide +kernel
theorem dX6_disturb_9 : decode cX6_disturb 9 = .ok (.iload 4, 2) := by decide +kernel
theorem dX6_disturb_11 : decode cX6_disturb 11 = .ok (.bipush (-60), 2) := by decide +kernel
theorem dX6_disturb_13 : decode cX6_disturb 13 = .ok (.if_icmp .lt 10, 3) := by decide +kernel
theorem dX6_disturb_16 : decode cX6_disturb 16 = .ok (.iload 4, 2) := by decide +kernel
theorem dX6_disturb_18 : decode cX6_disturb 18 = .ok (.bipush 60, 2) := by decide +kernel
theorem dX6_disturb_20 : decode cX6_disturb 20 = .ok (.if_icmp .le 13, 3) := by decide +kernel
theorem dX6_disturb_23 : decode cX6_disturb 23 = .ok (.new 51, 3) := by decide +kernel
theorem dX6_disturb_26 : decode cX6_disturb 26 = .ok (.dup, 1) := by decide +kernel
theorem dX6_disturb_27 : decode cX6_disturb 27 = .ok (.ldc 186, 2) := by decide +kernel
theorem dX6_disturb_29 : decode cX6_disturb 29 = .ok (.invokespecial 55, 3) := by decide +kernel
theorem dX6_disturb_32 : decode cX6_disturb 32 = .ok (.athrow, 1) := by decide +kernel
theorem dX6_disturb_33 : decode cX6_disturb 33 = .ok (.aload 5, 2) := by decide +kernel
theorem dX6_disturb_35 : decode cX6_disturb 35 = .ok (.iload_n 2, 1) := by decide +kernel
theorem dX6_disturb_36 : decode cX6_disturb 36 = .ok (.iload_n 3, 1) := by decide +kernel
theorem dX6_disturb_37 : decode cX6_disturb 37 = .ok (.iload 4, 2) := by decide +kernel
theorem dX6_disturb_39 : decode cX6_disturb 39 = .ok (.invokevirtual 188, 3) := by decide +kernel
theorem dX6_disturb_42 : decode cX6_disturb 42 = .ok (.istore 6, 2) := by decide +kernel
theorem dX6_disturb_44 : decode cX6_disturb 44 = .ok (.aload_n 0, 1) := by decide +kernel
theorem dX6_disturb_45 : decode cX6_disturb 45 = .ok (.invokevirtual 70, 3) := by decide +kernel
theorem dX6_disturb_48 : decode cX6_disturb 48 = .ok (.iload 6, 2) := by decide +kernel
theorem dX6_disturb_50 : decode cX6_disturb 50 = .ok (.ireturn, 1) := by decide +kernel
theorem dX6_soundings_0 : decode cX6_soundings 0 = .ok (.aload_n 0, 1) := by decide +kernel
theorem dX6_soundings_1 : decode cX6_soundings 1 = .ok (.iload_n 1, 1) := by decide +kernel
theorem dX6_soundings_2 : decode cX6_soundings 2 = .ok (.invokevirtual 171, 3) := by decide +kernel
theorem dX6_soundings_5 : decode cX6_soundings 5 = .ok (.invokevirtual 191, 3) := by decide +kernel
theorem dX6_soundings_8 : decode cX6_soundings 8 = .ok (.ireturn, 1) := by decide +kernel
theorem dX6_sounding_0 : decode cX6_sounding 0 = .ok (.aload_n 0, 1) := by decide +kernel
theorem dX6_sounding_1 : decode cX6_sounding 1 = .ok (.iload_n 1, 1) := by decide +kernel
theorem dX6_sounding_2 : decode cX6_sounding 2 = .ok (.iload_n 2, 1) := by decide +kernel
theorem dX6_sounding_3 : decode cX6_sounding 3 = .ok (.iload_n 3, 1) := by decide +kernel
theorem dX6_sounding_4 : decode cX6_sounding 4 = .ok (.invokevirtual 182, 3) := by decide +kernel
theorem dX6_sounding_7 : decode cX6_sounding 7 = .ok (.iload_n 2, 1) := by decide +kernel
theorem dX6_sounding_8 : decode cX6_sounding 8 = .ok (.iload_n 3, 1) := by decide +kernel
theorem dX6_sounding_9 : decode cX6_sounding 9 = .ok (.invokevirtual 194, 3) := by decide +kernel
theorem dX6_sounding_12 : decode cX6_sounding 12 = .ok (.ireturn, 1) := by decide +kernel
theorem dX6_reduced_0 : decode cX6_reduced 0 = .ok (.aload_n 0, 1) := by decide +kernel
theorem dX6_reduced_1 : decode cX6_reduced 1 = .ok (.iload_n 1, 1) := by decide +kernel
theorem dX6_reduced_2 : decode cX6_reduced 2 = .ok (.iload_n 2, 1) := by decide +kernel
theorem dX6_reduced_3 : decode cX6_reduced 3 = .ok (.iload_n 3, 1) := by decide +kernel
theorem dX6_reduced_4 : decode cX6_reduced 4 = .ok (.invokevirtual 182, 3) := by decide +kernel
theorem dX6_reduced_7 : decode cX6_reduced 7 = .ok (.iload_n 2, 1) := by decide +kernel
theorem dX6_reduced_8 : decode cX6_reduced 8 = .ok (.iload_n 3, 1) := by decide +kernel
theorem dX6_reduced_9 : decode cX6_reduced 9 = .ok (.invokevirtual 197, 3) := by decide +kernel
theorem dX6_reduced_12 : decode cX6_reduced 12 = .ok (.istore 4, 2) := by decide +kernel
theorem dX6_reduced_14 : decode cX6_reduced 14 = .ok (.iload 4, 2) := by decide +kernel
theorem dX6_reduced_16 : decode cX6_reduced 16 = .ok (.ldc 138, 2) := by decide +kernel
theorem dX6_reduced_18 : decode cX6_reduced 18 = .ok (.if_icmp .ne 13, 3) := by decide +kernel
theorem dX6_reduced_21 : decode cX6_reduced 21 = .ok (.new 98, 3) := by decide +kernel
theorem dX6_reduced_24 : decode cX6_reduced 24 = .ok (.dup, 1) := by decide +kernel
theorem dX6_reduced_25 : decode cX6_reduced 25 = .ok (.ldc 145, 2) := by decide +kernel
theorem dX6_reduced_27 : decode cX6_reduced 27 = .ok (.invokespecial 102, 3) := by decide +kernel
theorem dX6_reduced_30 : decode cX6_reduced 30 = .ok (.athrow, 1) := by decide +kernel
theorem dX6_reduced_31 : decode cX6_reduced 31 = .ok (.iload 4, 2) := by decide +kernel
theorem dX6_reduced_33 : decode cX6_reduced 33 = .ok (.ireturn, 1) := by decide +kernel
theorem dX6_isSpike_0 : decode cX6_isSpike 0 = .ok (.aload_n 0, 1) := by decide +kernel
theorem dX6_isSpike_1 : decode cX6_isSpike 1 = .ok (.iload_n 1, 1) := by decide +kernel
theorem dX6_isSpike_2 : decode cX6_isSpike 2 = .ok (.iload_n 2, 1) := by decide +kernel
theorem dX6_isSpike_3 : decode cX6_isSpike 3 = .ok (.iload_n 3, 1) := by decide +kernel
theorem dX6_isSpike_4 : decode cX6_isSpike 4 = .ok (.invokevirtual 182, 3) := by decide +kernel
theorem dX6_isSpike_7 : decode cX6_isSpike 7 = .ok (.iload_n 2, 1) := by decide +kernel
theorem dX6_isSpike_8 : decode cX6_isSpike 8 = .ok (.iload_n 3, 1) := by decide +kernel
theorem dX6_isSpike_9 : decode cX6_isSpike 9 = .ok (.invokevirtual 200, 3) := by decide +kernel
theorem dX6_isSpike_12 : decode cX6_isSpike 12 = .ok (.ireturn, 1) := by decide +kernel
theorem dX6_spikes_0 : decode cX6_spikes 0 = .ok (.aload_n 0, 1) := by decide +kernel
theorem dX6_spikes_1 : decode cX6_spikes 1 = .ok (.iload_n 1, 1) := by decide +kernel
theorem dX6_spikes_2 : decode cX6_spikes 2 = .ok (.invokevirtual 171, 3) := by decide +kernel
theorem dX6_spikes_5 : decode cX6_spikes 5 = .ok (.invokevirtual 204, 3) := by decide +kernel
theorem dX6_spikes_8 : decode cX6_spikes 8 = .ok (.ireturn, 1) := by decide +kernel
theorem dX6_lost_0 : decode cX6_lost 0 = .ok (.aload_n 0, 1) := by decide +kernel
theorem dX6_lost_1 : decode cX6_lost 1 = .ok (.iload_n 1, 1) := by decide +kernel
theorem dX6_lost_2 : decode cX6_lost 2 = .ok (.invokevirtual 171, 3) := by decide +kernel
theorem dX6_lost_5 : decode cX6_lost 5 = .ok (.invokevirtual 207, 3) := by decide +kernel
theorem dX6_lost_8 : decode cX6_lost 8 = .ok (.ireturn, 1) := by decide +kernel
theorem dX6_depth_0 : decode cX6_depth 0 = .ok (.iload_n 1, 1) := by decide +kernel
theorem dX6_depth_1 : decode cX6_depth 1 = .ok (.iload_n 2, 1) := by decide +kernel
theorem dX6_depth_2 : decode cX6_depth 2 = .ok (.invokestatic 47, 3) := by decide +kernel
theorem dX6_depth_5 : decode cX6_depth 5 = .ok (.aload_n 0, 1) := by decide +kernel
theorem dX6_depth_6 : decode cX6_depth 6 = .ok (.getfield 36, 3) := by decide +kernel
theorem dX6_depth_9 : decode cX6_depth 9 = .ok (.iload_n 1, 1) := by decide +kernel
theorem dX6_depth_10 : decode cX6_depth 10 = .ok (.iload_n 2, 1) := by decide +kernel
theorem dX6_depth_11 : decode cX6_depth 11 = .ok (.invokevirtual 210, 3) := by decide +kernel
theorem dX6_depth_14 : decode cX6_depth 14 = .ok (.invokestatic 213, 3) := by decide +kernel
theorem dX6_depth_17 : decode cX6_depth 17 = .ok (.ireturn, 1) := by decide +kernel
theorem dX6_depthAnew_0 : decode cX6_depthAnew 0 = .ok (.iload_n 1, 1) := by decide +kernel
theorem dX6_depthAnew_1 : decode cX6_depthAnew 1 = .ok (.iload_n 2, 1) := by decide +kernel
theorem dX6_depthAnew_2 : decode cX6_depthAnew 2 = .ok (.invokestatic 47, 3) := by decide +kernel
theorem dX6_depthAnew_5 : decode cX6_depthAnew 5 = .ok (.aload_n 0, 1) := by decide +kernel
theorem dX6_depthAnew_6 : decode cX6_depthAnew 6 = .ok (.invokevirtual 216, 3) := by decide +kernel
theorem dX6_depthAnew_9 : decode cX6_depthAnew 9 = .ok (.aload_n 0, 1) := by decide +kernel
theorem dX6_depthAnew_10 : decode cX6_depthAnew 10 = .ok (.iload_n 1, 1) := by decide +kernel
theorem dX6_depthAnew_11 : decode cX6_depthAnew 11 = .ok (.iload_n 2, 1) := by decide +kernel
theorem dX6_depthAnew_12 : decode cX6_depthAnew 12 = .ok (.invokevirtual 219, 3) := by decide +kernel
theorem dX6_depthAnew_15 : decode cX6_depthAnew 15 = .ok (.invokestatic 213, 3) := by decide +kernel
theorem dX6_depthAnew_18 : decode cX6_depthAnew 18 = .ok (.ireturn, 1) := by decide +kernel
theorem dX6_charted_0 : decode cX6_charted 0 = .ok (.aload_n 0, 1) := by decide +kernel
theorem dX6_charted_1 : decode cX6_charted 1 = .ok (.getfield 36, 3) := by decide +kernel
theorem dX6_charted_4 : decode cX6_charted 4 = .ok (.invokevirtual 179, 3) := by decide +kernel
theorem dX6_charted_7 : decode cX6_charted 7 = .ok (.ireturn, 1) := by decide +kernel
theorem dX6_gap_0 : decode cX6_gap 0 = .ok (.aload_n 0, 1) := by decide +kernel
theorem dX6_gap_1 : decode cX6_gap 1 = .ok (.getfield 36, 3) := by decide +kernel
theorem dX6_gap_4 : decode cX6_gap 4 = .ok (.iload_n 1, 1) := by decide +kernel
theorem dX6_gap_5 : decode cX6_gap 5 = .ok (.invokevirtual 222, 3) := by decide +kernel
theorem dX6_gap_8 : decode cX6_gap 8 = .ok (.istore_n 2, 1) := by decide +kernel
theorem dX6_gap_9 : decode cX6_gap 9 = .ok (.iload_n 2, 1) := by decide +kernel
theorem dX6_gap_10 : decode cX6_gap 10 = .ok (.ldc 138, 2) := by decide +kernel
theorem dX6_gap_12 : decode cX6_gap 12 = .ok (.if_icmp .ne 13, 3) := by decide +kernel
theorem dX6_gap_15 : decode cX6_gap 15 = .ok (.new 225, 3) := by decide +kernel
theorem dX6_gap_18 : decode cX6_gap 18 = .ok (.dup, 1) := by decide +kernel
theorem dX6_gap_19 : decode cX6_gap 19 = .ok (.ldc 227, 2) := by decide +kernel
theorem dX6_gap_21 : decode cX6_gap 21 = .ok (.invokespecial 229, 3) := by decide +kernel
theorem dX6_gap_24 : decode cX6_gap 24 = .ok (.athrow, 1) := by decide +kernel
theorem dX6_gap_25 : decode cX6_gap 25 = .ok (.iload_n 2, 1) := by decide +kernel
theorem dX6_gap_26 : decode cX6_gap 26 = .ok (.ireturn, 1) := by decide +kernel
theorem dX6_bestRow_0 : decode cX6_bestRow 0 = .ok (.aload_n 0, 1) := by decide +kernel
theorem dX6_bestRow_1 : decode cX6_bestRow 1 = .ok (.getfield 36, 3) := by decide +kernel
theorem dX6_bestRow_4 : decode cX6_bestRow 4 = .ok (.invokevirtual 179, 3) := by decide +kernel
theorem dX6_bestRow_7 : decode cX6_bestRow 7 = .ok (.sipush 240, 3) := by decide +kernel
theorem dX6_bestRow_10 : decode cX6_bestRow 10 = .ok (.if_icmp .ne 13, 3) := by decide +kernel
theorem dX6_bestRow_13 : decode cX6_bestRow 13 = .ok (.new 107, 3) := by decide +kernel
theorem dX6_bestRow_16 : decode cX6_bestRow 16 = .ok (.dup, 1) := by decide +kernel
theorem dX6_bestRow_17 : decode cX6_bestRow 17 = .ok (.ldc 230, 2) := by decide +kernel
theorem dX6_bestRow_19 : decode cX6_bestRow 19 = .ok (.invokespecial 111, 3) := by decide +kernel
theorem dX6_bestRow_22 : decode cX6_bestRow 22 = .ok (.athrow, 1) := by decide +kernel
theorem dX6_bestRow_23 : decode cX6_bestRow 23 = .ok (.iconst 0, 1) := by decide +kernel
theorem dX6_bestRow_24 : decode cX6_bestRow 24 = .ok (.istore_n 1, 1) := by decide +kernel
theorem dX6_bestRow_25 : decode cX6_bestRow 25 = .ok (.iconst 0, 1) := by decide +kernel
theorem dX6_bestRow_26 : decode cX6_bestRow 26 = .ok (.istore_n 2, 1) := by decide +kernel
theorem dX6_bestRow_27 : decode cX6_bestRow 27 = .ok (.iconst 0, 1) := by decide +kernel
theorem dX6_bestRow_28 : decode cX6_bestRow 28 = .ok (.istore_n 3, 1) := by decide +kernel
theorem dX6_bestRow_29 : decode cX6_bestRow 29 = .ok (.iload_n 3, 1) := by decide +kernel
theorem dX6_bestRow_30 : decode cX6_bestRow 30 = .ok (.bipush 12, 2) := by decide +kernel
theorem dX6_bestRow_32 : decode cX6_bestRow 32 = .ok (.if_icmp .ge 27, 3) := by decide +kernel
theorem dX6_bestRow_35 : decode cX6_bestRow 35 = .ok (.aload_n 0, 1) := by decide +kernel
theorem dX6_bestRow_36 : decode cX6_bestRow 36 = .ok (.iload_n 3, 1) := by decide +kernel
theorem dX6_bestRow_37 : decode cX6_bestRow 37 = .ok (.invokevirtual 232, 3) := by decide +kernel
theorem dX6_bestRow_40 : decode cX6_bestRow 40 = .ok (.istore 4, 2) := by decide +kernel
theorem dX6_bestRow_42 : decode cX6_bestRow 42 = .ok (.iload 4, 2) := by decide +kernel
theorem dX6_bestRow_44 : decode cX6_bestRow 44 = .ok (.iload_n 2, 1) := by decide +kernel
theorem dX6_bestRow_45 : decode cX6_bestRow 45 = .ok (.if_icmp .le 8, 3) := by decide +kernel
theorem dX6_bestRow_48 : decode cX6_bestRow 48 = .ok (.iload 4, 2) := by decide +kernel
theorem dX6_bestRow_50 : decode cX6_bestRow 50 = .ok (.istore_n 2, 1) := by decide +kernel
theorem dX6_bestRow_51 : decode cX6_bestRow 51 = .ok (.iload_n 3, 1) := by decide +kernel
theorem dX6_bestRow_52 : decode cX6_bestRow 52 = .ok (.istore_n 1, 1) := by decide +kernel
theorem dX6_bestRow_53 : decode cX6_bestRow 53 = .ok (.iinc 3 1, 3) := by decide +kernel
theorem dX6_bestRow_56 : decode cX6_bestRow 56 = .ok (.goto (-27), 3) := by decide +kernel
theorem dX6_bestRow_59 : decode cX6_bestRow 59 = .ok (.iload_n 1, 1) := by decide +kernel
theorem dX6_bestRow_60 : decode cX6_bestRow 60 = .ok (.ireturn, 1) := by decide +kernel
theorem dX6_lines_0 : decode cX6_lines 0 = .ok (.aload_n 0, 1) := by decide +kernel
theorem dX6_lines_1 : decode cX6_lines 1 = .ok (.getfield 29, 3) := by decide +kernel
theorem dX6_lines_4 : decode cX6_lines 4 = .ok (.ireturn, 1) := by decide +kernel
theorem dX6_dayOf_0 : decode cX6_dayOf 0 = .ok (.aload_n 0, 1) := by decide +kernel
theorem dX6_dayOf_1 : decode cX6_dayOf 1 = .ok (.iload_n 1, 1) := by decide +kernel
theorem dX6_dayOf_2 : decode cX6_dayOf 2 = .ok (.invokevirtual 171, 3) := by decide +kernel
theorem dX6_dayOf_5 : decode cX6_dayOf 5 = .ok (.invokevirtual 235, 3) := by decide +kernel
theorem dX6_dayOf_8 : decode cX6_dayOf 8 = .ok (.ireturn, 1) := by decide +kernel
theorem dX6_toRun_0 : decode cX6_toRun 0 = .ok (.iconst 0, 1) := by decide +kernel
theorem dX6_toRun_1 : decode cX6_toRun 1 = .ok (.istore_n 1, 1) := by decide +kernel
theorem dX6_toRun_2 : decode cX6_toRun 2 = .ok (.iconst 0, 1) := by decide +kernel
theorem dX6_toRun_3 : decode cX6_toRun 3 = .ok (.istore_n 2, 1) := by decide +kernel
theorem dX6_toRun_4 : decode cX6_toRun 4 = .ok (.iload_n 2, 1) := by decide +kernel
theorem dX6_toRun_5 : decode cX6_toRun 5 = .ok (.aload_n 0, 1) := by decide +kernel
theorem dX6_toRun_6 : decode cX6_toRun 6 = .ok (.getfield 29, 3) := by decide +kernel
theorem dX6_toRun_9 : decode cX6_toRun 9 = .ok (.if_icmp .ge 29, 3) := by decide +kernel
theorem dX6_toRun_12 : decode cX6_toRun 12 = .ok (.aload_n 0, 1) := by decide +kernel
theorem dX6_toRun_13 : decode cX6_toRun 13 = .ok (.iload_n 2, 1) := by decide +kernel
theorem dX6_toRun_14 : decode cX6_toRun 14 = .ok (.invokevirtual 238, 3) := by decide +kernel
theorem dX6_toRun_17 : decode cX6_toRun 17 = .ok (.astore_n 3, 1) := by decide +kernel
theorem dX6_toRun_18 : decode cX6_toRun 18 = .ok (.aload_n 3, 1) := by decide +kernel
theorem dX6_toRun_19 : decode cX6_toRun 19 = .ok (.ifnull 13, 3) := by decide +kernel
theorem dX6_toRun_22 : decode cX6_toRun 22 = .ok (.aload_n 3, 1) := by decide +kernel
theorem dX6_toRun_23 : decode cX6_toRun 23 = .ok (.invokevirtual 207, 3) := by decide +kernel
theorem dX6_toRun_26 : decode cX6_toRun 26 = .ok (.ifCond .le 6, 3) := by decide +kernel
theorem dX6_toRun_29 : decode cX6_toRun 29 = .ok (.iinc 1 1, 3) := by decide +kernel
theorem dX6_toRun_32 : decode cX6_toRun 32 = .ok (.iinc 2 1, 3) := by decide +kernel
theorem dX6_toRun_35 : decode cX6_toRun 35 = .ok (.goto (-31), 3) := by decide +kernel
theorem dX6_toRun_38 : decode cX6_toRun 38 = .ok (.iload_n 1, 1) := by decide +kernel
theorem dX6_toRun_39 : decode cX6_toRun 39 = .ok (.ireturn, 1) := by decide +kernel
theorem dX6_worstCross_0 : decode cX6_worstCross 0 = .ok (.ldc 138, 2) := by decide +kernel
theorem dX6_worstCross_2 : decode cX6_worstCross 2 = .ok (.istore_n 1, 1) := by decide +kernel
theorem dX6_worstCross_3 : decode cX6_worstCross 3 = .ok (.iconst 0, 1) := by decide +kernel
theorem dX6_worstCross_4 : decode cX6_worstCross 4 = .ok (.istore_n 2, 1) := by decide +kernel
theorem dX6_worstCross_5 : decode cX6_worstCross 5 = .ok (.iload_n 2, 1) := by decide +kernel
theorem dX6_worstCross_6 : decode cX6_worstCross 6 = .ok (.aload_n 0, 1) := by decide +kernel
theorem dX6_worstCross_7 : decode cX6_worstCross 7 = .ok (.getfield 29, 3) := by decide +kernel
theorem dX6_worstCross_10 : decode cX6_worstCross 10 = .ok (.if_icmp .ge 45, 3) := by decide +kernel
theorem dX6_worstCross_13 : decode cX6_worstCross 13 = .ok (.iload_n 2, 1) := by decide +kernel
theorem dX6_worstCross_14 : decode cX6_worstCross 14 = .ok (.iconst 1, 1) := by decide +kernel
theorem dX6_worstCross_15 : decode cX6_worstCross 15 = .ok (.iadd, 1) := by decide +kernel
theorem dX6_worstCross_16 : decode cX6_worstCross 16 = .ok (.istore_n 3, 1) := by decide +kernel
theorem dX6_worstCross_17 : decode cX6_worstCross 17 = .ok (.iload_n 3, 1) := by decide +kernel
theorem dX6_worstCross_18 : decode cX6_worstCross 18 = .ok (.aload_n 0, 1) := by decide +kernel
theorem dX6_worstCross_19 : decode cX6_worstCross 19 = .ok (.getfield 29, 3) := by decide +kernel
theorem dX6_worstCross_22 : decode cX6_worstCross 22 = .ok (.if_icmp .ge 27, 3) := by decide +kernel
theorem dX6_worstCross_25 : decode cX6_worstCross 25 = .ok (.iload_n 1, 1) := by decide +kernel
theorem dX6_worstCross_26 : decode cX6_worstCross 26 = .ok (.aload_n 0, 1) := by decide +kernel
theorem dX6_worstCross_27 : decode cX6_worstCross 27 = .ok (.iload_n 2, 1) := by decide +kernel
theorem dX6_worstCross_28 : decode cX6_worstCross 28 = .ok (.invokevirtual 238, 3) := by decide +kernel
theorem dX6_worstCross_31 : decode cX6_worstCross 31 = .ok (.aload_n 0, 1) := by decide +kernel
theorem dX6_worstCross_32 : decode cX6_worstCross 32 = .ok (.iload_n 3, 1) := by decide +kernel
theorem dX6_worstCross_33 : decode cX6_worstCross 33 = .ok (.invokevirtual 238, 3) := by decide +kernel
theorem dX6_worstCross_36 : decode cX6_worstCross 36 = .ok (.invokestatic 253, 3) := by decide +kernel
theorem dX6_worstCross_39 : decode cX6_worstCross 39 = .ok (.invokestatic 257, 3) := by decide +kernel
theorem dX6_worstCross_42 : decode cX6_worstCross 42 = .ok (.istore_n 1, 1) := by decide +kernel
theorem dX6_worstCross_43 : decode cX6_worstCross 43 = .ok (.iinc 3 1, 3) := by decide +kernel
theorem dX6_worstCross_46 : decode cX6_worstCross 46 = .ok (.goto (-29), 3) := by decide +kernel
theorem dX6_worstCross_49 : decode cX6_worstCross 49 = .ok (.iinc 2 1, 3) := by decide +kernel
theorem dX6_worstCross_52 : decode cX6_worstCross 52 = .ok (.goto (-47), 3) := by decide +kernel
theorem dX6_worstCross_55 : decode cX6_worstCross 55 = .ok (.iload_n 1, 1) := by decide +kernel
theorem dX6_worstCross_56 : decode cX6_worstCross 56 = .ok (.ldc 138, 2) := by decide +kernel
theorem dX6_worstCross_58 : decode cX6_worstCross 58 = .ok (.if_icmp .ne 14, 3) := by decide +kernel
theorem dX6_worstCross_61 : decode cX6_worstCross 61 = .ok (.new 98, 3) := by decide +kernel
theorem dX6_worstCross_64 : decode cX6_worstCross 64 = .ok (.dup, 1) := by decide +kernel
theorem dX6_worstCross_65 : decode cX6_worstCross 65 = .ok (.ldc_w 262, 3) := by decide +kernel
theorem dX6_worstCross_68 : decode cX6_worstCross 68 = .ok (.invokespecial 102, 3) := by decide +kernel
theorem dX6_worstCross_71 : decode cX6_worstCross 71 = .ok (.athrow, 1) := by decide +kernel
theorem dX6_worstCross_72 : decode cX6_worstCross 72 = .ok (.iload_n 1, 1) := by decide +kernel
theorem dX6_worstCross_73 : decode cX6_worstCross 73 = .ok (.ireturn, 1) := by decide +kernel
theorem dX6_hours_0 : decode cX6_hours 0 = .ok (.iload_n 1, 1) := by decide +kernel
theorem dX6_hours_1 : decode cX6_hours 1 = .ok (.invokestatic 73, 3) := by decide +kernel
theorem dX6_hours_4 : decode cX6_hours 4 = .ok (.aload_n 0, 1) := by decide +kernel
theorem dX6_hours_5 : decode cX6_hours 5 = .ok (.iload_n 1, 1) := by decide +kernel
theorem dX6_hours_6 : decode cX6_hours 6 = .ok (.invokevirtual 264, 3) := by decide +kernel
theorem dX6_hours_9 : decode cX6_hours 9 = .ok (.ireturn, 1) := by decide +kernel
theorem dX6_hire_0 : decode cX6_hire 0 = .ok (.aload_n 0, 1) := by decide +kernel
theorem dX6_hire_1 : decode cX6_hire 1 = .ok (.invokevirtual 267, 3) := by decide +kernel
theorem dX6_hire_4 : decode cX6_hire 4 = .ok (.istore_n 1, 1) := by decide +kernel
theorem dX6_hire_5 : decode cX6_hire 5 = .ok (.lconst 0, 1) := by decide +kernel
theorem dX6_hire_6 : decode cX6_hire 6 = .ok (.lstore_n 2, 1) := by decide +kernel
theorem dX6_hire_7 : decode cX6_hire 7 = .ok (.iconst 0, 1) := by decide +kernel
theorem dX6_hire_8 : decode cX6_hire 8 = .ok (.istore 4, 2) := by decide +kernel
theorem dX6_hire_10 : decode cX6_hire 10 = .ok (.iload 4, 2) := by decide +kernel
theorem dX6_hire_12 : decode cX6_hire 12 = .ok (.bipush 10, 2) := by decide +kernel
theorem dX6_hire_14 : decode cX6_hire 14 = .ok (.if_icmp .ge 25, 3) := by decide +kernel
theorem dX6_hire_17 : decode cX6_hire 17 = .ok (.iload 4, 2) := by decide +kernel
theorem dX6_hire_19 : decode cX6_hire 19 = .ok (.iload_n 1, 1) := by decide +kernel
theorem dX6_hire_20 : decode cX6_hire 20 = .ok (.if_icmp .gt 19, 3) := by decide +kernel
theorem dX6_hire_23 : decode cX6_hire 23 = .ok (.lload_n 2, 1) := by decide +kernel
theorem dX6_hire_24 : decode cX6_hire 24 = .ok (.aload_n 0, 1) := by decide +kernel
theorem dX6_hire_25 : decode cX6_hire 25 = .ok (.iload 4, 2) := by decide +kernel
theorem dX6_hire_27 : decode cX6_hire 27 = .ok (.invokevirtual 270, 3) := by decide +kernel
theorem dX6_hire_30 : decode cX6_hire 30 = .ok (.i2l, 1) := by decide +kernel
theorem dX6_hire_31 : decode cX6_hire 31 = .ok (.ladd, 1) := by decide +kernel
theorem dX6_hire_32 : decode cX6_hire 32 = .ok (.lstore_n 2, 1) := by decide +kernel
theorem dX6_hire_33 : decode cX6_hire 33 = .ok (.iinc 4 1, 3) := by decide +kernel
theorem dX6_hire_36 : decode cX6_hire 36 = .ok (.goto (-26), 3) := by decide +kernel
theorem dX6_hire_39 : decode cX6_hire 39 = .ok (.lload_n 2, 1) := by decide +kernel
theorem dX6_hire_40 : decode cX6_hire 40 = .ok (.lreturn, 1) := by decide +kernel
theorem dX6_chartedShare_0 : decode cX6_chartedShare 0 = .ok (.aload_n 0, 1) := by decide +kernel
theorem dX6_chartedShare_1 : decode cX6_chartedShare 1 = .ok (.getfield 36, 3) := by decide +kernel
theorem dX6_chartedShare_4 : decode cX6_chartedShare 4 = .ok (.invokevirtual 179, 3) := by decide +kernel
theorem dX6_chartedShare_7 : decode cX6_chartedShare 7 = .ok (.i2f, 1) := by decide +kernel
theorem dX6_chartedShare_8 : decode cX6_chartedShare 8 = .ok (.ldc_w 273, 3) := by decide +kernel
theorem dX6_chartedShare_11 : decode cX6_chartedShare 11 = .ok (.fdiv, 1) := by decide +kernel
theorem dX6_chartedShare_12 : decode cX6_chartedShare 12 = .ok (.freturn, 1) := by decide +kernel
theorem dX6_meanDepth_0 : decode cX6_meanDepth 0 = .ok (.aload_n 0, 1) := by decide +kernel
theorem dX6_meanDepth_1 : decode cX6_meanDepth 1 = .ok (.getfield 36, 3) := by decide +kernel
theorem dX6_meanDepth_4 : decode cX6_meanDepth 4 = .ok (.invokevirtual 179, 3) := by decide +kernel
theorem dX6_meanDepth_7 : decode cX6_meanDepth 7 = .ok (.istore_n 1, 1) := by decide +kernel
theorem dX6_meanDepth_8 : decode cX6_meanDepth 8 = .ok (.iload_n 1, 1) := by decide +kernel
theorem dX6_meanDepth_9 : decode cX6_meanDepth 9 = .ok (.ifCond .ne 14, 3) := by decide +kernel
theorem dX6_meanDepth_12 : decode cX6_meanDepth 12 = .ok (.new 274, 3) := by decide +kernel
theorem dX6_meanDepth_15 : decode cX6_meanDepth 15 = .ok (.dup, 1) := by decide +kernel
theorem dX6_meanDepth_16 : decode cX6_meanDepth 16 = .ok (.ldc_w 276, 3) := by decide +kernel
theorem dX6_meanDepth_19 : decode cX6_meanDepth 19 = .ok (.invokespecial 278, 3) := by decide +kernel
theorem dX6_meanDepth_22 : decode cX6_meanDepth 22 = .ok (.athrow, 1) := by decide +kernel
theorem dX6_meanDepth_23 : decode cX6_meanDepth 23 = .ok (.aload_n 0, 1) := by decide +kernel
theorem dX6_meanDepth_24 : decode cX6_meanDepth 24 = .ok (.getfield 36, 3) := by decide +kernel
theorem dX6_meanDepth_27 : decode cX6_meanDepth 27 = .ok (.invokevirtual 279, 3) := by decide +kernel
theorem dX6_meanDepth_30 : decode cX6_meanDepth 30 = .ok (.i2d, 1) := by decide +kernel
theorem dX6_meanDepth_31 : decode cX6_meanDepth 31 = .ok (.iload_n 1, 1) := by decide +kernel
theorem dX6_meanDepth_32 : decode cX6_meanDepth 32 = .ok (.i2d, 1) := by decide +kernel
theorem dX6_meanDepth_33 : decode cX6_meanDepth 33 = .ok (.ddiv, 1) := by decide +kernel
theorem dX6_meanDepth_34 : decode cX6_meanDepth 34 = .ok (.dreturn, 1) := by decide +kernel
theorem dX6_writeLine_0 : decode cX6_writeLine 0 = .ok (.aload_n 0, 1) := by decide +kernel
theorem dX6_writeLine_1 : decode cX6_writeLine 1 = .ok (.iload_n 1, 1) := by decide +kernel
theorem dX6_writeLine_2 : decode cX6_writeLine 2 = .ok (.invokevirtual 171, 3) := by decide +kernel
theorem dX6_writeLine_5 : decode cX6_writeLine 5 = .ok (.astore_n 2, 1) := by decide +kernel
theorem dX6_writeLine_6 : decode cX6_writeLine 6 = .ok (.aload_n 0, 1) := by decide +kernel
theorem dX6_writeLine_7 : decode cX6_writeLine 7 = .ok (.getfield 43, 3) := by decide +kernel
theorem dX6_writeLine_10 : decode cX6_writeLine 10 = .ok (.iconst 0, 1) := by decide +kernel
theorem dX6_writeLine_11 : decode cX6_writeLine 11 = .ok (.invokevirtual 282, 3) := by decide +kernel
theorem dX6_writeLine_14 : decode cX6_writeLine 14 = .ok (.aload_n 2, 1) := by decide +kernel
theorem dX6_writeLine_15 : decode cX6_writeLine 15 = .ok (.aload_n 0, 1) := by decide +kernel
theorem dX6_writeLine_16 : decode cX6_writeLine 16 = .ok (.getfield 43, 3) := by decide +kernel
theorem dX6_writeLine_19 : decode cX6_writeLine 19 = .ok (.invokevirtual 285, 3) := by decide +kernel
theorem dX6_writeLine_22 : decode cX6_writeLine 22 = .ok (.aload_n 0, 1) := by decide +kernel
theorem dX6_writeLine_23 : decode cX6_writeLine 23 = .ok (.getfield 43, 3) := by decide +kernel
theorem dX6_writeLine_26 : decode cX6_writeLine 26 = .ok (.invokevirtual 289, 3) := by decide +kernel
theorem dX6_writeLine_29 : decode cX6_writeLine 29 = .ok (.ireturn, 1) := by decide +kernel
theorem dX6_textAt_0 : decode cX6_textAt 0 = .ok (.iload_n 1, 1) := by decide +kernel
theorem dX6_textAt_1 : decode cX6_textAt 1 = .ok (.ifCond .lt 14, 3) := by decide +kernel
theorem dX6_textAt_4 : decode cX6_textAt 4 = .ok (.iload_n 1, 1) := by decide +kernel
theorem dX6_textAt_5 : decode cX6_textAt 5 = .ok (.aload_n 0, 1) := by decide +kernel
theorem dX6_textAt_6 : decode cX6_textAt 6 = .ok (.getfield 43, 3) := by decide +kernel
theorem dX6_textAt_9 : decode cX6_textAt 9 = .ok (.invokevirtual 289, 3) := by decide +kernel
theorem dX6_textAt_12 : decode cX6_textAt 12 = .ok (.if_icmp .lt 14, 3) := by decide +kernel
theorem dX6_textAt_15 : decode cX6_textAt 15 = .ok (.new 292, 3) := by decide +kernel
theorem dX6_textAt_18 : decode cX6_textAt 18 = .ok (.dup, 1) := by decide +kernel
theorem dX6_textAt_19 : decode cX6_textAt 19 = .ok (.ldc_w 294, 3) := by decide +kernel
theorem dX6_textAt_22 : decode cX6_textAt 22 = .ok (.invokespecial 296, 3) := by decide +kernel
theorem dX6_textAt_25 : decode cX6_textAt 25 = .ok (.athrow, 1) := by decide +kernel
theorem dX6_textAt_26 : decode cX6_textAt 26 = .ok (.aload_n 0, 1) := by decide +kernel
theorem dX6_textAt_27 : decode cX6_textAt 27 = .ok (.getfield 43, 3) := by decide +kernel
theorem dX6_textAt_30 : decode cX6_textAt 30 = .ok (.iload_n 1, 1) := by decide +kernel
theorem dX6_textAt_31 : decode cX6_textAt 31 = .ok (.invokevirtual 297, 3) := by decide +kernel
theorem dX6_textAt_34 : decode cX6_textAt 34 = .ok (.ireturn, 1) := by decide +kernel
theorem dX6_isSure_0 : decode cX6_isSure 0 = .ok (.aload_n 0, 1) := by decide +kernel
theorem dX6_isSure_1 : decode cX6_isSure 1 = .ok (.invokevirtual 216, 3) := by decide +kernel
theorem dX6_isSure_4 : decode cX6_isSure 4 = .ok (.iconst 0, 1) := by decide +kernel
theorem dX6_isSure_5 : decode cX6_isSure 5 = .ok (.istore_n 1, 1) := by decide +kernel
theorem dX6_isSure_6 : decode cX6_isSure 6 = .ok (.iload_n 1, 1) := by decide +kernel
theorem dX6_isSure_7 : decode cX6_isSure 7 = .ok (.bipush 12, 2) := by decide +kernel
theorem dX6_isSure_9 : decode cX6_isSure 9 = .ok (.if_icmp .ge 43, 3) := by decide +kernel
theorem dX6_isSure_12 : decode cX6_isSure 12 = .ok (.iconst 0, 1) := by decide +kernel
theorem dX6_isSure_13 : decode cX6_isSure 13 = .ok (.istore_n 2, 1) := by decide +kernel
theorem dX6_isSure_14 : decode cX6_isSure 14 = .ok (.iload_n 2, 1) := by decide +kernel
theorem dX6_isSure_15 : decode cX6_isSure 15 = .ok (.bipush 20, 2) := by decide +kernel
theorem dX6_isSure_17 : decode cX6_isSure 17 = .ok (.if_icmp .ge 29, 3) := by decide +kernel
theorem dX6_isSure_20 : decode cX6_isSure 20 = .ok (.aload_n 0, 1) := by decide +kernel
theorem dX6_isSure_21 : decode cX6_isSure 21 = .ok (.getfield 36, 3) := by decide +kernel
theorem dX6_isSure_24 : decode cX6_isSure 24 = .ok (.iload_n 2, 1) := by decide +kernel
theorem dX6_isSure_25 : decode cX6_isSure 25 = .ok (.iload_n 1, 1) := by decide +kernel
theorem dX6_isSure_26 : decode cX6_isSure 26 = .ok (.invokevirtual 210, 3) := by decide +kernel
theorem dX6_isSure_29 : decode cX6_isSure 29 = .ok (.aload_n 0, 1) := by decide +kernel
theorem dX6_isSure_30 : decode cX6_isSure 30 = .ok (.iload_n 2, 1) := by decide +kernel
theorem dX6_isSure_31 : decode cX6_isSure 31 = .ok (.iload_n 1, 1) := by decide +kernel
theorem dX6_isSure_32 : decode cX6_isSure 32 = .ok (.invokevirtual 219, 3) := by decide +kernel
theorem dX6_isSure_35 : decode cX6_isSure 35 = .ok (.if_icmp .eq 5, 3) := by decide +kernel
theorem dX6_isSure_38 : decode cX6_isSure 38 = .ok (.iconst 0, 1) := by decide +kernel
theorem dX6_isSure_39 : decode cX6_isSure 39 = .ok (.ireturn, 1) := by decide +kernel
theorem dX6_isSure_40 : decode cX6_isSure 40 = .ok (.iinc 2 1, 3) := by decide +kernel
theorem dX6_isSure_43 : decode cX6_isSure 43 = .ok (.goto (-29), 3) := by decide +kernel
theorem dX6_isSure_46 : decode cX6_isSure 46 = .ok (.iinc 1 1, 3) := by decide +kernel
theorem dX6_isSure_49 : decode cX6_isSure 49 = .ok (.goto (-43), 3) := by decide +kernel
theorem dX6_isSure_52 : decode cX6_isSure 52 = .ok (.iconst 1, 1) := by decide +kernel
theorem dX6_isSure_53 : decode cX6_isSure 53 = .ok (.ireturn, 1) := by decide +kernel
theorem dX6_requireCell_0 : decode cX6_requireCell 0 = .ok (.iload_n 0, 1) := by decide +kernel
theorem dX6_requireCell_1 : decode cX6_requireCell 1 = .ok (.iload_n 1, 1) := by decide +kernel
theorem dX6_requireCell_2 : decode cX6_requireCell 2 = .ok (.invokestatic 301, 3) := by decide +kernel
theorem dX6_requireCell_5 : decode cX6_requireCell 5 = .ok (.ifCond .ge 13, 3) := by decide +kernel
theorem dX6_requireCell_8 : decode cX6_requireCell 8 = .ok (.new 292, 3) := by decide +kernel
theorem dX6_requireCell_11 : decode cX6_requireCell 11 = .ok (.dup, 1) := by decide +kernel
theorem dX6_requireCell_12 : decode cX6_requireCell 12 = .ok (.ldc 227, 2) := by decide +kernel
theorem dX6_requireCell_14 : decode cX6_requireCell 14 = .ok (.invokespecial 296, 3) := by decide +kernel
theorem dX6_requireCell_17 : decode cX6_requireCell 17 = .ok (.athrow, 1) := by decide +kernel
theorem dX6_requireCell_18 : decode cX6_requireCell 18 = .ok (.return_, 1) := by decide +kernel
theorem dX6_requireColumn_0 : decode cX6_requireColumn 0 = .ok (.iload_n 0, 1) := by decide +kernel
theorem dX6_requireColumn_1 : decode cX6_requireColumn 1 = .ok (.ifCond .lt 9, 3) := by decide +kernel
theorem dX6_requireColumn_4 : decode cX6_requireColumn 4 = .ok (.iload_n 0, 1) := by decide +kernel
theorem dX6_requireColumn_5 : decode cX6_requireColumn 5 = .ok (.bipush 20, 2) := by decide +kernel
theorem dX6_requireColumn_7 : decode cX6_requireColumn 7 = .ok (.if_icmp .lt 14, 3) := by decide +kernel
theorem dX6_requireColumn_10 : decode cX6_requireColumn 10 = .ok (.new 292, 3) := by decide +kernel
theorem dX6_requireColumn_13 : decode cX6_requireColumn 13 = .ok (.dup, 1) := by decide +kernel
theorem dX6_requireColumn_14 : decode cX6_requireColumn 14 = .ok (.ldc_w 304, 3) := by decide +kernel
theorem dX6_requireColumn_17 : decode cX6_requireColumn 17 = .ok (.invokespecial 296, 3) := by decide +kernel
theorem dX6_requireColumn_20 : decode cX6_requireColumn 20 = .ok (.athrow, 1) := by decide +kernel
theorem dX6_requireColumn_21 : decode cX6_requireColumn 21 = .ok (.return_, 1) := by decide +kernel
theorem dX6_requireDay_0 : decode cX6_requireDay 0 = .ok (.iload_n 0, 1) := by decide +kernel
theorem dX6_requireDay_1 : decode cX6_requireDay 1 = .ok (.ifCond .lt 9, 3) := by decide +kernel
theorem dX6_requireDay_4 : decode cX6_requireDay 4 = .ok (.iload_n 0, 1) := by decide +kernel
theorem dX6_requireDay_5 : decode cX6_requireDay 5 = .ok (.bipush 10, 2) := by decide +kernel
theorem dX6_requireDay_7 : decode cX6_requireDay 7 = .ok (.if_icmp .lt 14, 3) := by decide +kernel
theorem dX6_requireDay_10 : decode cX6_requireDay 10 = .ok (.new 292, 3) := by decide +kernel
theorem dX6_requireDay_13 : decode cX6_requireDay 13 = .ok (.dup, 1) := by decide +kernel
theorem dX6_requireDay_14 : decode cX6_requireDay 14 = .ok (.ldc_w 306, 3) := by decide +kernel
theorem dX6_requireDay_17 : decode cX6_requireDay 17 = .ok (.invokespecial 296, 3) := by decide +kernel
theorem dX6_requireDay_20 : decode cX6_requireDay 20 = .ok (.athrow, 1) := by decide +kernel
theorem dX6_requireDay_21 : decode cX6_requireDay 21 = .ok (.return_, 1) := by decide +kernel
theorem dX6_requireHour_0 : decode cX6_requireHour 0 = .ok (.iload_n 0, 1) := by decide +kernel
theorem dX6_requireHour_1 : decode cX6_requireHour 1 = .ok (.iload_n 1, 1) := by decide +kernel
theorem dX6_requireHour_2 : decode cX6_requireHour 2 = .ok (.invokestatic 308, 3) := by decide +kernel
theorem dX6_requireHour_5 : decode cX6_requireHour 5 = .ok (.ifCond .ge 14, 3) := by decide +kernel
theorem dX6_requireHour_8 : decode cX6_requireHour 8 = .ok (.new 292, 3) := by decide +kernel
theorem dX6_requireHour_11 : decode cX6_requireHour 11 = .ok (.dup, 1) := by decide +kernel
theorem dX6_requireHour_12 : decode cX6_requireHour 12 = .ok (.ldc_w 311, 3) := by decide +kernel
theorem dX6_requireHour_15 : decode cX6_requireHour 15 = .ok (.invokespecial 296, 3) := by decide +kernel
theorem dX6_requireHour_18 : decode cX6_requireHour 18 = .ok (.athrow, 1) := by decide +kernel
theorem dX6_requireHour_19 : decode cX6_requireHour 19 = .ok (.return_, 1) := by decide +kernel
theorem dX6_requireWay_0 : decode cX6_requireWay 0 = .ok (.iload_n 0, 1) := by decide +kernel
theorem dX6_requireWay_1 : decode cX6_requireWay 1 = .ok (.ifCond .eq 27, 3) := by decide +kernel
theorem dX6_requireWay_4 : decode cX6_requireWay 4 = .ok (.iload_n 2, 1) := by decide +kernel
theorem dX6_requireWay_5 : decode cX6_requireWay 5 = .ok (.iload_n 1, 1) := by decide +kernel
theorem dX6_requireWay_6 : decode cX6_requireWay 6 = .ok (.invokestatic 301, 3) := by decide +kernel
theorem dX6_requireWay_9 : decode cX6_requireWay 9 = .ok (.ifCond .lt 15, 3) := by decide +kernel
theorem dX6_requireWay_12 : decode cX6_requireWay 12 = .ok (.iload_n 3, 1) := by decide +kernel
theorem dX6_requireWay_13 : decode cX6_requireWay 13 = .ok (.iload_n 1, 1) := by decide +kernel
theorem dX6_requireWay_14 : decode cX6_requireWay 14 = .ok (.invokestatic 301, 3) := by decide +kernel
theorem dX6_requireWay_17 : decode cX6_requireWay 17 = .ok (.ifCond .lt 7, 3) := by decide +kernel
theorem dX6_requireWay_20 : decode cX6_requireWay 20 = .ok (.iconst 1, 1) := by decide +kernel
theorem dX6_requireWay_21 : decode cX6_requireWay 21 = .ok (.goto 28, 3) := by decide +kernel
theorem dX6_requireWay_24 : decode cX6_requireWay 24 = .ok (.iconst 0, 1) := by decide +kernel
theorem dX6_requireWay_25 : decode cX6_requireWay 25 = .ok (.goto 24, 3) := by decide +kernel
theorem dX6_requireWay_28 : decode cX6_requireWay 28 = .ok (.iload_n 1, 1) := by decide +kernel
theorem dX6_requireWay_29 : decode cX6_requireWay 29 = .ok (.iload_n 2, 1) := by decide +kernel
theorem dX6_requireWay_30 : decode cX6_requireWay 30 = .ok (.invokestatic 301, 3) := by decide +kernel
theorem dX6_requireWay_33 : decode cX6_requireWay 33 = .ok (.ifCond .lt 15, 3) := by decide +kernel
theorem dX6_requireWay_36 : decode cX6_requireWay 36 = .ok (.iload_n 1, 1) := by decide +kernel
theorem dX6_requireWay_37 : decode cX6_requireWay 37 = .ok (.iload_n 3, 1) := by decide +kernel
theorem dX6_requireWay_38 : decode cX6_requireWay 38 = .ok (.invokestatic 301, 3) := by decide +kernel
theorem dX6_requireWay_41 : decode cX6_requireWay 41 = .ok (.ifCond .lt 7, 3) := by decide +kernel
theorem dX6_requireWay_44 : decode cX6_requireWay 44 = .ok (.iconst 1, 1) := by decide +kernel
theorem dX6_requireWay_45 : decode cX6_requireWay 45 = .ok (.goto 4, 3) := by decide +kernel
theorem dX6_requireWay_48 : decode cX6_requireWay 48 = .ok (.iconst 0, 1) := by decide +kernel
theorem dX6_requireWay_49 : decode cX6_requireWay 49 = .ok (.istore 4, 2) := by decide +kernel
theorem dX6_requireWay_51 : decode cX6_requireWay 51 = .ok (.iload 4, 2) := by decide +kernel
theorem dX6_requireWay_53 : decode cX6_requireWay 53 = .ok (.ifCond .ne 14, 3) := by decide +kernel
theorem dX6_requireWay_56 : decode cX6_requireWay 56 = .ok (.new 292, 3) := by decide +kernel
theorem dX6_requireWay_59 : decode cX6_requireWay 59 = .ok (.dup, 1) := by decide +kernel
theorem dX6_requireWay_60 : decode cX6_requireWay 60 = .ok (.ldc_w 313, 3) := by decide +kernel
theorem dX6_requireWay_63 : decode cX6_requireWay 63 = .ok (.invokespecial 296, 3) := by decide +kernel
theorem dX6_requireWay_66 : decode cX6_requireWay 66 = .ok (.athrow, 1) := by decide +kernel
theorem dX6_requireWay_67 : decode cX6_requireWay 67 = .ok (.return_, 1) := by decide +kernel
theorem dX6_requireCalm_0 : decode cX6_requireCalm 0 = .ok (.aload_n 0, 1) := by decide +kernel
theorem dX6_requireCalm_1 : decode cX6_requireCalm 1 = .ok (.getfield 10, 3) := by decide +kernel
theorem dX6_requireCalm_4 : decode cX6_requireCalm 4 = .ok (.iload_n 1, 1) := by decide +kernel
theorem dX6_requireCalm_5 : decode cX6_requireCalm 5 = .ok (.invokevirtual 315, 3) := by decide +kernel
theorem dX6_requireCalm_8 : decode cX6_requireCalm 8 = .ok (.ifCond .eq 14, 3) := by decide +kernel
theorem dX6_requireCalm_11 : decode cX6_requireCalm 11 = .ok (.new 98, 3) := by decide +kernel
theorem dX6_requireCalm_14 : decode cX6_requireCalm 14 = .ok (.dup, 1) := by decide +kernel
theorem dX6_requireCalm_15 : decode cX6_requireCalm 15 = .ok (.ldc_w 318, 3) := by decide +kernel
theorem dX6_requireCalm_18 : decode cX6_requireCalm 18 = .ok (.invokespecial 102, 3) := by decide +kernel
theorem dX6_requireCalm_21 : decode cX6_requireCalm 21 = .ok (.athrow, 1) := by decide +kernel
theorem dX6_requireCalm_22 : decode cX6_requireCalm 22 = .ok (.return_, 1) := by decide +kernel
theorem dX6_requireDepth_0 : decode cX6_requireDepth 0 = .ok (.iload_n 0, 1) := by decide +kernel
theorem dX6_requireDepth_1 : decode cX6_requireDepth 1 = .ok (.ldc 138, 2) := by decide +kernel
theorem dX6_requireDepth_3 : decode cX6_requireDepth 3 = .ok (.if_icmp .ne 14, 3) := by decide +kernel
theorem dX6_requireDepth_6 : decode cX6_requireDepth 6 = .ok (.new 98, 3) := by decide +kernel
theorem dX6_requireDepth_9 : decode cX6_requireDepth 9 = .ok (.dup, 1) := by decide +kernel
theorem dX6_requireDepth_10 : decode cX6_requireDepth 10 = .ok (.ldc_w 320, 3) := by decide +kernel
theorem dX6_requireDepth_13 : decode cX6_requireDepth 13 = .ok (.invokespecial 102, 3) := by decide +kernel
theorem dX6_requireDepth_16 : decode cX6_requireDepth 16 = .ok (.athrow, 1) := by decide +kernel
theorem dX6_requireDepth_17 : decode cX6_requireDepth 17 = .ok (.iload_n 0, 1) := by decide +kernel
theorem dX6_requireDepth_18 : decode cX6_requireDepth 18 = .ok (.ireturn, 1) := by decide +kernel
theorem dX6_requireGauge_0 : decode cX6_requireGauge 0 = .ok (.aload_n 0, 1) := by decide +kernel
theorem dX6_requireGauge_1 : decode cX6_requireGauge 1 = .ok (.getfield 19, 3) := by decide +kernel
theorem dX6_requireGauge_4 : decode cX6_requireGauge 4 = .ok (.iload_n 1, 1) := by decide +kernel
theorem dX6_requireGauge_5 : decode cX6_requireGauge 5 = .ok (.invokevirtual 322, 3) := by decide +kernel
theorem dX6_requireGauge_8 : decode cX6_requireGauge 8 = .ok (.astore_n 2, 1) := by decide +kernel
theorem dX6_requireGauge_9 : decode cX6_requireGauge 9 = .ok (.aload_n 2, 1) := by decide +kernel
theorem dX6_requireGauge_10 : decode cX6_requireGauge 10 = .ok (.ifnonnull 14, 3) := by decide +kernel
theorem dX6_requireGauge_13 : decode cX6_requireGauge 13 = .ok (.new 225, 3) := by decide +kernel
theorem dX6_requireGauge_16 : decode cX6_requireGauge 16 = .ok (.dup, 1) := by decide +kernel
theorem dX6_requireGauge_17 : decode cX6_requireGauge 17 = .ok (.ldc_w 325, 3) := by decide +kernel
theorem dX6_requireGauge_20 : decode cX6_requireGauge 20 = .ok (.invokespecial 229, 3) := by decide +kernel
theorem dX6_requireGauge_23 : decode cX6_requireGauge 23 = .ok (.athrow, 1) := by decide +kernel
theorem dX6_requireGauge_24 : decode cX6_requireGauge 24 = .ok (.aload_n 2, 1) := by decide +kernel
theorem dX6_requireGauge_25 : decode cX6_requireGauge 25 = .ok (.areturn, 1) := by decide +kernel
theorem dX6_requireLine_0 : decode cX6_requireLine 0 = .ok (.aload_n 0, 1) := by decide +kernel
theorem dX6_requireLine_1 : decode cX6_requireLine 1 = .ok (.iload_n 1, 1) := by decide +kernel
theorem dX6_requireLine_2 : decode cX6_requireLine 2 = .ok (.invokevirtual 238, 3) := by decide +kernel
theorem dX6_requireLine_5 : decode cX6_requireLine 5 = .ok (.astore_n 2, 1) := by decide +kernel
theorem dX6_requireLine_6 : decode cX6_requireLine 6 = .ok (.aload_n 2, 1) := by decide +kernel
theorem dX6_requireLine_7 : decode cX6_requireLine 7 = .ok (.ifnonnull 14, 3) := by decide +kernel
theorem dX6_requireLine_10 : decode cX6_requireLine 10 = .ok (.new 225, 3) := by decide +kernel
theorem dX6_requireLine_13 : decode cX6_requireLine 13 = .ok (.dup, 1) := by decide +kernel
theorem dX6_requireLine_14 : decode cX6_requireLine 14 = .ok (.ldc_w 327, 3) := by decide +kernel
theorem dX6_requireLine_17 : decode cX6_requireLine 17 = .ok (.invokespecial 229, 3) := by decide +kernel
theorem dX6_requireLine_20 : decode cX6_requireLine 20 = .ok (.athrow, 1) := by decide +kernel
theorem dX6_requireLine_21 : decode cX6_requireLine 21 = .ok (.aload_n 2, 1) := by decide +kernel
theorem dX6_requireLine_22 : decode cX6_requireLine 22 = .ok (.areturn, 1) := by decide +kernel
theorem dX6_requireSounded_0 : decode cX6_requireSounded 0 = .ok (.aload_n 0, 1) := by decide +kernel
theorem dX6_requireSounded_1 : decode cX6_requireSounded 1 = .ok (.iload_n 1, 1) := by decide +kernel
theorem dX6_requireSounded_2 : decode cX6_requireSounded 2 = .ok (.invokevirtual 171, 3) := by decide +kernel
theorem dX6_requireSounded_5 : decode cX6_requireSounded 5 = .ok (.astore 4, 2) := by decide +kernel
theorem dX6_requireSounded_7 : decode cX6_requireSounded 7 = .ok (.aload 4, 2) := by decide +kernel
theorem dX6_requireSounded_9 : decode cX6_requireSounded 9 = .ok (.iload_n 2, 1) := by decide +kernel
theorem dX6_requireSounded_10 : decode cX6_requireSounded 10 = .ok (.iload_n 3, 1) := by decide +kernel
theorem dX6_requireSounded_11 : decode cX6_requireSounded 11 = .ok (.invokevirtual 329, 3) := by decide +kernel
theorem dX6_requireSounded_14 : decode cX6_requireSounded 14 = .ok (.ifCond .ne 14, 3) := by decide +kernel
theorem dX6_requireSounded_17 : decode cX6_requireSounded 17 = .ok (.new 292, 3) := by decide +kernel
theorem dX6_requireSounded_20 : decode cX6_requireSounded 20 = .ok (.dup, 1) := by decide +kernel
theorem dX6_requireSounded_21 : decode cX6_requireSounded 21 = .ok (.ldc_w 332, 3) := by decide +kernel
theorem dX6_requireSounded_24 : decode cX6_requireSounded 24 = .ok (.invokespecial 296, 3) := by decide +kernel
theorem dX6_requireSounded_27 : decode cX6_requireSounded 27 = .ok (.athrow, 1) := by decide +kernel
theorem dX6_requireSounded_28 : decode cX6_requireSounded 28 = .ok (.aload 4, 2) := by decide +kernel
theorem dX6_requireSounded_30 : decode cX6_requireSounded 30 = .ok (.areturn, 1) := by decide +kernel
theorem dX6_cellNumber_0 : decode cX6_cellNumber 0 = .ok (.iload_n 0, 1) := by decide +kernel
theorem dX6_cellNumber_1 : decode cX6_cellNumber 1 = .ok (.ifCond .lt 23, 3) := by decide +kernel
theorem dX6_cellNumber_4 : decode cX6_cellNumber 4 = .ok (.iload_n 0, 1) := by decide +kernel
theorem dX6_cellNumber_5 : decode cX6_cellNumber 5 = .ok (.bipush 20, 2) := by decide +kernel
theorem dX6_cellNumber_7 : decode cX6_cellNumber 7 = .ok (.if_icmp .ge 17, 3) := by decide +kernel
theorem dX6_cellNumber_10 : decode cX6_cellNumber 10 = .ok (.iload_n 1, 1) := by decide +kernel
theorem dX6_cellNumber_11 : decode cX6_cellNumber 11 = .ok (.ifCond .lt 13, 3) := by decide +kernel
theorem dX6_cellNumber_14 : decode cX6_cellNumber 14 = .ok (.iload_n 1, 1) := by decide +kernel
theorem dX6_cellNumber_15 : decode cX6_cellNumber 15 = .ok (.bipush 12, 2) := by decide +kernel
theorem dX6_cellNumber_17 : decode cX6_cellNumber 17 = .ok (.if_icmp .ge 7, 3) := by decide +kernel
theorem dX6_cellNumber_20 : decode cX6_cellNumber 20 = .ok (.iconst 1, 1) := by decide +kernel
theorem dX6_cellNumber_21 : decode cX6_cellNumber 21 = .ok (.goto 4, 3) := by decide +kernel
theorem dX6_cellNumber_24 : decode cX6_cellNumber 24 = .ok (.iconst 0, 1) := by decide +kernel
theorem dX6_cellNumber_25 : decode cX6_cellNumber 25 = .ok (.istore_n 2, 1) := by decide +kernel
theorem dX6_cellNumber_26 : decode cX6_cellNumber 26 = .ok (.iload_n 2, 1) := by decide +kernel
theorem dX6_cellNumber_27 : decode cX6_cellNumber 27 = .ok (.ifCond .eq 12, 3) := by decide +kernel
theorem dX6_cellNumber_30 : decode cX6_cellNumber 30 = .ok (.iload_n 1, 1) := by decide +kernel
theorem dX6_cellNumber_31 : decode cX6_cellNumber 31 = .ok (.bipush 20, 2) := by decide +kernel
theorem dX6_cellNumber_33 : decode cX6_cellNumber 33 = .ok (.imul, 1) := by decide +kernel
theorem dX6_cellNumber_34 : decode cX6_cellNumber 34 = .ok (.iload_n 0, 1) := by decide +kernel
theorem dX6_cellNumber_35 : decode cX6_cellNumber 35 = .ok (.iadd, 1) := by decide +kernel
theorem dX6_cellNumber_36 : decode cX6_cellNumber 36 = .ok (.goto 4, 3) := by decide +kernel
theorem dX6_cellNumber_39 : decode cX6_cellNumber 39 = .ok (.iconst (-1), 1) := by decide +kernel
theorem dX6_cellNumber_40 : decode cX6_cellNumber 40 = .ok (.ireturn, 1) := by decide +kernel
theorem dX6_hourNumber_0 : decode cX6_hourNumber 0 = .ok (.iload_n 0, 1) := by decide +kernel
theorem dX6_hourNumber_1 : decode cX6_hourNumber 1 = .ok (.ifCond .lt 23, 3) := by decide +kernel
theorem dX6_hourNumber_4 : decode cX6_hourNumber 4 = .ok (.iload_n 0, 1) := by decide +kernel
theorem dX6_hourNumber_5 : decode cX6_hourNumber 5 = .ok (.bipush 10, 2) := by decide +kernel
theorem dX6_hourNumber_7 : decode cX6_hourNumber 7 = .ok (.if_icmp .ge 17, 3) := by decide +kernel
theorem dX6_hourNumber_10 : decode cX6_hourNumber 10 = .ok (.iload_n 1, 1) := by decide +kernel
theorem dX6_hourNumber_11 : decode cX6_hourNumber 11 = .ok (.ifCond .lt 13, 3) := by decide +kernel
theorem dX6_hourNumber_14 : decode cX6_hourNumber 14 = .ok (.iload_n 1, 1) := by decide +kernel
theorem dX6_hourNumber_15 : decode cX6_hourNumber 15 = .ok (.bipush 24, 2) := by decide +kernel
theorem dX6_hourNumber_17 : decode cX6_hourNumber 17 = .ok (.if_icmp .ge 7, 3) := by decide +kernel
theorem dX6_hourNumber_20 : decode cX6_hourNumber 20 = .ok (.iconst 1, 1) := by decide +kernel
theorem dX6_hourNumber_21 : decode cX6_hourNumber 21 = .ok (.goto 4, 3) := by decide +kernel
theorem dX6_hourNumber_24 : decode cX6_hourNumber 24 = .ok (.iconst 0, 1) := by decide +kernel
theorem dX6_hourNumber_25 : decode cX6_hourNumber 25 = .ok (.istore_n 2, 1) := by decide +kernel
theorem dX6_hourNumber_26 : decode cX6_hourNumber 26 = .ok (.iload_n 2, 1) := by decide +kernel
theorem dX6_hourNumber_27 : decode cX6_hourNumber 27 = .ok (.ifCond .eq 12, 3) := by decide +kernel
theorem dX6_hourNumber_30 : decode cX6_hourNumber 30 = .ok (.iload_n 0, 1) := by decide +kernel
theorem dX6_hourNumber_31 : decode cX6_hourNumber 31 = .ok (.bipush 24, 2) := by decide +kernel
theorem dX6_hourNumber_33 : decode cX6_hourNumber 33 = .ok (.imul, 1) := by decide +kernel
theorem dX6_hourNumber_34 : decode cX6_hourNumber 34 = .ok (.iload_n 1, 1) := by decide +kernel
theorem dX6_hourNumber_35 : decode cX6_hourNumber 35 = .ok (.iadd, 1) := by decide +kernel
theorem dX6_hourNumber_36 : decode cX6_hourNumber 36 = .ok (.goto 4, 3) := by decide +kernel
theorem dX6_hourNumber_39 : decode cX6_hourNumber 39 = .ok (.iconst (-1), 1) := by decide +kernel
theorem dX6_hourNumber_40 : decode cX6_hourNumber 40 = .ok (.ireturn, 1) := by decide +kernel
theorem dX6_between_0 : decode cX6_between 0 = .ok (.iload_n 3, 1) := by decide +kernel
theorem dX6_between_1 : decode cX6_between 1 = .ok (.ifCond .le 17, 3) := by decide +kernel
theorem dX6_between_4 : decode cX6_between 4 = .ok (.iload_n 0, 1) := by decide +kernel
theorem dX6_between_5 : decode cX6_between 5 = .ok (.iload_n 1, 1) := by decide +kernel
theorem dX6_between_6 : decode cX6_between 6 = .ok (.iload_n 0, 1) := by decide +kernel
theorem dX6_between_7 : decode cX6_between 7 = .ok (.isub, 1) := by decide +kernel
theorem dX6_between_8 : decode cX6_between 8 = .ok (.iload_n 2, 1) := by decide +kernel
theorem dX6_between_9 : decode cX6_between 9 = .ok (.imul, 1) := by decide +kernel
theorem dX6_between_10 : decode cX6_between 10 = .ok (.iload_n 3, 1) := by decide +kernel
theorem dX6_between_11 : decode cX6_between 11 = .ok (.invokestatic 334, 3) := by decide +kernel
theorem dX6_between_14 : decode cX6_between 14 = .ok (.iadd, 1) := by decide +kernel
theorem dX6_between_15 : decode cX6_between 15 = .ok (.goto 4, 3) := by decide +kernel
theorem dX6_between_18 : decode cX6_between 18 = .ok (.iload_n 0, 1) := by decide +kernel
theorem dX6_between_19 : decode cX6_between 19 = .ok (.ireturn, 1) := by decide +kernel
theorem dX6_lineOrNull_0 : decode cX6_lineOrNull 0 = .ok (.iload_n 1, 1) := by decide +kernel
theorem dX6_lineOrNull_1 : decode cX6_lineOrNull 1 = .ok (.ifCond .lt 29, 3) := by decide +kernel
theorem dX6_lineOrNull_4 : decode cX6_lineOrNull 4 = .ok (.iload_n 1, 1) := by decide +kernel
theorem dX6_lineOrNull_5 : decode cX6_lineOrNull 5 = .ok (.aload_n 0, 1) := by decide +kernel
theorem dX6_lineOrNull_6 : decode cX6_lineOrNull 6 = .ok (.getfield 29, 3) := by decide +kernel
theorem dX6_lineOrNull_9 : decode cX6_lineOrNull 9 = .ok (.if_icmp .ge 21, 3) := by decide +kernel
theorem dX6_lineOrNull_12 : decode cX6_lineOrNull 12 = .ok (.iload_n 1, 1) := by decide +kernel
theorem dX6_lineOrNull_13 : decode cX6_lineOrNull 13 = .ok (.aload_n 0, 1) := by decide +kernel
theorem dX6_lineOrNull_14 : decode cX6_lineOrNull 14 = .ok (.getfield 25, 3) := by decide +kernel
theorem dX6_lineOrNull_17 : decode cX6_lineOrNull 17 = .ok (.arraylength, 1) := by decide +kernel
theorem dX6_lineOrNull_18 : decode cX6_lineOrNull 18 = .ok (.if_icmp .ge 12, 3) := by decide +kernel
theorem dX6_lineOrNull_21 : decode cX6_lineOrNull 21 = .ok (.aload_n 0, 1) := by decide +kernel
theorem dX6_lineOrNull_22 : decode cX6_lineOrNull 22 = .ok (.getfield 25, 3) := by decide +kernel
theorem dX6_lineOrNull_25 : decode cX6_lineOrNull 25 = .ok (.iload_n 1, 1) := by decide +kernel
theorem dX6_lineOrNull_26 : decode cX6_lineOrNull 26 = .ok (.aaload, 1) := by decide +kernel
theorem dX6_lineOrNull_27 : decode cX6_lineOrNull 27 = .ok (.goto 4, 3) := by decide +kernel
theorem dX6_lineOrNull_30 : decode cX6_lineOrNull 30 = .ok (.aconst_null, 1) := by decide +kernel
theorem dX6_lineOrNull_31 : decode cX6_lineOrNull 31 = .ok (.areturn, 1) := by decide +kernel
theorem dX6_refresh_0 : decode cX6_refresh 0 = .ok (.aload_n 0, 1) := by decide +kernel
theorem dX6_refresh_1 : decode cX6_refresh 1 = .ok (.getfield 36, 3) := by decide +kernel
theorem dX6_refresh_4 : decode cX6_refresh 4 = .ok (.invokevirtual 337, 3) := by decide +kernel
theorem dX6_refresh_7 : decode cX6_refresh 7 = .ok (.iconst 0, 1) := by decide +kernel
theorem dX6_refresh_8 : decode cX6_refresh 8 = .ok (.istore_n 1, 1) := by decide +kernel
theorem dX6_refresh_9 : decode cX6_refresh 9 = .ok (.iload_n 1, 1) := by decide +kernel
theorem dX6_refresh_10 : decode cX6_refresh 10 = .ok (.aload_n 0, 1) := by decide +kernel
theorem dX6_refresh_11 : decode cX6_refresh 11 = .ok (.getfield 29, 3) := by decide +kernel
theorem dX6_refresh_14 : decode cX6_refresh 14 = .ok (.if_icmp .ge 39, 3) := by decide +kernel
theorem dX6_refresh_17 : decode cX6_refresh 17 = .ok (.aload_n 0, 1) := by decide +kernel
theorem dX6_refresh_18 : decode cX6_refresh 18 = .ok (.iload_n 1, 1) := by decide +kernel
theorem dX6_refresh_19 : decode cX6_refresh 19 = .ok (.invokevirtual 238, 3) := by decide +kernel
theorem dX6_refresh_22 : decode cX6_refresh 22 = .ok (.astore_n 2, 1) := by decide +kernel
theorem dX6_refresh_23 : decode cX6_refresh 23 = .ok (.aload_n 2, 1) := by decide +kernel
theorem dX6_refresh_24 : decode cX6_refresh 24 = .ok (.ifnull 23, 3) := by decide +kernel
theorem dX6_refresh_27 : decode cX6_refresh 27 = .ok (.aload_n 2, 1) := by decide +kernel
theorem dX6_refresh_28 : decode cX6_refresh 28 = .ok (.aload_n 0, 1) := by decide +kernel
theorem dX6_refresh_29 : decode cX6_refresh 29 = .ok (.getfield 19, 3) := by decide +kernel
theorem dX6_refresh_32 : decode cX6_refresh 32 = .ok (.aload_n 0, 1) := by decide +kernel
theorem dX6_refresh_33 : decode cX6_refresh 33 = .ok (.getfield 10, 3) := by decide +kernel
theorem dX6_refresh_36 : decode cX6_refresh 36 = .ok (.invokevirtual 340, 3) := by decide +kernel
theorem dX6_refresh_39 : decode cX6_refresh 39 = .ok (.aload_n 2, 1) := by decide +kernel
theorem dX6_refresh_40 : decode cX6_refresh 40 = .ok (.aload_n 0, 1) := by decide +kernel
theorem dX6_refresh_41 : decode cX6_refresh 41 = .ok (.getfield 36, 3) := by decide +kernel
theorem dX6_refresh_44 : decode cX6_refresh 44 = .ok (.invokevirtual 344, 3) := by decide +kernel
theorem dX6_refresh_47 : decode cX6_refresh 47 = .ok (.iinc 1 1, 3) := by decide +kernel
theorem dX6_refresh_50 : decode cX6_refresh 50 = .ok (.goto (-41), 3) := by decide +kernel
theorem dX6_refresh_53 : decode cX6_refresh 53 = .ok (.return_, 1) := by decide +kernel
theorem dX6_reduceLines_0 : decode cX6_reduceLines 0 = .ok (.iconst 0, 1) := by decide +kernel
theorem dX6_reduceLines_1 : decode cX6_reduceLines 1 = .ok (.istore_n 1, 1) := by decide +kernel
theorem dX6_reduceLines_2 : decode cX6_reduceLines 2 = .ok (.iload_n 1, 1) := by decide +kernel
theorem dX6_reduceLines_3 : decode cX6_reduceLines 3 = .ok (.aload_n 0, 1) := by decide +kernel
theorem dX6_reduceLines_4 : decode cX6_reduceLines 4 = .ok (.getfield 29, 3) := by decide +kernel
theorem dX6_reduceLines_7 : decode cX6_reduceLines 7 = .ok (.if_icmp .ge 31, 3) := by decide +kernel
theorem dX6_reduceLines_10 : decode cX6_reduceLines 10 = .ok (.aload_n 0, 1) := by decide +kernel
theorem dX6_reduceLines_11 : decode cX6_reduceLines 11 = .ok (.iload_n 1, 1) := by decide +kernel
theorem dX6_reduceLines_12 : decode cX6_reduceLines 12 = .ok (.invokevirtual 238, 3) := by decide +kernel
theorem dX6_reduceLines_15 : decode cX6_reduceLines 15 = .ok (.astore_n 2, 1) := by decide +kernel
theorem dX6_reduceLines_16 : decode cX6_reduceLines 16 = .ok (.aload_n 2, 1) := by decide +kernel
theorem dX6_reduceLines_17 : decode cX6_reduceLines 17 = .ok (.ifnull 15, 3) := by decide +kernel
theorem dX6_reduceLines_20 : decode cX6_reduceLines 20 = .ok (.aload_n 2, 1) := by decide +kernel
theorem dX6_reduceLines_21 : decode cX6_reduceLines 21 = .ok (.aload_n 0, 1) := by decide +kernel
theorem dX6_reduceLines_22 : decode cX6_reduceLines 22 = .ok (.getfield 19, 3) := by decide +kernel
theorem dX6_reduceLines_25 : decode cX6_reduceLines 25 = .ok (.aload_n 0, 1) := by decide +kernel
theorem dX6_reduceLines_26 : decode cX6_reduceLines 26 = .ok (.getfield 10, 3) := by decide +kernel
theorem dX6_reduceLines_29 : decode cX6_reduceLines 29 = .ok (.invokevirtual 340, 3) := by decide +kernel
theorem dX6_reduceLines_32 : decode cX6_reduceLines 32 = .ok (.iinc 1 1, 3) := by decide +kernel
theorem dX6_reduceLines_35 : decode cX6_reduceLines 35 = .ok (.goto (-33), 3) := by decide +kernel
theorem dX6_reduceLines_38 : decode cX6_reduceLines 38 = .ok (.return_, 1) := by decide +kernel
theorem dX6_leastDepth_0 : decode cX6_leastDepth 0 = .ok (.ldc 138, 2) := by decide +kernel
theorem dX6_leastDepth_2 : decode cX6_leastDepth 2 = .ok (.istore_n 3, 1) := by decide +kernel
theorem dX6_leastDepth_3 : decode cX6_leastDepth 3 = .ok (.iconst 0, 1) := by decide +kernel
theorem dX6_leastDepth_4 : decode cX6_leastDepth 4 = .ok (.istore 4, 2) := by decide +kernel
theorem dX6_leastDepth_6 : decode cX6_leastDepth 6 = .ok (.iload 4, 2) := by decide +kernel
theorem dX6_leastDepth_8 : decode cX6_leastDepth 8 = .ok (.aload_n 0, 1) := by decide +kernel
theorem dX6_leastDepth_9 : decode cX6_leastDepth 9 = .ok (.getfield 29, 3) := by decide +kernel
theorem dX6_leastDepth_12 : decode cX6_leastDepth 12 = .ok (.if_icmp .ge 58, 3) := by decide +kernel
theorem dX6_leastDepth_15 : decode cX6_leastDepth 15 = .ok (.aload_n 0, 1) := by decide +kernel
theorem dX6_leastDepth_16 : decode cX6_leastDepth 16 = .ok (.iload 4, 2) := by decide +kernel
theorem dX6_leastDepth_18 : decode cX6_leastDepth 18 = .ok (.invokevirtual 238, 3) := by decide +kernel
theorem dX6_leastDepth_21 : decode cX6_leastDepth 21 = .ok (.astore 5, 2) := by decide +kernel
theorem dX6_leastDepth_23 : decode cX6_leastDepth 23 = .ok (.aload 5, 2) := by decide +kernel
theorem dX6_leastDepth_25 : decode cX6_leastDepth 25 = .ok (.ifnonnull 8, 3) := by decide +kernel
theorem dX6_leastDepth_28 : decode cX6_leastDepth 28 = .ok (.ldc 138, 2) := by decide +kernel
theorem dX6_leastDepth_30 : decode cX6_leastDepth 30 = .ok (.goto 10, 3) := by decide +kernel
theorem dX6_leastDepth_33 : decode cX6_leastDepth 33 = .ok (.aload 5, 2) := by decide +kernel
theorem dX6_leastDepth_35 : decode cX6_leastDepth 35 = .ok (.iload_n 1, 1) := by decide +kernel
theorem dX6_leastDepth_36 : decode cX6_leastDepth 36 = .ok (.iload_n 2, 1) := by decide +kernel
theorem dX6_leastDepth_37 : decode cX6_leastDepth 37 = .ok (.invokevirtual 348, 3) := by decide +kernel
theorem dX6_leastDepth_40 : decode cX6_leastDepth 40 = .ok (.istore 6, 2) := by decide +kernel
theorem dX6_leastDepth_42 : decode cX6_leastDepth 42 = .ok (.iload 6, 2) := by decide +kernel
theorem dX6_leastDepth_44 : decode cX6_leastDepth 44 = .ok (.ldc 138, 2) := by decide +kernel
theorem dX6_leastDepth_46 : decode cX6_leastDepth 46 = .ok (.if_icmp .eq 18, 3) := by decide +kernel
theorem dX6_leastDepth_49 : decode cX6_leastDepth 49 = .ok (.iload_n 3, 1) := by decide +kernel
theorem dX6_leastDepth_50 : decode cX6_leastDepth 50 = .ok (.ldc 138, 2) := by decide +kernel
theorem dX6_leastDepth_52 : decode cX6_leastDepth 52 = .ok (.if_icmp .eq 9, 3) := by decide +kernel
theorem dX6_leastDepth_55 : decode cX6_leastDepth 55 = .ok (.iload 6, 2) := by decide +kernel
theorem dX6_leastDepth_57 : decode cX6_leastDepth 57 = .ok (.iload_n 3, 1) := by decide +kernel
theorem dX6_leastDepth_58 : decode cX6_leastDepth 58 = .ok (.if_icmp .ge 6, 3) := by decide +kernel
theorem dX6_leastDepth_61 : decode cX6_leastDepth 61 = .ok (.iload 6, 2) := by decide +kernel
theorem dX6_leastDepth_63 : decode cX6_leastDepth 63 = .ok (.istore_n 3, 1) := by decide +kernel
theorem dX6_leastDepth_64 : decode cX6_leastDepth 64 = .ok (.iinc 4 1, 3) := by decide +kernel
theorem dX6_leastDepth_67 : decode cX6_leastDepth 67 = .ok (.goto (-61), 3) := by decide +kernel
theorem dX6_leastDepth_70 : decode cX6_leastDepth 70 = .ok (.iload_n 3, 1) := by decide +kernel
theorem dX6_leastDepth_71 : decode cX6_leastDepth 71 = .ok (.ireturn, 1) := by decide +kernel
theorem dX6_gainOfRow_0 : decode cX6_gainOfRow 0 = .ok (.iconst 0, 1) := by decide +kernel
theorem dX6_gainOfRow_1 : decode cX6_gainOfRow 1 = .ok (.istore_n 2, 1) := by decide +kernel
theorem dX6_gainOfRow_2 : decode cX6_gainOfRow 2 = .ok (.iconst 0, 1) := by decide +kernel
theorem dX6_gainOfRow_3 : decode cX6_gainOfRow 3 = .ok (.istore_n 3, 1) := by decide +kernel
theorem dX6_gainOfRow_4 : decode cX6_gainOfRow 4 = .ok (.iload_n 3, 1) := by decide +kernel
theorem dX6_gainOfRow_5 : decode cX6_gainOfRow 5 = .ok (.bipush 20, 2) := by decide +kernel
theorem dX6_gainOfRow_7 : decode cX6_gainOfRow 7 = .ok (.if_icmp .ge 56, 3) := by decide +kernel
theorem dX6_gainOfRow_10 : decode cX6_gainOfRow 10 = .ok (.aload_n 0, 1) := by decide +kernel
theorem dX6_gainOfRow_11 : decode cX6_gainOfRow 11 = .ok (.getfield 10, 3) := by decide +kernel
theorem dX6_gainOfRow_14 : decode cX6_gainOfRow 14 = .ok (.iload_n 3, 1) := by decide +kernel
theorem dX6_gainOfRow_15 : decode cX6_gainOfRow 15 = .ok (.iload_n 1, 1) := by decide +kernel
theorem dX6_gainOfRow_16 : decode cX6_gainOfRow 16 = .ok (.invokevirtual 351, 3) := by decide +kernel
theorem dX6_gainOfRow_19 : decode cX6_gainOfRow 19 = .ok (.istore 4, 2) := by decide +kernel
theorem dX6_gainOfRow_21 : decode cX6_gainOfRow 21 = .ok (.iload 4, 2) := by decide +kernel
theorem dX6_gainOfRow_23 : decode cX6_gainOfRow 23 = .ok (.ineg, 1) := by decide +kernel
theorem dX6_gainOfRow_24 : decode cX6_gainOfRow 24 = .ok (.istore 5, 2) := by decide +kernel
theorem dX6_gainOfRow_26 : decode cX6_gainOfRow 26 = .ok (.iload 5, 2) := by decide +kernel
theorem dX6_gainOfRow_28 : decode cX6_gainOfRow 28 = .ok (.iload 4, 2) := by decide +kernel
theorem dX6_gainOfRow_30 : decode cX6_gainOfRow 30 = .ok (.if_icmp .gt 27, 3) := by decide +kernel
theorem dX6_gainOfRow_33 : decode cX6_gainOfRow 33 = .ok (.aload_n 0, 1) := by decide +kernel
theorem dX6_gainOfRow_34 : decode cX6_gainOfRow 34 = .ok (.getfield 36, 3) := by decide +kernel
theorem dX6_gainOfRow_37 : decode cX6_gainOfRow 37 = .ok (.iload_n 3, 1) := by decide +kernel
theorem dX6_gainOfRow_38 : decode cX6_gainOfRow 38 = .ok (.iload_n 1, 1) := by decide +kernel
theorem dX6_gainOfRow_39 : decode cX6_gainOfRow 39 = .ok (.iload 5, 2) := by decide +kernel
theorem dX6_gainOfRow_41 : decode cX6_gainOfRow 41 = .ok (.iadd, 1) := by decide +kernel
theorem dX6_gainOfRow_42 : decode cX6_gainOfRow 42 = .ok (.invokevirtual 354, 3) := by decide +kernel
theorem dX6_gainOfRow_45 : decode cX6_gainOfRow 45 = .ok (.ifCond .eq 6, 3) := by decide +kernel
theorem dX6_gainOfRow_48 : decode cX6_gainOfRow 48 = .ok (.iinc 2 1, 3) := by decide +kernel
theorem dX6_gainOfRow_51 : decode cX6_gainOfRow 51 = .ok (.iinc 5 1, 3) := by decide +kernel
theorem dX6_gainOfRow_54 : decode cX6_gainOfRow 54 = .ok (.goto (-28), 3) := by decide +kernel
theorem dX6_gainOfRow_57 : decode cX6_gainOfRow 57 = .ok (.iinc 3 1, 3) := by decide +kernel
theorem dX6_gainOfRow_60 : decode cX6_gainOfRow 60 = .ok (.goto (-56), 3) := by decide +kernel
theorem dX6_gainOfRow_63 : decode cX6_gainOfRow 63 = .ok (.iload_n 2, 1) := by decide +kernel
theorem dX6_gainOfRow_64 : decode cX6_gainOfRow 64 = .ok (.ireturn, 1) := by decide +kernel
theorem dX6_hoursBehind_0 : decode cX6_hoursBehind 0 = .ok (.iload_n 1, 1) := by decide +kernel
theorem dX6_hoursBehind_1 : decode cX6_hoursBehind 1 = .ok (.iload_n 0, 1) := by decide +kernel
theorem dX6_hoursBehind_2 : decode cX6_hoursBehind 2 = .ok (.isub, 1) := by decide +kernel
theorem dX6_hoursBehind_3 : decode cX6_hoursBehind 3 = .ok (.invokestatic 357, 3) := by decide +kernel
theorem dX6_hoursBehind_6 : decode cX6_hoursBehind 6 = .ok (.iconst 5, 1) := by decide +kernel
theorem dX6_hoursBehind_7 : decode cX6_hoursBehind 7 = .ok (.idiv, 1) := by decide +kernel
theorem dX6_hoursBehind_8 : decode cX6_hoursBehind 8 = .ok (.ireturn, 1) := by decide +kernel
theorem dX6_isFree_0 : decode cX6_isFree 0 = .ok (.iload 4, 2) := by decide +kernel
theorem dX6_isFree_2 : decode cX6_isFree 2 = .ok (.iload_n 2, 1) := by decide +kernel
theorem dX6_isFree_3 : decode cX6_isFree 3 = .ok (.iadd, 1) := by decide +kernel
theorem dX6_isFree_4 : decode cX6_isFree 4 = .ok (.istore 5, 2) := by decide +kernel
theorem dX6_isFree_6 : decode cX6_isFree 6 = .ok (.iload 5, 2) := by decide +kernel
theorem dX6_isFree_8 : decode cX6_isFree 8 = .ok (.bipush 24, 2) := by decide +kernel
theorem dX6_isFree_10 : decode cX6_isFree 10 = .ok (.if_icmp .lt 5, 3) := by decide +kernel
theorem dX6_isFree_13 : decode cX6_isFree 13 = .ok (.iconst 0, 1) := by decide +kernel
theorem dX6_isFree_14 : decode cX6_isFree 14 = .ok (.ireturn, 1) := by decide +kernel
theorem dX6_isFree_15 : decode cX6_isFree 15 = .ok (.iconst 0, 1) := by decide +kernel
theorem dX6_isFree_16 : decode cX6_isFree 16 = .ok (.istore 6, 2) := by decide +kernel
theorem dX6_isFree_18 : decode cX6_isFree 18 = .ok (.iload 6, 2) := by decide +kernel
theorem dX6_isFree_20 : decode cX6_isFree 20 = .ok (.aload_n 0, 1) := by decide +kernel
theorem dX6_isFree_21 : decode cX6_isFree 21 = .ok (.getfield 29, 3) := by decide +kernel
theorem dX6_isFree_24 : decode cX6_isFree 24 = .ok (.if_icmp .ge 43, 3) := by decide +kernel
theorem dX6_isFree_27 : decode cX6_isFree 27 = .ok (.aload_n 0, 1) := by decide +kernel
theorem dX6_isFree_28 : decode cX6_isFree 28 = .ok (.iload 6, 2) := by decide +kernel
theorem dX6_isFree_30 : decode cX6_isFree 30 = .ok (.invokevirtual 238, 3) := by decide +kernel
theorem dX6_isFree_33 : decode cX6_isFree 33 = .ok (.astore 7, 2) := by decide +kernel
theorem dX6_isFree_35 : decode cX6_isFree 35 = .ok (.aload 7, 2) := by decide +kernel
theorem dX6_isFree_37 : decode cX6_isFree 37 = .ok (.ifnull 24, 3) := by decide +kernel
theorem dX6_isFree_40 : decode cX6_isFree 40 = .ok (.aload 7, 2) := by decide +kernel
theorem dX6_isFree_42 : decode cX6_isFree 42 = .ok (.aload_n 1, 1) := by decide +kernel
theorem dX6_isFree_43 : decode cX6_isFree 43 = .ok (.if_acmp .eq 18, 3) := by decide +kernel
theorem dX6_isFree_46 : decode cX6_isFree 46 = .ok (.aload 7, 2) := by decide +kernel
theorem dX6_isFree_48 : decode cX6_isFree 48 = .ok (.iload_n 3, 1) := by decide +kernel
theorem dX6_isFree_49 : decode cX6_isFree 49 = .ok (.iload 4, 2) := by decide +kernel
theorem dX6_isFree_51 : decode cX6_isFree 51 = .ok (.iload 5, 2) := by decide +kernel
theorem dX6_isFree_53 : decode cX6_isFree 53 = .ok (.invokevirtual 360, 3) := by decide +kernel
theorem dX6_isFree_56 : decode cX6_isFree 56 = .ok (.ifCond .eq 5, 3) := by decide +kernel
theorem dX6_isFree_59 : decode cX6_isFree 59 = .ok (.iconst 0, 1) := by decide +kernel
theorem dX6_isFree_60 : decode cX6_isFree 60 = .ok (.ireturn, 1) := by decide +kernel
theorem dX6_isFree_61 : decode cX6_isFree 61 = .ok (.iinc 6 1, 3) := by decide +kernel
theorem dX6_isFree_64 : decode cX6_isFree 64 = .ok (.goto (-46), 3) := by decide +kernel
theorem dX6_isFree_67 : decode cX6_isFree 67 = .ok (.iconst 1, 1) := by decide +kernel
theorem dX6_isFree_68 : decode cX6_isFree 68 = .ok (.ireturn, 1) := by decide +kernel
theorem dX6_misfit_0 : decode cX6_misfit 0 = .ok (.aload_n 0, 1) := by decide +kernel
theorem dX6_misfit_1 : decode cX6_misfit 1 = .ok (.ifnull 15, 3) := by decide +kernel
theorem dX6_misfit_4 : decode cX6_misfit 4 = .ok (.aload_n 1, 1) := by decide +kernel
theorem dX6_misfit_5 : decode cX6_misfit 5 = .ok (.ifnull 11, 3) := by decide +kernel
theorem dX6_misfit_8 : decode cX6_misfit 8 = .ok (.aload_n 0, 1) := by decide +kernel
theorem dX6_misfit_9 : decode cX6_misfit 9 = .ok (.aload_n 1, 1) := by decide +kernel
theorem dX6_misfit_10 : decode cX6_misfit 10 = .ok (.invokevirtual 241, 3) := by decide +kernel
theorem dX6_misfit_13 : decode cX6_misfit 13 = .ok (.ifCond .ne 6, 3) := by decide +kernel
theorem dX6_misfit_16 : decode cX6_misfit 16 = .ok (.ldc 138, 2) := by decide +kernel
theorem dX6_misfit_18 : decode cX6_misfit 18 = .ok (.ireturn, 1) := by decide +kernel
theorem dX6_misfit_19 : decode cX6_misfit 19 = .ok (.aload_n 0, 1) := by decide +kernel
theorem dX6_misfit_20 : decode cX6_misfit 20 = .ok (.aload_n 1, 1) := by decide +kernel
theorem dX6_misfit_21 : decode cX6_misfit 21 = .ok (.invokevirtual 247, 3) := by decide +kernel
theorem dX6_misfit_24 : decode cX6_misfit 24 = .ok (.istore_n 2, 1) := by decide +kernel
theorem dX6_misfit_25 : decode cX6_misfit 25 = .ok (.iload_n 2, 1) := by decide +kernel
theorem dX6_misfit_26 : decode cX6_misfit 26 = .ok (.ldc 138, 2) := by decide +kernel
theorem dX6_misfit_28 : decode cX6_misfit 28 = .ok (.if_icmp .ne 8, 3) := by decide +kernel
theorem dX6_misfit_31 : decode cX6_misfit 31 = .ok (.ldc 138, 2) := by decide +kernel
theorem dX6_misfit_33 : decode cX6_misfit 33 = .ok (.goto 7, 3) := by decide +kernel
theorem dX6_misfit_36 : decode cX6_misfit 36 = .ok (.iload_n 2, 1) := by decide +kernel
theorem dX6_misfit_37 : decode cX6_misfit 37 = .ok (.invokestatic 357, 3) := by decide +kernel
theorem dX6_misfit_40 : decode cX6_misfit 40 = .ok (.ireturn, 1) := by decide +kernel
theorem dX6_hoursOn_0 : decode cX6_hoursOn 0 = .ok (.iconst 0, 1) := by decide +kernel
theorem dX6_hoursOn_1 : decode cX6_hoursOn 1 = .ok (.istore_n 2, 1) := by decide +kernel
theorem dX6_hoursOn_2 : decode cX6_hoursOn 2 = .ok (.iconst 0, 1) := by decide +kernel
theorem dX6_hoursOn_3 : decode cX6_hoursOn 3 = .ok (.istore_n 3, 1) := by decide +kernel
theorem dX6_hoursOn_4 : decode cX6_hoursOn 4 = .ok (.iload_n 3, 1) := by decide +kernel
theorem dX6_hoursOn_5 : decode cX6_hoursOn 5 = .ok (.aload_n 0, 1) := by decide +kernel
theorem dX6_hoursOn_6 : decode cX6_hoursOn 6 = .ok (.getfield 29, 3) := by decide +kernel
theorem dX6_hoursOn_9 : decode cX6_hoursOn 9 = .ok (.if_icmp .ge 40, 3) := by decide +kernel
theorem dX6_hoursOn_12 : decode cX6_hoursOn 12 = .ok (.aload_n 0, 1) := by decide +kernel
theorem dX6_hoursOn_13 : decode cX6_hoursOn 13 = .ok (.iload_n 3, 1) := by decide +kernel
theorem dX6_hoursOn_14 : decode cX6_hoursOn 14 = .ok (.invokevirtual 238, 3) := by decide +kernel
theorem dX6_hoursOn_17 : decode cX6_hoursOn 17 = .ok (.astore 4, 2) := by decide +kernel
theorem dX6_hoursOn_19 : decode cX6_hoursOn 19 = .ok (.aload 4, 2) := by decide +kernel
theorem dX6_hoursOn_21 : decode cX6_hoursOn 21 = .ok (.ifnull 22, 3) := by decide +kernel
theorem dX6_hoursOn_24 : decode cX6_hoursOn 24 = .ok (.aload 4, 2) := by decide +kernel
theorem dX6_hoursOn_26 : decode cX6_hoursOn 26 = .ok (.invokevirtual 235, 3) := by decide +kernel
theorem dX6_hoursOn_29 : decode cX6_hoursOn 29 = .ok (.iload_n 1, 1) := by decide +kernel
theorem dX6_hoursOn_30 : decode cX6_hoursOn 30 = .ok (.if_icmp .ne 13, 3) := by decide +kernel
theorem dX6_hoursOn_33 : decode cX6_hoursOn 33 = .ok (.iload_n 2, 1) := by decide +kernel
theorem dX6_hoursOn_34 : decode cX6_hoursOn 34 = .ok (.aload 4, 2) := by decide +kernel
theorem dX6_hoursOn_36 : decode cX6_hoursOn 36 = .ok (.invokevirtual 175, 3) := by decide +kernel
theorem dX6_hoursOn_39 : decode cX6_hoursOn 39 = .ok (.iconst 1, 1) := by decide +kernel
theorem dX6_hoursOn_40 : decode cX6_hoursOn 40 = .ok (.iadd, 1) := by decide +kernel
theorem dX6_hoursOn_41 : decode cX6_hoursOn 41 = .ok (.iadd, 1) := by decide +kernel
theorem dX6_hoursOn_42 : decode cX6_hoursOn 42 = .ok (.istore_n 2, 1) := by decide +kernel
theorem dX6_hoursOn_43 : decode cX6_hoursOn 43 = .ok (.iinc 3 1, 3) := by decide +kernel
theorem dX6_hoursOn_46 : decode cX6_hoursOn 46 = .ok (.goto (-42), 3) := by decide +kernel
theorem dX6_hoursOn_49 : decode cX6_hoursOn 49 = .ok (.iload_n 2, 1) := by decide +kernel
theorem dX6_hoursOn_50 : decode cX6_hoursOn 50 = .ok (.ireturn, 1) := by decide +kernel
theorem dX6_lastDay_0 : decode cX6_lastDay 0 = .ok (.iconst (-1), 1) := by decide +kernel
theorem dX6_lastDay_1 : decode cX6_lastDay 1 = .ok (.istore_n 1, 1) := by decide +kernel
theorem dX6_lastDay_2 : decode cX6_lastDay 2 = .ok (.iconst 0, 1) := by decide +kernel
theorem dX6_lastDay_3 : decode cX6_lastDay 3 = .ok (.istore_n 2, 1) := by decide +kernel
theorem dX6_lastDay_4 : decode cX6_lastDay 4 = .ok (.iload_n 2, 1) := by decide +kernel
theorem dX6_lastDay_5 : decode cX6_lastDay 5 = .ok (.aload_n 0, 1) := by decide +kernel
theorem dX6_lastDay_6 : decode cX6_lastDay 6 = .ok (.getfield 29, 3) := by decide +kernel
theorem dX6_lastDay_9 : decode cX6_lastDay 9 = .ok (.if_icmp .ge 28, 3) := by decide +kernel
theorem dX6_lastDay_12 : decode cX6_lastDay 12 = .ok (.aload_n 0, 1) := by decide +kernel
theorem dX6_lastDay_13 : decode cX6_lastDay 13 = .ok (.iload_n 2, 1) := by decide +kernel
theorem dX6_lastDay_14 : decode cX6_lastDay 14 = .ok (.invokevirtual 238, 3) := by decide +kernel
theorem dX6_lastDay_17 : decode cX6_lastDay 17 = .ok (.astore_n 3, 1) := by decide +kernel
theorem dX6_lastDay_18 : decode cX6_lastDay 18 = .ok (.aload_n 3, 1) := by decide +kernel
theorem dX6_lastDay_19 : decode cX6_lastDay 19 = .ok (.ifnull 12, 3) := by decide +kernel
theorem dX6_lastDay_22 : decode cX6_lastDay 22 = .ok (.iload_n 1, 1) := by decide +kernel
theorem dX6_lastDay_23 : decode cX6_lastDay 23 = .ok (.aload_n 3, 1) := by decide +kernel
theorem dX6_lastDay_24 : decode cX6_lastDay 24 = .ok (.invokevirtual 235, 3) := by decide +kernel
theorem dX6_lastDay_27 : decode cX6_lastDay 27 = .ok (.invokestatic 257, 3) := by decide +kernel
theorem dX6_lastDay_30 : decode cX6_lastDay 30 = .ok (.istore_n 1, 1) := by decide +kernel
theorem dX6_lastDay_31 : decode cX6_lastDay 31 = .ok (.iinc 2 1, 3) := by decide +kernel
theorem dX6_lastDay_34 : decode cX6_lastDay 34 = .ok (.goto (-30), 3) := by decide +kernel
theorem dX6_lastDay_37 : decode cX6_lastDay 37 = .ok (.iload_n 1, 1) := by decide +kernel
theorem dX6_lastDay_38 : decode cX6_lastDay 38 = .ok (.ireturn, 1) := by decide +kernel
theorem dX6_costOf_0 : decode cX6_costOf 0 = .ok (.aload_n 0, 1) := by decide +kernel
theorem dX6_costOf_1 : decode cX6_costOf 1 = .ok (.iload_n 1, 1) := by decide +kernel
theorem dX6_costOf_2 : decode cX6_costOf 2 = .ok (.invokevirtual 264, 3) := by decide +kernel
theorem dX6_costOf_5 : decode cX6_costOf 5 = .ok (.istore_n 2, 1) := by decide +kernel
theorem dX6_costOf_6 : decode cX6_costOf 6 = .ok (.iload_n 2, 1) := by decide +kernel
theorem dX6_costOf_7 : decode cX6_costOf 7 = .ok (.ifCond .le 19, 3) := by decide +kernel
theorem dX6_costOf_10 : decode cX6_costOf 10 = .ok (.sipush 1000, 3) := by decide +kernel
theorem dX6_costOf_13 : decode cX6_costOf 13 = .ok (.bipush 40, 2) := by decide +kernel
theorem dX6_costOf_15 : decode cX6_costOf 15 = .ok (.iconst 0, 1) := by decide +kernel
theorem dX6_costOf_16 : decode cX6_costOf 16 = .ok (.iload_n 2, 1) := by decide +kernel
theorem dX6_costOf_17 : decode cX6_costOf 17 = .ok (.bipush 10, 2) := by decide +kernel
theorem dX6_costOf_19 : decode cX6_costOf 19 = .ok (.isub, 1) := by decide +kernel
theorem dX6_costOf_20 : decode cX6_costOf 20 = .ok (.invokestatic 257, 3) := by decide +kernel
theorem dX6_costOf_23 : decode cX6_costOf 23 = .ok (.imul, 1) := by decide +kernel
theorem dX6_costOf_24 : decode cX6_costOf 24 = .ok (.iadd, 1) := by decide +kernel
theorem dX6_costOf_25 : decode cX6_costOf 25 = .ok (.ireturn, 1) := by decide +kernel
theorem dX6_costOf_26 : decode cX6_costOf 26 = .ok (.aload_n 0, 1) := by decide +kernel
theorem dX6_costOf_27 : decode cX6_costOf 27 = .ok (.getfield 10, 3) := by decide +kernel
theorem dX6_costOf_30 : decode cX6_costOf 30 = .ok (.iload_n 1, 1) := by decide +kernel
theorem dX6_costOf_31 : decode cX6_costOf 31 = .ok (.invokevirtual 315, 3) := by decide +kernel
theorem dX6_costOf_34 : decode cX6_costOf 34 = .ok (.ifCond .eq 9, 3) := by decide +kernel
theorem dX6_costOf_37 : decode cX6_costOf 37 = .ok (.sipush 600, 3) := by decide +kernel
theorem dX6_costOf_40 : decode cX6_costOf 40 = .ok (.goto 6, 3) := by decide +kernel
theorem dX6_costOf_43 : decode cX6_costOf 43 = .ok (.sipush 200, 3) := by decide +kernel
theorem dX6_costOf_46 : decode cX6_costOf 46 = .ok (.ireturn, 1) := by decide +kernel
theorem dX7_init_0 : decode cX7_init 0 = .ok (.aload_n 0, 1) := by decide +kernel
theorem dX7_init_1 : decode cX7_init 1 = .ok (.invokespecial 1, 3) := by decide +kernel
theorem dX7_init_4 : decode cX7_init 4 = .ok (.aload_n 0, 1) := by decide +kernel
theorem dX7_init_5 : decode cX7_init 5 = .ok (.iload_n 1, 1) := by decide +kernel
theorem dX7_init_6 : decode cX7_init 6 = .ok (.ldc 7, 2) := by decide +kernel
theorem dX7_init_8 : decode cX7_init 8 = .ok (.imul, 1) := by decide +kernel
theorem dX7_init_9 : decode cX7_init 9 = .ok (.sipush 12345, 3) := by decide +kernel
theorem dX7_init_12 : decode cX7_init 12 = .ok (.iadd, 1) := by decide +kernel
theorem dX7_init_13 : decode cX7_init 13 = .ok (.putfield 8, 3) := by decide +kernel
theorem dX7_init_16 : decode cX7_init 16 = .ok (.return_, 1) := by decide +kernel
theorem dX7_next_0 : decode cX7_next 0 = .ok (.aload_n 0, 1) := by decide +kernel
theorem dX7_next_1 : decode cX7_next 1 = .ok (.aload_n 0, 1) := by decide +kernel
theorem dX7_next_2 : decode cX7_next 2 = .ok (.getfield 8, 3) := by decide +kernel
theorem dX7_next_5 : decode cX7_next 5 = .ok (.ldc 14, 2) := by decide +kernel
theorem dX7_next_7 : decode cX7_next 7 = .ok (.imul, 1) := by decide +kernel
theorem dX7_next_8 : decode cX7_next 8 = .ok (.sipush 12345, 3) := by decide +kernel
theorem dX7_next_11 : decode cX7_next 11 = .ok (.iadd, 1) := by decide +kernel
theorem dX7_next_12 : decode cX7_next 12 = .ok (.putfield 8, 3) := by decide +kernel
theorem dX7_next_15 : decode cX7_next 15 = .ok (.aload_n 0, 1) := by decide +kernel
theorem dX7_next_16 : decode cX7_next 16 = .ok (.getfield 8, 3) := by decide +kernel
theorem dX7_next_19 : decode cX7_next 19 = .ok (.bipush 16, 2) := by decide +kernel
theorem dX7_next_21 : decode cX7_next 21 = .ok (.iushr, 1) := by decide +kernel
theorem dX7_next_22 : decode cX7_next 22 = .ok (.sipush 32767, 3) := by decide +kernel
theorem dX7_next_25 : decode cX7_next 25 = .ok (.iand, 1) := by decide +kernel
theorem dX7_next_26 : decode cX7_next 26 = .ok (.iconst 1, 1) := by decide +kernel
theorem dX7_next_27 : decode cX7_next 27 = .ok (.iload_n 1, 1) := by decide +kernel
theorem dX7_next_28 : decode cX7_next 28 = .ok (.invokestatic 15, 3) := by decide +kernel
theorem dX7_next_31 : decode cX7_next 31 = .ok (.irem, 1) := by decide +kernel
theorem dX7_next_32 : decode cX7_next 32 = .ok (.ireturn, 1) := by decide +kernel
theorem dJ5_init_d00df_0 : decode cJ5_init_d00df 0 = .ok (.aload_n 0, 1) := by decide +kernel
theorem dJ5_init_d00df_1 : decode cJ5_init_d00df 1 = .ok (.invokespecial 3, 3) := by decide +kernel
theorem dJ5_init_d00df_4 : decode cJ5_init_d00df 4 = .ok (.getstatic 18, 3) := by decide +kernel
theorem dJ5_init_d00df_7 : decode cJ5_init_d00df 7 = .ok (.ifCond .eq 18, 3) := by decide +kernel
theorem dJ5_init_d00df_10 : decode cJ5_init_d00df 10 = .ok (.aload_n 0, 1) := by decide +kernel
theorem dJ5_init_d00df_11 : decode cJ5_init_d00df 11 = .ok (.iload_n 1, 1) := by decide +kernel
theorem dJ5_init_d00df_12 : decode cJ5_init_d00df 12 = .ok (.newarray .byte, 2) := by decide +kernel
theorem dJ5_init_d00df_14 : decode cJ5_init_d00df 14 = .ok (.putfield 15, 3) := by decide +kernel
theorem dJ5_init_d00df_17 : decode cJ5_init_d00df 17 = .ok (.aload_n 0, 1) := by decide +kernel
theorem dJ5_init_d00df_18 : decode cJ5_init_d00df 18 = .ok (.iconst 0, 1) := by decide +kernel
theorem dJ5_init_d00df_19 : decode cJ5_init_d00df 19 = .ok (.putfield 22, 3) := by decide +kernel
theorem dJ5_init_d00df_22 : decode cJ5_init_d00df 22 = .ok (.goto 16, 3) := by decide +kernel
theorem dJ5_init_d00df_25 : decode cJ5_init_d00df 25 = .ok (.aload_n 0, 1) := by decide +kernel
theorem dJ5_init_d00df_26 : decode cJ5_init_d00df 26 = .ok (.iload_n 1, 1) := by decide +kernel
theorem dJ5_init_d00df_27 : decode cJ5_init_d00df 27 = .ok (.invokestatic 26, 3) := by decide +kernel
theorem dJ5_init_d00df_30 : decode cJ5_init_d00df 30 = .ok (.putfield 15, 3) := by decide +kernel
theorem dJ5_init_d00df_33 : decode cJ5_init_d00df 33 = .ok (.aload_n 0, 1) := by decide +kernel
theorem dJ5_init_d00df_34 : decode cJ5_init_d00df 34 = .ok (.iconst 1, 1) := by decide +kernel
theorem dJ5_init_d00df_35 : decode cJ5_init_d00df 35 = .ok (.putfield 22, 3) := by decide +kernel
theorem dJ5_init_d00df_38 : decode cJ5_init_d00df 38 = .ok (.return_, 1) := by decide +kernel
theorem dJ5_length_8abf5_0 : decode cJ5_length_8abf5 0 = .ok (.aload_n 0, 1) := by decide +kernel
theorem dJ5_length_8abf5_1 : decode cJ5_length_8abf5 1 = .ok (.getfield 79, 3) := by decide +kernel
theorem dJ5_length_8abf5_4 : decode cJ5_length_8abf5 4 = .ok (.ireturn, 1) := by decide +kernel
theorem dJ5_ensureCapacityInternal_d00df_0 : decode cJ5_ensureCapacityInternal_d00df 0 = .ok (.aload_n 0, 1) := by decide +kernel
theorem dJ5_ensureCapacityInternal_d00df_1 : decode cJ5_ensureCapacityInternal_d00df 1 = .ok (.getfield 15, 3) := by decide +kernel
theorem dJ5_ensureCapacityInternal_d00df_4 : decode cJ5_ensureCapacityInternal_d00df 4 = .ok (.arraylength, 1) := by decide +kernel
theorem dJ5_ensureCapacityInternal_d00df_5 : decode cJ5_ensureCapacityInternal_d00df 5 = .ok (.aload_n 0, 1) := by decide +kernel
theorem dJ5_ensureCapacityInternal_d00df_6 : decode cJ5_ensureCapacityInternal_d00df 6 = .ok (.getfield 22, 3) := by decide +kernel
theorem dJ5_ensureCapacityInternal_d00df_9 : decode cJ5_ensureCapacityInternal_d00df 9 = .ok (.ishr, 1) := by decide +kernel
theorem dJ5_ensureCapacityInternal_d00df_10 : decode cJ5_ensureCapacityInternal_d00df 10 = .ok (.istore_n 2, 1) := by decide +kernel
theorem dJ5_ensureCapacityInternal_d00df_11 : decode cJ5_ensureCapacityInternal_d00df 11 = .ok (.iload_n 1, 1) := by decide +kernel
theorem dJ5_ensureCapacityInternal_d00df_12 : decode cJ5_ensureCapacityInternal_d00df 12 = .ok (.iload_n 2, 1) := by decide +kernel
theorem dJ5_ensureCapacityInternal_d00df_13 : decode cJ5_ensureCapacityInternal_d00df 13 = .ok (.isub, 1) := by decide +kernel
theorem dJ5_ensureCapacityInternal_d00df_14 : decode cJ5_ensureCapacityInternal_d00df 14 = .ok (.ifCond .le 24, 3) := by decide +kernel
theorem dJ5_ensureCapacityInternal_d00df_17 : decode cJ5_ensureCapacityInternal_d00df 17 = .ok (.aload_n 0, 1) := by decide +kernel
theorem dJ5_ensureCapacityInternal_d00df_18 : decode cJ5_ensureCapacityInternal_d00df 18 = .ok (.aload_n 0, 1) := by decide +kernel
theorem dJ5_ensureCapacityInternal_d00df_19 : decode cJ5_ensureCapacityInternal_d00df 19 = .ok (.getfield 15, 3) := by decide +kernel
theorem dJ5_ensureCapacityInternal_d00df_22 : decode cJ5_ensureCapacityInternal_d00df 22 = .ok (.aload_n 0, 1) := by decide +kernel
theorem dJ5_ensureCapacityInternal_d00df_23 : decode cJ5_ensureCapacityInternal_d00df 23 = .ok (.iload_n 1, 1) := by decide +kernel
theorem dJ5_ensureCapacityInternal_d00df_24 : decode cJ5_ensureCapacityInternal_d00df 24 = .ok (.invokevirtual 104, 3) := by decide +kernel
theorem dJ5_ensureCapacityInternal_d00df_27 : decode cJ5_ensureCapacityInternal_d00df 27 = .ok (.aload_n 0, 1) := by decide +kernel
theorem dJ5_ensureCapacityInternal_d00df_28 : decode cJ5_ensureCapacityInternal_d00df 28 = .ok (.getfield 22, 3) := by decide +kernel
theorem dJ5_ensureCapacityInternal_d00df_31 : decode cJ5_ensureCapacityInternal_d00df 31 = .ok (.ishl, 1) := by decide +kernel
theorem dJ5_ensureCapacityInternal_d00df_32 : decode cJ5_ensureCapacityInternal_d00df 32 = .ok (.invokestatic 108, 3) := by decide +kernel
theorem dJ5_ensureCapacityInternal_d00df_35 : decode cJ5_ensureCapacityInternal_d00df 35 = .ok (.putfield 15, 3) := by decide +kernel
theorem dJ5_ensureCapacityInternal_d00df_38 : decode cJ5_ensureCapacityInternal_d00df 38 = .ok (.return_, 1) := by decide +kernel
theorem dJ5_newCapacity_0f7a4_0 : decode cJ5_newCapacity_0f7a4 0 = .ok (.aload_n 0, 1) := by decide +kernel
theorem dJ5_newCapacity_0f7a4_1 : decode cJ5_newCapacity_0f7a4 1 = .ok (.getfield 15, 3) := by decide +kernel
theorem dJ5_newCapacity_0f7a4_4 : decode cJ5_newCapacity_0f7a4 4 = .ok (.arraylength, 1) := by decide +kernel
theorem dJ5_newCapacity_0f7a4_5 : decode cJ5_newCapacity_0f7a4 5 = .ok (.istore_n 2, 1) := by decide +kernel
theorem dJ5_newCapacity_0f7a4_6 : decode cJ5_newCapacity_0f7a4 6 = .ok (.iload_n 1, 1) := by decide +kernel
theorem dJ5_newCapacity_0f7a4_7 : decode cJ5_newCapacity_0f7a4 7 = .ok (.aload_n 0, 1) := by decide +kernel
theorem dJ5_newCapacity_0f7a4_8 : decode cJ5_newCapacity_0f7a4 8 = .ok (.getfield 22, 3) := by decide +kernel
theorem dJ5_newCapacity_0f7a4_11 : decode cJ5_newCapacity_0f7a4 11 = .ok (.ishl, 1) := by decide +kernel
theorem dJ5_newCapacity_0f7a4_12 : decode cJ5_newCapacity_0f7a4 12 = .ok (.istore_n 3, 1) := by decide +kernel
theorem dJ5_newCapacity_0f7a4_13 : decode cJ5_newCapacity_0f7a4 13 = .ok (.iload_n 3, 1) := by decide +kernel
theorem dJ5_newCapacity_0f7a4_14 : decode cJ5_newCapacity_0f7a4 14 = .ok (.iload_n 2, 1) := by decide +kernel
theorem dJ5_newCapacity_0f7a4_15 : decode cJ5_newCapacity_0f7a4 15 = .ok (.isub, 1) := by decide +kernel
theorem dJ5_newCapacity_0f7a4_16 : decode cJ5_newCapacity_0f7a4 16 = .ok (.istore 4, 2) := by decide +kernel
theorem dJ5_newCapacity_0f7a4_18 : decode cJ5_newCapacity_0f7a4 18 = .ok (.iload_n 2, 1) := by decide +kernel
theorem dJ5_newCapacity_0f7a4_19 : decode cJ5_newCapacity_0f7a4 19 = .ok (.iload 4, 2) := by decide +kernel
theorem dJ5_newCapacity_0f7a4_21 : decode cJ5_newCapacity_0f7a4 21 = .ok (.iload_n 2, 1) := by decide +kernel
theorem dJ5_newCapacity_0f7a4_22 : decode cJ5_newCapacity_0f7a4 22 = .ok (.iconst 2, 1) := by decide +kernel
theorem dJ5_newCapacity_0f7a4_23 : decode cJ5_newCapacity_0f7a4 23 = .ok (.aload_n 0, 1) := by decide +kernel
theorem dJ5_newCapacity_0f7a4_24 : decode cJ5_newCapacity_0f7a4 24 = .ok (.getfield 22, 3) := by decide +kernel
theorem dJ5_newCapacity_0f7a4_27 : decode cJ5_newCapacity_0f7a4 27 = .ok (.ishl, 1) := by decide +kernel
theorem dJ5_newCapacity_0f7a4_28 : decode cJ5_newCapacity_0f7a4 28 = .ok (.iadd, 1) := by decide +kernel
theorem dJ5_newCapacity_0f7a4_29 : decode cJ5_newCapacity_0f7a4 29 = .ok (.invokestatic 114, 3) := by decide +kernel
theorem dJ5_newCapacity_0f7a4_32 : decode cJ5_newCapacity_0f7a4 32 = .ok (.istore 5, 2) := by decide +kernel
theorem dJ5_newCapacity_0f7a4_34 : decode cJ5_newCapacity_0f7a4 34 = .ok (.iload 5, 2) := by decide +kernel
theorem dJ5_newCapacity_0f7a4_36 : decode cJ5_newCapacity_0f7a4 36 = .ok (.ldc 39, 2) := by decide +kernel
theorem dJ5_newCapacity_0f7a4_38 : decode cJ5_newCapacity_0f7a4 38 = .ok (.if_icmp .ne 13, 3) := by decide +kernel
theorem dJ5_newCapacity_0f7a4_41 : decode cJ5_newCapacity_0f7a4 41 = .ok (.new 120, 3) := by decide +kernel
theorem dJ5_newCapacity_0f7a4_44 : decode cJ5_newCapacity_0f7a4 44 = .ok (.dup, 1) := by decide +kernel
theorem dJ5_newCapacity_0f7a4_45 : decode cJ5_newCapacity_0f7a4 45 = .ok (.ldc 122, 2) := by decide +kernel
theorem dJ5_newCapacity_0f7a4_47 : decode cJ5_newCapacity_0f7a4 47 = .ok (.invokespecial 124, 3) := by decide +kernel
theorem dJ5_newCapacity_0f7a4_50 : decode cJ5_newCapacity_0f7a4 50 = .ok (.athrow, 1) := by decide +kernel
theorem dJ5_newCapacity_0f7a4_51 : decode cJ5_newCapacity_0f7a4 51 = .ok (.iload 5, 2) := by decide +kernel
theorem dJ5_newCapacity_0f7a4_53 : decode cJ5_newCapacity_0f7a4 53 = .ok (.aload_n 0, 1) := by decide +kernel
theorem dJ5_newCapacity_0f7a4_54 : decode cJ5_newCapacity_0f7a4 54 = .ok (.getfield 22, 3) := by decide +kernel
theorem dJ5_newCapacity_0f7a4_57 : decode cJ5_newCapacity_0f7a4 57 = .ok (.ishr, 1) := by decide +kernel
theorem dJ5_newCapacity_0f7a4_58 : decode cJ5_newCapacity_0f7a4 58 = .ok (.ireturn, 1) := by decide +kernel
theorem dJ5_inflate_da8c8_0 : decode cJ5_inflate_da8c8 0 = .ok (.aload_n 0, 1) := by decide +kernel
theorem dJ5_inflate_da8c8_1 : decode cJ5_inflate_da8c8 1 = .ok (.invokevirtual 83, 3) := by decide +kernel
theorem dJ5_inflate_da8c8_4 : decode cJ5_inflate_da8c8 4 = .ok (.ifCond .ne 4, 3) := by decide +kernel
theorem dJ5_inflate_da8c8_7 : decode cJ5_inflate_da8c8 7 = .ok (.return_, 1) := by decide +kernel
theorem dJ5_inflate_da8c8_8 : decode cJ5_inflate_da8c8 8 = .ok (.aload_n 0, 1) := by decide +kernel
theorem dJ5_inflate_da8c8_9 : decode cJ5_inflate_da8c8 9 = .ok (.getfield 15, 3) := by decide +kernel
theorem dJ5_inflate_da8c8_12 : decode cJ5_inflate_da8c8 12 = .ok (.arraylength, 1) := by decide +kernel
theorem dJ5_inflate_da8c8_13 : decode cJ5_inflate_da8c8 13 = .ok (.invokestatic 26, 3) := by decide +kernel
theorem dJ5_inflate_da8c8_16 : decode cJ5_inflate_da8c8 16 = .ok (.astore_n 1, 1) := by decide +kernel
theorem dJ5_inflate_da8c8_17 : decode cJ5_inflate_da8c8 17 = .ok (.aload_n 0, 1) := by decide +kernel
theorem dJ5_inflate_da8c8_18 : decode cJ5_inflate_da8c8 18 = .ok (.getfield 15, 3) := by decide +kernel
theorem dJ5_inflate_da8c8_21 : decode cJ5_inflate_da8c8 21 = .ok (.iconst 0, 1) := by decide +kernel
theorem dJ5_inflate_da8c8_22 : decode cJ5_inflate_da8c8 22 = .ok (.aload_n 1, 1) := by decide +kernel
theorem dJ5_inflate_da8c8_23 : decode cJ5_inflate_da8c8 23 = .ok (.iconst 0, 1) := by decide +kernel
theorem dJ5_inflate_da8c8_24 : decode cJ5_inflate_da8c8 24 = .ok (.aload_n 0, 1) := by decide +kernel
theorem dJ5_inflate_da8c8_25 : decode cJ5_inflate_da8c8 25 = .ok (.getfield 79, 3) := by decide +kernel
theorem dJ5_inflate_da8c8_28 : decode cJ5_inflate_da8c8 28 = .ok (.invokestatic 125, 3) := by decide +kernel
theorem dJ5_inflate_da8c8_31 : decode cJ5_inflate_da8c8 31 = .ok (.aload_n 0, 1) := by decide +kernel
theorem dJ5_inflate_da8c8_32 : decode cJ5_inflate_da8c8 32 = .ok (.aload_n 1, 1) := by decide +kernel
theorem dJ5_inflate_da8c8_33 : decode cJ5_inflate_da8c8 33 = .ok (.putfield 15, 3) := by decide +kernel
theorem dJ5_inflate_da8c8_36 : decode cJ5_inflate_da8c8 36 = .ok (.aload_n 0, 1) := by decide +kernel
theorem dJ5_inflate_da8c8_37 : decode cJ5_inflate_da8c8 37 = .ok (.iconst 1, 1) := by decide +kernel
theorem dJ5_inflate_da8c8_38 : decode cJ5_inflate_da8c8 38 = .ok (.putfield 22, 3) := by decide +kernel
theorem dJ5_inflate_da8c8_41 : decode cJ5_inflate_da8c8 41 = .ok (.return_, 1) := by decide +kernel
theorem dJ5_setLength_d00df_0 : decode cJ5_setLength_d00df 0 = .ok (.iload_n 1, 1) := by decide +kernel
theorem dJ5_setLength_d00df_1 : decode cJ5_setLength_d00df 1 = .ok (.ifCond .ge 12, 3) := by decide +kernel
theorem dJ5_setLength_d00df_4 : decode cJ5_setLength_d00df 4 = .ok (.new 129, 3) := by decide +kernel
theorem dJ5_setLength_d00df_7 : decode cJ5_setLength_d00df 7 = .ok (.dup, 1) := by decide +kernel
theorem dJ5_setLength_d00df_8 : decode cJ5_setLength_d00df 8 = .ok (.iload_n 1, 1) := by decide +kernel
theorem dJ5_setLength_d00df_9 : decode cJ5_setLength_d00df 9 = .ok (.invokespecial 131, 3) := by decide +kernel
theorem dJ5_setLength_d00df_12 : decode cJ5_setLength_d00df 12 = .ok (.athrow, 1) := by decide +kernel
theorem dJ5_setLength_d00df_13 : decode cJ5_setLength_d00df 13 = .ok (.aload_n 0, 1) := by decide +kernel
theorem dJ5_setLength_d00df_14 : decode cJ5_setLength_d00df 14 = .ok (.iload_n 1, 1) := by decide +kernel
theorem dJ5_setLength_d00df_15 : decode cJ5_setLength_d00df 15 = .ok (.invokevirtual 100, 3) := by decide +kernel
theorem dJ5_setLength_d00df_18 : decode cJ5_setLength_d00df 18 = .ok (.aload_n 0, 1) := by decide +kernel
theorem dJ5_setLength_d00df_19 : decode cJ5_setLength_d00df 19 = .ok (.getfield 79, 3) := by decide +kernel
theorem dJ5_setLength_d00df_22 : decode cJ5_setLength_d00df 22 = .ok (.iload_n 1, 1) := by decide +kernel
theorem dJ5_setLength_d00df_23 : decode cJ5_setLength_d00df 23 = .ok (.if_icmp .ge 40, 3) := by decide +kernel
theorem dJ5_setLength_d00df_26 : decode cJ5_setLength_d00df 26 = .ok (.aload_n 0, 1) := by decide +kernel
theorem dJ5_setLength_d00df_27 : decode cJ5_setLength_d00df 27 = .ok (.invokevirtual 83, 3) := by decide +kernel
theorem dJ5_setLength_d00df_30 : decode cJ5_setLength_d00df 30 = .ok (.ifCond .eq 18, 3) := by decide +kernel
theorem dJ5_setLength_d00df_33 : decode cJ5_setLength_d00df 33 = .ok (.aload_n 0, 1) := by decide +kernel
theorem dJ5_setLength_d00df_34 : decode cJ5_setLength_d00df 34 = .ok (.getfield 15, 3) := by decide +kernel
theorem dJ5_setLength_d00df_37 : decode cJ5_setLength_d00df 37 = .ok (.aload_n 0, 1) := by decide +kernel
theorem dJ5_setLength_d00df_38 : decode cJ5_setLength_d00df 38 = .ok (.getfield 79, 3) := by decide +kernel
theorem dJ5_setLength_d00df_41 : decode cJ5_setLength_d00df 41 = .ok (.iload_n 1, 1) := by decide +kernel
theorem dJ5_setLength_d00df_42 : decode cJ5_setLength_d00df 42 = .ok (.invokestatic 133, 3) := by decide +kernel
theorem dJ5_setLength_d00df_45 : decode cJ5_setLength_d00df 45 = .ok (.goto 31, 3) := by decide +kernel
theorem dJ5_setLength_d00df_48 : decode cJ5_setLength_d00df 48 = .ok (.aload_n 0, 1) := by decide +kernel
theorem dJ5_setLength_d00df_49 : decode cJ5_setLength_d00df 49 = .ok (.getfield 15, 3) := by decide +kernel
theorem dJ5_setLength_d00df_52 : decode cJ5_setLength_d00df 52 = .ok (.aload_n 0, 1) := by decide +kernel
theorem dJ5_setLength_d00df_53 : decode cJ5_setLength_d00df 53 = .ok (.getfield 79, 3) := by decide +kernel
theorem dJ5_setLength_d00df_56 : decode cJ5_setLength_d00df 56 = .ok (.iload_n 1, 1) := by decide +kernel
theorem dJ5_setLength_d00df_57 : decode cJ5_setLength_d00df 57 = .ok (.invokestatic 137, 3) := by decide +kernel
theorem dJ5_setLength_d00df_60 : decode cJ5_setLength_d00df 60 = .ok (.goto 16, 3) := by decide +kernel
theorem dJ5_setLength_d00df_63 : decode cJ5_setLength_d00df 63 = .ok (.aload_n 0, 1) := by decide +kernel
theorem dJ5_setLength_d00df_64 : decode cJ5_setLength_d00df 64 = .ok (.getfield 79, 3) := by decide +kernel
theorem dJ5_setLength_d00df_67 : decode cJ5_setLength_d00df 67 = .ok (.iload_n 1, 1) := by decide +kernel
theorem dJ5_setLength_d00df_68 : decode cJ5_setLength_d00df 68 = .ok (.if_icmp .le 8, 3) := by decide +kernel
theorem dJ5_setLength_d00df_71 : decode cJ5_setLength_d00df 71 = .ok (.aload_n 0, 1) := by decide +kernel
theorem dJ5_setLength_d00df_72 : decode cJ5_setLength_d00df 72 = .ok (.iconst 1, 1) := by decide +kernel
theorem dJ5_setLength_d00df_73 : decode cJ5_setLength_d00df 73 = .ok (.putfield 73, 3) := by decide +kernel
theorem dJ5_setLength_d00df_76 : decode cJ5_setLength_d00df 76 = .ok (.aload_n 0, 1) := by decide +kernel
theorem dJ5_setLength_d00df_77 : decode cJ5_setLength_d00df 77 = .ok (.iload_n 1, 1) := by decide +kernel
theorem dJ5_setLength_d00df_78 : decode cJ5_setLength_d00df 78 = .ok (.putfield 79, 3) := by decide +kernel
theorem dJ5_setLength_d00df_81 : decode cJ5_setLength_d00df 81 = .ok (.return_, 1) := by decide +kernel
theorem dJ5_charAt_5068e_0 : decode cJ5_charAt_5068e 0 = .ok (.aload_n 0, 1) := by decide +kernel
theorem dJ5_charAt_5068e_1 : decode cJ5_charAt_5068e 1 = .ok (.getfield 22, 3) := by decide +kernel
theorem dJ5_charAt_5068e_4 : decode cJ5_charAt_5068e 4 = .ok (.istore_n 2, 1) := by decide +kernel
theorem dJ5_charAt_5068e_5 : decode cJ5_charAt_5068e 5 = .ok (.aload_n 0, 1) := by decide +kernel
theorem dJ5_charAt_5068e_6 : decode cJ5_charAt_5068e 6 = .ok (.getfield 15, 3) := by decide +kernel
theorem dJ5_charAt_5068e_9 : decode cJ5_charAt_5068e 9 = .ok (.astore_n 3, 1) := by decide +kernel
theorem dJ5_charAt_5068e_10 : decode cJ5_charAt_5068e 10 = .ok (.aload_n 0, 1) := by decide +kernel
theorem dJ5_charAt_5068e_11 : decode cJ5_charAt_5068e 11 = .ok (.getfield 79, 3) := by decide +kernel
theorem dJ5_charAt_5068e_14 : decode cJ5_charAt_5068e 14 = .ok (.aload_n 3, 1) := by decide +kernel
theorem dJ5_charAt_5068e_15 : decode cJ5_charAt_5068e 15 = .ok (.arraylength, 1) := by decide +kernel
theorem dJ5_charAt_5068e_16 : decode cJ5_charAt_5068e 16 = .ok (.iload_n 2, 1) := by decide +kernel
theorem dJ5_charAt_5068e_17 : decode cJ5_charAt_5068e 17 = .ok (.ishr, 1) := by decide +kernel
theorem dJ5_charAt_5068e_18 : decode cJ5_charAt_5068e 18 = .ok (.invokestatic 138, 3) := by decide +kernel
theorem dJ5_charAt_5068e_21 : decode cJ5_charAt_5068e 21 = .ok (.istore 4, 2) := by decide +kernel
theorem dJ5_charAt_5068e_23 : decode cJ5_charAt_5068e 23 = .ok (.iload_n 1, 1) := by decide +kernel
theorem dJ5_charAt_5068e_24 : decode cJ5_charAt_5068e 24 = .ok (.iload 4, 2) := by decide +kernel
theorem dJ5_charAt_5068e_26 : decode cJ5_charAt_5068e 26 = .ok (.invokestatic 144, 3) := by decide +kernel
theorem dJ5_charAt_5068e_29 : decode cJ5_charAt_5068e 29 = .ok (.iload_n 2, 1) := by decide +kernel
theorem dJ5_charAt_5068e_30 : decode cJ5_charAt_5068e 30 = .ok (.ifCond .ne 12, 3) := by decide +kernel
theorem dJ5_charAt_5068e_33 : decode cJ5_charAt_5068e 33 = .ok (.aload_n 3, 1) := by decide +kernel
theorem dJ5_charAt_5068e_34 : decode cJ5_charAt_5068e 34 = .ok (.iload_n 1, 1) := by decide +kernel
theorem dJ5_charAt_5068e_35 : decode cJ5_charAt_5068e 35 = .ok (.baload, 1) := by decide +kernel
theorem dJ5_charAt_5068e_36 : decode cJ5_charAt_5068e 36 = .ok (.sipush 255, 3) := by decide +kernel
theorem dJ5_charAt_5068e_39 : decode cJ5_charAt_5068e 39 = .ok (.iand, 1) := by decide +kernel
theorem dJ5_charAt_5068e_40 : decode cJ5_charAt_5068e 40 = .ok (.i2c, 1) := by decide +kernel
theorem dJ5_charAt_5068e_41 : decode cJ5_charAt_5068e 41 = .ok (.ireturn, 1) := by decide +kernel
theorem dJ5_charAt_5068e_42 : decode cJ5_charAt_5068e 42 = .ok (.aload_n 3, 1) := by decide +kernel
theorem dJ5_charAt_5068e_43 : decode cJ5_charAt_5068e 43 = .ok (.iload_n 1, 1) := by decide +kernel
theorem dJ5_charAt_5068e_44 : decode cJ5_charAt_5068e 44 = .ok (.invokestatic 148, 3) := by decide +kernel
theorem dJ5_charAt_5068e_47 : decode cJ5_charAt_5068e 47 = .ok (.ireturn, 1) := by decide +kernel
theorem dJ5_append_cf1ce_0 : decode cJ5_append_cf1ce 0 = .ok (.aload_n 1, 1) := by decide +kernel
theorem dJ5_append_cf1ce_1 : decode cJ5_append_cf1ce 1 = .ok (.ifnonnull 8, 3) := by decide +kernel
theorem dJ5_append_cf1ce_4 : decode cJ5_append_cf1ce 4 = .ok (.aload_n 0, 1) := by decide +kernel
theorem dJ5_append_cf1ce_5 : decode cJ5_append_cf1ce 5 = .ok (.invokevirtual 204, 3) := by decide +kernel
theorem dJ5_append_cf1ce_8 : decode cJ5_append_cf1ce 8 = .ok (.areturn, 1) := by decide +kernel
theorem dJ5_append_cf1ce_9 : decode cJ5_append_cf1ce 9 = .ok (.aload_n 1, 1) := by decide +kernel
theorem dJ5_append_cf1ce_10 : decode cJ5_append_cf1ce 10 = .ok (.invokevirtual 32, 3) := by decide +kernel
theorem dJ5_append_cf1ce_13 : decode cJ5_append_cf1ce 13 = .ok (.istore_n 2, 1) := by decide +kernel
theorem dJ5_append_cf1ce_14 : decode cJ5_append_cf1ce 14 = .ok (.aload_n 0, 1) := by decide +kernel
theorem dJ5_append_cf1ce_15 : decode cJ5_append_cf1ce 15 = .ok (.aload_n 0, 1) := by decide +kernel
theorem dJ5_append_cf1ce_16 : decode cJ5_append_cf1ce 16 = .ok (.getfield 79, 3) := by decide +kernel
theorem dJ5_append_cf1ce_19 : decode cJ5_append_cf1ce 19 = .ok (.iload_n 2, 1) := by decide +kernel
theorem dJ5_append_cf1ce_20 : decode cJ5_append_cf1ce 20 = .ok (.iadd, 1) := by decide +kernel
theorem dJ5_append_cf1ce_21 : decode cJ5_append_cf1ce 21 = .ok (.invokevirtual 100, 3) := by decide +kernel
theorem dJ5_append_cf1ce_24 : decode cJ5_append_cf1ce 24 = .ok (.aload_n 0, 1) := by decide +kernel
theorem dJ5_append_cf1ce_25 : decode cJ5_append_cf1ce 25 = .ok (.aload_n 0, 1) := by decide +kernel
theorem dJ5_append_cf1ce_26 : decode cJ5_append_cf1ce 26 = .ok (.getfield 79, 3) := by decide +kernel
theorem dJ5_append_cf1ce_29 : decode cJ5_append_cf1ce 29 = .ok (.aload_n 1, 1) := by decide +kernel
theorem dJ5_append_cf1ce_30 : decode cJ5_append_cf1ce 30 = .ok (.invokevirtual 208, 3) := by decide +kernel
theorem dJ5_append_cf1ce_33 : decode cJ5_append_cf1ce 33 = .ok (.aload_n 0, 1) := by decide +kernel
theorem dJ5_append_cf1ce_34 : decode cJ5_append_cf1ce 34 = .ok (.dup, 1) := by decide +kernel
theorem dJ5_append_cf1ce_35 : decode cJ5_append_cf1ce 35 = .ok (.getfield 79, 3) := by decide +kernel
theorem dJ5_append_cf1ce_38 : decode cJ5_append_cf1ce 38 = .ok (.iload_n 2, 1) := by decide +kernel
theorem dJ5_append_cf1ce_39 : decode cJ5_append_cf1ce 39 = .ok (.iadd, 1) := by decide +kernel
theorem dJ5_append_cf1ce_40 : decode cJ5_append_cf1ce 40 = .ok (.putfield 79, 3) := by decide +kernel
theorem dJ5_append_cf1ce_43 : decode cJ5_append_cf1ce 43 = .ok (.aload_n 0, 1) := by decide +kernel
theorem dJ5_append_cf1ce_44 : decode cJ5_append_cf1ce 44 = .ok (.areturn, 1) := by decide +kernel
theorem dJ5_append_2ceeb_0 : decode cJ5_append_2ceeb 0 = .ok (.aload_n 1, 1) := by decide +kernel
theorem dJ5_append_2ceeb_1 : decode cJ5_append_2ceeb 1 = .ok (.ifnonnull 8, 3) := by decide +kernel
theorem dJ5_append_2ceeb_4 : decode cJ5_append_2ceeb 4 = .ok (.aload_n 0, 1) := by decide +kernel
theorem dJ5_append_2ceeb_5 : decode cJ5_append_2ceeb 5 = .ok (.invokevirtual 204, 3) := by decide +kernel
theorem dJ5_append_2ceeb_8 : decode cJ5_append_2ceeb 8 = .ok (.areturn, 1) := by decide +kernel
theorem dJ5_append_2ceeb_9 : decode cJ5_append_2ceeb 9 = .ok (.aload_n 1, 1) := by decide +kernel
theorem dJ5_append_2ceeb_10 : decode cJ5_append_2ceeb 10 = .ok (.invokevirtual 160, 3) := by decide +kernel
theorem dJ5_append_2ceeb_13 : decode cJ5_append_2ceeb 13 = .ok (.istore_n 2, 1) := by decide +kernel
theorem dJ5_append_2ceeb_14 : decode cJ5_append_2ceeb 14 = .ok (.aload_n 0, 1) := by decide +kernel
theorem dJ5_append_2ceeb_15 : decode cJ5_append_2ceeb 15 = .ok (.aload_n 0, 1) := by decide +kernel
theorem dJ5_append_2ceeb_16 : decode cJ5_append_2ceeb 16 = .ok (.getfield 79, 3) := by decide +kernel
theorem dJ5_append_2ceeb_19 : decode cJ5_append_2ceeb 19 = .ok (.iload_n 2, 1) := by decide +kernel
theorem dJ5_append_2ceeb_20 : decode cJ5_append_2ceeb 20 = .ok (.iadd, 1) := by decide +kernel
theorem dJ5_append_2ceeb_21 : decode cJ5_append_2ceeb 21 = .ok (.invokevirtual 100, 3) := by decide +kernel
theorem dJ5_append_2ceeb_24 : decode cJ5_append_2ceeb 24 = .ok (.aload_n 0, 1) := by decide +kernel
theorem dJ5_append_2ceeb_25 : decode cJ5_append_2ceeb 25 = .ok (.aload_n 1, 1) := by decide +kernel
theorem dJ5_append_2ceeb_26 : decode cJ5_append_2ceeb 26 = .ok (.invokevirtual 215, 3) := by decide +kernel
theorem dJ5_append_2ceeb_29 : decode cJ5_append_2ceeb 29 = .ok (.aload_n 1, 1) := by decide +kernel
theorem dJ5_append_2ceeb_30 : decode cJ5_append_2ceeb 30 = .ok (.aload_n 0, 1) := by decide +kernel
theorem dJ5_append_2ceeb_31 : decode cJ5_append_2ceeb 31 = .ok (.getfield 15, 3) := by decide +kernel
theorem dJ5_append_2ceeb_34 : decode cJ5_append_2ceeb 34 = .ok (.aload_n 0, 1) := by decide +kernel
theorem dJ5_append_2ceeb_35 : decode cJ5_append_2ceeb 35 = .ok (.getfield 79, 3) := by decide +kernel
theorem dJ5_append_2ceeb_38 : decode cJ5_append_2ceeb 38 = .ok (.aload_n 0, 1) := by decide +kernel
theorem dJ5_append_2ceeb_39 : decode cJ5_append_2ceeb 39 = .ok (.getfield 22, 3) := by decide +kernel
theorem dJ5_append_2ceeb_42 : decode cJ5_append_2ceeb 42 = .ok (.invokevirtual 219, 3) := by decide +kernel
theorem dJ5_append_2ceeb_45 : decode cJ5_append_2ceeb 45 = .ok (.aload_n 0, 1) := by decide +kernel
theorem dJ5_append_2ceeb_46 : decode cJ5_append_2ceeb 46 = .ok (.dup, 1) := by decide +kernel
theorem dJ5_append_2ceeb_47 : decode cJ5_append_2ceeb 47 = .ok (.getfield 79, 3) := by decide +kernel
theorem dJ5_append_2ceeb_50 : decode cJ5_append_2ceeb 50 = .ok (.iload_n 2, 1) := by decide +kernel
theorem dJ5_append_2ceeb_51 : decode cJ5_append_2ceeb 51 = .ok (.iadd, 1) := by decide +kernel
theorem dJ5_append_2ceeb_52 : decode cJ5_append_2ceeb 52 = .ok (.putfield 79, 3) := by decide +kernel
theorem dJ5_append_2ceeb_55 : decode cJ5_append_2ceeb 55 = .ok (.aload_n 0, 1) := by decide +kernel
theorem dJ5_append_2ceeb_56 : decode cJ5_append_2ceeb 56 = .ok (.dup, 1) := by decide +kernel
theorem dJ5_append_2ceeb_57 : decode cJ5_append_2ceeb 57 = .ok (.getfield 73, 3) := by decide +kernel
theorem dJ5_append_2ceeb_60 : decode cJ5_append_2ceeb 60 = .ok (.aload_n 1, 1) := by decide +kernel
theorem dJ5_append_2ceeb_61 : decode cJ5_append_2ceeb 61 = .ok (.getfield 73, 3) := by decide +kernel
theorem dJ5_append_2ceeb_64 : decode cJ5_append_2ceeb 64 = .ok (.ior, 1) := by decide +kernel
theorem dJ5_append_2ceeb_65 : decode cJ5_append_2ceeb 65 = .ok (.putfield 73, 3) := by decide +kernel
theorem dJ5_append_2ceeb_68 : decode cJ5_append_2ceeb 68 = .ok (.aload_n 0, 1) := by decide +kernel
theorem dJ5_append_2ceeb_69 : decode cJ5_append_2ceeb 69 = .ok (.areturn, 1) := by decide +kernel
theorem dJ5_append_8f9a3_0 : decode cJ5_append_8f9a3 0 = .ok (.aload_n 1, 1) := by decide +kernel
theorem dJ5_append_8f9a3_1 : decode cJ5_append_8f9a3 1 = .ok (.ifnonnull 8, 3) := by decide +kernel
theorem dJ5_append_8f9a3_4 : decode cJ5_append_8f9a3 4 = .ok (.aload_n 0, 1) := by decide +kernel
theorem dJ5_append_8f9a3_5 : decode cJ5_append_8f9a3 5 = .ok (.invokevirtual 204, 3) := by decide +kernel
theorem dJ5_append_8f9a3_8 : decode cJ5_append_8f9a3 8 = .ok (.areturn, 1) := by decide +kernel
theorem dJ5_append_8f9a3_9 : decode cJ5_append_8f9a3 9 = .ok (.aload_n 1, 1) := by decide +kernel
theorem dJ5_append_8f9a3_10 : decode cJ5_append_8f9a3 10 = .ok (.instanceof 1, 3) := by decide +kernel
theorem dJ5_append_8f9a3_13 : decode cJ5_append_8f9a3 13 = .ok (.ifCond .eq 12, 3) := by decide +kernel
theorem dJ5_append_8f9a3_16 : decode cJ5_append_8f9a3 16 = .ok (.aload_n 0, 1) := by decide +kernel
theorem dJ5_append_8f9a3_17 : decode cJ5_append_8f9a3 17 = .ok (.aload_n 1, 1) := by decide +kernel
theorem dJ5_append_8f9a3_18 : decode cJ5_append_8f9a3 18 = .ok (.checkcast 1, 3) := by decide +kernel
theorem dJ5_append_8f9a3_21 : decode cJ5_append_8f9a3 21 = .ok (.invokevirtual 43, 3) := by decide +kernel
theorem dJ5_append_8f9a3_24 : decode cJ5_append_8f9a3 24 = .ok (.areturn, 1) := by decide +kernel
theorem dJ5_append_8f9a3_25 : decode cJ5_append_8f9a3 25 = .ok (.aload_n 1, 1) := by decide +kernel
theorem dJ5_append_8f9a3_26 : decode cJ5_append_8f9a3 26 = .ok (.instanceof 10, 3) := by decide +kernel
theorem dJ5_append_8f9a3_29 : decode cJ5_append_8f9a3 29 = .ok (.ifCond .eq 12, 3) := by decide +kernel
theorem dJ5_append_8f9a3_32 : decode cJ5_append_8f9a3 32 = .ok (.aload_n 0, 1) := by decide +kernel
theorem dJ5_append_8f9a3_33 : decode cJ5_append_8f9a3 33 = .ok (.aload_n 1, 1) := by decide +kernel
theorem dJ5_append_8f9a3_34 : decode cJ5_append_8f9a3 34 = .ok (.checkcast 10, 3) := by decide +kernel
theorem dJ5_append_8f9a3_37 : decode cJ5_append_8f9a3 37 = .ok (.invokevirtual 212, 3) := by decide +kernel
theorem dJ5_append_8f9a3_40 : decode cJ5_append_8f9a3 40 = .ok (.areturn, 1) := by decide +kernel
theorem dJ5_append_8f9a3_41 : decode cJ5_append_8f9a3 41 = .ok (.aload_n 0, 1) := by decide +kernel
theorem dJ5_append_8f9a3_42 : decode cJ5_append_8f9a3 42 = .ok (.aload_n 1, 1) := by decide +kernel
theorem dJ5_append_8f9a3_43 : decode cJ5_append_8f9a3 43 = .ok (.iconst 0, 1) := by decide +kernel
theorem dJ5_append_8f9a3_44 : decode cJ5_append_8f9a3 44 = .ok (.aload_n 1, 1) := by decide +kernel
theorem dJ5_append_8f9a3_45 : decode cJ5_append_8f9a3 45 = .ok (.invokeinterface 47 1, 5) := by decide +kernel
theorem dJ5_append_8f9a3_50 : decode cJ5_append_8f9a3 50 = .ok (.invokevirtual 223, 3) := by decide +kernel
theorem dJ5_append_8f9a3_53 : decode cJ5_append_8f9a3 53 = .ok (.areturn, 1) := by decide +kernel
theorem dJ5_appendNull_278bc_0 : decode cJ5_appendNull_278bc 0 = .ok (.aload_n 0, 1) := by decide +kernel
theorem dJ5_appendNull_278bc_1 : decode cJ5_appendNull_278bc 1 = .ok (.aload_n 0, 1) := by decide +kernel
theorem dJ5_appendNull_278bc_2 : decode cJ5_appendNull_278bc 2 = .ok (.getfield 79, 3) := by decide +kernel
theorem dJ5_appendNull_278bc_5 : decode cJ5_appendNull_278bc 5 = .ok (.iconst 4, 1) := by decide +kernel
theorem dJ5_appendNull_278bc_6 : decode cJ5_appendNull_278bc 6 = .ok (.iadd, 1) := by decide +kernel
theorem dJ5_appendNull_278bc_7 : decode cJ5_appendNull_278bc 7 = .ok (.invokevirtual 100, 3) := by decide +kernel
theorem dJ5_appendNull_278bc_10 : decode cJ5_appendNull_278bc 10 = .ok (.aload_n 0, 1) := by decide +kernel
theorem dJ5_appendNull_278bc_11 : decode cJ5_appendNull_278bc 11 = .ok (.getfield 79, 3) := by decide +kernel
theorem dJ5_appendNull_278bc_14 : decode cJ5_appendNull_278bc 14 = .ok (.istore_n 1, 1) := by decide +kernel
theorem dJ5_appendNull_278bc_15 : decode cJ5_appendNull_278bc 15 = .ok (.aload_n 0, 1) := by decide +kernel
theorem dJ5_appendNull_278bc_16 : decode cJ5_appendNull_278bc 16 = .ok (.getfield 15, 3) := by decide +kernel
theorem dJ5_appendNull_278bc_19 : decode cJ5_appendNull_278bc 19 = .ok (.astore_n 2, 1) := by decide +kernel
theorem dJ5_appendNull_278bc_20 : decode cJ5_appendNull_278bc 20 = .ok (.aload_n 0, 1) := by decide +kernel
theorem dJ5_appendNull_278bc_21 : decode cJ5_appendNull_278bc 21 = .ok (.invokevirtual 83, 3) := by decide +kernel
theorem dJ5_appendNull_278bc_24 : decode cJ5_appendNull_278bc 24 = .ok (.ifCond .eq 38, 3) := by decide +kernel
theorem dJ5_appendNull_278bc_27 : decode cJ5_appendNull_278bc 27 = .ok (.aload_n 2, 1) := by decide +kernel
theorem dJ5_appendNull_278bc_28 : decode cJ5_appendNull_278bc 28 = .ok (.iload_n 1, 1) := by decide +kernel
theorem dJ5_appendNull_278bc_29 : decode cJ5_appendNull_278bc 29 = .ok (.iinc 1 1, 3) := by decide +kernel
theorem dJ5_appendNull_278bc_32 : decode cJ5_appendNull_278bc 32 = .ok (.bipush 110, 2) := by decide +kernel
theorem dJ5_appendNull_278bc_34 : decode cJ5_appendNull_278bc 34 = .ok (.bastore, 1) := by decide +kernel
theorem dJ5_appendNull_278bc_35 : decode cJ5_appendNull_278bc 35 = .ok (.aload_n 2, 1) := by decide +kernel
theorem dJ5_appendNull_278bc_36 : decode cJ5_appendNull_278bc 36 = .ok (.iload_n 1, 1) := by decide +kernel
theorem dJ5_appendNull_278bc_37 : decode cJ5_appendNull_278bc 37 = .ok (.iinc 1 1, 3) := by decide +kernel
theorem dJ5_appendNull_278bc_40 : decode cJ5_appendNull_278bc 40 = .ok (.bipush 117, 2) := by decide +kernel
theorem dJ5_appendNull_278bc_42 : decode cJ5_appendNull_278bc 42 = .ok (.bastore, 1) := by decide +kernel
theorem dJ5_appendNull_278bc_43 : decode cJ5_appendNull_278bc 43 = .ok (.aload_n 2, 1) := by decide +kernel
theorem dJ5_appendNull_278bc_44 : decode cJ5_appendNull_278bc 44 = .ok (.iload_n 1, 1) := by decide +kernel
theorem dJ5_appendNull_278bc_45 : decode cJ5_appendNull_278bc 45 = .ok (.iinc 1 1, 3) := by decide +kernel
theorem dJ5_appendNull_278bc_48 : decode cJ5_appendNull_278bc 48 = .ok (.bipush 108, 2) := by decide +kernel
theorem dJ5_appendNull_278bc_50 : decode cJ5_appendNull_278bc 50 = .ok (.bastore, 1) := by decide +kernel
theorem dJ5_appendNull_278bc_51 : decode cJ5_appendNull_278bc 51 = .ok (.aload_n 2, 1) := by decide +kernel
theorem dJ5_appendNull_278bc_52 : decode cJ5_appendNull_278bc 52 = .ok (.iload_n 1, 1) := by decide +kernel
theorem dJ5_appendNull_278bc_53 : decode cJ5_appendNull_278bc 53 = .ok (.iinc 1 1, 3) := by decide +kernel
theorem dJ5_appendNull_278bc_56 : decode cJ5_appendNull_278bc 56 = .ok (.bipush 108, 2) := by decide +kernel
theorem dJ5_appendNull_278bc_58 : decode cJ5_appendNull_278bc 58 = .ok (.bastore, 1) := by decide +kernel
theorem dJ5_appendNull_278bc_59 : decode cJ5_appendNull_278bc 59 = .ok (.goto 17, 3) := by decide +kernel
theorem dJ5_appendNull_278bc_62 : decode cJ5_appendNull_278bc 62 = .ok (.aload_n 2, 1) := by decide +kernel
theorem dJ5_appendNull_278bc_63 : decode cJ5_appendNull_278bc 63 = .ok (.iload_n 1, 1) := by decide +kernel
theorem dJ5_appendNull_278bc_64 : decode cJ5_appendNull_278bc 64 = .ok (.bipush 110, 2) := by decide +kernel
theorem dJ5_appendNull_278bc_66 : decode cJ5_appendNull_278bc 66 = .ok (.bipush 117, 2) := by decide +kernel
theorem dJ5_appendNull_278bc_68 : decode cJ5_appendNull_278bc 68 = .ok (.bipush 108, 2) := by decide +kernel
theorem dJ5_appendNull_278bc_70 : decode cJ5_appendNull_278bc 70 = .ok (.bipush 108, 2) := by decide +kernel
theorem dJ5_appendNull_278bc_72 : decode cJ5_appendNull_278bc 72 = .ok (.invokestatic 226, 3) := by decide +kernel
theorem dJ5_appendNull_278bc_75 : decode cJ5_appendNull_278bc 75 = .ok (.istore_n 1, 1) := by decide +kernel
theorem dJ5_appendNull_278bc_76 : decode cJ5_appendNull_278bc 76 = .ok (.aload_n 0, 1) := by decide +kernel
theorem dJ5_appendNull_278bc_77 : decode cJ5_appendNull_278bc 77 = .ok (.iload_n 1, 1) := by decide +kernel
theorem dJ5_appendNull_278bc_78 : decode cJ5_appendNull_278bc 78 = .ok (.putfield 79, 3) := by decide +kernel
theorem dJ5_appendNull_278bc_81 : decode cJ5_appendNull_278bc 81 = .ok (.aload_n 0, 1) := by decide +kernel
theorem dJ5_appendNull_278bc_82 : decode cJ5_appendNull_278bc 82 = .ok (.areturn, 1) := by decide +kernel
theorem dJ5_append_e1f22_0 : decode cJ5_append_e1f22 0 = .ok (.aload_n 1, 1) := by decide +kernel
theorem dJ5_append_e1f22_1 : decode cJ5_append_e1f22 1 = .ok (.ifnonnull 6, 3) := by decide +kernel
theorem dJ5_append_e1f22_4 : decode cJ5_append_e1f22 4 = .ok (.ldc 230, 2) := by decide +kernel
theorem dJ5_append_e1f22_6 : decode cJ5_append_e1f22 6 = .ok (.astore_n 1, 1) := by decide +kernel
theorem dJ5_append_e1f22_7 : decode cJ5_append_e1f22 7 = .ok (.iload_n 2, 1) := by decide +kernel
theorem dJ5_append_e1f22_8 : decode cJ5_append_e1f22 8 = .ok (.iload_n 3, 1) := by decide +kernel
theorem dJ5_append_e1f22_9 : decode cJ5_append_e1f22 9 = .ok (.aload_n 1, 1) := by decide +kernel
theorem dJ5_append_e1f22_10 : decode cJ5_append_e1f22 10 = .ok (.invokeinterface 47 1, 5) := by decide +kernel
theorem dJ5_append_e1f22_15 : decode cJ5_append_e1f22 15 = .ok (.getstatic 183, 3) := by decide +kernel
theorem dJ5_append_e1f22_18 : decode cJ5_append_e1f22 18 = .ok (.invokestatic 161, 3) := by decide +kernel
theorem dJ5_append_e1f22_21 : decode cJ5_append_e1f22 21 = .ok (.pop, 1) := by decide +kernel
theorem dJ5_append_e1f22_22 : decode cJ5_append_e1f22 22 = .ok (.iload_n 3, 1) := by decide +kernel
theorem dJ5_append_e1f22_23 : decode cJ5_append_e1f22 23 = .ok (.iload_n 2, 1) := by decide +kernel
theorem dJ5_append_e1f22_24 : decode cJ5_append_e1f22 24 = .ok (.isub, 1) := by decide +kernel
theorem dJ5_append_e1f22_25 : decode cJ5_append_e1f22 25 = .ok (.istore 4, 2) := by decide +kernel
theorem dJ5_append_e1f22_27 : decode cJ5_append_e1f22 27 = .ok (.aload_n 0, 1) := by decide +kernel
theorem dJ5_append_e1f22_28 : decode cJ5_append_e1f22 28 = .ok (.aload_n 0, 1) := by decide +kernel
theorem dJ5_append_e1f22_29 : decode cJ5_append_e1f22 29 = .ok (.getfield 79, 3) := by decide +kernel
theorem dJ5_append_e1f22_32 : decode cJ5_append_e1f22 32 = .ok (.iload 4, 2) := by decide +kernel
theorem dJ5_append_e1f22_34 : decode cJ5_append_e1f22 34 = .ok (.iadd, 1) := by decide +kernel
theorem dJ5_append_e1f22_35 : decode cJ5_append_e1f22 35 = .ok (.invokevirtual 100, 3) := by decide +kernel
theorem dJ5_append_e1f22_38 : decode cJ5_append_e1f22 38 = .ok (.aload_n 1, 1) := by decide +kernel
theorem dJ5_append_e1f22_39 : decode cJ5_append_e1f22 39 = .ok (.instanceof 1, 3) := by decide +kernel
theorem dJ5_append_e1f22_42 : decode cJ5_append_e1f22 42 = .ok (.ifCond .eq 16, 3) := by decide +kernel
theorem dJ5_append_e1f22_45 : decode cJ5_append_e1f22 45 = .ok (.aload_n 0, 1) := by decide +kernel
theorem dJ5_append_e1f22_46 : decode cJ5_append_e1f22 46 = .ok (.aload_n 1, 1) := by decide +kernel
theorem dJ5_append_e1f22_47 : decode cJ5_append_e1f22 47 = .ok (.checkcast 1, 3) := by decide +kernel
theorem dJ5_append_e1f22_50 : decode cJ5_append_e1f22 50 = .ok (.iload_n 2, 1) := by decide +kernel
theorem dJ5_append_e1f22_51 : decode cJ5_append_e1f22 51 = .ok (.iload_n 3, 1) := by decide +kernel
theorem dJ5_append_e1f22_52 : decode cJ5_append_e1f22 52 = .ok (.invokevirtual 232, 3) := by decide +kernel
theorem dJ5_append_e1f22_55 : decode cJ5_append_e1f22 55 = .ok (.goto 10, 3) := by decide +kernel
theorem dJ5_append_e1f22_58 : decode cJ5_append_e1f22 58 = .ok (.aload_n 0, 1) := by decide +kernel
theorem dJ5_append_e1f22_59 : decode cJ5_append_e1f22 59 = .ok (.aload_n 1, 1) := by decide +kernel
theorem dJ5_append_e1f22_60 : decode cJ5_append_e1f22 60 = .ok (.iload_n 2, 1) := by decide +kernel
theorem dJ5_append_e1f22_61 : decode cJ5_append_e1f22 61 = .ok (.iload_n 3, 1) := by decide +kernel
theorem dJ5_append_e1f22_62 : decode cJ5_append_e1f22 62 = .ok (.invokevirtual 236, 3) := by decide +kernel
theorem dJ5_append_e1f22_65 : decode cJ5_append_e1f22 65 = .ok (.aload_n 0, 1) := by decide +kernel
theorem dJ5_append_e1f22_66 : decode cJ5_append_e1f22 66 = .ok (.areturn, 1) := by decide +kernel
theorem dJ5_append_a1634_0 : decode cJ5_append_a1634 0 = .ok (.aload_n 1, 1) := by decide +kernel
theorem dJ5_append_a1634_1 : decode cJ5_append_a1634 1 = .ok (.arraylength, 1) := by decide +kernel
theorem dJ5_append_a1634_2 : decode cJ5_append_a1634 2 = .ok (.istore_n 2, 1) := by decide +kernel
theorem dJ5_append_a1634_3 : decode cJ5_append_a1634 3 = .ok (.aload_n 0, 1) := by decide +kernel
theorem dJ5_append_a1634_4 : decode cJ5_append_a1634 4 = .ok (.aload_n 0, 1) := by decide +kernel
theorem dJ5_append_a1634_5 : decode cJ5_append_a1634 5 = .ok (.getfield 79, 3) := by decide +kernel
theorem dJ5_append_a1634_8 : decode cJ5_append_a1634 8 = .ok (.iload_n 2, 1) := by decide +kernel
theorem dJ5_append_a1634_9 : decode cJ5_append_a1634 9 = .ok (.iadd, 1) := by decide +kernel
theorem dJ5_append_a1634_10 : decode cJ5_append_a1634 10 = .ok (.invokevirtual 100, 3) := by decide +kernel
theorem dJ5_append_a1634_13 : decode cJ5_append_a1634 13 = .ok (.aload_n 0, 1) := by decide +kernel
theorem dJ5_append_a1634_14 : decode cJ5_append_a1634 14 = .ok (.aload_n 1, 1) := by decide +kernel
theorem dJ5_append_a1634_15 : decode cJ5_append_a1634 15 = .ok (.iconst 0, 1) := by decide +kernel
theorem dJ5_append_a1634_16 : decode cJ5_append_a1634 16 = .ok (.iload_n 2, 1) := by decide +kernel
theorem dJ5_append_a1634_17 : decode cJ5_append_a1634 17 = .ok (.invokevirtual 239, 3) := by decide +kernel
theorem dJ5_append_a1634_20 : decode cJ5_append_a1634 20 = .ok (.aload_n 0, 1) := by decide +kernel
theorem dJ5_append_a1634_21 : decode cJ5_append_a1634 21 = .ok (.areturn, 1) := by decide +kernel
theorem dJ5_append_3fe6f_0 : decode cJ5_append_3fe6f 0 = .ok (.aload_n 0, 1) := by decide +kernel
theorem dJ5_append_3fe6f_1 : decode cJ5_append_3fe6f 1 = .ok (.aload_n 0, 1) := by decide +kernel
theorem dJ5_append_3fe6f_2 : decode cJ5_append_3fe6f 2 = .ok (.getfield 79, 3) := by decide +kernel
theorem dJ5_append_3fe6f_5 : decode cJ5_append_3fe6f 5 = .ok (.iconst 1, 1) := by decide +kernel
theorem dJ5_append_3fe6f_6 : decode cJ5_append_3fe6f 6 = .ok (.iadd, 1) := by decide +kernel
theorem dJ5_append_3fe6f_7 : decode cJ5_append_3fe6f 7 = .ok (.invokevirtual 100, 3) := by decide +kernel
theorem dJ5_append_3fe6f_10 : decode cJ5_append_3fe6f 10 = .ok (.aload_n 0, 1) := by decide +kernel
theorem dJ5_append_3fe6f_11 : decode cJ5_append_3fe6f 11 = .ok (.invokevirtual 83, 3) := by decide +kernel
theorem dJ5_append_3fe6f_14 : decode cJ5_append_3fe6f 14 = .ok (.ifCond .eq 31, 3) := by decide +kernel
theorem dJ5_append_3fe6f_17 : decode cJ5_append_3fe6f 17 = .ok (.iload_n 1, 1) := by decide +kernel
theorem dJ5_append_3fe6f_18 : decode cJ5_append_3fe6f 18 = .ok (.invokestatic 191, 3) := by decide +kernel
theorem dJ5_append_3fe6f_21 : decode cJ5_append_3fe6f 21 = .ok (.ifCond .eq 24, 3) := by decide +kernel
theorem dJ5_append_3fe6f_24 : decode cJ5_append_3fe6f 24 = .ok (.aload_n 0, 1) := by decide +kernel
theorem dJ5_append_3fe6f_25 : decode cJ5_append_3fe6f 25 = .ok (.getfield 15, 3) := by decide +kernel
theorem dJ5_append_3fe6f_28 : decode cJ5_append_3fe6f 28 = .ok (.aload_n 0, 1) := by decide +kernel
theorem dJ5_append_3fe6f_29 : decode cJ5_append_3fe6f 29 = .ok (.dup, 1) := by decide +kernel
theorem dJ5_append_3fe6f_30 : decode cJ5_append_3fe6f 30 = .ok (.getfield 79, 3) := by decide +kernel
theorem dJ5_append_3fe6f_33 : decode cJ5_append_3fe6f 33 = .ok (.dup_x1, 1) := by decide +kernel
theorem dJ5_append_3fe6f_34 : decode cJ5_append_3fe6f 34 = .ok (.iconst 1, 1) := by decide +kernel
theorem dJ5_append_3fe6f_35 : decode cJ5_append_3fe6f 35 = .ok (.iadd, 1) := by decide +kernel
theorem dJ5_append_3fe6f_36 : decode cJ5_append_3fe6f 36 = .ok (.putfield 79, 3) := by decide +kernel
theorem dJ5_append_3fe6f_39 : decode cJ5_append_3fe6f 39 = .ok (.iload_n 1, 1) := by decide +kernel
theorem dJ5_append_3fe6f_40 : decode cJ5_append_3fe6f 40 = .ok (.i2b, 1) := by decide +kernel
theorem dJ5_append_3fe6f_41 : decode cJ5_append_3fe6f 41 = .ok (.bastore, 1) := by decide +kernel
theorem dJ5_append_3fe6f_42 : decode cJ5_append_3fe6f 42 = .ok (.goto 33, 3) := by decide +kernel
theorem dJ5_append_3fe6f_45 : decode cJ5_append_3fe6f 45 = .ok (.aload_n 0, 1) := by decide +kernel
theorem dJ5_append_3fe6f_46 : decode cJ5_append_3fe6f 46 = .ok (.invokevirtual 83, 3) := by decide +kernel
theorem dJ5_append_3fe6f_49 : decode cJ5_append_3fe6f 49 = .ok (.ifCond .eq 7, 3) := by decide +kernel
theorem dJ5_append_3fe6f_52 : decode cJ5_append_3fe6f 52 = .ok (.aload_n 0, 1) := by decide +kernel
theorem dJ5_append_3fe6f_53 : decode cJ5_append_3fe6f 53 = .ok (.invokevirtual 195, 3) := by decide +kernel
theorem dJ5_append_3fe6f_56 : decode cJ5_append_3fe6f 56 = .ok (.aload_n 0, 1) := by decide +kernel
theorem dJ5_append_3fe6f_57 : decode cJ5_append_3fe6f 57 = .ok (.getfield 15, 3) := by decide +kernel
theorem dJ5_append_3fe6f_60 : decode cJ5_append_3fe6f 60 = .ok (.aload_n 0, 1) := by decide +kernel
theorem dJ5_append_3fe6f_61 : decode cJ5_append_3fe6f 61 = .ok (.dup, 1) := by decide +kernel
theorem dJ5_append_3fe6f_62 : decode cJ5_append_3fe6f 62 = .ok (.getfield 79, 3) := by decide +kernel
theorem dJ5_append_3fe6f_65 : decode cJ5_append_3fe6f 65 = .ok (.dup_x1, 1) := by decide +kernel
theorem dJ5_append_3fe6f_66 : decode cJ5_append_3fe6f 66 = .ok (.iconst 1, 1) := by decide +kernel
theorem dJ5_append_3fe6f_67 : decode cJ5_append_3fe6f 67 = .ok (.iadd, 1) := by decide +kernel
theorem dJ5_append_3fe6f_68 : decode cJ5_append_3fe6f 68 = .ok (.putfield 79, 3) := by decide +kernel
theorem dJ5_append_3fe6f_71 : decode cJ5_append_3fe6f 71 = .ok (.iload_n 1, 1) := by decide +kernel
theorem dJ5_append_3fe6f_72 : decode cJ5_append_3fe6f 72 = .ok (.invokestatic 197, 3) := by decide +kernel
theorem dJ5_append_3fe6f_75 : decode cJ5_append_3fe6f 75 = .ok (.aload_n 0, 1) := by decide +kernel
theorem dJ5_append_3fe6f_76 : decode cJ5_append_3fe6f 76 = .ok (.areturn, 1) := by decide +kernel
theorem dJ5_append_c97b9_0 : decode cJ5_append_c97b9 0 = .ok (.aload_n 0, 1) := by decide +kernel
theorem dJ5_append_c97b9_1 : decode cJ5_append_c97b9 1 = .ok (.getfield 79, 3) := by decide +kernel
theorem dJ5_append_c97b9_4 : decode cJ5_append_c97b9 4 = .ok (.istore_n 2, 1) := by decide +kernel
theorem dJ5_append_c97b9_5 : decode cJ5_append_c97b9 5 = .ok (.iload_n 2, 1) := by decide +kernel
theorem dJ5_append_c97b9_6 : decode cJ5_append_c97b9 6 = .ok (.iload_n 1, 1) := by decide +kernel
theorem dJ5_append_c97b9_7 : decode cJ5_append_c97b9 7 = .ok (.invokestatic 245, 3) := by decide +kernel
theorem dJ5_append_c97b9_10 : decode cJ5_append_c97b9 10 = .ok (.iadd, 1) := by decide +kernel
theorem dJ5_append_c97b9_11 : decode cJ5_append_c97b9 11 = .ok (.istore_n 3, 1) := by decide +kernel
theorem dJ5_append_c97b9_12 : decode cJ5_append_c97b9 12 = .ok (.aload_n 0, 1) := by decide +kernel
theorem dJ5_append_c97b9_13 : decode cJ5_append_c97b9 13 = .ok (.iload_n 3, 1) := by decide +kernel
theorem dJ5_append_c97b9_14 : decode cJ5_append_c97b9 14 = .ok (.invokevirtual 100, 3) := by decide +kernel
theorem dJ5_append_c97b9_17 : decode cJ5_append_c97b9 17 = .ok (.aload_n 0, 1) := by decide +kernel
