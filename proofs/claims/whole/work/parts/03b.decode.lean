theorem dX6_addGauge_53 : decode cX6_addGauge 53 = .ok (.istore_n 2, 1) := by decide +kernel
theorem dX6_addGauge_54 : decode cX6_addGauge 54 = .ok (.aload_n 0, 1) := by decide +kernel
theorem dX6_addGauge_55 : decode cX6_addGauge 55 = .ok (.invokevirtual 70, 3) := by decide +kernel
theorem dX6_addGauge_58 : decode cX6_addGauge 58 = .ok (.iload_n 2, 1) := by decide +kernel
theorem dX6_addGauge_59 : decode cX6_addGauge 59 = .ok (.ireturn, 1) := by decide +kernel
theorem dX6_fail_0 : decode cX6_fail 0 = .ok (.aload_n 0, 1) := by decide +kernel
theorem dX6_fail_1 : decode cX6_fail 1 = .ok (.iload_n 1, 1) := by decide +kernel
theorem dX6_fail_2 : decode cX6_fail 2 = .ok (.invokevirtual 116, 3) := by decide +kernel
theorem dX6_fail_5 : decode cX6_fail 5 = .ok (.astore 5, 2) := by decide +kernel
theorem dX6_fail_7 : decode cX6_fail 7 = .ok (.iload_n 2, 1) := by decide +kernel
theorem dX6_fail_8 : decode cX6_fail 8 = .ok (.iload_n 3, 1) := by decide +kernel
theorem dX6_fail_9 : decode cX6_fail 9 = .ok (.invokestatic 62, 3) := by decide +kernel
theorem dX6_fail_12 : decode cX6_fail 12 = .ok (.iload 4, 2) := by decide +kernel
theorem dX6_fail_14 : decode cX6_fail 14 = .ok (.iload_n 3, 1) := by decide +kernel
theorem dX6_fail_15 : decode cX6_fail 15 = .ok (.if_icmp .le 10, 3) := by decide +kernel
theorem dX6_fail_18 : decode cX6_fail 18 = .ok (.iload 4, 2) := by decide +kernel
theorem dX6_fail_20 : decode cX6_fail 20 = .ok (.bipush 24, 2) := by decide +kernel
theorem dX6_fail_22 : decode cX6_fail 22 = .ok (.if_icmp .le 13, 3) := by decide +kernel
theorem dX6_fail_25 : decode cX6_fail 25 = .ok (.new 51, 3) := by decide +kernel
theorem dX6_fail_28 : decode cX6_fail 28 = .ok (.dup, 1) := by decide +kernel
theorem dX6_fail_29 : decode cX6_fail 29 = .ok (.ldc 120, 2) := by decide +kernel
theorem dX6_fail_31 : decode cX6_fail 31 = .ok (.invokespecial 55, 3) := by decide +kernel
theorem dX6_fail_34 : decode cX6_fail 34 = .ok (.athrow, 1) := by decide +kernel
theorem dX6_fail_35 : decode cX6_fail 35 = .ok (.aload 5, 2) := by decide +kernel
theorem dX6_fail_37 : decode cX6_fail 37 = .ok (.iload_n 2, 1) := by decide +kernel
theorem dX6_fail_38 : decode cX6_fail 38 = .ok (.iload_n 3, 1) := by decide +kernel
theorem dX6_fail_39 : decode cX6_fail 39 = .ok (.iload 4, 2) := by decide +kernel
theorem dX6_fail_41 : decode cX6_fail 41 = .ok (.invokevirtual 122, 3) := by decide +kernel
theorem dX6_fail_44 : decode cX6_fail 44 = .ok (.aload_n 0, 1) := by decide +kernel
theorem dX6_fail_45 : decode cX6_fail 45 = .ok (.invokevirtual 70, 3) := by decide +kernel
theorem dX6_fail_48 : decode cX6_fail 48 = .ok (.bipush 24, 2) := by decide +kernel
theorem dX6_fail_50 : decode cX6_fail 50 = .ok (.aload 5, 2) := by decide +kernel
theorem dX6_fail_52 : decode cX6_fail 52 = .ok (.iload_n 2, 1) := by decide +kernel
theorem dX6_fail_53 : decode cX6_fail 53 = .ok (.invokevirtual 128, 3) := by decide +kernel
theorem dX6_fail_56 : decode cX6_fail 56 = .ok (.isub, 1) := by decide +kernel
theorem dX6_fail_57 : decode cX6_fail 57 = .ok (.ireturn, 1) := by decide +kernel
theorem dX6_mend_0 : decode cX6_mend 0 = .ok (.aload_n 0, 1) := by decide +kernel
theorem dX6_mend_1 : decode cX6_mend 1 = .ok (.iload_n 1, 1) := by decide +kernel
theorem dX6_mend_2 : decode cX6_mend 2 = .ok (.invokevirtual 116, 3) := by decide +kernel
theorem dX6_mend_5 : decode cX6_mend 5 = .ok (.astore_n 3, 1) := by decide +kernel
theorem dX6_mend_6 : decode cX6_mend 6 = .ok (.iload_n 2, 1) := by decide +kernel
theorem dX6_mend_7 : decode cX6_mend 7 = .ok (.invokestatic 73, 3) := by decide +kernel
theorem dX6_mend_10 : decode cX6_mend 10 = .ok (.aload_n 3, 1) := by decide +kernel
theorem dX6_mend_11 : decode cX6_mend 11 = .ok (.iload_n 2, 1) := by decide +kernel
theorem dX6_mend_12 : decode cX6_mend 12 = .ok (.invokevirtual 128, 3) := by decide +kernel
theorem dX6_mend_15 : decode cX6_mend 15 = .ok (.istore 4, 2) := by decide +kernel
theorem dX6_mend_17 : decode cX6_mend 17 = .ok (.aload_n 3, 1) := by decide +kernel
theorem dX6_mend_18 : decode cX6_mend 18 = .ok (.iload_n 2, 1) := by decide +kernel
theorem dX6_mend_19 : decode cX6_mend 19 = .ok (.invokevirtual 131, 3) := by decide +kernel
theorem dX6_mend_22 : decode cX6_mend 22 = .ok (.aload_n 0, 1) := by decide +kernel
theorem dX6_mend_23 : decode cX6_mend 23 = .ok (.invokevirtual 70, 3) := by decide +kernel
theorem dX6_mend_26 : decode cX6_mend 26 = .ok (.iload 4, 2) := by decide +kernel
theorem dX6_mend_28 : decode cX6_mend 28 = .ok (.ireturn, 1) := by decide +kernel
theorem dX6_told_0 : decode cX6_told 0 = .ok (.aload_n 0, 1) := by decide +kernel
theorem dX6_told_1 : decode cX6_told 1 = .ok (.iload_n 1, 1) := by decide +kernel
theorem dX6_told_2 : decode cX6_told 2 = .ok (.invokevirtual 116, 3) := by decide +kernel
theorem dX6_told_5 : decode cX6_told 5 = .ok (.astore 4, 2) := by decide +kernel
theorem dX6_told_7 : decode cX6_told 7 = .ok (.iload_n 2, 1) := by decide +kernel
theorem dX6_told_8 : decode cX6_told 8 = .ok (.iload_n 3, 1) := by decide +kernel
theorem dX6_told_9 : decode cX6_told 9 = .ok (.invokestatic 62, 3) := by decide +kernel
theorem dX6_told_12 : decode cX6_told 12 = .ok (.aload 4, 2) := by decide +kernel
theorem dX6_told_14 : decode cX6_told 14 = .ok (.aload_n 0, 1) := by decide +kernel
theorem dX6_told_15 : decode cX6_told 15 = .ok (.getfield 10, 3) := by decide +kernel
theorem dX6_told_18 : decode cX6_told 18 = .ok (.iload_n 2, 1) := by decide +kernel
theorem dX6_told_19 : decode cX6_told 19 = .ok (.iload_n 3, 1) := by decide +kernel
theorem dX6_told_20 : decode cX6_told 20 = .ok (.invokevirtual 134, 3) := by decide +kernel
theorem dX6_told_23 : decode cX6_told 23 = .ok (.istore 5, 2) := by decide +kernel
theorem dX6_told_25 : decode cX6_told 25 = .ok (.iload 5, 2) := by decide +kernel
theorem dX6_told_27 : decode cX6_told 27 = .ok (.ldc 138, 2) := by decide +kernel
theorem dX6_told_29 : decode cX6_told 29 = .ok (.if_icmp .ne 13, 3) := by decide +kernel
theorem dX6_told_32 : decode cX6_told 32 = .ok (.new 98, 3) := by decide +kernel
theorem dX6_told_35 : decode cX6_told 35 = .ok (.dup, 1) := by decide +kernel
theorem dX6_told_36 : decode cX6_told 36 = .ok (.ldc 139, 2) := by decide +kernel
theorem dX6_told_38 : decode cX6_told 38 = .ok (.invokespecial 102, 3) := by decide +kernel
theorem dX6_told_41 : decode cX6_told 41 = .ok (.athrow, 1) := by decide +kernel
theorem dX6_told_42 : decode cX6_told 42 = .ok (.iload 5, 2) := by decide +kernel
theorem dX6_told_44 : decode cX6_told 44 = .ok (.ireturn, 1) := by decide +kernel
theorem dX6_tide_0 : decode cX6_tide 0 = .ok (.iload_n 1, 1) := by decide +kernel
theorem dX6_tide_1 : decode cX6_tide 1 = .ok (.invokestatic 83, 3) := by decide +kernel
theorem dX6_tide_4 : decode cX6_tide 4 = .ok (.iload_n 2, 1) := by decide +kernel
theorem dX6_tide_5 : decode cX6_tide 5 = .ok (.iload_n 3, 1) := by decide +kernel
theorem dX6_tide_6 : decode cX6_tide 6 = .ok (.invokestatic 62, 3) := by decide +kernel
theorem dX6_tide_9 : decode cX6_tide 9 = .ok (.aload_n 0, 1) := by decide +kernel
theorem dX6_tide_10 : decode cX6_tide 10 = .ok (.getfield 19, 3) := by decide +kernel
theorem dX6_tide_13 : decode cX6_tide 13 = .ok (.aload_n 0, 1) := by decide +kernel
theorem dX6_tide_14 : decode cX6_tide 14 = .ok (.getfield 10, 3) := by decide +kernel
theorem dX6_tide_17 : decode cX6_tide 17 = .ok (.iload_n 1, 1) := by decide +kernel
theorem dX6_tide_18 : decode cX6_tide 18 = .ok (.iload_n 2, 1) := by decide +kernel
theorem dX6_tide_19 : decode cX6_tide 19 = .ok (.iload_n 3, 1) := by decide +kernel
theorem dX6_tide_20 : decode cX6_tide 20 = .ok (.invokevirtual 141, 3) := by decide +kernel
theorem dX6_tide_23 : decode cX6_tide 23 = .ok (.istore 4, 2) := by decide +kernel
theorem dX6_tide_25 : decode cX6_tide 25 = .ok (.iload 4, 2) := by decide +kernel
theorem dX6_tide_27 : decode cX6_tide 27 = .ok (.ldc 138, 2) := by decide +kernel
theorem dX6_tide_29 : decode cX6_tide 29 = .ok (.if_icmp .ne 13, 3) := by decide +kernel
theorem dX6_tide_32 : decode cX6_tide 32 = .ok (.new 98, 3) := by decide +kernel
theorem dX6_tide_35 : decode cX6_tide 35 = .ok (.dup, 1) := by decide +kernel
theorem dX6_tide_36 : decode cX6_tide 36 = .ok (.ldc 145, 2) := by decide +kernel
theorem dX6_tide_38 : decode cX6_tide 38 = .ok (.invokespecial 102, 3) := by decide +kernel
theorem dX6_tide_41 : decode cX6_tide 41 = .ok (.athrow, 1) := by decide +kernel
theorem dX6_tide_42 : decode cX6_tide 42 = .ok (.iload 4, 2) := by decide +kernel
theorem dX6_tide_44 : decode cX6_tide 44 = .ok (.ireturn, 1) := by decide +kernel
theorem dX6_run_0 : decode cX6_run 0 = .ok (.iload_n 1, 1) := by decide +kernel
theorem dX6_run_1 : decode cX6_run 1 = .ok (.bipush 114, 2) := by decide +kernel
theorem dX6_run_3 : decode cX6_run 3 = .ok (.if_icmp .eq 19, 3) := by decide +kernel
theorem dX6_run_6 : decode cX6_run 6 = .ok (.iload_n 1, 1) := by decide +kernel
theorem dX6_run_7 : decode cX6_run 7 = .ok (.bipush 99, 2) := by decide +kernel
theorem dX6_run_9 : decode cX6_run 9 = .ok (.if_icmp .eq 13, 3) := by decide +kernel
theorem dX6_run_12 : decode cX6_run 12 = .ok (.new 51, 3) := by decide +kernel
theorem dX6_run_15 : decode cX6_run 15 = .ok (.dup, 1) := by decide +kernel
theorem dX6_run_16 : decode cX6_run 16 = .ok (.ldc 147, 2) := by decide +kernel
theorem dX6_run_18 : decode cX6_run 18 = .ok (.invokespecial 55, 3) := by decide +kernel
theorem dX6_run_21 : decode cX6_run 21 = .ok (.athrow, 1) := by decide +kernel
theorem dX6_run_22 : decode cX6_run 22 = .ok (.iload_n 1, 1) := by decide +kernel
theorem dX6_run_23 : decode cX6_run 23 = .ok (.bipush 114, 2) := by decide +kernel
theorem dX6_run_25 : decode cX6_run 25 = .ok (.if_icmp .ne 7, 3) := by decide +kernel
theorem dX6_run_28 : decode cX6_run 28 = .ok (.iconst 1, 1) := by decide +kernel
theorem dX6_run_29 : decode cX6_run 29 = .ok (.goto 4, 3) := by decide +kernel
theorem dX6_run_32 : decode cX6_run 32 = .ok (.iconst 0, 1) := by decide +kernel
theorem dX6_run_33 : decode cX6_run 33 = .ok (.istore 7, 2) := by decide +kernel
theorem dX6_run_35 : decode cX6_run 35 = .ok (.iload 7, 2) := by decide +kernel
theorem dX6_run_37 : decode cX6_run 37 = .ok (.iload_n 2, 1) := by decide +kernel
theorem dX6_run_38 : decode cX6_run 38 = .ok (.iload_n 3, 1) := by decide +kernel
theorem dX6_run_39 : decode cX6_run 39 = .ok (.iload 4, 2) := by decide +kernel
theorem dX6_run_41 : decode cX6_run 41 = .ok (.invokestatic 149, 3) := by decide +kernel
theorem dX6_run_44 : decode cX6_run 44 = .ok (.iload 5, 2) := by decide +kernel
theorem dX6_run_46 : decode cX6_run 46 = .ok (.iload 6, 2) := by decide +kernel
theorem dX6_run_48 : decode cX6_run 48 = .ok (.invokestatic 62, 3) := by decide +kernel
theorem dX6_run_51 : decode cX6_run 51 = .ok (.aload_n 0, 1) := by decide +kernel
theorem dX6_run_52 : decode cX6_run 52 = .ok (.iload 5, 2) := by decide +kernel
theorem dX6_run_54 : decode cX6_run 54 = .ok (.invokevirtual 153, 3) := by decide +kernel
theorem dX6_run_57 : decode cX6_run 57 = .ok (.aload_n 0, 1) := by decide +kernel
theorem dX6_run_58 : decode cX6_run 58 = .ok (.getfield 29, 3) := by decide +kernel
theorem dX6_run_61 : decode cX6_run 61 = .ok (.istore 8, 2) := by decide +kernel
theorem dX6_run_63 : decode cX6_run 63 = .ok (.iload 8, 2) := by decide +kernel
theorem dX6_run_65 : decode cX6_run 65 = .ok (.ifCond .lt 31, 3) := by decide +kernel
theorem dX6_run_68 : decode cX6_run 68 = .ok (.iload 8, 2) := by decide +kernel
theorem dX6_run_70 : decode cX6_run 70 = .ok (.aload_n 0, 1) := by decide +kernel
theorem dX6_run_71 : decode cX6_run 71 = .ok (.getfield 25, 3) := by decide +kernel
theorem dX6_run_74 : decode cX6_run 74 = .ok (.arraylength, 1) := by decide +kernel
theorem dX6_run_75 : decode cX6_run 75 = .ok (.if_icmp .ge 21, 3) := by decide +kernel
theorem dX6_run_78 : decode cX6_run 78 = .ok (.aload_n 0, 1) := by decide +kernel
theorem dX6_run_79 : decode cX6_run 79 = .ok (.aconst_null, 1) := by decide +kernel
theorem dX6_run_80 : decode cX6_run 80 = .ok (.iload_n 3, 1) := by decide +kernel
theorem dX6_run_81 : decode cX6_run 81 = .ok (.iload 4, 2) := by decide +kernel
theorem dX6_run_83 : decode cX6_run 83 = .ok (.invokestatic 156, 3) := by decide +kernel
theorem dX6_run_86 : decode cX6_run 86 = .ok (.iload 5, 2) := by decide +kernel
theorem dX6_run_88 : decode cX6_run 88 = .ok (.iload 6, 2) := by decide +kernel
theorem dX6_run_90 : decode cX6_run 90 = .ok (.invokevirtual 159, 3) := by decide +kernel
theorem dX6_run_93 : decode cX6_run 93 = .ok (.ifCond .ne 13, 3) := by decide +kernel
theorem dX6_run_96 : decode cX6_run 96 = .ok (.new 107, 3) := by decide +kernel
theorem dX6_run_99 : decode cX6_run 99 = .ok (.dup, 1) := by decide +kernel
theorem dX6_run_100 : decode cX6_run 100 = .ok (.ldc 163, 2) := by decide +kernel
theorem dX6_run_102 : decode cX6_run 102 = .ok (.invokespecial 111, 3) := by decide +kernel
theorem dX6_run_105 : decode cX6_run 105 = .ok (.athrow, 1) := by decide +kernel
theorem dX6_run_106 : decode cX6_run 106 = .ok (.new 23, 3) := by decide +kernel
theorem dX6_run_109 : decode cX6_run 109 = .ok (.dup, 1) := by decide +kernel
theorem dX6_run_110 : decode cX6_run 110 = .ok (.iload 7, 2) := by decide +kernel
theorem dX6_run_112 : decode cX6_run 112 = .ok (.iload_n 2, 1) := by decide +kernel
theorem dX6_run_113 : decode cX6_run 113 = .ok (.iload_n 3, 1) := by decide +kernel
theorem dX6_run_114 : decode cX6_run 114 = .ok (.iload 4, 2) := by decide +kernel
theorem dX6_run_116 : decode cX6_run 116 = .ok (.invokespecial 165, 3) := by decide +kernel
theorem dX6_run_119 : decode cX6_run 119 = .ok (.astore 9, 2) := by decide +kernel
theorem dX6_run_121 : decode cX6_run 121 = .ok (.aload_n 0, 1) := by decide +kernel
theorem dX6_run_122 : decode cX6_run 122 = .ok (.getfield 25, 3) := by decide +kernel
theorem dX6_run_125 : decode cX6_run 125 = .ok (.iload 8, 2) := by decide +kernel
theorem dX6_run_127 : decode cX6_run 127 = .ok (.aload 9, 2) := by decide +kernel
theorem dX6_run_129 : decode cX6_run 129 = .ok (.aastore, 1) := by decide +kernel
theorem dX6_run_130 : decode cX6_run 130 = .ok (.aload_n 0, 1) := by decide +kernel
theorem dX6_run_131 : decode cX6_run 131 = .ok (.iload 8, 2) := by decide +kernel
theorem dX6_run_133 : decode cX6_run 133 = .ok (.iconst 1, 1) := by decide +kernel
theorem dX6_run_134 : decode cX6_run 134 = .ok (.iadd, 1) := by decide +kernel
theorem dX6_run_135 : decode cX6_run 135 = .ok (.putfield 29, 3) := by decide +kernel
theorem dX6_run_138 : decode cX6_run 138 = .ok (.aload 9, 2) := by decide +kernel
theorem dX6_run_140 : decode cX6_run 140 = .ok (.aload_n 0, 1) := by decide +kernel
theorem dX6_run_141 : decode cX6_run 141 = .ok (.getfield 10, 3) := by decide +kernel
theorem dX6_run_144 : decode cX6_run 144 = .ok (.iload 5, 2) := by decide +kernel
theorem dX6_run_146 : decode cX6_run 146 = .ok (.iload 6, 2) := by decide +kernel
theorem dX6_run_148 : decode cX6_run 148 = .ok (.invokevirtual 167, 3) := by decide +kernel
theorem dX6_run_151 : decode cX6_run 151 = .ok (.aload_n 0, 1) := by decide +kernel
theorem dX6_run_152 : decode cX6_run 152 = .ok (.invokevirtual 70, 3) := by decide +kernel
theorem dX6_run_155 : decode cX6_run 155 = .ok (.iload 8, 2) := by decide +kernel
theorem dX6_run_157 : decode cX6_run 157 = .ok (.ireturn, 1) := by decide +kernel
theorem dX6_runAnew_0 : decode cX6_runAnew 0 = .ok (.aload_n 0, 1) := by decide +kernel
theorem dX6_runAnew_1 : decode cX6_runAnew 1 = .ok (.iload_n 1, 1) := by decide +kernel
theorem dX6_runAnew_2 : decode cX6_runAnew 2 = .ok (.invokevirtual 171, 3) := by decide +kernel
theorem dX6_runAnew_5 : decode cX6_runAnew 5 = .ok (.astore 4, 2) := by decide +kernel
theorem dX6_runAnew_7 : decode cX6_runAnew 7 = .ok (.iload_n 2, 1) := by decide +kernel
theorem dX6_runAnew_8 : decode cX6_runAnew 8 = .ok (.iload_n 3, 1) := by decide +kernel
theorem dX6_runAnew_9 : decode cX6_runAnew 9 = .ok (.invokestatic 62, 3) := by decide +kernel
theorem dX6_runAnew_12 : decode cX6_runAnew 12 = .ok (.aload_n 0, 1) := by decide +kernel
theorem dX6_runAnew_13 : decode cX6_runAnew 13 = .ok (.iload_n 2, 1) := by decide +kernel
theorem dX6_runAnew_14 : decode cX6_runAnew 14 = .ok (.invokevirtual 153, 3) := by decide +kernel
theorem dX6_runAnew_17 : decode cX6_runAnew 17 = .ok (.aload_n 0, 1) := by decide +kernel
theorem dX6_runAnew_18 : decode cX6_runAnew 18 = .ok (.aload 4, 2) := by decide +kernel
theorem dX6_runAnew_20 : decode cX6_runAnew 20 = .ok (.aload 4, 2) := by decide +kernel
theorem dX6_runAnew_22 : decode cX6_runAnew 22 = .ok (.invokevirtual 175, 3) := by decide +kernel
theorem dX6_runAnew_25 : decode cX6_runAnew 25 = .ok (.iload_n 2, 1) := by decide +kernel
theorem dX6_runAnew_26 : decode cX6_runAnew 26 = .ok (.iload_n 3, 1) := by decide +kernel
theorem dX6_runAnew_27 : decode cX6_runAnew 27 = .ok (.invokevirtual 159, 3) := by decide +kernel
theorem dX6_runAnew_30 : decode cX6_runAnew 30 = .ok (.ifCond .ne 13, 3) := by decide +kernel
theorem dX6_runAnew_33 : decode cX6_runAnew 33 = .ok (.new 107, 3) := by decide +kernel
theorem dX6_runAnew_36 : decode cX6_runAnew 36 = .ok (.dup, 1) := by decide +kernel
theorem dX6_runAnew_37 : decode cX6_runAnew 37 = .ok (.ldc 163, 2) := by decide +kernel
theorem dX6_runAnew_39 : decode cX6_runAnew 39 = .ok (.invokespecial 111, 3) := by decide +kernel
theorem dX6_runAnew_42 : decode cX6_runAnew 42 = .ok (.athrow, 1) := by decide +kernel
theorem dX6_runAnew_43 : decode cX6_runAnew 43 = .ok (.aload 4, 2) := by decide +kernel
theorem dX6_runAnew_45 : decode cX6_runAnew 45 = .ok (.aload_n 0, 1) := by decide +kernel
theorem dX6_runAnew_46 : decode cX6_runAnew 46 = .ok (.getfield 10, 3) := by decide +kernel
theorem dX6_runAnew_49 : decode cX6_runAnew 49 = .ok (.iload_n 2, 1) := by decide +kernel
theorem dX6_runAnew_50 : decode cX6_runAnew 50 = .ok (.iload_n 3, 1) := by decide +kernel
theorem dX6_runAnew_51 : decode cX6_runAnew 51 = .ok (.invokevirtual 167, 3) := by decide +kernel
theorem dX6_runAnew_54 : decode cX6_runAnew 54 = .ok (.aload_n 0, 1) := by decide +kernel
theorem dX6_runAnew_55 : decode cX6_runAnew 55 = .ok (.invokevirtual 70, 3) := by decide +kernel
theorem dX6_runAnew_58 : decode cX6_runAnew 58 = .ok (.aload_n 0, 1) := by decide +kernel
theorem dX6_runAnew_59 : decode cX6_runAnew 59 = .ok (.getfield 36, 3) := by decide +kernel
theorem dX6_runAnew_62 : decode cX6_runAnew 62 = .ok (.invokevirtual 179, 3) := by decide +kernel
theorem dX6_runAnew_65 : decode cX6_runAnew 65 = .ok (.ireturn, 1) := by decide +kernel
theorem dX6_disturb_0 : decode cX6_disturb 0 = .ok (.aload_n 0, 1) := by decide +kernel
theorem dX6_disturb_1 : decode cX6_disturb 1 = .ok (.iload_n 1, 1) := by decide +kernel
theorem dX6_disturb_2 : decode cX6_disturb 2 = .ok (.iload_n 2, 1) := by decide +kernel
theorem dX6_disturb_3 : decode cX6_disturb 3 = .ok (.iload_n 3, 1) := by decide +kernel
theorem dX6_disturb_4 : decode cX6_disturb 4 = .ok (.invokevirtual 182, 3) := by decide +kernel
theorem dX6_disturb_7 : decode cX6_disturb 7 = .ok (.astore 5, 2) := by decide +kernel
theorem dX6_disturb_9 : decode cX6_disturb 9 = .ok (.iload 4, 2) := by decide +kernel
theorem dX6_disturb_11 : decode cX6_disturb 11 = .ok (.bipush (-60), 2) := by decide +kernel
theorem dX6_disturb_13 : decode cX6_disturb 13 = .ok (.if_icmp .lt 10, 3) := by decide +kernel
theorem dX6_disturb_16 : decode cX6_disturb 16 = .ok (.iload 4, 2) := by decide +kernel
theorem dX6_disturb_18 : decode cX6_disturb 18 = .ok (.bipush 60, 2) := by decide +kernel
theorem dX6_disturb_20 : decode cX6_disturb 20 = .ok (.if_icmp .le 13, 3) := by decide +kernel
theorem dX6_disturb_23 : decode cX6_disturb 23 = .ok (.new 51, 3) := by decide +kernel
theorem dX6_disturb_26 : decode cX6_disturb 26 = .ok (.dup, 1) := by decide +kernel
theorem dX6_disturb_27 : decode cX6_disturb 27 = .ok (.ldc 186, 2) := by decide +kernel
theorem dX6_disturb_29 : decode cX6_disturb 29 = .ok (.invokespecial 55, 3) := by decide +kernel
theorem dX6_disturb_32 : decode cX6_disturb 32 = .ok (.athrow, 1) := by decide +kernel
theorem dX6_disturb_33 : decode cX6_disturb 33 = .ok (.aload 5, 2) := by decide +kernel
theorem dX6_disturb_35 : decode cX6_disturb 35 = .ok (.iload_n 2, 1) := by decide +kernel
theorem dX6_disturb_36 : decode cX6_disturb 36 = .ok (.iload_n 3, 1) := by decide +kernel
theorem dX6_disturb_37 : decode cX6_disturb 37 = .ok (.iload 4, 2) := by decide +kernel
theorem dX6_disturb_39 : decode cX6_disturb 39 = .ok (.invokevirtual 188, 3) := by decide +kernel
theorem dX6_disturb_42 : decode cX6_disturb 42 = .ok (.istore 6, 2) := by decide +kernel
theorem dX6_disturb_44 : decode cX6_disturb 44 = .ok (.aload_n 0, 1) := by decide +kernel
theorem dX6_disturb_45 : decode cX6_disturb 45 = .ok (.invokevirtual 70, 3) := by decide +kernel
theorem dX6_disturb_48 : decode cX6_disturb 48 = .ok (.iload 6, 2) := by decide +kernel
theorem dX6_disturb_50 : decode cX6_disturb 50 = .ok (.ireturn, 1) := by decide +kernel
theorem dX6_soundings_0 : decode cX6_soundings 0 = .ok (.aload_n 0, 1) := by decide +kernel
theorem dX6_soundings_1 : decode cX6_soundings 1 = .ok (.iload_n 1, 1) := by decide +kernel
theorem dX6_soundings_2 : decode cX6_soundings 2 = .ok (.invokevirtual 171, 3) := by decide +kernel
theorem dX6_soundings_5 : decode cX6_soundings 5 = .ok (.invokevirtual 191, 3) := by decide +kernel
theorem dX6_soundings_8 : decode cX6_soundings 8 = .ok (.ireturn, 1) := by decide +kernel
theorem dX6_sounding_0 : decode cX6_sounding 0 = .ok (.aload_n 0, 1) := by decide +kernel
theorem dX6_sounding_1 : decode cX6_sounding 1 = .ok (.iload_n 1, 1) := by decide +kernel
theorem dX6_sounding_2 : decode cX6_sounding 2 = .ok (.iload_n 2, 1) := by decide +kernel
theorem dX6_sounding_3 : decode cX6_sounding 3 = .ok (.iload_n 3, 1) := by decide +kernel
theorem dX6_sounding_4 : decode cX6_sounding 4 = .ok (.invokevirtual 182, 3) := by decide +kernel
theorem dX6_sounding_7 : decode cX6_sounding 7 = .ok (.iload_n 2, 1) := by decide +kernel
theorem dX6_sounding_8 : decode cX6_sounding 8 = .ok (.iload_n 3, 1) := by decide +kernel
theorem dX6_sounding_9 : decode cX6_sounding 9 = .ok (.invokevirtual 194, 3) := by decide +kernel
theorem dX6_sounding_12 : decode cX6_sounding 12 = .ok (.ireturn, 1) := by decide +kernel
theorem dX6_reduced_0 : decode cX6_reduced 0 = .ok (.aload_n 0, 1) := by decide +kernel
theorem dX6_reduced_1 : decode cX6_reduced 1 = .ok (.iload_n 1, 1) := by decide +kernel
theorem dX6_reduced_2 : decode cX6_reduced 2 = .ok (.iload_n 2, 1) := by decide +kernel
theorem dX6_reduced_3 : decode cX6_reduced 3 = .ok (.iload_n 3, 1) := by decide +kernel
theorem dX6_reduced_4 : decode cX6_reduced 4 = .ok (.invokevirtual 182, 3) := by decide +kernel
theorem dX6_reduced_7 : decode cX6_reduced 7 = .ok (.iload_n 2, 1) := by decide +kernel
theorem dX6_reduced_8 : decode cX6_reduced 8 = .ok (.iload_n 3, 1) := by decide +kernel
theorem dX6_reduced_9 : decode cX6_reduced 9 = .ok (.invokevirtual 197, 3) := by decide +kernel
theorem dX6_reduced_12 : decode cX6_reduced 12 = .ok (.istore 4, 2) := by decide +kernel
theorem dX6_reduced_14 : decode cX6_reduced 14 = .ok (.iload 4, 2) := by decide +kernel
theorem dX6_reduced_16 : decode cX6_reduced 16 = .ok (.ldc 138, 2) := by decide +kernel
theorem dX6_reduced_18 : decode cX6_reduced 18 = .ok (.if_icmp .ne 13, 3) := by decide +kernel
theorem dX6_reduced_21 : decode cX6_reduced 21 = .ok (.new 98, 3) := by decide +kernel
theorem dX6_reduced_24 : decode cX6_reduced 24 = .ok (.dup, 1) := by decide +kernel
theorem dX6_reduced_25 : decode cX6_reduced 25 = .ok (.ldc 145, 2) := by decide +kernel
theorem dX6_reduced_27 : decode cX6_reduced 27 = .ok (.invokespecial 102, 3) := by decide +kernel
theorem dX6_reduced_30 : decode cX6_reduced 30 = .ok (.athrow, 1) := by decide +kernel
theorem dX6_reduced_31 : decode cX6_reduced 31 = .ok (.iload 4, 2) := by decide +kernel
theorem dX6_reduced_33 : decode cX6_reduced 33 = .ok (.ireturn, 1) := by decide +kernel
theorem dX6_isSpike_0 : decode cX6_isSpike 0 = .ok (.aload_n 0, 1) := by decide +kernel
theorem dX6_isSpike_1 : decode cX6_isSpike 1 = .ok (.iload_n 1, 1) := by decide +kernel
theorem dX6_isSpike_2 : decode cX6_isSpike 2 = .ok (.iload_n 2, 1) := by decide +kernel
theorem dX6_isSpike_3 : decode cX6_isSpike 3 = .ok (.iload_n 3, 1) := by decide +kernel
theorem dX6_isSpike_4 : decode cX6_isSpike 4 = .ok (.invokevirtual 182, 3) := by decide +kernel
theorem dX6_isSpike_7 : decode cX6_isSpike 7 = .ok (.iload_n 2, 1) := by decide +kernel
theorem dX6_isSpike_8 : decode cX6_isSpike 8 = .ok (.iload_n 3, 1) := by decide +kernel
theorem dX6_isSpike_9 : decode cX6_isSpike 9 = .ok (.invokevirtual 200, 3) := by decide +kernel
theorem dX6_isSpike_12 : decode cX6_isSpike 12 = .ok (.ireturn, 1) := by decide +kernel
theorem dX6_spikes_0 : decode cX6_spikes 0 = .ok (.aload_n 0, 1) := by decide +kernel
theorem dX6_spikes_1 : decode cX6_spikes 1 = .ok (.iload_n 1, 1) := by decide +kernel
theorem dX6_spikes_2 : decode cX6_spikes 2 = .ok (.invokevirtual 171, 3) := by decide +kernel
theorem dX6_spikes_5 : decode cX6_spikes 5 = .ok (.invokevirtual 204, 3) := by decide +kernel
theorem dX6_spikes_8 : decode cX6_spikes 8 = .ok (.ireturn, 1) := by decide +kernel
theorem dX6_lost_0 : decode cX6_lost 0 = .ok (.aload_n 0, 1) := by decide +kernel
theorem dX6_lost_1 : decode cX6_lost 1 = .ok (.iload_n 1, 1) := by decide +kernel
theorem dX6_lost_2 : decode cX6_lost 2 = .ok (.invokevirtual 171, 3) := by decide +kernel
theorem dX6_lost_5 : decode cX6_lost 5 = .ok (.invokevirtual 207, 3) := by decide +kernel
theorem dX6_lost_8 : decode cX6_lost 8 = .ok (.ireturn, 1) := by decide +kernel
theorem dX6_depth_0 : decode cX6_depth 0 = .ok (.iload_n 1, 1) := by decide +kernel
theorem dX6_depth_1 : decode cX6_depth 1 = .ok (.iload_n 2, 1) := by decide +kernel
theorem dX6_depth_2 : decode cX6_depth 2 = .ok (.invokestatic 47, 3) := by decide +kernel
theorem dX6_depth_5 : decode cX6_depth 5 = .ok (.aload_n 0, 1) := by decide +kernel
theorem dX6_depth_6 : decode cX6_depth 6 = .ok (.getfield 36, 3) := by decide +kernel
theorem dX6_depth_9 : decode cX6_depth 9 = .ok (.iload_n 1, 1) := by decide +kernel
theorem dX6_depth_10 : decode cX6_depth 10 = .ok (.iload_n 2, 1) := by decide +kernel
theorem dX6_depth_11 : decode cX6_depth 11 = .ok (.invokevirtual 210, 3) := by decide +kernel
theorem dX6_depth_14 : decode cX6_depth 14 = .ok (.invokestatic 213, 3) := by decide +kernel
theorem dX6_depth_17 : decode cX6_depth 17 = .ok (.ireturn, 1) := by decide +kernel
theorem dX6_depthAnew_0 : decode cX6_depthAnew 0 = .ok (.iload_n 1, 1) := by decide +kernel
theorem dX6_depthAnew_1 : decode cX6_depthAnew 1 = .ok (.iload_n 2, 1) := by decide +kernel
theorem dX6_depthAnew_2 : decode cX6_depthAnew 2 = .ok (.invokestatic 47, 3) := by decide +kernel
theorem dX6_depthAnew_5 : decode cX6_depthAnew 5 = .ok (.aload_n 0, 1) := by decide +kernel
theorem dX6_depthAnew_6 : decode cX6_depthAnew 6 = .ok (.invokevirtual 216, 3) := by decide +kernel
theorem dX6_depthAnew_9 : decode cX6_depthAnew 9 = .ok (.aload_n 0, 1) := by decide +kernel
theorem dX6_depthAnew_10 : decode cX6_depthAnew 10 = .ok (.iload_n 1, 1) := by decide +kernel
theorem dX6_depthAnew_11 : decode cX6_depthAnew 11 = .ok (.iload_n 2, 1) := by decide +kernel
theorem dX6_depthAnew_12 : decode cX6_depthAnew 12 = .ok (.invokevirtual 219, 3) := by decide +kernel
theorem dX6_depthAnew_15 : decode cX6_depthAnew 15 = .ok (.invokestatic 213, 3) := by decide +kernel
theorem dX6_depthAnew_18 : decode cX6_depthAnew 18 = .ok (.ireturn, 1) := by decide +kernel
theorem dX6_charted_0 : decode cX6_charted 0 = .ok (.aload_n 0, 1) := by decide +kernel
theorem dX6_charted_1 : decode cX6_charted 1 = .ok (.getfield 36, 3) := by decide +kernel
theorem dX6_charted_4 : decode cX6_charted 4 = .ok (.invokevirtual 179, 3) := by decide +kernel
theorem dX6_charted_7 : decode cX6_charted 7 = .ok (.ireturn, 1) := by decide +kernel
theorem dX6_gap_0 : decode cX6_gap 0 = .ok (.aload_n 0, 1) := by decide +kernel
theorem dX6_gap_1 : decode cX6_gap 1 = .ok (.getfield 36, 3) := by decide +kernel
theorem dX6_gap_4 : decode cX6_gap 4 = .ok (.iload_n 1, 1) := by decide +kernel
theorem dX6_gap_5 : decode cX6_gap 5 = .ok (.invokevirtual 222, 3) := by decide +kernel
theorem dX6_gap_8 : decode cX6_gap 8 = .ok (.istore_n 2, 1) := by decide +kernel
theorem dX6_gap_9 : decode cX6_gap 9 = .ok (.iload_n 2, 1) := by decide +kernel
theorem dX6_gap_10 : decode cX6_gap 10 = .ok (.ldc 138, 2) := by decide +kernel
theorem dX6_gap_12 : decode cX6_gap 12 = .ok (.if_icmp .ne 13, 3) := by decide +kernel
theorem dX6_gap_15 : decode cX6_gap 15 = .ok (.new 225, 3) := by decide +kernel
theorem dX6_gap_18 : decode cX6_gap 18 = .ok (.dup, 1) := by decide +kernel
theorem dX6_gap_19 : decode cX6_gap 19 = .ok (.ldc 227, 2) := by decide +kernel
theorem dX6_gap_21 : decode cX6_gap 21 = .ok (.invokespecial 229, 3) := by decide +kernel
theorem dX6_gap_24 : decode cX6_gap 24 = .ok (.athrow, 1) := by decide +kernel
theorem dX6_gap_25 : decode cX6_gap 25 = .ok (.iload_n 2, 1) := by decide +kernel
theorem dX6_gap_26 : decode cX6_gap 26 = .ok (.ireturn, 1) := by decide +kernel
theorem dX6_bestRow_0 : decode cX6_bestRow 0 = .ok (.aload_n 0, 1) := by decide +kernel
theorem dX6_bestRow_1 : decode cX6_bestRow 1 = .ok (.getfield 36, 3) := by decide +kernel
theorem dX6_bestRow_4 : decode cX6_bestRow 4 = .ok (.invokevirtual 179, 3) := by decide +kernel
theorem dX6_bestRow_7 : decode cX6_bestRow 7 = .ok (.sipush 240, 3) := by decide +kernel
theorem dX6_bestRow_10 : decode cX6_bestRow 10 = .ok (.if_icmp .ne 13, 3) := by decide +kernel
theorem dX6_bestRow_13 : decode cX6_bestRow 13 = .ok (.new 107, 3) := by decide +kernel
theorem dX6_bestRow_16 : decode cX6_bestRow 16 = .ok (.dup, 1) := by decide +kernel
theorem dX6_bestRow_17 : decode cX6_bestRow 17 = .ok (.ldc 230, 2) := by decide +kernel
theorem dX6_bestRow_19 : decode cX6_bestRow 19 = .ok (.invokespecial 111, 3) := by decide +kernel
theorem dX6_bestRow_22 : decode cX6_bestRow 22 = .ok (.athrow, 1) := by decide +kernel
theorem dX6_bestRow_23 : decode cX6_bestRow 23 = .ok (.iconst 0, 1) := by decide +kernel
theorem dX6_bestRow_24 : decode cX6_bestRow 24 = .ok (.istore_n 1, 1) := by decide +kernel
theorem dX6_bestRow_25 : decode cX6_bestRow 25 = .ok (.iconst 0, 1) := by decide +kernel
theorem dX6_bestRow_26 : decode cX6_bestRow 26 = .ok (.istore_n 2, 1) := by decide +kernel
theorem dX6_bestRow_27 : decode cX6_bestRow 27 = .ok (.iconst 0, 1) := by decide +kernel
theorem dX6_bestRow_28 : decode cX6_bestRow 28 = .ok (.istore_n 3, 1) := by decide +kernel
theorem dX6_bestRow_29 : decode cX6_bestRow 29 = .ok (.iload_n 3, 1) := by decide +kernel
theorem dX6_bestRow_30 : decode cX6_bestRow 30 = .ok (.bipush 12, 2) := by decide +kernel
theorem dX6_bestRow_32 : decode cX6_bestRow 32 = .ok (.if_icmp .ge 27, 3) := by decide +kernel
theorem dX6_bestRow_35 : decode cX6_bestRow 35 = .ok (.aload_n 0, 1) := by decide +kernel
theorem dX6_bestRow_36 : decode cX6_bestRow 36 = .ok (.iload_n 3, 1) := by decide +kernel
theorem dX6_bestRow_37 : decode cX6_bestRow 37 = .ok (.invokevirtual 232, 3) := by decide +kernel
theorem dX6_bestRow_40 : decode cX6_bestRow 40 = .ok (.istore 4, 2) := by decide +kernel
theorem dX6_bestRow_42 : decode cX6_bestRow 42 = .ok (.iload 4, 2) := by decide +kernel
theorem dX6_bestRow_44 : decode cX6_bestRow 44 = .ok (.iload_n 2, 1) := by decide +kernel
theorem dX6_bestRow_45 : decode cX6_bestRow 45 = .ok (.if_icmp .le 8, 3) := by decide +kernel
theorem dX6_bestRow_48 : decode cX6_bestRow 48 = .ok (.iload 4, 2) := by decide +kernel
theorem dX6_bestRow_50 : decode cX6_bestRow 50 = .ok (.istore_n 2, 1) := by decide +kernel
theorem dX6_bestRow_51 : decode cX6_bestRow 51 = .ok (.iload_n 3, 1) := by decide +kernel
theorem dX6_bestRow_52 : decode cX6_bestRow 52 = .ok (.istore_n 1, 1) := by decide +kernel
theorem dX6_bestRow_53 : decode cX6_bestRow 53 = .ok (.iinc 3 1, 3) := by decide +kernel
theorem dX6_bestRow_56 : decode cX6_bestRow 56 = .ok (.goto (-27), 3) := by decide +kernel
theorem dX6_bestRow_59 : decode cX6_bestRow 59 = .ok (.iload_n 1, 1) := by decide +kernel
theorem dX6_bestRow_60 : decode cX6_bestRow 60 = .ok (.ireturn, 1) := by decide +kernel
theorem dX6_lines_0 : decode cX6_lines 0 = .ok (.aload_n 0, 1) := by decide +kernel
theorem dX6_lines_1 : decode cX6_lines 1 = .ok (.getfield 29, 3) := by decide +kernel
theorem dX6_lines_4 : decode cX6_lines 4 = .ok (.ireturn, 1) := by decide +kernel
theorem dX6_dayOf_0 : decode cX6_dayOf 0 = .ok (.aload_n 0, 1) := by decide +kernel
theorem dX6_dayOf_1 : decode cX6_dayOf 1 = .ok (.iload_n 1, 1) := by decide +kernel
theorem dX6_dayOf_2 : decode cX6_dayOf 2 = .ok (.invokevirtual 171, 3) := by decide +kernel
theorem dX6_dayOf_5 : decode cX6_dayOf 5 = .ok (.invokevirtual 235, 3) := by decide +kernel
theorem dX6_dayOf_8 : decode cX6_dayOf 8 = .ok (.ireturn, 1) := by decide +kernel
theorem dX6_toRun_0 : decode cX6_toRun 0 = .ok (.iconst 0, 1) := by decide +kernel
theorem dX6_toRun_1 : decode cX6_toRun 1 = .ok (.istore_n 1, 1) := by decide +kernel
theorem dX6_toRun_2 : decode cX6_toRun 2 = .ok (.iconst 0, 1) := by decide +kernel
theorem dX6_toRun_3 : decode cX6_toRun 3 = .ok (.istore_n 2, 1) := by decide +kernel
theorem dX6_toRun_4 : decode cX6_toRun 4 = .ok (.iload_n 2, 1) := by decide +kernel
theorem dX6_toRun_5 : decode cX6_toRun 5 = .ok (.aload_n 0, 1) := by decide +kernel
theorem dX6_toRun_6 : decode cX6_toRun 6 = .ok (.getfield 29, 3) := by decide +kernel
theorem dX6_toRun_9 : decode cX6_toRun 9 = .ok (.if_icmp .ge 29, 3) := by decide +kernel
theorem dX6_toRun_12 : decode cX6_toRun 12 = .ok (.aload_n 0, 1) := by decide +kernel
theorem dX6_toRun_13 : decode cX6_toRun 13 = .ok (.iload_n 2, 1) := by decide +kernel
theorem dX6_toRun_14 : decode cX6_toRun 14 = .ok (.invokevirtual 238, 3) := by decide +kernel
theorem dX6_toRun_17 : decode cX6_toRun 17 = .ok (.astore_n 3, 1) := by decide +kernel
theorem dX6_toRun_18 : decode cX6_toRun 18 = .ok (.aload_n 3, 1) := by decide +kernel
theorem dX6_toRun_19 : decode cX6_toRun 19 = .ok (.ifnull 13, 3) := by decide +kernel
theorem dX6_toRun_22 : decode cX6_toRun 22 = .ok (.aload_n 3, 1) := by decide +kernel
theorem dX6_toRun_23 : decode cX6_toRun 23 = .ok (.invokevirtual 207, 3) := by decide +kernel
theorem dX6_toRun_26 : decode cX6_toRun 26 = .ok (.ifCond .le 6, 3) := by decide +kernel
theorem dX6_toRun_29 : decode cX6_toRun 29 = .ok (.iinc 1 1, 3) := by decide +kernel
theorem dX6_toRun_32 : decode cX6_toRun 32 = .ok (.iinc 2 1, 3) := by decide +kernel
theorem dX6_toRun_35 : decode cX6_toRun 35 = .ok (.goto (-31), 3) := by decide +kernel
theorem dX6_toRun_38 : decode cX6_toRun 38 = .ok (.iload_n 1, 1) := by decide +kernel
theorem dX6_toRun_39 : decode cX6_toRun 39 = .ok (.ireturn, 1) := by decide +kernel
theorem dX6_cross_0 : decode cX6_cross 0 = .ok (.aload_n 0, 1) := by decide +kernel
theorem dX6_cross_1 : decode cX6_cross 1 = .ok (.iload_n 1, 1) := by decide +kernel
theorem dX6_cross_2 : decode cX6_cross 2 = .ok (.invokevirtual 171, 3) := by decide +kernel
theorem dX6_cross_5 : decode cX6_cross 5 = .ok (.astore_n 3, 1) := by decide +kernel
theorem dX6_cross_6 : decode cX6_cross 6 = .ok (.aload_n 0, 1) := by decide +kernel
theorem dX6_cross_7 : decode cX6_cross 7 = .ok (.iload_n 2, 1) := by decide +kernel
theorem dX6_cross_8 : decode cX6_cross 8 = .ok (.invokevirtual 171, 3) := by decide +kernel
theorem dX6_cross_11 : decode cX6_cross 11 = .ok (.astore 4, 2) := by decide +kernel
theorem dX6_cross_13 : decode cX6_cross 13 = .ok (.aload_n 3, 1) := by decide +kernel
theorem dX6_cross_14 : decode cX6_cross 14 = .ok (.aload 4, 2) := by decide +kernel
theorem dX6_cross_16 : decode cX6_cross 16 = .ok (.invokevirtual 241, 3) := by decide +kernel
theorem dX6_cross_19 : decode cX6_cross 19 = .ok (.ifCond .ne 13, 3) := by decide +kernel
theorem dX6_cross_22 : decode cX6_cross 22 = .ok (.new 51, 3) := by decide +kernel
theorem dX6_cross_25 : decode cX6_cross 25 = .ok (.dup, 1) := by decide +kernel
theorem dX6_cross_26 : decode cX6_cross 26 = .ok (.ldc 245, 2) := by decide +kernel
theorem dX6_cross_28 : decode cX6_cross 28 = .ok (.invokespecial 55, 3) := by decide +kernel
theorem dX6_cross_31 : decode cX6_cross 31 = .ok (.athrow, 1) := by decide +kernel
theorem dX6_cross_32 : decode cX6_cross 32 = .ok (.aload_n 3, 1) := by decide +kernel
theorem dX6_cross_33 : decode cX6_cross 33 = .ok (.aload 4, 2) := by decide +kernel
theorem dX6_cross_35 : decode cX6_cross 35 = .ok (.invokevirtual 247, 3) := by decide +kernel
theorem dX6_cross_38 : decode cX6_cross 38 = .ok (.istore 5, 2) := by decide +kernel
theorem dX6_cross_40 : decode cX6_cross 40 = .ok (.iload 5, 2) := by decide +kernel
theorem dX6_cross_42 : decode cX6_cross 42 = .ok (.ldc 138, 2) := by decide +kernel
theorem dX6_cross_44 : decode cX6_cross 44 = .ok (.if_icmp .ne 13, 3) := by decide +kernel
theorem dX6_cross_47 : decode cX6_cross 47 = .ok (.new 98, 3) := by decide +kernel
theorem dX6_cross_50 : decode cX6_cross 50 = .ok (.dup, 1) := by decide +kernel
theorem dX6_cross_51 : decode cX6_cross 51 = .ok (.ldc 251, 2) := by decide +kernel
theorem dX6_cross_53 : decode cX6_cross 53 = .ok (.invokespecial 102, 3) := by decide +kernel
theorem dX6_cross_56 : decode cX6_cross 56 = .ok (.athrow, 1) := by decide +kernel
theorem dX6_cross_57 : decode cX6_cross 57 = .ok (.iload 5, 2) := by decide +kernel
theorem dX6_cross_59 : decode cX6_cross 59 = .ok (.ireturn, 1) := by decide +kernel
theorem dX6_worstCross_0 : decode cX6_worstCross 0 = .ok (.ldc 138, 2) := by decide +kernel
theorem dX6_worstCross_2 : decode cX6_worstCross 2 = .ok (.istore_n 1, 1) := by decide +kernel
theorem dX6_worstCross_3 : decode cX6_worstCross 3 = .ok (.iconst 0, 1) := by decide +kernel
theorem dX6_worstCross_4 : decode cX6_worstCross 4 = .ok (.istore_n 2, 1) := by decide +kernel
theorem dX6_worstCross_5 : decode cX6_worstCross 5 = .ok (.iload_n 2, 1) := by decide +kernel
theorem dX6_worstCross_6 : decode cX6_worstCross 6 = .ok (.aload_n 0, 1) := by decide +kernel
theorem dX6_worstCross_7 : decode cX6_worstCross 7 = .ok (.getfield 29, 3) := by decide +kernel
theorem dX6_worstCross_10 : decode cX6_worstCross 10 = .ok (.if_icmp .ge 45, 3) := by decide +kernel
theorem dX6_worstCross_13 : decode cX6_worstCross 13 = .ok (.iload_n 2, 1) := by decide +kernel
theorem dX6_worstCross_14 : decode cX6_worstCross 14 = .ok (.iconst 1, 1) := by decide +kernel
theorem dX6_worstCross_15 : decode cX6_worstCross 15 = .ok (.iadd, 1) := by decide +kernel
theorem dX6_worstCross_16 : decode cX6_worstCross 16 = .ok (.istore_n 3, 1) := by decide +kernel
theorem dX6_worstCross_17 : decode cX6_worstCross 17 = .ok (.iload_n 3, 1) := by decide +kernel
theorem dX6_worstCross_18 : decode cX6_worstCross 18 = .ok (.aload_n 0, 1) := by decide +kernel
theorem dX6_worstCross_19 : decode cX6_worstCross 19 = .ok (.getfield 29, 3) := by decide +kernel
theorem dX6_worstCross_22 : decode cX6_worstCross 22 = .ok (.if_icmp .ge 27, 3) := by decide +kernel
theorem dX6_worstCross_25 : decode cX6_worstCross 25 = .ok (.iload_n 1, 1) := by decide +kernel
theorem dX6_worstCross_26 : decode cX6_worstCross 26 = .ok (.aload_n 0, 1) := by decide +kernel
theorem dX6_worstCross_27 : decode cX6_worstCross 27 = .ok (.iload_n 2, 1) := by decide +kernel
theorem dX6_worstCross_28 : decode cX6_worstCross 28 = .ok (.invokevirtual 238, 3) := by decide +kernel
theorem dX6_worstCross_31 : decode cX6_worstCross 31 = .ok (.aload_n 0, 1) := by decide +kernel
theorem dX6_worstCross_32 : decode cX6_worstCross 32 = .ok (.iload_n 3, 1) := by decide +kernel
theorem dX6_worstCross_33 : decode cX6_worstCross 33 = .ok (.invokevirtual 238, 3) := by decide +kernel
theorem dX6_worstCross_36 : decode cX6_worstCross 36 = .ok (.invokestatic 253, 3) := by decide +kernel
theorem dX6_worstCross_39 : decode cX6_worstCross 39 = .ok (.invokestatic 257, 3) := by decide +kernel
theorem dX6_worstCross_42 : decode cX6_worstCross 42 = .ok (.istore_n 1, 1) := by decide +kernel
theorem dX6_worstCross_43 : decode cX6_worstCross 43 = .ok (.iinc 3 1, 3) := by decide +kernel
theorem dX6_worstCross_46 : decode cX6_worstCross 46 = .ok (.goto (-29), 3) := by decide +kernel
theorem dX6_worstCross_49 : decode cX6_worstCross 49 = .ok (.iinc 2 1, 3) := by decide +kernel
theorem dX6_worstCross_52 : decode cX6_worstCross 52 = .ok (.goto (-47), 3) := by decide +kernel
theorem dX6_worstCross_55 : decode cX6_worstCross 55 = .ok (.iload_n 1, 1) := by decide +kernel
theorem dX6_worstCross_56 : decode cX6_worstCross 56 = .ok (.ldc 138, 2) := by decide +kernel
theorem dX6_worstCross_58 : decode cX6_worstCross 58 = .ok (.if_icmp .ne 14, 3) := by decide +kernel
theorem dX6_worstCross_61 : decode cX6_worstCross 61 = .ok (.new 98, 3) := by decide +kernel
theorem dX6_worstCross_64 : decode cX6_worstCross 64 = .ok (.dup, 1) := by decide +kernel
theorem dX6_worstCross_65 : decode cX6_worstCross 65 = .ok (.ldc_w 262, 3) := by decide +kernel
theorem dX6_worstCross_68 : decode cX6_worstCross 68 = .ok (.invokespecial 102, 3) := by decide +kernel
theorem dX6_worstCross_71 : decode cX6_worstCross 71 = .ok (.athrow, 1) := by decide +kernel
theorem dX6_worstCross_72 : decode cX6_worstCross 72 = .ok (.iload_n 1, 1) := by decide +kernel
theorem dX6_worstCross_73 : decode cX6_worstCross 73 = .ok (.ireturn, 1) := by decide +kernel
theorem dX6_hours_0 : decode cX6_hours 0 = .ok (.iload_n 1, 1) := by decide +kernel
theorem dX6_hours_1 : decode cX6_hours 1 = .ok (.invokestatic 73, 3) := by decide +kernel
theorem dX6_hours_4 : decode cX6_hours 4 = .ok (.aload_n 0, 1) := by decide +kernel
theorem dX6_hours_5 : decode cX6_hours 5 = .ok (.iload_n 1, 1) := by decide +kernel
theorem dX6_hours_6 : decode cX6_hours 6 = .ok (.invokevirtual 264, 3) := by decide +kernel
theorem dX6_hours_9 : decode cX6_hours 9 = .ok (.ireturn, 1) := by decide +kernel
theorem dX6_hire_0 : decode cX6_hire 0 = .ok (.aload_n 0, 1) := by decide +kernel
theorem dX6_hire_1 : decode cX6_hire 1 = .ok (.invokevirtual 267, 3) := by decide +kernel
theorem dX6_hire_4 : decode cX6_hire 4 = .ok (.istore_n 1, 1) := by decide +kernel
theorem dX6_hire_5 : decode cX6_hire 5 = .ok (.lconst 0, 1) := by decide +kernel
theorem dX6_hire_6 : decode cX6_hire 6 = .ok (.lstore_n 2, 1) := by decide +kernel
theorem dX6_hire_7 : decode cX6_hire 7 = .ok (.iconst 0, 1) := by decide +kernel
theorem dX6_hire_8 : decode cX6_hire 8 = .ok (.istore 4, 2) := by decide +kernel
theorem dX6_hire_10 : decode cX6_hire 10 = .ok (.iload 4, 2) := by decide +kernel
theorem dX6_hire_12 : decode cX6_hire 12 = .ok (.bipush 10, 2) := by decide +kernel
theorem dX6_hire_14 : decode cX6_hire 14 = .ok (.if_icmp .ge 25, 3) := by decide +kernel
theorem dX6_hire_17 : decode cX6_hire 17 = .ok (.iload 4, 2) := by decide +kernel
theorem dX6_hire_19 : decode cX6_hire 19 = .ok (.iload_n 1, 1) := by decide +kernel
theorem dX6_hire_20 : decode cX6_hire 20 = .ok (.if_icmp .gt 19, 3) := by decide +kernel
theorem dX6_hire_23 : decode cX6_hire 23 = .ok (.lload_n 2, 1) := by decide +kernel
theorem dX6_hire_24 : decode cX6_hire 24 = .ok (.aload_n 0, 1) := by decide +kernel
theorem dX6_hire_25 : decode cX6_hire 25 = .ok (.iload 4, 2) := by decide +kernel
theorem dX6_hire_27 : decode cX6_hire 27 = .ok (.invokevirtual 270, 3) := by decide +kernel
theorem dX6_hire_30 : decode cX6_hire 30 = .ok (.i2l, 1) := by decide +kernel
theorem dX6_hire_31 : decode cX6_hire 31 = .ok (.ladd, 1) := by decide +kernel
theorem dX6_hire_32 : decode cX6_hire 32 = .ok (.lstore_n 2, 1) := by decide +kernel
theorem dX6_hire_33 : decode cX6_hire 33 = .ok (.iinc 4 1, 3) := by decide +kernel
theorem dX6_hire_36 : decode cX6_hire 36 = .ok (.goto (-26), 3) := by decide +kernel
theorem dX6_hire_39 : decode cX6_hire 39 = .ok (.lload_n 2, 1) := by decide +kernel
theorem dX6_hire_40 : decode cX6_hire 40 = .ok (.lreturn, 1) := by decide +kernel
theorem dX6_chartedShare_0 : decode cX6_chartedShare 0 = .ok (.aload_n 0, 1) := by decide +kernel
theorem dX6_chartedShare_1 : decode cX6_chartedShare 1 = .ok (.getfield 36, 3) := by decide +kernel
theorem dX6_chartedShare_4 : decode cX6_chartedShare 4 = .ok (.invokevirtual 179, 3) := by decide +kernel
theorem dX6_chartedShare_7 : decode cX6_chartedShare 7 = .ok (.i2f, 1) := by decide +kernel
theorem dX6_chartedShare_8 : decode cX6_chartedShare 8 = .ok (.ldc_w 273, 3) := by decide +kernel
theorem dX6_chartedShare_11 : decode cX6_chartedShare 11 = .ok (.fdiv, 1) := by decide +kernel
theorem dX6_chartedShare_12 : decode cX6_chartedShare 12 = .ok (.freturn, 1) := by decide +kernel
theorem dX6_meanDepth_0 : decode cX6_meanDepth 0 = .ok (.aload_n 0, 1) := by decide +kernel
theorem dX6_meanDepth_1 : decode cX6_meanDepth 1 = .ok (.getfield 36, 3) := by decide +kernel
theorem dX6_meanDepth_4 : decode cX6_meanDepth 4 = .ok (.invokevirtual 179, 3) := by decide +kernel
theorem dX6_meanDepth_7 : decode cX6_meanDepth 7 = .ok (.istore_n 1, 1) := by decide +kernel
theorem dX6_meanDepth_8 : decode cX6_meanDepth 8 = .ok (.iload_n 1, 1) := by decide +kernel
theorem dX6_meanDepth_9 : decode cX6_meanDepth 9 = .ok (.ifCond .ne 14, 3) := by decide +kernel
theorem dX6_meanDepth_12 : decode cX6_meanDepth 12 = .ok (.new 274, 3) := by decide +kernel
theorem dX6_meanDepth_15 : decode cX6_meanDepth 15 = .ok (.dup, 1) := by decide +kernel
theorem dX6_meanDepth_16 : decode cX6_meanDepth 16 = .ok (.ldc_w 276, 3) := by decide +kernel
theorem dX6_meanDepth_19 : decode cX6_meanDepth 19 = .ok (.invokespecial 278, 3) := by decide +kernel
theorem dX6_meanDepth_22 : decode cX6_meanDepth 22 = .ok (.athrow, 1) := by decide +kernel
theorem dX6_meanDepth_23 : decode cX6_meanDepth 23 = .ok (.aload_n 0, 1) := by decide +kernel
theorem dX6_meanDepth_24 : decode cX6_meanDepth 24 = .ok (.getfield 36, 3) := by decide +kernel
theorem dX6_meanDepth_27 : decode cX6_meanDepth 27 = .ok (.invokevirtual 279, 3) := by decide +kernel
theorem dX6_meanDepth_30 : decode cX6_meanDepth 30 = .ok (.i2d, 1) := by decide +kernel
theorem dX6_meanDepth_31 : decode cX6_meanDepth 31 = .ok (.iload_n 1, 1) := by decide +kernel
theorem dX6_meanDepth_32 : decode cX6_meanDepth 32 = .ok (.i2d, 1) := by decide +kernel
theorem dX6_meanDepth_33 : decode cX6_meanDepth 33 = .ok (.ddiv, 1) := by decide +kernel
theorem dX6_meanDepth_34 : decode cX6_meanDepth 34 = .ok (.dreturn, 1) := by decide +kernel
theorem dX6_writeLine_0 : decode cX6_writeLine 0 = .ok (.aload_n 0, 1) := by decide +kernel
theorem dX6_writeLine_1 : decode cX6_writeLine 1 = .ok (.iload_n 1, 1) := by decide +kernel
theorem dX6_writeLine_2 : decode cX6_writeLine 2 = .ok (.invokevirtual 171, 3) := by decide +kernel
theorem dX6_writeLine_5 : decode cX6_writeLine 5 = .ok (.astore_n 2, 1) := by decide +kernel
theorem dX6_writeLine_6 : decode cX6_writeLine 6 = .ok (.aload_n 0, 1) := by decide +kernel
theorem dX6_writeLine_7 : decode cX6_writeLine 7 = .ok (.getfield 43, 3) := by decide +kernel
theorem dX6_writeLine_10 : decode cX6_writeLine 10 = .ok (.iconst 0, 1) := by decide +kernel
theorem dX6_writeLine_11 : decode cX6_writeLine 11 = .ok (.invokevirtual 282, 3) := by decide +kernel
theorem dX6_writeLine_14 : decode cX6_writeLine 14 = .ok (.aload_n 2, 1) := by decide +kernel
theorem dX6_writeLine_15 : decode cX6_writeLine 15 = .ok (.aload_n 0, 1) := by decide +kernel
theorem dX6_writeLine_16 : decode cX6_writeLine 16 = .ok (.getfield 43, 3) := by decide +kernel
theorem dX6_writeLine_19 : decode cX6_writeLine 19 = .ok (.invokevirtual 285, 3) := by decide +kernel
theorem dX6_writeLine_22 : decode cX6_writeLine 22 = .ok (.aload_n 0, 1) := by decide +kernel
theorem dX6_writeLine_23 : decode cX6_writeLine 23 = .ok (.getfield 43, 3) := by decide +kernel
theorem dX6_writeLine_26 : decode cX6_writeLine 26 = .ok (.invokevirtual 289, 3) := by decide +kernel
theorem dX6_writeLine_29 : decode cX6_writeLine 29 = .ok (.ireturn, 1) := by decide +kernel
theorem dX6_textAt_0 : decode cX6_textAt 0 = .ok (.iload_n 1, 1) := by decide +kernel
theorem dX6_textAt_1 : decode cX6_textAt 1 = .ok (.ifCond .lt 14, 3) := by decide +kernel
theorem dX6_textAt_4 : decode cX6_textAt 4 = .ok (.iload_n 1, 1) := by decide +kernel
theorem dX6_textAt_5 : decode cX6_textAt 5 = .ok (.aload_n 0, 1) := by decide +kernel
theorem dX6_textAt_6 : decode cX6_textAt 6 = .ok (.getfield 43, 3) := by decide +kernel
theorem dX6_textAt_9 : decode cX6_textAt 9 = .ok (.invokevirtual 289, 3) := by decide +kernel
theorem dX6_textAt_12 : decode cX6_textAt 12 = .ok (.if_icmp .lt 14, 3) := by decide +kernel
theorem dX6_textAt_15 : decode cX6_textAt 15 = .ok (.new 292, 3) := by decide +kernel
theorem dX6_textAt_18 : decode cX6_textAt 18 = .ok (.dup, 1) := by decide +kernel
theorem dX6_textAt_19 : decode cX6_textAt 19 = .ok (.ldc_w 294, 3) := by decide +kernel
theorem dX6_textAt_22 : decode cX6_textAt 22 = .ok (.invokespecial 296, 3) := by decide +kernel
theorem dX6_textAt_25 : decode cX6_textAt 25 = .ok (.athrow, 1) := by decide +kernel
theorem dX6_textAt_26 : decode cX6_textAt 26 = .ok (.aload_n 0, 1) := by decide +kernel
theorem dX6_textAt_27 : decode cX6_textAt 27 = .ok (.getfield 43, 3) := by decide +kernel
theorem dX6_textAt_30 : decode cX6_textAt 30 = .ok (.iload_n 1, 1) := by decide +kernel
theorem dX6_textAt_31 : decode cX6_textAt 31 = .ok (.invokevirtual 297, 3) := by decide +kernel
theorem dX6_textAt_34 : decode cX6_textAt 34 = .ok (.ireturn, 1) := by decide +kernel
theorem dX6_isSure_0 : decode cX6_isSure 0 = .ok (.aload_n 0, 1) := by decide +kernel
theorem dX6_isSure_1 : decode cX6_isSure 1 = .ok (.invokevirtual 216, 3) := by decide +kernel
theorem dX6_isSure_4 : decode cX6_isSure 4 = .ok (.iconst 0, 1) := by decide +kernel
theorem dX6_isSure_5 : decode cX6_isSure 5 = .ok (.istore_n 1, 1) := by decide +kernel
theorem dX6_isSure_6 : decode cX6_isSure 6 = .ok (.iload_n 1, 1) := by decide +kernel
theorem dX6_isSure_7 : decode cX6_isSure 7 = .ok (.bipush 12, 2) := by decide +kernel
theorem dX6_isSure_9 : decode cX6_isSure 9 = .ok (.if_icmp .ge 43, 3) := by decide +kernel
theorem dX6_isSure_12 : decode cX6_isSure 12 = .ok (.iconst 0, 1) := by decide +kernel
theorem dX6_isSure_13 : decode cX6_isSure 13 = .ok (.istore_n 2, 1) := by decide +kernel
theorem dX6_isSure_14 : decode cX6_isSure 14 = .ok (.iload_n 2, 1) := by decide +kernel
theorem dX6_isSure_15 : decode cX6_isSure 15 = .ok (.bipush 20, 2) := by decide +kernel
theorem dX6_isSure_17 : decode cX6_isSure 17 = .ok (.if_icmp .ge 29, 3) := by decide +kernel
theorem dX6_isSure_20 : decode cX6_isSure 20 = .ok (.aload_n 0, 1) := by decide +kernel
theorem dX6_isSure_21 : decode cX6_isSure 21 = .ok (.getfield 36, 3) := by decide +kernel
theorem dX6_isSure_24 : decode cX6_isSure 24 = .ok (.iload_n 2, 1) := by decide +kernel
theorem dX6_isSure_25 : decode cX6_isSure 25 = .ok (.iload_n 1, 1) := by decide +kernel
theorem dX6_isSure_26 : decode cX6_isSure 26 = .ok (.invokevirtual 210, 3) := by decide +kernel
theorem dX6_isSure_29 : decode cX6_isSure 29 = .ok (.aload_n 0, 1) := by decide +kernel
theorem dX6_isSure_30 : decode cX6_isSure 30 = .ok (.iload_n 2, 1) := by decide +kernel
theorem dX6_isSure_31 : decode cX6_isSure 31 = .ok (.iload_n 1, 1) := by decide +kernel
theorem dX6_isSure_32 : decode cX6_isSure 32 = .ok (.invokevirtual 219, 3) := by decide +kernel
theorem dX6_isSure_35 : decode cX6_isSure 35 = .ok (.if_icmp .eq 5, 3) := by decide +kernel
theorem dX6_isSure_38 : decode cX6_isSure 38 = .ok (.iconst 0, 1) := by decide +kernel
theorem dX6_isSure_39 : decode cX6_isSure 39 = .ok (.ireturn, 1) := by decide +kernel
theorem dX6_isSure_40 : decode cX6_isSure 40 = .ok (.iinc 2 1, 3) := by decide +kernel
theorem dX6_isSure_43 : decode cX6_isSure 43 = .ok (.goto (-29), 3) := by decide +kernel
theorem dX6_isSure_46 : decode cX6_isSure 46 = .ok (.iinc 1 1, 3) := by decide +kernel
theorem dX6_isSure_49 : decode cX6_isSure 49 = .ok (.goto (-43), 3) := by decide +kernel
theorem dX6_isSure_52 : decode cX6_isSure 52 = .ok (.iconst 1, 1) := by decide +kernel
theorem dX6_isSure_53 : decode cX6_isSure 53 = .ok (.ireturn, 1) := by decide +kernel
theorem dX6_requireCell_0 : decode cX6_requireCell 0 = .ok (.iload_n 0, 1) := by decide +kernel
theorem dX6_requireCell_1 : decode cX6_requireCell 1 = .ok (.iload_n 1, 1) := by decide +kernel
theorem dX6_requireCell_2 : decode cX6_requireCell 2 = .ok (.invokestatic 301, 3) := by decide +kernel
theorem dX6_requireCell_5 : decode cX6_requireCell 5 = .ok (.ifCond .ge 13, 3) := by decide +kernel
theorem dX6_requireCell_8 : decode cX6_requireCell 8 = .ok (.new 292, 3) := by decide +kernel
theorem dX6_requireCell_11 : decode cX6_requireCell 11 = .ok (.dup, 1) := by decide +kernel
theorem dX6_requireCell_12 : decode cX6_requireCell 12 = .ok (.ldc 227, 2) := by decide +kernel
theorem dX6_requireCell_14 : decode cX6_requireCell 14 = .ok (.invokespecial 296, 3) := by decide +kernel
theorem dX6_requireCell_17 : decode cX6_requireCell 17 = .ok (.athrow, 1) := by decide +kernel
theorem dX6_requireCell_18 : decode cX6_requireCell 18 = .ok (.return_, 1) := by decide +kernel
theorem dX6_requireColumn_0 : decode cX6_requireColumn 0 = .ok (.iload_n 0, 1) := by decide +kernel
theorem dX6_requireColumn_1 : decode cX6_requireColumn 1 = .ok (.ifCond .lt 9, 3) := by decide +kernel
theorem dX6_requireColumn_4 : decode cX6_requireColumn 4 = .ok (.iload_n 0, 1) := by decide +kernel
theorem dX6_requireColumn_5 : decode cX6_requireColumn 5 = .ok (.bipush 20, 2) := by decide +kernel
theorem dX6_requireColumn_7 : decode cX6_requireColumn 7 = .ok (.if_icmp .lt 14, 3) := by decide +kernel
theorem dX6_requireColumn_10 : decode cX6_requireColumn 10 = .ok (.new 292, 3) := by decide +kernel
theorem dX6_requireColumn_13 : decode cX6_requireColumn 13 = .ok (.dup, 1) := by decide +kernel
theorem dX6_requireColumn_14 : decode cX6_requireColumn 14 = .ok (.ldc_w 304, 3) := by decide +kernel
theorem dX6_requireColumn_17 : decode cX6_requireColumn 17 = .ok (.invokespecial 296, 3) := by decide +kernel
theorem dX6_requireColumn_20 : decode cX6_requireColumn 20 = .ok (.athrow, 1) := by decide +kernel
theorem dX6_requireColumn_21 : decode cX6_requireColumn 21 = .ok (.return_, 1) := by decide +kernel
theorem dX6_requireDay_0 : decode cX6_requireDay 0 = .ok (.iload_n 0, 1) := by decide +kernel
theorem dX6_requireDay_1 : decode cX6_requireDay 1 = .ok (.ifCond .lt 9, 3) := by decide +kernel
theorem dX6_requireDay_4 : decode cX6_requireDay 4 = .ok (.iload_n 0, 1) := by decide +kernel
theorem dX6_requireDay_5 : decode cX6_requireDay 5 = .ok (.bipush 10, 2) := by decide +kernel
theorem dX6_requireDay_7 : decode cX6_requireDay 7 = .ok (.if_icmp .lt 14, 3) := by decide +kernel
theorem dX6_requireDay_10 : decode cX6_requireDay 10 = .ok (.new 292, 3) := by decide +kernel
theorem dX6_requireDay_13 : decode cX6_requireDay 13 = .ok (.dup, 1) := by decide +kernel
theorem dX6_requireDay_14 : decode cX6_requireDay 14 = .ok (.ldc_w 306, 3) := by decide +kernel
theorem dX6_requireDay_17 : decode cX6_requireDay 17 = .ok (.invokespecial 296, 3) := by decide +kernel
theorem dX6_requireDay_20 : decode cX6_requireDay 20 = .ok (.athrow, 1) := by decide +kernel
theorem dX6_requireDay_21 : decode cX6_requireDay 21 = .ok (.return_, 1) := by decide +kernel
theorem dX6_requireHour_0 : decode cX6_requireHour 0 = .ok (.iload_n 0, 1) := by decide +kernel
theorem dX6_requireHour_1 : decode cX6_requireHour 1 = .ok (.iload_n 1, 1) := by decide +kernel
theorem dX6_requireHour_2 : decode cX6_requireHour 2 = .ok (.invokestatic 308, 3) := by decide +kernel
theorem dX6_requireHour_5 : decode cX6_requireHour 5 = .ok (.ifCond .ge 14, 3) := by decide +kernel
theorem dX6_requireHour_8 : decode cX6_requireHour 8 = .ok (.new 292, 3) := by decide +kernel
theorem dX6_requireHour_11 : decode cX6_requireHour 11 = .ok (.dup, 1) := by decide +kernel
theorem dX6_requireHour_12 : decode cX6_requireHour 12 = .ok (.ldc_w 311, 3) := by decide +kernel
theorem dX6_requireHour_15 : decode cX6_requireHour 15 = .ok (.invokespecial 296, 3) := by decide +kernel
theorem dX6_requireHour_18 : decode cX6_requireHour 18 = .ok (.athrow, 1) := by decide +kernel
theorem dX6_requireHour_19 : decode cX6_requireHour 19 = .ok (.return_, 1) := by decide +kernel
theorem dX6_requireWay_0 : decode cX6_requireWay 0 = .ok (.iload_n 0, 1) := by decide +kernel
theorem dX6_requireWay_1 : decode cX6_requireWay 1 = .ok (.ifCond .eq 27, 3) := by decide +kernel
theorem dX6_requireWay_4 : decode cX6_requireWay 4 = .ok (.iload_n 2, 1) := by decide +kernel
theorem dX6_requireWay_5 : decode cX6_requireWay 5 = .ok (.iload_n 1, 1) := by decide +kernel
theorem dX6_requireWay_6 : decode cX6_requireWay 6 = .ok (.invokestatic 301, 3) := by decide +kernel
theorem dX6_requireWay_9 : decode cX6_requireWay 9 = .ok (.ifCond .lt 15, 3) := by decide +kernel
theorem dX6_requireWay_12 : decode cX6_requireWay 12 = .ok (.iload_n 3, 1) := by decide +kernel
theorem dX6_requireWay_13 : decode cX6_requireWay 13 = .ok (.iload_n 1, 1) := by decide +kernel
theorem dX6_requireWay_14 : decode cX6_requireWay 14 = .ok (.invokestatic 301, 3) := by decide +kernel
theorem dX6_requireWay_17 : decode cX6_requireWay 17 = .ok (.ifCond .lt 7, 3) := by decide +kernel
theorem dX6_requireWay_20 : decode cX6_requireWay 20 = .ok (.iconst 1, 1) := by decide +kernel
theorem dX6_requireWay_21 : decode cX6_requireWay 21 = .ok (.goto 28, 3) := by decide +kernel
theorem dX6_requireWay_24 : decode cX6_requireWay 24 = .ok (.iconst 0, 1) := by decide +kernel
theorem dX6_requireWay_25 : decode cX6_requireWay 25 = .ok (.goto 24, 3) := by decide +kernel
theorem dX6_requireWay_28 : decode cX6_requireWay 28 = .ok (.iload_n 1, 1) := by decide +kernel
theorem dX6_requireWay_29 : decode cX6_requireWay 29 = .ok (.iload_n 2, 1) := by decide +kernel
theorem dX6_requireWay_30 : decode cX6_requireWay 30 = .ok (.invokestatic 301, 3) := by decide +kernel
theorem dX6_requireWay_33 : decode cX6_requireWay 33 = .ok (.ifCond .lt 15, 3) := by decide +kernel
theorem dX6_requireWay_36 : decode cX6_requireWay 36 = .ok (.iload_n 1, 1) := by decide +kernel
theorem dX6_requireWay_37 : decode cX6_requireWay 37 = .ok (.iload_n 3, 1) := by decide +kernel
theorem dX6_requireWay_38 : decode cX6_requireWay 38 = .ok (.invokestatic 301, 3) := by decide +kernel
theorem dX6_requireWay_41 : decode cX6_requireWay 41 = .ok (.ifCond .lt 7, 3) := by decide +kernel
theorem dX6_requireWay_44 : decode cX6_requireWay 44 = .ok (.iconst 1, 1) := by decide +kernel
theorem dX6_requireWay_45 : decode cX6_requireWay 45 = .ok (.goto 4, 3) := by decide +kernel
theorem dX6_requireWay_48 : decode cX6_requireWay 48 = .ok (.iconst 0, 1) := by decide +kernel
theorem dX6_requireWay_49 : decode cX6_requireWay 49 = .ok (.istore 4, 2) := by decide +kernel
theorem dX6_requireWay_51 : decode cX6_requireWay 51 = .ok (.iload 4, 2) := by decide +kernel
theorem dX6_requireWay_53 : decode cX6_requireWay 53 = .ok (.ifCond .ne 14, 3) := by decide +kernel
theorem dX6_requireWay_56 : decode cX6_requireWay 56 = .ok (.new 292, 3) := by decide +kernel
theorem dX6_requireWay_59 : decode cX6_requireWay 59 = .ok (.dup, 1) := by decide +kernel
theorem dX6_requireWay_60 : decode cX6_requireWay 60 = .ok (.ldc_w 313, 3) := by decide +kernel
theorem dX6_requireWay_63 : decode cX6_requireWay 63 = .ok (.invokespecial 296, 3) := by decide +kernel
theorem dX6_requireWay_66 : decode cX6_requireWay 66 = .ok (.athrow, 1) := by decide +kernel
theorem dX6_requireWay_67 : decode cX6_requireWay 67 = .ok (.return_, 1) := by decide +kernel
theorem dX6_requireCalm_0 : decode cX6_requireCalm 0 = .ok (.aload_n 0, 1) := by decide +kernel
theorem dX6_requireCalm_1 : decode cX6_requireCalm 1 = .ok (.getfield 10, 3) := by decide +kernel
theorem dX6_requireCalm_4 : decode cX6_requireCalm 4 = .ok (.iload_n 1, 1) := by decide +kernel
theorem dX6_requireCalm_5 : decode cX6_requireCalm 5 = .ok (.invokevirtual 315, 3) := by decide +kernel
theorem dX6_requireCalm_8 : decode cX6_requireCalm 8 = .ok (.ifCond .eq 14, 3) := by decide +kernel
theorem dX6_requireCalm_11 : decode cX6_requireCalm 11 = .ok (.new 98, 3) := by decide +kernel
theorem dX6_requireCalm_14 : decode cX6_requireCalm 14 = .ok (.dup, 1) := by decide +kernel
theorem dX6_requireCalm_15 : decode cX6_requireCalm 15 = .ok (.ldc_w 318, 3) := by decide +kernel
theorem dX6_requireCalm_18 : decode cX6_requireCalm 18 = .ok (.invokespecial 102, 3) := by decide +kernel
theorem dX6_requireCalm_21 : decode cX6_requireCalm 21 = .ok (.athrow, 1) := by decide +kernel
theorem dX6_requireCalm_22 : decode cX6_requireCalm 22 = .ok (.return_, 1) := by decide +kernel
theorem dX6_requireDepth_0 : decode cX6_requireDepth 0 = .ok (.iload_n 0, 1) := by decide +kernel
theorem dX6_requireDepth_1 : decode cX6_requireDepth 1 = .ok (.ldc 138, 2) := by decide +kernel
theorem dX6_requireDepth_3 : decode cX6_requireDepth 3 = .ok (.if_icmp .ne 14, 3) := by decide +kernel
theorem dX6_requireDepth_6 : decode cX6_requireDepth 6 = .ok (.new 98, 3) := by decide +kernel
theorem dX6_requireDepth_9 : decode cX6_requireDepth 9 = .ok (.dup, 1) := by decide +kernel
theorem dX6_requireDepth_10 : decode cX6_requireDepth 10 = .ok (.ldc_w 320, 3) := by decide +kernel
theorem dX6_requireDepth_13 : decode cX6_requireDepth 13 = .ok (.invokespecial 102, 3) := by decide +kernel
theorem dX6_requireDepth_16 : decode cX6_requireDepth 16 = .ok (.athrow, 1) := by decide +kernel
theorem dX6_requireDepth_17 : decode cX6_requireDepth 17 = .ok (.iload_n 0, 1) := by decide +kernel
theorem dX6_requireDepth_18 : decode cX6_requireDepth 18 = .ok (.ireturn, 1) := by decide +kernel
theorem dX6_requireGauge_0 : decode cX6_requireGauge 0 = .ok (.aload_n 0, 1) := by decide +kernel
theorem dX6_requireGauge_1 : decode cX6_requireGauge 1 = .ok (.getfield 19, 3) := by decide +kernel
theorem dX6_requireGauge_4 : decode cX6_requireGauge 4 = .ok (.iload_n 1, 1) := by decide +kernel
theorem dX6_requireGauge_5 : decode cX6_requireGauge 5 = .ok (.invokevirtual 322, 3) := by decide +kernel
theorem dX6_requireGauge_8 : decode cX6_requireGauge 8 = .ok (.astore_n 2, 1) := by decide +kernel
theorem dX6_requireGauge_9 : decode cX6_requireGauge 9 = .ok (.aload_n 2, 1) := by decide +kernel
theorem dX6_requireGauge_10 : decode cX6_requireGauge 10 = .ok (.ifnonnull 14, 3) := by decide +kernel
theorem dX6_requireGauge_13 : decode cX6_requireGauge 13 = .ok (.new 225, 3) := by decide +kernel
theorem dX6_requireGauge_16 : decode cX6_requireGauge 16 = .ok (.dup, 1) := by decide +kernel
theorem dX6_requireGauge_17 : decode cX6_requireGauge 17 = .ok (.ldc_w 325, 3) := by decide +kernel
theorem dX6_requireGauge_20 : decode cX6_requireGauge 20 = .ok (.invokespecial 229, 3) := by decide +kernel
theorem dX6_requireGauge_23 : decode cX6_requireGauge 23 = .ok (.athrow, 1) := by decide +kernel
theorem dX6_requireGauge_24 : decode cX6_requireGauge 24 = .ok (.aload_n 2, 1) := by decide +kernel
theorem dX6_requireGauge_25 : decode cX6_requireGauge 25 = .ok (.areturn, 1) := by decide +kernel
theorem dX6_requireLine_0 : decode cX6_requireLine 0 = .ok (.aload_n 0, 1) := by decide +kernel
theorem dX6_requireLine_1 : decode cX6_requireLine 1 = .ok (.iload_n 1, 1) := by decide +kernel
theorem dX6_requireLine_2 : decode cX6_requireLine 2 = .ok (.invokevirtual 238, 3) := by decide +kernel
theorem dX6_requireLine_5 : decode cX6_requireLine 5 = .ok (.astore_n 2, 1) := by decide +kernel
theorem dX6_requireLine_6 : decode cX6_requireLine 6 = .ok (.aload_n 2, 1) := by decide +kernel
theorem dX6_requireLine_7 : decode cX6_requireLine 7 = .ok (.ifnonnull 14, 3) := by decide +kernel
theorem dX6_requireLine_10 : decode cX6_requireLine 10 = .ok (.new 225, 3) := by decide +kernel
theorem dX6_requireLine_13 : decode cX6_requireLine 13 = .ok (.dup, 1) := by decide +kernel
theorem dX6_requireLine_14 : decode cX6_requireLine 14 = .ok (.ldc_w 327, 3) := by decide +kernel
theorem dX6_requireLine_17 : decode cX6_requireLine 17 = .ok (.invokespecial 229, 3) := by decide +kernel
theorem dX6_requireLine_20 : decode cX6_requireLine 20 = .ok (.athrow, 1) := by decide +kernel
theorem dX6_requireLine_21 : decode cX6_requireLine 21 = .ok (.aload_n 2, 1) := by decide +kernel
theorem dX6_requireLine_22 : decode cX6_requireLine 22 = .ok (.areturn, 1) := by decide +kernel
theorem dX6_requireSounded_0 : decode cX6_requireSounded 0 = .ok (.aload_n 0, 1) := by decide +kernel
theorem dX6_requireSounded_1 : decode cX6_requireSounded 1 = .ok (.iload_n 1, 1) := by decide +kernel
theorem dX6_requireSounded_2 : decode cX6_requireSounded 2 = .ok (.invokevirtual 171, 3) := by decide +kernel
theorem dX6_requireSounded_5 : decode cX6_requireSounded 5 = .ok (.astore 4, 2) := by decide +kernel
theorem dX6_requireSounded_7 : decode cX6_requireSounded 7 = .ok (.aload 4, 2) := by decide +kernel
theorem dX6_requireSounded_9 : decode cX6_requireSounded 9 = .ok (.iload_n 2, 1) := by decide +kernel
theorem dX6_requireSounded_10 : decode cX6_requireSounded 10 = .ok (.iload_n 3, 1) := by decide +kernel
theorem dX6_requireSounded_11 : decode cX6_requireSounded 11 = .ok (.invokevirtual 329, 3) := by decide +kernel
theorem dX6_requireSounded_14 : decode cX6_requireSounded 14 = .ok (.ifCond .ne 14, 3) := by decide +kernel
theorem dX6_requireSounded_17 : decode cX6_requireSounded 17 = .ok (.new 292, 3) := by decide +kernel
theorem dX6_requireSounded_20 : decode cX6_requireSounded 20 = .ok (.dup, 1) := by decide +kernel
theorem dX6_requireSounded_21 : decode cX6_requireSounded 21 = .ok (.ldc_w 332, 3) := by decide +kernel
theorem dX6_requireSounded_24 : decode cX6_requireSounded 24 = .ok (.invokespecial 296, 3) := by decide +kernel
theorem dX6_requireSounded_27 : decode cX6_requireSounded 27 = .ok (.athrow, 1) := by decide +kernel
theorem dX6_requireSounded_28 : decode cX6_requireSounded 28 = .ok (.aload 4, 2) := by decide +kernel
theorem dX6_requireSounded_30 : decode cX6_requireSounded 30 = .ok (.areturn, 1) := by decide +kernel
theorem dX6_cellNumber_0 : decode cX6_cellNumber 0 = .ok (.iload_n 0, 1) := by decide +kernel
theorem dX6_cellNumber_1 : decode cX6_cellNumber 1 = .ok (.ifCond .lt 23, 3) := by decide +kernel
theorem dX6_cellNumber_4 : decode cX6_cellNumber 4 = .ok (.iload_n 0, 1) := by decide +kernel
theorem dX6_cellNumber_5 : decode cX6_cellNumber 5 = .ok (.bipush 20, 2) := by decide +kernel
theorem dX6_cellNumber_7 : decode cX6_cellNumber 7 = .ok (.if_icmp .ge 17, 3) := by decide +kernel
theorem dX6_cellNumber_10 : decode cX6_cellNumber 10 = .ok (.iload_n 1, 1) := by decide +kernel
theorem dX6_cellNumber_11 : decode cX6_cellNumber 11 = .ok (.ifCond .lt 13, 3) := by decide +kernel
theorem dX6_cellNumber_14 : decode cX6_cellNumber 14 = .ok (.iload_n 1, 1) := by decide +kernel
theorem dX6_cellNumber_15 : decode cX6_cellNumber 15 = .ok (.bipush 12, 2) := by decide +kernel
theorem dX6_cellNumber_17 : decode cX6_cellNumber 17 = .ok (.if_icmp .ge 7, 3) := by decide +kernel
theorem dX6_cellNumber_20 : decode cX6_cellNumber 20 = .ok (.iconst 1, 1) := by decide +kernel
theorem dX6_cellNumber_21 : decode cX6_cellNumber 21 = .ok (.goto 4, 3) := by decide +kernel
theorem dX6_cellNumber_24 : decode cX6_cellNumber 24 = .ok (.iconst 0, 1) := by decide +kernel
theorem dX6_cellNumber_25 : decode cX6_cellNumber 25 = .ok (.istore_n 2, 1) := by decide +kernel
theorem dX6_cellNumber_26 : decode cX6_cellNumber 26 = .ok (.iload_n 2, 1) := by decide +kernel
theorem dX6_cellNumber_27 : decode cX6_cellNumber 27 = .ok (.ifCond .eq 12, 3) := by decide +kernel
theorem dX6_cellNumber_30 : decode cX6_cellNumber 30 = .ok (.iload_n 1, 1) := by decide +kernel
theorem dX6_cellNumber_31 : decode cX6_cellNumber 31 = .ok (.bipush 20, 2) := by decide +kernel
theorem dX6_cellNumber_33 : decode cX6_cellNumber 33 = .ok (.imul, 1) := by decide +kernel
theorem dX6_cellNumber_34 : decode cX6_cellNumber 34 = .ok (.iload_n 0, 1) := by decide +kernel
theorem dX6_cellNumber_35 : decode cX6_cellNumber 35 = .ok (.iadd, 1) := by decide +kernel
theorem dX6_cellNumber_36 : decode cX6_cellNumber 36 = .ok (.goto 4, 3) := by decide +kernel
theorem dX6_cellNumber_39 : decode cX6_cellNumber 39 = .ok (.iconst (-1), 1) := by decide +kernel
theorem dX6_cellNumber_40 : decode cX6_cellNumber 40 = .ok (.ireturn, 1) := by decide +kernel
theorem dX6_hourNumber_0 : decode cX6_hourNumber 0 = .ok (.iload_n 0, 1) := by decide +kernel
theorem dX6_hourNumber_1 : decode cX6_hourNumber 1 = .ok (.ifCond .lt 23, 3) := by decide +kernel
theorem dX6_hourNumber_4 : decode cX6_hourNumber 4 = .ok (.iload_n 0, 1) := by decide +kernel
theorem dX6_hourNumber_5 : decode cX6_hourNumber 5 = .ok (.bipush 10, 2) := by decide +kernel
theorem dX6_hourNumber_7 : decode cX6_hourNumber 7 = .ok (.if_icmp .ge 17, 3) := by decide +kernel
theorem dX6_hourNumber_10 : decode cX6_hourNumber 10 = .ok (.iload_n 1, 1) := by decide +kernel
theorem dX6_hourNumber_11 : decode cX6_hourNumber 11 = .ok (.ifCond .lt 13, 3) := by decide +kernel
theorem dX6_hourNumber_14 : decode cX6_hourNumber 14 = .ok (.iload_n 1, 1) := by decide +kernel
theorem dX6_hourNumber_15 : decode cX6_hourNumber 15 = .ok (.bipush 24, 2) := by decide +kernel
theorem dX6_hourNumber_17 : decode cX6_hourNumber 17 = .ok (.if_icmp .ge 7, 3) := by decide +kernel
theorem dX6_hourNumber_20 : decode cX6_hourNumber 20 = .ok (.iconst 1, 1) := by decide +kernel
theorem dX6_hourNumber_21 : decode cX6_hourNumber 21 = .ok (.goto 4, 3) := by decide +kernel
theorem dX6_hourNumber_24 : decode cX6_hourNumber 24 = .ok (.iconst 0, 1) := by decide +kernel
theorem dX6_hourNumber_25 : decode cX6_hourNumber 25 = .ok (.istore_n 2, 1) := by decide +kernel
theorem dX6_hourNumber_26 : decode cX6_hourNumber 26 = .ok (.iload_n 2, 1) := by decide +kernel
theorem dX6_hourNumber_27 : decode cX6_hourNumber 27 = .ok (.ifCond .eq 12, 3) := by decide +kernel
theorem dX6_hourNumber_30 : decode cX6_hourNumber 30 = .ok (.iload_n 0, 1) := by decide +kernel
theorem dX6_hourNumber_31 : decode cX6_hourNumber 31 = .ok (.bipush 24, 2) := by decide +kernel
theorem dX6_hourNumber_33 : decode cX6_hourNumber 33 = .ok (.imul, 1) := by decide +kernel
theorem dX6_hourNumber_34 : decode cX6_hourNumber 34 = .ok (.iload_n 1, 1) := by decide +kernel
theorem dX6_hourNumber_35 : decode cX6_hourNumber 35 = .ok (.iadd, 1) := by decide +kernel
theorem dX6_hourNumber_36 : decode cX6_hourNumber 36 = .ok (.goto 4, 3) := by decide +kernel
theorem dX6_hourNumber_39 : decode cX6_hourNumber 39 = .ok (.iconst (-1), 1) := by decide +kernel
theorem dX6_hourNumber_40 : decode cX6_hourNumber 40 = .ok (.ireturn, 1) := by decide +kernel
theorem dX6_between_0 : decode cX6_between 0 = .ok (.iload_n 3, 1) := by decide +kernel
theorem dX6_between_1 : decode cX6_between 1 = .ok (.ifCond .le 17, 3) := by decide +kernel
theorem dX6_between_4 : decode cX6_between 4 = .ok (.iload_n 0, 1) := by decide +kernel
theorem dX6_between_5 : decode cX6_between 5 = .ok (.iload_n 1, 1) := by decide +kernel
theorem dX6_between_6 : decode cX6_between 6 = .ok (.iload_n 0, 1) := by decide +kernel
theorem dX6_between_7 : decode cX6_between 7 = .ok (.isub, 1) := by decide +kernel
theorem dX6_between_8 : decode cX6_between 8 = .ok (.iload_n 2, 1) := by decide +kernel
theorem dX6_between_9 : decode cX6_between 9 = .ok (.imul, 1) := by decide +kernel
theorem dX6_between_10 : decode cX6_between 10 = .ok (.iload_n 3, 1) := by decide +kernel
theorem dX6_between_11 : decode cX6_between 11 = .ok (.invokestatic 334, 3) := by decide +kernel
theorem dX6_between_14 : decode cX6_between 14 = .ok (.iadd, 1) := by decide +kernel
theorem dX6_between_15 : decode cX6_between 15 = .ok (.goto 4, 3) := by decide +kernel
theorem dX6_between_18 : decode cX6_between 18 = .ok (.iload_n 0, 1) := by decide +kernel
theorem dX6_between_19 : decode cX6_between 19 = .ok (.ireturn, 1) := by decide +kernel
theorem dX6_lineOrNull_0 : decode cX6_lineOrNull 0 = .ok (.iload_n 1, 1) := by decide +kernel
theorem dX6_lineOrNull_1 : decode cX6_lineOrNull 1 = .ok (.ifCond .lt 29, 3) := by decide +kernel
theorem dX6_lineOrNull_4 : decode cX6_lineOrNull 4 = .ok (.iload_n 1, 1) := by decide +kernel
theorem dX6_lineOrNull_5 : decode cX6_lineOrNull 5 = .ok (.aload_n 0, 1) := by decide +kernel
theorem dX6_lineOrNull_6 : decode cX6_lineOrNull 6 = .ok (.getfield 29, 3) := by decide +kernel
theorem dX6_lineOrNull_9 : decode cX6_lineOrNull 9 = .ok (.if_icmp .ge 21, 3) := by decide +kernel
theorem dX6_lineOrNull_12 : decode cX6_lineOrNull 12 = .ok (.iload_n 1, 1) := by decide +kernel
theorem dX6_lineOrNull_13 : decode cX6_lineOrNull 13 = .ok (.aload_n 0, 1) := by decide +kernel
theorem dX6_lineOrNull_14 : decode cX6_lineOrNull 14 = .ok (.getfield 25, 3) := by decide +kernel
theorem dX6_lineOrNull_17 : decode cX6_lineOrNull 17 = .ok (.arraylength, 1) := by decide +kernel
theorem dX6_lineOrNull_18 : decode cX6_lineOrNull 18 = .ok (.if_icmp .ge 12, 3) := by decide +kernel
theorem dX6_lineOrNull_21 : decode cX6_lineOrNull 21 = .ok (.aload_n 0, 1) := by decide +kernel
theorem dX6_lineOrNull_22 : decode cX6_lineOrNull 22 = .ok (.getfield 25, 3) := by decide +kernel
theorem dX6_lineOrNull_25 : decode cX6_lineOrNull 25 = .ok (.iload_n 1, 1) := by decide +kernel
theorem dX6_lineOrNull_26 : decode cX6_lineOrNull 26 = .ok (.aaload, 1) := by decide +kernel
theorem dX6_lineOrNull_27 : decode cX6_lineOrNull 27 = .ok (.goto 4, 3) := by decide +kernel
theorem dX6_lineOrNull_30 : decode cX6_lineOrNull 30 = .ok (.aconst_null, 1) := by decide +kernel
theorem dX6_lineOrNull_31 : decode cX6_lineOrNull 31 = .ok (.areturn, 1) := by decide +kernel
theorem dX6_refresh_0 : decode cX6_refresh 0 = .ok (.aload_n 0, 1) := by decide +kernel
theorem dX6_refresh_1 : decode cX6_refresh 1 = .ok (.getfield 36, 3) := by decide +kernel
theorem dX6_refresh_4 : decode cX6_refresh 4 = .ok (.invokevirtual 337, 3) := by decide +kernel
theorem dX6_refresh_7 : decode cX6_refresh 7 = .ok (.iconst 0, 1) := by decide +kernel
theorem dX6_refresh_8 : decode cX6_refresh 8 = .ok (.istore_n 1, 1) := by decide +kernel
theorem dX6_refresh_9 : decode cX6_refresh 9 = .ok (.iload_n 1, 1) := by decide +kernel
theorem dX6_refresh_10 : decode cX6_refresh 10 = .ok (.aload_n 0, 1) := by decide +kernel
theorem dX6_refresh_11 : decode cX6_refresh 11 = .ok (.getfield 29, 3) := by decide +kernel
theorem dX6_refresh_14 : decode cX6_refresh 14 = .ok (.if_icmp .ge 39, 3) := by decide +kernel
theorem dX6_refresh_17 : decode cX6_refresh 17 = .ok (.aload_n 0, 1) := by decide +kernel
theorem dX6_refresh_18 : decode cX6_refresh 18 = .ok (.iload_n 1, 1) := by decide +kernel
theorem dX6_refresh_19 : decode cX6_refresh 19 = .ok (.invokevirtual 238, 3) := by decide +kernel
theorem dX6_refresh_22 : decode cX6_refresh 22 = .ok (.astore_n 2, 1) := by decide +kernel
theorem dX6_refresh_23 : decode cX6_refresh 23 = .ok (.aload_n 2, 1) := by decide +kernel
theorem dX6_refresh_24 : decode cX6_refresh 24 = .ok (.ifnull 23, 3) := by decide +kernel
theorem dX6_refresh_27 : decode cX6_refresh 27 = .ok (.aload_n 2, 1) := by decide +kernel
theorem dX6_refresh_28 : decode cX6_refresh 28 = .ok (.aload_n 0, 1) := by decide +kernel
theorem dX6_refresh_29 : decode cX6_refresh 29 = .ok (.getfield 19, 3) := by decide +kernel
theorem dX6_refresh_32 : decode cX6_refresh 32 = .ok (.aload_n 0, 1) := by decide +kernel
theorem dX6_refresh_33 : decode cX6_refresh 33 = .ok (.getfield 10, 3) := by decide +kernel
theorem dX6_refresh_36 : decode cX6_refresh 36 = .ok (.invokevirtual 340, 3) := by decide +kernel
theorem dX6_refresh_39 : decode cX6_refresh 39 = .ok (.aload_n 2, 1) := by decide +kernel
theorem dX6_refresh_40 : decode cX6_refresh 40 = .ok (.aload_n 0, 1) := by decide +kernel
theorem dX6_refresh_41 : decode cX6_refresh 41 = .ok (.getfield 36, 3) := by decide +kernel
theorem dX6_refresh_44 : decode cX6_refresh 44 = .ok (.invokevirtual 344, 3) := by decide +kernel
theorem dX6_refresh_47 : decode cX6_refresh 47 = .ok (.iinc 1 1, 3) := by decide +kernel
theorem dX6_refresh_50 : decode cX6_refresh 50 = .ok (.goto (-41), 3) := by decide +kernel
theorem dX6_refresh_53 : decode cX6_refresh 53 = .ok (.return_, 1) := by decide +kernel
theorem dX6_reduceLines_0 : decode cX6_reduceLines 0 = .ok (.iconst 0, 1) := by decide +kernel
theorem dX6_reduceLines_1 : decode cX6_reduceLines 1 = .ok (.istore_n 1, 1) := by decide +kernel
theorem dX6_reduceLines_2 : decode cX6_reduceLines 2 = .ok (.iload_n 1, 1) := by decide +kernel
theorem dX6_reduceLines_3 : decode cX6_reduceLines 3 = .ok (.aload_n 0, 1) := by decide +kernel
theorem dX6_reduceLines_4 : decode cX6_reduceLines 4 = .ok (.getfield 29, 3) := by decide +kernel
theorem dX6_reduceLines_7 : decode cX6_reduceLines 7 = .ok (.if_icmp .ge 31, 3) := by decide +kernel
theorem dX6_reduceLines_10 : decode cX6_reduceLines 10 = .ok (.aload_n 0, 1) := by decide +kernel
theorem dX6_reduceLines_11 : decode cX6_reduceLines 11 = .ok (.iload_n 1, 1) := by decide +kernel
theorem dX6_reduceLines_12 : decode cX6_reduceLines 12 = .ok (.invokevirtual 238, 3) := by decide +kernel
theorem dX6_reduceLines_15 : decode cX6_reduceLines 15 = .ok (.astore_n 2, 1) := by decide +kernel
theorem dX6_reduceLines_16 : decode cX6_reduceLines 16 = .ok (.aload_n 2, 1) := by decide +kernel
theorem dX6_reduceLines_17 : decode cX6_reduceLines 17 = .ok (.ifnull 15, 3) := by decide +kernel
theorem dX6_reduceLines_20 : decode cX6_reduceLines 20 = .ok (.aload_n 2, 1) := by decide +kernel
theorem dX6_reduceLines_21 : decode cX6_reduceLines 21 = .ok (.aload_n 0, 1) := by decide +kernel
theorem dX6_reduceLines_22 : decode cX6_reduceLines 22 = .ok (.getfield 19, 3) := by decide +kernel
theorem dX6_reduceLines_25 : decode cX6_reduceLines 25 = .ok (.aload_n 0, 1) := by decide +kernel
theorem dX6_reduceLines_26 : decode cX6_reduceLines 26 = .ok (.getfield 10, 3) := by decide +kernel
theorem dX6_reduceLines_29 : decode cX6_reduceLines 29 = .ok (.invokevirtual 340, 3) := by decide +kernel
theorem dX6_reduceLines_32 : decode cX6_reduceLines 32 = .ok (.iinc 1 1, 3) := by decide +kernel
theorem dX6_reduceLines_35 : decode cX6_reduceLines 35 = .ok (.goto (-33), 3) := by decide +kernel
theorem dX6_reduceLines_38 : decode cX6_reduceLines 38 = .ok (.return_, 1) := by decide +kernel
theorem dX6_leastDepth_0 : decode cX6_leastDepth 0 = .ok (.ldc 138, 2) := by decide +kernel
theorem dX6_leastDepth_2 : decode cX6_leastDepth 2 = .ok (.istore_n 3, 1) := by decide +kernel
theorem dX6_leastDepth_3 : decode cX6_leastDepth 3 = .ok (.iconst 0, 1) := by decide +kernel
theorem dX6_leastDepth_4 : decode cX6_leastDepth 4 = .ok (.istore 4, 2) := by decide +kernel
theorem dX6_leastDepth_6 : decode cX6_leastDepth 6 = .ok (.iload 4, 2) := by decide +kernel
theorem dX6_leastDepth_8 : decode cX6_leastDepth 8 = .ok (.aload_n 0, 1) := by decide +kernel
theorem dX6_leastDepth_9 : decode cX6_leastDepth 9 = .ok (.getfield 29, 3) := by decide +kernel
theorem dX6_leastDepth_12 : decode cX6_leastDepth 12 = .ok (.if_icmp .ge 58, 3) := by decide +kernel
theorem dX6_leastDepth_15 : decode cX6_leastDepth 15 = .ok (.aload_n 0, 1) := by decide +kernel
theorem dX6_leastDepth_16 : decode cX6_leastDepth 16 = .ok (.iload 4, 2) := by decide +kernel
theorem dX6_leastDepth_18 : decode cX6_leastDepth 18 = .ok (.invokevirtual 238, 3) := by decide +kernel
theorem dX6_leastDepth_21 : decode cX6_leastDepth 21 = .ok (.astore 5, 2) := by decide +kernel
theorem dX6_leastDepth_23 : decode cX6_leastDepth 23 = .ok (.aload 5, 2) := by decide +kernel
theorem dX6_leastDepth_25 : decode cX6_leastDepth 25 = .ok (.ifnonnull 8, 3) := by decide +kernel
theorem dX6_leastDepth_28 : decode cX6_leastDepth 28 = .ok (.ldc 138, 2) := by decide +kernel
theorem dX6_leastDepth_30 : decode cX6_leastDepth 30 = .ok (.goto 10, 3) := by decide +kernel
theorem dX6_leastDepth_33 : decode cX6_leastDepth 33 = .ok (.aload 5, 2) := by decide +kernel
theorem dX6_leastDepth_35 : decode cX6_leastDepth 35 = .ok (.iload_n 1, 1) := by decide +kernel
theorem dX6_leastDepth_36 : decode cX6_leastDepth 36 = .ok (.iload_n 2, 1) := by decide +kernel
theorem dX6_leastDepth_37 : decode cX6_leastDepth 37 = .ok (.invokevirtual 348, 3) := by decide +kernel
theorem dX6_leastDepth_40 : decode cX6_leastDepth 40 = .ok (.istore 6, 2) := by decide +kernel
theorem dX6_leastDepth_42 : decode cX6_leastDepth 42 = .ok (.iload 6, 2) := by decide +kernel
theorem dX6_leastDepth_44 : decode cX6_leastDepth 44 = .ok (.ldc 138, 2) := by decide +kernel
theorem dX6_leastDepth_46 : decode cX6_leastDepth 46 = .ok (.if_icmp .eq 18, 3) := by decide +kernel
theorem dX6_leastDepth_49 : decode cX6_leastDepth 49 = .ok (.iload_n 3, 1) := by decide +kernel
theorem dX6_leastDepth_50 : decode cX6_leastDepth 50 = .ok (.ldc 138, 2) := by decide +kernel
theorem dX6_leastDepth_52 : decode cX6_leastDepth 52 = .ok (.if_icmp .eq 9, 3) := by decide +kernel
theorem dX6_leastDepth_55 : decode cX6_leastDepth 55 = .ok (.iload 6, 2) := by decide +kernel
theorem dX6_leastDepth_57 : decode cX6_leastDepth 57 = .ok (.iload_n 3, 1) := by decide +kernel
theorem dX6_leastDepth_58 : decode cX6_leastDepth 58 = .ok (.if_icmp .ge 6, 3) := by decide +kernel
theorem dX6_leastDepth_61 : decode cX6_leastDepth 61 = .ok (.iload 6, 2) := by decide +kernel
theorem dX6_leastDepth_63 : decode cX6_leastDepth 63 = .ok (.istore_n 3, 1) := by decide +kernel
theorem dX6_leastDepth_64 : decode cX6_leastDepth 64 = .ok (.iinc 4 1, 3) := by decide +kernel
theorem dX6_leastDepth_67 : decode cX6_leastDepth 67 = .ok (.goto (-61), 3) := by decide +kernel
theorem dX6_leastDepth_70 : decode cX6_leastDepth 70 = .ok (.iload_n 3, 1) := by decide +kernel
theorem dX6_leastDepth_71 : decode cX6_leastDepth 71 = .ok (.ireturn, 1) := by decide +kernel
theorem dX6_gainOfRow_0 : decode cX6_gainOfRow 0 = .ok (.iconst 0, 1) := by decide +kernel
theorem dX6_gainOfRow_1 : decode cX6_gainOfRow 1 = .ok (.istore_n 2, 1) := by decide +kernel
theorem dX6_gainOfRow_2 : decode cX6_gainOfRow 2 = .ok (.iconst 0, 1) := by decide +kernel
theorem dX6_gainOfRow_3 : decode cX6_gainOfRow 3 = .ok (.istore_n 3, 1) := by decide +kernel
theorem dX6_gainOfRow_4 : decode cX6_gainOfRow 4 = .ok (.iload_n 3, 1) := by decide +kernel
theorem dX6_gainOfRow_5 : decode cX6_gainOfRow 5 = .ok (.bipush 20, 2) := by decide +kernel
theorem dX6_gainOfRow_7 : decode cX6_gainOfRow 7 = .ok (.if_icmp .ge 56, 3) := by decide +kernel
theorem dX6_gainOfRow_10 : decode cX6_gainOfRow 10 = .ok (.aload_n 0, 1) := by decide +kernel
theorem dX6_gainOfRow_11 : decode cX6_gainOfRow 11 = .ok (.getfield 10, 3) := by decide +kernel
theorem dX6_gainOfRow_14 : decode cX6_gainOfRow 14 = .ok (.iload_n 3, 1) := by decide +kernel
theorem dX6_gainOfRow_15 : decode cX6_gainOfRow 15 = .ok (.iload_n 1, 1) := by decide +kernel
theorem dX6_gainOfRow_16 : decode cX6_gainOfRow 16 = .ok (.invokevirtual 351, 3) := by decide +kernel
theorem dX6_gainOfRow_19 : decode cX6_gainOfRow 19 = .ok (.istore 4, 2) := by decide +kernel
theorem dX6_gainOfRow_21 : decode cX6_gainOfRow 21 = .ok (.iload 4, 2) := by decide +kernel
theorem dX6_gainOfRow_23 : decode cX6_gainOfRow 23 = .ok (.ineg, 1) := by decide +kernel
theorem dX6_gainOfRow_24 : decode cX6_gainOfRow 24 = .ok (.istore 5, 2) := by decide +kernel
theorem dX6_gainOfRow_26 : decode cX6_gainOfRow 26 = .ok (.iload 5, 2) := by decide +kernel
theorem dX6_gainOfRow_28 : decode cX6_gainOfRow 28 = .ok (.iload 4, 2) := by decide +kernel
theorem dX6_gainOfRow_30 : decode cX6_gainOfRow 30 = .ok (.if_icmp .gt 27, 3) := by decide +kernel
theorem dX6_gainOfRow_33 : decode cX6_gainOfRow 33 = .ok (.aload_n 0, 1) := by decide +kernel
theorem dX6_gainOfRow_34 : decode cX6_gainOfRow 34 = .ok (.getfield 36, 3) := by decide +kernel
theorem dX6_gainOfRow_37 : decode cX6_gainOfRow 37 = .ok (.iload_n 3, 1) := by decide +kernel
theorem dX6_gainOfRow_38 : decode cX6_gainOfRow 38 = .ok (.iload_n 1, 1) := by decide +kernel
theorem dX6_gainOfRow_39 : decode cX6_gainOfRow 39 = .ok (.iload 5, 2) := by decide +kernel
theorem dX6_gainOfRow_41 : decode cX6_gainOfRow 41 = .ok (.iadd, 1) := by decide +kernel
theorem dX6_gainOfRow_42 : decode cX6_gainOfRow 42 = .ok (.invokevirtual 354, 3) := by decide +kernel
theorem dX6_gainOfRow_45 : decode cX6_gainOfRow 45 = .ok (.ifCond .eq 6, 3) := by decide +kernel
theorem dX6_gainOfRow_48 : decode cX6_gainOfRow 48 = .ok (.iinc 2 1, 3) := by decide +kernel
theorem dX6_gainOfRow_51 : decode cX6_gainOfRow 51 = .ok (.iinc 5 1, 3) := by decide +kernel
theorem dX6_gainOfRow_54 : decode cX6_gainOfRow 54 = .ok (.goto (-28), 3) := by decide +kernel
theorem dX6_gainOfRow_57 : decode cX6_gainOfRow 57 = .ok (.iinc 3 1, 3) := by decide +kernel
theorem dX6_gainOfRow_60 : decode cX6_gainOfRow 60 = .ok (.goto (-56), 3) := by decide +kernel
theorem dX6_gainOfRow_63 : decode cX6_gainOfRow 63 = .ok (.iload_n 2, 1) := by decide +kernel
theorem dX6_gainOfRow_64 : decode cX6_gainOfRow 64 = .ok (.ireturn, 1) := by decide +kernel
theorem dX6_hoursBehind_0 : decode cX6_hoursBehind 0 = .ok (.iload_n 1, 1) := by decide +kernel
theorem dX6_hoursBehind_1 : decode cX6_hoursBehind 1 = .ok (.iload_n 0, 1) := by decide +kernel
theorem dX6_hoursBehind_2 : decode cX6_hoursBehind 2 = .ok (.isub, 1) := by decide +kernel
theorem dX6_hoursBehind_3 : decode cX6_hoursBehind 3 = .ok (.invokestatic 357, 3) := by decide +kernel
theorem dX6_hoursBehind_6 : decode cX6_hoursBehind 6 = .ok (.iconst 5, 1) := by decide +kernel
theorem dX6_hoursBehind_7 : decode cX6_hoursBehind 7 = .ok (.idiv, 1) := by decide +kernel
theorem dX6_hoursBehind_8 : decode cX6_hoursBehind 8 = .ok (.ireturn, 1) := by decide +kernel
theorem dX6_isFree_0 : decode cX6_isFree 0 = .ok (.iload 4, 2) := by decide +kernel
theorem dX6_isFree_2 : decode cX6_isFree 2 = .ok (.iload_n 2, 1) := by decide +kernel
theorem dX6_isFree_3 : decode cX6_isFree 3 = .ok (.iadd, 1) := by decide +kernel
theorem dX6_isFree_4 : decode cX6_isFree 4 = .ok (.istore 5, 2) := by decide +kernel
theorem dX6_isFree_6 : decode cX6_isFree 6 = .ok (.iload 5, 2) := by decide +kernel
theorem dX6_isFree_8 : decode cX6_isFree 8 = .ok (.bipush 24, 2) := by decide +kernel
theorem dX6_isFree_10 : decode cX6_isFree 10 = .ok (.if_icmp .lt 5, 3) := by decide +kernel
theorem dX6_isFree_13 : decode cX6_isFree 13 = .ok (.iconst 0, 1) := by decide +kernel
theorem dX6_isFree_14 : decode cX6_isFree 14 = .ok (.ireturn, 1) := by decide +kernel
theorem dX6_isFree_15 : decode cX6_isFree 15 = .ok (.iconst 0, 1) := by decide +kernel
theorem dX6_isFree_16 : decode cX6_isFree 16 = .ok (.istore 6, 2) := by decide +kernel
theorem dX6_isFree_18 : decode cX6_isFree 18 = .ok (.iload 6, 2) := by decide +kernel
theorem dX6_isFree_20 : decode cX6_isFree 20 = .ok (.aload_n 0, 1) := by decide +kernel
theorem dX6_isFree_21 : decode cX6_isFree 21 = .ok (.getfield 29, 3) := by decide +kernel
theorem dX6_isFree_24 : decode cX6_isFree 24 = .ok (.if_icmp .ge 43, 3) := by decide +kernel
theorem dX6_isFree_27 : decode cX6_isFree 27 = .ok (.aload_n 0, 1) := by decide +kernel
theorem dX6_isFree_28 : decode cX6_isFree 28 = .ok (.iload 6, 2) := by decide +kernel
theorem dX6_isFree_30 : decode cX6_isFree 30 = .ok (.invokevirtual 238, 3) := by decide +kernel
theorem dX6_isFree_33 : decode cX6_isFree 33 = .ok (.astore 7, 2) := by decide +kernel
theorem dX6_isFree_35 : decode cX6_isFree 35 = .ok (.aload 7, 2) := by decide +kernel
theorem dX6_isFree_37 : decode cX6_isFree 37 = .ok (.ifnull 24, 3) := by decide +kernel
theorem dX6_isFree_40 : decode cX6_isFree 40 = .ok (.aload 7, 2) := by decide +kernel
theorem dX6_isFree_42 : decode cX6_isFree 42 = .ok (.aload_n 1, 1) := by decide +kernel
theorem dX6_isFree_43 : decode cX6_isFree 43 = .ok (.if_acmp .eq 18, 3) := by decide +kernel
theorem dX6_isFree_46 : decode cX6_isFree 46 = .ok (.aload 7, 2) := by decide +kernel
theorem dX6_isFree_48 : decode cX6_isFree 48 = .ok (.iload_n 3, 1) := by decide +kernel
theorem dX6_isFree_49 : decode cX6_isFree 49 = .ok (.iload 4, 2) := by decide +kernel
theorem dX6_isFree_51 : decode cX6_isFree 51 = .ok (.iload 5, 2) := by decide +kernel
theorem dX6_isFree_53 : decode cX6_isFree 53 = .ok (.invokevirtual 360, 3) := by decide +kernel
theorem dX6_isFree_56 : decode cX6_isFree 56 = .ok (.ifCond .eq 5, 3) := by decide +kernel
theorem dX6_isFree_59 : decode cX6_isFree 59 = .ok (.iconst 0, 1) := by decide +kernel
theorem dX6_isFree_60 : decode cX6_isFree 60 = .ok (.ireturn, 1) := by decide +kernel
theorem dX6_isFree_61 : decode cX6_isFree 61 = .ok (.iinc 6 1, 3) := by decide +kernel
theorem dX6_isFree_64 : decode cX6_isFree 64 = .ok (.goto (-46), 3) := by decide +kernel
theorem dX6_isFree_67 : decode cX6_isFree 67 = .ok (.iconst 1, 1) := by decide +kernel
theorem dX6_isFree_68 : decode cX6_isFree 68 = .ok (.ireturn, 1) := by decide +kernel
theorem dX6_misfit_0 : decode cX6_misfit 0 = .ok (.aload_n 0, 1) := by decide +kernel
theorem dX6_misfit_1 : decode cX6_misfit 1 = .ok (.ifnull 15, 3) := by decide +kernel
theorem dX6_misfit_4 : decode cX6_misfit 4 = .ok (.aload_n 1, 1) := by decide +kernel
theorem dX6_misfit_5 : decode cX6_misfit 5 = .ok (.ifnull 11, 3) := by decide +kernel
theorem dX6_misfit_8 : decode cX6_misfit 8 = .ok (.aload_n 0, 1) := by decide +kernel
theorem dX6_misfit_9 : decode cX6_misfit 9 = .ok (.aload_n 1, 1) := by decide +kernel
theorem dX6_misfit_10 : decode cX6_misfit 10 = .ok (.invokevirtual 241, 3) := by decide +kernel
theorem dX6_misfit_13 : decode cX6_misfit 13 = .ok (.ifCond .ne 6, 3) := by decide +kernel
theorem dX6_misfit_16 : decode cX6_misfit 16 = .ok (.ldc 138, 2) := by decide +kernel
theorem dX6_misfit_18 : decode cX6_misfit 18 = .ok (.ireturn, 1) := by decide +kernel
theorem dX6_misfit_19 : decode cX6_misfit 19 = .ok (.aload_n 0, 1) := by decide +kernel
theorem dX6_misfit_20 : decode cX6_misfit 20 = .ok (.aload_n 1, 1) := by decide +kernel
theorem dX6_misfit_21 : decode cX6_misfit 21 = .ok (.invokevirtual 247, 3) := by decide +kernel
theorem dX6_misfit_24 : decode cX6_misfit 24 = .ok (.istore_n 2, 1) := by decide +kernel
theorem dX6_misfit_25 : decode cX6_misfit 25 = .ok (.iload_n 2, 1) := by decide +kernel
theorem dX6_misfit_26 : decode cX6_misfit 26 = .ok (.ldc 138, 2) := by decide +kernel
theorem dX6_misfit_28 : decode cX6_misfit 28 = .ok (.if_icmp .ne 8, 3) := by decide +kernel
theorem dX6_misfit_31 : decode cX6_misfit 31 = .ok (.ldc 138, 2) := by decide +kernel
theorem dX6_misfit_33 : decode cX6_misfit 33 = .ok (.goto 7, 3) := by decide +kernel
theorem dX6_misfit_36 : decode cX6_misfit 36 = .ok (.iload_n 2, 1) := by decide +kernel
theorem dX6_misfit_37 : decode cX6_misfit 37 = .ok (.invokestatic 357, 3) := by decide +kernel
theorem dX6_misfit_40 : decode cX6_misfit 40 = .ok (.ireturn, 1) := by decide +kernel
theorem dX6_hoursOn_0 : decode cX6_hoursOn 0 = .ok (.iconst 0, 1) := by decide +kernel
theorem dX6_hoursOn_1 : decode cX6_hoursOn 1 = .ok (.istore_n 2, 1) := by decide +kernel
theorem dX6_hoursOn_2 : decode cX6_hoursOn 2 = .ok (.iconst 0, 1) := by decide +kernel
theorem dX6_hoursOn_3 : decode cX6_hoursOn 3 = .ok (.istore_n 3, 1) := by decide +kernel
theorem dX6_hoursOn_4 : decode cX6_hoursOn 4 = .ok (.iload_n 3, 1) := by decide +kernel
theorem dX6_hoursOn_5 : decode cX6_hoursOn 5 = .ok (.aload_n 0, 1) := by decide +kernel
theorem dX6_hoursOn_6 : decode cX6_hoursOn 6 = .ok (.getfield 29, 3) := by decide +kernel
theorem dX6_hoursOn_9 : decode cX6_hoursOn 9 = .ok (.if_icmp .ge 40, 3) := by decide +kernel
theorem dX6_hoursOn_12 : decode cX6_hoursOn 12 = .ok (.aload_n 0, 1) := by decide +kernel
theorem dX6_hoursOn_13 : decode cX6_hoursOn 13 = .ok (.iload_n 3, 1) := by decide +kernel
theorem dX6_hoursOn_14 : decode cX6_hoursOn 14 = .ok (.invokevirtual 238, 3) := by decide +kernel
theorem dX6_hoursOn_17 : decode cX6_hoursOn 17 = .ok (.astore 4, 2) := by decide +kernel
theorem dX6_hoursOn_19 : decode cX6_hoursOn 19 = .ok (.aload 4, 2) := by decide +kernel
theorem dX6_hoursOn_21 : decode cX6_hoursOn 21 = .ok (.ifnull 22, 3) := by decide +kernel
theorem dX6_hoursOn_24 : decode cX6_hoursOn 24 = .ok (.aload 4, 2) := by decide +kernel
theorem dX6_hoursOn_26 : decode cX6_hoursOn 26 = .ok (.invokevirtual 235, 3) := by decide +kernel
theorem dX6_hoursOn_29 : decode cX6_hoursOn 29 = .ok (.iload_n 1, 1) := by decide +kernel
theorem dX6_hoursOn_30 : decode cX6_hoursOn 30 = .ok (.if_icmp .ne 13, 3) := by decide +kernel
theorem dX6_hoursOn_33 : decode cX6_hoursOn 33 = .ok (.iload_n 2, 1) := by decide +kernel
theorem dX6_hoursOn_34 : decode cX6_hoursOn 34 = .ok (.aload 4, 2) := by decide +kernel
theorem dX6_hoursOn_36 : decode cX6_hoursOn 36 = .ok (.invokevirtual 175, 3) := by decide +kernel
theorem dX6_hoursOn_39 : decode cX6_hoursOn 39 = .ok (.iconst 1, 1) := by decide +kernel
theorem dX6_hoursOn_40 : decode cX6_hoursOn 40 = .ok (.iadd, 1) := by decide +kernel
theorem dX6_hoursOn_41 : decode cX6_hoursOn 41 = .ok (.iadd, 1) := by decide +kernel
theorem dX6_hoursOn_42 : decode cX6_hoursOn 42 = .ok (.istore_n 2, 1) := by decide +kernel
theorem dX6_hoursOn_43 : decode cX6_hoursOn 43 = .ok (.iinc 3 1, 3) := by decide +kernel
theorem dX6_hoursOn_46 : decode cX6_hoursOn 46 = .ok (.goto (-42), 3) := by decide +kernel
theorem dX6_hoursOn_49 : decode cX6_hoursOn 49 = .ok (.iload_n 2, 1) := by decide +kernel
theorem dX6_hoursOn_50 : decode cX6_hoursOn 50 = .ok (.ireturn, 1) := by decide +kernel
theorem dX6_lastDay_0 : decode cX6_lastDay 0 = .ok (.iconst (-1), 1) := by decide +kernel
theorem dX6_lastDay_1 : decode cX6_lastDay 1 = .ok (.istore_n 1, 1) := by decide +kernel
theorem dX6_lastDay_2 : decode cX6_lastDay 2 = .ok (.iconst 0, 1) := by decide +kernel
theorem dX6_lastDay_3 : decode cX6_lastDay 3 = .ok (.istore_n 2, 1) := by decide +kernel
theorem dX6_lastDay_4 : decode cX6_lastDay 4 = .ok (.iload_n 2, 1) := by decide +kernel
theorem dX6_lastDay_5 : decode cX6_lastDay 5 = .ok (.aload_n 0, 1) := by decide +kernel
theorem dX6_lastDay_6 : decode cX6_lastDay 6 = .ok (.getfield 29, 3) := by decide +kernel
theorem dX6_lastDay_9 : decode cX6_lastDay 9 = .ok (.if_icmp .ge 28, 3) := by decide +kernel
theorem dX6_lastDay_12 : decode cX6_lastDay 12 = .ok (.aload_n 0, 1) := by decide +kernel
theorem dX6_lastDay_13 : decode cX6_lastDay 13 = .ok (.iload_n 2, 1) := by decide +kernel
theorem dX6_lastDay_14 : decode cX6_lastDay 14 = .ok (.invokevirtual 238, 3) := by decide +kernel
theorem dX6_lastDay_17 : decode cX6_lastDay 17 = .ok (.astore_n 3, 1) := by decide +kernel
theorem dX6_lastDay_18 : decode cX6_lastDay 18 = .ok (.aload_n 3, 1) := by decide +kernel
theorem dX6_lastDay_19 : decode cX6_lastDay 19 = .ok (.ifnull 12, 3) := by decide +kernel
theorem dX6_lastDay_22 : decode cX6_lastDay 22 = .ok (.iload_n 1, 1) := by decide +kernel
theorem dX6_lastDay_23 : decode cX6_lastDay 23 = .ok (.aload_n 3, 1) := by decide +kernel
theorem dX6_lastDay_24 : decode cX6_lastDay 24 = .ok (.invokevirtual 235, 3) := by decide +kernel
theorem dX6_lastDay_27 : decode cX6_lastDay 27 = .ok (.invokestatic 257, 3) := by decide +kernel
theorem dX6_lastDay_30 : decode cX6_lastDay 30 = .ok (.istore_n 1, 1) := by decide +kernel
theorem dX6_lastDay_31 : decode cX6_lastDay 31 = .ok (.iinc 2 1, 3) := by decide +kernel
theorem dX6_lastDay_34 : decode cX6_lastDay 34 = .ok (.goto (-30), 3) := by decide +kernel
theorem dX6_lastDay_37 : decode cX6_lastDay 37 = .ok (.iload_n 1, 1) := by decide +kernel
theorem dX6_lastDay_38 : decode cX6_lastDay 38 = .ok (.ireturn, 1) := by decide +kernel
theorem dX6_costOf_0 : decode cX6_costOf 0 = .ok (.aload_n 0, 1) := by decide +kernel
theorem dX6_costOf_1 : decode cX6_costOf 1 = .ok (.iload_n 1, 1) := by decide +kernel
theorem dX6_costOf_2 : decode cX6_costOf 2 = .ok (.invokevirtual 264, 3) := by decide +kernel
theorem dX6_costOf_5 : decode cX6_costOf 5 = .ok (.istore_n 2, 1) := by decide +kernel
theorem dX6_costOf_6 : decode cX6_costOf 6 = .ok (.iload_n 2, 1) := by decide +kernel
theorem dX6_costOf_7 : decode cX6_costOf 7 = .ok (.ifCond .le 19, 3) := by decide +kernel
theorem dX6_costOf_10 : decode cX6_costOf 10 = .ok (.sipush 1000, 3) := by decide +kernel
theorem dX6_costOf_13 : decode cX6_costOf 13 = .ok (.bipush 40, 2) := by decide +kernel
theorem dX6_costOf_15 : decode cX6_costOf 15 = .ok (.iconst 0, 1) := by decide +kernel
theorem dX6_costOf_16 : decode cX6_costOf 16 = .ok (.iload_n 2, 1) := by decide +kernel
theorem dX6_costOf_17 : decode cX6_costOf 17 = .ok (.bipush 10, 2) := by decide +kernel
theorem dX6_costOf_19 : decode cX6_costOf 19 = .ok (.isub, 1) := by decide +kernel
theorem dX6_costOf_20 : decode cX6_costOf 20 = .ok (.invokestatic 257, 3) := by decide +kernel
theorem dX6_costOf_23 : decode cX6_costOf 23 = .ok (.imul, 1) := by decide +kernel
theorem dX6_costOf_24 : decode cX6_costOf 24 = .ok (.iadd, 1) := by decide +kernel
theorem dX6_costOf_25 : decode cX6_costOf 25 = .ok (.ireturn, 1) := by decide +kernel
theorem dX6_costOf_26 : decode cX6_costOf 26 = .ok (.aload_n 0, 1) := by decide +kernel
theorem dX6_costOf_27 : decode cX6_costOf 27 = .ok (.getfield 10, 3) := by decide +kernel
theorem dX6_costOf_30 : decode cX6_costOf 30 = .ok (.iload_n 1, 1) := by decide +kernel
theorem dX6_costOf_31 : decode cX6_costOf 31 = .ok (.invokevirtual 315, 3) := by decide +kernel
theorem dX6_costOf_34 : decode cX6_costOf 34 = .ok (.ifCond .eq 9, 3) := by decide +kernel
theorem dX6_costOf_37 : decode cX6_costOf 37 = .ok (.sipush 600, 3) := by decide +kernel
theorem dX6_costOf_40 : decode cX6_costOf 40 = .ok (.goto 6, 3) := by decide +kernel
theorem dX6_costOf_43 : decode cX6_costOf 43 = .ok (.sipush 200, 3) := by decide +kernel
theorem dX6_costOf_46 : decode cX6_costOf 46 = .ok (.ireturn, 1) := by decide +kernel
theorem dX7_init_0 : decode cX7_init 0 = .ok (.aload_n 0, 1) := by decide +kernel
theorem dX7_init_1 : decode cX7_init 1 = .ok (.invokespecial 3, 3) := by decide +kernel
theorem dX7_init_4 : decode cX7_init 4 = .ok (.aload_n 0, 1) := by decide +kernel
theorem dX7_init_5 : decode cX7_init 5 = .ok (.sipush 240, 3) := by decide +kernel
theorem dX7_init_8 : decode cX7_init 8 = .ok (.newarray .int, 2) := by decide +kernel
theorem dX7_init_10 : decode cX7_init 10 = .ok (.putfield 9, 3) := by decide +kernel
theorem dX7_init_13 : decode cX7_init 13 = .ok (.aload_n 0, 1) := by decide +kernel
theorem dX7_init_14 : decode cX7_init 14 = .ok (.sipush 240, 3) := by decide +kernel
theorem dX7_init_17 : decode cX7_init 17 = .ok (.newarray .int, 2) := by decide +kernel
theorem dX7_init_19 : decode cX7_init 19 = .ok (.putfield 15, 3) := by decide +kernel
theorem dX7_init_22 : decode cX7_init 22 = .ok (.aload_n 0, 1) := by decide +kernel
theorem dX7_init_23 : decode cX7_init 23 = .ok (.bipush 10, 2) := by decide +kernel
theorem dX7_init_25 : decode cX7_init 25 = .ok (.newarray .int, 2) := by decide +kernel
theorem dX7_init_27 : decode cX7_init 27 = .ok (.putfield 18, 3) := by decide +kernel
theorem dX7_init_30 : decode cX7_init 30 = .ok (.aload_n 0, 1) := by decide +kernel
theorem dX7_init_31 : decode cX7_init 31 = .ok (.bipush 10, 2) := by decide +kernel
theorem dX7_init_33 : decode cX7_init 33 = .ok (.newarray .int, 2) := by decide +kernel
theorem dX7_init_35 : decode cX7_init 35 = .ok (.putfield 21, 3) := by decide +kernel
theorem dX7_init_38 : decode cX7_init 38 = .ok (.aload_n 0, 1) := by decide +kernel
theorem dX7_init_39 : decode cX7_init 39 = .ok (.iconst 3, 1) := by decide +kernel
theorem dX7_init_40 : decode cX7_init 40 = .ok (.newarray .int, 2) := by decide +kernel
theorem dX7_init_42 : decode cX7_init 42 = .ok (.putfield 24, 3) := by decide +kernel
theorem dX7_init_45 : decode cX7_init 45 = .ok (.aload_n 0, 1) := by decide +kernel
theorem dX7_init_46 : decode cX7_init 46 = .ok (.sipush 240, 3) := by decide +kernel
theorem dX7_init_49 : decode cX7_init 49 = .ok (.newarray .int, 2) := by decide +kernel
theorem dX7_init_51 : decode cX7_init 51 = .ok (.putfield 27, 3) := by decide +kernel
theorem dX7_init_54 : decode cX7_init 54 = .ok (.aload_n 0, 1) := by decide +kernel
theorem dX7_init_55 : decode cX7_init 55 = .ok (.sipush 240, 3) := by decide +kernel
theorem dX7_init_58 : decode cX7_init 58 = .ok (.newarray .int, 2) := by decide +kernel
theorem dX7_init_60 : decode cX7_init 60 = .ok (.putfield 30, 3) := by decide +kernel
theorem dX7_init_63 : decode cX7_init 63 = .ok (.aload_n 0, 1) := by decide +kernel
theorem dX7_init_64 : decode cX7_init 64 = .ok (.sipush 720, 3) := by decide +kernel
theorem dX7_init_67 : decode cX7_init 67 = .ok (.newarray .boolean, 2) := by decide +kernel
theorem dX7_init_69 : decode cX7_init 69 = .ok (.putfield 33, 3) := by decide +kernel
theorem dX7_init_72 : decode cX7_init 72 = .ok (.aload_n 0, 1) := by decide +kernel
theorem dX7_init_73 : decode cX7_init 73 = .ok (.bipush 16, 2) := by decide +kernel
theorem dX7_init_75 : decode cX7_init 75 = .ok (.newarray .boolean, 2) := by decide +kernel
theorem dX7_init_77 : decode cX7_init 77 = .ok (.putfield 37, 3) := by decide +kernel
theorem dX7_init_80 : decode cX7_init 80 = .ok (.aload_n 0, 1) := by decide +kernel
theorem dX7_init_81 : decode cX7_init 81 = .ok (.bipush 16, 2) := by decide +kernel
theorem dX7_init_83 : decode cX7_init 83 = .ok (.newarray .int, 2) := by decide +kernel
theorem dX7_init_85 : decode cX7_init 85 = .ok (.putfield 40, 3) := by decide +kernel
theorem dX7_init_88 : decode cX7_init 88 = .ok (.aload_n 0, 1) := by decide +kernel
theorem dX7_init_89 : decode cX7_init 89 = .ok (.bipush 16, 2) := by decide +kernel
theorem dX7_init_91 : decode cX7_init 91 = .ok (.newarray .int, 2) := by decide +kernel
theorem dX7_init_93 : decode cX7_init 93 = .ok (.putfield 43, 3) := by decide +kernel
theorem dX7_init_96 : decode cX7_init 96 = .ok (.aload_n 0, 1) := by decide +kernel
theorem dX7_init_97 : decode cX7_init 97 = .ok (.bipush 16, 2) := by decide +kernel
theorem dX7_init_99 : decode cX7_init 99 = .ok (.newarray .int, 2) := by decide +kernel
theorem dX7_init_101 : decode cX7_init 101 = .ok (.putfield 46, 3) := by decide +kernel
theorem dX7_init_104 : decode cX7_init 104 = .ok (.aload_n 0, 1) := by decide +kernel
theorem dX7_init_105 : decode cX7_init 105 = .ok (.bipush 16, 2) := by decide +kernel
theorem dX7_init_107 : decode cX7_init 107 = .ok (.newarray .int, 2) := by decide +kernel
theorem dX7_init_109 : decode cX7_init 109 = .ok (.putfield 49, 3) := by decide +kernel
theorem dX7_init_112 : decode cX7_init 112 = .ok (.aload_n 0, 1) := by decide +kernel
theorem dX7_init_113 : decode cX7_init 113 = .ok (.bipush 16, 2) := by decide +kernel
theorem dX7_init_115 : decode cX7_init 115 = .ok (.newarray .int, 2) := by decide +kernel
theorem dX7_init_117 : decode cX7_init 117 = .ok (.putfield 52, 3) := by decide +kernel
theorem dX7_init_120 : decode cX7_init 120 = .ok (.aload_n 0, 1) := by decide +kernel
theorem dX7_init_121 : decode cX7_init 121 = .ok (.sipush 2240, 3) := by decide +kernel
theorem dX7_init_124 : decode cX7_init 124 = .ok (.newarray .int, 2) := by decide +kernel
theorem dX7_init_126 : decode cX7_init 126 = .ok (.putfield 55, 3) := by decide +kernel
theorem dX7_init_129 : decode cX7_init 129 = .ok (.aload_n 0, 1) := by decide +kernel
theorem dX7_init_130 : decode cX7_init 130 = .ok (.sipush 2240, 3) := by decide +kernel
theorem dX7_init_133 : decode cX7_init 133 = .ok (.newarray .int, 2) := by decide +kernel
theorem dX7_init_135 : decode cX7_init 135 = .ok (.putfield 58, 3) := by decide +kernel
theorem dX7_init_138 : decode cX7_init 138 = .ok (.aload_n 0, 1) := by decide +kernel
theorem dX7_init_139 : decode cX7_init 139 = .ok (.bipush 40, 2) := by decide +kernel
theorem dX7_init_141 : decode cX7_init 141 = .ok (.newarray .char, 2) := by decide +kernel
theorem dX7_init_143 : decode cX7_init 143 = .ok (.putfield 61, 3) := by decide +kernel
theorem dX7_init_146 : decode cX7_init 146 = .ok (.iconst 0, 1) := by decide +kernel
theorem dX7_init_147 : decode cX7_init 147 = .ok (.istore_n 1, 1) := by decide +kernel
theorem dX7_init_148 : decode cX7_init 148 = .ok (.iload_n 1, 1) := by decide +kernel
theorem dX7_init_149 : decode cX7_init 149 = .ok (.sipush 240, 3) := by decide +kernel
theorem dX7_init_152 : decode cX7_init 152 = .ok (.if_icmp .ge 17, 3) := by decide +kernel
theorem dX7_init_155 : decode cX7_init 155 = .ok (.aload_n 0, 1) := by decide +kernel
theorem dX7_init_156 : decode cX7_init 156 = .ok (.getfield 9, 3) := by decide +kernel
theorem dX7_init_159 : decode cX7_init 159 = .ok (.iload_n 1, 1) := by decide +kernel
theorem dX7_init_160 : decode cX7_init 160 = .ok (.bipush 20, 2) := by decide +kernel
theorem dX7_init_162 : decode cX7_init 162 = .ok (.iastore, 1) := by decide +kernel
theorem dX7_init_163 : decode cX7_init 163 = .ok (.iinc 1 1, 3) := by decide +kernel
theorem dX7_init_166 : decode cX7_init 166 = .ok (.goto (-18), 3) := by decide +kernel
theorem dX7_init_169 : decode cX7_init 169 = .ok (.return_, 1) := by decide +kernel
theorem dX7_thrown_0 : decode cX7_thrown 0 = .ok (.aload_n 0, 1) := by decide +kernel
theorem dX7_thrown_1 : decode cX7_thrown 1 = .ok (.getfield 65, 3) := by decide +kernel
theorem dX7_thrown_4 : decode cX7_thrown 4 = .ok (.ireturn, 1) := by decide +kernel
theorem dX7_refuse_0 : decode cX7_refuse 0 = .ok (.aload_n 0, 1) := by decide +kernel
theorem dX7_refuse_1 : decode cX7_refuse 1 = .ok (.iload_n 1, 1) := by decide +kernel
theorem dX7_refuse_2 : decode cX7_refuse 2 = .ok (.putfield 65, 3) := by decide +kernel
theorem dX7_refuse_5 : decode cX7_refuse 5 = .ok (.iconst 0, 1) := by decide +kernel
theorem dX7_refuse_6 : decode cX7_refuse 6 = .ok (.ireturn, 1) := by decide +kernel
theorem dX7_isIn_0 : decode cX7_isIn 0 = .ok (.iload_n 0, 1) := by decide +kernel
theorem dX7_isIn_1 : decode cX7_isIn 1 = .ok (.iload_n 1, 1) := by decide +kernel
theorem dX7_isIn_2 : decode cX7_isIn 2 = .ok (.if_icmp .lt 12, 3) := by decide +kernel
theorem dX7_isIn_5 : decode cX7_isIn 5 = .ok (.iload_n 0, 1) := by decide +kernel
theorem dX7_isIn_6 : decode cX7_isIn 6 = .ok (.iload_n 2, 1) := by decide +kernel
theorem dX7_isIn_7 : decode cX7_isIn 7 = .ok (.if_icmp .gt 7, 3) := by decide +kernel
theorem dX7_isIn_10 : decode cX7_isIn 10 = .ok (.iconst 1, 1) := by decide +kernel
theorem dX7_isIn_11 : decode cX7_isIn 11 = .ok (.goto 4, 3) := by decide +kernel
theorem dX7_isIn_14 : decode cX7_isIn 14 = .ok (.iconst 0, 1) := by decide +kernel
theorem dX7_isIn_15 : decode cX7_isIn 15 = .ok (.ireturn, 1) := by decide +kernel
theorem dX7_down_0 : decode cX7_down 0 = .ok (.iload_n 0, 1) := by decide +kernel
theorem dX7_down_1 : decode cX7_down 1 = .ok (.iload_n 1, 1) := by decide +kernel
theorem dX7_down_2 : decode cX7_down 2 = .ok (.idiv, 1) := by decide +kernel
theorem dX7_down_3 : decode cX7_down 3 = .ok (.istore_n 2, 1) := by decide +kernel
theorem dX7_down_4 : decode cX7_down 4 = .ok (.iload_n 0, 1) := by decide +kernel
theorem dX7_down_5 : decode cX7_down 5 = .ok (.iload_n 1, 1) := by decide +kernel
theorem dX7_down_6 : decode cX7_down 6 = .ok (.irem, 1) := by decide +kernel
theorem dX7_down_7 : decode cX7_down 7 = .ok (.ifCond .ge 9, 3) := by decide +kernel
theorem dX7_down_10 : decode cX7_down 10 = .ok (.iload_n 2, 1) := by decide +kernel
theorem dX7_down_11 : decode cX7_down 11 = .ok (.iconst 1, 1) := by decide +kernel
theorem dX7_down_12 : decode cX7_down 12 = .ok (.isub, 1) := by decide +kernel
theorem dX7_down_13 : decode cX7_down 13 = .ok (.goto 4, 3) := by decide +kernel
theorem dX7_down_16 : decode cX7_down 16 = .ok (.iload_n 2, 1) := by decide +kernel
theorem dX7_down_17 : decode cX7_down 17 = .ok (.ireturn, 1) := by decide +kernel
theorem dX7_noCell_0 : decode cX7_noCell 0 = .ok (.aload_n 0, 1) := by decide +kernel
theorem dX7_noCell_1 : decode cX7_noCell 1 = .ok (.iload_n 1, 1) := by decide +kernel
theorem dX7_noCell_2 : decode cX7_noCell 2 = .ok (.iconst 0, 1) := by decide +kernel
theorem dX7_noCell_3 : decode cX7_noCell 3 = .ok (.bipush 19, 2) := by decide +kernel
theorem dX7_noCell_5 : decode cX7_noCell 5 = .ok (.invokestatic 69, 3) := by decide +kernel
theorem dX7_noCell_8 : decode cX7_noCell 8 = .ok (.ifCond .eq 17, 3) := by decide +kernel
theorem dX7_noCell_11 : decode cX7_noCell 11 = .ok (.iload_n 2, 1) := by decide +kernel
theorem dX7_noCell_12 : decode cX7_noCell 12 = .ok (.iconst 0, 1) := by decide +kernel
theorem dX7_noCell_13 : decode cX7_noCell 13 = .ok (.bipush 11, 2) := by decide +kernel
theorem dX7_noCell_15 : decode cX7_noCell 15 = .ok (.invokestatic 69, 3) := by decide +kernel
theorem dX7_noCell_18 : decode cX7_noCell 18 = .ok (.ifCond .eq 7, 3) := by decide +kernel
theorem dX7_noCell_21 : decode cX7_noCell 21 = .ok (.iconst 0, 1) := by decide +kernel
theorem dX7_noCell_22 : decode cX7_noCell 22 = .ok (.goto 4, 3) := by decide +kernel
theorem dX7_noCell_25 : decode cX7_noCell 25 = .ok (.iconst 1, 1) := by decide +kernel
theorem dX7_noCell_26 : decode cX7_noCell 26 = .ok (.putfield 65, 3) := by decide +kernel
theorem dX7_noCell_29 : decode cX7_noCell 29 = .ok (.aload_n 0, 1) := by decide +kernel
theorem dX7_noCell_30 : decode cX7_noCell 30 = .ok (.getfield 65, 3) := by decide +kernel
theorem dX7_noCell_33 : decode cX7_noCell 33 = .ok (.ifCond .eq 7, 3) := by decide +kernel
theorem dX7_noCell_36 : decode cX7_noCell 36 = .ok (.iconst 1, 1) := by decide +kernel
theorem dX7_noCell_37 : decode cX7_noCell 37 = .ok (.goto 4, 3) := by decide +kernel
theorem dX7_noCell_40 : decode cX7_noCell 40 = .ok (.iconst 0, 1) := by decide +kernel
theorem dX7_noCell_41 : decode cX7_noCell 41 = .ok (.ireturn, 1) := by decide +kernel
theorem dX7_noHour_0 : decode cX7_noHour 0 = .ok (.aload_n 0, 1) := by decide +kernel
theorem dX7_noHour_1 : decode cX7_noHour 1 = .ok (.iload_n 1, 1) := by decide +kernel
theorem dX7_noHour_2 : decode cX7_noHour 2 = .ok (.iconst 0, 1) := by decide +kernel
theorem dX7_noHour_3 : decode cX7_noHour 3 = .ok (.bipush 9, 2) := by decide +kernel
theorem dX7_noHour_5 : decode cX7_noHour 5 = .ok (.invokestatic 69, 3) := by decide +kernel
theorem dX7_noHour_8 : decode cX7_noHour 8 = .ok (.ifCond .eq 17, 3) := by decide +kernel
theorem dX7_noHour_11 : decode cX7_noHour 11 = .ok (.iload_n 2, 1) := by decide +kernel
theorem dX7_noHour_12 : decode cX7_noHour 12 = .ok (.iconst 0, 1) := by decide +kernel
theorem dX7_noHour_13 : decode cX7_noHour 13 = .ok (.bipush 23, 2) := by decide +kernel
theorem dX7_noHour_15 : decode cX7_noHour 15 = .ok (.invokestatic 69, 3) := by decide +kernel
theorem dX7_noHour_18 : decode cX7_noHour 18 = .ok (.ifCond .eq 7, 3) := by decide +kernel
theorem dX7_noHour_21 : decode cX7_noHour 21 = .ok (.iconst 0, 1) := by decide +kernel
theorem dX7_noHour_22 : decode cX7_noHour 22 = .ok (.goto 4, 3) := by decide +kernel
theorem dX7_noHour_25 : decode cX7_noHour 25 = .ok (.iconst 1, 1) := by decide +kernel
theorem dX7_noHour_26 : decode cX7_noHour 26 = .ok (.putfield 65, 3) := by decide +kernel
theorem dX7_noHour_29 : decode cX7_noHour 29 = .ok (.aload_n 0, 1) := by decide +kernel
theorem dX7_noHour_30 : decode cX7_noHour 30 = .ok (.getfield 65, 3) := by decide +kernel
theorem dX7_noHour_33 : decode cX7_noHour 33 = .ok (.ifCond .eq 7, 3) := by decide +kernel
theorem dX7_noHour_36 : decode cX7_noHour 36 = .ok (.iconst 1, 1) := by decide +kernel
theorem dX7_noHour_37 : decode cX7_noHour 37 = .ok (.goto 4, 3) := by decide +kernel
theorem dX7_noHour_40 : decode cX7_noHour 40 = .ok (.iconst 0, 1) := by decide +kernel
theorem dX7_noHour_41 : decode cX7_noHour 41 = .ok (.ireturn, 1) := by decide +kernel
theorem dX7_noDay_0 : decode cX7_noDay 0 = .ok (.aload_n 0, 1) := by decide +kernel
theorem dX7_noDay_1 : decode cX7_noDay 1 = .ok (.iload_n 1, 1) := by decide +kernel
theorem dX7_noDay_2 : decode cX7_noDay 2 = .ok (.iconst 0, 1) := by decide +kernel
theorem dX7_noDay_3 : decode cX7_noDay 3 = .ok (.invokevirtual 73, 3) := by decide +kernel
theorem dX7_noDay_6 : decode cX7_noDay 6 = .ok (.ireturn, 1) := by decide +kernel
theorem dX7_setFloor_0 : decode cX7_setFloor 0 = .ok (.aload_n 0, 1) := by decide +kernel
theorem dX7_setFloor_1 : decode cX7_setFloor 1 = .ok (.iload_n 1, 1) := by decide +kernel
theorem dX7_setFloor_2 : decode cX7_setFloor 2 = .ok (.iload_n 2, 1) := by decide +kernel
theorem dX7_setFloor_3 : decode cX7_setFloor 3 = .ok (.invokevirtual 77, 3) := by decide +kernel
theorem dX7_setFloor_6 : decode cX7_setFloor 6 = .ok (.ifCond .eq 5, 3) := by decide +kernel
theorem dX7_setFloor_9 : decode cX7_setFloor 9 = .ok (.iconst 0, 1) := by decide +kernel
theorem dX7_setFloor_10 : decode cX7_setFloor 10 = .ok (.ireturn, 1) := by decide +kernel
theorem dX7_setFloor_11 : decode cX7_setFloor 11 = .ok (.iload_n 3, 1) := by decide +kernel
theorem dX7_setFloor_12 : decode cX7_setFloor 12 = .ok (.iconst 1, 1) := by decide +kernel
theorem dX7_setFloor_13 : decode cX7_setFloor 13 = .ok (.bipush 99, 2) := by decide +kernel
theorem dX7_setFloor_15 : decode cX7_setFloor 15 = .ok (.invokestatic 69, 3) := by decide +kernel
theorem dX7_setFloor_18 : decode cX7_setFloor 18 = .ok (.ifCond .ne 9, 3) := by decide +kernel
theorem dX7_setFloor_21 : decode cX7_setFloor 21 = .ok (.aload_n 0, 1) := by decide +kernel
theorem dX7_setFloor_22 : decode cX7_setFloor 22 = .ok (.iconst 2, 1) := by decide +kernel
theorem dX7_setFloor_23 : decode cX7_setFloor 23 = .ok (.invokevirtual 80, 3) := by decide +kernel
theorem dX7_setFloor_26 : decode cX7_setFloor 26 = .ok (.ireturn, 1) := by decide +kernel
theorem dX7_setFloor_27 : decode cX7_setFloor 27 = .ok (.aload_n 0, 1) := by decide +kernel
theorem dX7_setFloor_28 : decode cX7_setFloor 28 = .ok (.getfield 9, 3) := by decide +kernel
theorem dX7_setFloor_31 : decode cX7_setFloor 31 = .ok (.bipush 20, 2) := by decide +kernel
theorem dX7_setFloor_33 : decode cX7_setFloor 33 = .ok (.iload_n 2, 1) := by decide +kernel
theorem dX7_setFloor_34 : decode cX7_setFloor 34 = .ok (.imul, 1) := by decide +kernel
theorem dX7_setFloor_35 : decode cX7_setFloor 35 = .ok (.iload_n 1, 1) := by decide +kernel
theorem dX7_setFloor_36 : decode cX7_setFloor 36 = .ok (.iadd, 1) := by decide +kernel
theorem dX7_setFloor_37 : decode cX7_setFloor 37 = .ok (.iaload, 1) := by decide +kernel
theorem dX7_setFloor_38 : decode cX7_setFloor 38 = .ok (.istore 4, 2) := by decide +kernel
theorem dX7_setFloor_40 : decode cX7_setFloor 40 = .ok (.aload_n 0, 1) := by decide +kernel
theorem dX7_setFloor_41 : decode cX7_setFloor 41 = .ok (.getfield 9, 3) := by decide +kernel
theorem dX7_setFloor_44 : decode cX7_setFloor 44 = .ok (.bipush 20, 2) := by decide +kernel
theorem dX7_setFloor_46 : decode cX7_setFloor 46 = .ok (.iload_n 2, 1) := by decide +kernel
theorem dX7_setFloor_47 : decode cX7_setFloor 47 = .ok (.imul, 1) := by decide +kernel
theorem dX7_setFloor_48 : decode cX7_setFloor 48 = .ok (.iload_n 1, 1) := by decide +kernel
theorem dX7_setFloor_49 : decode cX7_setFloor 49 = .ok (.iadd, 1) := by decide +kernel
theorem dX7_setFloor_50 : decode cX7_setFloor 50 = .ok (.iload_n 3, 1) := by decide +kernel
theorem dX7_setFloor_51 : decode cX7_setFloor 51 = .ok (.iastore, 1) := by decide +kernel
theorem dX7_setFloor_52 : decode cX7_setFloor 52 = .ok (.iload 4, 2) := by decide +kernel
theorem dX7_setFloor_54 : decode cX7_setFloor 54 = .ok (.ireturn, 1) := by decide +kernel
theorem dX7_setWater_0 : decode cX7_setWater 0 = .ok (.aload_n 0, 1) := by decide +kernel
theorem dX7_setWater_1 : decode cX7_setWater 1 = .ok (.iload_n 1, 1) := by decide +kernel
theorem dX7_setWater_2 : decode cX7_setWater 2 = .ok (.iload_n 2, 1) := by decide +kernel
theorem dX7_setWater_3 : decode cX7_setWater 3 = .ok (.invokevirtual 73, 3) := by decide +kernel
theorem dX7_setWater_6 : decode cX7_setWater 6 = .ok (.ifCond .eq 5, 3) := by decide +kernel
theorem dX7_setWater_9 : decode cX7_setWater 9 = .ok (.iconst 0, 1) := by decide +kernel
theorem dX7_setWater_10 : decode cX7_setWater 10 = .ok (.ireturn, 1) := by decide +kernel
theorem dX7_setWater_11 : decode cX7_setWater 11 = .ok (.iload_n 3, 1) := by decide +kernel
theorem dX7_setWater_12 : decode cX7_setWater 12 = .ok (.iconst 0, 1) := by decide +kernel
theorem dX7_setWater_13 : decode cX7_setWater 13 = .ok (.bipush 30, 2) := by decide +kernel
theorem dX7_setWater_15 : decode cX7_setWater 15 = .ok (.invokestatic 69, 3) := by decide +kernel
theorem dX7_setWater_18 : decode cX7_setWater 18 = .ok (.ifCond .ne 9, 3) := by decide +kernel
theorem dX7_setWater_21 : decode cX7_setWater 21 = .ok (.aload_n 0, 1) := by decide +kernel
theorem dX7_setWater_22 : decode cX7_setWater 22 = .ok (.iconst 2, 1) := by decide +kernel
theorem dX7_setWater_23 : decode cX7_setWater 23 = .ok (.invokevirtual 80, 3) := by decide +kernel
theorem dX7_setWater_26 : decode cX7_setWater 26 = .ok (.ireturn, 1) := by decide +kernel
theorem dX7_setWater_27 : decode cX7_setWater 27 = .ok (.aload_n 0, 1) := by decide +kernel
theorem dX7_setWater_28 : decode cX7_setWater 28 = .ok (.getfield 15, 3) := by decide +kernel
theorem dX7_setWater_31 : decode cX7_setWater 31 = .ok (.bipush 24, 2) := by decide +kernel
theorem dX7_setWater_33 : decode cX7_setWater 33 = .ok (.iload_n 1, 1) := by decide +kernel
theorem dX7_setWater_34 : decode cX7_setWater 34 = .ok (.imul, 1) := by decide +kernel
theorem dX7_setWater_35 : decode cX7_setWater 35 = .ok (.iload_n 2, 1) := by decide +kernel
theorem dX7_setWater_36 : decode cX7_setWater 36 = .ok (.iadd, 1) := by decide +kernel
theorem dX7_setWater_37 : decode cX7_setWater 37 = .ok (.iaload, 1) := by decide +kernel
theorem dX7_setWater_38 : decode cX7_setWater 38 = .ok (.istore 4, 2) := by decide +kernel
theorem dX7_setWater_40 : decode cX7_setWater 40 = .ok (.aload_n 0, 1) := by decide +kernel
theorem dX7_setWater_41 : decode cX7_setWater 41 = .ok (.getfield 15, 3) := by decide +kernel
theorem dX7_setWater_44 : decode cX7_setWater 44 = .ok (.bipush 24, 2) := by decide +kernel
theorem dX7_setWater_46 : decode cX7_setWater 46 = .ok (.iload_n 1, 1) := by decide +kernel
theorem dX7_setWater_47 : decode cX7_setWater 47 = .ok (.imul, 1) := by decide +kernel
theorem dX7_setWater_48 : decode cX7_setWater 48 = .ok (.iload_n 2, 1) := by decide +kernel
theorem dX7_setWater_49 : decode cX7_setWater 49 = .ok (.iadd, 1) := by decide +kernel
theorem dX7_setWater_50 : decode cX7_setWater 50 = .ok (.iload_n 3, 1) := by decide +kernel
theorem dX7_setWater_51 : decode cX7_setWater 51 = .ok (.iastore, 1) := by decide +kernel
theorem dX7_setWater_52 : decode cX7_setWater 52 = .ok (.iload 4, 2) := by decide +kernel
theorem dX7_setWater_54 : decode cX7_setWater 54 = .ok (.ireturn, 1) := by decide +kernel
theorem dX7_setSlope_0 : decode cX7_setSlope 0 = .ok (.aload_n 0, 1) := by decide +kernel
theorem dX7_setSlope_1 : decode cX7_setSlope 1 = .ok (.iload_n 1, 1) := by decide +kernel
theorem dX7_setSlope_2 : decode cX7_setSlope 2 = .ok (.invokevirtual 84, 3) := by decide +kernel
theorem dX7_setSlope_5 : decode cX7_setSlope 5 = .ok (.ifCond .eq 5, 3) := by decide +kernel
theorem dX7_setSlope_8 : decode cX7_setSlope 8 = .ok (.iconst 0, 1) := by decide +kernel
theorem dX7_setSlope_9 : decode cX7_setSlope 9 = .ok (.ireturn, 1) := by decide +kernel
theorem dX7_setSlope_10 : decode cX7_setSlope 10 = .ok (.iload_n 2, 1) := by decide +kernel
theorem dX7_setSlope_11 : decode cX7_setSlope 11 = .ok (.bipush (-2), 2) := by decide +kernel
theorem dX7_setSlope_13 : decode cX7_setSlope 13 = .ok (.iconst 2, 1) := by decide +kernel
theorem dX7_setSlope_14 : decode cX7_setSlope 14 = .ok (.invokestatic 69, 3) := by decide +kernel
theorem dX7_setSlope_17 : decode cX7_setSlope 17 = .ok (.ifCond .ne 9, 3) := by decide +kernel
theorem dX7_setSlope_20 : decode cX7_setSlope 20 = .ok (.aload_n 0, 1) := by decide +kernel
theorem dX7_setSlope_21 : decode cX7_setSlope 21 = .ok (.iconst 2, 1) := by decide +kernel
theorem dX7_setSlope_22 : decode cX7_setSlope 22 = .ok (.invokevirtual 80, 3) := by decide +kernel
theorem dX7_setSlope_25 : decode cX7_setSlope 25 = .ok (.ireturn, 1) := by decide +kernel
theorem dX7_setSlope_26 : decode cX7_setSlope 26 = .ok (.aload_n 0, 1) := by decide +kernel
theorem dX7_setSlope_27 : decode cX7_setSlope 27 = .ok (.getfield 18, 3) := by decide +kernel
theorem dX7_setSlope_30 : decode cX7_setSlope 30 = .ok (.iload_n 1, 1) := by decide +kernel
theorem dX7_setSlope_31 : decode cX7_setSlope 31 = .ok (.iaload, 1) := by decide +kernel
theorem dX7_setSlope_32 : decode cX7_setSlope 32 = .ok (.istore_n 3, 1) := by decide +kernel
theorem dX7_setSlope_33 : decode cX7_setSlope 33 = .ok (.aload_n 0, 1) := by decide +kernel
theorem dX7_setSlope_34 : decode cX7_setSlope 34 = .ok (.getfield 18, 3) := by decide +kernel
theorem dX7_setSlope_37 : decode cX7_setSlope 37 = .ok (.iload_n 1, 1) := by decide +kernel
theorem dX7_setSlope_38 : decode cX7_setSlope 38 = .ok (.iload_n 2, 1) := by decide +kernel
theorem dX7_setSlope_39 : decode cX7_setSlope 39 = .ok (.iastore, 1) := by decide +kernel
theorem dX7_setSlope_40 : decode cX7_setSlope 40 = .ok (.iload_n 3, 1) := by decide +kernel
theorem dX7_setSlope_41 : decode cX7_setSlope 41 = .ok (.ireturn, 1) := by decide +kernel
theorem dX7_water_0 : decode cX7_water 0 = .ok (.aload_n 0, 1) := by decide +kernel
theorem dX7_water_1 : decode cX7_water 1 = .ok (.getfield 15, 3) := by decide +kernel
theorem dX7_water_4 : decode cX7_water 4 = .ok (.bipush 24, 2) := by decide +kernel
theorem dX7_water_6 : decode cX7_water 6 = .ok (.iload_n 2, 1) := by decide +kernel
theorem dX7_water_7 : decode cX7_water 7 = .ok (.imul, 1) := by decide +kernel
theorem dX7_water_8 : decode cX7_water 8 = .ok (.iload_n 3, 1) := by decide +kernel
theorem dX7_water_9 : decode cX7_water 9 = .ok (.iadd, 1) := by decide +kernel
theorem dX7_water_10 : decode cX7_water 10 = .ok (.iaload, 1) := by decide +kernel
theorem dX7_water_11 : decode cX7_water 11 = .ok (.aload_n 0, 1) := by decide +kernel
theorem dX7_water_12 : decode cX7_water 12 = .ok (.getfield 18, 3) := by decide +kernel
theorem dX7_water_15 : decode cX7_water 15 = .ok (.iload_n 2, 1) := by decide +kernel
theorem dX7_water_16 : decode cX7_water 16 = .ok (.iaload, 1) := by decide +kernel
theorem dX7_water_17 : decode cX7_water 17 = .ok (.iload_n 1, 1) := by decide +kernel
theorem dX7_water_18 : decode cX7_water 18 = .ok (.imul, 1) := by decide +kernel
theorem dX7_water_19 : decode cX7_water 19 = .ok (.iconst 4, 1) := by decide +kernel
theorem dX7_water_20 : decode cX7_water 20 = .ok (.invokestatic 88, 3) := by decide +kernel
theorem dX7_water_23 : decode cX7_water 23 = .ok (.iadd, 1) := by decide +kernel
theorem dX7_water_24 : decode cX7_water 24 = .ok (.ireturn, 1) := by decide +kernel
theorem dX7_waterAt_0 : decode cX7_waterAt 0 = .ok (.aload_n 0, 1) := by decide +kernel
theorem dX7_waterAt_1 : decode cX7_waterAt 1 = .ok (.iload_n 1, 1) := by decide +kernel
theorem dX7_waterAt_2 : decode cX7_waterAt 2 = .ok (.iconst 0, 1) := by decide +kernel
theorem dX7_waterAt_3 : decode cX7_waterAt 3 = .ok (.invokevirtual 77, 3) := by decide +kernel
theorem dX7_waterAt_6 : decode cX7_waterAt 6 = .ok (.ifCond .ne 12, 3) := by decide +kernel
theorem dX7_waterAt_9 : decode cX7_waterAt 9 = .ok (.aload_n 0, 1) := by decide +kernel
theorem dX7_waterAt_10 : decode cX7_waterAt 10 = .ok (.iload_n 2, 1) := by decide +kernel
theorem dX7_waterAt_11 : decode cX7_waterAt 11 = .ok (.iload_n 3, 1) := by decide +kernel
theorem dX7_waterAt_12 : decode cX7_waterAt 12 = .ok (.invokevirtual 73, 3) := by decide +kernel
theorem dX7_waterAt_15 : decode cX7_waterAt 15 = .ok (.ifCond .eq 5, 3) := by decide +kernel
theorem dX7_waterAt_18 : decode cX7_waterAt 18 = .ok (.iconst 0, 1) := by decide +kernel
theorem dX7_waterAt_19 : decode cX7_waterAt 19 = .ok (.ireturn, 1) := by decide +kernel
theorem dX7_waterAt_20 : decode cX7_waterAt 20 = .ok (.aload_n 0, 1) := by decide +kernel
theorem dX7_waterAt_21 : decode cX7_waterAt 21 = .ok (.iload_n 1, 1) := by decide +kernel
theorem dX7_waterAt_22 : decode cX7_waterAt 22 = .ok (.iload_n 2, 1) := by decide +kernel
theorem dX7_waterAt_23 : decode cX7_waterAt 23 = .ok (.iload_n 3, 1) := by decide +kernel
theorem dX7_waterAt_24 : decode cX7_waterAt 24 = .ok (.invokevirtual 92, 3) := by decide +kernel
theorem dX7_waterAt_27 : decode cX7_waterAt 27 = .ok (.ireturn, 1) := by decide +kernel
theorem dX7_setWeather_0 : decode cX7_setWeather 0 = .ok (.aload_n 0, 1) := by decide +kernel
theorem dX7_setWeather_1 : decode cX7_setWeather 1 = .ok (.iload_n 1, 1) := by decide +kernel
theorem dX7_setWeather_2 : decode cX7_setWeather 2 = .ok (.invokevirtual 84, 3) := by decide +kernel
theorem dX7_setWeather_5 : decode cX7_setWeather 5 = .ok (.ifCond .eq 5, 3) := by decide +kernel
theorem dX7_setWeather_8 : decode cX7_setWeather 8 = .ok (.iconst 0, 1) := by decide +kernel
theorem dX7_setWeather_9 : decode cX7_setWeather 9 = .ok (.ireturn, 1) := by decide +kernel
theorem dX7_setWeather_10 : decode cX7_setWeather 10 = .ok (.iload_n 2, 1) := by decide +kernel
theorem dX7_setWeather_11 : decode cX7_setWeather 11 = .ok (.iconst 0, 1) := by decide +kernel
theorem dX7_setWeather_12 : decode cX7_setWeather 12 = .ok (.bipush 9, 2) := by decide +kernel
theorem dX7_setWeather_14 : decode cX7_setWeather 14 = .ok (.invokestatic 69, 3) := by decide +kernel
theorem dX7_setWeather_17 : decode cX7_setWeather 17 = .ok (.ifCond .ne 9, 3) := by decide +kernel
theorem dX7_setWeather_20 : decode cX7_setWeather 20 = .ok (.aload_n 0, 1) := by decide +kernel
theorem dX7_setWeather_21 : decode cX7_setWeather 21 = .ok (.iconst 2, 1) := by decide +kernel
theorem dX7_setWeather_22 : decode cX7_setWeather 22 = .ok (.invokevirtual 80, 3) := by decide +kernel
theorem dX7_setWeather_25 : decode cX7_setWeather 25 = .ok (.ireturn, 1) := by decide +kernel
theorem dX7_setWeather_26 : decode cX7_setWeather 26 = .ok (.aload_n 0, 1) := by decide +kernel
theorem dX7_setWeather_27 : decode cX7_setWeather 27 = .ok (.getfield 21, 3) := by decide +kernel
theorem dX7_setWeather_30 : decode cX7_setWeather 30 = .ok (.iload_n 1, 1) := by decide +kernel
theorem dX7_setWeather_31 : decode cX7_setWeather 31 = .ok (.iaload, 1) := by decide +kernel
theorem dX7_setWeather_32 : decode cX7_setWeather 32 = .ok (.istore_n 3, 1) := by decide +kernel
theorem dX7_setWeather_33 : decode cX7_setWeather 33 = .ok (.aload_n 0, 1) := by decide +kernel
theorem dX7_setWeather_34 : decode cX7_setWeather 34 = .ok (.getfield 21, 3) := by decide +kernel
theorem dX7_setWeather_37 : decode cX7_setWeather 37 = .ok (.iload_n 1, 1) := by decide +kernel
theorem dX7_setWeather_38 : decode cX7_setWeather 38 = .ok (.iload_n 2, 1) := by decide +kernel
theorem dX7_setWeather_39 : decode cX7_setWeather 39 = .ok (.iastore, 1) := by decide +kernel
theorem dX7_setWeather_40 : decode cX7_setWeather 40 = .ok (.iload_n 3, 1) := by decide +kernel
theorem dX7_setWeather_41 : decode cX7_setWeather 41 = .ok (.ireturn, 1) := by decide +kernel
theorem dX7_addGauge_0 : decode cX7_addGauge 0 = .ok (.aload_n 0, 1) := by decide +kernel
theorem dX7_addGauge_1 : decode cX7_addGauge 1 = .ok (.iload_n 1, 1) := by decide +kernel
theorem dX7_addGauge_2 : decode cX7_addGauge 2 = .ok (.iconst 0, 1) := by decide +kernel
theorem dX7_addGauge_3 : decode cX7_addGauge 3 = .ok (.invokevirtual 77, 3) := by decide +kernel
theorem dX7_addGauge_6 : decode cX7_addGauge 6 = .ok (.ifCond .eq 5, 3) := by decide +kernel
theorem dX7_addGauge_9 : decode cX7_addGauge 9 = .ok (.iconst 0, 1) := by decide +kernel
theorem dX7_addGauge_10 : decode cX7_addGauge 10 = .ok (.ireturn, 1) := by decide +kernel
theorem dX7_addGauge_11 : decode cX7_addGauge 11 = .ok (.iconst 0, 1) := by decide +kernel
theorem dX7_addGauge_12 : decode cX7_addGauge 12 = .ok (.istore_n 2, 1) := by decide +kernel
theorem dX7_addGauge_13 : decode cX7_addGauge 13 = .ok (.iload_n 2, 1) := by decide +kernel
theorem dX7_addGauge_14 : decode cX7_addGauge 14 = .ok (.aload_n 0, 1) := by decide +kernel
theorem dX7_addGauge_15 : decode cX7_addGauge 15 = .ok (.getfield 96, 3) := by decide +kernel
theorem dX7_addGauge_18 : decode cX7_addGauge 18 = .ok (.if_icmp .ge 25, 3) := by decide +kernel
theorem dX7_addGauge_21 : decode cX7_addGauge 21 = .ok (.aload_n 0, 1) := by decide +kernel
theorem dX7_addGauge_22 : decode cX7_addGauge 22 = .ok (.getfield 24, 3) := by decide +kernel
theorem dX7_addGauge_25 : decode cX7_addGauge 25 = .ok (.iload_n 2, 1) := by decide +kernel
theorem dX7_addGauge_26 : decode cX7_addGauge 26 = .ok (.iaload, 1) := by decide +kernel
theorem dX7_addGauge_27 : decode cX7_addGauge 27 = .ok (.iload_n 1, 1) := by decide +kernel
theorem dX7_addGauge_28 : decode cX7_addGauge 28 = .ok (.if_icmp .ne 9, 3) := by decide +kernel
theorem dX7_addGauge_31 : decode cX7_addGauge 31 = .ok (.aload_n 0, 1) := by decide +kernel
theorem dX7_addGauge_32 : decode cX7_addGauge 32 = .ok (.iconst 2, 1) := by decide +kernel
theorem dX7_addGauge_33 : decode cX7_addGauge 33 = .ok (.invokevirtual 80, 3) := by decide +kernel
theorem dX7_addGauge_36 : decode cX7_addGauge 36 = .ok (.ireturn, 1) := by decide +kernel
theorem dX7_addGauge_37 : decode cX7_addGauge 37 = .ok (.iinc 2 1, 3) := by decide +kernel
theorem dX7_addGauge_40 : decode cX7_addGauge 40 = .ok (.goto (-27), 3) := by decide +kernel
theorem dX7_addGauge_43 : decode cX7_addGauge 43 = .ok (.aload_n 0, 1) := by decide +kernel
theorem dX7_addGauge_44 : decode cX7_addGauge 44 = .ok (.getfield 96, 3) := by decide +kernel
theorem dX7_addGauge_47 : decode cX7_addGauge 47 = .ok (.iconst 3, 1) := by decide +kernel
theorem dX7_addGauge_48 : decode cX7_addGauge 48 = .ok (.if_icmp .ne 9, 3) := by decide +kernel
theorem dX7_addGauge_51 : decode cX7_addGauge 51 = .ok (.aload_n 0, 1) := by decide +kernel
theorem dX7_addGauge_52 : decode cX7_addGauge 52 = .ok (.iconst 3, 1) := by decide +kernel
theorem dX7_addGauge_53 : decode cX7_addGauge 53 = .ok (.invokevirtual 80, 3) := by decide +kernel
theorem dX7_addGauge_56 : decode cX7_addGauge 56 = .ok (.ireturn, 1) := by decide +kernel
theorem dX7_addGauge_57 : decode cX7_addGauge 57 = .ok (.aload_n 0, 1) := by decide +kernel
theorem dX7_addGauge_58 : decode cX7_addGauge 58 = .ok (.getfield 24, 3) := by decide +kernel
theorem dX7_addGauge_61 : decode cX7_addGauge 61 = .ok (.aload_n 0, 1) := by decide +kernel
theorem dX7_addGauge_62 : decode cX7_addGauge 62 = .ok (.getfield 96, 3) := by decide +kernel
theorem dX7_addGauge_65 : decode cX7_addGauge 65 = .ok (.iload_n 1, 1) := by decide +kernel
theorem dX7_addGauge_66 : decode cX7_addGauge 66 = .ok (.iastore, 1) := by decide +kernel
theorem dX7_addGauge_67 : decode cX7_addGauge 67 = .ok (.aload_n 0, 1) := by decide +kernel
theorem dX7_addGauge_68 : decode cX7_addGauge 68 = .ok (.dup, 1) := by decide +kernel
theorem dX7_addGauge_69 : decode cX7_addGauge 69 = .ok (.getfield 96, 3) := by decide +kernel
theorem dX7_addGauge_72 : decode cX7_addGauge 72 = .ok (.dup_x1, 1) := by decide +kernel
theorem dX7_addGauge_73 : decode cX7_addGauge 73 = .ok (.iconst 1, 1) := by decide +kernel
theorem dX7_addGauge_74 : decode cX7_addGauge 74 = .ok (.iadd, 1) := by decide +kernel
theorem dX7_addGauge_75 : decode cX7_addGauge 75 = .ok (.putfield 96, 3) := by decide +kernel
theorem dX7_addGauge_78 : decode cX7_addGauge 78 = .ok (.ireturn, 1) := by decide +kernel
theorem dX7_noGauge_0 : decode cX7_noGauge 0 = .ok (.iload_n 1, 1) := by decide +kernel
theorem dX7_noGauge_1 : decode cX7_noGauge 1 = .ok (.iconst 0, 1) := by decide +kernel
theorem dX7_noGauge_2 : decode cX7_noGauge 2 = .ok (.aload_n 0, 1) := by decide +kernel
theorem dX7_noGauge_3 : decode cX7_noGauge 3 = .ok (.getfield 96, 3) := by decide +kernel
theorem dX7_noGauge_6 : decode cX7_noGauge 6 = .ok (.iconst 1, 1) := by decide +kernel
theorem dX7_noGauge_7 : decode cX7_noGauge 7 = .ok (.isub, 1) := by decide +kernel
theorem dX7_noGauge_8 : decode cX7_noGauge 8 = .ok (.invokestatic 69, 3) := by decide +kernel
theorem dX7_noGauge_11 : decode cX7_noGauge 11 = .ok (.ifCond .eq 14, 3) := by decide +kernel
theorem dX7_noGauge_14 : decode cX7_noGauge 14 = .ok (.aload_n 0, 1) := by decide +kernel
theorem dX7_noGauge_15 : decode cX7_noGauge 15 = .ok (.iload_n 2, 1) := by decide +kernel
theorem dX7_noGauge_16 : decode cX7_noGauge 16 = .ok (.iload_n 3, 1) := by decide +kernel
theorem dX7_noGauge_17 : decode cX7_noGauge 17 = .ok (.invokevirtual 73, 3) := by decide +kernel
theorem dX7_noGauge_20 : decode cX7_noGauge 20 = .ok (.ifCond .ne 5, 3) := by decide +kernel
theorem dX7_noGauge_23 : decode cX7_noGauge 23 = .ok (.iconst 0, 1) := by decide +kernel
theorem dX7_noGauge_24 : decode cX7_noGauge 24 = .ok (.ireturn, 1) := by decide +kernel
theorem dX7_noGauge_25 : decode cX7_noGauge 25 = .ok (.aload_n 0, 1) := by decide +kernel
theorem dX7_noGauge_26 : decode cX7_noGauge 26 = .ok (.iload_n 1, 1) := by decide +kernel
theorem dX7_noGauge_27 : decode cX7_noGauge 27 = .ok (.iconst 0, 1) := by decide +kernel
theorem dX7_noGauge_28 : decode cX7_noGauge 28 = .ok (.aload_n 0, 1) := by decide +kernel
theorem dX7_noGauge_29 : decode cX7_noGauge 29 = .ok (.getfield 96, 3) := by decide +kernel
theorem dX7_noGauge_32 : decode cX7_noGauge 32 = .ok (.iconst 1, 1) := by decide +kernel
theorem dX7_noGauge_33 : decode cX7_noGauge 33 = .ok (.isub, 1) := by decide +kernel
theorem dX7_noGauge_34 : decode cX7_noGauge 34 = .ok (.invokestatic 69, 3) := by decide +kernel
theorem dX7_noGauge_37 : decode cX7_noGauge 37 = .ok (.ifCond .eq 7, 3) := by decide +kernel
theorem dX7_noGauge_40 : decode cX7_noGauge 40 = .ok (.iconst 2, 1) := by decide +kernel
theorem dX7_noGauge_41 : decode cX7_noGauge 41 = .ok (.goto 4, 3) := by decide +kernel
theorem dX7_noGauge_44 : decode cX7_noGauge 44 = .ok (.iconst 1, 1) := by decide +kernel
theorem dX7_noGauge_45 : decode cX7_noGauge 45 = .ok (.putfield 65, 3) := by decide +kernel
theorem dX7_noGauge_48 : decode cX7_noGauge 48 = .ok (.iconst 1, 1) := by decide +kernel
theorem dX7_noGauge_49 : decode cX7_noGauge 49 = .ok (.ireturn, 1) := by decide +kernel
theorem dX7_fail_0 : decode cX7_fail 0 = .ok (.aload_n 0, 1) := by decide +kernel
theorem dX7_fail_1 : decode cX7_fail 1 = .ok (.iload_n 1, 1) := by decide +kernel
theorem dX7_fail_2 : decode cX7_fail 2 = .ok (.iload_n 2, 1) := by decide +kernel
theorem dX7_fail_3 : decode cX7_fail 3 = .ok (.iload_n 3, 1) := by decide +kernel
theorem dX7_fail_4 : decode cX7_fail 4 = .ok (.invokevirtual 99, 3) := by decide +kernel
theorem dX7_fail_7 : decode cX7_fail 7 = .ok (.ifCond .eq 5, 3) := by decide +kernel
theorem dX7_fail_10 : decode cX7_fail 10 = .ok (.iconst 0, 1) := by decide +kernel
theorem dX7_fail_11 : decode cX7_fail 11 = .ok (.ireturn, 1) := by decide +kernel
theorem dX7_fail_12 : decode cX7_fail 12 = .ok (.iload 4, 2) := by decide +kernel
theorem dX7_fail_14 : decode cX7_fail 14 = .ok (.iload_n 3, 1) := by decide +kernel
theorem dX7_fail_15 : decode cX7_fail 15 = .ok (.iconst 1, 1) := by decide +kernel
theorem dX7_fail_16 : decode cX7_fail 16 = .ok (.iadd, 1) := by decide +kernel
theorem dX7_fail_17 : decode cX7_fail 17 = .ok (.bipush 24, 2) := by decide +kernel
theorem dX7_fail_19 : decode cX7_fail 19 = .ok (.invokestatic 69, 3) := by decide +kernel
theorem dX7_fail_22 : decode cX7_fail 22 = .ok (.ifCond .ne 9, 3) := by decide +kernel
theorem dX7_fail_25 : decode cX7_fail 25 = .ok (.aload_n 0, 1) := by decide +kernel
theorem dX7_fail_26 : decode cX7_fail 26 = .ok (.iconst 3, 1) := by decide +kernel
theorem dX7_fail_27 : decode cX7_fail 27 = .ok (.invokevirtual 80, 3) := by decide +kernel
theorem dX7_fail_30 : decode cX7_fail 30 = .ok (.ireturn, 1) := by decide +kernel
theorem dX7_fail_31 : decode cX7_fail 31 = .ok (.iload_n 3, 1) := by decide +kernel
theorem dX7_fail_32 : decode cX7_fail 32 = .ok (.istore 5, 2) := by decide +kernel
theorem dX7_fail_34 : decode cX7_fail 34 = .ok (.iload 5, 2) := by decide +kernel
theorem dX7_fail_36 : decode cX7_fail 36 = .ok (.iload 4, 2) := by decide +kernel
theorem dX7_fail_38 : decode cX7_fail 38 = .ok (.if_icmp .ge 28, 3) := by decide +kernel
theorem dX7_fail_41 : decode cX7_fail 41 = .ok (.aload_n 0, 1) := by decide +kernel
theorem dX7_fail_42 : decode cX7_fail 42 = .ok (.getfield 33, 3) := by decide +kernel
