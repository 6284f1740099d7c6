theorem dX7_fail_45 : decode cX7_fail 45 = .ok (.sipush 240, 3) := by decide +kernel
theorem dX7_fail_48 : decode cX7_fail 48 = .ok (.iload_n 1, 1) := by decide +kernel
theorem dX7_fail_49 : decode cX7_fail 49 = .ok (.imul, 1) := by decide +kernel
theorem dX7_fail_50 : decode cX7_fail 50 = .ok (.bipush 24, 2) := by decide +kernel
theorem dX7_fail_52 : decode cX7_fail 52 = .ok (.iload_n 2, 1) := by decide +kernel
theorem dX7_fail_53 : decode cX7_fail 53 = .ok (.imul, 1) := by decide +kernel
theorem dX7_fail_54 : decode cX7_fail 54 = .ok (.iadd, 1) := by decide +kernel
theorem dX7_fail_55 : decode cX7_fail 55 = .ok (.iload 5, 2) := by decide +kernel
theorem dX7_fail_57 : decode cX7_fail 57 = .ok (.iadd, 1) := by decide +kernel
theorem dX7_fail_58 : decode cX7_fail 58 = .ok (.iconst 1, 1) := by decide +kernel
theorem dX7_fail_59 : decode cX7_fail 59 = .ok (.bastore, 1) := by decide +kernel
theorem dX7_fail_60 : decode cX7_fail 60 = .ok (.iinc 5 1, 3) := by decide +kernel
theorem dX7_fail_63 : decode cX7_fail 63 = .ok (.goto (-29), 3) := by decide +kernel
theorem dX7_fail_66 : decode cX7_fail 66 = .ok (.bipush 24, 2) := by decide +kernel
theorem dX7_fail_68 : decode cX7_fail 68 = .ok (.aload_n 0, 1) := by decide +kernel
theorem dX7_fail_69 : decode cX7_fail 69 = .ok (.iload_n 1, 1) := by decide +kernel
theorem dX7_fail_70 : decode cX7_fail 70 = .ok (.iload_n 2, 1) := by decide +kernel
theorem dX7_fail_71 : decode cX7_fail 71 = .ok (.invokevirtual 102, 3) := by decide +kernel
theorem dX7_fail_74 : decode cX7_fail 74 = .ok (.isub, 1) := by decide +kernel
theorem dX7_fail_75 : decode cX7_fail 75 = .ok (.ireturn, 1) := by decide +kernel
theorem dX7_failures_0 : decode cX7_failures 0 = .ok (.iconst 0, 1) := by decide +kernel
theorem dX7_failures_1 : decode cX7_failures 1 = .ok (.istore_n 3, 1) := by decide +kernel
theorem dX7_failures_2 : decode cX7_failures 2 = .ok (.iconst 0, 1) := by decide +kernel
theorem dX7_failures_3 : decode cX7_failures 3 = .ok (.istore 4, 2) := by decide +kernel
theorem dX7_failures_5 : decode cX7_failures 5 = .ok (.iload 4, 2) := by decide +kernel
theorem dX7_failures_7 : decode cX7_failures 7 = .ok (.bipush 24, 2) := by decide +kernel
theorem dX7_failures_9 : decode cX7_failures 9 = .ok (.if_icmp .ge 38, 3) := by decide +kernel
theorem dX7_failures_12 : decode cX7_failures 12 = .ok (.iload_n 3, 1) := by decide +kernel
theorem dX7_failures_13 : decode cX7_failures 13 = .ok (.aload_n 0, 1) := by decide +kernel
theorem dX7_failures_14 : decode cX7_failures 14 = .ok (.getfield 33, 3) := by decide +kernel
theorem dX7_failures_17 : decode cX7_failures 17 = .ok (.sipush 240, 3) := by decide +kernel
theorem dX7_failures_20 : decode cX7_failures 20 = .ok (.iload_n 1, 1) := by decide +kernel
theorem dX7_failures_21 : decode cX7_failures 21 = .ok (.imul, 1) := by decide +kernel
theorem dX7_failures_22 : decode cX7_failures 22 = .ok (.bipush 24, 2) := by decide +kernel
theorem dX7_failures_24 : decode cX7_failures 24 = .ok (.iload_n 2, 1) := by decide +kernel
theorem dX7_failures_25 : decode cX7_failures 25 = .ok (.imul, 1) := by decide +kernel
theorem dX7_failures_26 : decode cX7_failures 26 = .ok (.iadd, 1) := by decide +kernel
theorem dX7_failures_27 : decode cX7_failures 27 = .ok (.iload 4, 2) := by decide +kernel
theorem dX7_failures_29 : decode cX7_failures 29 = .ok (.iadd, 1) := by decide +kernel
theorem dX7_failures_30 : decode cX7_failures 30 = .ok (.baload, 1) := by decide +kernel
theorem dX7_failures_31 : decode cX7_failures 31 = .ok (.ifCond .eq 7, 3) := by decide +kernel
theorem dX7_failures_34 : decode cX7_failures 34 = .ok (.iconst 1, 1) := by decide +kernel
theorem dX7_failures_35 : decode cX7_failures 35 = .ok (.goto 4, 3) := by decide +kernel
theorem dX7_failures_38 : decode cX7_failures 38 = .ok (.iconst 0, 1) := by decide +kernel
theorem dX7_failures_39 : decode cX7_failures 39 = .ok (.iadd, 1) := by decide +kernel
theorem dX7_failures_40 : decode cX7_failures 40 = .ok (.istore_n 3, 1) := by decide +kernel
theorem dX7_failures_41 : decode cX7_failures 41 = .ok (.iinc 4 1, 3) := by decide +kernel
theorem dX7_failures_44 : decode cX7_failures 44 = .ok (.goto (-39), 3) := by decide +kernel
theorem dX7_failures_47 : decode cX7_failures 47 = .ok (.iload_n 3, 1) := by decide +kernel
theorem dX7_failures_48 : decode cX7_failures 48 = .ok (.ireturn, 1) := by decide +kernel
theorem dX7_mend_0 : decode cX7_mend 0 = .ok (.aload_n 0, 1) := by decide +kernel
theorem dX7_mend_1 : decode cX7_mend 1 = .ok (.iload_n 1, 1) := by decide +kernel
theorem dX7_mend_2 : decode cX7_mend 2 = .ok (.iload_n 2, 1) := by decide +kernel
theorem dX7_mend_3 : decode cX7_mend 3 = .ok (.iconst 0, 1) := by decide +kernel
theorem dX7_mend_4 : decode cX7_mend 4 = .ok (.invokevirtual 99, 3) := by decide +kernel
theorem dX7_mend_7 : decode cX7_mend 7 = .ok (.ifCond .eq 5, 3) := by decide +kernel
theorem dX7_mend_10 : decode cX7_mend 10 = .ok (.iconst 0, 1) := by decide +kernel
theorem dX7_mend_11 : decode cX7_mend 11 = .ok (.ireturn, 1) := by decide +kernel
theorem dX7_mend_12 : decode cX7_mend 12 = .ok (.aload_n 0, 1) := by decide +kernel
theorem dX7_mend_13 : decode cX7_mend 13 = .ok (.iload_n 1, 1) := by decide +kernel
theorem dX7_mend_14 : decode cX7_mend 14 = .ok (.iload_n 2, 1) := by decide +kernel
theorem dX7_mend_15 : decode cX7_mend 15 = .ok (.invokevirtual 102, 3) := by decide +kernel
theorem dX7_mend_18 : decode cX7_mend 18 = .ok (.istore_n 3, 1) := by decide +kernel
theorem dX7_mend_19 : decode cX7_mend 19 = .ok (.iconst 0, 1) := by decide +kernel
theorem dX7_mend_20 : decode cX7_mend 20 = .ok (.istore 4, 2) := by decide +kernel
theorem dX7_mend_22 : decode cX7_mend 22 = .ok (.iload 4, 2) := by decide +kernel
theorem dX7_mend_24 : decode cX7_mend 24 = .ok (.bipush 24, 2) := by decide +kernel
theorem dX7_mend_26 : decode cX7_mend 26 = .ok (.if_icmp .ge 28, 3) := by decide +kernel
theorem dX7_mend_29 : decode cX7_mend 29 = .ok (.aload_n 0, 1) := by decide +kernel
theorem dX7_mend_30 : decode cX7_mend 30 = .ok (.getfield 33, 3) := by decide +kernel
theorem dX7_mend_33 : decode cX7_mend 33 = .ok (.sipush 240, 3) := by decide +kernel
theorem dX7_mend_36 : decode cX7_mend 36 = .ok (.iload_n 1, 1) := by decide +kernel
theorem dX7_mend_37 : decode cX7_mend 37 = .ok (.imul, 1) := by decide +kernel
theorem dX7_mend_38 : decode cX7_mend 38 = .ok (.bipush 24, 2) := by decide +kernel
theorem dX7_mend_40 : decode cX7_mend 40 = .ok (.iload_n 2, 1) := by decide +kernel
theorem dX7_mend_41 : decode cX7_mend 41 = .ok (.imul, 1) := by decide +kernel
theorem dX7_mend_42 : decode cX7_mend 42 = .ok (.iadd, 1) := by decide +kernel
theorem dX7_mend_43 : decode cX7_mend 43 = .ok (.iload 4, 2) := by decide +kernel
theorem dX7_mend_45 : decode cX7_mend 45 = .ok (.iadd, 1) := by decide +kernel
theorem dX7_mend_46 : decode cX7_mend 46 = .ok (.iconst 0, 1) := by decide +kernel
theorem dX7_mend_47 : decode cX7_mend 47 = .ok (.bastore, 1) := by decide +kernel
theorem dX7_mend_48 : decode cX7_mend 48 = .ok (.iinc 4 1, 3) := by decide +kernel
theorem dX7_mend_51 : decode cX7_mend 51 = .ok (.goto (-29), 3) := by decide +kernel
theorem dX7_mend_54 : decode cX7_mend 54 = .ok (.iload_n 3, 1) := by decide +kernel
theorem dX7_mend_55 : decode cX7_mend 55 = .ok (.ireturn, 1) := by decide +kernel
theorem dX7_tells_0 : decode cX7_tells 0 = .ok (.sipush 240, 3) := by decide +kernel
theorem dX7_tells_3 : decode cX7_tells 3 = .ok (.iload_n 1, 1) := by decide +kernel
theorem dX7_tells_4 : decode cX7_tells 4 = .ok (.imul, 1) := by decide +kernel
theorem dX7_tells_5 : decode cX7_tells 5 = .ok (.bipush 24, 2) := by decide +kernel
theorem dX7_tells_7 : decode cX7_tells 7 = .ok (.iload_n 2, 1) := by decide +kernel
theorem dX7_tells_8 : decode cX7_tells 8 = .ok (.imul, 1) := by decide +kernel
theorem dX7_tells_9 : decode cX7_tells 9 = .ok (.iadd, 1) := by decide +kernel
theorem dX7_tells_10 : decode cX7_tells 10 = .ok (.istore 4, 2) := by decide +kernel
theorem dX7_tells_12 : decode cX7_tells 12 = .ok (.iload_n 3, 1) := by decide +kernel
theorem dX7_tells_13 : decode cX7_tells 13 = .ok (.istore 5, 2) := by decide +kernel
theorem dX7_tells_15 : decode cX7_tells 15 = .ok (.iload_n 3, 1) := by decide +kernel
theorem dX7_tells_16 : decode cX7_tells 16 = .ok (.istore 6, 2) := by decide +kernel
theorem dX7_tells_18 : decode cX7_tells 18 = .ok (.iload 5, 2) := by decide +kernel
theorem dX7_tells_20 : decode cX7_tells 20 = .ok (.ifCond .lt 22, 3) := by decide +kernel
theorem dX7_tells_23 : decode cX7_tells 23 = .ok (.aload_n 0, 1) := by decide +kernel
theorem dX7_tells_24 : decode cX7_tells 24 = .ok (.getfield 33, 3) := by decide +kernel
theorem dX7_tells_27 : decode cX7_tells 27 = .ok (.iload 4, 2) := by decide +kernel
theorem dX7_tells_29 : decode cX7_tells 29 = .ok (.iload 5, 2) := by decide +kernel
theorem dX7_tells_31 : decode cX7_tells 31 = .ok (.iadd, 1) := by decide +kernel
theorem dX7_tells_32 : decode cX7_tells 32 = .ok (.baload, 1) := by decide +kernel
theorem dX7_tells_33 : decode cX7_tells 33 = .ok (.ifCond .eq 9, 3) := by decide +kernel
theorem dX7_tells_36 : decode cX7_tells 36 = .ok (.iinc 5 (-1), 3) := by decide +kernel
theorem dX7_tells_39 : decode cX7_tells 39 = .ok (.goto (-21), 3) := by decide +kernel
theorem dX7_tells_42 : decode cX7_tells 42 = .ok (.iload 6, 2) := by decide +kernel
theorem dX7_tells_44 : decode cX7_tells 44 = .ok (.bipush 24, 2) := by decide +kernel
theorem dX7_tells_46 : decode cX7_tells 46 = .ok (.if_icmp .ge 22, 3) := by decide +kernel
theorem dX7_tells_49 : decode cX7_tells 49 = .ok (.aload_n 0, 1) := by decide +kernel
theorem dX7_tells_50 : decode cX7_tells 50 = .ok (.getfield 33, 3) := by decide +kernel
theorem dX7_tells_53 : decode cX7_tells 53 = .ok (.iload 4, 2) := by decide +kernel
theorem dX7_tells_55 : decode cX7_tells 55 = .ok (.iload 6, 2) := by decide +kernel
theorem dX7_tells_57 : decode cX7_tells 57 = .ok (.iadd, 1) := by decide +kernel
theorem dX7_tells_58 : decode cX7_tells 58 = .ok (.baload, 1) := by decide +kernel
theorem dX7_tells_59 : decode cX7_tells 59 = .ok (.ifCond .eq 9, 3) := by decide +kernel
theorem dX7_tells_62 : decode cX7_tells 62 = .ok (.iinc 6 1, 3) := by decide +kernel
theorem dX7_tells_65 : decode cX7_tells 65 = .ok (.goto (-23), 3) := by decide +kernel
theorem dX7_tells_68 : decode cX7_tells 68 = .ok (.iload 5, 2) := by decide +kernel
theorem dX7_tells_70 : decode cX7_tells 70 = .ok (.iload_n 3, 1) := by decide +kernel
theorem dX7_tells_71 : decode cX7_tells 71 = .ok (.if_icmp .ne 16, 3) := by decide +kernel
theorem dX7_tells_74 : decode cX7_tells 74 = .ok (.aload_n 0, 1) := by decide +kernel
theorem dX7_tells_75 : decode cX7_tells 75 = .ok (.aload_n 0, 1) := by decide +kernel
theorem dX7_tells_76 : decode cX7_tells 76 = .ok (.getfield 24, 3) := by decide +kernel
theorem dX7_tells_79 : decode cX7_tells 79 = .ok (.iload_n 1, 1) := by decide +kernel
theorem dX7_tells_80 : decode cX7_tells 80 = .ok (.iaload, 1) := by decide +kernel
theorem dX7_tells_81 : decode cX7_tells 81 = .ok (.iload_n 2, 1) := by decide +kernel
theorem dX7_tells_82 : decode cX7_tells 82 = .ok (.iload_n 3, 1) := by decide +kernel
theorem dX7_tells_83 : decode cX7_tells 83 = .ok (.invokevirtual 92, 3) := by decide +kernel
theorem dX7_tells_86 : decode cX7_tells 86 = .ok (.ireturn, 1) := by decide +kernel
theorem dX7_tells_87 : decode cX7_tells 87 = .ok (.iload 5, 2) := by decide +kernel
theorem dX7_tells_89 : decode cX7_tells 89 = .ok (.ifCond .lt 20, 3) := by decide +kernel
theorem dX7_tells_92 : decode cX7_tells 92 = .ok (.iload 6, 2) := by decide +kernel
theorem dX7_tells_94 : decode cX7_tells 94 = .ok (.bipush 24, 2) := by decide +kernel
theorem dX7_tells_96 : decode cX7_tells 96 = .ok (.if_icmp .eq 13, 3) := by decide +kernel
theorem dX7_tells_99 : decode cX7_tells 99 = .ok (.iload 6, 2) := by decide +kernel
theorem dX7_tells_101 : decode cX7_tells 101 = .ok (.iload 5, 2) := by decide +kernel
theorem dX7_tells_103 : decode cX7_tells 103 = .ok (.isub, 1) := by decide +kernel
theorem dX7_tells_104 : decode cX7_tells 104 = .ok (.bipush 6, 2) := by decide +kernel
theorem dX7_tells_106 : decode cX7_tells 106 = .ok (.if_icmp .le 6, 3) := by decide +kernel
theorem dX7_tells_109 : decode cX7_tells 109 = .ok (.ldc 105, 2) := by decide +kernel
theorem dX7_tells_111 : decode cX7_tells 111 = .ok (.ireturn, 1) := by decide +kernel
theorem dX7_tells_112 : decode cX7_tells 112 = .ok (.aload_n 0, 1) := by decide +kernel
theorem dX7_tells_113 : decode cX7_tells 113 = .ok (.aload_n 0, 1) := by decide +kernel
theorem dX7_tells_114 : decode cX7_tells 114 = .ok (.getfield 24, 3) := by decide +kernel
theorem dX7_tells_117 : decode cX7_tells 117 = .ok (.iload_n 1, 1) := by decide +kernel
theorem dX7_tells_118 : decode cX7_tells 118 = .ok (.iaload, 1) := by decide +kernel
theorem dX7_tells_119 : decode cX7_tells 119 = .ok (.iload_n 2, 1) := by decide +kernel
theorem dX7_tells_120 : decode cX7_tells 120 = .ok (.iload 5, 2) := by decide +kernel
theorem dX7_tells_122 : decode cX7_tells 122 = .ok (.invokevirtual 92, 3) := by decide +kernel
theorem dX7_tells_125 : decode cX7_tells 125 = .ok (.istore 7, 2) := by decide +kernel
theorem dX7_tells_127 : decode cX7_tells 127 = .ok (.aload_n 0, 1) := by decide +kernel
theorem dX7_tells_128 : decode cX7_tells 128 = .ok (.aload_n 0, 1) := by decide +kernel
theorem dX7_tells_129 : decode cX7_tells 129 = .ok (.getfield 24, 3) := by decide +kernel
theorem dX7_tells_132 : decode cX7_tells 132 = .ok (.iload_n 1, 1) := by decide +kernel
theorem dX7_tells_133 : decode cX7_tells 133 = .ok (.iaload, 1) := by decide +kernel
theorem dX7_tells_134 : decode cX7_tells 134 = .ok (.iload_n 2, 1) := by decide +kernel
theorem dX7_tells_135 : decode cX7_tells 135 = .ok (.iload 6, 2) := by decide +kernel
theorem dX7_tells_137 : decode cX7_tells 137 = .ok (.invokevirtual 92, 3) := by decide +kernel
theorem dX7_tells_140 : decode cX7_tells 140 = .ok (.istore 8, 2) := by decide +kernel
theorem dX7_tells_142 : decode cX7_tells 142 = .ok (.iload 7, 2) := by decide +kernel
theorem dX7_tells_144 : decode cX7_tells 144 = .ok (.iload 8, 2) := by decide +kernel
theorem dX7_tells_146 : decode cX7_tells 146 = .ok (.iload 7, 2) := by decide +kernel
theorem dX7_tells_148 : decode cX7_tells 148 = .ok (.isub, 1) := by decide +kernel
theorem dX7_tells_149 : decode cX7_tells 149 = .ok (.iload_n 3, 1) := by decide +kernel
theorem dX7_tells_150 : decode cX7_tells 150 = .ok (.iload 5, 2) := by decide +kernel
theorem dX7_tells_152 : decode cX7_tells 152 = .ok (.isub, 1) := by decide +kernel
theorem dX7_tells_153 : decode cX7_tells 153 = .ok (.imul, 1) := by decide +kernel
theorem dX7_tells_154 : decode cX7_tells 154 = .ok (.iload 6, 2) := by decide +kernel
theorem dX7_tells_156 : decode cX7_tells 156 = .ok (.iload 5, 2) := by decide +kernel
theorem dX7_tells_158 : decode cX7_tells 158 = .ok (.isub, 1) := by decide +kernel
theorem dX7_tells_159 : decode cX7_tells 159 = .ok (.invokestatic 88, 3) := by decide +kernel
theorem dX7_tells_162 : decode cX7_tells 162 = .ok (.iadd, 1) := by decide +kernel
theorem dX7_tells_163 : decode cX7_tells 163 = .ok (.ireturn, 1) := by decide +kernel
theorem dX7_told_0 : decode cX7_told 0 = .ok (.aload_n 0, 1) := by decide +kernel
theorem dX7_told_1 : decode cX7_told 1 = .ok (.iload_n 1, 1) := by decide +kernel
theorem dX7_told_2 : decode cX7_told 2 = .ok (.iload_n 2, 1) := by decide +kernel
theorem dX7_told_3 : decode cX7_told 3 = .ok (.iload_n 3, 1) := by decide +kernel
theorem dX7_told_4 : decode cX7_told 4 = .ok (.invokevirtual 99, 3) := by decide +kernel
theorem dX7_told_7 : decode cX7_told 7 = .ok (.ifCond .eq 5, 3) := by decide +kernel
theorem dX7_told_10 : decode cX7_told 10 = .ok (.iconst 0, 1) := by decide +kernel
theorem dX7_told_11 : decode cX7_told 11 = .ok (.ireturn, 1) := by decide +kernel
theorem dX7_told_12 : decode cX7_told 12 = .ok (.aload_n 0, 1) := by decide +kernel
theorem dX7_told_13 : decode cX7_told 13 = .ok (.iload_n 1, 1) := by decide +kernel
theorem dX7_told_14 : decode cX7_told 14 = .ok (.iload_n 2, 1) := by decide +kernel
theorem dX7_told_15 : decode cX7_told 15 = .ok (.iload_n 3, 1) := by decide +kernel
theorem dX7_told_16 : decode cX7_told 16 = .ok (.invokevirtual 106, 3) := by decide +kernel
theorem dX7_told_19 : decode cX7_told 19 = .ok (.istore 4, 2) := by decide +kernel
theorem dX7_told_21 : decode cX7_told 21 = .ok (.iload 4, 2) := by decide +kernel
theorem dX7_told_23 : decode cX7_told 23 = .ok (.ldc 105, 2) := by decide +kernel
theorem dX7_told_25 : decode cX7_told 25 = .ok (.if_icmp .ne 9, 3) := by decide +kernel
theorem dX7_told_28 : decode cX7_told 28 = .ok (.aload_n 0, 1) := by decide +kernel
theorem dX7_told_29 : decode cX7_told 29 = .ok (.iconst 3, 1) := by decide +kernel
theorem dX7_told_30 : decode cX7_told 30 = .ok (.invokevirtual 80, 3) := by decide +kernel
theorem dX7_told_33 : decode cX7_told 33 = .ok (.ireturn, 1) := by decide +kernel
theorem dX7_told_34 : decode cX7_told 34 = .ok (.iload 4, 2) := by decide +kernel
theorem dX7_told_36 : decode cX7_told 36 = .ok (.ireturn, 1) := by decide +kernel
theorem dX7_tideIn_0 : decode cX7_tideIn 0 = .ok (.iconst (-1), 1) := by decide +kernel
theorem dX7_tideIn_1 : decode cX7_tideIn 1 = .ok (.istore 4, 2) := by decide +kernel
theorem dX7_tideIn_3 : decode cX7_tideIn 3 = .ok (.iconst (-1), 1) := by decide +kernel
theorem dX7_tideIn_4 : decode cX7_tideIn 4 = .ok (.istore 5, 2) := by decide +kernel
theorem dX7_tideIn_6 : decode cX7_tideIn 6 = .ok (.iconst 0, 1) := by decide +kernel
theorem dX7_tideIn_7 : decode cX7_tideIn 7 = .ok (.istore 6, 2) := by decide +kernel
theorem dX7_tideIn_9 : decode cX7_tideIn 9 = .ok (.iload 6, 2) := by decide +kernel
theorem dX7_tideIn_11 : decode cX7_tideIn 11 = .ok (.aload_n 0, 1) := by decide +kernel
theorem dX7_tideIn_12 : decode cX7_tideIn 12 = .ok (.getfield 96, 3) := by decide +kernel
theorem dX7_tideIn_15 : decode cX7_tideIn 15 = .ok (.if_icmp .ge 119, 3) := by decide +kernel
theorem dX7_tideIn_18 : decode cX7_tideIn 18 = .ok (.aload_n 0, 1) := by decide +kernel
theorem dX7_tideIn_19 : decode cX7_tideIn 19 = .ok (.iload 6, 2) := by decide +kernel
theorem dX7_tideIn_21 : decode cX7_tideIn 21 = .ok (.iload_n 2, 1) := by decide +kernel
theorem dX7_tideIn_22 : decode cX7_tideIn 22 = .ok (.iload_n 3, 1) := by decide +kernel
theorem dX7_tideIn_23 : decode cX7_tideIn 23 = .ok (.invokevirtual 106, 3) := by decide +kernel
theorem dX7_tideIn_26 : decode cX7_tideIn 26 = .ok (.ldc 105, 2) := by decide +kernel
theorem dX7_tideIn_28 : decode cX7_tideIn 28 = .ok (.if_icmp .ne 6, 3) := by decide +kernel
theorem dX7_tideIn_31 : decode cX7_tideIn 31 = .ok (.goto 97, 3) := by decide +kernel
theorem dX7_tideIn_34 : decode cX7_tideIn 34 = .ok (.aload_n 0, 1) := by decide +kernel
theorem dX7_tideIn_35 : decode cX7_tideIn 35 = .ok (.getfield 24, 3) := by decide +kernel
theorem dX7_tideIn_38 : decode cX7_tideIn 38 = .ok (.iload 6, 2) := by decide +kernel
theorem dX7_tideIn_40 : decode cX7_tideIn 40 = .ok (.iaload, 1) := by decide +kernel
theorem dX7_tideIn_41 : decode cX7_tideIn 41 = .ok (.iload_n 1, 1) := by decide +kernel
theorem dX7_tideIn_42 : decode cX7_tideIn 42 = .ok (.if_icmp .ne 12, 3) := by decide +kernel
theorem dX7_tideIn_45 : decode cX7_tideIn 45 = .ok (.aload_n 0, 1) := by decide +kernel
theorem dX7_tideIn_46 : decode cX7_tideIn 46 = .ok (.iload 6, 2) := by decide +kernel
theorem dX7_tideIn_48 : decode cX7_tideIn 48 = .ok (.iload_n 2, 1) := by decide +kernel
theorem dX7_tideIn_49 : decode cX7_tideIn 49 = .ok (.iload_n 3, 1) := by decide +kernel
theorem dX7_tideIn_50 : decode cX7_tideIn 50 = .ok (.invokevirtual 106, 3) := by decide +kernel
theorem dX7_tideIn_53 : decode cX7_tideIn 53 = .ok (.ireturn, 1) := by decide +kernel
theorem dX7_tideIn_54 : decode cX7_tideIn 54 = .ok (.aload_n 0, 1) := by decide +kernel
theorem dX7_tideIn_55 : decode cX7_tideIn 55 = .ok (.getfield 24, 3) := by decide +kernel
theorem dX7_tideIn_58 : decode cX7_tideIn 58 = .ok (.iload 6, 2) := by decide +kernel
theorem dX7_tideIn_60 : decode cX7_tideIn 60 = .ok (.iaload, 1) := by decide +kernel
theorem dX7_tideIn_61 : decode cX7_tideIn 61 = .ok (.iload_n 1, 1) := by decide +kernel
theorem dX7_tideIn_62 : decode cX7_tideIn 62 = .ok (.if_icmp .ge 29, 3) := by decide +kernel
theorem dX7_tideIn_65 : decode cX7_tideIn 65 = .ok (.iload 4, 2) := by decide +kernel
theorem dX7_tideIn_67 : decode cX7_tideIn 67 = .ok (.ifCond .lt 20, 3) := by decide +kernel
theorem dX7_tideIn_70 : decode cX7_tideIn 70 = .ok (.aload_n 0, 1) := by decide +kernel
theorem dX7_tideIn_71 : decode cX7_tideIn 71 = .ok (.getfield 24, 3) := by decide +kernel
theorem dX7_tideIn_74 : decode cX7_tideIn 74 = .ok (.iload 6, 2) := by decide +kernel
theorem dX7_tideIn_76 : decode cX7_tideIn 76 = .ok (.iaload, 1) := by decide +kernel
theorem dX7_tideIn_77 : decode cX7_tideIn 77 = .ok (.aload_n 0, 1) := by decide +kernel
theorem dX7_tideIn_78 : decode cX7_tideIn 78 = .ok (.getfield 24, 3) := by decide +kernel
theorem dX7_tideIn_81 : decode cX7_tideIn 81 = .ok (.iload 4, 2) := by decide +kernel
theorem dX7_tideIn_83 : decode cX7_tideIn 83 = .ok (.iaload, 1) := by decide +kernel
theorem dX7_tideIn_84 : decode cX7_tideIn 84 = .ok (.if_icmp .le 7, 3) := by decide +kernel
theorem dX7_tideIn_87 : decode cX7_tideIn 87 = .ok (.iload 6, 2) := by decide +kernel
theorem dX7_tideIn_89 : decode cX7_tideIn 89 = .ok (.istore 4, 2) := by decide +kernel
theorem dX7_tideIn_91 : decode cX7_tideIn 91 = .ok (.aload_n 0, 1) := by decide +kernel
theorem dX7_tideIn_92 : decode cX7_tideIn 92 = .ok (.getfield 24, 3) := by decide +kernel
theorem dX7_tideIn_95 : decode cX7_tideIn 95 = .ok (.iload 6, 2) := by decide +kernel
theorem dX7_tideIn_97 : decode cX7_tideIn 97 = .ok (.iaload, 1) := by decide +kernel
theorem dX7_tideIn_98 : decode cX7_tideIn 98 = .ok (.iload_n 1, 1) := by decide +kernel
theorem dX7_tideIn_99 : decode cX7_tideIn 99 = .ok (.if_icmp .le 29, 3) := by decide +kernel
theorem dX7_tideIn_102 : decode cX7_tideIn 102 = .ok (.iload 5, 2) := by decide +kernel
theorem dX7_tideIn_104 : decode cX7_tideIn 104 = .ok (.ifCond .lt 20, 3) := by decide +kernel
theorem dX7_tideIn_107 : decode cX7_tideIn 107 = .ok (.aload_n 0, 1) := by decide +kernel
theorem dX7_tideIn_108 : decode cX7_tideIn 108 = .ok (.getfield 24, 3) := by decide +kernel
theorem dX7_tideIn_111 : decode cX7_tideIn 111 = .ok (.iload 6, 2) := by decide +kernel
theorem dX7_tideIn_113 : decode cX7_tideIn 113 = .ok (.iaload, 1) := by decide +kernel
theorem dX7_tideIn_114 : decode cX7_tideIn 114 = .ok (.aload_n 0, 1) := by decide +kernel
theorem dX7_tideIn_115 : decode cX7_tideIn 115 = .ok (.getfield 24, 3) := by decide +kernel
theorem dX7_tideIn_118 : decode cX7_tideIn 118 = .ok (.iload 5, 2) := by decide +kernel
theorem dX7_tideIn_120 : decode cX7_tideIn 120 = .ok (.iaload, 1) := by decide +kernel
theorem dX7_tideIn_121 : decode cX7_tideIn 121 = .ok (.if_icmp .ge 7, 3) := by decide +kernel
theorem dX7_tideIn_124 : decode cX7_tideIn 124 = .ok (.iload 6, 2) := by decide +kernel
theorem dX7_tideIn_126 : decode cX7_tideIn 126 = .ok (.istore 5, 2) := by decide +kernel
theorem dX7_tideIn_128 : decode cX7_tideIn 128 = .ok (.iinc 6 1, 3) := by decide +kernel
theorem dX7_tideIn_131 : decode cX7_tideIn 131 = .ok (.goto (-122), 3) := by decide +kernel
theorem dX7_tideIn_134 : decode cX7_tideIn 134 = .ok (.iload 4, 2) := by decide +kernel
theorem dX7_tideIn_136 : decode cX7_tideIn 136 = .ok (.ifCond .ge 11, 3) := by decide +kernel
theorem dX7_tideIn_139 : decode cX7_tideIn 139 = .ok (.iload 5, 2) := by decide +kernel
theorem dX7_tideIn_141 : decode cX7_tideIn 141 = .ok (.ifCond .ge 6, 3) := by decide +kernel
theorem dX7_tideIn_144 : decode cX7_tideIn 144 = .ok (.ldc 105, 2) := by decide +kernel
theorem dX7_tideIn_146 : decode cX7_tideIn 146 = .ok (.ireturn, 1) := by decide +kernel
theorem dX7_tideIn_147 : decode cX7_tideIn 147 = .ok (.iload 4, 2) := by decide +kernel
theorem dX7_tideIn_149 : decode cX7_tideIn 149 = .ok (.ifCond .lt 8, 3) := by decide +kernel
theorem dX7_tideIn_152 : decode cX7_tideIn 152 = .ok (.iload 5, 2) := by decide +kernel
theorem dX7_tideIn_154 : decode cX7_tideIn 154 = .ok (.ifCond .ge 22, 3) := by decide +kernel
theorem dX7_tideIn_157 : decode cX7_tideIn 157 = .ok (.aload_n 0, 1) := by decide +kernel
theorem dX7_tideIn_158 : decode cX7_tideIn 158 = .ok (.iload 4, 2) := by decide +kernel
theorem dX7_tideIn_160 : decode cX7_tideIn 160 = .ok (.ifCond .ge 8, 3) := by decide +kernel
theorem dX7_tideIn_163 : decode cX7_tideIn 163 = .ok (.iload 5, 2) := by decide +kernel
theorem dX7_tideIn_165 : decode cX7_tideIn 165 = .ok (.goto 5, 3) := by decide +kernel
theorem dX7_tideIn_168 : decode cX7_tideIn 168 = .ok (.iload 4, 2) := by decide +kernel
theorem dX7_tideIn_170 : decode cX7_tideIn 170 = .ok (.iload_n 2, 1) := by decide +kernel
theorem dX7_tideIn_171 : decode cX7_tideIn 171 = .ok (.iload_n 3, 1) := by decide +kernel
theorem dX7_tideIn_172 : decode cX7_tideIn 172 = .ok (.invokevirtual 106, 3) := by decide +kernel
theorem dX7_tideIn_175 : decode cX7_tideIn 175 = .ok (.ireturn, 1) := by decide +kernel
theorem dX7_tideIn_176 : decode cX7_tideIn 176 = .ok (.aload_n 0, 1) := by decide +kernel
theorem dX7_tideIn_177 : decode cX7_tideIn 177 = .ok (.iload 4, 2) := by decide +kernel
theorem dX7_tideIn_179 : decode cX7_tideIn 179 = .ok (.iload_n 2, 1) := by decide +kernel
theorem dX7_tideIn_180 : decode cX7_tideIn 180 = .ok (.iload_n 3, 1) := by decide +kernel
theorem dX7_tideIn_181 : decode cX7_tideIn 181 = .ok (.invokevirtual 106, 3) := by decide +kernel
theorem dX7_tideIn_184 : decode cX7_tideIn 184 = .ok (.istore 6, 2) := by decide +kernel
theorem dX7_tideIn_186 : decode cX7_tideIn 186 = .ok (.aload_n 0, 1) := by decide +kernel
theorem dX7_tideIn_187 : decode cX7_tideIn 187 = .ok (.iload 5, 2) := by decide +kernel
theorem dX7_tideIn_189 : decode cX7_tideIn 189 = .ok (.iload_n 2, 1) := by decide +kernel
theorem dX7_tideIn_190 : decode cX7_tideIn 190 = .ok (.iload_n 3, 1) := by decide +kernel
theorem dX7_tideIn_191 : decode cX7_tideIn 191 = .ok (.invokevirtual 106, 3) := by decide +kernel
theorem dX7_tideIn_194 : decode cX7_tideIn 194 = .ok (.istore 7, 2) := by decide +kernel
theorem dX7_tideIn_196 : decode cX7_tideIn 196 = .ok (.iload 6, 2) := by decide +kernel
theorem dX7_tideIn_198 : decode cX7_tideIn 198 = .ok (.iload 7, 2) := by decide +kernel
theorem dX7_tideIn_200 : decode cX7_tideIn 200 = .ok (.iload 6, 2) := by decide +kernel
theorem dX7_tideIn_202 : decode cX7_tideIn 202 = .ok (.isub, 1) := by decide +kernel
theorem dX7_tideIn_203 : decode cX7_tideIn 203 = .ok (.iload_n 1, 1) := by decide +kernel
theorem dX7_tideIn_204 : decode cX7_tideIn 204 = .ok (.aload_n 0, 1) := by decide +kernel
theorem dX7_tideIn_205 : decode cX7_tideIn 205 = .ok (.getfield 24, 3) := by decide +kernel
theorem dX7_tideIn_208 : decode cX7_tideIn 208 = .ok (.iload 4, 2) := by decide +kernel
theorem dX7_tideIn_210 : decode cX7_tideIn 210 = .ok (.iaload, 1) := by decide +kernel
theorem dX7_tideIn_211 : decode cX7_tideIn 211 = .ok (.isub, 1) := by decide +kernel
theorem dX7_tideIn_212 : decode cX7_tideIn 212 = .ok (.imul, 1) := by decide +kernel
theorem dX7_tideIn_213 : decode cX7_tideIn 213 = .ok (.aload_n 0, 1) := by decide +kernel
theorem dX7_tideIn_214 : decode cX7_tideIn 214 = .ok (.getfield 24, 3) := by decide +kernel
theorem dX7_tideIn_217 : decode cX7_tideIn 217 = .ok (.iload 5, 2) := by decide +kernel
theorem dX7_tideIn_219 : decode cX7_tideIn 219 = .ok (.iaload, 1) := by decide +kernel
theorem dX7_tideIn_220 : decode cX7_tideIn 220 = .ok (.aload_n 0, 1) := by decide +kernel
theorem dX7_tideIn_221 : decode cX7_tideIn 221 = .ok (.getfield 24, 3) := by decide +kernel
theorem dX7_tideIn_224 : decode cX7_tideIn 224 = .ok (.iload 4, 2) := by decide +kernel
theorem dX7_tideIn_226 : decode cX7_tideIn 226 = .ok (.iaload, 1) := by decide +kernel
theorem dX7_tideIn_227 : decode cX7_tideIn 227 = .ok (.isub, 1) := by decide +kernel
theorem dX7_tideIn_228 : decode cX7_tideIn 228 = .ok (.invokestatic 88, 3) := by decide +kernel
theorem dX7_tideIn_231 : decode cX7_tideIn 231 = .ok (.iadd, 1) := by decide +kernel
theorem dX7_tideIn_232 : decode cX7_tideIn 232 = .ok (.ireturn, 1) := by decide +kernel
theorem dX7_tide_0 : decode cX7_tide 0 = .ok (.aload_n 0, 1) := by decide +kernel
theorem dX7_tide_1 : decode cX7_tide 1 = .ok (.iload_n 1, 1) := by decide +kernel
theorem dX7_tide_2 : decode cX7_tide 2 = .ok (.iconst 0, 1) := by decide +kernel
theorem dX7_tide_3 : decode cX7_tide 3 = .ok (.invokevirtual 77, 3) := by decide +kernel
theorem dX7_tide_6 : decode cX7_tide 6 = .ok (.ifCond .ne 12, 3) := by decide +kernel
theorem dX7_tide_9 : decode cX7_tide 9 = .ok (.aload_n 0, 1) := by decide +kernel
theorem dX7_tide_10 : decode cX7_tide 10 = .ok (.iload_n 2, 1) := by decide +kernel
theorem dX7_tide_11 : decode cX7_tide 11 = .ok (.iload_n 3, 1) := by decide +kernel
theorem dX7_tide_12 : decode cX7_tide 12 = .ok (.invokevirtual 73, 3) := by decide +kernel
theorem dX7_tide_15 : decode cX7_tide 15 = .ok (.ifCond .eq 5, 3) := by decide +kernel
theorem dX7_tide_18 : decode cX7_tide 18 = .ok (.iconst 0, 1) := by decide +kernel
theorem dX7_tide_19 : decode cX7_tide 19 = .ok (.ireturn, 1) := by decide +kernel
theorem dX7_tide_20 : decode cX7_tide 20 = .ok (.aload_n 0, 1) := by decide +kernel
theorem dX7_tide_21 : decode cX7_tide 21 = .ok (.iload_n 1, 1) := by decide +kernel
theorem dX7_tide_22 : decode cX7_tide 22 = .ok (.iload_n 2, 1) := by decide +kernel
theorem dX7_tide_23 : decode cX7_tide 23 = .ok (.iload_n 3, 1) := by decide +kernel
theorem dX7_tide_24 : decode cX7_tide 24 = .ok (.invokevirtual 109, 3) := by decide +kernel
theorem dX7_tide_27 : decode cX7_tide 27 = .ok (.istore 4, 2) := by decide +kernel
theorem dX7_tide_29 : decode cX7_tide 29 = .ok (.iload 4, 2) := by decide +kernel
theorem dX7_tide_31 : decode cX7_tide 31 = .ok (.ldc 105, 2) := by decide +kernel
theorem dX7_tide_33 : decode cX7_tide 33 = .ok (.if_icmp .ne 9, 3) := by decide +kernel
theorem dX7_tide_36 : decode cX7_tide 36 = .ok (.aload_n 0, 1) := by decide +kernel
theorem dX7_tide_37 : decode cX7_tide 37 = .ok (.iconst 2, 1) := by decide +kernel
theorem dX7_tide_38 : decode cX7_tide 38 = .ok (.invokevirtual 80, 3) := by decide +kernel
theorem dX7_tide_41 : decode cX7_tide 41 = .ok (.ireturn, 1) := by decide +kernel
theorem dX7_tide_42 : decode cX7_tide 42 = .ok (.iload 4, 2) := by decide +kernel
theorem dX7_tide_44 : decode cX7_tide 44 = .ok (.ireturn, 1) := by decide +kernel
theorem dX7_size_0 : decode cX7_size 0 = .ok (.aload_n 0, 1) := by decide +kernel
theorem dX7_size_1 : decode cX7_size 1 = .ok (.getfield 46, 3) := by decide +kernel
theorem dX7_size_4 : decode cX7_size 4 = .ok (.iload_n 1, 1) := by decide +kernel
theorem dX7_size_5 : decode cX7_size 5 = .ok (.iaload, 1) := by decide +kernel
theorem dX7_size_6 : decode cX7_size 6 = .ok (.aload_n 0, 1) := by decide +kernel
theorem dX7_size_7 : decode cX7_size 7 = .ok (.getfield 43, 3) := by decide +kernel
theorem dX7_size_10 : decode cX7_size 10 = .ok (.iload_n 1, 1) := by decide +kernel
theorem dX7_size_11 : decode cX7_size 11 = .ok (.iaload, 1) := by decide +kernel
theorem dX7_size_12 : decode cX7_size 12 = .ok (.if_icmp .ge 19, 3) := by decide +kernel
theorem dX7_size_15 : decode cX7_size 15 = .ok (.aload_n 0, 1) := by decide +kernel
theorem dX7_size_16 : decode cX7_size 16 = .ok (.getfield 43, 3) := by decide +kernel
theorem dX7_size_19 : decode cX7_size 19 = .ok (.iload_n 1, 1) := by decide +kernel
theorem dX7_size_20 : decode cX7_size 20 = .ok (.iaload, 1) := by decide +kernel
theorem dX7_size_21 : decode cX7_size 21 = .ok (.aload_n 0, 1) := by decide +kernel
theorem dX7_size_22 : decode cX7_size 22 = .ok (.getfield 46, 3) := by decide +kernel
theorem dX7_size_25 : decode cX7_size 25 = .ok (.iload_n 1, 1) := by decide +kernel
theorem dX7_size_26 : decode cX7_size 26 = .ok (.iaload, 1) := by decide +kernel
theorem dX7_size_27 : decode cX7_size 27 = .ok (.isub, 1) := by decide +kernel
theorem dX7_size_28 : decode cX7_size 28 = .ok (.goto 16, 3) := by decide +kernel
theorem dX7_size_31 : decode cX7_size 31 = .ok (.aload_n 0, 1) := by decide +kernel
theorem dX7_size_32 : decode cX7_size 32 = .ok (.getfield 46, 3) := by decide +kernel
theorem dX7_size_35 : decode cX7_size 35 = .ok (.iload_n 1, 1) := by decide +kernel
theorem dX7_size_36 : decode cX7_size 36 = .ok (.iaload, 1) := by decide +kernel
theorem dX7_size_37 : decode cX7_size 37 = .ok (.aload_n 0, 1) := by decide +kernel
theorem dX7_size_38 : decode cX7_size 38 = .ok (.getfield 43, 3) := by decide +kernel
theorem dX7_size_41 : decode cX7_size 41 = .ok (.iload_n 1, 1) := by decide +kernel
theorem dX7_size_42 : decode cX7_size 42 = .ok (.iaload, 1) := by decide +kernel
theorem dX7_size_43 : decode cX7_size 43 = .ok (.isub, 1) := by decide +kernel
theorem dX7_size_44 : decode cX7_size 44 = .ok (.iconst 1, 1) := by decide +kernel
theorem dX7_size_45 : decode cX7_size 45 = .ok (.iadd, 1) := by decide +kernel
theorem dX7_size_46 : decode cX7_size 46 = .ok (.ireturn, 1) := by decide +kernel
theorem dX7_last_0 : decode cX7_last 0 = .ok (.iload_n 1, 1) := by decide +kernel
theorem dX7_last_1 : decode cX7_last 1 = .ok (.iload_n 0, 1) := by decide +kernel
theorem dX7_last_2 : decode cX7_last 2 = .ok (.iconst 1, 1) := by decide +kernel
theorem dX7_last_3 : decode cX7_last 3 = .ok (.isub, 1) := by decide +kernel
theorem dX7_last_4 : decode cX7_last 4 = .ok (.iconst 5, 1) := by decide +kernel
theorem dX7_last_5 : decode cX7_last 5 = .ok (.idiv, 1) := by decide +kernel
theorem dX7_last_6 : decode cX7_last 6 = .ok (.iadd, 1) := by decide +kernel
theorem dX7_last_7 : decode cX7_last 7 = .ok (.ireturn, 1) := by decide +kernel
theorem dX7_isBusy_0 : decode cX7_isBusy 0 = .ok (.iconst 0, 1) := by decide +kernel
theorem dX7_isBusy_1 : decode cX7_isBusy 1 = .ok (.istore 5, 2) := by decide +kernel
theorem dX7_isBusy_3 : decode cX7_isBusy 3 = .ok (.iload 5, 2) := by decide +kernel
theorem dX7_isBusy_5 : decode cX7_isBusy 5 = .ok (.aload_n 0, 1) := by decide +kernel
theorem dX7_isBusy_6 : decode cX7_isBusy 6 = .ok (.getfield 112, 3) := by decide +kernel
theorem dX7_isBusy_9 : decode cX7_isBusy 9 = .ok (.if_icmp .ge 60, 3) := by decide +kernel
theorem dX7_isBusy_12 : decode cX7_isBusy 12 = .ok (.iload 5, 2) := by decide +kernel
theorem dX7_isBusy_14 : decode cX7_isBusy 14 = .ok (.iload_n 1, 1) := by decide +kernel
theorem dX7_isBusy_15 : decode cX7_isBusy 15 = .ok (.if_icmp .eq 48, 3) := by decide +kernel
theorem dX7_isBusy_18 : decode cX7_isBusy 18 = .ok (.aload_n 0, 1) := by decide +kernel
theorem dX7_isBusy_19 : decode cX7_isBusy 19 = .ok (.getfield 49, 3) := by decide +kernel
theorem dX7_isBusy_22 : decode cX7_isBusy 22 = .ok (.iload 5, 2) := by decide +kernel
theorem dX7_isBusy_24 : decode cX7_isBusy 24 = .ok (.iaload, 1) := by decide +kernel
theorem dX7_isBusy_25 : decode cX7_isBusy 25 = .ok (.iload_n 2, 1) := by decide +kernel
theorem dX7_isBusy_26 : decode cX7_isBusy 26 = .ok (.if_icmp .ne 37, 3) := by decide +kernel
theorem dX7_isBusy_29 : decode cX7_isBusy 29 = .ok (.aload_n 0, 1) := by decide +kernel
theorem dX7_isBusy_30 : decode cX7_isBusy 30 = .ok (.getfield 52, 3) := by decide +kernel
theorem dX7_isBusy_33 : decode cX7_isBusy 33 = .ok (.iload 5, 2) := by decide +kernel
theorem dX7_isBusy_35 : decode cX7_isBusy 35 = .ok (.iaload, 1) := by decide +kernel
theorem dX7_isBusy_36 : decode cX7_isBusy 36 = .ok (.iload 4, 2) := by decide +kernel
theorem dX7_isBusy_38 : decode cX7_isBusy 38 = .ok (.if_icmp .gt 25, 3) := by decide +kernel
theorem dX7_isBusy_41 : decode cX7_isBusy 41 = .ok (.aload_n 0, 1) := by decide +kernel
theorem dX7_isBusy_42 : decode cX7_isBusy 42 = .ok (.iload 5, 2) := by decide +kernel
theorem dX7_isBusy_44 : decode cX7_isBusy 44 = .ok (.invokevirtual 115, 3) := by decide +kernel
theorem dX7_isBusy_47 : decode cX7_isBusy 47 = .ok (.aload_n 0, 1) := by decide +kernel
theorem dX7_isBusy_48 : decode cX7_isBusy 48 = .ok (.getfield 52, 3) := by decide +kernel
theorem dX7_isBusy_51 : decode cX7_isBusy 51 = .ok (.iload 5, 2) := by decide +kernel
theorem dX7_isBusy_53 : decode cX7_isBusy 53 = .ok (.iaload, 1) := by decide +kernel
theorem dX7_isBusy_54 : decode cX7_isBusy 54 = .ok (.invokestatic 118, 3) := by decide +kernel
theorem dX7_isBusy_57 : decode cX7_isBusy 57 = .ok (.iload_n 3, 1) := by decide +kernel
theorem dX7_isBusy_58 : decode cX7_isBusy 58 = .ok (.if_icmp .lt 5, 3) := by decide +kernel
theorem dX7_isBusy_61 : decode cX7_isBusy 61 = .ok (.iconst 1, 1) := by decide +kernel
theorem dX7_isBusy_62 : decode cX7_isBusy 62 = .ok (.ireturn, 1) := by decide +kernel
theorem dX7_isBusy_63 : decode cX7_isBusy 63 = .ok (.iinc 5 1, 3) := by decide +kernel
theorem dX7_isBusy_66 : decode cX7_isBusy 66 = .ok (.goto (-63), 3) := by decide +kernel
theorem dX7_isBusy_69 : decode cX7_isBusy 69 = .ok (.iconst 0, 1) := by decide +kernel
theorem dX7_isBusy_70 : decode cX7_isBusy 70 = .ok (.ireturn, 1) := by decide +kernel
theorem dX7_place_0 : decode cX7_place 0 = .ok (.bipush 7, 2) := by decide +kernel
theorem dX7_place_2 : decode cX7_place 2 = .ok (.bipush 20, 2) := by decide +kernel
theorem dX7_place_4 : decode cX7_place 4 = .ok (.iload_n 1, 1) := by decide +kernel
theorem dX7_place_5 : decode cX7_place 5 = .ok (.imul, 1) := by decide +kernel
theorem dX7_place_6 : decode cX7_place 6 = .ok (.iload_n 2, 1) := by decide +kernel
theorem dX7_place_7 : decode cX7_place 7 = .ok (.iadd, 1) := by decide +kernel
theorem dX7_place_8 : decode cX7_place 8 = .ok (.imul, 1) := by decide +kernel
theorem dX7_place_9 : decode cX7_place 9 = .ok (.iload_n 3, 1) := by decide +kernel
theorem dX7_place_10 : decode cX7_place 10 = .ok (.iadd, 1) := by decide +kernel
theorem dX7_place_11 : decode cX7_place 11 = .ok (.iconst 3, 1) := by decide +kernel
theorem dX7_place_12 : decode cX7_place 12 = .ok (.iadd, 1) := by decide +kernel
theorem dX7_place_13 : decode cX7_place 13 = .ok (.ireturn, 1) := by decide +kernel
theorem dX7_along_0 : decode cX7_along 0 = .ok (.aload_n 0, 1) := by decide +kernel
theorem dX7_along_1 : decode cX7_along 1 = .ok (.getfield 46, 3) := by decide +kernel
theorem dX7_along_4 : decode cX7_along 4 = .ok (.iload_n 1, 1) := by decide +kernel
theorem dX7_along_5 : decode cX7_along 5 = .ok (.iaload, 1) := by decide +kernel
theorem dX7_along_6 : decode cX7_along 6 = .ok (.aload_n 0, 1) := by decide +kernel
theorem dX7_along_7 : decode cX7_along 7 = .ok (.getfield 43, 3) := by decide +kernel
theorem dX7_along_10 : decode cX7_along 10 = .ok (.iload_n 1, 1) := by decide +kernel
theorem dX7_along_11 : decode cX7_along 11 = .ok (.iaload, 1) := by decide +kernel
theorem dX7_along_12 : decode cX7_along 12 = .ok (.if_icmp .ge 14, 3) := by decide +kernel
theorem dX7_along_15 : decode cX7_along 15 = .ok (.aload_n 0, 1) := by decide +kernel
theorem dX7_along_16 : decode cX7_along 16 = .ok (.getfield 43, 3) := by decide +kernel
theorem dX7_along_19 : decode cX7_along 19 = .ok (.iload_n 1, 1) := by decide +kernel
theorem dX7_along_20 : decode cX7_along 20 = .ok (.iaload, 1) := by decide +kernel
theorem dX7_along_21 : decode cX7_along 21 = .ok (.iload_n 2, 1) := by decide +kernel
theorem dX7_along_22 : decode cX7_along 22 = .ok (.isub, 1) := by decide +kernel
theorem dX7_along_23 : decode cX7_along 23 = .ok (.goto 11, 3) := by decide +kernel
theorem dX7_along_26 : decode cX7_along 26 = .ok (.aload_n 0, 1) := by decide +kernel
theorem dX7_along_27 : decode cX7_along 27 = .ok (.getfield 43, 3) := by decide +kernel
theorem dX7_along_30 : decode cX7_along 30 = .ok (.iload_n 1, 1) := by decide +kernel
theorem dX7_along_31 : decode cX7_along 31 = .ok (.iaload, 1) := by decide +kernel
theorem dX7_along_32 : decode cX7_along 32 = .ok (.iload_n 2, 1) := by decide +kernel
theorem dX7_along_33 : decode cX7_along 33 = .ok (.iadd, 1) := by decide +kernel
theorem dX7_along_34 : decode cX7_along 34 = .ok (.ireturn, 1) := by decide +kernel
theorem dX7_columnOf_0 : decode cX7_columnOf 0 = .ok (.aload_n 0, 1) := by decide +kernel
theorem dX7_columnOf_1 : decode cX7_columnOf 1 = .ok (.getfield 37, 3) := by decide +kernel
theorem dX7_columnOf_4 : decode cX7_columnOf 4 = .ok (.iload_n 1, 1) := by decide +kernel
theorem dX7_columnOf_5 : decode cX7_columnOf 5 = .ok (.baload, 1) := by decide +kernel
theorem dX7_columnOf_6 : decode cX7_columnOf 6 = .ok (.ifCond .eq 12, 3) := by decide +kernel
theorem dX7_columnOf_9 : decode cX7_columnOf 9 = .ok (.aload_n 0, 1) := by decide +kernel
theorem dX7_columnOf_10 : decode cX7_columnOf 10 = .ok (.iload_n 1, 1) := by decide +kernel
theorem dX7_columnOf_11 : decode cX7_columnOf 11 = .ok (.iload_n 2, 1) := by decide +kernel
theorem dX7_columnOf_12 : decode cX7_columnOf 12 = .ok (.invokevirtual 121, 3) := by decide +kernel
theorem dX7_columnOf_15 : decode cX7_columnOf 15 = .ok (.goto 11, 3) := by decide +kernel
theorem dX7_columnOf_18 : decode cX7_columnOf 18 = .ok (.aload_n 0, 1) := by decide +kernel
theorem dX7_columnOf_19 : decode cX7_columnOf 19 = .ok (.getfield 40, 3) := by decide +kernel
theorem dX7_columnOf_22 : decode cX7_columnOf 22 = .ok (.iload_n 1, 1) := by decide +kernel
theorem dX7_columnOf_23 : decode cX7_columnOf 23 = .ok (.iaload, 1) := by decide +kernel
theorem dX7_columnOf_24 : decode cX7_columnOf 24 = .ok (.iload_n 3, 1) := by decide +kernel
theorem dX7_columnOf_25 : decode cX7_columnOf 25 = .ok (.iadd, 1) := by decide +kernel
theorem dX7_columnOf_26 : decode cX7_columnOf 26 = .ok (.ireturn, 1) := by decide +kernel
theorem dX7_rowOf_0 : decode cX7_rowOf 0 = .ok (.aload_n 0, 1) := by decide +kernel
theorem dX7_rowOf_1 : decode cX7_rowOf 1 = .ok (.getfield 37, 3) := by decide +kernel
theorem dX7_rowOf_4 : decode cX7_rowOf 4 = .ok (.iload_n 1, 1) := by decide +kernel
theorem dX7_rowOf_5 : decode cX7_rowOf 5 = .ok (.baload, 1) := by decide +kernel
theorem dX7_rowOf_6 : decode cX7_rowOf 6 = .ok (.ifCond .eq 14, 3) := by decide +kernel
theorem dX7_rowOf_9 : decode cX7_rowOf 9 = .ok (.aload_n 0, 1) := by decide +kernel
theorem dX7_rowOf_10 : decode cX7_rowOf 10 = .ok (.getfield 40, 3) := by decide +kernel
theorem dX7_rowOf_13 : decode cX7_rowOf 13 = .ok (.iload_n 1, 1) := by decide +kernel
theorem dX7_rowOf_14 : decode cX7_rowOf 14 = .ok (.iaload, 1) := by decide +kernel
theorem dX7_rowOf_15 : decode cX7_rowOf 15 = .ok (.iload_n 3, 1) := by decide +kernel
theorem dX7_rowOf_16 : decode cX7_rowOf 16 = .ok (.iadd, 1) := by decide +kernel
theorem dX7_rowOf_17 : decode cX7_rowOf 17 = .ok (.goto 9, 3) := by decide +kernel
theorem dX7_rowOf_20 : decode cX7_rowOf 20 = .ok (.aload_n 0, 1) := by decide +kernel
theorem dX7_rowOf_21 : decode cX7_rowOf 21 = .ok (.iload_n 1, 1) := by decide +kernel
theorem dX7_rowOf_22 : decode cX7_rowOf 22 = .ok (.iload_n 2, 1) := by decide +kernel
theorem dX7_rowOf_23 : decode cX7_rowOf 23 = .ok (.invokevirtual 121, 3) := by decide +kernel
theorem dX7_rowOf_26 : decode cX7_rowOf 26 = .ok (.ireturn, 1) := by decide +kernel
theorem dX7_isOn_0 : decode cX7_isOn 0 = .ok (.aload_n 0, 1) := by decide +kernel
theorem dX7_isOn_1 : decode cX7_isOn 1 = .ok (.iload_n 1, 1) := by decide +kernel
theorem dX7_isOn_2 : decode cX7_isOn 2 = .ok (.iload_n 2, 1) := by decide +kernel
theorem dX7_isOn_3 : decode cX7_isOn 3 = .ok (.iload_n 3, 1) := by decide +kernel
theorem dX7_isOn_4 : decode cX7_isOn 4 = .ok (.invokevirtual 124, 3) := by decide +kernel
theorem dX7_isOn_7 : decode cX7_isOn 7 = .ok (.iconst 0, 1) := by decide +kernel
theorem dX7_isOn_8 : decode cX7_isOn 8 = .ok (.bipush 19, 2) := by decide +kernel
theorem dX7_isOn_10 : decode cX7_isOn 10 = .ok (.invokestatic 69, 3) := by decide +kernel
theorem dX7_isOn_13 : decode cX7_isOn 13 = .ok (.ifCond .eq 23, 3) := by decide +kernel
theorem dX7_isOn_16 : decode cX7_isOn 16 = .ok (.aload_n 0, 1) := by decide +kernel
theorem dX7_isOn_17 : decode cX7_isOn 17 = .ok (.iload_n 1, 1) := by decide +kernel
theorem dX7_isOn_18 : decode cX7_isOn 18 = .ok (.iload_n 2, 1) := by decide +kernel
theorem dX7_isOn_19 : decode cX7_isOn 19 = .ok (.iload_n 3, 1) := by decide +kernel
theorem dX7_isOn_20 : decode cX7_isOn 20 = .ok (.invokevirtual 127, 3) := by decide +kernel
theorem dX7_isOn_23 : decode cX7_isOn 23 = .ok (.iconst 0, 1) := by decide +kernel
theorem dX7_isOn_24 : decode cX7_isOn 24 = .ok (.bipush 11, 2) := by decide +kernel
theorem dX7_isOn_26 : decode cX7_isOn 26 = .ok (.invokestatic 69, 3) := by decide +kernel
theorem dX7_isOn_29 : decode cX7_isOn 29 = .ok (.ifCond .eq 7, 3) := by decide +kernel
theorem dX7_isOn_32 : decode cX7_isOn 32 = .ok (.iconst 1, 1) := by decide +kernel
theorem dX7_isOn_33 : decode cX7_isOn 33 = .ok (.goto 4, 3) := by decide +kernel
theorem dX7_isOn_36 : decode cX7_isOn 36 = .ok (.iconst 0, 1) := by decide +kernel
theorem dX7_isOn_37 : decode cX7_isOn 37 = .ok (.ireturn, 1) := by decide +kernel
theorem dX7_cellOf_0 : decode cX7_cellOf 0 = .ok (.bipush 20, 2) := by decide +kernel
theorem dX7_cellOf_2 : decode cX7_cellOf 2 = .ok (.aload_n 0, 1) := by decide +kernel
theorem dX7_cellOf_3 : decode cX7_cellOf 3 = .ok (.iload_n 1, 1) := by decide +kernel
theorem dX7_cellOf_4 : decode cX7_cellOf 4 = .ok (.iload_n 2, 1) := by decide +kernel
theorem dX7_cellOf_5 : decode cX7_cellOf 5 = .ok (.iload_n 3, 1) := by decide +kernel
theorem dX7_cellOf_6 : decode cX7_cellOf 6 = .ok (.invokevirtual 127, 3) := by decide +kernel
theorem dX7_cellOf_9 : decode cX7_cellOf 9 = .ok (.imul, 1) := by decide +kernel
theorem dX7_cellOf_10 : decode cX7_cellOf 10 = .ok (.aload_n 0, 1) := by decide +kernel
theorem dX7_cellOf_11 : decode cX7_cellOf 11 = .ok (.iload_n 1, 1) := by decide +kernel
theorem dX7_cellOf_12 : decode cX7_cellOf 12 = .ok (.iload_n 2, 1) := by decide +kernel
theorem dX7_cellOf_13 : decode cX7_cellOf 13 = .ok (.iload_n 3, 1) := by decide +kernel
theorem dX7_cellOf_14 : decode cX7_cellOf 14 = .ok (.invokevirtual 124, 3) := by decide +kernel
theorem dX7_cellOf_17 : decode cX7_cellOf 17 = .ok (.iadd, 1) := by decide +kernel
theorem dX7_cellOf_18 : decode cX7_cellOf 18 = .ok (.ireturn, 1) := by decide +kernel
theorem dX7_reach_0 : decode cX7_reach 0 = .ok (.iload_n 0, 1) := by decide +kernel
theorem dX7_reach_1 : decode cX7_reach 1 = .ok (.bipush 10, 2) := by decide +kernel
theorem dX7_reach_3 : decode cX7_reach 3 = .ok (.idiv, 1) := by decide +kernel
theorem dX7_reach_4 : decode cX7_reach 4 = .ok (.iconst 3, 1) := by decide +kernel
theorem dX7_reach_5 : decode cX7_reach 5 = .ok (.if_icmp .ge 10, 3) := by decide +kernel
theorem dX7_reach_8 : decode cX7_reach 8 = .ok (.iload_n 0, 1) := by decide +kernel
theorem dX7_reach_9 : decode cX7_reach 9 = .ok (.bipush 10, 2) := by decide +kernel
theorem dX7_reach_11 : decode cX7_reach 11 = .ok (.idiv, 1) := by decide +kernel
theorem dX7_reach_12 : decode cX7_reach 12 = .ok (.goto 4, 3) := by decide +kernel
theorem dX7_reach_15 : decode cX7_reach 15 = .ok (.iconst 3, 1) := by decide +kernel
theorem dX7_reach_16 : decode cX7_reach 16 = .ok (.ireturn, 1) := by decide +kernel
theorem dX7_sounds_0 : decode cX7_sounds 0 = .ok (.iconst 0, 1) := by decide +kernel
theorem dX7_sounds_1 : decode cX7_sounds 1 = .ok (.istore_n 2, 1) := by decide +kernel
theorem dX7_sounds_2 : decode cX7_sounds 2 = .ok (.iload_n 2, 1) := by decide +kernel
theorem dX7_sounds_3 : decode cX7_sounds 3 = .ok (.bipush 20, 2) := by decide +kernel
theorem dX7_sounds_5 : decode cX7_sounds 5 = .ok (.if_icmp .ge 150, 3) := by decide +kernel
theorem dX7_sounds_8 : decode cX7_sounds 8 = .ok (.bipush (-3), 2) := by decide +kernel
theorem dX7_sounds_10 : decode cX7_sounds 10 = .ok (.istore_n 3, 1) := by decide +kernel
theorem dX7_sounds_11 : decode cX7_sounds 11 = .ok (.iload_n 3, 1) := by decide +kernel
theorem dX7_sounds_12 : decode cX7_sounds 12 = .ok (.iconst 3, 1) := by decide +kernel
theorem dX7_sounds_13 : decode cX7_sounds 13 = .ok (.if_icmp .gt 136, 3) := by decide +kernel
theorem dX7_sounds_16 : decode cX7_sounds 16 = .ok (.aload_n 0, 1) := by decide +kernel
theorem dX7_sounds_17 : decode cX7_sounds 17 = .ok (.iload_n 1, 1) := by decide +kernel
theorem dX7_sounds_18 : decode cX7_sounds 18 = .ok (.iload_n 2, 1) := by decide +kernel
theorem dX7_sounds_19 : decode cX7_sounds 19 = .ok (.iload_n 3, 1) := by decide +kernel
theorem dX7_sounds_20 : decode cX7_sounds 20 = .ok (.invokevirtual 130, 3) := by decide +kernel
theorem dX7_sounds_23 : decode cX7_sounds 23 = .ok (.istore 4, 2) := by decide +kernel
theorem dX7_sounds_25 : decode cX7_sounds 25 = .ok (.aload_n 0, 1) := by decide +kernel
theorem dX7_sounds_26 : decode cX7_sounds 26 = .ok (.getfield 58, 3) := by decide +kernel
theorem dX7_sounds_29 : decode cX7_sounds 29 = .ok (.iload 4, 2) := by decide +kernel
theorem dX7_sounds_31 : decode cX7_sounds 31 = .ok (.iconst 0, 1) := by decide +kernel
theorem dX7_sounds_32 : decode cX7_sounds 32 = .ok (.iastore, 1) := by decide +kernel
theorem dX7_sounds_33 : decode cX7_sounds 33 = .ok (.aload_n 0, 1) := by decide +kernel
theorem dX7_sounds_34 : decode cX7_sounds 34 = .ok (.getfield 55, 3) := by decide +kernel
theorem dX7_sounds_37 : decode cX7_sounds 37 = .ok (.iload 4, 2) := by decide +kernel
theorem dX7_sounds_39 : decode cX7_sounds 39 = .ok (.ldc 105, 2) := by decide +kernel
theorem dX7_sounds_41 : decode cX7_sounds 41 = .ok (.iastore, 1) := by decide +kernel
theorem dX7_sounds_42 : decode cX7_sounds 42 = .ok (.iload_n 2, 1) := by decide +kernel
theorem dX7_sounds_43 : decode cX7_sounds 43 = .ok (.aload_n 0, 1) := by decide +kernel
theorem dX7_sounds_44 : decode cX7_sounds 44 = .ok (.iload_n 1, 1) := by decide +kernel
theorem dX7_sounds_45 : decode cX7_sounds 45 = .ok (.invokevirtual 115, 3) := by decide +kernel
theorem dX7_sounds_48 : decode cX7_sounds 48 = .ok (.if_icmp .ge 95, 3) := by decide +kernel
theorem dX7_sounds_51 : decode cX7_sounds 51 = .ok (.aload_n 0, 1) := by decide +kernel
theorem dX7_sounds_52 : decode cX7_sounds 52 = .ok (.iload_n 1, 1) := by decide +kernel
theorem dX7_sounds_53 : decode cX7_sounds 53 = .ok (.iload_n 2, 1) := by decide +kernel
theorem dX7_sounds_54 : decode cX7_sounds 54 = .ok (.iload_n 3, 1) := by decide +kernel
theorem dX7_sounds_55 : decode cX7_sounds 55 = .ok (.invokevirtual 133, 3) := by decide +kernel
theorem dX7_sounds_58 : decode cX7_sounds 58 = .ok (.ifCond .ne 6, 3) := by decide +kernel
theorem dX7_sounds_61 : decode cX7_sounds 61 = .ok (.goto 82, 3) := by decide +kernel
theorem dX7_sounds_64 : decode cX7_sounds 64 = .ok (.iload_n 3, 1) := by decide +kernel
theorem dX7_sounds_65 : decode cX7_sounds 65 = .ok (.ifCond .ge 8, 3) := by decide +kernel
theorem dX7_sounds_68 : decode cX7_sounds 68 = .ok (.iload_n 3, 1) := by decide +kernel
theorem dX7_sounds_69 : decode cX7_sounds 69 = .ok (.ineg, 1) := by decide +kernel
theorem dX7_sounds_70 : decode cX7_sounds 70 = .ok (.goto 4, 3) := by decide +kernel
theorem dX7_sounds_73 : decode cX7_sounds 73 = .ok (.iload_n 3, 1) := by decide +kernel
theorem dX7_sounds_74 : decode cX7_sounds 74 = .ok (.istore 5, 2) := by decide +kernel
theorem dX7_sounds_76 : decode cX7_sounds 76 = .ok (.iload 5, 2) := by decide +kernel
theorem dX7_sounds_78 : decode cX7_sounds 78 = .ok (.aload_n 0, 1) := by decide +kernel
theorem dX7_sounds_79 : decode cX7_sounds 79 = .ok (.getfield 9, 3) := by decide +kernel
theorem dX7_sounds_82 : decode cX7_sounds 82 = .ok (.aload_n 0, 1) := by decide +kernel
theorem dX7_sounds_83 : decode cX7_sounds 83 = .ok (.iload_n 1, 1) := by decide +kernel
theorem dX7_sounds_84 : decode cX7_sounds 84 = .ok (.iload_n 2, 1) := by decide +kernel
theorem dX7_sounds_85 : decode cX7_sounds 85 = .ok (.iconst 0, 1) := by decide +kernel
theorem dX7_sounds_86 : decode cX7_sounds 86 = .ok (.invokevirtual 136, 3) := by decide +kernel
theorem dX7_sounds_89 : decode cX7_sounds 89 = .ok (.iaload, 1) := by decide +kernel
theorem dX7_sounds_90 : decode cX7_sounds 90 = .ok (.invokestatic 139, 3) := by decide +kernel
theorem dX7_sounds_93 : decode cX7_sounds 93 = .ok (.if_icmp .gt 50, 3) := by decide +kernel
theorem dX7_sounds_96 : decode cX7_sounds 96 = .ok (.aload_n 0, 1) := by decide +kernel
theorem dX7_sounds_97 : decode cX7_sounds 97 = .ok (.getfield 55, 3) := by decide +kernel
theorem dX7_sounds_100 : decode cX7_sounds 100 = .ok (.iload 4, 2) := by decide +kernel
theorem dX7_sounds_102 : decode cX7_sounds 102 = .ok (.aload_n 0, 1) := by decide +kernel
theorem dX7_sounds_103 : decode cX7_sounds 103 = .ok (.getfield 9, 3) := by decide +kernel
theorem dX7_sounds_106 : decode cX7_sounds 106 = .ok (.aload_n 0, 1) := by decide +kernel
theorem dX7_sounds_107 : decode cX7_sounds 107 = .ok (.iload_n 1, 1) := by decide +kernel
theorem dX7_sounds_108 : decode cX7_sounds 108 = .ok (.iload_n 2, 1) := by decide +kernel
theorem dX7_sounds_109 : decode cX7_sounds 109 = .ok (.iload_n 3, 1) := by decide +kernel
theorem dX7_sounds_110 : decode cX7_sounds 110 = .ok (.invokevirtual 136, 3) := by decide +kernel
theorem dX7_sounds_113 : decode cX7_sounds 113 = .ok (.iaload, 1) := by decide +kernel
theorem dX7_sounds_114 : decode cX7_sounds 114 = .ok (.aload_n 0, 1) := by decide +kernel
theorem dX7_sounds_115 : decode cX7_sounds 115 = .ok (.aload_n 0, 1) := by decide +kernel
theorem dX7_sounds_116 : decode cX7_sounds 116 = .ok (.iload_n 1, 1) := by decide +kernel
theorem dX7_sounds_117 : decode cX7_sounds 117 = .ok (.iload_n 2, 1) := by decide +kernel
theorem dX7_sounds_118 : decode cX7_sounds 118 = .ok (.iconst 0, 1) := by decide +kernel
theorem dX7_sounds_119 : decode cX7_sounds 119 = .ok (.invokevirtual 124, 3) := by decide +kernel
theorem dX7_sounds_122 : decode cX7_sounds 122 = .ok (.aload_n 0, 1) := by decide +kernel
theorem dX7_sounds_123 : decode cX7_sounds 123 = .ok (.getfield 49, 3) := by decide +kernel
theorem dX7_sounds_126 : decode cX7_sounds 126 = .ok (.iload_n 1, 1) := by decide +kernel
theorem dX7_sounds_127 : decode cX7_sounds 127 = .ok (.iaload, 1) := by decide +kernel
theorem dX7_sounds_128 : decode cX7_sounds 128 = .ok (.aload_n 0, 1) := by decide +kernel
theorem dX7_sounds_129 : decode cX7_sounds 129 = .ok (.getfield 52, 3) := by decide +kernel
theorem dX7_sounds_132 : decode cX7_sounds 132 = .ok (.iload_n 1, 1) := by decide +kernel
theorem dX7_sounds_133 : decode cX7_sounds 133 = .ok (.iaload, 1) := by decide +kernel
theorem dX7_sounds_134 : decode cX7_sounds 134 = .ok (.iload_n 2, 1) := by decide +kernel
theorem dX7_sounds_135 : decode cX7_sounds 135 = .ok (.iconst 5, 1) := by decide +kernel
theorem dX7_sounds_136 : decode cX7_sounds 136 = .ok (.idiv, 1) := by decide +kernel
theorem dX7_sounds_137 : decode cX7_sounds 137 = .ok (.iadd, 1) := by decide +kernel
theorem dX7_sounds_138 : decode cX7_sounds 138 = .ok (.invokevirtual 92, 3) := by decide +kernel
theorem dX7_sounds_141 : decode cX7_sounds 141 = .ok (.iadd, 1) := by decide +kernel
theorem dX7_sounds_142 : decode cX7_sounds 142 = .ok (.iastore, 1) := by decide +kernel
theorem dX7_sounds_143 : decode cX7_sounds 143 = .ok (.iinc 3 1, 3) := by decide +kernel
theorem dX7_sounds_146 : decode cX7_sounds 146 = .ok (.goto (-135), 3) := by decide +kernel
theorem dX7_sounds_149 : decode cX7_sounds 149 = .ok (.iinc 2 1, 3) := by decide +kernel
theorem dX7_sounds_152 : decode cX7_sounds 152 = .ok (.goto (-150), 3) := by decide +kernel
theorem dX7_sounds_155 : decode cX7_sounds 155 = .ok (.return_, 1) := by decide +kernel
theorem dX7_run_0 : decode cX7_run 0 = .ok (.iload_n 1, 1) := by decide +kernel
theorem dX7_run_1 : decode cX7_run 1 = .ok (.bipush 114, 2) := by decide +kernel
theorem dX7_run_3 : decode cX7_run 3 = .ok (.if_icmp .eq 15, 3) := by decide +kernel
theorem dX7_run_6 : decode cX7_run 6 = .ok (.iload_n 1, 1) := by decide +kernel
theorem dX7_run_7 : decode cX7_run 7 = .ok (.bipush 99, 2) := by decide +kernel
theorem dX7_run_9 : decode cX7_run 9 = .ok (.if_icmp .eq 9, 3) := by decide +kernel
theorem dX7_run_12 : decode cX7_run 12 = .ok (.aload_n 0, 1) := by decide +kernel
theorem dX7_run_13 : decode cX7_run 13 = .ok (.iconst 1, 1) := by decide +kernel
theorem dX7_run_14 : decode cX7_run 14 = .ok (.invokevirtual 80, 3) := by decide +kernel
theorem dX7_run_17 : decode cX7_run 17 = .ok (.ireturn, 1) := by decide +kernel
theorem dX7_run_18 : decode cX7_run 18 = .ok (.iload_n 1, 1) := by decide +kernel
theorem dX7_run_19 : decode cX7_run 19 = .ok (.bipush 114, 2) := by decide +kernel
theorem dX7_run_21 : decode cX7_run 21 = .ok (.if_icmp .ne 8, 3) := by decide +kernel
theorem dX7_run_24 : decode cX7_run 24 = .ok (.bipush 12, 2) := by decide +kernel
theorem dX7_run_26 : decode cX7_run 26 = .ok (.goto 5, 3) := by decide +kernel
theorem dX7_run_29 : decode cX7_run 29 = .ok (.bipush 20, 2) := by decide +kernel
theorem dX7_run_31 : decode cX7_run 31 = .ok (.istore 7, 2) := by decide +kernel
theorem dX7_run_33 : decode cX7_run 33 = .ok (.iload_n 1, 1) := by decide +kernel
theorem dX7_run_34 : decode cX7_run 34 = .ok (.bipush 114, 2) := by decide +kernel
theorem dX7_run_36 : decode cX7_run 36 = .ok (.if_icmp .ne 8, 3) := by decide +kernel
theorem dX7_run_39 : decode cX7_run 39 = .ok (.bipush 20, 2) := by decide +kernel
theorem dX7_run_41 : decode cX7_run 41 = .ok (.goto 5, 3) := by decide +kernel
theorem dX7_run_44 : decode cX7_run 44 = .ok (.bipush 12, 2) := by decide +kernel
theorem dX7_run_46 : decode cX7_run 46 = .ok (.istore 8, 2) := by decide +kernel
theorem dX7_run_48 : decode cX7_run 48 = .ok (.iload_n 2, 1) := by decide +kernel
theorem dX7_run_49 : decode cX7_run 49 = .ok (.iconst 0, 1) := by decide +kernel
theorem dX7_run_50 : decode cX7_run 50 = .ok (.iload 7, 2) := by decide +kernel
theorem dX7_run_52 : decode cX7_run 52 = .ok (.iconst 1, 1) := by decide +kernel
theorem dX7_run_53 : decode cX7_run 53 = .ok (.isub, 1) := by decide +kernel
theorem dX7_run_54 : decode cX7_run 54 = .ok (.invokestatic 69, 3) := by decide +kernel
theorem dX7_run_57 : decode cX7_run 57 = .ok (.ifCond .eq 39, 3) := by decide +kernel
theorem dX7_run_60 : decode cX7_run 60 = .ok (.iload_n 3, 1) := by decide +kernel
theorem dX7_run_61 : decode cX7_run 61 = .ok (.iconst 0, 1) := by decide +kernel
theorem dX7_run_62 : decode cX7_run 62 = .ok (.iload 8, 2) := by decide +kernel
theorem dX7_run_64 : decode cX7_run 64 = .ok (.iconst 1, 1) := by decide +kernel
theorem dX7_run_65 : decode cX7_run 65 = .ok (.isub, 1) := by decide +kernel
theorem dX7_run_66 : decode cX7_run 66 = .ok (.invokestatic 69, 3) := by decide +kernel
theorem dX7_run_69 : decode cX7_run 69 = .ok (.ifCond .eq 27, 3) := by decide +kernel
theorem dX7_run_72 : decode cX7_run 72 = .ok (.iload 4, 2) := by decide +kernel
theorem dX7_run_74 : decode cX7_run 74 = .ok (.iconst 0, 1) := by decide +kernel
theorem dX7_run_75 : decode cX7_run 75 = .ok (.iload 8, 2) := by decide +kernel
theorem dX7_run_77 : decode cX7_run 77 = .ok (.iconst 1, 1) := by decide +kernel
theorem dX7_run_78 : decode cX7_run 78 = .ok (.isub, 1) := by decide +kernel
theorem dX7_run_79 : decode cX7_run 79 = .ok (.invokestatic 69, 3) := by decide +kernel
theorem dX7_run_82 : decode cX7_run 82 = .ok (.ifCond .eq 14, 3) := by decide +kernel
theorem dX7_run_85 : decode cX7_run 85 = .ok (.aload_n 0, 1) := by decide +kernel
theorem dX7_run_86 : decode cX7_run 86 = .ok (.iload 5, 2) := by decide +kernel
theorem dX7_run_88 : decode cX7_run 88 = .ok (.iload 6, 2) := by decide +kernel
theorem dX7_run_90 : decode cX7_run 90 = .ok (.invokevirtual 73, 3) := by decide +kernel
theorem dX7_run_93 : decode cX7_run 93 = .ok (.ifCond .eq 9, 3) := by decide +kernel
theorem dX7_run_96 : decode cX7_run 96 = .ok (.aload_n 0, 1) := by decide +kernel
theorem dX7_run_97 : decode cX7_run 97 = .ok (.iconst 2, 1) := by decide +kernel
theorem dX7_run_98 : decode cX7_run 98 = .ok (.invokevirtual 80, 3) := by decide +kernel
theorem dX7_run_101 : decode cX7_run 101 = .ok (.ireturn, 1) := by decide +kernel
theorem dX7_run_102 : decode cX7_run 102 = .ok (.aload_n 0, 1) := by decide +kernel
theorem dX7_run_103 : decode cX7_run 103 = .ok (.getfield 21, 3) := by decide +kernel
theorem dX7_run_106 : decode cX7_run 106 = .ok (.iload 5, 2) := by decide +kernel
theorem dX7_run_108 : decode cX7_run 108 = .ok (.iaload, 1) := by decide +kernel
theorem dX7_run_109 : decode cX7_run 109 = .ok (.iconst 4, 1) := by decide +kernel
theorem dX7_run_110 : decode cX7_run 110 = .ok (.if_icmp .le 9, 3) := by decide +kernel
theorem dX7_run_113 : decode cX7_run 113 = .ok (.aload_n 0, 1) := by decide +kernel
theorem dX7_run_114 : decode cX7_run 114 = .ok (.iconst 3, 1) := by decide +kernel
theorem dX7_run_115 : decode cX7_run 115 = .ok (.invokevirtual 80, 3) := by decide +kernel
theorem dX7_run_118 : decode cX7_run 118 = .ok (.ireturn, 1) := by decide +kernel
theorem dX7_run_119 : decode cX7_run 119 = .ok (.iload 4, 2) := by decide +kernel
theorem dX7_run_121 : decode cX7_run 121 = .ok (.iload_n 3, 1) := by decide +kernel
theorem dX7_run_122 : decode cX7_run 122 = .ok (.if_icmp .ge 10, 3) := by decide +kernel
theorem dX7_run_125 : decode cX7_run 125 = .ok (.iload_n 3, 1) := by decide +kernel
theorem dX7_run_126 : decode cX7_run 126 = .ok (.iload 4, 2) := by decide +kernel
theorem dX7_run_128 : decode cX7_run 128 = .ok (.isub, 1) := by decide +kernel
theorem dX7_run_129 : decode cX7_run 129 = .ok (.goto 7, 3) := by decide +kernel
theorem dX7_run_132 : decode cX7_run 132 = .ok (.iload 4, 2) := by decide +kernel
theorem dX7_run_134 : decode cX7_run 134 = .ok (.iload_n 3, 1) := by decide +kernel
theorem dX7_run_135 : decode cX7_run 135 = .ok (.isub, 1) := by decide +kernel
theorem dX7_run_136 : decode cX7_run 136 = .ok (.iconst 1, 1) := by decide +kernel
theorem dX7_run_137 : decode cX7_run 137 = .ok (.iadd, 1) := by decide +kernel
theorem dX7_run_138 : decode cX7_run 138 = .ok (.istore 9, 2) := by decide +kernel
theorem dX7_run_140 : decode cX7_run 140 = .ok (.aload_n 0, 1) := by decide +kernel
theorem dX7_run_141 : decode cX7_run 141 = .ok (.getfield 112, 3) := by decide +kernel
theorem dX7_run_144 : decode cX7_run 144 = .ok (.bipush 16, 2) := by decide +kernel
theorem dX7_run_146 : decode cX7_run 146 = .ok (.if_icmp .eq 34, 3) := by decide +kernel
theorem dX7_run_149 : decode cX7_run 149 = .ok (.iload 9, 2) := by decide +kernel
theorem dX7_run_151 : decode cX7_run 151 = .ok (.iload 6, 2) := by decide +kernel
theorem dX7_run_153 : decode cX7_run 153 = .ok (.invokestatic 118, 3) := by decide +kernel
theorem dX7_run_156 : decode cX7_run 156 = .ok (.bipush 24, 2) := by decide +kernel
theorem dX7_run_158 : decode cX7_run 158 = .ok (.if_icmp .ge 22, 3) := by decide +kernel
theorem dX7_run_161 : decode cX7_run 161 = .ok (.aload_n 0, 1) := by decide +kernel
theorem dX7_run_162 : decode cX7_run 162 = .ok (.iconst (-1), 1) := by decide +kernel
theorem dX7_run_163 : decode cX7_run 163 = .ok (.iload 5, 2) := by decide +kernel
theorem dX7_run_165 : decode cX7_run 165 = .ok (.iload 6, 2) := by decide +kernel
theorem dX7_run_167 : decode cX7_run 167 = .ok (.iload 9, 2) := by decide +kernel
theorem dX7_run_169 : decode cX7_run 169 = .ok (.iload 6, 2) := by decide +kernel
theorem dX7_run_171 : decode cX7_run 171 = .ok (.invokestatic 118, 3) := by decide +kernel
theorem dX7_run_174 : decode cX7_run 174 = .ok (.invokevirtual 142, 3) := by decide +kernel
theorem dX7_run_177 : decode cX7_run 177 = .ok (.ifCond .eq 9, 3) := by decide +kernel
theorem dX7_run_180 : decode cX7_run 180 = .ok (.aload_n 0, 1) := by decide +kernel
theorem dX7_run_181 : decode cX7_run 181 = .ok (.iconst 4, 1) := by decide +kernel
theorem dX7_run_182 : decode cX7_run 182 = .ok (.invokevirtual 80, 3) := by decide +kernel
theorem dX7_run_185 : decode cX7_run 185 = .ok (.ireturn, 1) := by decide +kernel
theorem dX7_run_186 : decode cX7_run 186 = .ok (.aload_n 0, 1) := by decide +kernel
theorem dX7_run_187 : decode cX7_run 187 = .ok (.iconst 0, 1) := by decide +kernel
theorem dX7_run_188 : decode cX7_run 188 = .ok (.putfield 65, 3) := by decide +kernel
theorem dX7_run_191 : decode cX7_run 191 = .ok (.aload_n 0, 1) := by decide +kernel
theorem dX7_run_192 : decode cX7_run 192 = .ok (.getfield 37, 3) := by decide +kernel
theorem dX7_run_195 : decode cX7_run 195 = .ok (.aload_n 0, 1) := by decide +kernel
theorem dX7_run_196 : decode cX7_run 196 = .ok (.getfield 112, 3) := by decide +kernel
theorem dX7_run_199 : decode cX7_run 199 = .ok (.iload_n 1, 1) := by decide +kernel
theorem dX7_run_200 : decode cX7_run 200 = .ok (.bipush 114, 2) := by decide +kernel
theorem dX7_run_202 : decode cX7_run 202 = .ok (.if_icmp .ne 7, 3) := by decide +kernel
theorem dX7_run_205 : decode cX7_run 205 = .ok (.iconst 1, 1) := by decide +kernel
theorem dX7_run_206 : decode cX7_run 206 = .ok (.goto 4, 3) := by decide +kernel
theorem dX7_run_209 : decode cX7_run 209 = .ok (.iconst 0, 1) := by decide +kernel
theorem dX7_run_210 : decode cX7_run 210 = .ok (.bastore, 1) := by decide +kernel
theorem dX7_run_211 : decode cX7_run 211 = .ok (.aload_n 0, 1) := by decide +kernel
theorem dX7_run_212 : decode cX7_run 212 = .ok (.getfield 40, 3) := by decide +kernel
theorem dX7_run_215 : decode cX7_run 215 = .ok (.aload_n 0, 1) := by decide +kernel
theorem dX7_run_216 : decode cX7_run 216 = .ok (.getfield 112, 3) := by decide +kernel
theorem dX7_run_219 : decode cX7_run 219 = .ok (.iload_n 2, 1) := by decide +kernel
theorem dX7_run_220 : decode cX7_run 220 = .ok (.iastore, 1) := by decide +kernel
theorem dX7_run_221 : decode cX7_run 221 = .ok (.aload_n 0, 1) := by decide +kernel
theorem dX7_run_222 : decode cX7_run 222 = .ok (.getfield 43, 3) := by decide +kernel
theorem dX7_run_225 : decode cX7_run 225 = .ok (.aload_n 0, 1) := by decide +kernel
theorem dX7_run_226 : decode cX7_run 226 = .ok (.getfield 112, 3) := by decide +kernel
theorem dX7_run_229 : decode cX7_run 229 = .ok (.iload_n 3, 1) := by decide +kernel
theorem dX7_run_230 : decode cX7_run 230 = .ok (.iastore, 1) := by decide +kernel
theorem dX7_run_231 : decode cX7_run 231 = .ok (.aload_n 0, 1) := by decide +kernel
theorem dX7_run_232 : decode cX7_run 232 = .ok (.getfield 46, 3) := by decide +kernel
theorem dX7_run_235 : decode cX7_run 235 = .ok (.aload_n 0, 1) := by decide +kernel
theorem dX7_run_236 : decode cX7_run 236 = .ok (.getfield 112, 3) := by decide +kernel
theorem dX7_run_239 : decode cX7_run 239 = .ok (.iload 4, 2) := by decide +kernel
theorem dX7_run_241 : decode cX7_run 241 = .ok (.iastore, 1) := by decide +kernel
theorem dX7_run_242 : decode cX7_run 242 = .ok (.aload_n 0, 1) := by decide +kernel
theorem dX7_run_243 : decode cX7_run 243 = .ok (.getfield 49, 3) := by decide +kernel
theorem dX7_run_246 : decode cX7_run 246 = .ok (.aload_n 0, 1) := by decide +kernel
theorem dX7_run_247 : decode cX7_run 247 = .ok (.getfield 112, 3) := by decide +kernel
theorem dX7_run_250 : decode cX7_run 250 = .ok (.iload 5, 2) := by decide +kernel
theorem dX7_run_252 : decode cX7_run 252 = .ok (.iastore, 1) := by decide +kernel
theorem dX7_run_253 : decode cX7_run 253 = .ok (.aload_n 0, 1) := by decide +kernel
theorem dX7_run_254 : decode cX7_run 254 = .ok (.getfield 52, 3) := by decide +kernel
theorem dX7_run_257 : decode cX7_run 257 = .ok (.aload_n 0, 1) := by decide +kernel
theorem dX7_run_258 : decode cX7_run 258 = .ok (.getfield 112, 3) := by decide +kernel
theorem dX7_run_261 : decode cX7_run 261 = .ok (.iload 6, 2) := by decide +kernel
theorem dX7_run_263 : decode cX7_run 263 = .ok (.iastore, 1) := by decide +kernel
theorem dX7_run_264 : decode cX7_run 264 = .ok (.aload_n 0, 1) := by decide +kernel
theorem dX7_run_265 : decode cX7_run 265 = .ok (.aload_n 0, 1) := by decide +kernel
theorem dX7_run_266 : decode cX7_run 266 = .ok (.getfield 112, 3) := by decide +kernel
theorem dX7_run_269 : decode cX7_run 269 = .ok (.invokevirtual 146, 3) := by decide +kernel
theorem dX7_run_272 : decode cX7_run 272 = .ok (.aload_n 0, 1) := by decide +kernel
theorem dX7_run_273 : decode cX7_run 273 = .ok (.dup, 1) := by decide +kernel
theorem dX7_run_274 : decode cX7_run 274 = .ok (.getfield 112, 3) := by decide +kernel
theorem dX7_run_277 : decode cX7_run 277 = .ok (.dup_x1, 1) := by decide +kernel
theorem dX7_run_278 : decode cX7_run 278 = .ok (.iconst 1, 1) := by decide +kernel
theorem dX7_run_279 : decode cX7_run 279 = .ok (.iadd, 1) := by decide +kernel
theorem dX7_run_280 : decode cX7_run 280 = .ok (.putfield 112, 3) := by decide +kernel
theorem dX7_run_283 : decode cX7_run 283 = .ok (.ireturn, 1) := by decide +kernel
theorem dX7_noLine_0 : decode cX7_noLine 0 = .ok (.aload_n 0, 1) := by decide +kernel
theorem dX7_noLine_1 : decode cX7_noLine 1 = .ok (.iload_n 1, 1) := by decide +kernel
theorem dX7_noLine_2 : decode cX7_noLine 2 = .ok (.iconst 0, 1) := by decide +kernel
theorem dX7_noLine_3 : decode cX7_noLine 3 = .ok (.aload_n 0, 1) := by decide +kernel
theorem dX7_noLine_4 : decode cX7_noLine 4 = .ok (.getfield 112, 3) := by decide +kernel
theorem dX7_noLine_7 : decode cX7_noLine 7 = .ok (.iconst 1, 1) := by decide +kernel
theorem dX7_noLine_8 : decode cX7_noLine 8 = .ok (.isub, 1) := by decide +kernel
theorem dX7_noLine_9 : decode cX7_noLine 9 = .ok (.invokestatic 69, 3) := by decide +kernel
theorem dX7_noLine_12 : decode cX7_noLine 12 = .ok (.ifCond .eq 7, 3) := by decide +kernel
theorem dX7_noLine_15 : decode cX7_noLine 15 = .ok (.iconst 0, 1) := by decide +kernel
theorem dX7_noLine_16 : decode cX7_noLine 16 = .ok (.goto 4, 3) := by decide +kernel
theorem dX7_noLine_19 : decode cX7_noLine 19 = .ok (.iconst 1, 1) := by decide +kernel
theorem dX7_noLine_20 : decode cX7_noLine 20 = .ok (.putfield 65, 3) := by decide +kernel
theorem dX7_noLine_23 : decode cX7_noLine 23 = .ok (.aload_n 0, 1) := by decide +kernel
theorem dX7_noLine_24 : decode cX7_noLine 24 = .ok (.getfield 65, 3) := by decide +kernel
theorem dX7_noLine_27 : decode cX7_noLine 27 = .ok (.ifCond .eq 7, 3) := by decide +kernel
theorem dX7_noLine_30 : decode cX7_noLine 30 = .ok (.iconst 1, 1) := by decide +kernel
theorem dX7_noLine_31 : decode cX7_noLine 31 = .ok (.goto 4, 3) := by decide +kernel
theorem dX7_noLine_34 : decode cX7_noLine 34 = .ok (.iconst 0, 1) := by decide +kernel
theorem dX7_noLine_35 : decode cX7_noLine 35 = .ok (.ireturn, 1) := by decide +kernel
theorem dX7_runAnew_0 : decode cX7_runAnew 0 = .ok (.aload_n 0, 1) := by decide +kernel
theorem dX7_runAnew_1 : decode cX7_runAnew 1 = .ok (.iload_n 1, 1) := by decide +kernel
theorem dX7_runAnew_2 : decode cX7_runAnew 2 = .ok (.invokevirtual 150, 3) := by decide +kernel
theorem dX7_runAnew_5 : decode cX7_runAnew 5 = .ok (.ifCond .eq 5, 3) := by decide +kernel
theorem dX7_runAnew_8 : decode cX7_runAnew 8 = .ok (.iconst 0, 1) := by decide +kernel
theorem dX7_runAnew_9 : decode cX7_runAnew 9 = .ok (.ireturn, 1) := by decide +kernel
theorem dX7_runAnew_10 : decode cX7_runAnew 10 = .ok (.aload_n 0, 1) := by decide +kernel
theorem dX7_runAnew_11 : decode cX7_runAnew 11 = .ok (.iload_n 2, 1) := by decide +kernel
theorem dX7_runAnew_12 : decode cX7_runAnew 12 = .ok (.iload_n 3, 1) := by decide +kernel
theorem dX7_runAnew_13 : decode cX7_runAnew 13 = .ok (.invokevirtual 73, 3) := by decide +kernel
theorem dX7_runAnew_16 : decode cX7_runAnew 16 = .ok (.ifCond .eq 9, 3) := by decide +kernel
theorem dX7_runAnew_19 : decode cX7_runAnew 19 = .ok (.aload_n 0, 1) := by decide +kernel
theorem dX7_runAnew_20 : decode cX7_runAnew 20 = .ok (.iconst 2, 1) := by decide +kernel
theorem dX7_runAnew_21 : decode cX7_runAnew 21 = .ok (.invokevirtual 80, 3) := by decide +kernel
theorem dX7_runAnew_24 : decode cX7_runAnew 24 = .ok (.ireturn, 1) := by decide +kernel
theorem dX7_runAnew_25 : decode cX7_runAnew 25 = .ok (.aload_n 0, 1) := by decide +kernel
theorem dX7_runAnew_26 : decode cX7_runAnew 26 = .ok (.getfield 21, 3) := by decide +kernel
theorem dX7_runAnew_29 : decode cX7_runAnew 29 = .ok (.iload_n 2, 1) := by decide +kernel
theorem dX7_runAnew_30 : decode cX7_runAnew 30 = .ok (.iaload, 1) := by decide +kernel
theorem dX7_runAnew_31 : decode cX7_runAnew 31 = .ok (.iconst 4, 1) := by decide +kernel
theorem dX7_runAnew_32 : decode cX7_runAnew 32 = .ok (.if_icmp .le 9, 3) := by decide +kernel
theorem dX7_runAnew_35 : decode cX7_runAnew 35 = .ok (.aload_n 0, 1) := by decide +kernel
theorem dX7_runAnew_36 : decode cX7_runAnew 36 = .ok (.iconst 3, 1) := by decide +kernel
theorem dX7_runAnew_37 : decode cX7_runAnew 37 = .ok (.invokevirtual 80, 3) := by decide +kernel
theorem dX7_runAnew_40 : decode cX7_runAnew 40 = .ok (.ireturn, 1) := by decide +kernel
theorem dX7_runAnew_41 : decode cX7_runAnew 41 = .ok (.aload_n 0, 1) := by decide +kernel
theorem dX7_runAnew_42 : decode cX7_runAnew 42 = .ok (.iload_n 1, 1) := by decide +kernel
theorem dX7_runAnew_43 : decode cX7_runAnew 43 = .ok (.invokevirtual 115, 3) := by decide +kernel
theorem dX7_runAnew_46 : decode cX7_runAnew 46 = .ok (.iload_n 3, 1) := by decide +kernel
theorem dX7_runAnew_47 : decode cX7_runAnew 47 = .ok (.invokestatic 118, 3) := by decide +kernel
theorem dX7_runAnew_50 : decode cX7_runAnew 50 = .ok (.bipush 24, 2) := by decide +kernel
theorem dX7_runAnew_52 : decode cX7_runAnew 52 = .ok (.if_icmp .ge 22, 3) := by decide +kernel
theorem dX7_runAnew_55 : decode cX7_runAnew 55 = .ok (.aload_n 0, 1) := by decide +kernel
theorem dX7_runAnew_56 : decode cX7_runAnew 56 = .ok (.iload_n 1, 1) := by decide +kernel
theorem dX7_runAnew_57 : decode cX7_runAnew 57 = .ok (.iload_n 2, 1) := by decide +kernel
theorem dX7_runAnew_58 : decode cX7_runAnew 58 = .ok (.iload_n 3, 1) := by decide +kernel
theorem dX7_runAnew_59 : decode cX7_runAnew 59 = .ok (.aload_n 0, 1) := by decide +kernel
theorem dX7_runAnew_60 : decode cX7_runAnew 60 = .ok (.iload_n 1, 1) := by decide +kernel
theorem dX7_runAnew_61 : decode cX7_runAnew 61 = .ok (.invokevirtual 115, 3) := by decide +kernel
theorem dX7_runAnew_64 : decode cX7_runAnew 64 = .ok (.iload_n 3, 1) := by decide +kernel
theorem dX7_runAnew_65 : decode cX7_runAnew 65 = .ok (.invokestatic 118, 3) := by decide +kernel
theorem dX7_runAnew_68 : decode cX7_runAnew 68 = .ok (.invokevirtual 142, 3) := by decide +kernel
theorem dX7_runAnew_71 : decode cX7_runAnew 71 = .ok (.ifCond .eq 9, 3) := by decide +kernel
theorem dX7_runAnew_74 : decode cX7_runAnew 74 = .ok (.aload_n 0, 1) := by decide +kernel
theorem dX7_runAnew_75 : decode cX7_runAnew 75 = .ok (.iconst 4, 1) := by decide +kernel
theorem dX7_runAnew_76 : decode cX7_runAnew 76 = .ok (.invokevirtual 80, 3) := by decide +kernel
theorem dX7_runAnew_79 : decode cX7_runAnew 79 = .ok (.ireturn, 1) := by decide +kernel
theorem dX7_runAnew_80 : decode cX7_runAnew 80 = .ok (.aload_n 0, 1) := by decide +kernel
theorem dX7_runAnew_81 : decode cX7_runAnew 81 = .ok (.getfield 49, 3) := by decide +kernel
theorem dX7_runAnew_84 : decode cX7_runAnew 84 = .ok (.iload_n 1, 1) := by decide +kernel
theorem dX7_runAnew_85 : decode cX7_runAnew 85 = .ok (.iload_n 2, 1) := by decide +kernel
theorem dX7_runAnew_86 : decode cX7_runAnew 86 = .ok (.iastore, 1) := by decide +kernel
theorem dX7_runAnew_87 : decode cX7_runAnew 87 = .ok (.aload_n 0, 1) := by decide +kernel
theorem dX7_runAnew_88 : decode cX7_runAnew 88 = .ok (.getfield 52, 3) := by decide +kernel
theorem dX7_runAnew_91 : decode cX7_runAnew 91 = .ok (.iload_n 1, 1) := by decide +kernel
theorem dX7_runAnew_92 : decode cX7_runAnew 92 = .ok (.iload_n 3, 1) := by decide +kernel
theorem dX7_runAnew_93 : decode cX7_runAnew 93 = .ok (.iastore, 1) := by decide +kernel
theorem dX7_runAnew_94 : decode cX7_runAnew 94 = .ok (.aload_n 0, 1) := by decide +kernel
theorem dX7_runAnew_95 : decode cX7_runAnew 95 = .ok (.iload_n 1, 1) := by decide +kernel
theorem dX7_runAnew_96 : decode cX7_runAnew 96 = .ok (.invokevirtual 146, 3) := by decide +kernel
theorem dX7_runAnew_99 : decode cX7_runAnew 99 = .ok (.aload_n 0, 1) := by decide +kernel
theorem dX7_runAnew_100 : decode cX7_runAnew 100 = .ok (.invokevirtual 153, 3) := by decide +kernel
theorem dX7_runAnew_103 : decode cX7_runAnew 103 = .ok (.ireturn, 1) := by decide +kernel
theorem dX7_found_0 : decode cX7_found 0 = .ok (.aload_n 0, 1) := by decide +kernel
theorem dX7_found_1 : decode cX7_found 1 = .ok (.iload_n 1, 1) := by decide +kernel
theorem dX7_found_2 : decode cX7_found 2 = .ok (.invokevirtual 150, 3) := by decide +kernel
theorem dX7_found_5 : decode cX7_found 5 = .ok (.ifCond .eq 5, 3) := by decide +kernel
theorem dX7_found_8 : decode cX7_found 8 = .ok (.iconst (-1), 1) := by decide +kernel
theorem dX7_found_9 : decode cX7_found 9 = .ok (.ireturn, 1) := by decide +kernel
theorem dX7_found_10 : decode cX7_found 10 = .ok (.iload_n 2, 1) := by decide +kernel
theorem dX7_found_11 : decode cX7_found 11 = .ok (.iconst 0, 1) := by decide +kernel
theorem dX7_found_12 : decode cX7_found 12 = .ok (.aload_n 0, 1) := by decide +kernel
theorem dX7_found_13 : decode cX7_found 13 = .ok (.iload_n 1, 1) := by decide +kernel
theorem dX7_found_14 : decode cX7_found 14 = .ok (.invokevirtual 115, 3) := by decide +kernel
theorem dX7_found_17 : decode cX7_found 17 = .ok (.iconst 1, 1) := by decide +kernel
theorem dX7_found_18 : decode cX7_found 18 = .ok (.isub, 1) := by decide +kernel
theorem dX7_found_19 : decode cX7_found 19 = .ok (.invokestatic 69, 3) := by decide +kernel
theorem dX7_found_22 : decode cX7_found 22 = .ok (.ifCond .eq 34, 3) := by decide +kernel
theorem dX7_found_25 : decode cX7_found 25 = .ok (.iload_n 3, 1) := by decide +kernel
theorem dX7_found_26 : decode cX7_found 26 = .ok (.bipush (-3), 2) := by decide +kernel
theorem dX7_found_28 : decode cX7_found 28 = .ok (.iconst 3, 1) := by decide +kernel
theorem dX7_found_29 : decode cX7_found 29 = .ok (.invokestatic 69, 3) := by decide +kernel
theorem dX7_found_32 : decode cX7_found 32 = .ok (.ifCond .eq 24, 3) := by decide +kernel
theorem dX7_found_35 : decode cX7_found 35 = .ok (.aload_n 0, 1) := by decide +kernel
theorem dX7_found_36 : decode cX7_found 36 = .ok (.getfield 55, 3) := by decide +kernel
theorem dX7_found_39 : decode cX7_found 39 = .ok (.aload_n 0, 1) := by decide +kernel
theorem dX7_found_40 : decode cX7_found 40 = .ok (.iload_n 1, 1) := by decide +kernel
theorem dX7_found_41 : decode cX7_found 41 = .ok (.iload_n 2, 1) := by decide +kernel
theorem dX7_found_42 : decode cX7_found 42 = .ok (.iload_n 3, 1) := by decide +kernel
theorem dX7_found_43 : decode cX7_found 43 = .ok (.invokevirtual 130, 3) := by decide +kernel
theorem dX7_found_46 : decode cX7_found 46 = .ok (.iaload, 1) := by decide +kernel
theorem dX7_found_47 : decode cX7_found 47 = .ok (.ldc 105, 2) := by decide +kernel
theorem dX7_found_49 : decode cX7_found 49 = .ok (.if_icmp .eq 7, 3) := by decide +kernel
theorem dX7_found_52 : decode cX7_found 52 = .ok (.iconst 1, 1) := by decide +kernel
theorem dX7_found_53 : decode cX7_found 53 = .ok (.goto 4, 3) := by decide +kernel
theorem dX7_found_56 : decode cX7_found 56 = .ok (.iconst 0, 1) := by decide +kernel
theorem dX7_found_57 : decode cX7_found 57 = .ok (.istore 4, 2) := by decide +kernel
theorem dX7_found_59 : decode cX7_found 59 = .ok (.aload_n 0, 1) := by decide +kernel
theorem dX7_found_60 : decode cX7_found 60 = .ok (.iload 4, 2) := by decide +kernel
theorem dX7_found_62 : decode cX7_found 62 = .ok (.ifCond .eq 7, 3) := by decide +kernel
theorem dX7_found_65 : decode cX7_found 65 = .ok (.iconst 0, 1) := by decide +kernel
theorem dX7_found_66 : decode cX7_found 66 = .ok (.goto 4, 3) := by decide +kernel
theorem dX7_found_69 : decode cX7_found 69 = .ok (.iconst 2, 1) := by decide +kernel
theorem dX7_found_70 : decode cX7_found 70 = .ok (.putfield 65, 3) := by decide +kernel
theorem dX7_found_73 : decode cX7_found 73 = .ok (.iload 4, 2) := by decide +kernel
theorem dX7_found_75 : decode cX7_found 75 = .ok (.ifCond .eq 13, 3) := by decide +kernel
theorem dX7_found_78 : decode cX7_found 78 = .ok (.aload_n 0, 1) := by decide +kernel
theorem dX7_found_79 : decode cX7_found 79 = .ok (.iload_n 1, 1) := by decide +kernel
theorem dX7_found_80 : decode cX7_found 80 = .ok (.iload_n 2, 1) := by decide +kernel
theorem dX7_found_81 : decode cX7_found 81 = .ok (.iload_n 3, 1) := by decide +kernel
theorem dX7_found_82 : decode cX7_found 82 = .ok (.invokevirtual 130, 3) := by decide +kernel
theorem dX7_found_85 : decode cX7_found 85 = .ok (.goto 4, 3) := by decide +kernel
theorem dX7_found_88 : decode cX7_found 88 = .ok (.iconst (-1), 1) := by decide +kernel
theorem dX7_found_89 : decode cX7_found 89 = .ok (.ireturn, 1) := by decide +kernel
theorem dX7_disturb_0 : decode cX7_disturb 0 = .ok (.aload_n 0, 1) := by decide +kernel
theorem dX7_disturb_1 : decode cX7_disturb 1 = .ok (.iload_n 1, 1) := by decide +kernel
theorem dX7_disturb_2 : decode cX7_disturb 2 = .ok (.iload_n 2, 1) := by decide +kernel
theorem dX7_disturb_3 : decode cX7_disturb 3 = .ok (.iload_n 3, 1) := by decide +kernel
theorem dX7_disturb_4 : decode cX7_disturb 4 = .ok (.invokevirtual 157, 3) := by decide +kernel
theorem dX7_disturb_7 : decode cX7_disturb 7 = .ok (.istore 5, 2) := by decide +kernel
theorem dX7_disturb_9 : decode cX7_disturb 9 = .ok (.iload 5, 2) := by decide +kernel
theorem dX7_disturb_11 : decode cX7_disturb 11 = .ok (.ifCond .ge 5, 3) := by decide +kernel
theorem dX7_disturb_14 : decode cX7_disturb 14 = .ok (.iconst 0, 1) := by decide +kernel
theorem dX7_disturb_15 : decode cX7_disturb 15 = .ok (.ireturn, 1) := by decide +kernel
theorem dX7_disturb_16 : decode cX7_disturb 16 = .ok (.iload 4, 2) := by decide +kernel
theorem dX7_disturb_18 : decode cX7_disturb 18 = .ok (.bipush (-60), 2) := by decide +kernel
theorem dX7_disturb_20 : decode cX7_disturb 20 = .ok (.bipush 60, 2) := by decide +kernel
theorem dX7_disturb_22 : decode cX7_disturb 22 = .ok (.invokestatic 69, 3) := by decide +kernel
theorem dX7_disturb_25 : decode cX7_disturb 25 = .ok (.ifCond .ne 9, 3) := by decide +kernel
theorem dX7_disturb_28 : decode cX7_disturb 28 = .ok (.aload_n 0, 1) := by decide +kernel
theorem dX7_disturb_29 : decode cX7_disturb 29 = .ok (.iconst 3, 1) := by decide +kernel
theorem dX7_disturb_30 : decode cX7_disturb 30 = .ok (.invokevirtual 80, 3) := by decide +kernel
theorem dX7_disturb_33 : decode cX7_disturb 33 = .ok (.ireturn, 1) := by decide +kernel
theorem dX7_disturb_34 : decode cX7_disturb 34 = .ok (.aload_n 0, 1) := by decide +kernel
theorem dX7_disturb_35 : decode cX7_disturb 35 = .ok (.getfield 58, 3) := by decide +kernel
theorem dX7_disturb_38 : decode cX7_disturb 38 = .ok (.iload 5, 2) := by decide +kernel
theorem dX7_disturb_40 : decode cX7_disturb 40 = .ok (.iaload, 1) := by decide +kernel
theorem dX7_disturb_41 : decode cX7_disturb 41 = .ok (.istore 6, 2) := by decide +kernel
theorem dX7_disturb_43 : decode cX7_disturb 43 = .ok (.aload_n 0, 1) := by decide +kernel
theorem dX7_disturb_44 : decode cX7_disturb 44 = .ok (.getfield 58, 3) := by decide +kernel
theorem dX7_disturb_47 : decode cX7_disturb 47 = .ok (.iload 5, 2) := by decide +kernel
theorem dX7_disturb_49 : decode cX7_disturb 49 = .ok (.iload 4, 2) := by decide +kernel
theorem dX7_disturb_51 : decode cX7_disturb 51 = .ok (.iastore, 1) := by decide +kernel
theorem dX7_disturb_52 : decode cX7_disturb 52 = .ok (.iload 6, 2) := by decide +kernel
theorem dX7_disturb_54 : decode cX7_disturb 54 = .ok (.ireturn, 1) := by decide +kernel
theorem dX7_soundings_0 : decode cX7_soundings 0 = .ok (.aload_n 0, 1) := by decide +kernel
theorem dX7_soundings_1 : decode cX7_soundings 1 = .ok (.iload_n 1, 1) := by decide +kernel
theorem dX7_soundings_2 : decode cX7_soundings 2 = .ok (.invokevirtual 150, 3) := by decide +kernel
theorem dX7_soundings_5 : decode cX7_soundings 5 = .ok (.ifCond .eq 5, 3) := by decide +kernel
theorem dX7_soundings_8 : decode cX7_soundings 8 = .ok (.iconst 0, 1) := by decide +kernel
theorem dX7_soundings_9 : decode cX7_soundings 9 = .ok (.ireturn, 1) := by decide +kernel
theorem dX7_soundings_10 : decode cX7_soundings 10 = .ok (.iconst 0, 1) := by decide +kernel
theorem dX7_soundings_11 : decode cX7_soundings 11 = .ok (.istore_n 2, 1) := by decide +kernel
theorem dX7_soundings_12 : decode cX7_soundings 12 = .ok (.aload_n 0, 1) := by decide +kernel
theorem dX7_soundings_13 : decode cX7_soundings 13 = .ok (.iload_n 1, 1) := by decide +kernel
theorem dX7_soundings_14 : decode cX7_soundings 14 = .ok (.iconst 0, 1) := by decide +kernel
theorem dX7_soundings_15 : decode cX7_soundings 15 = .ok (.bipush (-3), 2) := by decide +kernel
theorem dX7_soundings_17 : decode cX7_soundings 17 = .ok (.invokevirtual 130, 3) := by decide +kernel
theorem dX7_soundings_20 : decode cX7_soundings 20 = .ok (.istore_n 3, 1) := by decide +kernel
theorem dX7_soundings_21 : decode cX7_soundings 21 = .ok (.iload_n 3, 1) := by decide +kernel
theorem dX7_soundings_22 : decode cX7_soundings 22 = .ok (.aload_n 0, 1) := by decide +kernel
theorem dX7_soundings_23 : decode cX7_soundings 23 = .ok (.iload_n 1, 1) := by decide +kernel
theorem dX7_soundings_24 : decode cX7_soundings 24 = .ok (.bipush 19, 2) := by decide +kernel
theorem dX7_soundings_26 : decode cX7_soundings 26 = .ok (.iconst 3, 1) := by decide +kernel
theorem dX7_soundings_27 : decode cX7_soundings 27 = .ok (.invokevirtual 130, 3) := by decide +kernel
theorem dX7_soundings_30 : decode cX7_soundings 30 = .ok (.if_icmp .gt 28, 3) := by decide +kernel
theorem dX7_soundings_33 : decode cX7_soundings 33 = .ok (.iload_n 2, 1) := by decide +kernel
theorem dX7_soundings_34 : decode cX7_soundings 34 = .ok (.aload_n 0, 1) := by decide +kernel
theorem dX7_soundings_35 : decode cX7_soundings 35 = .ok (.getfield 55, 3) := by decide +kernel
theorem dX7_soundings_38 : decode cX7_soundings 38 = .ok (.iload_n 3, 1) := by decide +kernel
theorem dX7_soundings_39 : decode cX7_soundings 39 = .ok (.iaload, 1) := by decide +kernel
theorem dX7_soundings_40 : decode cX7_soundings 40 = .ok (.ldc 105, 2) := by decide +kernel
theorem dX7_soundings_42 : decode cX7_soundings 42 = .ok (.if_icmp .eq 7, 3) := by decide +kernel
theorem dX7_soundings_45 : decode cX7_soundings 45 = .ok (.iconst 1, 1) := by decide +kernel
theorem dX7_soundings_46 : decode cX7_soundings 46 = .ok (.goto 4, 3) := by decide +kernel
theorem dX7_soundings_49 : decode cX7_soundings 49 = .ok (.iconst 0, 1) := by decide +kernel
theorem dX7_soundings_50 : decode cX7_soundings 50 = .ok (.iadd, 1) := by decide +kernel
theorem dX7_soundings_51 : decode cX7_soundings 51 = .ok (.istore_n 2, 1) := by decide +kernel
theorem dX7_soundings_52 : decode cX7_soundings 52 = .ok (.iinc 3 1, 3) := by decide +kernel
theorem dX7_soundings_55 : decode cX7_soundings 55 = .ok (.goto (-34), 3) := by decide +kernel
theorem dX7_soundings_58 : decode cX7_soundings 58 = .ok (.iload_n 2, 1) := by decide +kernel
theorem dX7_soundings_59 : decode cX7_soundings 59 = .ok (.ireturn, 1) := by decide +kernel
theorem dX7_sounding_0 : decode cX7_sounding 0 = .ok (.aload_n 0, 1) := by decide +kernel
theorem dX7_sounding_1 : decode cX7_sounding 1 = .ok (.iload_n 1, 1) := by decide +kernel
theorem dX7_sounding_2 : decode cX7_sounding 2 = .ok (.iload_n 2, 1) := by decide +kernel
theorem dX7_sounding_3 : decode cX7_sounding 3 = .ok (.iload_n 3, 1) := by decide +kernel
theorem dX7_sounding_4 : decode cX7_sounding 4 = .ok (.invokevirtual 157, 3) := by decide +kernel
theorem dX7_sounding_7 : decode cX7_sounding 7 = .ok (.istore 4, 2) := by decide +kernel
theorem dX7_sounding_9 : decode cX7_sounding 9 = .ok (.iload 4, 2) := by decide +kernel
theorem dX7_sounding_11 : decode cX7_sounding 11 = .ok (.ifCond .ge 7, 3) := by decide +kernel
theorem dX7_sounding_14 : decode cX7_sounding 14 = .ok (.iconst 0, 1) := by decide +kernel
theorem dX7_sounding_15 : decode cX7_sounding 15 = .ok (.goto 18, 3) := by decide +kernel
theorem dX7_sounding_18 : decode cX7_sounding 18 = .ok (.aload_n 0, 1) := by decide +kernel
theorem dX7_sounding_19 : decode cX7_sounding 19 = .ok (.getfield 55, 3) := by decide +kernel
theorem dX7_sounding_22 : decode cX7_sounding 22 = .ok (.iload 4, 2) := by decide +kernel
theorem dX7_sounding_24 : decode cX7_sounding 24 = .ok (.iaload, 1) := by decide +kernel
theorem dX7_sounding_25 : decode cX7_sounding 25 = .ok (.aload_n 0, 1) := by decide +kernel
theorem dX7_sounding_26 : decode cX7_sounding 26 = .ok (.getfield 58, 3) := by decide +kernel
theorem dX7_sounding_29 : decode cX7_sounding 29 = .ok (.iload 4, 2) := by decide +kernel
theorem dX7_sounding_31 : decode cX7_sounding 31 = .ok (.iaload, 1) := by decide +kernel
theorem dX7_sounding_32 : decode cX7_sounding 32 = .ok (.iadd, 1) := by decide +kernel
theorem dX7_sounding_33 : decode cX7_sounding 33 = .ok (.ireturn, 1) := by decide +kernel
theorem dX7_reduces_0 : decode cX7_reduces 0 = .ok (.iload_n 2, 1) := by decide +kernel
theorem dX7_reduces_1 : decode cX7_reduces 1 = .ok (.ifCond .lt 29, 3) := by decide +kernel
theorem dX7_reduces_4 : decode cX7_reduces 4 = .ok (.iload_n 2, 1) := by decide +kernel
theorem dX7_reduces_5 : decode cX7_reduces 5 = .ok (.aload_n 0, 1) := by decide +kernel
theorem dX7_reduces_6 : decode cX7_reduces 6 = .ok (.iload_n 1, 1) := by decide +kernel
theorem dX7_reduces_7 : decode cX7_reduces 7 = .ok (.invokevirtual 115, 3) := by decide +kernel
theorem dX7_reduces_10 : decode cX7_reduces 10 = .ok (.if_icmp .ge 20, 3) := by decide +kernel
theorem dX7_reduces_13 : decode cX7_reduces 13 = .ok (.aload_n 0, 1) := by decide +kernel
theorem dX7_reduces_14 : decode cX7_reduces 14 = .ok (.getfield 55, 3) := by decide +kernel
theorem dX7_reduces_17 : decode cX7_reduces 17 = .ok (.aload_n 0, 1) := by decide +kernel
theorem dX7_reduces_18 : decode cX7_reduces 18 = .ok (.iload_n 1, 1) := by decide +kernel
theorem dX7_reduces_19 : decode cX7_reduces 19 = .ok (.iload_n 2, 1) := by decide +kernel
theorem dX7_reduces_20 : decode cX7_reduces 20 = .ok (.iload_n 3, 1) := by decide +kernel
theorem dX7_reduces_21 : decode cX7_reduces 21 = .ok (.invokevirtual 130, 3) := by decide +kernel
theorem dX7_reduces_24 : decode cX7_reduces 24 = .ok (.iaload, 1) := by decide +kernel
theorem dX7_reduces_25 : decode cX7_reduces 25 = .ok (.ldc 105, 2) := by decide +kernel
theorem dX7_reduces_27 : decode cX7_reduces 27 = .ok (.if_icmp .ne 6, 3) := by decide +kernel
theorem dX7_reduces_30 : decode cX7_reduces 30 = .ok (.ldc 105, 2) := by decide +kernel
theorem dX7_reduces_32 : decode cX7_reduces 32 = .ok (.ireturn, 1) := by decide +kernel
theorem dX7_reduces_33 : decode cX7_reduces 33 = .ok (.aload_n 0, 1) := by decide +kernel
theorem dX7_reduces_34 : decode cX7_reduces 34 = .ok (.aload_n 0, 1) := by decide +kernel
theorem dX7_reduces_35 : decode cX7_reduces 35 = .ok (.iload_n 1, 1) := by decide +kernel
theorem dX7_reduces_36 : decode cX7_reduces 36 = .ok (.iload_n 2, 1) := by decide +kernel
theorem dX7_reduces_37 : decode cX7_reduces 37 = .ok (.iconst 0, 1) := by decide +kernel
theorem dX7_reduces_38 : decode cX7_reduces 38 = .ok (.invokevirtual 124, 3) := by decide +kernel
theorem dX7_reduces_41 : decode cX7_reduces 41 = .ok (.aload_n 0, 1) := by decide +kernel
theorem dX7_reduces_42 : decode cX7_reduces 42 = .ok (.getfield 49, 3) := by decide +kernel
theorem dX7_reduces_45 : decode cX7_reduces 45 = .ok (.iload_n 1, 1) := by decide +kernel
theorem dX7_reduces_46 : decode cX7_reduces 46 = .ok (.iaload, 1) := by decide +kernel
theorem dX7_reduces_47 : decode cX7_reduces 47 = .ok (.aload_n 0, 1) := by decide +kernel
theorem dX7_reduces_48 : decode cX7_reduces 48 = .ok (.getfield 52, 3) := by decide +kernel
theorem dX7_reduces_51 : decode cX7_reduces 51 = .ok (.iload_n 1, 1) := by decide +kernel
theorem dX7_reduces_52 : decode cX7_reduces 52 = .ok (.iaload, 1) := by decide +kernel
theorem dX7_reduces_53 : decode cX7_reduces 53 = .ok (.iload_n 2, 1) := by decide +kernel
theorem dX7_reduces_54 : decode cX7_reduces 54 = .ok (.iconst 5, 1) := by decide +kernel
theorem dX7_reduces_55 : decode cX7_reduces 55 = .ok (.idiv, 1) := by decide +kernel
theorem dX7_reduces_56 : decode cX7_reduces 56 = .ok (.iadd, 1) := by decide +kernel
theorem dX7_reduces_57 : decode cX7_reduces 57 = .ok (.invokevirtual 109, 3) := by decide +kernel
theorem dX7_reduces_60 : decode cX7_reduces 60 = .ok (.istore 4, 2) := by decide +kernel
theorem dX7_reduces_62 : decode cX7_reduces 62 = .ok (.iload 4, 2) := by decide +kernel
theorem dX7_reduces_64 : decode cX7_reduces 64 = .ok (.ldc 105, 2) := by decide +kernel
theorem dX7_reduces_66 : decode cX7_reduces 66 = .ok (.if_icmp .ne 8, 3) := by decide +kernel
theorem dX7_reduces_69 : decode cX7_reduces 69 = .ok (.ldc 105, 2) := by decide +kernel
theorem dX7_reduces_71 : decode cX7_reduces 71 = .ok (.goto 31, 3) := by decide +kernel
theorem dX7_reduces_74 : decode cX7_reduces 74 = .ok (.aload_n 0, 1) := by decide +kernel
theorem dX7_reduces_75 : decode cX7_reduces 75 = .ok (.getfield 55, 3) := by decide +kernel
theorem dX7_reduces_78 : decode cX7_reduces 78 = .ok (.aload_n 0, 1) := by decide +kernel
theorem dX7_reduces_79 : decode cX7_reduces 79 = .ok (.iload_n 1, 1) := by decide +kernel
theorem dX7_reduces_80 : decode cX7_reduces 80 = .ok (.iload_n 2, 1) := by decide +kernel
theorem dX7_reduces_81 : decode cX7_reduces 81 = .ok (.iload_n 3, 1) := by decide +kernel
theorem dX7_reduces_82 : decode cX7_reduces 82 = .ok (.invokevirtual 130, 3) := by decide +kernel
theorem dX7_reduces_85 : decode cX7_reduces 85 = .ok (.iaload, 1) := by decide +kernel
theorem dX7_reduces_86 : decode cX7_reduces 86 = .ok (.aload_n 0, 1) := by decide +kernel
theorem dX7_reduces_87 : decode cX7_reduces 87 = .ok (.getfield 58, 3) := by decide +kernel
theorem dX7_reduces_90 : decode cX7_reduces 90 = .ok (.aload_n 0, 1) := by decide +kernel
theorem dX7_reduces_91 : decode cX7_reduces 91 = .ok (.iload_n 1, 1) := by decide +kernel
theorem dX7_reduces_92 : decode cX7_reduces 92 = .ok (.iload_n 2, 1) := by decide +kernel
theorem dX7_reduces_93 : decode cX7_reduces 93 = .ok (.iload_n 3, 1) := by decide +kernel
theorem dX7_reduces_94 : decode cX7_reduces 94 = .ok (.invokevirtual 130, 3) := by decide +kernel
theorem dX7_reduces_97 : decode cX7_reduces 97 = .ok (.iaload, 1) := by decide +kernel
theorem dX7_reduces_98 : decode cX7_reduces 98 = .ok (.iadd, 1) := by decide +kernel
theorem dX7_reduces_99 : decode cX7_reduces 99 = .ok (.iload 4, 2) := by decide +kernel
theorem dX7_reduces_101 : decode cX7_reduces 101 = .ok (.isub, 1) := by decide +kernel
theorem dX7_reduces_102 : decode cX7_reduces 102 = .ok (.ireturn, 1) := by decide +kernel
theorem dX7_reduced_0 : decode cX7_reduced 0 = .ok (.aload_n 0, 1) := by decide +kernel
theorem dX7_reduced_1 : decode cX7_reduced 1 = .ok (.iload_n 1, 1) := by decide +kernel
theorem dX7_reduced_2 : decode cX7_reduced 2 = .ok (.iload_n 2, 1) := by decide +kernel
theorem dX7_reduced_3 : decode cX7_reduced 3 = .ok (.iload_n 3, 1) := by decide +kernel
theorem dX7_reduced_4 : decode cX7_reduced 4 = .ok (.invokevirtual 157, 3) := by decide +kernel
theorem dX7_reduced_7 : decode cX7_reduced 7 = .ok (.ifCond .ge 5, 3) := by decide +kernel
theorem dX7_reduced_10 : decode cX7_reduced 10 = .ok (.iconst 0, 1) := by decide +kernel
theorem dX7_reduced_11 : decode cX7_reduced 11 = .ok (.ireturn, 1) := by decide +kernel
theorem dX7_reduced_12 : decode cX7_reduced 12 = .ok (.aload_n 0, 1) := by decide +kernel
theorem dX7_reduced_13 : decode cX7_reduced 13 = .ok (.iload_n 1, 1) := by decide +kernel
theorem dX7_reduced_14 : decode cX7_reduced 14 = .ok (.iload_n 2, 1) := by decide +kernel
theorem dX7_reduced_15 : decode cX7_reduced 15 = .ok (.iload_n 3, 1) := by decide +kernel
theorem dX7_reduced_16 : decode cX7_reduced 16 = .ok (.invokevirtual 160, 3) := by decide +kernel
theorem dX7_reduced_19 : decode cX7_reduced 19 = .ok (.istore 4, 2) := by decide +kernel
theorem dX7_reduced_21 : decode cX7_reduced 21 = .ok (.iload 4, 2) := by decide +kernel
theorem dX7_reduced_23 : decode cX7_reduced 23 = .ok (.ldc 105, 2) := by decide +kernel
theorem dX7_reduced_25 : decode cX7_reduced 25 = .ok (.if_icmp .ne 9, 3) := by decide +kernel
theorem dX7_reduced_28 : decode cX7_reduced 28 = .ok (.aload_n 0, 1) := by decide +kernel
theorem dX7_reduced_29 : decode cX7_reduced 29 = .ok (.iconst 3, 1) := by decide +kernel
theorem dX7_reduced_30 : decode cX7_reduced 30 = .ok (.invokevirtual 80, 3) := by decide +kernel
theorem dX7_reduced_33 : decode cX7_reduced 33 = .ok (.ireturn, 1) := by decide +kernel
theorem dX7_reduced_34 : decode cX7_reduced 34 = .ok (.iload 4, 2) := by decide +kernel
theorem dX7_reduced_36 : decode cX7_reduced 36 = .ok (.ireturn, 1) := by decide +kernel
theorem dX7_isFar_0 : decode cX7_isFar 0 = .ok (.iload_n 0, 1) := by decide +kernel
theorem dX7_isFar_1 : decode cX7_isFar 1 = .ok (.iload_n 1, 1) := by decide +kernel
theorem dX7_isFar_2 : decode cX7_isFar 2 = .ok (.isub, 1) := by decide +kernel
theorem dX7_isFar_3 : decode cX7_isFar 3 = .ok (.iconst 5, 1) := by decide +kernel
theorem dX7_isFar_4 : decode cX7_isFar 4 = .ok (.if_icmp .gt 10, 3) := by decide +kernel
theorem dX7_isFar_7 : decode cX7_isFar 7 = .ok (.iload_n 1, 1) := by decide +kernel
theorem dX7_isFar_8 : decode cX7_isFar 8 = .ok (.iload_n 0, 1) := by decide +kernel
theorem dX7_isFar_9 : decode cX7_isFar 9 = .ok (.isub, 1) := by decide +kernel
theorem dX7_isFar_10 : decode cX7_isFar 10 = .ok (.iconst 5, 1) := by decide +kernel
theorem dX7_isFar_11 : decode cX7_isFar 11 = .ok (.if_icmp .le 7, 3) := by decide +kernel
theorem dX7_isFar_14 : decode cX7_isFar 14 = .ok (.iconst 1, 1) := by decide +kernel
theorem dX7_isFar_15 : decode cX7_isFar 15 = .ok (.goto 4, 3) := by decide +kernel
theorem dX7_isFar_18 : decode cX7_isFar 18 = .ok (.iconst 0, 1) := by decide +kernel
theorem dX7_isFar_19 : decode cX7_isFar 19 = .ok (.ireturn, 1) := by decide +kernel
theorem dX7_spike_0 : decode cX7_spike 0 = .ok (.aload_n 0, 1) := by decide +kernel
theorem dX7_spike_1 : decode cX7_spike 1 = .ok (.iload_n 1, 1) := by decide +kernel
theorem dX7_spike_2 : decode cX7_spike 2 = .ok (.iload_n 2, 1) := by decide +kernel
theorem dX7_spike_3 : decode cX7_spike 3 = .ok (.iload_n 3, 1) := by decide +kernel
theorem dX7_spike_4 : decode cX7_spike 4 = .ok (.invokevirtual 160, 3) := by decide +kernel
theorem dX7_spike_7 : decode cX7_spike 7 = .ok (.istore 4, 2) := by decide +kernel
theorem dX7_spike_9 : decode cX7_spike 9 = .ok (.aload_n 0, 1) := by decide +kernel
theorem dX7_spike_10 : decode cX7_spike 10 = .ok (.iload_n 1, 1) := by decide +kernel
theorem dX7_spike_11 : decode cX7_spike 11 = .ok (.iload_n 2, 1) := by decide +kernel
theorem dX7_spike_12 : decode cX7_spike 12 = .ok (.iconst 1, 1) := by decide +kernel
theorem dX7_spike_13 : decode cX7_spike 13 = .ok (.isub, 1) := by decide +kernel
theorem dX7_spike_14 : decode cX7_spike 14 = .ok (.iload_n 3, 1) := by decide +kernel
theorem dX7_spike_15 : decode cX7_spike 15 = .ok (.invokevirtual 160, 3) := by decide +kernel
theorem dX7_spike_18 : decode cX7_spike 18 = .ok (.istore 5, 2) := by decide +kernel
theorem dX7_spike_20 : decode cX7_spike 20 = .ok (.aload_n 0, 1) := by decide +kernel
theorem dX7_spike_21 : decode cX7_spike 21 = .ok (.iload_n 1, 1) := by decide +kernel
theorem dX7_spike_22 : decode cX7_spike 22 = .ok (.iload_n 2, 1) := by decide +kernel
theorem dX7_spike_23 : decode cX7_spike 23 = .ok (.iconst 1, 1) := by decide +kernel
theorem dX7_spike_24 : decode cX7_spike 24 = .ok (.iadd, 1) := by decide +kernel
theorem dX7_spike_25 : decode cX7_spike 25 = .ok (.iload_n 3, 1) := by decide +kernel
theorem dX7_spike_26 : decode cX7_spike 26 = .ok (.invokevirtual 160, 3) := by decide +kernel
theorem dX7_spike_29 : decode cX7_spike 29 = .ok (.istore 6, 2) := by decide +kernel
theorem dX7_spike_31 : decode cX7_spike 31 = .ok (.iload 4, 2) := by decide +kernel
theorem dX7_spike_33 : decode cX7_spike 33 = .ok (.ldc 105, 2) := by decide +kernel
theorem dX7_spike_35 : decode cX7_spike 35 = .ok (.if_icmp .eq 17, 3) := by decide +kernel
theorem dX7_spike_38 : decode cX7_spike 38 = .ok (.iload 5, 2) := by decide +kernel
theorem dX7_spike_40 : decode cX7_spike 40 = .ok (.ldc 105, 2) := by decide +kernel
theorem dX7_spike_42 : decode cX7_spike 42 = .ok (.if_icmp .ne 12, 3) := by decide +kernel
theorem dX7_spike_45 : decode cX7_spike 45 = .ok (.iload 6, 2) := by decide +kernel
theorem dX7_spike_47 : decode cX7_spike 47 = .ok (.ldc 105, 2) := by decide +kernel
theorem dX7_spike_49 : decode cX7_spike 49 = .ok (.if_icmp .ne 5, 3) := by decide +kernel
theorem dX7_spike_52 : decode cX7_spike 52 = .ok (.iconst 0, 1) := by decide +kernel
theorem dX7_spike_53 : decode cX7_spike 53 = .ok (.ireturn, 1) := by decide +kernel
theorem dX7_spike_54 : decode cX7_spike 54 = .ok (.iload 5, 2) := by decide +kernel
theorem dX7_spike_56 : decode cX7_spike 56 = .ok (.ldc 105, 2) := by decide +kernel
theorem dX7_spike_58 : decode cX7_spike 58 = .ok (.if_icmp .eq 13, 3) := by decide +kernel
theorem dX7_spike_61 : decode cX7_spike 61 = .ok (.iload 4, 2) := by decide +kernel
theorem dX7_spike_63 : decode cX7_spike 63 = .ok (.iload 5, 2) := by decide +kernel
theorem dX7_spike_65 : decode cX7_spike 65 = .ok (.invokestatic 163, 3) := by decide +kernel
theorem dX7_spike_68 : decode cX7_spike 68 = .ok (.ifCond .eq 24, 3) := by decide +kernel
theorem dX7_spike_71 : decode cX7_spike 71 = .ok (.iload 6, 2) := by decide +kernel
theorem dX7_spike_73 : decode cX7_spike 73 = .ok (.ldc 105, 2) := by decide +kernel
theorem dX7_spike_75 : decode cX7_spike 75 = .ok (.if_icmp .eq 13, 3) := by decide +kernel
theorem dX7_spike_78 : decode cX7_spike 78 = .ok (.iload 4, 2) := by decide +kernel
theorem dX7_spike_80 : decode cX7_spike 80 = .ok (.iload 6, 2) := by decide +kernel
theorem dX7_spike_82 : decode cX7_spike 82 = .ok (.invokestatic 163, 3) := by decide +kernel
theorem dX7_spike_85 : decode cX7_spike 85 = .ok (.ifCond .eq 7, 3) := by decide +kernel
theorem dX7_spike_88 : decode cX7_spike 88 = .ok (.iconst 1, 1) := by decide +kernel
theorem dX7_spike_89 : decode cX7_spike 89 = .ok (.goto 4, 3) := by decide +kernel
theorem dX7_spike_92 : decode cX7_spike 92 = .ok (.iconst 0, 1) := by decide +kernel
theorem dX7_spike_93 : decode cX7_spike 93 = .ok (.ireturn, 1) := by decide +kernel
theorem dX7_isSpike_0 : decode cX7_isSpike 0 = .ok (.aload_n 0, 1) := by decide +kernel
theorem dX7_isSpike_1 : decode cX7_isSpike 1 = .ok (.iload_n 1, 1) := by decide +kernel
theorem dX7_isSpike_2 : decode cX7_isSpike 2 = .ok (.iload_n 2, 1) := by decide +kernel
theorem dX7_isSpike_3 : decode cX7_isSpike 3 = .ok (.iload_n 3, 1) := by decide +kernel
theorem dX7_isSpike_4 : decode cX7_isSpike 4 = .ok (.invokevirtual 157, 3) := by decide +kernel
theorem dX7_isSpike_7 : decode cX7_isSpike 7 = .ok (.ifCond .lt 17, 3) := by decide +kernel
theorem dX7_isSpike_10 : decode cX7_isSpike 10 = .ok (.aload_n 0, 1) := by decide +kernel
theorem dX7_isSpike_11 : decode cX7_isSpike 11 = .ok (.iload_n 1, 1) := by decide +kernel
theorem dX7_isSpike_12 : decode cX7_isSpike 12 = .ok (.iload_n 2, 1) := by decide +kernel
theorem dX7_isSpike_13 : decode cX7_isSpike 13 = .ok (.iload_n 3, 1) := by decide +kernel
theorem dX7_isSpike_14 : decode cX7_isSpike 14 = .ok (.invokevirtual 166, 3) := by decide +kernel
theorem dX7_isSpike_17 : decode cX7_isSpike 17 = .ok (.ifCond .eq 7, 3) := by decide +kernel
theorem dX7_isSpike_20 : decode cX7_isSpike 20 = .ok (.iconst 1, 1) := by decide +kernel
theorem dX7_isSpike_21 : decode cX7_isSpike 21 = .ok (.goto 4, 3) := by decide +kernel
theorem dX7_isSpike_24 : decode cX7_isSpike 24 = .ok (.iconst 0, 1) := by decide +kernel
theorem dX7_isSpike_25 : decode cX7_isSpike 25 = .ok (.ireturn, 1) := by decide +kernel
theorem dX7_spikes_0 : decode cX7_spikes 0 = .ok (.aload_n 0, 1) := by decide +kernel
theorem dX7_spikes_1 : decode cX7_spikes 1 = .ok (.iload_n 1, 1) := by decide +kernel
theorem dX7_spikes_2 : decode cX7_spikes 2 = .ok (.invokevirtual 150, 3) := by decide +kernel
theorem dX7_spikes_5 : decode cX7_spikes 5 = .ok (.ifCond .eq 5, 3) := by decide +kernel
theorem dX7_spikes_8 : decode cX7_spikes 8 = .ok (.iconst 0, 1) := by decide +kernel
theorem dX7_spikes_9 : decode cX7_spikes 9 = .ok (.ireturn, 1) := by decide +kernel
theorem dX7_spikes_10 : decode cX7_spikes 10 = .ok (.iconst 0, 1) := by decide +kernel
theorem dX7_spikes_11 : decode cX7_spikes 11 = .ok (.istore_n 2, 1) := by decide +kernel
theorem dX7_spikes_12 : decode cX7_spikes 12 = .ok (.iconst 0, 1) := by decide +kernel
theorem dX7_spikes_13 : decode cX7_spikes 13 = .ok (.istore_n 3, 1) := by decide +kernel
theorem dX7_spikes_14 : decode cX7_spikes 14 = .ok (.iload_n 3, 1) := by decide +kernel
theorem dX7_spikes_15 : decode cX7_spikes 15 = .ok (.aload_n 0, 1) := by decide +kernel
theorem dX7_spikes_16 : decode cX7_spikes 16 = .ok (.iload_n 1, 1) := by decide +kernel
theorem dX7_spikes_17 : decode cX7_spikes 17 = .ok (.invokevirtual 115, 3) := by decide +kernel
theorem dX7_spikes_20 : decode cX7_spikes 20 = .ok (.if_icmp .ge 44, 3) := by decide +kernel
theorem dX7_spikes_23 : decode cX7_spikes 23 = .ok (.bipush (-3), 2) := by decide +kernel
theorem dX7_spikes_25 : decode cX7_spikes 25 = .ok (.istore 4, 2) := by decide +kernel
theorem dX7_spikes_27 : decode cX7_spikes 27 = .ok (.iload 4, 2) := by decide +kernel
theorem dX7_spikes_29 : decode cX7_spikes 29 = .ok (.iconst 3, 1) := by decide +kernel
theorem dX7_spikes_30 : decode cX7_spikes 30 = .ok (.if_icmp .gt 28, 3) := by decide +kernel
theorem dX7_spikes_33 : decode cX7_spikes 33 = .ok (.iload_n 2, 1) := by decide +kernel
theorem dX7_spikes_34 : decode cX7_spikes 34 = .ok (.aload_n 0, 1) := by decide +kernel
theorem dX7_spikes_35 : decode cX7_spikes 35 = .ok (.iload_n 1, 1) := by decide +kernel
theorem dX7_spikes_36 : decode cX7_spikes 36 = .ok (.iload_n 3, 1) := by decide +kernel
theorem dX7_spikes_37 : decode cX7_spikes 37 = .ok (.iload 4, 2) := by decide +kernel
theorem dX7_spikes_39 : decode cX7_spikes 39 = .ok (.invokevirtual 166, 3) := by decide +kernel
theorem dX7_spikes_42 : decode cX7_spikes 42 = .ok (.ifCond .eq 7, 3) := by decide +kernel
theorem dX7_spikes_45 : decode cX7_spikes 45 = .ok (.iconst 1, 1) := by decide +kernel
theorem dX7_spikes_46 : decode cX7_spikes 46 = .ok (.goto 4, 3) := by decide +kernel
theorem dX7_spikes_49 : decode cX7_spikes 49 = .ok (.iconst 0, 1) := by decide +kernel
theorem dX7_spikes_50 : decode cX7_spikes 50 = .ok (.iadd, 1) := by decide +kernel
theorem dX7_spikes_51 : decode cX7_spikes 51 = .ok (.istore_n 2, 1) := by decide +kernel
theorem dX7_spikes_52 : decode cX7_spikes 52 = .ok (.iinc 4 1, 3) := by decide +kernel
theorem dX7_spikes_55 : decode cX7_spikes 55 = .ok (.goto (-28), 3) := by decide +kernel
theorem dX7_spikes_58 : decode cX7_spikes 58 = .ok (.iinc 3 1, 3) := by decide +kernel
theorem dX7_spikes_61 : decode cX7_spikes 61 = .ok (.goto (-47), 3) := by decide +kernel
theorem dX7_spikes_64 : decode cX7_spikes 64 = .ok (.iload_n 2, 1) := by decide +kernel
theorem dX7_spikes_65 : decode cX7_spikes 65 = .ok (.ireturn, 1) := by decide +kernel
theorem dX7_lostOf_0 : decode cX7_lostOf 0 = .ok (.iconst 0, 1) := by decide +kernel
theorem dX7_lostOf_1 : decode cX7_lostOf 1 = .ok (.istore_n 2, 1) := by decide +kernel
theorem dX7_lostOf_2 : decode cX7_lostOf 2 = .ok (.iconst 0, 1) := by decide +kernel
theorem dX7_lostOf_3 : decode cX7_lostOf 3 = .ok (.istore_n 3, 1) := by decide +kernel
theorem dX7_lostOf_4 : decode cX7_lostOf 4 = .ok (.iload_n 3, 1) := by decide +kernel
theorem dX7_lostOf_5 : decode cX7_lostOf 5 = .ok (.aload_n 0, 1) := by decide +kernel
theorem dX7_lostOf_6 : decode cX7_lostOf 6 = .ok (.iload_n 1, 1) := by decide +kernel
theorem dX7_lostOf_7 : decode cX7_lostOf 7 = .ok (.invokevirtual 115, 3) := by decide +kernel
theorem dX7_lostOf_10 : decode cX7_lostOf 10 = .ok (.if_icmp .ge 64, 3) := by decide +kernel
theorem dX7_lostOf_13 : decode cX7_lostOf 13 = .ok (.bipush (-3), 2) := by decide +kernel
theorem dX7_lostOf_15 : decode cX7_lostOf 15 = .ok (.istore 4, 2) := by decide +kernel
theorem dX7_lostOf_17 : decode cX7_lostOf 17 = .ok (.iload 4, 2) := by decide +kernel
theorem dX7_lostOf_19 : decode cX7_lostOf 19 = .ok (.iconst 3, 1) := by decide +kernel
theorem dX7_lostOf_20 : decode cX7_lostOf 20 = .ok (.if_icmp .gt 48, 3) := by decide +kernel
theorem dX7_lostOf_23 : decode cX7_lostOf 23 = .ok (.iload_n 2, 1) := by decide +kernel
theorem dX7_lostOf_24 : decode cX7_lostOf 24 = .ok (.aload_n 0, 1) := by decide +kernel
theorem dX7_lostOf_25 : decode cX7_lostOf 25 = .ok (.getfield 55, 3) := by decide +kernel
theorem dX7_lostOf_28 : decode cX7_lostOf 28 = .ok (.aload_n 0, 1) := by decide +kernel
theorem dX7_lostOf_29 : decode cX7_lostOf 29 = .ok (.iload_n 1, 1) := by decide +kernel
theorem dX7_lostOf_30 : decode cX7_lostOf 30 = .ok (.iload_n 3, 1) := by decide +kernel
theorem dX7_lostOf_31 : decode cX7_lostOf 31 = .ok (.iload 4, 2) := by decide +kernel
theorem dX7_lostOf_33 : decode cX7_lostOf 33 = .ok (.invokevirtual 130, 3) := by decide +kernel
theorem dX7_lostOf_36 : decode cX7_lostOf 36 = .ok (.iaload, 1) := by decide +kernel
theorem dX7_lostOf_37 : decode cX7_lostOf 37 = .ok (.ldc 105, 2) := by decide +kernel
theorem dX7_lostOf_39 : decode cX7_lostOf 39 = .ok (.if_icmp .eq 20, 3) := by decide +kernel
theorem dX7_lostOf_42 : decode cX7_lostOf 42 = .ok (.aload_n 0, 1) := by decide +kernel
theorem dX7_lostOf_43 : decode cX7_lostOf 43 = .ok (.iload_n 1, 1) := by decide +kernel
theorem dX7_lostOf_44 : decode cX7_lostOf 44 = .ok (.iload_n 3, 1) := by decide +kernel
theorem dX7_lostOf_45 : decode cX7_lostOf 45 = .ok (.iload 4, 2) := by decide +kernel
theorem dX7_lostOf_47 : decode cX7_lostOf 47 = .ok (.invokevirtual 160, 3) := by decide +kernel
theorem dX7_lostOf_50 : decode cX7_lostOf 50 = .ok (.ldc 105, 2) := by decide +kernel
theorem dX7_lostOf_52 : decode cX7_lostOf 52 = .ok (.if_icmp .ne 7, 3) := by decide +kernel
theorem dX7_lostOf_55 : decode cX7_lostOf 55 = .ok (.iconst 1, 1) := by decide +kernel
theorem dX7_lostOf_56 : decode cX7_lostOf 56 = .ok (.goto 4, 3) := by decide +kernel
theorem dX7_lostOf_59 : decode cX7_lostOf 59 = .ok (.iconst 0, 1) := by decide +kernel
theorem dX7_lostOf_60 : decode cX7_lostOf 60 = .ok (.iadd, 1) := by decide +kernel
theorem dX7_lostOf_61 : decode cX7_lostOf 61 = .ok (.istore_n 2, 1) := by decide +kernel
theorem dX7_lostOf_62 : decode cX7_lostOf 62 = .ok (.iinc 4 1, 3) := by decide +kernel
theorem dX7_lostOf_65 : decode cX7_lostOf 65 = .ok (.goto (-48), 3) := by decide +kernel
theorem dX7_lostOf_68 : decode cX7_lostOf 68 = .ok (.iinc 3 1, 3) := by decide +kernel
theorem dX7_lostOf_71 : decode cX7_lostOf 71 = .ok (.goto (-67), 3) := by decide +kernel
theorem dX7_lostOf_74 : decode cX7_lostOf 74 = .ok (.iload_n 2, 1) := by decide +kernel
theorem dX7_lostOf_75 : decode cX7_lostOf 75 = .ok (.ireturn, 1) := by decide +kernel
theorem dX7_lost_0 : decode cX7_lost 0 = .ok (.aload_n 0, 1) := by decide +kernel
theorem dX7_lost_1 : decode cX7_lost 1 = .ok (.iload_n 1, 1) := by decide +kernel
theorem dX7_lost_2 : decode cX7_lost 2 = .ok (.invokevirtual 150, 3) := by decide +kernel
theorem dX7_lost_5 : decode cX7_lost 5 = .ok (.ifCond .eq 7, 3) := by decide +kernel
theorem dX7_lost_8 : decode cX7_lost 8 = .ok (.iconst 0, 1) := by decide +kernel
theorem dX7_lost_9 : decode cX7_lost 9 = .ok (.goto 8, 3) := by decide +kernel
theorem dX7_lost_12 : decode cX7_lost 12 = .ok (.aload_n 0, 1) := by decide +kernel
theorem dX7_lost_13 : decode cX7_lost 13 = .ok (.iload_n 1, 1) := by decide +kernel
theorem dX7_lost_14 : decode cX7_lost 14 = .ok (.invokevirtual 169, 3) := by decide +kernel
theorem dX7_lost_17 : decode cX7_lost 17 = .ok (.ireturn, 1) := by decide +kernel
theorem dX7_charts_0 : decode cX7_charts 0 = .ok (.iconst 0, 1) := by decide +kernel
theorem dX7_charts_1 : decode cX7_charts 1 = .ok (.istore_n 1, 1) := by decide +kernel
theorem dX7_charts_2 : decode cX7_charts 2 = .ok (.iload_n 1, 1) := by decide +kernel
theorem dX7_charts_3 : decode cX7_charts 3 = .ok (.sipush 240, 3) := by decide +kernel
theorem dX7_charts_6 : decode cX7_charts 6 = .ok (.if_icmp .ge 17, 3) := by decide +kernel
theorem dX7_charts_9 : decode cX7_charts 9 = .ok (.aload_n 0, 1) := by decide +kernel
theorem dX7_charts_10 : decode cX7_charts 10 = .ok (.getfield 27, 3) := by decide +kernel
theorem dX7_charts_13 : decode cX7_charts 13 = .ok (.iload_n 1, 1) := by decide +kernel
theorem dX7_charts_14 : decode cX7_charts 14 = .ok (.ldc 105, 2) := by decide +kernel
theorem dX7_charts_16 : decode cX7_charts 16 = .ok (.iastore, 1) := by decide +kernel
theorem dX7_charts_17 : decode cX7_charts 17 = .ok (.iinc 1 1, 3) := by decide +kernel
theorem dX7_charts_20 : decode cX7_charts 20 = .ok (.goto (-18), 3) := by decide +kernel
theorem dX7_charts_23 : decode cX7_charts 23 = .ok (.iconst 0, 1) := by decide +kernel
theorem dX7_charts_24 : decode cX7_charts 24 = .ok (.istore_n 1, 1) := by decide +kernel
theorem dX7_charts_25 : decode cX7_charts 25 = .ok (.iload_n 1, 1) := by decide +kernel
theorem dX7_charts_26 : decode cX7_charts 26 = .ok (.aload_n 0, 1) := by decide +kernel
theorem dX7_charts_27 : decode cX7_charts 27 = .ok (.getfield 112, 3) := by decide +kernel
theorem dX7_charts_30 : decode cX7_charts 30 = .ok (.if_icmp .ge 111, 3) := by decide +kernel
theorem dX7_charts_33 : decode cX7_charts 33 = .ok (.iconst 0, 1) := by decide +kernel
theorem dX7_charts_34 : decode cX7_charts 34 = .ok (.istore_n 2, 1) := by decide +kernel
theorem dX7_charts_35 : decode cX7_charts 35 = .ok (.iload_n 2, 1) := by decide +kernel
theorem dX7_charts_36 : decode cX7_charts 36 = .ok (.aload_n 0, 1) := by decide +kernel
theorem dX7_charts_37 : decode cX7_charts 37 = .ok (.iload_n 1, 1) := by decide +kernel
theorem dX7_charts_38 : decode cX7_charts 38 = .ok (.invokevirtual 115, 3) := by decide +kernel
theorem dX7_charts_41 : decode cX7_charts 41 = .ok (.if_icmp .ge 94, 3) := by decide +kernel
theorem dX7_charts_44 : decode cX7_charts 44 = .ok (.bipush (-3), 2) := by decide +kernel
theorem dX7_charts_46 : decode cX7_charts 46 = .ok (.istore_n 3, 1) := by decide +kernel
theorem dX7_charts_47 : decode cX7_charts 47 = .ok (.iload_n 3, 1) := by decide +kernel
theorem dX7_charts_48 : decode cX7_charts 48 = .ok (.iconst 3, 1) := by decide +kernel
theorem dX7_charts_49 : decode cX7_charts 49 = .ok (.if_icmp .gt 80, 3) := by decide +kernel
theorem dX7_charts_52 : decode cX7_charts 52 = .ok (.aload_n 0, 1) := by decide +kernel
theorem dX7_charts_53 : decode cX7_charts 53 = .ok (.iload_n 1, 1) := by decide +kernel
theorem dX7_charts_54 : decode cX7_charts 54 = .ok (.iload_n 2, 1) := by decide +kernel
theorem dX7_charts_55 : decode cX7_charts 55 = .ok (.iload_n 3, 1) := by decide +kernel
theorem dX7_charts_56 : decode cX7_charts 56 = .ok (.invokevirtual 160, 3) := by decide +kernel
theorem dX7_charts_59 : decode cX7_charts 59 = .ok (.istore 4, 2) := by decide +kernel
theorem dX7_charts_61 : decode cX7_charts 61 = .ok (.iload 4, 2) := by decide +kernel
theorem dX7_charts_63 : decode cX7_charts 63 = .ok (.ldc 105, 2) := by decide +kernel
theorem dX7_charts_65 : decode cX7_charts 65 = .ok (.if_icmp .eq 58, 3) := by decide +kernel
theorem dX7_charts_68 : decode cX7_charts 68 = .ok (.aload_n 0, 1) := by decide +kernel
theorem dX7_charts_69 : decode cX7_charts 69 = .ok (.iload_n 1, 1) := by decide +kernel
theorem dX7_charts_70 : decode cX7_charts 70 = .ok (.iload_n 2, 1) := by decide +kernel
theorem dX7_charts_71 : decode cX7_charts 71 = .ok (.iload_n 3, 1) := by decide +kernel
theorem dX7_charts_72 : decode cX7_charts 72 = .ok (.invokevirtual 166, 3) := by decide +kernel
theorem dX7_charts_75 : decode cX7_charts 75 = .ok (.ifCond .eq 6, 3) := by decide +kernel
theorem dX7_charts_78 : decode cX7_charts 78 = .ok (.goto 45, 3) := by decide +kernel
theorem dX7_charts_81 : decode cX7_charts 81 = .ok (.aload_n 0, 1) := by decide +kernel
theorem dX7_charts_82 : decode cX7_charts 82 = .ok (.iload_n 1, 1) := by decide +kernel
theorem dX7_charts_83 : decode cX7_charts 83 = .ok (.iload_n 2, 1) := by decide +kernel
theorem dX7_charts_84 : decode cX7_charts 84 = .ok (.iload_n 3, 1) := by decide +kernel
theorem dX7_charts_85 : decode cX7_charts 85 = .ok (.invokevirtual 136, 3) := by decide +kernel
theorem dX7_charts_88 : decode cX7_charts 88 = .ok (.istore 5, 2) := by decide +kernel
theorem dX7_charts_90 : decode cX7_charts 90 = .ok (.aload_n 0, 1) := by decide +kernel
theorem dX7_charts_91 : decode cX7_charts 91 = .ok (.getfield 27, 3) := by decide +kernel
theorem dX7_charts_94 : decode cX7_charts 94 = .ok (.iload 5, 2) := by decide +kernel
theorem dX7_charts_96 : decode cX7_charts 96 = .ok (.iaload, 1) := by decide +kernel
theorem dX7_charts_97 : decode cX7_charts 97 = .ok (.ldc 105, 2) := by decide +kernel
theorem dX7_charts_99 : decode cX7_charts 99 = .ok (.if_icmp .eq 15, 3) := by decide +kernel
theorem dX7_charts_102 : decode cX7_charts 102 = .ok (.iload 4, 2) := by decide +kernel
theorem dX7_charts_104 : decode cX7_charts 104 = .ok (.aload_n 0, 1) := by decide +kernel
theorem dX7_charts_105 : decode cX7_charts 105 = .ok (.getfield 27, 3) := by decide +kernel
theorem dX7_charts_108 : decode cX7_charts 108 = .ok (.iload 5, 2) := by decide +kernel
theorem dX7_charts_110 : decode cX7_charts 110 = .ok (.iaload, 1) := by decide +kernel
theorem dX7_charts_111 : decode cX7_charts 111 = .ok (.if_icmp .ge 12, 3) := by decide +kernel
theorem dX7_charts_114 : decode cX7_charts 114 = .ok (.aload_n 0, 1) := by decide +kernel
theorem dX7_charts_115 : decode cX7_charts 115 = .ok (.getfield 27, 3) := by decide +kernel
theorem dX7_charts_118 : decode cX7_charts 118 = .ok (.iload 5, 2) := by decide +kernel
theorem dX7_charts_120 : decode cX7_charts 120 = .ok (.iload 4, 2) := by decide +kernel
theorem dX7_charts_122 : decode cX7_charts 122 = .ok (.iastore, 1) := by decide +kernel
theorem dX7_charts_123 : decode cX7_charts 123 = .ok (.iinc 3 1, 3) := by decide +kernel
theorem dX7_charts_126 : decode cX7_charts 126 = .ok (.goto (-79), 3) := by decide +kernel
theorem dX7_charts_129 : decode cX7_charts 129 = .ok (.iinc 2 1, 3) := by decide +kernel
theorem dX7_charts_132 : decode cX7_charts 132 = .ok (.goto (-97), 3) := by decide +kernel
theorem dX7_charts_135 : decode cX7_charts 135 = .ok (.iinc 1 1, 3) := by decide +kernel
theorem dX7_charts_138 : decode cX7_charts 138 = .ok (.goto (-113), 3) := by decide +kernel
theorem dX7_charts_141 : decode cX7_charts 141 = .ok (.return_, 1) := by decide +kernel
theorem dX7_depth_0 : decode cX7_depth 0 = .ok (.aload_n 0, 1) := by decide +kernel
theorem dX7_depth_1 : decode cX7_depth 1 = .ok (.iload_n 1, 1) := by decide +kernel
theorem dX7_depth_2 : decode cX7_depth 2 = .ok (.iload_n 2, 1) := by decide +kernel
theorem dX7_depth_3 : decode cX7_depth 3 = .ok (.invokevirtual 77, 3) := by decide +kernel
theorem dX7_depth_6 : decode cX7_depth 6 = .ok (.ifCond .eq 5, 3) := by decide +kernel
theorem dX7_depth_9 : decode cX7_depth 9 = .ok (.iconst 0, 1) := by decide +kernel
theorem dX7_depth_10 : decode cX7_depth 10 = .ok (.ireturn, 1) := by decide +kernel
theorem dX7_depth_11 : decode cX7_depth 11 = .ok (.aload_n 0, 1) := by decide +kernel
theorem dX7_depth_12 : decode cX7_depth 12 = .ok (.invokevirtual 172, 3) := by decide +kernel
theorem dX7_depth_15 : decode cX7_depth 15 = .ok (.aload_n 0, 1) := by decide +kernel
theorem dX7_depth_16 : decode cX7_depth 16 = .ok (.getfield 27, 3) := by decide +kernel
theorem dX7_depth_19 : decode cX7_depth 19 = .ok (.bipush 20, 2) := by decide +kernel
theorem dX7_depth_21 : decode cX7_depth 21 = .ok (.iload_n 2, 1) := by decide +kernel
theorem dX7_depth_22 : decode cX7_depth 22 = .ok (.imul, 1) := by decide +kernel
theorem dX7_depth_23 : decode cX7_depth 23 = .ok (.iload_n 1, 1) := by decide +kernel
theorem dX7_depth_24 : decode cX7_depth 24 = .ok (.iadd, 1) := by decide +kernel
theorem dX7_depth_25 : decode cX7_depth 25 = .ok (.iaload, 1) := by decide +kernel
theorem dX7_depth_26 : decode cX7_depth 26 = .ok (.ldc 105, 2) := by decide +kernel
theorem dX7_depth_28 : decode cX7_depth 28 = .ok (.if_icmp .ne 9, 3) := by decide +kernel
theorem dX7_depth_31 : decode cX7_depth 31 = .ok (.aload_n 0, 1) := by decide +kernel
theorem dX7_depth_32 : decode cX7_depth 32 = .ok (.iconst 2, 1) := by decide +kernel
theorem dX7_depth_33 : decode cX7_depth 33 = .ok (.invokevirtual 80, 3) := by decide +kernel
theorem dX7_depth_36 : decode cX7_depth 36 = .ok (.ireturn, 1) := by decide +kernel
theorem dX7_depth_37 : decode cX7_depth 37 = .ok (.aload_n 0, 1) := by decide +kernel
theorem dX7_depth_38 : decode cX7_depth 38 = .ok (.getfield 27, 3) := by decide +kernel
theorem dX7_depth_41 : decode cX7_depth 41 = .ok (.bipush 20, 2) := by decide +kernel
theorem dX7_depth_43 : decode cX7_depth 43 = .ok (.iload_n 2, 1) := by decide +kernel
theorem dX7_depth_44 : decode cX7_depth 44 = .ok (.imul, 1) := by decide +kernel
theorem dX7_depth_45 : decode cX7_depth 45 = .ok (.iload_n 1, 1) := by decide +kernel
theorem dX7_depth_46 : decode cX7_depth 46 = .ok (.iadd, 1) := by decide +kernel
theorem dX7_depth_47 : decode cX7_depth 47 = .ok (.iaload, 1) := by decide +kernel
theorem dX7_depth_48 : decode cX7_depth 48 = .ok (.ireturn, 1) := by decide +kernel
theorem dX7_depthAnew_0 : decode cX7_depthAnew 0 = .ok (.aload_n 0, 1) := by decide +kernel
theorem dX7_depthAnew_1 : decode cX7_depthAnew 1 = .ok (.iload_n 1, 1) := by decide +kernel
theorem dX7_depthAnew_2 : decode cX7_depthAnew 2 = .ok (.iload_n 2, 1) := by decide +kernel
theorem dX7_depthAnew_3 : decode cX7_depthAnew 3 = .ok (.invokevirtual 175, 3) := by decide +kernel
theorem dX7_depthAnew_6 : decode cX7_depthAnew 6 = .ok (.ireturn, 1) := by decide +kernel
theorem dX7_charted_0 : decode cX7_charted 0 = .ok (.aload_n 0, 1) := by decide +kernel
theorem dX7_charted_1 : decode cX7_charted 1 = .ok (.invokevirtual 172, 3) := by decide +kernel
theorem dX7_charted_4 : decode cX7_charted 4 = .ok (.iconst 0, 1) := by decide +kernel
theorem dX7_charted_5 : decode cX7_charted 5 = .ok (.istore_n 1, 1) := by decide +kernel
theorem dX7_charted_6 : decode cX7_charted 6 = .ok (.iconst 0, 1) := by decide +kernel
theorem dX7_charted_7 : decode cX7_charted 7 = .ok (.istore_n 2, 1) := by decide +kernel
theorem dX7_charted_8 : decode cX7_charted 8 = .ok (.iload_n 2, 1) := by decide +kernel
theorem dX7_charted_9 : decode cX7_charted 9 = .ok (.sipush 240, 3) := by decide +kernel
theorem dX7_charted_12 : decode cX7_charted 12 = .ok (.if_icmp .ge 28, 3) := by decide +kernel
theorem dX7_charted_15 : decode cX7_charted 15 = .ok (.iload_n 1, 1) := by decide +kernel
theorem dX7_charted_16 : decode cX7_charted 16 = .ok (.aload_n 0, 1) := by decide +kernel
theorem dX7_charted_17 : decode cX7_charted 17 = .ok (.getfield 27, 3) := by decide +kernel
theorem dX7_charted_20 : decode cX7_charted 20 = .ok (.iload_n 2, 1) := by decide +kernel
theorem dX7_charted_21 : decode cX7_charted 21 = .ok (.iaload, 1) := by decide +kernel
theorem dX7_charted_22 : decode cX7_charted 22 = .ok (.ldc 105, 2) := by decide +kernel
theorem dX7_charted_24 : decode cX7_charted 24 = .ok (.if_icmp .eq 7, 3) := by decide +kernel
theorem dX7_charted_27 : decode cX7_charted 27 = .ok (.iconst 1, 1) := by decide +kernel
theorem dX7_charted_28 : decode cX7_charted 28 = .ok (.goto 4, 3) := by decide +kernel
theorem dX7_charted_31 : decode cX7_charted 31 = .ok (.iconst 0, 1) := by decide +kernel
theorem dX7_charted_32 : decode cX7_charted 32 = .ok (.iadd, 1) := by decide +kernel
theorem dX7_charted_33 : decode cX7_charted 33 = .ok (.istore_n 1, 1) := by decide +kernel
theorem dX7_charted_34 : decode cX7_charted 34 = .ok (.iinc 2 1, 3) := by decide +kernel
theorem dX7_charted_37 : decode cX7_charted 37 = .ok (.goto (-29), 3) := by decide +kernel
theorem dX7_charted_40 : decode cX7_charted 40 = .ok (.iload_n 1, 1) := by decide +kernel
theorem dX7_charted_41 : decode cX7_charted 41 = .ok (.ireturn, 1) := by decide +kernel
theorem dX7_gap_0 : decode cX7_gap 0 = .ok (.aload_n 0, 1) := by decide +kernel
theorem dX7_gap_1 : decode cX7_gap 1 = .ok (.invokevirtual 172, 3) := by decide +kernel
theorem dX7_gap_4 : decode cX7_gap 4 = .ok (.iconst 0, 1) := by decide +kernel
theorem dX7_gap_5 : decode cX7_gap 5 = .ok (.istore_n 2, 1) := by decide +kernel
theorem dX7_gap_6 : decode cX7_gap 6 = .ok (.iconst 0, 1) := by decide +kernel
theorem dX7_gap_7 : decode cX7_gap 7 = .ok (.istore_n 3, 1) := by decide +kernel
theorem dX7_gap_8 : decode cX7_gap 8 = .ok (.iload_n 3, 1) := by decide +kernel
theorem dX7_gap_9 : decode cX7_gap 9 = .ok (.sipush 240, 3) := by decide +kernel
theorem dX7_gap_12 : decode cX7_gap 12 = .ok (.if_icmp .ge 49, 3) := by decide +kernel
theorem dX7_gap_15 : decode cX7_gap 15 = .ok (.aload_n 0, 1) := by decide +kernel
theorem dX7_gap_16 : decode cX7_gap 16 = .ok (.getfield 27, 3) := by decide +kernel
theorem dX7_gap_19 : decode cX7_gap 19 = .ok (.iload_n 3, 1) := by decide +kernel
theorem dX7_gap_20 : decode cX7_gap 20 = .ok (.iaload, 1) := by decide +kernel
theorem dX7_gap_21 : decode cX7_gap 21 = .ok (.ldc 105, 2) := by decide +kernel
theorem dX7_gap_23 : decode cX7_gap 23 = .ok (.if_icmp .eq 6, 3) := by decide +kernel
theorem dX7_gap_26 : decode cX7_gap 26 = .ok (.goto 29, 3) := by decide +kernel
theorem dX7_gap_29 : decode cX7_gap 29 = .ok (.iload_n 2, 1) := by decide +kernel
theorem dX7_gap_30 : decode cX7_gap 30 = .ok (.iload_n 1, 1) := by decide +kernel
theorem dX7_gap_31 : decode cX7_gap 31 = .ok (.if_icmp .ne 21, 3) := by decide +kernel
theorem dX7_gap_34 : decode cX7_gap 34 = .ok (.aload_n 0, 1) := by decide +kernel
theorem dX7_gap_35 : decode cX7_gap 35 = .ok (.iconst 0, 1) := by decide +kernel
theorem dX7_gap_36 : decode cX7_gap 36 = .ok (.putfield 65, 3) := by decide +kernel
theorem dX7_gap_39 : decode cX7_gap 39 = .ok (.bipush 100, 2) := by decide +kernel
theorem dX7_gap_41 : decode cX7_gap 41 = .ok (.iload_n 3, 1) := by decide +kernel
theorem dX7_gap_42 : decode cX7_gap 42 = .ok (.bipush 20, 2) := by decide +kernel
theorem dX7_gap_44 : decode cX7_gap 44 = .ok (.idiv, 1) := by decide +kernel
theorem dX7_gap_45 : decode cX7_gap 45 = .ok (.imul, 1) := by decide +kernel
theorem dX7_gap_46 : decode cX7_gap 46 = .ok (.iload_n 3, 1) := by decide +kernel
theorem dX7_gap_47 : decode cX7_gap 47 = .ok (.bipush 20, 2) := by decide +kernel
theorem dX7_gap_49 : decode cX7_gap 49 = .ok (.irem, 1) := by decide +kernel
theorem dX7_gap_50 : decode cX7_gap 50 = .ok (.iadd, 1) := by decide +kernel
theorem dX7_gap_51 : decode cX7_gap 51 = .ok (.ireturn, 1) := by decide +kernel
theorem dX7_gap_52 : decode cX7_gap 52 = .ok (.iinc 2 1, 3) := by decide +kernel
theorem dX7_gap_55 : decode cX7_gap 55 = .ok (.iinc 3 1, 3) := by decide +kernel
theorem dX7_gap_58 : decode cX7_gap 58 = .ok (.goto (-50), 3) := by decide +kernel
theorem dX7_gap_61 : decode cX7_gap 61 = .ok (.aload_n 0, 1) := by decide +kernel
theorem dX7_gap_62 : decode cX7_gap 62 = .ok (.iconst 1, 1) := by decide +kernel
theorem dX7_gap_63 : decode cX7_gap 63 = .ok (.invokevirtual 80, 3) := by decide +kernel
theorem dX7_gap_66 : decode cX7_gap 66 = .ok (.ireturn, 1) := by decide +kernel
theorem dX7_gains_0 : decode cX7_gains 0 = .ok (.iconst 0, 1) := by decide +kernel
theorem dX7_gains_1 : decode cX7_gains 1 = .ok (.istore_n 2, 1) := by decide +kernel
theorem dX7_gains_2 : decode cX7_gains 2 = .ok (.iload_n 2, 1) := by decide +kernel
theorem dX7_gains_3 : decode cX7_gains 3 = .ok (.sipush 240, 3) := by decide +kernel
theorem dX7_gains_6 : decode cX7_gains 6 = .ok (.if_icmp .ge 16, 3) := by decide +kernel
theorem dX7_gains_9 : decode cX7_gains 9 = .ok (.aload_n 0, 1) := by decide +kernel
theorem dX7_gains_10 : decode cX7_gains 10 = .ok (.getfield 30, 3) := by decide +kernel
theorem dX7_gains_13 : decode cX7_gains 13 = .ok (.iload_n 2, 1) := by decide +kernel
theorem dX7_gains_14 : decode cX7_gains 14 = .ok (.iconst 0, 1) := by decide +kernel
theorem dX7_gains_15 : decode cX7_gains 15 = .ok (.iastore, 1) := by decide +kernel
theorem dX7_gains_16 : decode cX7_gains 16 = .ok (.iinc 2 1, 3) := by decide +kernel
theorem dX7_gains_19 : decode cX7_gains 19 = .ok (.goto (-17), 3) := by decide +kernel
theorem dX7_gains_22 : decode cX7_gains 22 = .ok (.iconst 0, 1) := by decide +kernel
theorem dX7_gains_23 : decode cX7_gains 23 = .ok (.istore_n 2, 1) := by decide +kernel
theorem dX7_gains_24 : decode cX7_gains 24 = .ok (.iconst 0, 1) := by decide +kernel
theorem dX7_gains_25 : decode cX7_gains 25 = .ok (.istore_n 3, 1) := by decide +kernel
theorem dX7_gains_26 : decode cX7_gains 26 = .ok (.iload_n 3, 1) := by decide +kernel
theorem dX7_gains_27 : decode cX7_gains 27 = .ok (.bipush 20, 2) := by decide +kernel
theorem dX7_gains_29 : decode cX7_gains 29 = .ok (.if_icmp .ge 125, 3) := by decide +kernel
theorem dX7_gains_32 : decode cX7_gains 32 = .ok (.bipush (-3), 2) := by decide +kernel
theorem dX7_gains_34 : decode cX7_gains 34 = .ok (.istore 4, 2) := by decide +kernel
theorem dX7_gains_36 : decode cX7_gains 36 = .ok (.iload 4, 2) := by decide +kernel
theorem dX7_gains_38 : decode cX7_gains 38 = .ok (.iconst 3, 1) := by decide +kernel
theorem dX7_gains_39 : decode cX7_gains 39 = .ok (.if_icmp .gt 109, 3) := by decide +kernel
theorem dX7_gains_42 : decode cX7_gains 42 = .ok (.iload 4, 2) := by decide +kernel
theorem dX7_gains_44 : decode cX7_gains 44 = .ok (.ifCond .ge 9, 3) := by decide +kernel
theorem dX7_gains_47 : decode cX7_gains 47 = .ok (.iload 4, 2) := by decide +kernel
theorem dX7_gains_49 : decode cX7_gains 49 = .ok (.ineg, 1) := by decide +kernel
theorem dX7_gains_50 : decode cX7_gains 50 = .ok (.goto 5, 3) := by decide +kernel
theorem dX7_gains_53 : decode cX7_gains 53 = .ok (.iload 4, 2) := by decide +kernel
theorem dX7_gains_55 : decode cX7_gains 55 = .ok (.istore 5, 2) := by decide +kernel
theorem dX7_gains_57 : decode cX7_gains 57 = .ok (.bipush 20, 2) := by decide +kernel
theorem dX7_gains_59 : decode cX7_gains 59 = .ok (.iload_n 1, 1) := by decide +kernel
theorem dX7_gains_60 : decode cX7_gains 60 = .ok (.iload 4, 2) := by decide +kernel
theorem dX7_gains_62 : decode cX7_gains 62 = .ok (.iadd, 1) := by decide +kernel
theorem dX7_gains_63 : decode cX7_gains 63 = .ok (.imul, 1) := by decide +kernel
theorem dX7_gains_64 : decode cX7_gains 64 = .ok (.iload_n 3, 1) := by decide +kernel
theorem dX7_gains_65 : decode cX7_gains 65 = .ok (.iadd, 1) := by decide +kernel
theorem dX7_gains_66 : decode cX7_gains 66 = .ok (.istore 6, 2) := by decide +kernel
theorem dX7_gains_68 : decode cX7_gains 68 = .ok (.iload 5, 2) := by decide +kernel
theorem dX7_gains_70 : decode cX7_gains 70 = .ok (.aload_n 0, 1) := by decide +kernel
theorem dX7_gains_71 : decode cX7_gains 71 = .ok (.getfield 9, 3) := by decide +kernel
theorem dX7_gains_74 : decode cX7_gains 74 = .ok (.bipush 20, 2) := by decide +kernel
theorem dX7_gains_76 : decode cX7_gains 76 = .ok (.iload_n 1, 1) := by decide +kernel
theorem dX7_gains_77 : decode cX7_gains 77 = .ok (.imul, 1) := by decide +kernel
theorem dX7_gains_78 : decode cX7_gains 78 = .ok (.iload_n 3, 1) := by decide +kernel
theorem dX7_gains_79 : decode cX7_gains 79 = .ok (.iadd, 1) := by decide +kernel
theorem dX7_gains_80 : decode cX7_gains 80 = .ok (.iaload, 1) := by decide +kernel
theorem dX7_gains_81 : decode cX7_gains 81 = .ok (.invokestatic 139, 3) := by decide +kernel
theorem dX7_gains_84 : decode cX7_gains 84 = .ok (.if_icmp .gt 58, 3) := by decide +kernel
theorem dX7_gains_87 : decode cX7_gains 87 = .ok (.iload_n 1, 1) := by decide +kernel
