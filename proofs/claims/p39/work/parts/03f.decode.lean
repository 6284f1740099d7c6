theorem dL_isLost_11 : decode cL_isLost 11 = .ok (.sipush (-1000), 3) := by decide +kernel
theorem dL_isLost_14 : decode cL_isLost 14 = .ok (.if_icmp .ge 7, 3) := by decide +kernel
theorem dL_isLost_17 : decode cL_isLost 17 = .ok (.iconst 1, 1) := by decide +kernel
theorem dL_isLost_18 : decode cL_isLost 18 = .ok (.goto 4, 3) := by decide +kernel
theorem dL_isLost_21 : decode cL_isLost 21 = .ok (.iconst 0, 1) := by decide +kernel
theorem dL_isLost_22 : decode cL_isLost 22 = .ok (.ireturn, 1) := by decide +kernel
theorem dL_isLost_23 : decode cL_isLost 23 = .ok (.astore 4, 2) := by decide +kernel
theorem dL_isLost_25 : decode cL_isLost 25 = .ok (.iconst 1, 1) := by decide +kernel
theorem dL_isLost_26 : decode cL_isLost 26 = .ok (.ireturn, 1) := by decide +kernel
theorem dL_tided_0 : decode cL_tided 0 = .ok (.iconst 0, 1) := by decide +kernel
theorem dL_tided_1 : decode cL_tided 1 = .ok (.istore 4, 2) := by decide +kernel
theorem dL_tided_3 : decode cL_tided 3 = .ok (.sipush 999, 3) := by decide +kernel
theorem dL_tided_6 : decode cL_tided 6 = .ok (.istore 5, 2) := by decide +kernel
theorem dL_tided_8 : decode cL_tided 8 = .ok (.sipush (-999), 3) := by decide +kernel
theorem dL_tided_11 : decode cL_tided 11 = .ok (.istore 6, 2) := by decide +kernel
theorem dL_tided_13 : decode cL_tided 13 = .ok (.iconst 0, 1) := by decide +kernel
theorem dL_tided_14 : decode cL_tided 14 = .ok (.istore 7, 2) := by decide +kernel
theorem dL_tided_16 : decode cL_tided 16 = .ok (.iload 7, 2) := by decide +kernel
theorem dL_tided_18 : decode cL_tided 18 = .ok (.iconst 3, 1) := by decide +kernel
theorem dL_tided_19 : decode cL_tided 19 = .ok (.if_icmp .ge 53, 3) := by decide +kernel
theorem dL_tided_22 : decode cL_tided 22 = .ok (.aload_n 0, 1) := by decide +kernel
theorem dL_tided_23 : decode cL_tided 23 = .ok (.iload 7, 2) := by decide +kernel
theorem dL_tided_25 : decode cL_tided 25 = .ok (.iload_n 2, 1) := by decide +kernel
theorem dL_tided_26 : decode cL_tided 26 = .ok (.iload_n 3, 1) := by decide +kernel
theorem dL_tided_27 : decode cL_tided 27 = .ok (.invokevirtual 48, 3) := by decide +kernel
theorem dL_tided_30 : decode cL_tided 30 = .ok (.istore 8, 2) := by decide +kernel
theorem dL_tided_32 : decode cL_tided 32 = .ok (.iconst 1, 1) := by decide +kernel
theorem dL_tided_33 : decode cL_tided 33 = .ok (.istore 4, 2) := by decide +kernel
theorem dL_tided_35 : decode cL_tided 35 = .ok (.iload 5, 2) := by decide +kernel
theorem dL_tided_37 : decode cL_tided 37 = .ok (.iload 8, 2) := by decide +kernel
theorem dL_tided_39 : decode cL_tided 39 = .ok (.invokestatic 238, 3) := by decide +kernel
theorem dL_tided_42 : decode cL_tided 42 = .ok (.istore 5, 2) := by decide +kernel
theorem dL_tided_44 : decode cL_tided 44 = .ok (.iload 6, 2) := by decide +kernel
theorem dL_tided_46 : decode cL_tided 46 = .ok (.iload 8, 2) := by decide +kernel
theorem dL_tided_48 : decode cL_tided 48 = .ok (.invokestatic 243, 3) := by decide +kernel
theorem dL_tided_51 : decode cL_tided 51 = .ok (.istore 6, 2) := by decide +kernel
theorem dL_tided_53 : decode cL_tided 53 = .ok (.goto 13, 3) := by decide +kernel
theorem dL_tided_56 : decode cL_tided 56 = .ok (.astore 8, 2) := by decide +kernel
theorem dL_tided_58 : decode cL_tided 58 = .ok (.goto 8, 3) := by decide +kernel
theorem dL_tided_61 : decode cL_tided 61 = .ok (.astore 8, 2) := by decide +kernel
theorem dL_tided_63 : decode cL_tided 63 = .ok (.goto 3, 3) := by decide +kernel
theorem dL_tided_66 : decode cL_tided 66 = .ok (.iinc 7 1, 3) := by decide +kernel
theorem dL_tided_69 : decode cL_tided 69 = .ok (.goto (-53), 3) := by decide +kernel
theorem dL_tided_72 : decode cL_tided 72 = .ok (.aload_n 0, 1) := by decide +kernel
theorem dL_tided_73 : decode cL_tided 73 = .ok (.iload_n 1, 1) := by decide +kernel
theorem dL_tided_74 : decode cL_tided 74 = .ok (.iload_n 2, 1) := by decide +kernel
theorem dL_tided_75 : decode cL_tided 75 = .ok (.iload_n 3, 1) := by decide +kernel
theorem dL_tided_76 : decode cL_tided 76 = .ok (.invokevirtual 51, 3) := by decide +kernel
theorem dL_tided_79 : decode cL_tided 79 = .ok (.istore 7, 2) := by decide +kernel
theorem dL_tided_81 : decode cL_tided 81 = .ok (.iload 4, 2) := by decide +kernel
theorem dL_tided_83 : decode cL_tided 83 = .ok (.ifCond .eq 21, 3) := by decide +kernel
theorem dL_tided_86 : decode cL_tided 86 = .ok (.iload 7, 2) := by decide +kernel
theorem dL_tided_88 : decode cL_tided 88 = .ok (.iload 5, 2) := by decide +kernel
theorem dL_tided_90 : decode cL_tided 90 = .ok (.if_icmp .lt 14, 3) := by decide +kernel
theorem dL_tided_93 : decode cL_tided 93 = .ok (.iload 7, 2) := by decide +kernel
theorem dL_tided_95 : decode cL_tided 95 = .ok (.iload 6, 2) := by decide +kernel
theorem dL_tided_97 : decode cL_tided 97 = .ok (.if_icmp .gt 7, 3) := by decide +kernel
theorem dL_tided_100 : decode cL_tided 100 = .ok (.iconst 1, 1) := by decide +kernel
theorem dL_tided_101 : decode cL_tided 101 = .ok (.goto 4, 3) := by decide +kernel
theorem dL_tided_104 : decode cL_tided 104 = .ok (.iconst 0, 1) := by decide +kernel
theorem dL_tided_105 : decode cL_tided 105 = .ok (.ireturn, 1) := by decide +kernel
theorem dL_tided_106 : decode cL_tided 106 = .ok (.astore 7, 2) := by decide +kernel
theorem dL_tided_108 : decode cL_tided 108 = .ok (.iload 4, 2) := by decide +kernel
theorem dL_tided_110 : decode cL_tided 110 = .ok (.ifCond .ne 7, 3) := by decide +kernel
theorem dL_tided_113 : decode cL_tided 113 = .ok (.iconst 1, 1) := by decide +kernel
theorem dL_tided_114 : decode cL_tided 114 = .ok (.goto 4, 3) := by decide +kernel
theorem dL_tided_117 : decode cL_tided 117 = .ok (.iconst 0, 1) := by decide +kernel
theorem dL_tided_118 : decode cL_tided 118 = .ok (.ireturn, 1) := by decide +kernel
theorem dL_hired_0 : decode cL_hired 0 = .ok (.lconst 0, 1) := by decide +kernel
theorem dL_hired_1 : decode cL_hired 1 = .ok (.lstore_n 1, 1) := by decide +kernel
theorem dL_hired_2 : decode cL_hired 2 = .ok (.iconst (-1), 1) := by decide +kernel
theorem dL_hired_3 : decode cL_hired 3 = .ok (.istore_n 3, 1) := by decide +kernel
theorem dL_hired_4 : decode cL_hired 4 = .ok (.iconst 0, 1) := by decide +kernel
theorem dL_hired_5 : decode cL_hired 5 = .ok (.istore 4, 2) := by decide +kernel
theorem dL_hired_7 : decode cL_hired 7 = .ok (.iconst 0, 1) := by decide +kernel
theorem dL_hired_8 : decode cL_hired 8 = .ok (.istore 5, 2) := by decide +kernel
theorem dL_hired_10 : decode cL_hired 10 = .ok (.iload 5, 2) := by decide +kernel
theorem dL_hired_12 : decode cL_hired 12 = .ok (.aload_n 0, 1) := by decide +kernel
theorem dL_hired_13 : decode cL_hired 13 = .ok (.invokevirtual 155, 3) := by decide +kernel
theorem dL_hired_16 : decode cL_hired 16 = .ok (.if_icmp .ge 39, 3) := by decide +kernel
theorem dL_hired_19 : decode cL_hired 19 = .ok (.iload_n 3, 1) := by decide +kernel
theorem dL_hired_20 : decode cL_hired 20 = .ok (.aload_n 0, 1) := by decide +kernel
theorem dL_hired_21 : decode cL_hired 21 = .ok (.iload 5, 2) := by decide +kernel
theorem dL_hired_23 : decode cL_hired 23 = .ok (.invokestatic 205, 3) := by decide +kernel
theorem dL_hired_26 : decode cL_hired 26 = .ok (.invokestatic 243, 3) := by decide +kernel
theorem dL_hired_29 : decode cL_hired 29 = .ok (.istore_n 3, 1) := by decide +kernel
theorem dL_hired_30 : decode cL_hired 30 = .ok (.iload 4, 2) := by decide +kernel
theorem dL_hired_32 : decode cL_hired 32 = .ok (.aload_n 0, 1) := by decide +kernel
theorem dL_hired_33 : decode cL_hired 33 = .ok (.iload 5, 2) := by decide +kernel
theorem dL_hired_35 : decode cL_hired 35 = .ok (.invokestatic 203, 3) := by decide +kernel
theorem dL_hired_38 : decode cL_hired 38 = .ok (.ifCond .le 7, 3) := by decide +kernel
theorem dL_hired_41 : decode cL_hired 41 = .ok (.iconst 1, 1) := by decide +kernel
theorem dL_hired_42 : decode cL_hired 42 = .ok (.goto 4, 3) := by decide +kernel
theorem dL_hired_45 : decode cL_hired 45 = .ok (.iconst 0, 1) := by decide +kernel
theorem dL_hired_46 : decode cL_hired 46 = .ok (.iadd, 1) := by decide +kernel
theorem dL_hired_47 : decode cL_hired 47 = .ok (.istore 4, 2) := by decide +kernel
theorem dL_hired_49 : decode cL_hired 49 = .ok (.iinc 5 1, 3) := by decide +kernel
theorem dL_hired_52 : decode cL_hired 52 = .ok (.goto (-42), 3) := by decide +kernel
theorem dL_hired_55 : decode cL_hired 55 = .ok (.iconst 0, 1) := by decide +kernel
theorem dL_hired_56 : decode cL_hired 56 = .ok (.istore 5, 2) := by decide +kernel
theorem dL_hired_58 : decode cL_hired 58 = .ok (.iload 5, 2) := by decide +kernel
theorem dL_hired_60 : decode cL_hired 60 = .ok (.iload_n 3, 1) := by decide +kernel
theorem dL_hired_61 : decode cL_hired 61 = .ok (.if_icmp .gt 79, 3) := by decide +kernel
theorem dL_hired_64 : decode cL_hired 64 = .ok (.aload_n 0, 1) := by decide +kernel
theorem dL_hired_65 : decode cL_hired 65 = .ok (.iload 5, 2) := by decide +kernel
theorem dL_hired_67 : decode cL_hired 67 = .ok (.invokestatic 213, 3) := by decide +kernel
theorem dL_hired_70 : decode cL_hired 70 = .ok (.istore 6, 2) := by decide +kernel
theorem dL_hired_72 : decode cL_hired 72 = .ok (.aload_n 0, 1) := by decide +kernel
theorem dL_hired_73 : decode cL_hired 73 = .ok (.iload 5, 2) := by decide +kernel
theorem dL_hired_75 : decode cL_hired 75 = .ok (.iconst 0, 1) := by decide +kernel
theorem dL_hired_76 : decode cL_hired 76 = .ok (.invokestatic 138, 3) := by decide +kernel
theorem dL_hired_79 : decode cL_hired 79 = .ok (.istore 7, 2) := by decide +kernel
theorem dL_hired_81 : decode cL_hired 81 = .ok (.aload_n 0, 1) := by decide +kernel
theorem dL_hired_82 : decode cL_hired 82 = .ok (.iload 5, 2) := by decide +kernel
theorem dL_hired_84 : decode cL_hired 84 = .ok (.iload 7, 2) := by decide +kernel
theorem dL_hired_86 : decode cL_hired 86 = .ok (.invokestatic 138, 3) := by decide +kernel
theorem dL_hired_89 : decode cL_hired 89 = .ok (.istore 8, 2) := by decide +kernel
theorem dL_hired_91 : decode cL_hired 91 = .ok (.lload_n 1, 1) := by decide +kernel
theorem dL_hired_92 : decode cL_hired 92 = .ok (.iload 6, 2) := by decide +kernel
theorem dL_hired_94 : decode cL_hired 94 = .ok (.ifCond .le 23, 3) := by decide +kernel
theorem dL_hired_97 : decode cL_hired 97 = .ok (.sipush 1000, 3) := by decide +kernel
theorem dL_hired_100 : decode cL_hired 100 = .ok (.bipush 40, 2) := by decide +kernel
theorem dL_hired_102 : decode cL_hired 102 = .ok (.iconst 0, 1) := by decide +kernel
theorem dL_hired_103 : decode cL_hired 103 = .ok (.iload 6, 2) := by decide +kernel
theorem dL_hired_105 : decode cL_hired 105 = .ok (.bipush 10, 2) := by decide +kernel
theorem dL_hired_107 : decode cL_hired 107 = .ok (.isub, 1) := by decide +kernel
theorem dL_hired_108 : decode cL_hired 108 = .ok (.invokestatic 243, 3) := by decide +kernel
theorem dL_hired_111 : decode cL_hired 111 = .ok (.imul, 1) := by decide +kernel
theorem dL_hired_112 : decode cL_hired 112 = .ok (.iadd, 1) := by decide +kernel
theorem dL_hired_113 : decode cL_hired 113 = .ok (.i2l, 1) := by decide +kernel
theorem dL_hired_114 : decode cL_hired 114 = .ok (.goto 18, 3) := by decide +kernel
theorem dL_hired_117 : decode cL_hired 117 = .ok (.iload 7, 2) := by decide +kernel
theorem dL_hired_119 : decode cL_hired 119 = .ok (.iconst 4, 1) := by decide +kernel
theorem dL_hired_120 : decode cL_hired 120 = .ok (.if_icmp .le 9, 3) := by decide +kernel
theorem dL_hired_123 : decode cL_hired 123 = .ok (.ldc2_w 246, 3) := by decide +kernel
theorem dL_hired_126 : decode cL_hired 126 = .ok (.goto 6, 3) := by decide +kernel
theorem dL_hired_129 : decode cL_hired 129 = .ok (.ldc2_w 248, 3) := by decide +kernel
theorem dL_hired_132 : decode cL_hired 132 = .ok (.ladd, 1) := by decide +kernel
theorem dL_hired_133 : decode cL_hired 133 = .ok (.lstore_n 1, 1) := by decide +kernel
theorem dL_hired_134 : decode cL_hired 134 = .ok (.iinc 5 1, 3) := by decide +kernel
theorem dL_hired_137 : decode cL_hired 137 = .ok (.goto (-79), 3) := by decide +kernel
theorem dL_hired_140 : decode cL_hired 140 = .ok (.aload_n 0, 1) := by decide +kernel
theorem dL_hired_141 : decode cL_hired 141 = .ok (.invokevirtual 174, 3) := by decide +kernel
theorem dL_hired_144 : decode cL_hired 144 = .ok (.lload_n 1, 1) := by decide +kernel
theorem dL_hired_145 : decode cL_hired 145 = .ok (.lcmp, 1) := by decide +kernel
theorem dL_hired_146 : decode cL_hired 146 = .ok (.ifCond .ne 26, 3) := by decide +kernel
theorem dL_hired_149 : decode cL_hired 149 = .ok (.iload 4, 2) := by decide +kernel
theorem dL_hired_151 : decode cL_hired 151 = .ok (.aload_n 0, 1) := by decide +kernel
theorem dL_hired_152 : decode cL_hired 152 = .ok (.invokevirtual 171, 3) := by decide +kernel
theorem dL_hired_155 : decode cL_hired 155 = .ok (.if_icmp .ne 17, 3) := by decide +kernel
theorem dL_hired_158 : decode cL_hired 158 = .ok (.aload_n 0, 1) := by decide +kernel
theorem dL_hired_159 : decode cL_hired 159 = .ok (.bipush 10, 2) := by decide +kernel
theorem dL_hired_161 : decode cL_hired 161 = .ok (.invokestatic 213, 3) := by decide +kernel
theorem dL_hired_164 : decode cL_hired 164 = .ok (.iconst (-1), 1) := by decide +kernel
theorem dL_hired_165 : decode cL_hired 165 = .ok (.if_icmp .ne 7, 3) := by decide +kernel
theorem dL_hired_168 : decode cL_hired 168 = .ok (.iconst 1, 1) := by decide +kernel
theorem dL_hired_169 : decode cL_hired 169 = .ok (.goto 4, 3) := by decide +kernel
theorem dL_hired_172 : decode cL_hired 172 = .ok (.iconst 0, 1) := by decide +kernel
theorem dL_hired_173 : decode cL_hired 173 = .ok (.ireturn, 1) := by decide +kernel
theorem dL_law_0 : decode cL_law 0 = .ok (.new 9, 3) := by decide +kernel
theorem dL_law_3 : decode cL_law 3 = .ok (.dup, 1) := by decide +kernel
theorem dL_law_4 : decode cL_law 4 = .ok (.invokespecial 250, 3) := by decide +kernel
theorem dL_law_7 : decode cL_law 7 = .ok (.astore_n 1, 1) := by decide +kernel
theorem dL_law_8 : decode cL_law 8 = .ok (.iconst 0, 1) := by decide +kernel
theorem dL_law_9 : decode cL_law 9 = .ok (.istore_n 2, 1) := by decide +kernel
theorem dL_law_10 : decode cL_law 10 = .ok (.aload_n 1, 1) := by decide +kernel
theorem dL_law_11 : decode cL_law 11 = .ok (.invokevirtual 161, 3) := by decide +kernel
theorem dL_law_14 : decode cL_law 14 = .ok (.ifCond .ne 125, 3) := by decide +kernel
theorem dL_law_17 : decode cL_law 17 = .ok (.aload_n 1, 1) := by decide +kernel
theorem dL_law_18 : decode cL_law 18 = .ok (.iconst 0, 1) := by decide +kernel
theorem dL_law_19 : decode cL_law 19 = .ok (.invokestatic 211, 3) := by decide +kernel
theorem dL_law_22 : decode cL_law 22 = .ok (.ifCond .ne 117, 3) := by decide +kernel
theorem dL_law_25 : decode cL_law 25 = .ok (.aload_n 1, 1) := by decide +kernel
theorem dL_law_26 : decode cL_law 26 = .ok (.invokestatic 184, 3) := by decide +kernel
theorem dL_law_29 : decode cL_law 29 = .ok (.iconst 2, 1) := by decide +kernel
theorem dL_law_30 : decode cL_law 30 = .ok (.if_icmp .ne 109, 3) := by decide +kernel
theorem dL_law_33 : decode cL_law 33 = .ok (.aload_n 1, 1) := by decide +kernel
theorem dL_law_34 : decode cL_law 34 = .ok (.invokestatic 181, 3) := by decide +kernel
theorem dL_law_37 : decode cL_law 37 = .ok (.iconst (-1), 1) := by decide +kernel
theorem dL_law_38 : decode cL_law 38 = .ok (.if_icmp .ne 101, 3) := by decide +kernel
theorem dL_law_41 : decode cL_law 41 = .ok (.aload_n 1, 1) := by decide +kernel
theorem dL_law_42 : decode cL_law 42 = .ok (.invokevirtual 174, 3) := by decide +kernel
theorem dL_law_45 : decode cL_law 45 = .ok (.lconst 0, 1) := by decide +kernel
theorem dL_law_46 : decode cL_law 46 = .ok (.lcmp, 1) := by decide +kernel
theorem dL_law_47 : decode cL_law 47 = .ok (.ifCond .ne 92, 3) := by decide +kernel
theorem dL_law_50 : decode cL_law 50 = .ok (.aload_n 1, 1) := by decide +kernel
theorem dL_law_51 : decode cL_law 51 = .ok (.invokestatic 186, 3) := by decide +kernel
theorem dL_law_54 : decode cL_law 54 = .ok (.ldc2_w 114, 3) := by decide +kernel
theorem dL_law_57 : decode cL_law 57 = .ok (.dcmp .l, 1) := by decide +kernel
theorem dL_law_58 : decode cL_law 58 = .ok (.ifCond .ne 81, 3) := by decide +kernel
theorem dL_law_61 : decode cL_law 61 = .ok (.aload_n 1, 1) := by decide +kernel
theorem dL_law_62 : decode cL_law 62 = .ok (.iconst 0, 1) := by decide +kernel
theorem dL_law_63 : decode cL_law 63 = .ok (.iconst 0, 1) := by decide +kernel
theorem dL_law_64 : decode cL_law 64 = .ok (.iconst 0, 1) := by decide +kernel
theorem dL_law_65 : decode cL_law 65 = .ok (.invokestatic 207, 3) := by decide +kernel
theorem dL_law_68 : decode cL_law 68 = .ok (.bipush (-2), 2) := by decide +kernel
theorem dL_law_70 : decode cL_law 70 = .ok (.if_icmp .ne 69, 3) := by decide +kernel
theorem dL_law_73 : decode cL_law 73 = .ok (.aload_n 1, 1) := by decide +kernel
theorem dL_law_74 : decode cL_law 74 = .ok (.iconst 0, 1) := by decide +kernel
theorem dL_law_75 : decode cL_law 75 = .ok (.invokestatic 236, 3) := by decide +kernel
theorem dL_law_78 : decode cL_law 78 = .ok (.iconst (-1), 1) := by decide +kernel
theorem dL_law_79 : decode cL_law 79 = .ok (.if_icmp .ne 60, 3) := by decide +kernel
theorem dL_law_82 : decode cL_law 82 = .ok (.aload_n 1, 1) := by decide +kernel
theorem dL_law_83 : decode cL_law 83 = .ok (.bipush 120, 2) := by decide +kernel
theorem dL_law_85 : decode cL_law 85 = .ok (.iconst 0, 1) := by decide +kernel
theorem dL_law_86 : decode cL_law 86 = .ok (.iconst 0, 1) := by decide +kernel
theorem dL_law_87 : decode cL_law 87 = .ok (.iconst 0, 1) := by decide +kernel
theorem dL_law_88 : decode cL_law 88 = .ok (.iconst 0, 1) := by decide +kernel
theorem dL_law_89 : decode cL_law 89 = .ok (.iconst 0, 1) := by decide +kernel
theorem dL_law_90 : decode cL_law 90 = .ok (.invokestatic 148, 3) := by decide +kernel
theorem dL_law_93 : decode cL_law 93 = .ok (.iconst (-1), 1) := by decide +kernel
theorem dL_law_94 : decode cL_law 94 = .ok (.if_icmp .ne 45, 3) := by decide +kernel
theorem dL_law_97 : decode cL_law 97 = .ok (.aload_n 1, 1) := by decide +kernel
theorem dL_law_98 : decode cL_law 98 = .ok (.bipush 114, 2) := by decide +kernel
theorem dL_law_100 : decode cL_law 100 = .ok (.bipush 12, 2) := by decide +kernel
theorem dL_law_102 : decode cL_law 102 = .ok (.iconst 0, 1) := by decide +kernel
theorem dL_law_103 : decode cL_law 103 = .ok (.iconst 0, 1) := by decide +kernel
theorem dL_law_104 : decode cL_law 104 = .ok (.iconst 0, 1) := by decide +kernel
theorem dL_law_105 : decode cL_law 105 = .ok (.iconst 0, 1) := by decide +kernel
theorem dL_law_106 : decode cL_law 106 = .ok (.invokestatic 148, 3) := by decide +kernel
theorem dL_law_109 : decode cL_law 109 = .ok (.bipush (-2), 2) := by decide +kernel
theorem dL_law_111 : decode cL_law 111 = .ok (.if_icmp .ne 28, 3) := by decide +kernel
theorem dL_law_114 : decode cL_law 114 = .ok (.aload_n 1, 1) := by decide +kernel
theorem dL_law_115 : decode cL_law 115 = .ok (.bipush 114, 2) := by decide +kernel
theorem dL_law_117 : decode cL_law 117 = .ok (.iconst 0, 1) := by decide +kernel
theorem dL_law_118 : decode cL_law 118 = .ok (.iconst 0, 1) := by decide +kernel
theorem dL_law_119 : decode cL_law 119 = .ok (.bipush 19, 2) := by decide +kernel
theorem dL_law_121 : decode cL_law 121 = .ok (.iconst 0, 1) := by decide +kernel
theorem dL_law_122 : decode cL_law 122 = .ok (.bipush 21, 2) := by decide +kernel
theorem dL_law_124 : decode cL_law 124 = .ok (.invokestatic 148, 3) := by decide +kernel
theorem dL_law_127 : decode cL_law 127 = .ok (.bipush (-4), 2) := by decide +kernel
theorem dL_law_129 : decode cL_law 129 = .ok (.if_icmp .ne 10, 3) := by decide +kernel
theorem dL_law_132 : decode cL_law 132 = .ok (.aload_n 1, 1) := by decide +kernel
theorem dL_law_133 : decode cL_law 133 = .ok (.invokevirtual 224, 3) := by decide +kernel
theorem dL_law_136 : decode cL_law 136 = .ok (.ifCond .ne 5, 3) := by decide +kernel
theorem dL_law_139 : decode cL_law 139 = .ok (.iconst 0, 1) := by decide +kernel
theorem dL_law_140 : decode cL_law 140 = .ok (.ireturn, 1) := by decide +kernel
theorem dL_law_141 : decode cL_law 141 = .ok (.aload_n 1, 1) := by decide +kernel
theorem dL_law_142 : decode cL_law 142 = .ok (.iconst 4, 1) := by decide +kernel
theorem dL_law_143 : decode cL_law 143 = .ok (.invokestatic 140, 3) := by decide +kernel
theorem dL_law_146 : decode cL_law 146 = .ok (.aload_n 1, 1) := by decide +kernel
theorem dL_law_147 : decode cL_law 147 = .ok (.bipush 12, 2) := by decide +kernel
theorem dL_law_149 : decode cL_law 149 = .ok (.invokestatic 140, 3) := by decide +kernel
theorem dL_law_152 : decode cL_law 152 = .ok (.iadd, 1) := by decide +kernel
theorem dL_law_153 : decode cL_law 153 = .ok (.aload_n 1, 1) := by decide +kernel
theorem dL_law_154 : decode cL_law 154 = .ok (.iconst 1, 1) := by decide +kernel
theorem dL_law_155 : decode cL_law 155 = .ok (.bipush 8, 2) := by decide +kernel
theorem dL_law_157 : decode cL_law 157 = .ok (.bipush 6, 2) := by decide +kernel
theorem dL_law_159 : decode cL_law 159 = .ok (.invokestatic 133, 3) := by decide +kernel
theorem dL_law_162 : decode cL_law 162 = .ok (.iadd, 1) := by decide +kernel
theorem dL_law_163 : decode cL_law 163 = .ok (.aload_n 1, 1) := by decide +kernel
theorem dL_law_164 : decode cL_law 164 = .ok (.iconst 3, 1) := by decide +kernel
theorem dL_law_165 : decode cL_law 165 = .ok (.iconst 5, 1) := by decide +kernel
theorem dL_law_166 : decode cL_law 166 = .ok (.bipush 35, 2) := by decide +kernel
theorem dL_law_168 : decode cL_law 168 = .ok (.invokestatic 128, 3) := by decide +kernel
theorem dL_law_171 : decode cL_law 171 = .ok (.iadd, 1) := by decide +kernel
theorem dL_law_172 : decode cL_law 172 = .ok (.aload_n 1, 1) := by decide +kernel
theorem dL_law_173 : decode cL_law 173 = .ok (.bipush 114, 2) := by decide +kernel
theorem dL_law_175 : decode cL_law 175 = .ok (.iconst 5, 1) := by decide +kernel
theorem dL_law_176 : decode cL_law 176 = .ok (.iconst 0, 1) := by decide +kernel
theorem dL_law_177 : decode cL_law 177 = .ok (.bipush 9, 2) := by decide +kernel
theorem dL_law_179 : decode cL_law 179 = .ok (.iconst 1, 1) := by decide +kernel
theorem dL_law_180 : decode cL_law 180 = .ok (.bipush 8, 2) := by decide +kernel
theorem dL_law_182 : decode cL_law 182 = .ok (.invokestatic 148, 3) := by decide +kernel
theorem dL_law_185 : decode cL_law 185 = .ok (.iadd, 1) := by decide +kernel
theorem dL_law_186 : decode cL_law 186 = .ok (.istore_n 3, 1) := by decide +kernel
theorem dL_law_187 : decode cL_law 187 = .ok (.iload_n 3, 1) := by decide +kernel
theorem dL_law_188 : decode cL_law 188 = .ok (.bipush 21, 2) := by decide +kernel
theorem dL_law_190 : decode cL_law 190 = .ok (.if_icmp .ne 160, 3) := by decide +kernel
theorem dL_law_193 : decode cL_law 193 = .ok (.aload_n 1, 1) := by decide +kernel
theorem dL_law_194 : decode cL_law 194 = .ok (.iconst 4, 1) := by decide +kernel
theorem dL_law_195 : decode cL_law 195 = .ok (.invokestatic 140, 3) := by decide +kernel
theorem dL_law_198 : decode cL_law 198 = .ok (.bipush (-2), 2) := by decide +kernel
theorem dL_law_200 : decode cL_law 200 = .ok (.if_icmp .ne 150, 3) := by decide +kernel
theorem dL_law_203 : decode cL_law 203 = .ok (.aload_n 1, 1) := by decide +kernel
theorem dL_law_204 : decode cL_law 204 = .ok (.iconst 0, 1) := by decide +kernel
theorem dL_law_205 : decode cL_law 205 = .ok (.invokestatic 199, 3) := by decide +kernel
theorem dL_law_208 : decode cL_law 208 = .ok (.bipush 52, 2) := by decide +kernel
theorem dL_law_210 : decode cL_law 210 = .ok (.if_icmp .ne 140, 3) := by decide +kernel
theorem dL_law_213 : decode cL_law 213 = .ok (.aload_n 1, 1) := by decide +kernel
theorem dL_law_214 : decode cL_law 214 = .ok (.iconst 0, 1) := by decide +kernel
theorem dL_law_215 : decode cL_law 215 = .ok (.iconst 3, 1) := by decide +kernel
theorem dL_law_216 : decode cL_law 216 = .ok (.iconst 0, 1) := by decide +kernel
theorem dL_law_217 : decode cL_law 217 = .ok (.invokestatic 251, 3) := by decide +kernel
theorem dL_law_220 : decode cL_law 220 = .ok (.bipush 41, 2) := by decide +kernel
theorem dL_law_222 : decode cL_law 222 = .ok (.if_icmp .ne 128, 3) := by decide +kernel
theorem dL_law_225 : decode cL_law 225 = .ok (.aload_n 1, 1) := by decide +kernel
theorem dL_law_226 : decode cL_law 226 = .ok (.iconst 0, 1) := by decide +kernel
theorem dL_law_227 : decode cL_law 227 = .ok (.iconst 0, 1) := by decide +kernel
theorem dL_law_228 : decode cL_law 228 = .ok (.iconst 2, 1) := by decide +kernel
theorem dL_law_229 : decode cL_law 229 = .ok (.invokestatic 251, 3) := by decide +kernel
theorem dL_law_232 : decode cL_law 232 = .ok (.bipush 26, 2) := by decide +kernel
theorem dL_law_234 : decode cL_law 234 = .ok (.if_icmp .ne 116, 3) := by decide +kernel
theorem dL_law_237 : decode cL_law 237 = .ok (.aload_n 1, 1) := by decide +kernel
theorem dL_law_238 : decode cL_law 238 = .ok (.iconst 0, 1) := by decide +kernel
theorem dL_law_239 : decode cL_law 239 = .ok (.iconst 5, 1) := by decide +kernel
theorem dL_law_240 : decode cL_law 240 = .ok (.iconst 1, 1) := by decide +kernel
theorem dL_law_241 : decode cL_law 241 = .ok (.invokestatic 251, 3) := by decide +kernel
theorem dL_law_244 : decode cL_law 244 = .ok (.bipush 20, 2) := by decide +kernel
theorem dL_law_246 : decode cL_law 246 = .ok (.if_icmp .ne 104, 3) := by decide +kernel
theorem dL_law_249 : decode cL_law 249 = .ok (.aload_n 1, 1) := by decide +kernel
theorem dL_law_250 : decode cL_law 250 = .ok (.iconst 0, 1) := by decide +kernel
theorem dL_law_251 : decode cL_law 251 = .ok (.iconst 3, 1) := by decide +kernel
theorem dL_law_252 : decode cL_law 252 = .ok (.iconst 0, 1) := by decide +kernel
theorem dL_law_253 : decode cL_law 253 = .ok (.invokestatic 253, 3) := by decide +kernel
theorem dL_law_256 : decode cL_law 256 = .ok (.bipush 35, 2) := by decide +kernel
theorem dL_law_258 : decode cL_law 258 = .ok (.if_icmp .ne 92, 3) := by decide +kernel
theorem dL_law_261 : decode cL_law 261 = .ok (.aload_n 1, 1) := by decide +kernel
theorem dL_law_262 : decode cL_law 262 = .ok (.iconst 0, 1) := by decide +kernel
theorem dL_law_263 : decode cL_law 263 = .ok (.iconst 3, 1) := by decide +kernel
theorem dL_law_264 : decode cL_law 264 = .ok (.iconst 0, 1) := by decide +kernel
theorem dL_law_265 : decode cL_law 265 = .ok (.invokestatic 230, 3) := by decide +kernel
theorem dL_law_268 : decode cL_law 268 = .ok (.iconst 1, 1) := by decide +kernel
theorem dL_law_269 : decode cL_law 269 = .ok (.if_icmp .ne 81, 3) := by decide +kernel
theorem dL_law_272 : decode cL_law 272 = .ok (.aload_n 1, 1) := by decide +kernel
theorem dL_law_273 : decode cL_law 273 = .ok (.iconst 0, 1) := by decide +kernel
theorem dL_law_274 : decode cL_law 274 = .ok (.invokestatic 201, 3) := by decide +kernel
theorem dL_law_277 : decode cL_law 277 = .ok (.iconst 1, 1) := by decide +kernel
theorem dL_law_278 : decode cL_law 278 = .ok (.if_icmp .ne 72, 3) := by decide +kernel
theorem dL_law_281 : decode cL_law 281 = .ok (.aload_n 1, 1) := by decide +kernel
theorem dL_law_282 : decode cL_law 282 = .ok (.invokevirtual 161, 3) := by decide +kernel
theorem dL_law_285 : decode cL_law 285 = .ok (.bipush 51, 2) := by decide +kernel
theorem dL_law_287 : decode cL_law 287 = .ok (.if_icmp .ne 63, 3) := by decide +kernel
theorem dL_law_290 : decode cL_law 290 = .ok (.aload_n 1, 1) := by decide +kernel
theorem dL_law_291 : decode cL_law 291 = .ok (.iconst 3, 1) := by decide +kernel
theorem dL_law_292 : decode cL_law 292 = .ok (.iconst 5, 1) := by decide +kernel
theorem dL_law_293 : decode cL_law 293 = .ok (.invokestatic 219, 3) := by decide +kernel
theorem dL_law_296 : decode cL_law 296 = .ok (.bipush (-2), 2) := by decide +kernel
theorem dL_law_298 : decode cL_law 298 = .ok (.if_icmp .ne 52, 3) := by decide +kernel
theorem dL_law_301 : decode cL_law 301 = .ok (.aload_n 1, 1) := by decide +kernel
theorem dL_law_302 : decode cL_law 302 = .ok (.iconst 3, 1) := by decide +kernel
theorem dL_law_303 : decode cL_law 303 = .ok (.iconst 2, 1) := by decide +kernel
theorem dL_law_304 : decode cL_law 304 = .ok (.invokestatic 219, 3) := by decide +kernel
theorem dL_law_307 : decode cL_law 307 = .ok (.bipush 20, 2) := by decide +kernel
theorem dL_law_309 : decode cL_law 309 = .ok (.if_icmp .ne 41, 3) := by decide +kernel
theorem dL_law_312 : decode cL_law 312 = .ok (.aload_n 1, 1) := by decide +kernel
theorem dL_law_313 : decode cL_law 313 = .ok (.bipush 99, 2) := by decide +kernel
theorem dL_law_315 : decode cL_law 315 = .ok (.iconst 3, 1) := by decide +kernel
theorem dL_law_316 : decode cL_law 316 = .ok (.iconst 0, 1) := by decide +kernel
theorem dL_law_317 : decode cL_law 317 = .ok (.bipush 11, 2) := by decide +kernel
theorem dL_law_319 : decode cL_law 319 = .ok (.iconst 1, 1) := by decide +kernel
theorem dL_law_320 : decode cL_law 320 = .ok (.bipush 9, 2) := by decide +kernel
theorem dL_law_322 : decode cL_law 322 = .ok (.invokestatic 148, 3) := by decide +kernel
theorem dL_law_325 : decode cL_law 325 = .ok (.bipush (-4), 2) := by decide +kernel
theorem dL_law_327 : decode cL_law 327 = .ok (.if_icmp .ne 23, 3) := by decide +kernel
theorem dL_law_330 : decode cL_law 330 = .ok (.aload_n 1, 1) := by decide +kernel
theorem dL_law_331 : decode cL_law 331 = .ok (.iconst 1, 1) := by decide +kernel
theorem dL_law_332 : decode cL_law 332 = .ok (.invokestatic 213, 3) := by decide +kernel
theorem dL_law_335 : decode cL_law 335 = .ok (.iconst 2, 1) := by decide +kernel
theorem dL_law_336 : decode cL_law 336 = .ok (.if_icmp .ne 14, 3) := by decide +kernel
theorem dL_law_339 : decode cL_law 339 = .ok (.aload_n 1, 1) := by decide +kernel
theorem dL_law_340 : decode cL_law 340 = .ok (.invokevirtual 174, 3) := by decide +kernel
theorem dL_law_343 : decode cL_law 343 = .ok (.ldc2_w 255, 3) := by decide +kernel
theorem dL_law_346 : decode cL_law 346 = .ok (.lcmp, 1) := by decide +kernel
theorem dL_law_347 : decode cL_law 347 = .ok (.ifCond .eq 5, 3) := by decide +kernel
theorem dL_law_350 : decode cL_law 350 = .ok (.iconst 0, 1) := by decide +kernel
theorem dL_law_351 : decode cL_law 351 = .ok (.ireturn, 1) := by decide +kernel
theorem dL_law_352 : decode cL_law 352 = .ok (.iconst 0, 1) := by decide +kernel
theorem dL_law_353 : decode cL_law 353 = .ok (.istore 4, 2) := by decide +kernel
theorem dL_law_355 : decode cL_law 355 = .ok (.iload 4, 2) := by decide +kernel
theorem dL_law_357 : decode cL_law 357 = .ok (.bipush 18, 2) := by decide +kernel
theorem dL_law_359 : decode cL_law 359 = .ok (.if_icmp .ge 148, 3) := by decide +kernel
theorem dL_law_362 : decode cL_law 362 = .ok (.aload_n 0, 1) := by decide +kernel
theorem dL_law_363 : decode cL_law 363 = .ok (.iload_n 2, 1) := by decide +kernel
theorem dL_law_364 : decode cL_law 364 = .ok (.invokestatic 257, 3) := by decide +kernel
theorem dL_law_367 : decode cL_law 367 = .ok (.sipush 255, 3) := by decide +kernel
theorem dL_law_370 : decode cL_law 370 = .ok (.iand, 1) := by decide +kernel
theorem dL_law_371 : decode cL_law 371 = .ok (.istore 5, 2) := by decide +kernel
theorem dL_law_373 : decode cL_law 373 = .ok (.new 124, 3) := by decide +kernel
theorem dL_law_376 : decode cL_law 376 = .ok (.dup, 1) := by decide +kernel
theorem dL_law_377 : decode cL_law 377 = .ok (.aload_n 0, 1) := by decide +kernel
theorem dL_law_378 : decode cL_law 378 = .ok (.iload_n 2, 1) := by decide +kernel
theorem dL_law_379 : decode cL_law 379 = .ok (.iconst 1, 1) := by decide +kernel
theorem dL_law_380 : decode cL_law 380 = .ok (.iadd, 1) := by decide +kernel
theorem dL_law_381 : decode cL_law 381 = .ok (.invokestatic 257, 3) := by decide +kernel
theorem dL_law_384 : decode cL_law 384 = .ok (.invokespecial 261, 3) := by decide +kernel
theorem dL_law_387 : decode cL_law 387 = .ok (.astore 6, 2) := by decide +kernel
theorem dL_law_389 : decode cL_law 389 = .ok (.iinc 2 2, 3) := by decide +kernel
theorem dL_law_392 : decode cL_law 392 = .ok (.aload_n 1, 1) := by decide +kernel
theorem dL_law_393 : decode cL_law 393 = .ok (.invokestatic 264, 3) := by decide +kernel
theorem dL_law_396 : decode cL_law 396 = .ok (.astore 7, 2) := by decide +kernel
theorem dL_law_398 : decode cL_law 398 = .ok (.aload_n 1, 1) := by decide +kernel
theorem dL_law_399 : decode cL_law 399 = .ok (.iload 5, 2) := by decide +kernel
theorem dL_law_401 : decode cL_law 401 = .ok (.aload 6, 2) := by decide +kernel
theorem dL_law_403 : decode cL_law 403 = .ok (.invokestatic 267, 3) := by decide +kernel
theorem dL_law_406 : decode cL_law 406 = .ok (.istore 8, 2) := by decide +kernel
theorem dL_law_408 : decode cL_law 408 = .ok (.iload 8, 2) := by decide +kernel
theorem dL_law_410 : decode cL_law 410 = .ok (.ifCond .ge 17, 3) := by decide +kernel
theorem dL_law_413 : decode cL_law 413 = .ok (.aload 7, 2) := by decide +kernel
theorem dL_law_415 : decode cL_law 415 = .ok (.aload_n 1, 1) := by decide +kernel
theorem dL_law_416 : decode cL_law 416 = .ok (.invokestatic 264, 3) := by decide +kernel
theorem dL_law_419 : decode cL_law 419 = .ok (.invokevirtual 271, 3) := by decide +kernel
theorem dL_law_422 : decode cL_law 422 = .ok (.ifCond .ne 5, 3) := by decide +kernel
theorem dL_law_425 : decode cL_law 425 = .ok (.iconst 0, 1) := by decide +kernel
theorem dL_law_426 : decode cL_law 426 = .ok (.ireturn, 1) := by decide +kernel
theorem dL_law_427 : decode cL_law 427 = .ok (.iload 4, 2) := by decide +kernel
theorem dL_law_429 : decode cL_law 429 = .ok (.iconst 4, 1) := by decide +kernel
theorem dL_law_430 : decode cL_law 430 = .ok (.irem, 1) := by decide +kernel
theorem dL_law_431 : decode cL_law 431 = .ok (.iconst 3, 1) := by decide +kernel
theorem dL_law_432 : decode cL_law 432 = .ok (.if_icmp .ne 50, 3) := by decide +kernel
theorem dL_law_435 : decode cL_law 435 = .ok (.aload_n 1, 1) := by decide +kernel
theorem dL_law_436 : decode cL_law 436 = .ok (.aload 6, 2) := by decide +kernel
theorem dL_law_438 : decode cL_law 438 = .ok (.iconst 4, 1) := by decide +kernel
theorem dL_law_439 : decode cL_law 439 = .ok (.invokevirtual 123, 3) := by decide +kernel
theorem dL_law_442 : decode cL_law 442 = .ok (.invokestatic 277, 3) := by decide +kernel
theorem dL_law_445 : decode cL_law 445 = .ok (.ifCond .eq 54, 3) := by decide +kernel
theorem dL_law_448 : decode cL_law 448 = .ok (.aload_n 1, 1) := by decide +kernel
theorem dL_law_449 : decode cL_law 449 = .ok (.aload 6, 2) := by decide +kernel
theorem dL_law_451 : decode cL_law 451 = .ok (.bipush 20, 2) := by decide +kernel
theorem dL_law_453 : decode cL_law 453 = .ok (.invokevirtual 123, 3) := by decide +kernel
theorem dL_law_456 : decode cL_law 456 = .ok (.aload 6, 2) := by decide +kernel
theorem dL_law_458 : decode cL_law 458 = .ok (.iconst 4, 1) := by decide +kernel
theorem dL_law_459 : decode cL_law 459 = .ok (.invokevirtual 123, 3) := by decide +kernel
theorem dL_law_462 : decode cL_law 462 = .ok (.aload 6, 2) := by decide +kernel
theorem dL_law_464 : decode cL_law 464 = .ok (.bipush 24, 2) := by decide +kernel
theorem dL_law_466 : decode cL_law 466 = .ok (.invokevirtual 123, 3) := by decide +kernel
theorem dL_law_469 : decode cL_law 469 = .ok (.invokestatic 281, 3) := by decide +kernel
theorem dL_law_472 : decode cL_law 472 = .ok (.ifCond .eq 27, 3) := by decide +kernel
theorem dL_law_475 : decode cL_law 475 = .ok (.aload_n 1, 1) := by decide +kernel
theorem dL_law_476 : decode cL_law 476 = .ok (.invokestatic 284, 3) := by decide +kernel
theorem dL_law_479 : decode cL_law 479 = .ok (.ifCond .eq 20, 3) := by decide +kernel
theorem dL_law_482 : decode cL_law 482 = .ok (.iload 4, 2) := by decide +kernel
theorem dL_law_484 : decode cL_law 484 = .ok (.bipush 9, 2) := by decide +kernel
theorem dL_law_486 : decode cL_law 486 = .ok (.irem, 1) := by decide +kernel
theorem dL_law_487 : decode cL_law 487 = .ok (.bipush 8, 2) := by decide +kernel
theorem dL_law_489 : decode cL_law 489 = .ok (.if_icmp .ne 12, 3) := by decide +kernel
theorem dL_law_492 : decode cL_law 492 = .ok (.aload_n 1, 1) := by decide +kernel
theorem dL_law_493 : decode cL_law 493 = .ok (.invokestatic 288, 3) := by decide +kernel
theorem dL_law_496 : decode cL_law 496 = .ok (.ifCond .ne 5, 3) := by decide +kernel
theorem dL_law_499 : decode cL_law 499 = .ok (.iconst 0, 1) := by decide +kernel
theorem dL_law_500 : decode cL_law 500 = .ok (.ireturn, 1) := by decide +kernel
theorem dL_law_501 : decode cL_law 501 = .ok (.iinc 4 1, 3) := by decide +kernel
theorem dL_law_504 : decode cL_law 504 = .ok (.goto (-149), 3) := by decide +kernel
theorem dL_law_507 : decode cL_law 507 = .ok (.iconst 1, 1) := by decide +kernel
theorem dL_law_508 : decode cL_law 508 = .ok (.ireturn, 1) := by decide +kernel
