theorem dJ2_putCharsAt_cd4e5_57 : decode cJ2_putCharsAt_cd4e5 57 = .ok (.iload 6, 2) := by decide +kernel
theorem dJ2_putCharsAt_cd4e5_59 : decode cJ2_putCharsAt_cd4e5 59 = .ok (.if_icmp .eq 11, 3) := by decide +kernel
theorem dJ2_putCharsAt_cd4e5_62 : decode cJ2_putCharsAt_cd4e5 62 = .ok (.new 52, 3) := by decide +kernel
theorem dJ2_putCharsAt_cd4e5_65 : decode cJ2_putCharsAt_cd4e5 65 = .ok (.dup, 1) := by decide +kernel
theorem dJ2_putCharsAt_cd4e5_66 : decode cJ2_putCharsAt_cd4e5 66 = .ok (.invokespecial 66, 3) := by decide +kernel
theorem dJ2_putCharsAt_cd4e5_69 : decode cJ2_putCharsAt_cd4e5 69 = .ok (.athrow, 1) := by decide +kernel
theorem dJ2_putCharsAt_cd4e5_70 : decode cJ2_putCharsAt_cd4e5 70 = .ok (.iload 6, 2) := by decide +kernel
theorem dJ2_putCharsAt_cd4e5_72 : decode cJ2_putCharsAt_cd4e5 72 = .ok (.ireturn, 1) := by decide +kernel
theorem dJ2_charAt_3b067_0 : decode cJ2_charAt_3b067 0 = .ok (.iload_n 1, 1) := by decide +kernel
theorem dJ2_charAt_3b067_1 : decode cJ2_charAt_3b067 1 = .ok (.aload_n 0, 1) := by decide +kernel
theorem dJ2_charAt_3b067_2 : decode cJ2_charAt_3b067 2 = .ok (.invokestatic 67, 3) := by decide +kernel
theorem dJ2_charAt_3b067_5 : decode cJ2_charAt_3b067 5 = .ok (.aload_n 0, 1) := by decide +kernel
theorem dJ2_charAt_3b067_6 : decode cJ2_charAt_3b067 6 = .ok (.iload_n 1, 1) := by decide +kernel
theorem dJ2_charAt_3b067_7 : decode cJ2_charAt_3b067 7 = .ok (.invokestatic 71, 3) := by decide +kernel
theorem dJ2_charAt_3b067_10 : decode cJ2_charAt_3b067 10 = .ok (.ireturn, 1) := by decide +kernel
theorem dJ2_inflate_0e8fd_0 : decode cJ2_inflate_0e8fd 0 = .ok (.iload_n 3, 1) := by decide +kernel
theorem dJ2_inflate_0e8fd_1 : decode cJ2_inflate_0e8fd 1 = .ok (.iload 4, 2) := by decide +kernel
theorem dJ2_inflate_0e8fd_3 : decode cJ2_inflate_0e8fd 3 = .ok (.aload_n 2, 1) := by decide +kernel
theorem dJ2_inflate_0e8fd_4 : decode cJ2_inflate_0e8fd 4 = .ok (.invokestatic 173, 3) := by decide +kernel
theorem dJ2_inflate_0e8fd_7 : decode cJ2_inflate_0e8fd 7 = .ok (.iconst 0, 1) := by decide +kernel
theorem dJ2_inflate_0e8fd_8 : decode cJ2_inflate_0e8fd 8 = .ok (.istore 5, 2) := by decide +kernel
theorem dJ2_inflate_0e8fd_10 : decode cJ2_inflate_0e8fd 10 = .ok (.iload 5, 2) := by decide +kernel
theorem dJ2_inflate_0e8fd_12 : decode cJ2_inflate_0e8fd 12 = .ok (.iload 4, 2) := by decide +kernel
theorem dJ2_inflate_0e8fd_14 : decode cJ2_inflate_0e8fd 14 = .ok (.if_icmp .ge 27, 3) := by decide +kernel
theorem dJ2_inflate_0e8fd_17 : decode cJ2_inflate_0e8fd 17 = .ok (.aload_n 2, 1) := by decide +kernel
theorem dJ2_inflate_0e8fd_18 : decode cJ2_inflate_0e8fd 18 = .ok (.iload_n 3, 1) := by decide +kernel
theorem dJ2_inflate_0e8fd_19 : decode cJ2_inflate_0e8fd 19 = .ok (.iinc 3 1, 3) := by decide +kernel
theorem dJ2_inflate_0e8fd_22 : decode cJ2_inflate_0e8fd 22 = .ok (.aload_n 0, 1) := by decide +kernel
theorem dJ2_inflate_0e8fd_23 : decode cJ2_inflate_0e8fd 23 = .ok (.iload_n 1, 1) := by decide +kernel
theorem dJ2_inflate_0e8fd_24 : decode cJ2_inflate_0e8fd 24 = .ok (.iinc 1 1, 3) := by decide +kernel
theorem dJ2_inflate_0e8fd_27 : decode cJ2_inflate_0e8fd 27 = .ok (.baload, 1) := by decide +kernel
theorem dJ2_inflate_0e8fd_28 : decode cJ2_inflate_0e8fd 28 = .ok (.sipush 255, 3) := by decide +kernel
theorem dJ2_inflate_0e8fd_31 : decode cJ2_inflate_0e8fd 31 = .ok (.iand, 1) := by decide +kernel
theorem dJ2_inflate_0e8fd_32 : decode cJ2_inflate_0e8fd 32 = .ok (.invokestatic 111, 3) := by decide +kernel
theorem dJ2_inflate_0e8fd_35 : decode cJ2_inflate_0e8fd 35 = .ok (.iinc 5 1, 3) := by decide +kernel
theorem dJ2_inflate_0e8fd_38 : decode cJ2_inflate_0e8fd 38 = .ok (.goto (-28), 3) := by decide +kernel
theorem dJ2_inflate_0e8fd_41 : decode cJ2_inflate_0e8fd 41 = .ok (.return_, 1) := by decide +kernel
theorem dJ2_getChars_ba4f3_0 : decode cJ2_getChars_ba4f3 0 = .ok (.iload_n 1, 1) := by decide +kernel
theorem dJ2_getChars_ba4f3_1 : decode cJ2_getChars_ba4f3 1 = .ok (.istore 5, 2) := by decide +kernel
theorem dJ2_getChars_ba4f3_3 : decode cJ2_getChars_ba4f3 3 = .ok (.iload_n 0, 1) := by decide +kernel
theorem dJ2_getChars_ba4f3_4 : decode cJ2_getChars_ba4f3 4 = .ok (.ifCond .ge 7, 3) := by decide +kernel
theorem dJ2_getChars_ba4f3_7 : decode cJ2_getChars_ba4f3 7 = .ok (.iconst 1, 1) := by decide +kernel
theorem dJ2_getChars_ba4f3_8 : decode cJ2_getChars_ba4f3 8 = .ok (.goto 4, 3) := by decide +kernel
theorem dJ2_getChars_ba4f3_11 : decode cJ2_getChars_ba4f3 11 = .ok (.iconst 0, 1) := by decide +kernel
theorem dJ2_getChars_ba4f3_12 : decode cJ2_getChars_ba4f3 12 = .ok (.istore 6, 2) := by decide +kernel
theorem dJ2_getChars_ba4f3_14 : decode cJ2_getChars_ba4f3 14 = .ok (.iload 6, 2) := by decide +kernel
theorem dJ2_getChars_ba4f3_16 : decode cJ2_getChars_ba4f3 16 = .ok (.ifCond .ne 6, 3) := by decide +kernel
theorem dJ2_getChars_ba4f3_19 : decode cJ2_getChars_ba4f3 19 = .ok (.iload_n 0, 1) := by decide +kernel
theorem dJ2_getChars_ba4f3_20 : decode cJ2_getChars_ba4f3 20 = .ok (.ineg, 1) := by decide +kernel
theorem dJ2_getChars_ba4f3_21 : decode cJ2_getChars_ba4f3 21 = .ok (.istore_n 0, 1) := by decide +kernel
theorem dJ2_getChars_ba4f3_22 : decode cJ2_getChars_ba4f3 22 = .ok (.iload_n 0, 1) := by decide +kernel
theorem dJ2_getChars_ba4f3_23 : decode cJ2_getChars_ba4f3 23 = .ok (.bipush (-100), 2) := by decide +kernel
theorem dJ2_getChars_ba4f3_25 : decode cJ2_getChars_ba4f3 25 = .ok (.if_icmp .gt 51, 3) := by decide +kernel
theorem dJ2_getChars_ba4f3_28 : decode cJ2_getChars_ba4f3 28 = .ok (.iload_n 0, 1) := by decide +kernel
theorem dJ2_getChars_ba4f3_29 : decode cJ2_getChars_ba4f3 29 = .ok (.bipush 100, 2) := by decide +kernel
theorem dJ2_getChars_ba4f3_31 : decode cJ2_getChars_ba4f3 31 = .ok (.idiv, 1) := by decide +kernel
theorem dJ2_getChars_ba4f3_32 : decode cJ2_getChars_ba4f3 32 = .ok (.istore_n 3, 1) := by decide +kernel
theorem dJ2_getChars_ba4f3_33 : decode cJ2_getChars_ba4f3 33 = .ok (.iload_n 3, 1) := by decide +kernel
theorem dJ2_getChars_ba4f3_34 : decode cJ2_getChars_ba4f3 34 = .ok (.bipush 100, 2) := by decide +kernel
theorem dJ2_getChars_ba4f3_36 : decode cJ2_getChars_ba4f3 36 = .ok (.imul, 1) := by decide +kernel
theorem dJ2_getChars_ba4f3_37 : decode cJ2_getChars_ba4f3 37 = .ok (.iload_n 0, 1) := by decide +kernel
theorem dJ2_getChars_ba4f3_38 : decode cJ2_getChars_ba4f3 38 = .ok (.isub, 1) := by decide +kernel
theorem dJ2_getChars_ba4f3_39 : decode cJ2_getChars_ba4f3 39 = .ok (.istore 4, 2) := by decide +kernel
theorem dJ2_getChars_ba4f3_41 : decode cJ2_getChars_ba4f3 41 = .ok (.iload_n 3, 1) := by decide +kernel
theorem dJ2_getChars_ba4f3_42 : decode cJ2_getChars_ba4f3 42 = .ok (.istore_n 0, 1) := by decide +kernel
theorem dJ2_getChars_ba4f3_43 : decode cJ2_getChars_ba4f3 43 = .ok (.aload_n 2, 1) := by decide +kernel
theorem dJ2_getChars_ba4f3_44 : decode cJ2_getChars_ba4f3 44 = .ok (.iinc 5 (-1), 3) := by decide +kernel
theorem dJ2_getChars_ba4f3_47 : decode cJ2_getChars_ba4f3 47 = .ok (.iload 5, 2) := by decide +kernel
theorem dJ2_getChars_ba4f3_49 : decode cJ2_getChars_ba4f3 49 = .ok (.getstatic 403, 3) := by decide +kernel
theorem dJ2_getChars_ba4f3_52 : decode cJ2_getChars_ba4f3 52 = .ok (.iload 4, 2) := by decide +kernel
theorem dJ2_getChars_ba4f3_54 : decode cJ2_getChars_ba4f3 54 = .ok (.baload, 1) := by decide +kernel
theorem dJ2_getChars_ba4f3_55 : decode cJ2_getChars_ba4f3 55 = .ok (.invokestatic 111, 3) := by decide +kernel
theorem dJ2_getChars_ba4f3_58 : decode cJ2_getChars_ba4f3 58 = .ok (.aload_n 2, 1) := by decide +kernel
theorem dJ2_getChars_ba4f3_59 : decode cJ2_getChars_ba4f3 59 = .ok (.iinc 5 (-1), 3) := by decide +kernel
theorem dJ2_getChars_ba4f3_62 : decode cJ2_getChars_ba4f3 62 = .ok (.iload 5, 2) := by decide +kernel
theorem dJ2_getChars_ba4f3_64 : decode cJ2_getChars_ba4f3 64 = .ok (.getstatic 407, 3) := by decide +kernel
theorem dJ2_getChars_ba4f3_67 : decode cJ2_getChars_ba4f3 67 = .ok (.iload 4, 2) := by decide +kernel
theorem dJ2_getChars_ba4f3_69 : decode cJ2_getChars_ba4f3 69 = .ok (.baload, 1) := by decide +kernel
theorem dJ2_getChars_ba4f3_70 : decode cJ2_getChars_ba4f3 70 = .ok (.invokestatic 111, 3) := by decide +kernel
theorem dJ2_getChars_ba4f3_73 : decode cJ2_getChars_ba4f3 73 = .ok (.goto (-51), 3) := by decide +kernel
theorem dJ2_getChars_ba4f3_76 : decode cJ2_getChars_ba4f3 76 = .ok (.aload_n 2, 1) := by decide +kernel
theorem dJ2_getChars_ba4f3_77 : decode cJ2_getChars_ba4f3 77 = .ok (.iinc 5 (-1), 3) := by decide +kernel
theorem dJ2_getChars_ba4f3_80 : decode cJ2_getChars_ba4f3 80 = .ok (.iload 5, 2) := by decide +kernel
theorem dJ2_getChars_ba4f3_82 : decode cJ2_getChars_ba4f3 82 = .ok (.getstatic 403, 3) := by decide +kernel
theorem dJ2_getChars_ba4f3_85 : decode cJ2_getChars_ba4f3 85 = .ok (.iload_n 0, 1) := by decide +kernel
theorem dJ2_getChars_ba4f3_86 : decode cJ2_getChars_ba4f3 86 = .ok (.ineg, 1) := by decide +kernel
theorem dJ2_getChars_ba4f3_87 : decode cJ2_getChars_ba4f3 87 = .ok (.baload, 1) := by decide +kernel
theorem dJ2_getChars_ba4f3_88 : decode cJ2_getChars_ba4f3 88 = .ok (.invokestatic 111, 3) := by decide +kernel
theorem dJ2_getChars_ba4f3_91 : decode cJ2_getChars_ba4f3 91 = .ok (.iload_n 0, 1) := by decide +kernel
theorem dJ2_getChars_ba4f3_92 : decode cJ2_getChars_ba4f3 92 = .ok (.bipush (-9), 2) := by decide +kernel
theorem dJ2_getChars_ba4f3_94 : decode cJ2_getChars_ba4f3 94 = .ok (.if_icmp .ge 18, 3) := by decide +kernel
theorem dJ2_getChars_ba4f3_97 : decode cJ2_getChars_ba4f3 97 = .ok (.aload_n 2, 1) := by decide +kernel
theorem dJ2_getChars_ba4f3_98 : decode cJ2_getChars_ba4f3 98 = .ok (.iinc 5 (-1), 3) := by decide +kernel
theorem dJ2_getChars_ba4f3_101 : decode cJ2_getChars_ba4f3 101 = .ok (.iload 5, 2) := by decide +kernel
theorem dJ2_getChars_ba4f3_103 : decode cJ2_getChars_ba4f3 103 = .ok (.getstatic 407, 3) := by decide +kernel
theorem dJ2_getChars_ba4f3_106 : decode cJ2_getChars_ba4f3 106 = .ok (.iload_n 0, 1) := by decide +kernel
theorem dJ2_getChars_ba4f3_107 : decode cJ2_getChars_ba4f3 107 = .ok (.ineg, 1) := by decide +kernel
theorem dJ2_getChars_ba4f3_108 : decode cJ2_getChars_ba4f3 108 = .ok (.baload, 1) := by decide +kernel
theorem dJ2_getChars_ba4f3_109 : decode cJ2_getChars_ba4f3 109 = .ok (.invokestatic 111, 3) := by decide +kernel
theorem dJ2_getChars_ba4f3_112 : decode cJ2_getChars_ba4f3 112 = .ok (.iload 6, 2) := by decide +kernel
theorem dJ2_getChars_ba4f3_114 : decode cJ2_getChars_ba4f3 114 = .ok (.ifCond .eq 14, 3) := by decide +kernel
theorem dJ2_getChars_ba4f3_117 : decode cJ2_getChars_ba4f3 117 = .ok (.aload_n 2, 1) := by decide +kernel
theorem dJ2_getChars_ba4f3_118 : decode cJ2_getChars_ba4f3 118 = .ok (.iinc 5 (-1), 3) := by decide +kernel
theorem dJ2_getChars_ba4f3_121 : decode cJ2_getChars_ba4f3 121 = .ok (.iload 5, 2) := by decide +kernel
theorem dJ2_getChars_ba4f3_123 : decode cJ2_getChars_ba4f3 123 = .ok (.bipush 45, 2) := by decide +kernel
theorem dJ2_getChars_ba4f3_125 : decode cJ2_getChars_ba4f3 125 = .ok (.invokestatic 111, 3) := by decide +kernel
theorem dJ2_getChars_ba4f3_128 : decode cJ2_getChars_ba4f3 128 = .ok (.iload 5, 2) := by decide +kernel
theorem dJ2_getChars_ba4f3_130 : decode cJ2_getChars_ba4f3 130 = .ok (.ireturn, 1) := by decide +kernel
theorem dJ2_getChars_11360_0 : decode cJ2_getChars_11360 0 = .ok (.iload_n 2, 1) := by decide +kernel
theorem dJ2_getChars_11360_1 : decode cJ2_getChars_11360 1 = .ok (.istore 7, 2) := by decide +kernel
theorem dJ2_getChars_11360_3 : decode cJ2_getChars_11360 3 = .ok (.lload_n 0, 1) := by decide +kernel
theorem dJ2_getChars_11360_4 : decode cJ2_getChars_11360 4 = .ok (.lconst 0, 1) := by decide +kernel
theorem dJ2_getChars_11360_5 : decode cJ2_getChars_11360 5 = .ok (.lcmp, 1) := by decide +kernel
theorem dJ2_getChars_11360_6 : decode cJ2_getChars_11360 6 = .ok (.ifCond .ge 7, 3) := by decide +kernel
theorem dJ2_getChars_11360_9 : decode cJ2_getChars_11360 9 = .ok (.iconst 1, 1) := by decide +kernel
theorem dJ2_getChars_11360_10 : decode cJ2_getChars_11360 10 = .ok (.goto 4, 3) := by decide +kernel
theorem dJ2_getChars_11360_13 : decode cJ2_getChars_11360 13 = .ok (.iconst 0, 1) := by decide +kernel
theorem dJ2_getChars_11360_14 : decode cJ2_getChars_11360 14 = .ok (.istore 8, 2) := by decide +kernel
theorem dJ2_getChars_11360_16 : decode cJ2_getChars_11360 16 = .ok (.iload 8, 2) := by decide +kernel
theorem dJ2_getChars_11360_18 : decode cJ2_getChars_11360 18 = .ok (.ifCond .ne 6, 3) := by decide +kernel
theorem dJ2_getChars_11360_21 : decode cJ2_getChars_11360 21 = .ok (.lload_n 0, 1) := by decide +kernel
theorem dJ2_getChars_11360_22 : decode cJ2_getChars_11360 22 = .ok (.lneg, 1) := by decide +kernel
theorem dJ2_getChars_11360_23 : decode cJ2_getChars_11360 23 = .ok (.lstore_n 0, 1) := by decide +kernel
theorem dJ2_getChars_11360_24 : decode cJ2_getChars_11360 24 = .ok (.lload_n 0, 1) := by decide +kernel
theorem dJ2_getChars_11360_25 : decode cJ2_getChars_11360 25 = .ok (.ldc2_w 410, 3) := by decide +kernel
theorem dJ2_getChars_11360_28 : decode cJ2_getChars_11360 28 = .ok (.lcmp, 1) := by decide +kernel
theorem dJ2_getChars_11360_29 : decode cJ2_getChars_11360 29 = .ok (.ifCond .gt 57, 3) := by decide +kernel
theorem dJ2_getChars_11360_32 : decode cJ2_getChars_11360 32 = .ok (.lload_n 0, 1) := by decide +kernel
theorem dJ2_getChars_11360_33 : decode cJ2_getChars_11360 33 = .ok (.ldc2_w 412, 3) := by decide +kernel
theorem dJ2_getChars_11360_36 : decode cJ2_getChars_11360 36 = .ok (.ldiv, 1) := by decide +kernel
theorem dJ2_getChars_11360_37 : decode cJ2_getChars_11360 37 = .ok (.lstore 4, 2) := by decide +kernel
theorem dJ2_getChars_11360_39 : decode cJ2_getChars_11360 39 = .ok (.lload 4, 2) := by decide +kernel
theorem dJ2_getChars_11360_41 : decode cJ2_getChars_11360 41 = .ok (.ldc2_w 412, 3) := by decide +kernel
theorem dJ2_getChars_11360_44 : decode cJ2_getChars_11360 44 = .ok (.lmul, 1) := by decide +kernel
theorem dJ2_getChars_11360_45 : decode cJ2_getChars_11360 45 = .ok (.lload_n 0, 1) := by decide +kernel
theorem dJ2_getChars_11360_46 : decode cJ2_getChars_11360 46 = .ok (.lsub, 1) := by decide +kernel
theorem dJ2_getChars_11360_47 : decode cJ2_getChars_11360 47 = .ok (.l2i, 1) := by decide +kernel
theorem dJ2_getChars_11360_48 : decode cJ2_getChars_11360 48 = .ok (.istore 6, 2) := by decide +kernel
theorem dJ2_getChars_11360_50 : decode cJ2_getChars_11360 50 = .ok (.lload 4, 2) := by decide +kernel
theorem dJ2_getChars_11360_52 : decode cJ2_getChars_11360 52 = .ok (.lstore_n 0, 1) := by decide +kernel
theorem dJ2_getChars_11360_53 : decode cJ2_getChars_11360 53 = .ok (.aload_n 3, 1) := by decide +kernel
theorem dJ2_getChars_11360_54 : decode cJ2_getChars_11360 54 = .ok (.iinc 7 (-1), 3) := by decide +kernel
theorem dJ2_getChars_11360_57 : decode cJ2_getChars_11360 57 = .ok (.iload 7, 2) := by decide +kernel
theorem dJ2_getChars_11360_59 : decode cJ2_getChars_11360 59 = .ok (.getstatic 403, 3) := by decide +kernel
theorem dJ2_getChars_11360_62 : decode cJ2_getChars_11360 62 = .ok (.iload 6, 2) := by decide +kernel
theorem dJ2_getChars_11360_64 : decode cJ2_getChars_11360 64 = .ok (.baload, 1) := by decide +kernel
theorem dJ2_getChars_11360_65 : decode cJ2_getChars_11360 65 = .ok (.invokestatic 111, 3) := by decide +kernel
theorem dJ2_getChars_11360_68 : decode cJ2_getChars_11360 68 = .ok (.aload_n 3, 1) := by decide +kernel
theorem dJ2_getChars_11360_69 : decode cJ2_getChars_11360 69 = .ok (.iinc 7 (-1), 3) := by decide +kernel
theorem dJ2_getChars_11360_72 : decode cJ2_getChars_11360 72 = .ok (.iload 7, 2) := by decide +kernel
theorem dJ2_getChars_11360_74 : decode cJ2_getChars_11360 74 = .ok (.getstatic 407, 3) := by decide +kernel
theorem dJ2_getChars_11360_77 : decode cJ2_getChars_11360 77 = .ok (.iload 6, 2) := by decide +kernel
theorem dJ2_getChars_11360_79 : decode cJ2_getChars_11360 79 = .ok (.baload, 1) := by decide +kernel
theorem dJ2_getChars_11360_80 : decode cJ2_getChars_11360 80 = .ok (.invokestatic 111, 3) := by decide +kernel
theorem dJ2_getChars_11360_83 : decode cJ2_getChars_11360 83 = .ok (.goto (-59), 3) := by decide +kernel
theorem dJ2_getChars_11360_86 : decode cJ2_getChars_11360 86 = .ok (.lload_n 0, 1) := by decide +kernel
theorem dJ2_getChars_11360_87 : decode cJ2_getChars_11360 87 = .ok (.l2i, 1) := by decide +kernel
theorem dJ2_getChars_11360_88 : decode cJ2_getChars_11360 88 = .ok (.istore 10, 2) := by decide +kernel
theorem dJ2_getChars_11360_90 : decode cJ2_getChars_11360 90 = .ok (.iload 10, 2) := by decide +kernel
theorem dJ2_getChars_11360_92 : decode cJ2_getChars_11360 92 = .ok (.bipush (-100), 2) := by decide +kernel
theorem dJ2_getChars_11360_94 : decode cJ2_getChars_11360 94 = .ok (.if_icmp .gt 57, 3) := by decide +kernel
theorem dJ2_getChars_11360_97 : decode cJ2_getChars_11360 97 = .ok (.iload 10, 2) := by decide +kernel
theorem dJ2_getChars_11360_99 : decode cJ2_getChars_11360 99 = .ok (.bipush 100, 2) := by decide +kernel
theorem dJ2_getChars_11360_101 : decode cJ2_getChars_11360 101 = .ok (.idiv, 1) := by decide +kernel
theorem dJ2_getChars_11360_102 : decode cJ2_getChars_11360 102 = .ok (.istore 9, 2) := by decide +kernel
theorem dJ2_getChars_11360_104 : decode cJ2_getChars_11360 104 = .ok (.iload 9, 2) := by decide +kernel
theorem dJ2_getChars_11360_106 : decode cJ2_getChars_11360 106 = .ok (.bipush 100, 2) := by decide +kernel
theorem dJ2_getChars_11360_108 : decode cJ2_getChars_11360 108 = .ok (.imul, 1) := by decide +kernel
theorem dJ2_getChars_11360_109 : decode cJ2_getChars_11360 109 = .ok (.iload 10, 2) := by decide +kernel
theorem dJ2_getChars_11360_111 : decode cJ2_getChars_11360 111 = .ok (.isub, 1) := by decide +kernel
theorem dJ2_getChars_11360_112 : decode cJ2_getChars_11360 112 = .ok (.istore 6, 2) := by decide +kernel
theorem dJ2_getChars_11360_114 : decode cJ2_getChars_11360 114 = .ok (.iload 9, 2) := by decide +kernel
theorem dJ2_getChars_11360_116 : decode cJ2_getChars_11360 116 = .ok (.istore 10, 2) := by decide +kernel
theorem dJ2_getChars_11360_118 : decode cJ2_getChars_11360 118 = .ok (.aload_n 3, 1) := by decide +kernel
theorem dJ2_getChars_11360_119 : decode cJ2_getChars_11360 119 = .ok (.iinc 7 (-1), 3) := by decide +kernel
theorem dJ2_getChars_11360_122 : decode cJ2_getChars_11360 122 = .ok (.iload 7, 2) := by decide +kernel
theorem dJ2_getChars_11360_124 : decode cJ2_getChars_11360 124 = .ok (.getstatic 403, 3) := by decide +kernel
theorem dJ2_getChars_11360_127 : decode cJ2_getChars_11360 127 = .ok (.iload 6, 2) := by decide +kernel
theorem dJ2_getChars_11360_129 : decode cJ2_getChars_11360 129 = .ok (.baload, 1) := by decide +kernel
theorem dJ2_getChars_11360_130 : decode cJ2_getChars_11360 130 = .ok (.invokestatic 111, 3) := by decide +kernel
theorem dJ2_getChars_11360_133 : decode cJ2_getChars_11360 133 = .ok (.aload_n 3, 1) := by decide +kernel
theorem dJ2_getChars_11360_134 : decode cJ2_getChars_11360 134 = .ok (.iinc 7 (-1), 3) := by decide +kernel
theorem dJ2_getChars_11360_137 : decode cJ2_getChars_11360 137 = .ok (.iload 7, 2) := by decide +kernel
theorem dJ2_getChars_11360_139 : decode cJ2_getChars_11360 139 = .ok (.getstatic 407, 3) := by decide +kernel
theorem dJ2_getChars_11360_142 : decode cJ2_getChars_11360 142 = .ok (.iload 6, 2) := by decide +kernel
theorem dJ2_getChars_11360_144 : decode cJ2_getChars_11360 144 = .ok (.baload, 1) := by decide +kernel
theorem dJ2_getChars_11360_145 : decode cJ2_getChars_11360 145 = .ok (.invokestatic 111, 3) := by decide +kernel
theorem dJ2_getChars_11360_148 : decode cJ2_getChars_11360 148 = .ok (.goto (-58), 3) := by decide +kernel
theorem dJ2_getChars_11360_151 : decode cJ2_getChars_11360 151 = .ok (.aload_n 3, 1) := by decide +kernel
theorem dJ2_getChars_11360_152 : decode cJ2_getChars_11360 152 = .ok (.iinc 7 (-1), 3) := by decide +kernel
theorem dJ2_getChars_11360_155 : decode cJ2_getChars_11360 155 = .ok (.iload 7, 2) := by decide +kernel
theorem dJ2_getChars_11360_157 : decode cJ2_getChars_11360 157 = .ok (.getstatic 403, 3) := by decide +kernel
theorem dJ2_getChars_11360_160 : decode cJ2_getChars_11360 160 = .ok (.iload 10, 2) := by decide +kernel
theorem dJ2_getChars_11360_162 : decode cJ2_getChars_11360 162 = .ok (.ineg, 1) := by decide +kernel
theorem dJ2_getChars_11360_163 : decode cJ2_getChars_11360 163 = .ok (.baload, 1) := by decide +kernel
theorem dJ2_getChars_11360_164 : decode cJ2_getChars_11360 164 = .ok (.invokestatic 111, 3) := by decide +kernel
theorem dJ2_getChars_11360_167 : decode cJ2_getChars_11360 167 = .ok (.iload 10, 2) := by decide +kernel
theorem dJ2_getChars_11360_169 : decode cJ2_getChars_11360 169 = .ok (.bipush (-9), 2) := by decide +kernel
theorem dJ2_getChars_11360_171 : decode cJ2_getChars_11360 171 = .ok (.if_icmp .ge 19, 3) := by decide +kernel
theorem dJ2_getChars_11360_174 : decode cJ2_getChars_11360 174 = .ok (.aload_n 3, 1) := by decide +kernel
theorem dJ2_getChars_11360_175 : decode cJ2_getChars_11360 175 = .ok (.iinc 7 (-1), 3) := by decide +kernel
theorem dJ2_getChars_11360_178 : decode cJ2_getChars_11360 178 = .ok (.iload 7, 2) := by decide +kernel
theorem dJ2_getChars_11360_180 : decode cJ2_getChars_11360 180 = .ok (.getstatic 407, 3) := by decide +kernel
theorem dJ2_getChars_11360_183 : decode cJ2_getChars_11360 183 = .ok (.iload 10, 2) := by decide +kernel
theorem dJ2_getChars_11360_185 : decode cJ2_getChars_11360 185 = .ok (.ineg, 1) := by decide +kernel
theorem dJ2_getChars_11360_186 : decode cJ2_getChars_11360 186 = .ok (.baload, 1) := by decide +kernel
theorem dJ2_getChars_11360_187 : decode cJ2_getChars_11360 187 = .ok (.invokestatic 111, 3) := by decide +kernel
theorem dJ2_getChars_11360_190 : decode cJ2_getChars_11360 190 = .ok (.iload 8, 2) := by decide +kernel
theorem dJ2_getChars_11360_192 : decode cJ2_getChars_11360 192 = .ok (.ifCond .eq 14, 3) := by decide +kernel
theorem dJ2_getChars_11360_195 : decode cJ2_getChars_11360 195 = .ok (.aload_n 3, 1) := by decide +kernel
theorem dJ2_getChars_11360_196 : decode cJ2_getChars_11360 196 = .ok (.iinc 7 (-1), 3) := by decide +kernel
theorem dJ2_getChars_11360_199 : decode cJ2_getChars_11360 199 = .ok (.iload 7, 2) := by decide +kernel
theorem dJ2_getChars_11360_201 : decode cJ2_getChars_11360 201 = .ok (.bipush 45, 2) := by decide +kernel
theorem dJ2_getChars_11360_203 : decode cJ2_getChars_11360 203 = .ok (.invokestatic 111, 3) := by decide +kernel
theorem dJ2_getChars_11360_206 : decode cJ2_getChars_11360 206 = .ok (.iload 7, 2) := by decide +kernel
theorem dJ2_getChars_11360_208 : decode cJ2_getChars_11360 208 = .ok (.ireturn, 1) := by decide +kernel
theorem dJ2_checkIndex_2214a_0 : decode cJ2_checkIndex_2214a 0 = .ok (.iload_n 0, 1) := by decide +kernel
theorem dJ2_checkIndex_2214a_1 : decode cJ2_checkIndex_2214a 1 = .ok (.aload_n 1, 1) := by decide +kernel
theorem dJ2_checkIndex_2214a_2 : decode cJ2_checkIndex_2214a 2 = .ok (.invokestatic 48, 3) := by decide +kernel
theorem dJ2_checkIndex_2214a_5 : decode cJ2_checkIndex_2214a 5 = .ok (.invokestatic 414, 3) := by decide +kernel
theorem dJ2_checkIndex_2214a_8 : decode cJ2_checkIndex_2214a 8 = .ok (.return_, 1) := by decide +kernel
theorem dJ2_checkBoundsBeginEnd_d044e_0 : decode cJ2_checkBoundsBeginEnd_d044e 0 = .ok (.iload_n 0, 1) := by decide +kernel
theorem dJ2_checkBoundsBeginEnd_d044e_1 : decode cJ2_checkBoundsBeginEnd_d044e 1 = .ok (.iload_n 1, 1) := by decide +kernel
theorem dJ2_checkBoundsBeginEnd_d044e_2 : decode cJ2_checkBoundsBeginEnd_d044e 2 = .ok (.aload_n 2, 1) := by decide +kernel
theorem dJ2_checkBoundsBeginEnd_d044e_3 : decode cJ2_checkBoundsBeginEnd_d044e 3 = .ok (.invokestatic 48, 3) := by decide +kernel
theorem dJ2_checkBoundsBeginEnd_d044e_6 : decode cJ2_checkBoundsBeginEnd_d044e 6 = .ok (.invokestatic 241, 3) := by decide +kernel
theorem dJ2_checkBoundsBeginEnd_d044e_9 : decode cJ2_checkBoundsBeginEnd_d044e 9 = .ok (.return_, 1) := by decide +kernel
theorem dJ2_checkBoundsOffCount_d044e_0 : decode cJ2_checkBoundsOffCount_d044e 0 = .ok (.iload_n 0, 1) := by decide +kernel
theorem dJ2_checkBoundsOffCount_d044e_1 : decode cJ2_checkBoundsOffCount_d044e 1 = .ok (.iload_n 1, 1) := by decide +kernel
theorem dJ2_checkBoundsOffCount_d044e_2 : decode cJ2_checkBoundsOffCount_d044e 2 = .ok (.aload_n 2, 1) := by decide +kernel
theorem dJ2_checkBoundsOffCount_d044e_3 : decode cJ2_checkBoundsOffCount_d044e 3 = .ok (.invokestatic 48, 3) := by decide +kernel
theorem dJ2_checkBoundsOffCount_d044e_6 : decode cJ2_checkBoundsOffCount_d044e 6 = .ok (.invokestatic 419, 3) := by decide +kernel
theorem dJ2_checkBoundsOffCount_d044e_9 : decode cJ2_checkBoundsOffCount_d044e 9 = .ok (.pop, 1) := by decide +kernel
theorem dJ2_checkBoundsOffCount_d044e_10 : decode cJ2_checkBoundsOffCount_d044e 10 = .ok (.return_, 1) := by decide +kernel
theorem dJ7_rangeCheck_23922_0 : decode cJ7_rangeCheck_23922 0 = .ok (.iload_n 1, 1) := by decide +kernel
theorem dJ7_rangeCheck_23922_1 : decode cJ7_rangeCheck_23922 1 = .ok (.iload_n 2, 1) := by decide +kernel
theorem dJ7_rangeCheck_23922_2 : decode cJ7_rangeCheck_23922 2 = .ok (.if_icmp .le 44, 3) := by decide +kernel
theorem dJ7_rangeCheck_23922_5 : decode cJ7_rangeCheck_23922 5 = .ok (.new 43, 3) := by decide +kernel
theorem dJ7_rangeCheck_23922_8 : decode cJ7_rangeCheck_23922 8 = .ok (.dup, 1) := by decide +kernel
theorem dJ7_rangeCheck_23922_9 : decode cJ7_rangeCheck_23922 9 = .ok (.new 45, 3) := by decide +kernel
theorem dJ7_rangeCheck_23922_12 : decode cJ7_rangeCheck_23922 12 = .ok (.dup, 1) := by decide +kernel
theorem dJ7_rangeCheck_23922_13 : decode cJ7_rangeCheck_23922 13 = .ok (.invokespecial 47, 3) := by decide +kernel
theorem dJ7_rangeCheck_23922_16 : decode cJ7_rangeCheck_23922 16 = .ok (.ldc 48, 2) := by decide +kernel
theorem dJ7_rangeCheck_23922_18 : decode cJ7_rangeCheck_23922 18 = .ok (.invokevirtual 50, 3) := by decide +kernel
theorem dJ7_rangeCheck_23922_21 : decode cJ7_rangeCheck_23922 21 = .ok (.iload_n 1, 1) := by decide +kernel
theorem dJ7_rangeCheck_23922_22 : decode cJ7_rangeCheck_23922 22 = .ok (.invokevirtual 54, 3) := by decide +kernel
theorem dJ7_rangeCheck_23922_25 : decode cJ7_rangeCheck_23922 25 = .ok (.ldc 57, 2) := by decide +kernel
theorem dJ7_rangeCheck_23922_27 : decode cJ7_rangeCheck_23922 27 = .ok (.invokevirtual 50, 3) := by decide +kernel
theorem dJ7_rangeCheck_23922_30 : decode cJ7_rangeCheck_23922 30 = .ok (.iload_n 2, 1) := by decide +kernel
theorem dJ7_rangeCheck_23922_31 : decode cJ7_rangeCheck_23922 31 = .ok (.invokevirtual 54, 3) := by decide +kernel
theorem dJ7_rangeCheck_23922_34 : decode cJ7_rangeCheck_23922 34 = .ok (.ldc 59, 2) := by decide +kernel
theorem dJ7_rangeCheck_23922_36 : decode cJ7_rangeCheck_23922 36 = .ok (.invokevirtual 50, 3) := by decide +kernel
theorem dJ7_rangeCheck_23922_39 : decode cJ7_rangeCheck_23922 39 = .ok (.invokevirtual 61, 3) := by decide +kernel
theorem dJ7_rangeCheck_23922_42 : decode cJ7_rangeCheck_23922 42 = .ok (.invokespecial 65, 3) := by decide +kernel
theorem dJ7_rangeCheck_23922_45 : decode cJ7_rangeCheck_23922 45 = .ok (.athrow, 1) := by decide +kernel
theorem dJ7_rangeCheck_23922_46 : decode cJ7_rangeCheck_23922 46 = .ok (.iload_n 1, 1) := by decide +kernel
theorem dJ7_rangeCheck_23922_47 : decode cJ7_rangeCheck_23922 47 = .ok (.ifCond .ge 12, 3) := by decide +kernel
theorem dJ7_rangeCheck_23922_50 : decode cJ7_rangeCheck_23922 50 = .ok (.new 68, 3) := by decide +kernel
theorem dJ7_rangeCheck_23922_53 : decode cJ7_rangeCheck_23922 53 = .ok (.dup, 1) := by decide +kernel
theorem dJ7_rangeCheck_23922_54 : decode cJ7_rangeCheck_23922 54 = .ok (.iload_n 1, 1) := by decide +kernel
theorem dJ7_rangeCheck_23922_55 : decode cJ7_rangeCheck_23922 55 = .ok (.invokespecial 70, 3) := by decide +kernel
theorem dJ7_rangeCheck_23922_58 : decode cJ7_rangeCheck_23922 58 = .ok (.athrow, 1) := by decide +kernel
theorem dJ7_rangeCheck_23922_59 : decode cJ7_rangeCheck_23922 59 = .ok (.iload_n 2, 1) := by decide +kernel
theorem dJ7_rangeCheck_23922_60 : decode cJ7_rangeCheck_23922 60 = .ok (.iload_n 0, 1) := by decide +kernel
theorem dJ7_rangeCheck_23922_61 : decode cJ7_rangeCheck_23922 61 = .ok (.if_icmp .le 12, 3) := by decide +kernel
theorem dJ7_rangeCheck_23922_64 : decode cJ7_rangeCheck_23922 64 = .ok (.new 68, 3) := by decide +kernel
theorem dJ7_rangeCheck_23922_67 : decode cJ7_rangeCheck_23922 67 = .ok (.dup, 1) := by decide +kernel
theorem dJ7_rangeCheck_23922_68 : decode cJ7_rangeCheck_23922 68 = .ok (.iload_n 2, 1) := by decide +kernel
theorem dJ7_rangeCheck_23922_69 : decode cJ7_rangeCheck_23922 69 = .ok (.invokespecial 70, 3) := by decide +kernel
theorem dJ7_rangeCheck_23922_72 : decode cJ7_rangeCheck_23922 72 = .ok (.athrow, 1) := by decide +kernel
theorem dJ7_rangeCheck_23922_73 : decode cJ7_rangeCheck_23922 73 = .ok (.return_, 1) := by decide +kernel
theorem dJ7_fill_53178_0 : decode cJ7_fill_53178 0 = .ok (.iconst 0, 1) := by decide +kernel
theorem dJ7_fill_53178_1 : decode cJ7_fill_53178 1 = .ok (.istore_n 2, 1) := by decide +kernel
theorem dJ7_fill_53178_2 : decode cJ7_fill_53178 2 = .ok (.aload_n 0, 1) := by decide +kernel
theorem dJ7_fill_53178_3 : decode cJ7_fill_53178 3 = .ok (.arraylength, 1) := by decide +kernel
theorem dJ7_fill_53178_4 : decode cJ7_fill_53178 4 = .ok (.istore_n 3, 1) := by decide +kernel
theorem dJ7_fill_53178_5 : decode cJ7_fill_53178 5 = .ok (.iload_n 2, 1) := by decide +kernel
theorem dJ7_fill_53178_6 : decode cJ7_fill_53178 6 = .ok (.iload_n 3, 1) := by decide +kernel
theorem dJ7_fill_53178_7 : decode cJ7_fill_53178 7 = .ok (.if_icmp .ge 13, 3) := by decide +kernel
theorem dJ7_fill_53178_10 : decode cJ7_fill_53178 10 = .ok (.aload_n 0, 1) := by decide +kernel
theorem dJ7_fill_53178_11 : decode cJ7_fill_53178 11 = .ok (.iload_n 2, 1) := by decide +kernel
theorem dJ7_fill_53178_12 : decode cJ7_fill_53178 12 = .ok (.iload_n 1, 1) := by decide +kernel
theorem dJ7_fill_53178_13 : decode cJ7_fill_53178 13 = .ok (.iastore, 1) := by decide +kernel
theorem dJ7_fill_53178_14 : decode cJ7_fill_53178 14 = .ok (.iinc 2 1, 3) := by decide +kernel
theorem dJ7_fill_53178_17 : decode cJ7_fill_53178 17 = .ok (.goto (-12), 3) := by decide +kernel
theorem dJ7_fill_53178_20 : decode cJ7_fill_53178 20 = .ok (.return_, 1) := by decide +kernel
theorem dJ7_fill_eb02e_0 : decode cJ7_fill_eb02e 0 = .ok (.aload_n 0, 1) := by decide +kernel
theorem dJ7_fill_eb02e_1 : decode cJ7_fill_eb02e 1 = .ok (.arraylength, 1) := by decide +kernel
theorem dJ7_fill_eb02e_2 : decode cJ7_fill_eb02e 2 = .ok (.iload_n 1, 1) := by decide +kernel
theorem dJ7_fill_eb02e_3 : decode cJ7_fill_eb02e 3 = .ok (.iload_n 2, 1) := by decide +kernel
theorem dJ7_fill_eb02e_4 : decode cJ7_fill_eb02e 4 = .ok (.invokestatic 13, 3) := by decide +kernel
theorem dJ7_fill_eb02e_7 : decode cJ7_fill_eb02e 7 = .ok (.iload_n 1, 1) := by decide +kernel
theorem dJ7_fill_eb02e_8 : decode cJ7_fill_eb02e 8 = .ok (.istore 4, 2) := by decide +kernel
theorem dJ7_fill_eb02e_10 : decode cJ7_fill_eb02e 10 = .ok (.iload 4, 2) := by decide +kernel
theorem dJ7_fill_eb02e_12 : decode cJ7_fill_eb02e 12 = .ok (.iload_n 2, 1) := by decide +kernel
theorem dJ7_fill_eb02e_13 : decode cJ7_fill_eb02e 13 = .ok (.if_icmp .ge 14, 3) := by decide +kernel
theorem dJ7_fill_eb02e_16 : decode cJ7_fill_eb02e 16 = .ok (.aload_n 0, 1) := by decide +kernel
theorem dJ7_fill_eb02e_17 : decode cJ7_fill_eb02e 17 = .ok (.iload 4, 2) := by decide +kernel
theorem dJ7_fill_eb02e_19 : decode cJ7_fill_eb02e 19 = .ok (.iload_n 3, 1) := by decide +kernel
theorem dJ7_fill_eb02e_20 : decode cJ7_fill_eb02e 20 = .ok (.bastore, 1) := by decide +kernel
theorem dJ7_fill_eb02e_21 : decode cJ7_fill_eb02e 21 = .ok (.iinc 4 1, 3) := by decide +kernel
theorem dJ7_fill_eb02e_24 : decode cJ7_fill_eb02e 24 = .ok (.goto (-14), 3) := by decide +kernel
theorem dJ7_fill_eb02e_27 : decode cJ7_fill_eb02e 27 = .ok (.return_, 1) := by decide +kernel
theorem dJ7_copyOf_9075b_0 : decode cJ7_copyOf_9075b 0 = .ok (.iload_n 1, 1) := by decide +kernel
theorem dJ7_copyOf_9075b_1 : decode cJ7_copyOf_9075b 1 = .ok (.aload_n 0, 1) := by decide +kernel
theorem dJ7_copyOf_9075b_2 : decode cJ7_copyOf_9075b 2 = .ok (.arraylength, 1) := by decide +kernel
theorem dJ7_copyOf_9075b_3 : decode cJ7_copyOf_9075b 3 = .ok (.if_icmp .ne 11, 3) := by decide +kernel
theorem dJ7_copyOf_9075b_6 : decode cJ7_copyOf_9075b 6 = .ok (.aload_n 0, 1) := by decide +kernel
theorem dJ7_copyOf_9075b_7 : decode cJ7_copyOf_9075b 7 = .ok (.invokevirtual 310, 3) := by decide +kernel
theorem dJ7_copyOf_9075b_10 : decode cJ7_copyOf_9075b 10 = .ok (.checkcast 311, 3) := by decide +kernel
theorem dJ7_copyOf_9075b_13 : decode cJ7_copyOf_9075b 13 = .ok (.areturn, 1) := by decide +kernel
theorem dJ7_copyOf_9075b_14 : decode cJ7_copyOf_9075b 14 = .ok (.iload_n 1, 1) := by decide +kernel
theorem dJ7_copyOf_9075b_15 : decode cJ7_copyOf_9075b 15 = .ok (.newarray .byte, 2) := by decide +kernel
theorem dJ7_copyOf_9075b_17 : decode cJ7_copyOf_9075b 17 = .ok (.astore_n 2, 1) := by decide +kernel
theorem dJ7_copyOf_9075b_18 : decode cJ7_copyOf_9075b 18 = .ok (.aload_n 0, 1) := by decide +kernel
theorem dJ7_copyOf_9075b_19 : decode cJ7_copyOf_9075b 19 = .ok (.iconst 0, 1) := by decide +kernel
theorem dJ7_copyOf_9075b_20 : decode cJ7_copyOf_9075b 20 = .ok (.aload_n 2, 1) := by decide +kernel
theorem dJ7_copyOf_9075b_21 : decode cJ7_copyOf_9075b 21 = .ok (.iconst 0, 1) := by decide +kernel
theorem dJ7_copyOf_9075b_22 : decode cJ7_copyOf_9075b 22 = .ok (.aload_n 0, 1) := by decide +kernel
theorem dJ7_copyOf_9075b_23 : decode cJ7_copyOf_9075b 23 = .ok (.arraylength, 1) := by decide +kernel
theorem dJ7_copyOf_9075b_24 : decode cJ7_copyOf_9075b 24 = .ok (.iload_n 1, 1) := by decide +kernel
theorem dJ7_copyOf_9075b_25 : decode cJ7_copyOf_9075b 25 = .ok (.invokestatic 304, 3) := by decide +kernel
theorem dJ7_copyOf_9075b_28 : decode cJ7_copyOf_9075b 28 = .ok (.invokestatic 150, 3) := by decide +kernel
theorem dJ7_copyOf_9075b_31 : decode cJ7_copyOf_9075b 31 = .ok (.aload_n 2, 1) := by decide +kernel
theorem dJ7_copyOf_9075b_32 : decode cJ7_copyOf_9075b 32 = .ok (.areturn, 1) := by decide +kernel
theorem dJ7_checkLength_df160_0 : decode cJ7_checkLength_df160 0 = .ok (.iload_n 1, 1) := by decide +kernel
theorem dJ7_checkLength_df160_1 : decode cJ7_checkLength_df160 1 = .ok (.iload_n 0, 1) := by decide +kernel
theorem dJ7_checkLength_df160_2 : decode cJ7_checkLength_df160 2 = .ok (.if_icmp .ge 35, 3) := by decide +kernel
theorem dJ7_checkLength_df160_5 : decode cJ7_checkLength_df160 5 = .ok (.new 43, 3) := by decide +kernel
theorem dJ7_checkLength_df160_8 : decode cJ7_checkLength_df160 8 = .ok (.dup, 1) := by decide +kernel
theorem dJ7_checkLength_df160_9 : decode cJ7_checkLength_df160 9 = .ok (.new 45, 3) := by decide +kernel
theorem dJ7_checkLength_df160_12 : decode cJ7_checkLength_df160 12 = .ok (.dup, 1) := by decide +kernel
theorem dJ7_checkLength_df160_13 : decode cJ7_checkLength_df160 13 = .ok (.invokespecial 47, 3) := by decide +kernel
theorem dJ7_checkLength_df160_16 : decode cJ7_checkLength_df160 16 = .ok (.iload_n 0, 1) := by decide +kernel
theorem dJ7_checkLength_df160_17 : decode cJ7_checkLength_df160 17 = .ok (.invokevirtual 54, 3) := by decide +kernel
theorem dJ7_checkLength_df160_20 : decode cJ7_checkLength_df160 20 = .ok (.ldc_w 337, 3) := by decide +kernel
theorem dJ7_checkLength_df160_23 : decode cJ7_checkLength_df160 23 = .ok (.invokevirtual 50, 3) := by decide +kernel
theorem dJ7_checkLength_df160_26 : decode cJ7_checkLength_df160 26 = .ok (.iload_n 1, 1) := by decide +kernel
theorem dJ7_checkLength_df160_27 : decode cJ7_checkLength_df160 27 = .ok (.invokevirtual 54, 3) := by decide +kernel
theorem dJ7_checkLength_df160_30 : decode cJ7_checkLength_df160 30 = .ok (.invokevirtual 61, 3) := by decide +kernel
theorem dJ7_checkLength_df160_33 : decode cJ7_checkLength_df160 33 = .ok (.invokespecial 65, 3) := by decide +kernel
theorem dJ7_checkLength_df160_36 : decode cJ7_checkLength_df160 36 = .ok (.athrow, 1) := by decide +kernel
theorem dJ7_checkLength_df160_37 : decode cJ7_checkLength_df160 37 = .ok (.return_, 1) := by decide +kernel
theorem dJ7_copyOfRange_39247_0 : decode cJ7_copyOfRange_39247 0 = .ok (.iload_n 1, 1) := by decide +kernel
theorem dJ7_copyOfRange_39247_1 : decode cJ7_copyOfRange_39247 1 = .ok (.ifCond .ne 9, 3) := by decide +kernel
theorem dJ7_copyOfRange_39247_4 : decode cJ7_copyOfRange_39247 4 = .ok (.iload_n 2, 1) := by decide +kernel
theorem dJ7_copyOfRange_39247_5 : decode cJ7_copyOfRange_39247 5 = .ok (.aload_n 0, 1) := by decide +kernel
theorem dJ7_copyOfRange_39247_6 : decode cJ7_copyOfRange_39247 6 = .ok (.arraylength, 1) := by decide +kernel
theorem dJ7_copyOfRange_39247_7 : decode cJ7_copyOfRange_39247 7 = .ok (.if_icmp .eq 10, 3) := by decide +kernel
theorem dJ7_copyOfRange_39247_10 : decode cJ7_copyOfRange_39247 10 = .ok (.aload_n 0, 1) := by decide +kernel
theorem dJ7_copyOfRange_39247_11 : decode cJ7_copyOfRange_39247 11 = .ok (.iload_n 1, 1) := by decide +kernel
theorem dJ7_copyOfRange_39247_12 : decode cJ7_copyOfRange_39247 12 = .ok (.iload_n 2, 1) := by decide +kernel
theorem dJ7_copyOfRange_39247_13 : decode cJ7_copyOfRange_39247 13 = .ok (.invokestatic 339, 3) := by decide +kernel
theorem dJ7_copyOfRange_39247_16 : decode cJ7_copyOfRange_39247 16 = .ok (.areturn, 1) := by decide +kernel
theorem dJ7_copyOfRange_39247_17 : decode cJ7_copyOfRange_39247 17 = .ok (.aload_n 0, 1) := by decide +kernel
theorem dJ7_copyOfRange_39247_18 : decode cJ7_copyOfRange_39247 18 = .ok (.invokevirtual 310, 3) := by decide +kernel
theorem dJ7_copyOfRange_39247_21 : decode cJ7_copyOfRange_39247 21 = .ok (.checkcast 311, 3) := by decide +kernel
theorem dJ7_copyOfRange_39247_24 : decode cJ7_copyOfRange_39247 24 = .ok (.areturn, 1) := by decide +kernel
theorem dJ7_copyOfRangeByte_39247_0 : decode cJ7_copyOfRangeByte_39247 0 = .ok (.iload_n 1, 1) := by decide +kernel
theorem dJ7_copyOfRangeByte_39247_1 : decode cJ7_copyOfRangeByte_39247 1 = .ok (.iload_n 2, 1) := by decide +kernel
theorem dJ7_copyOfRangeByte_39247_2 : decode cJ7_copyOfRangeByte_39247 2 = .ok (.invokestatic 343, 3) := by decide +kernel
theorem dJ7_copyOfRangeByte_39247_5 : decode cJ7_copyOfRangeByte_39247 5 = .ok (.iload_n 2, 1) := by decide +kernel
theorem dJ7_copyOfRangeByte_39247_6 : decode cJ7_copyOfRangeByte_39247 6 = .ok (.iload_n 1, 1) := by decide +kernel
theorem dJ7_copyOfRangeByte_39247_7 : decode cJ7_copyOfRangeByte_39247 7 = .ok (.isub, 1) := by decide +kernel
theorem dJ7_copyOfRangeByte_39247_8 : decode cJ7_copyOfRangeByte_39247 8 = .ok (.istore_n 3, 1) := by decide +kernel
theorem dJ7_copyOfRangeByte_39247_9 : decode cJ7_copyOfRangeByte_39247 9 = .ok (.iload_n 3, 1) := by decide +kernel
theorem dJ7_copyOfRangeByte_39247_10 : decode cJ7_copyOfRangeByte_39247 10 = .ok (.newarray .byte, 2) := by decide +kernel
theorem dJ7_copyOfRangeByte_39247_12 : decode cJ7_copyOfRangeByte_39247 12 = .ok (.astore 4, 2) := by decide +kernel
theorem dJ7_copyOfRangeByte_39247_14 : decode cJ7_copyOfRangeByte_39247 14 = .ok (.aload_n 0, 1) := by decide +kernel
theorem dJ7_copyOfRangeByte_39247_15 : decode cJ7_copyOfRangeByte_39247 15 = .ok (.iload_n 1, 1) := by decide +kernel
theorem dJ7_copyOfRangeByte_39247_16 : decode cJ7_copyOfRangeByte_39247 16 = .ok (.aload 4, 2) := by decide +kernel
theorem dJ7_copyOfRangeByte_39247_18 : decode cJ7_copyOfRangeByte_39247 18 = .ok (.iconst 0, 1) := by decide +kernel
theorem dJ7_copyOfRangeByte_39247_19 : decode cJ7_copyOfRangeByte_39247 19 = .ok (.aload_n 0, 1) := by decide +kernel
theorem dJ7_copyOfRangeByte_39247_20 : decode cJ7_copyOfRangeByte_39247 20 = .ok (.arraylength, 1) := by decide +kernel
theorem dJ7_copyOfRangeByte_39247_21 : decode cJ7_copyOfRangeByte_39247 21 = .ok (.iload_n 1, 1) := by decide +kernel
theorem dJ7_copyOfRangeByte_39247_22 : decode cJ7_copyOfRangeByte_39247 22 = .ok (.isub, 1) := by decide +kernel
theorem dJ7_copyOfRangeByte_39247_23 : decode cJ7_copyOfRangeByte_39247 23 = .ok (.iload_n 3, 1) := by decide +kernel
theorem dJ7_copyOfRangeByte_39247_24 : decode cJ7_copyOfRangeByte_39247 24 = .ok (.invokestatic 304, 3) := by decide +kernel
theorem dJ7_copyOfRangeByte_39247_27 : decode cJ7_copyOfRangeByte_39247 27 = .ok (.invokestatic 150, 3) := by decide +kernel
theorem dJ7_copyOfRangeByte_39247_30 : decode cJ7_copyOfRangeByte_39247 30 = .ok (.aload 4, 2) := by decide +kernel
theorem dJ7_copyOfRangeByte_39247_32 : decode cJ7_copyOfRangeByte_39247 32 = .ok (.areturn, 1) := by decide +kernel
theorem dJx4497a_init_f633c_0 : decode cJx4497a_init_f633c 0 = .ok (.aload_n 0, 1) := by decide +kernel
theorem dJx4497a_init_f633c_1 : decode cJx4497a_init_f633c 1 = .ok (.invokespecial 5, 3) := by decide +kernel
theorem dJx4497a_init_f633c_4 : decode cJx4497a_init_f633c 4 = .ok (.aload_n 0, 1) := by decide +kernel
theorem dJx4497a_init_f633c_5 : decode cJx4497a_init_f633c 5 = .ok (.iload_n 1, 1) := by decide +kernel
theorem dJx4497a_init_f633c_6 : decode cJx4497a_init_f633c 6 = .ok (.ifCond .eq 7, 3) := by decide +kernel
theorem dJx4497a_init_f633c_9 : decode cJx4497a_init_f633c 9 = .ok (.aconst_null, 1) := by decide +kernel
theorem dJx4497a_init_f633c_10 : decode cJx4497a_init_f633c 10 = .ok (.goto 7, 3) := by decide +kernel
theorem dJx4497a_init_f633c_13 : decode cJx4497a_init_f633c 13 = .ok (.bipush 24, 2) := by decide +kernel
theorem dJx4497a_init_f633c_15 : decode cJx4497a_init_f633c 15 = .ok (.newarray .byte, 2) := by decide +kernel
theorem dJx4497a_init_f633c_17 : decode cJx4497a_init_f633c 17 = .ok (.putfield 11, 3) := by decide +kernel
theorem dJx4497a_init_f633c_20 : decode cJx4497a_init_f633c 20 = .ok (.return_, 1) := by decide +kernel
theorem dJx4497a_appendTo_00aa9_0 : decode cJx4497a_appendTo_00aa9 0 = .ok (.new 3, 3) := by decide +kernel
theorem dJx4497a_appendTo_00aa9_3 : decode cJx4497a_appendTo_00aa9 3 = .ok (.dup, 1) := by decide +kernel
theorem dJx4497a_appendTo_00aa9_4 : decode cJx4497a_appendTo_00aa9 4 = .ok (.iconst 0, 1) := by decide +kernel
theorem dJx4497a_appendTo_00aa9_5 : decode cJx4497a_appendTo_00aa9 5 = .ok (.invokespecial 15, 3) := by decide +kernel
theorem dJx4497a_appendTo_00aa9_8 : decode cJx4497a_appendTo_00aa9 8 = .ok (.dload_n 0, 1) := by decide +kernel
theorem dJx4497a_appendTo_00aa9_9 : decode cJx4497a_appendTo_00aa9 9 = .ok (.aload_n 2, 1) := by decide +kernel
theorem dJx4497a_appendTo_00aa9_10 : decode cJx4497a_appendTo_00aa9 10 = .ok (.invokevirtual 26, 3) := by decide +kernel
theorem dJx4497a_appendTo_00aa9_13 : decode cJx4497a_appendTo_00aa9 13 = .ok (.areturn, 1) := by decide +kernel
theorem dJx4497a_appendDecimalTo_00aa9_0 : decode cJx4497a_appendDecimalTo_00aa9 0 = .ok (.aload_n 0, 1) := by decide +kernel
theorem dJx4497a_appendDecimalTo_00aa9_1 : decode cJx4497a_appendDecimalTo_00aa9 1 = .ok (.dload_n 1, 1) := by decide +kernel
theorem dJx4497a_appendDecimalTo_00aa9_2 : decode cJx4497a_appendDecimalTo_00aa9 2 = .ok (.aconst_null, 1) := by decide +kernel
theorem dJx4497a_appendDecimalTo_00aa9_3 : decode cJx4497a_appendDecimalTo_00aa9 3 = .ok (.invokevirtual 22, 3) := by decide +kernel
theorem dJx4497a_appendDecimalTo_00aa9_6 : decode cJx4497a_appendDecimalTo_00aa9 6 = .ok (.tableswitch 195 0 4 #[34, 159, 168, 177, 186], 34) := by decide +kernel
theorem dJx4497a_appendDecimalTo_00aa9_40 : decode cJx4497a_appendDecimalTo_00aa9 40 = .ok (.aload_n 0, 1) := by decide +kernel
theorem dJx4497a_appendDecimalTo_00aa9_41 : decode cJx4497a_appendDecimalTo_00aa9 41 = .ok (.getfield 44, 3) := by decide +kernel
theorem dJx4497a_appendDecimalTo_00aa9_44 : decode cJx4497a_appendDecimalTo_00aa9 44 = .ok (.iconst 1, 1) := by decide +kernel
theorem dJx4497a_appendDecimalTo_00aa9_45 : decode cJx4497a_appendDecimalTo_00aa9 45 = .ok (.iadd, 1) := by decide +kernel
theorem dJx4497a_appendDecimalTo_00aa9_46 : decode cJx4497a_appendDecimalTo_00aa9 46 = .ok (.newarray .char, 2) := by decide +kernel
theorem dJx4497a_appendDecimalTo_00aa9_48 : decode cJx4497a_appendDecimalTo_00aa9 48 = .ok (.astore 4, 2) := by decide +kernel
theorem dJx4497a_appendDecimalTo_00aa9_50 : decode cJx4497a_appendDecimalTo_00aa9 50 = .ok (.iconst 0, 1) := by decide +kernel
theorem dJx4497a_appendDecimalTo_00aa9_51 : decode cJx4497a_appendDecimalTo_00aa9 51 = .ok (.istore 5, 2) := by decide +kernel
theorem dJx4497a_appendDecimalTo_00aa9_53 : decode cJx4497a_appendDecimalTo_00aa9 53 = .ok (.iload 5, 2) := by decide +kernel
theorem dJx4497a_appendDecimalTo_00aa9_55 : decode cJx4497a_appendDecimalTo_00aa9 55 = .ok (.aload 4, 2) := by decide +kernel
theorem dJx4497a_appendDecimalTo_00aa9_57 : decode cJx4497a_appendDecimalTo_00aa9 57 = .ok (.arraylength, 1) := by decide +kernel
theorem dJx4497a_appendDecimalTo_00aa9_58 : decode cJx4497a_appendDecimalTo_00aa9 58 = .ok (.if_icmp .ge 22, 3) := by decide +kernel
theorem dJx4497a_appendDecimalTo_00aa9_61 : decode cJx4497a_appendDecimalTo_00aa9 61 = .ok (.aload 4, 2) := by decide +kernel
theorem dJx4497a_appendDecimalTo_00aa9_63 : decode cJx4497a_appendDecimalTo_00aa9 63 = .ok (.iload 5, 2) := by decide +kernel
theorem dJx4497a_appendDecimalTo_00aa9_65 : decode cJx4497a_appendDecimalTo_00aa9 65 = .ok (.aload_n 0, 1) := by decide +kernel
theorem dJx4497a_appendDecimalTo_00aa9_66 : decode cJx4497a_appendDecimalTo_00aa9 66 = .ok (.getfield 11, 3) := by decide +kernel
theorem dJx4497a_appendDecimalTo_00aa9_69 : decode cJx4497a_appendDecimalTo_00aa9 69 = .ok (.iload 5, 2) := by decide +kernel
theorem dJx4497a_appendDecimalTo_00aa9_71 : decode cJx4497a_appendDecimalTo_00aa9 71 = .ok (.baload, 1) := by decide +kernel
theorem dJx4497a_appendDecimalTo_00aa9_72 : decode cJx4497a_appendDecimalTo_00aa9 72 = .ok (.i2c, 1) := by decide +kernel
theorem dJx4497a_appendDecimalTo_00aa9_73 : decode cJx4497a_appendDecimalTo_00aa9 73 = .ok (.castore, 1) := by decide +kernel
theorem dJx4497a_appendDecimalTo_00aa9_74 : decode cJx4497a_appendDecimalTo_00aa9 74 = .ok (.iinc 5 1, 3) := by decide +kernel
theorem dJx4497a_appendDecimalTo_00aa9_77 : decode cJx4497a_appendDecimalTo_00aa9 77 = .ok (.goto (-24), 3) := by decide +kernel
theorem dJx4497a_appendDecimalTo_00aa9_80 : decode cJx4497a_appendDecimalTo_00aa9 80 = .ok (.aload_n 3, 1) := by decide +kernel
theorem dJx4497a_appendDecimalTo_00aa9_81 : decode cJx4497a_appendDecimalTo_00aa9 81 = .ok (.instanceof 48, 3) := by decide +kernel
theorem dJx4497a_appendDecimalTo_00aa9_84 : decode cJx4497a_appendDecimalTo_00aa9 84 = .ok (.ifCond .eq 17, 3) := by decide +kernel
theorem dJx4497a_appendDecimalTo_00aa9_87 : decode cJx4497a_appendDecimalTo_00aa9 87 = .ok (.aload_n 3, 1) := by decide +kernel
theorem dJx4497a_appendDecimalTo_00aa9_88 : decode cJx4497a_appendDecimalTo_00aa9 88 = .ok (.checkcast 48, 3) := by decide +kernel
theorem dJx4497a_appendDecimalTo_00aa9_91 : decode cJx4497a_appendDecimalTo_00aa9 91 = .ok (.astore 5, 2) := by decide +kernel
theorem dJx4497a_appendDecimalTo_00aa9_93 : decode cJx4497a_appendDecimalTo_00aa9 93 = .ok (.aload 5, 2) := by decide +kernel
theorem dJx4497a_appendDecimalTo_00aa9_95 : decode cJx4497a_appendDecimalTo_00aa9 95 = .ok (.aload 4, 2) := by decide +kernel
theorem dJx4497a_appendDecimalTo_00aa9_97 : decode cJx4497a_appendDecimalTo_00aa9 97 = .ok (.invokevirtual 50, 3) := by decide +kernel
theorem dJx4497a_appendDecimalTo_00aa9_100 : decode cJx4497a_appendDecimalTo_00aa9 100 = .ok (.areturn, 1) := by decide +kernel
theorem dJx4497a_appendDecimalTo_00aa9_101 : decode cJx4497a_appendDecimalTo_00aa9 101 = .ok (.aload_n 3, 1) := by decide +kernel
theorem dJx4497a_appendDecimalTo_00aa9_102 : decode cJx4497a_appendDecimalTo_00aa9 102 = .ok (.instanceof 54, 3) := by decide +kernel
theorem dJx4497a_appendDecimalTo_00aa9_105 : decode cJx4497a_appendDecimalTo_00aa9 105 = .ok (.ifCond .eq 17, 3) := by decide +kernel
theorem dJx4497a_appendDecimalTo_00aa9_108 : decode cJx4497a_appendDecimalTo_00aa9 108 = .ok (.aload_n 3, 1) := by decide +kernel
theorem dJx4497a_appendDecimalTo_00aa9_109 : decode cJx4497a_appendDecimalTo_00aa9 109 = .ok (.checkcast 54, 3) := by decide +kernel
theorem dJx4497a_appendDecimalTo_00aa9_112 : decode cJx4497a_appendDecimalTo_00aa9 112 = .ok (.astore 5, 2) := by decide +kernel
theorem dJx4497a_appendDecimalTo_00aa9_114 : decode cJx4497a_appendDecimalTo_00aa9 114 = .ok (.aload 5, 2) := by decide +kernel
theorem dJx4497a_appendDecimalTo_00aa9_116 : decode cJx4497a_appendDecimalTo_00aa9 116 = .ok (.aload 4, 2) := by decide +kernel
theorem dJx4497a_appendDecimalTo_00aa9_118 : decode cJx4497a_appendDecimalTo_00aa9 118 = .ok (.invokevirtual 56, 3) := by decide +kernel
theorem dJx4497a_appendDecimalTo_00aa9_121 : decode cJx4497a_appendDecimalTo_00aa9 121 = .ok (.areturn, 1) := by decide +kernel
theorem dJx4497a_appendDecimalTo_00aa9_122 : decode cJx4497a_appendDecimalTo_00aa9 122 = .ok (.aload 4, 2) := by decide +kernel
theorem dJx4497a_appendDecimalTo_00aa9_124 : decode cJx4497a_appendDecimalTo_00aa9 124 = .ok (.astore 5, 2) := by decide +kernel
theorem dJx4497a_appendDecimalTo_00aa9_126 : decode cJx4497a_appendDecimalTo_00aa9 126 = .ok (.aload 5, 2) := by decide +kernel
theorem dJx4497a_appendDecimalTo_00aa9_128 : decode cJx4497a_appendDecimalTo_00aa9 128 = .ok (.arraylength, 1) := by decide +kernel
theorem dJx4497a_appendDecimalTo_00aa9_129 : decode cJx4497a_appendDecimalTo_00aa9 129 = .ok (.istore 6, 2) := by decide +kernel
theorem dJx4497a_appendDecimalTo_00aa9_131 : decode cJx4497a_appendDecimalTo_00aa9 131 = .ok (.iconst 0, 1) := by decide +kernel
theorem dJx4497a_appendDecimalTo_00aa9_132 : decode cJx4497a_appendDecimalTo_00aa9 132 = .ok (.istore 7, 2) := by decide +kernel
theorem dJx4497a_appendDecimalTo_00aa9_134 : decode cJx4497a_appendDecimalTo_00aa9 134 = .ok (.iload 7, 2) := by decide +kernel
theorem dJx4497a_appendDecimalTo_00aa9_136 : decode cJx4497a_appendDecimalTo_00aa9 136 = .ok (.iload 6, 2) := by decide +kernel
theorem dJx4497a_appendDecimalTo_00aa9_138 : decode cJx4497a_appendDecimalTo_00aa9 138 = .ok (.if_icmp .ge 25, 3) := by decide +kernel
theorem dJx4497a_appendDecimalTo_00aa9_141 : decode cJx4497a_appendDecimalTo_00aa9 141 = .ok (.aload 5, 2) := by decide +kernel
theorem dJx4497a_appendDecimalTo_00aa9_143 : decode cJx4497a_appendDecimalTo_00aa9 143 = .ok (.iload 7, 2) := by decide +kernel
theorem dJx4497a_appendDecimalTo_00aa9_145 : decode cJx4497a_appendDecimalTo_00aa9 145 = .ok (.caload, 1) := by decide +kernel
theorem dJx4497a_appendDecimalTo_00aa9_146 : decode cJx4497a_appendDecimalTo_00aa9 146 = .ok (.istore 8, 2) := by decide +kernel
theorem dJx4497a_appendDecimalTo_00aa9_148 : decode cJx4497a_appendDecimalTo_00aa9 148 = .ok (.aload_n 3, 1) := by decide +kernel
theorem dJx4497a_appendDecimalTo_00aa9_149 : decode cJx4497a_appendDecimalTo_00aa9 149 = .ok (.iload 8, 2) := by decide +kernel
theorem dJx4497a_appendDecimalTo_00aa9_151 : decode cJx4497a_appendDecimalTo_00aa9 151 = .ok (.invokeinterface 59 2, 5) := by decide +kernel
theorem dJx4497a_appendDecimalTo_00aa9_156 : decode cJx4497a_appendDecimalTo_00aa9 156 = .ok (.pop, 1) := by decide +kernel
theorem dJx4497a_appendDecimalTo_00aa9_157 : decode cJx4497a_appendDecimalTo_00aa9 157 = .ok (.iinc 7 1, 3) := by decide +kernel
theorem dJx4497a_appendDecimalTo_00aa9_160 : decode cJx4497a_appendDecimalTo_00aa9 160 = .ok (.goto (-26), 3) := by decide +kernel
theorem dJx4497a_appendDecimalTo_00aa9_163 : decode cJx4497a_appendDecimalTo_00aa9 163 = .ok (.aload_n 3, 1) := by decide +kernel
theorem dJx4497a_appendDecimalTo_00aa9_164 : decode cJx4497a_appendDecimalTo_00aa9 164 = .ok (.areturn, 1) := by decide +kernel
theorem dJx4497a_appendDecimalTo_00aa9_165 : decode cJx4497a_appendDecimalTo_00aa9 165 = .ok (.aload_n 3, 1) := by decide +kernel
theorem dJx4497a_appendDecimalTo_00aa9_166 : decode cJx4497a_appendDecimalTo_00aa9 166 = .ok (.ldc 34, 2) := by decide +kernel
theorem dJx4497a_appendDecimalTo_00aa9_168 : decode cJx4497a_appendDecimalTo_00aa9 168 = .ok (.invokeinterface 64 2, 5) := by decide +kernel
theorem dJx4497a_appendDecimalTo_00aa9_173 : decode cJx4497a_appendDecimalTo_00aa9 173 = .ok (.areturn, 1) := by decide +kernel
theorem dJx4497a_appendDecimalTo_00aa9_174 : decode cJx4497a_appendDecimalTo_00aa9 174 = .ok (.aload_n 3, 1) := by decide +kernel
theorem dJx4497a_appendDecimalTo_00aa9_175 : decode cJx4497a_appendDecimalTo_00aa9 175 = .ok (.ldc 36, 2) := by decide +kernel
theorem dJx4497a_appendDecimalTo_00aa9_177 : decode cJx4497a_appendDecimalTo_00aa9 177 = .ok (.invokeinterface 64 2, 5) := by decide +kernel
theorem dJx4497a_appendDecimalTo_00aa9_182 : decode cJx4497a_appendDecimalTo_00aa9 182 = .ok (.areturn, 1) := by decide +kernel
theorem dJx4497a_appendDecimalTo_00aa9_183 : decode cJx4497a_appendDecimalTo_00aa9 183 = .ok (.aload_n 3, 1) := by decide +kernel
theorem dJx4497a_appendDecimalTo_00aa9_184 : decode cJx4497a_appendDecimalTo_00aa9 184 = .ok (.ldc 38, 2) := by decide +kernel
theorem dJx4497a_appendDecimalTo_00aa9_186 : decode cJx4497a_appendDecimalTo_00aa9 186 = .ok (.invokeinterface 64 2, 5) := by decide +kernel
theorem dJx4497a_appendDecimalTo_00aa9_191 : decode cJx4497a_appendDecimalTo_00aa9 191 = .ok (.areturn, 1) := by decide +kernel
theorem dJx4497a_appendDecimalTo_00aa9_192 : decode cJx4497a_appendDecimalTo_00aa9 192 = .ok (.aload_n 3, 1) := by decide +kernel
theorem dJx4497a_appendDecimalTo_00aa9_193 : decode cJx4497a_appendDecimalTo_00aa9 193 = .ok (.ldc 40, 2) := by decide +kernel
theorem dJx4497a_appendDecimalTo_00aa9_195 : decode cJx4497a_appendDecimalTo_00aa9 195 = .ok (.invokeinterface 64 2, 5) := by decide +kernel
theorem dJx4497a_appendDecimalTo_00aa9_200 : decode cJx4497a_appendDecimalTo_00aa9 200 = .ok (.areturn, 1) := by decide +kernel
theorem dJx4497a_appendDecimalTo_00aa9_201 : decode cJx4497a_appendDecimalTo_00aa9 201 = .ok (.aload_n 3, 1) := by decide +kernel
theorem dJx4497a_appendDecimalTo_00aa9_202 : decode cJx4497a_appendDecimalTo_00aa9 202 = .ok (.ldc 42, 2) := by decide +kernel
theorem dJx4497a_appendDecimalTo_00aa9_204 : decode cJx4497a_appendDecimalTo_00aa9 204 = .ok (.invokeinterface 64 2, 5) := by decide +kernel
theorem dJx4497a_appendDecimalTo_00aa9_209 : decode cJx4497a_appendDecimalTo_00aa9 209 = .ok (.areturn, 1) := by decide +kernel
theorem dJx4497a_toDecimal_a02bb_0 : decode cJx4497a_toDecimal_a02bb 0 = .ok (.dload_n 1, 1) := by decide +kernel
theorem dJx4497a_toDecimal_a02bb_1 : decode cJx4497a_toDecimal_a02bb 1 = .ok (.invokestatic 67, 3) := by decide +kernel
theorem dJx4497a_toDecimal_a02bb_4 : decode cJx4497a_toDecimal_a02bb 4 = .ok (.lstore 4, 2) := by decide +kernel
theorem dJx4497a_toDecimal_a02bb_6 : decode cJx4497a_toDecimal_a02bb 6 = .ok (.lload 4, 2) := by decide +kernel
theorem dJx4497a_toDecimal_a02bb_8 : decode cJx4497a_toDecimal_a02bb 8 = .ok (.ldc2_w 71, 3) := by decide +kernel
theorem dJx4497a_toDecimal_a02bb_11 : decode cJx4497a_toDecimal_a02bb 11 = .ok (.land, 1) := by decide +kernel
theorem dJx4497a_toDecimal_a02bb_12 : decode cJx4497a_toDecimal_a02bb 12 = .ok (.lstore 6, 2) := by decide +kernel
theorem dJx4497a_toDecimal_a02bb_14 : decode cJx4497a_toDecimal_a02bb 14 = .ok (.lload 4, 2) := by decide +kernel
theorem dJx4497a_toDecimal_a02bb_16 : decode cJx4497a_toDecimal_a02bb 16 = .ok (.bipush 52, 2) := by decide +kernel
theorem dJx4497a_toDecimal_a02bb_18 : decode cJx4497a_toDecimal_a02bb 18 = .ok (.lushr, 1) := by decide +kernel
theorem dJx4497a_toDecimal_a02bb_19 : decode cJx4497a_toDecimal_a02bb 19 = .ok (.l2i, 1) := by decide +kernel
theorem dJx4497a_toDecimal_a02bb_20 : decode cJx4497a_toDecimal_a02bb 20 = .ok (.sipush 2047, 3) := by decide +kernel
theorem dJx4497a_toDecimal_a02bb_23 : decode cJx4497a_toDecimal_a02bb 23 = .ok (.iand, 1) := by decide +kernel
theorem dJx4497a_toDecimal_a02bb_24 : decode cJx4497a_toDecimal_a02bb 24 = .ok (.istore 8, 2) := by decide +kernel
theorem dJx4497a_toDecimal_a02bb_26 : decode cJx4497a_toDecimal_a02bb 26 = .ok (.iload 8, 2) := by decide +kernel
theorem dJx4497a_toDecimal_a02bb_28 : decode cJx4497a_toDecimal_a02bb 28 = .ok (.sipush 2047, 3) := by decide +kernel
theorem dJx4497a_toDecimal_a02bb_31 : decode cJx4497a_toDecimal_a02bb 31 = .ok (.if_icmp .ge 167, 3) := by decide +kernel
theorem dJx4497a_toDecimal_a02bb_34 : decode cJx4497a_toDecimal_a02bb 34 = .ok (.aload_n 0, 1) := by decide +kernel
theorem dJx4497a_toDecimal_a02bb_35 : decode cJx4497a_toDecimal_a02bb 35 = .ok (.iconst (-1), 1) := by decide +kernel
theorem dJx4497a_toDecimal_a02bb_36 : decode cJx4497a_toDecimal_a02bb 36 = .ok (.putfield 44, 3) := by decide +kernel
theorem dJx4497a_toDecimal_a02bb_39 : decode cJx4497a_toDecimal_a02bb 39 = .ok (.lload 4, 2) := by decide +kernel
theorem dJx4497a_toDecimal_a02bb_41 : decode cJx4497a_toDecimal_a02bb 41 = .ok (.lconst 0, 1) := by decide +kernel
theorem dJx4497a_toDecimal_a02bb_42 : decode cJx4497a_toDecimal_a02bb 42 = .ok (.lcmp, 1) := by decide +kernel
theorem dJx4497a_toDecimal_a02bb_43 : decode cJx4497a_toDecimal_a02bb 43 = .ok (.ifCond .ge 9, 3) := by decide +kernel
theorem dJx4497a_toDecimal_a02bb_46 : decode cJx4497a_toDecimal_a02bb 46 = .ok (.aload_n 0, 1) := by decide +kernel
theorem dJx4497a_toDecimal_a02bb_47 : decode cJx4497a_toDecimal_a02bb 47 = .ok (.bipush 45, 2) := by decide +kernel
theorem dJx4497a_toDecimal_a02bb_49 : decode cJx4497a_toDecimal_a02bb 49 = .ok (.invokevirtual 73, 3) := by decide +kernel
theorem dJx4497a_toDecimal_a02bb_52 : decode cJx4497a_toDecimal_a02bb 52 = .ok (.iload 8, 2) := by decide +kernel
theorem dJx4497a_toDecimal_a02bb_54 : decode cJx4497a_toDecimal_a02bb 54 = .ok (.ifCond .eq 85, 3) := by decide +kernel
theorem dJx4497a_toDecimal_a02bb_57 : decode cJx4497a_toDecimal_a02bb 57 = .ok (.sipush 1075, 3) := by decide +kernel
theorem dJx4497a_toDecimal_a02bb_60 : decode cJx4497a_toDecimal_a02bb 60 = .ok (.iload 8, 2) := by decide +kernel
theorem dJx4497a_toDecimal_a02bb_62 : decode cJx4497a_toDecimal_a02bb 62 = .ok (.isub, 1) := by decide +kernel
theorem dJx4497a_toDecimal_a02bb_63 : decode cJx4497a_toDecimal_a02bb 63 = .ok (.istore 9, 2) := by decide +kernel
theorem dJx4497a_toDecimal_a02bb_65 : decode cJx4497a_toDecimal_a02bb 65 = .ok (.ldc2_w 76, 3) := by decide +kernel
theorem dJx4497a_toDecimal_a02bb_68 : decode cJx4497a_toDecimal_a02bb 68 = .ok (.lload 6, 2) := by decide +kernel
theorem dJx4497a_toDecimal_a02bb_70 : decode cJx4497a_toDecimal_a02bb 70 = .ok (.lor, 1) := by decide +kernel
theorem dJx4497a_toDecimal_a02bb_71 : decode cJx4497a_toDecimal_a02bb 71 = .ok (.lstore 10, 2) := by decide +kernel
theorem dJx4497a_toDecimal_a02bb_73 : decode cJx4497a_toDecimal_a02bb 73 = .ok (.iconst 0, 1) := by decide +kernel
theorem dJx4497a_toDecimal_a02bb_74 : decode cJx4497a_toDecimal_a02bb 74 = .ok (.iload 9, 2) := by decide +kernel
theorem dJx4497a_toDecimal_a02bb_76 : decode cJx4497a_toDecimal_a02bb 76 = .ok (.if_icmp .ge 7, 3) := by decide +kernel
theorem dJx4497a_toDecimal_a02bb_79 : decode cJx4497a_toDecimal_a02bb 79 = .ok (.iconst 1, 1) := by decide +kernel
theorem dJx4497a_toDecimal_a02bb_80 : decode cJx4497a_toDecimal_a02bb 80 = .ok (.goto 4, 3) := by decide +kernel
theorem dJx4497a_toDecimal_a02bb_83 : decode cJx4497a_toDecimal_a02bb 83 = .ok (.iconst 0, 1) := by decide +kernel
theorem dJx4497a_toDecimal_a02bb_84 : decode cJx4497a_toDecimal_a02bb 84 = .ok (.iload 9, 2) := by decide +kernel
theorem dJx4497a_toDecimal_a02bb_86 : decode cJx4497a_toDecimal_a02bb 86 = .ok (.bipush 53, 2) := by decide +kernel
theorem dJx4497a_toDecimal_a02bb_88 : decode cJx4497a_toDecimal_a02bb 88 = .ok (.if_icmp .ge 7, 3) := by decide +kernel
theorem dJx4497a_toDecimal_a02bb_91 : decode cJx4497a_toDecimal_a02bb 91 = .ok (.iconst 1, 1) := by decide +kernel
theorem dJx4497a_toDecimal_a02bb_92 : decode cJx4497a_toDecimal_a02bb 92 = .ok (.goto 4, 3) := by decide +kernel
theorem dJx4497a_toDecimal_a02bb_95 : decode cJx4497a_toDecimal_a02bb 95 = .ok (.iconst 0, 1) := by decide +kernel
theorem dJx4497a_toDecimal_a02bb_96 : decode cJx4497a_toDecimal_a02bb 96 = .ok (.iand, 1) := by decide +kernel
theorem dJx4497a_toDecimal_a02bb_97 : decode cJx4497a_toDecimal_a02bb 97 = .ok (.ifCond .eq 30, 3) := by decide +kernel
theorem dJx4497a_toDecimal_a02bb_100 : decode cJx4497a_toDecimal_a02bb 100 = .ok (.lload 10, 2) := by decide +kernel
theorem dJx4497a_toDecimal_a02bb_102 : decode cJx4497a_toDecimal_a02bb 102 = .ok (.iload 9, 2) := by decide +kernel
theorem dJx4497a_toDecimal_a02bb_104 : decode cJx4497a_toDecimal_a02bb 104 = .ok (.lshr, 1) := by decide +kernel
theorem dJx4497a_toDecimal_a02bb_105 : decode cJx4497a_toDecimal_a02bb 105 = .ok (.lstore 12, 2) := by decide +kernel
theorem dJx4497a_toDecimal_a02bb_107 : decode cJx4497a_toDecimal_a02bb 107 = .ok (.lload 12, 2) := by decide +kernel
theorem dJx4497a_toDecimal_a02bb_109 : decode cJx4497a_toDecimal_a02bb 109 = .ok (.iload 9, 2) := by decide +kernel
theorem dJx4497a_toDecimal_a02bb_111 : decode cJx4497a_toDecimal_a02bb 111 = .ok (.lshl, 1) := by decide +kernel
theorem dJx4497a_toDecimal_a02bb_112 : decode cJx4497a_toDecimal_a02bb 112 = .ok (.lload 10, 2) := by decide +kernel
theorem dJx4497a_toDecimal_a02bb_114 : decode cJx4497a_toDecimal_a02bb 114 = .ok (.lcmp, 1) := by decide +kernel
theorem dJx4497a_toDecimal_a02bb_115 : decode cJx4497a_toDecimal_a02bb 115 = .ok (.ifCond .ne 12, 3) := by decide +kernel
theorem dJx4497a_toDecimal_a02bb_118 : decode cJx4497a_toDecimal_a02bb 118 = .ok (.aload_n 0, 1) := by decide +kernel
theorem dJx4497a_toDecimal_a02bb_119 : decode cJx4497a_toDecimal_a02bb 119 = .ok (.lload 12, 2) := by decide +kernel
theorem dJx4497a_toDecimal_a02bb_121 : decode cJx4497a_toDecimal_a02bb 121 = .ok (.iconst 0, 1) := by decide +kernel
theorem dJx4497a_toDecimal_a02bb_122 : decode cJx4497a_toDecimal_a02bb 122 = .ok (.aload_n 3, 1) := by decide +kernel
theorem dJx4497a_toDecimal_a02bb_123 : decode cJx4497a_toDecimal_a02bb 123 = .ok (.invokevirtual 78, 3) := by decide +kernel
theorem dJx4497a_toDecimal_a02bb_126 : decode cJx4497a_toDecimal_a02bb 126 = .ok (.ireturn, 1) := by decide +kernel
theorem dJx4497a_toDecimal_a02bb_127 : decode cJx4497a_toDecimal_a02bb 127 = .ok (.aload_n 0, 1) := by decide +kernel
theorem dJx4497a_toDecimal_a02bb_128 : decode cJx4497a_toDecimal_a02bb 128 = .ok (.iload 9, 2) := by decide +kernel
theorem dJx4497a_toDecimal_a02bb_130 : decode cJx4497a_toDecimal_a02bb 130 = .ok (.ineg, 1) := by decide +kernel
theorem dJx4497a_toDecimal_a02bb_131 : decode cJx4497a_toDecimal_a02bb 131 = .ok (.lload 10, 2) := by decide +kernel
theorem dJx4497a_toDecimal_a02bb_133 : decode cJx4497a_toDecimal_a02bb 133 = .ok (.iconst 0, 1) := by decide +kernel
theorem dJx4497a_toDecimal_a02bb_134 : decode cJx4497a_toDecimal_a02bb 134 = .ok (.aload_n 3, 1) := by decide +kernel
theorem dJx4497a_toDecimal_a02bb_135 : decode cJx4497a_toDecimal_a02bb 135 = .ok (.invokevirtual 82, 3) := by decide +kernel
theorem dJx4497a_toDecimal_a02bb_138 : decode cJx4497a_toDecimal_a02bb 138 = .ok (.ireturn, 1) := by decide +kernel
theorem dJx4497a_toDecimal_a02bb_139 : decode cJx4497a_toDecimal_a02bb 139 = .ok (.lload 6, 2) := by decide +kernel
theorem dJx4497a_toDecimal_a02bb_141 : decode cJx4497a_toDecimal_a02bb 141 = .ok (.lconst 0, 1) := by decide +kernel
theorem dJx4497a_toDecimal_a02bb_142 : decode cJx4497a_toDecimal_a02bb 142 = .ok (.lcmp, 1) := by decide +kernel
theorem dJx4497a_toDecimal_a02bb_143 : decode cJx4497a_toDecimal_a02bb 143 = .ok (.ifCond .eq 42, 3) := by decide +kernel
theorem dJx4497a_toDecimal_a02bb_146 : decode cJx4497a_toDecimal_a02bb 146 = .ok (.lload 6, 2) := by decide +kernel
theorem dJx4497a_toDecimal_a02bb_148 : decode cJx4497a_toDecimal_a02bb 148 = .ok (.ldc2_w 85, 3) := by decide +kernel
theorem dJx4497a_toDecimal_a02bb_151 : decode cJx4497a_toDecimal_a02bb 151 = .ok (.lcmp, 1) := by decide +kernel
theorem dJx4497a_toDecimal_a02bb_152 : decode cJx4497a_toDecimal_a02bb 152 = .ok (.ifCond .ge 21, 3) := by decide +kernel
theorem dJx4497a_toDecimal_a02bb_155 : decode cJx4497a_toDecimal_a02bb 155 = .ok (.aload_n 0, 1) := by decide +kernel
theorem dJx4497a_toDecimal_a02bb_156 : decode cJx4497a_toDecimal_a02bb 156 = .ok (.sipush (-1074), 3) := by decide +kernel
theorem dJx4497a_toDecimal_a02bb_159 : decode cJx4497a_toDecimal_a02bb 159 = .ok (.ldc2_w 87, 3) := by decide +kernel
theorem dJx4497a_toDecimal_a02bb_162 : decode cJx4497a_toDecimal_a02bb 162 = .ok (.lload 6, 2) := by decide +kernel
theorem dJx4497a_toDecimal_a02bb_164 : decode cJx4497a_toDecimal_a02bb 164 = .ok (.lmul, 1) := by decide +kernel
theorem dJx4497a_toDecimal_a02bb_165 : decode cJx4497a_toDecimal_a02bb 165 = .ok (.iconst (-1), 1) := by decide +kernel
theorem dJx4497a_toDecimal_a02bb_166 : decode cJx4497a_toDecimal_a02bb 166 = .ok (.aload_n 3, 1) := by decide +kernel
theorem dJx4497a_toDecimal_a02bb_167 : decode cJx4497a_toDecimal_a02bb 167 = .ok (.invokevirtual 82, 3) := by decide +kernel
theorem dJx4497a_toDecimal_a02bb_170 : decode cJx4497a_toDecimal_a02bb 170 = .ok (.goto 14, 3) := by decide +kernel
theorem dJx4497a_toDecimal_a02bb_173 : decode cJx4497a_toDecimal_a02bb 173 = .ok (.aload_n 0, 1) := by decide +kernel
theorem dJx4497a_toDecimal_a02bb_174 : decode cJx4497a_toDecimal_a02bb 174 = .ok (.sipush (-1074), 3) := by decide +kernel
theorem dJx4497a_toDecimal_a02bb_177 : decode cJx4497a_toDecimal_a02bb 177 = .ok (.lload 6, 2) := by decide +kernel
theorem dJx4497a_toDecimal_a02bb_179 : decode cJx4497a_toDecimal_a02bb 179 = .ok (.iconst 0, 1) := by decide +kernel
theorem dJx4497a_toDecimal_a02bb_180 : decode cJx4497a_toDecimal_a02bb 180 = .ok (.aload_n 3, 1) := by decide +kernel
theorem dJx4497a_toDecimal_a02bb_181 : decode cJx4497a_toDecimal_a02bb 181 = .ok (.invokevirtual 82, 3) := by decide +kernel
theorem dJx4497a_toDecimal_a02bb_184 : decode cJx4497a_toDecimal_a02bb 184 = .ok (.ireturn, 1) := by decide +kernel
theorem dJx4497a_toDecimal_a02bb_185 : decode cJx4497a_toDecimal_a02bb 185 = .ok (.lload 4, 2) := by decide +kernel
theorem dJx4497a_toDecimal_a02bb_187 : decode cJx4497a_toDecimal_a02bb 187 = .ok (.lconst 0, 1) := by decide +kernel
theorem dJx4497a_toDecimal_a02bb_188 : decode cJx4497a_toDecimal_a02bb 188 = .ok (.lcmp, 1) := by decide +kernel
theorem dJx4497a_toDecimal_a02bb_189 : decode cJx4497a_toDecimal_a02bb 189 = .ok (.ifCond .ne 7, 3) := by decide +kernel
theorem dJx4497a_toDecimal_a02bb_192 : decode cJx4497a_toDecimal_a02bb 192 = .ok (.iconst 1, 1) := by decide +kernel
theorem dJx4497a_toDecimal_a02bb_193 : decode cJx4497a_toDecimal_a02bb 193 = .ok (.goto 4, 3) := by decide +kernel
theorem dJx4497a_toDecimal_a02bb_196 : decode cJx4497a_toDecimal_a02bb 196 = .ok (.iconst 2, 1) := by decide +kernel
theorem dJx4497a_toDecimal_a02bb_197 : decode cJx4497a_toDecimal_a02bb 197 = .ok (.ireturn, 1) := by decide +kernel
theorem dJx4497a_toDecimal_a02bb_198 : decode cJx4497a_toDecimal_a02bb 198 = .ok (.lload 6, 2) := by decide +kernel
theorem dJx4497a_toDecimal_a02bb_200 : decode cJx4497a_toDecimal_a02bb 200 = .ok (.lconst 0, 1) := by decide +kernel
theorem dJx4497a_toDecimal_a02bb_201 : decode cJx4497a_toDecimal_a02bb 201 = .ok (.lcmp, 1) := by decide +kernel
theorem dJx4497a_toDecimal_a02bb_202 : decode cJx4497a_toDecimal_a02bb 202 = .ok (.ifCond .eq 5, 3) := by decide +kernel
theorem dJx4497a_toDecimal_a02bb_205 : decode cJx4497a_toDecimal_a02bb 205 = .ok (.iconst 5, 1) := by decide +kernel
theorem dJx4497a_toDecimal_a02bb_206 : decode cJx4497a_toDecimal_a02bb 206 = .ok (.ireturn, 1) := by decide +kernel
theorem dJx4497a_toDecimal_a02bb_207 : decode cJx4497a_toDecimal_a02bb 207 = .ok (.lload 4, 2) := by decide +kernel
theorem dJx4497a_toDecimal_a02bb_209 : decode cJx4497a_toDecimal_a02bb 209 = .ok (.lconst 0, 1) := by decide +kernel
theorem dJx4497a_toDecimal_a02bb_210 : decode cJx4497a_toDecimal_a02bb 210 = .ok (.lcmp, 1) := by decide +kernel
theorem dJx4497a_toDecimal_a02bb_211 : decode cJx4497a_toDecimal_a02bb 211 = .ok (.ifCond .le 7, 3) := by decide +kernel
theorem dJx4497a_toDecimal_a02bb_214 : decode cJx4497a_toDecimal_a02bb 214 = .ok (.iconst 3, 1) := by decide +kernel
theorem dJx4497a_toDecimal_a02bb_215 : decode cJx4497a_toDecimal_a02bb 215 = .ok (.goto 4, 3) := by decide +kernel
theorem dJx4497a_toDecimal_a02bb_218 : decode cJx4497a_toDecimal_a02bb 218 = .ok (.iconst 4, 1) := by decide +kernel
theorem dJx4497a_toDecimal_a02bb_219 : decode cJx4497a_toDecimal_a02bb 219 = .ok (.ireturn, 1) := by decide +kernel
theorem dJx4497a_toDecimal_3416a_0 : decode cJx4497a_toDecimal_3416a 0 = .ok (.lload_n 2, 1) := by decide +kernel
theorem dJx4497a_toDecimal_3416a_1 : decode cJx4497a_toDecimal_3416a 1 = .ok (.l2i, 1) := by decide +kernel
theorem dJx4497a_toDecimal_3416a_2 : decode cJx4497a_toDecimal_3416a 2 = .ok (.iconst 1, 1) := by decide +kernel
theorem dJx4497a_toDecimal_3416a_3 : decode cJx4497a_toDecimal_3416a 3 = .ok (.iand, 1) := by decide +kernel
theorem dJx4497a_toDecimal_3416a_4 : decode cJx4497a_toDecimal_3416a 4 = .ok (.istore 6, 2) := by decide +kernel
theorem dJx4497a_toDecimal_3416a_6 : decode cJx4497a_toDecimal_3416a 6 = .ok (.lload_n 2, 1) := by decide +kernel
theorem dJx4497a_toDecimal_3416a_7 : decode cJx4497a_toDecimal_3416a 7 = .ok (.iconst 2, 1) := by decide +kernel
theorem dJx4497a_toDecimal_3416a_8 : decode cJx4497a_toDecimal_3416a 8 = .ok (.lshl, 1) := by decide +kernel
theorem dJx4497a_toDecimal_3416a_9 : decode cJx4497a_toDecimal_3416a 9 = .ok (.lstore 7, 2) := by decide +kernel
theorem dJx4497a_toDecimal_3416a_11 : decode cJx4497a_toDecimal_3416a 11 = .ok (.lload 7, 2) := by decide +kernel
theorem dJx4497a_toDecimal_3416a_13 : decode cJx4497a_toDecimal_3416a 13 = .ok (.ldc2_w 89, 3) := by decide +kernel
theorem dJx4497a_toDecimal_3416a_16 : decode cJx4497a_toDecimal_3416a 16 = .ok (.ladd, 1) := by decide +kernel
theorem dJx4497a_toDecimal_3416a_17 : decode cJx4497a_toDecimal_3416a 17 = .ok (.lstore 9, 2) := by decide +kernel
theorem dJx4497a_toDecimal_3416a_19 : decode cJx4497a_toDecimal_3416a 19 = .ok (.lload_n 2, 1) := by decide +kernel
theorem dJx4497a_toDecimal_3416a_20 : decode cJx4497a_toDecimal_3416a 20 = .ok (.ldc2_w 76, 3) := by decide +kernel
theorem dJx4497a_toDecimal_3416a_23 : decode cJx4497a_toDecimal_3416a 23 = .ok (.lcmp, 1) := by decide +kernel
theorem dJx4497a_toDecimal_3416a_24 : decode cJx4497a_toDecimal_3416a 24 = .ok (.ifCond .eq 7, 3) := by decide +kernel
theorem dJx4497a_toDecimal_3416a_27 : decode cJx4497a_toDecimal_3416a 27 = .ok (.iconst 1, 1) := by decide +kernel
theorem dJx4497a_toDecimal_3416a_28 : decode cJx4497a_toDecimal_3416a 28 = .ok (.goto 4, 3) := by decide +kernel
theorem dJx4497a_toDecimal_3416a_31 : decode cJx4497a_toDecimal_3416a 31 = .ok (.iconst 0, 1) := by decide +kernel
theorem dJx4497a_toDecimal_3416a_32 : decode cJx4497a_toDecimal_3416a 32 = .ok (.iload_n 1, 1) := by decide +kernel
theorem dJx4497a_toDecimal_3416a_33 : decode cJx4497a_toDecimal_3416a 33 = .ok (.sipush (-1074), 3) := by decide +kernel
theorem dJx4497a_toDecimal_3416a_36 : decode cJx4497a_toDecimal_3416a 36 = .ok (.if_icmp .ne 7, 3) := by decide +kernel
theorem dJx4497a_toDecimal_3416a_39 : decode cJx4497a_toDecimal_3416a 39 = .ok (.iconst 1, 1) := by decide +kernel
theorem dJx4497a_toDecimal_3416a_40 : decode cJx4497a_toDecimal_3416a 40 = .ok (.goto 4, 3) := by decide +kernel
theorem dJx4497a_toDecimal_3416a_43 : decode cJx4497a_toDecimal_3416a 43 = .ok (.iconst 0, 1) := by decide +kernel
theorem dJx4497a_toDecimal_3416a_44 : decode cJx4497a_toDecimal_3416a 44 = .ok (.ior, 1) := by decide +kernel
theorem dJx4497a_toDecimal_3416a_45 : decode cJx4497a_toDecimal_3416a 45 = .ok (.ifCond .eq 20, 3) := by decide +kernel
theorem dJx4497a_toDecimal_3416a_48 : decode cJx4497a_toDecimal_3416a 48 = .ok (.lload 7, 2) := by decide +kernel
theorem dJx4497a_toDecimal_3416a_50 : decode cJx4497a_toDecimal_3416a 50 = .ok (.ldc2_w 89, 3) := by decide +kernel
theorem dJx4497a_toDecimal_3416a_53 : decode cJx4497a_toDecimal_3416a 53 = .ok (.lsub, 1) := by decide +kernel
theorem dJx4497a_toDecimal_3416a_54 : decode cJx4497a_toDecimal_3416a 54 = .ok (.lstore 11, 2) := by decide +kernel
theorem dJx4497a_toDecimal_3416a_56 : decode cJx4497a_toDecimal_3416a 56 = .ok (.iload_n 1, 1) := by decide +kernel
theorem dJx4497a_toDecimal_3416a_57 : decode cJx4497a_toDecimal_3416a 57 = .ok (.invokestatic 91, 3) := by decide +kernel
theorem dJx4497a_toDecimal_3416a_60 : decode cJx4497a_toDecimal_3416a 60 = .ok (.istore 13, 2) := by decide +kernel
theorem dJx4497a_toDecimal_3416a_62 : decode cJx4497a_toDecimal_3416a 62 = .ok (.goto 15, 3) := by decide +kernel
theorem dJx4497a_toDecimal_3416a_65 : decode cJx4497a_toDecimal_3416a 65 = .ok (.lload 7, 2) := by decide +kernel
theorem dJx4497a_toDecimal_3416a_67 : decode cJx4497a_toDecimal_3416a 67 = .ok (.lconst 1, 1) := by decide +kernel
theorem dJx4497a_toDecimal_3416a_68 : decode cJx4497a_toDecimal_3416a 68 = .ok (.lsub, 1) := by decide +kernel
theorem dJx4497a_toDecimal_3416a_69 : decode cJx4497a_toDecimal_3416a 69 = .ok (.lstore 11, 2) := by decide +kernel
theorem dJx4497a_toDecimal_3416a_71 : decode cJx4497a_toDecimal_3416a 71 = .ok (.iload_n 1, 1) := by decide +kernel
theorem dJx4497a_toDecimal_3416a_72 : decode cJx4497a_toDecimal_3416a 72 = .ok (.invokestatic 97, 3) := by decide +kernel
theorem dJx4497a_toDecimal_3416a_75 : decode cJx4497a_toDecimal_3416a 75 = .ok (.istore 13, 2) := by decide +kernel
theorem dJx4497a_toDecimal_3416a_77 : decode cJx4497a_toDecimal_3416a 77 = .ok (.iload_n 1, 1) := by decide +kernel
theorem dJx4497a_toDecimal_3416a_78 : decode cJx4497a_toDecimal_3416a 78 = .ok (.iload 13, 2) := by decide +kernel
theorem dJx4497a_toDecimal_3416a_80 : decode cJx4497a_toDecimal_3416a 80 = .ok (.ineg, 1) := by decide +kernel
theorem dJx4497a_toDecimal_3416a_81 : decode cJx4497a_toDecimal_3416a 81 = .ok (.invokestatic 100, 3) := by decide +kernel
theorem dJx4497a_toDecimal_3416a_84 : decode cJx4497a_toDecimal_3416a 84 = .ok (.iadd, 1) := by decide +kernel
theorem dJx4497a_toDecimal_3416a_85 : decode cJx4497a_toDecimal_3416a 85 = .ok (.iconst 2, 1) := by decide +kernel
theorem dJx4497a_toDecimal_3416a_86 : decode cJx4497a_toDecimal_3416a 86 = .ok (.iadd, 1) := by decide +kernel
theorem dJx4497a_toDecimal_3416a_87 : decode cJx4497a_toDecimal_3416a 87 = .ok (.istore 14, 2) := by decide +kernel
theorem dJx4497a_toDecimal_3416a_89 : decode cJx4497a_toDecimal_3416a 89 = .ok (.iload 13, 2) := by decide +kernel
theorem dJx4497a_toDecimal_3416a_91 : decode cJx4497a_toDecimal_3416a 91 = .ok (.invokestatic 103, 3) := by decide +kernel
theorem dJx4497a_toDecimal_3416a_94 : decode cJx4497a_toDecimal_3416a 94 = .ok (.lstore 15, 2) := by decide +kernel
theorem dJx4497a_toDecimal_3416a_96 : decode cJx4497a_toDecimal_3416a 96 = .ok (.iload 13, 2) := by decide +kernel
theorem dJx4497a_toDecimal_3416a_98 : decode cJx4497a_toDecimal_3416a 98 = .ok (.invokestatic 107, 3) := by decide +kernel
theorem dJx4497a_toDecimal_3416a_101 : decode cJx4497a_toDecimal_3416a 101 = .ok (.lstore 17, 2) := by decide +kernel
theorem dJx4497a_toDecimal_3416a_103 : decode cJx4497a_toDecimal_3416a 103 = .ok (.lload 15, 2) := by decide +kernel
theorem dJx4497a_toDecimal_3416a_105 : decode cJx4497a_toDecimal_3416a 105 = .ok (.lload 17, 2) := by decide +kernel
theorem dJx4497a_toDecimal_3416a_107 : decode cJx4497a_toDecimal_3416a 107 = .ok (.lload 7, 2) := by decide +kernel
theorem dJx4497a_toDecimal_3416a_109 : decode cJx4497a_toDecimal_3416a 109 = .ok (.iload 14, 2) := by decide +kernel
theorem dJx4497a_toDecimal_3416a_111 : decode cJx4497a_toDecimal_3416a 111 = .ok (.lshl, 1) := by decide +kernel
theorem dJx4497a_toDecimal_3416a_112 : decode cJx4497a_toDecimal_3416a 112 = .ok (.invokestatic 110, 3) := by decide +kernel
theorem dJx4497a_toDecimal_3416a_115 : decode cJx4497a_toDecimal_3416a 115 = .ok (.lstore 19, 2) := by decide +kernel
theorem dJx4497a_toDecimal_3416a_117 : decode cJx4497a_toDecimal_3416a 117 = .ok (.lload 15, 2) := by decide +kernel
theorem dJx4497a_toDecimal_3416a_119 : decode cJx4497a_toDecimal_3416a 119 = .ok (.lload 17, 2) := by decide +kernel
theorem dJx4497a_toDecimal_3416a_121 : decode cJx4497a_toDecimal_3416a 121 = .ok (.lload 11, 2) := by decide +kernel
theorem dJx4497a_toDecimal_3416a_123 : decode cJx4497a_toDecimal_3416a 123 = .ok (.iload 14, 2) := by decide +kernel
theorem dJx4497a_toDecimal_3416a_125 : decode cJx4497a_toDecimal_3416a 125 = .ok (.lshl, 1) := by decide +kernel
theorem dJx4497a_toDecimal_3416a_126 : decode cJx4497a_toDecimal_3416a 126 = .ok (.invokestatic 110, 3) := by decide +kernel
theorem dJx4497a_toDecimal_3416a_129 : decode cJx4497a_toDecimal_3416a 129 = .ok (.lstore 21, 2) := by decide +kernel
theorem dJx4497a_toDecimal_3416a_131 : decode cJx4497a_toDecimal_3416a 131 = .ok (.lload 15, 2) := by decide +kernel
theorem dJx4497a_toDecimal_3416a_133 : decode cJx4497a_toDecimal_3416a 133 = .ok (.lload 17, 2) := by decide +kernel
theorem dJx4497a_toDecimal_3416a_135 : decode cJx4497a_toDecimal_3416a 135 = .ok (.lload 9, 2) := by decide +kernel
theorem dJx4497a_toDecimal_3416a_137 : decode cJx4497a_toDecimal_3416a 137 = .ok (.iload 14, 2) := by decide +kernel
theorem dJx4497a_toDecimal_3416a_139 : decode cJx4497a_toDecimal_3416a 139 = .ok (.lshl, 1) := by decide +kernel
theorem dJx4497a_toDecimal_3416a_140 : decode cJx4497a_toDecimal_3416a 140 = .ok (.invokestatic 110, 3) := by decide +kernel
theorem dJx4497a_toDecimal_3416a_143 : decode cJx4497a_toDecimal_3416a 143 = .ok (.lstore 23, 2) := by decide +kernel
theorem dJx4497a_toDecimal_3416a_145 : decode cJx4497a_toDecimal_3416a 145 = .ok (.lload 19, 2) := by decide +kernel
theorem dJx4497a_toDecimal_3416a_147 : decode cJx4497a_toDecimal_3416a 147 = .ok (.iconst 2, 1) := by decide +kernel
theorem dJx4497a_toDecimal_3416a_148 : decode cJx4497a_toDecimal_3416a 148 = .ok (.lshr, 1) := by decide +kernel
theorem dJx4497a_toDecimal_3416a_149 : decode cJx4497a_toDecimal_3416a 149 = .ok (.lstore 25, 2) := by decide +kernel
theorem dJx4497a_toDecimal_3416a_151 : decode cJx4497a_toDecimal_3416a 151 = .ok (.lload 25, 2) := by decide +kernel
theorem dJx4497a_toDecimal_3416a_153 : decode cJx4497a_toDecimal_3416a 153 = .ok (.ldc2_w 114, 3) := by decide +kernel
theorem dJx4497a_toDecimal_3416a_156 : decode cJx4497a_toDecimal_3416a 156 = .ok (.lcmp, 1) := by decide +kernel
theorem dJx4497a_toDecimal_3416a_157 : decode cJx4497a_toDecimal_3416a 157 = .ok (.ifCond .lt 95, 3) := by decide +kernel
theorem dJx4497a_toDecimal_3416a_160 : decode cJx4497a_toDecimal_3416a 160 = .ok (.ldc2_w 87, 3) := by decide +kernel
theorem dJx4497a_toDecimal_3416a_163 : decode cJx4497a_toDecimal_3416a 163 = .ok (.lload 25, 2) := by decide +kernel
theorem dJx4497a_toDecimal_3416a_165 : decode cJx4497a_toDecimal_3416a 165 = .ok (.ldc2_w 116, 3) := by decide +kernel
theorem dJx4497a_toDecimal_3416a_168 : decode cJx4497a_toDecimal_3416a 168 = .ok (.invokestatic 118, 3) := by decide +kernel
theorem dJx4497a_toDecimal_3416a_171 : decode cJx4497a_toDecimal_3416a 171 = .ok (.lmul, 1) := by decide +kernel
theorem dJx4497a_toDecimal_3416a_172 : decode cJx4497a_toDecimal_3416a 172 = .ok (.lstore 27, 2) := by decide +kernel
theorem dJx4497a_toDecimal_3416a_174 : decode cJx4497a_toDecimal_3416a 174 = .ok (.lload 27, 2) := by decide +kernel
theorem dJx4497a_toDecimal_3416a_176 : decode cJx4497a_toDecimal_3416a 176 = .ok (.ldc2_w 87, 3) := by decide +kernel
theorem dJx4497a_toDecimal_3416a_179 : decode cJx4497a_toDecimal_3416a 179 = .ok (.ladd, 1) := by decide +kernel
theorem dJx4497a_toDecimal_3416a_180 : decode cJx4497a_toDecimal_3416a 180 = .ok (.lstore 29, 2) := by decide +kernel
theorem dJx4497a_toDecimal_3416a_182 : decode cJx4497a_toDecimal_3416a 182 = .ok (.lload 21, 2) := by decide +kernel
theorem dJx4497a_toDecimal_3416a_184 : decode cJx4497a_toDecimal_3416a 184 = .ok (.iload 6, 2) := by decide +kernel
theorem dJx4497a_toDecimal_3416a_186 : decode cJx4497a_toDecimal_3416a 186 = .ok (.i2l, 1) := by decide +kernel
theorem dJx4497a_toDecimal_3416a_187 : decode cJx4497a_toDecimal_3416a 187 = .ok (.ladd, 1) := by decide +kernel
theorem dJx4497a_toDecimal_3416a_188 : decode cJx4497a_toDecimal_3416a 188 = .ok (.lload 27, 2) := by decide +kernel
theorem dJx4497a_toDecimal_3416a_190 : decode cJx4497a_toDecimal_3416a 190 = .ok (.iconst 2, 1) := by decide +kernel
theorem dJx4497a_toDecimal_3416a_191 : decode cJx4497a_toDecimal_3416a 191 = .ok (.lshl, 1) := by decide +kernel
theorem dJx4497a_toDecimal_3416a_192 : decode cJx4497a_toDecimal_3416a 192 = .ok (.lcmp, 1) := by decide +kernel
theorem dJx4497a_toDecimal_3416a_193 : decode cJx4497a_toDecimal_3416a 193 = .ok (.ifCond .gt 7, 3) := by decide +kernel
theorem dJx4497a_toDecimal_3416a_196 : decode cJx4497a_toDecimal_3416a 196 = .ok (.iconst 1, 1) := by decide +kernel
theorem dJx4497a_toDecimal_3416a_197 : decode cJx4497a_toDecimal_3416a 197 = .ok (.goto 4, 3) := by decide +kernel
theorem dJx4497a_toDecimal_3416a_200 : decode cJx4497a_toDecimal_3416a 200 = .ok (.iconst 0, 1) := by decide +kernel
theorem dJx4497a_toDecimal_3416a_201 : decode cJx4497a_toDecimal_3416a 201 = .ok (.istore 31, 2) := by decide +kernel
theorem dJx4497a_toDecimal_3416a_203 : decode cJx4497a_toDecimal_3416a 203 = .ok (.lload 29, 2) := by decide +kernel
theorem dJx4497a_toDecimal_3416a_205 : decode cJx4497a_toDecimal_3416a 205 = .ok (.iconst 2, 1) := by decide +kernel
theorem dJx4497a_toDecimal_3416a_206 : decode cJx4497a_toDecimal_3416a 206 = .ok (.lshl, 1) := by decide +kernel
theorem dJx4497a_toDecimal_3416a_207 : decode cJx4497a_toDecimal_3416a 207 = .ok (.iload 6, 2) := by decide +kernel
theorem dJx4497a_toDecimal_3416a_209 : decode cJx4497a_toDecimal_3416a 209 = .ok (.i2l, 1) := by decide +kernel
theorem dJx4497a_toDecimal_3416a_210 : decode cJx4497a_toDecimal_3416a 210 = .ok (.ladd, 1) := by decide +kernel
theorem dJx4497a_toDecimal_3416a_211 : decode cJx4497a_toDecimal_3416a 211 = .ok (.lload 23, 2) := by decide +kernel
theorem dJx4497a_toDecimal_3416a_213 : decode cJx4497a_toDecimal_3416a 213 = .ok (.lcmp, 1) := by decide +kernel
theorem dJx4497a_toDecimal_3416a_214 : decode cJx4497a_toDecimal_3416a 214 = .ok (.ifCond .gt 7, 3) := by decide +kernel
theorem dJx4497a_toDecimal_3416a_217 : decode cJx4497a_toDecimal_3416a 217 = .ok (.iconst 1, 1) := by decide +kernel
theorem dJx4497a_toDecimal_3416a_218 : decode cJx4497a_toDecimal_3416a 218 = .ok (.goto 4, 3) := by decide +kernel
theorem dJx4497a_toDecimal_3416a_221 : decode cJx4497a_toDecimal_3416a 221 = .ok (.iconst 0, 1) := by decide +kernel
theorem dJx4497a_toDecimal_3416a_222 : decode cJx4497a_toDecimal_3416a 222 = .ok (.istore 32, 2) := by decide +kernel
theorem dJx4497a_toDecimal_3416a_224 : decode cJx4497a_toDecimal_3416a 224 = .ok (.iload 31, 2) := by decide +kernel
theorem dJx4497a_toDecimal_3416a_226 : decode cJx4497a_toDecimal_3416a 226 = .ok (.iload 32, 2) := by decide +kernel
theorem dJx4497a_toDecimal_3416a_228 : decode cJx4497a_toDecimal_3416a 228 = .ok (.if_icmp .eq 24, 3) := by decide +kernel
theorem dJx4497a_toDecimal_3416a_231 : decode cJx4497a_toDecimal_3416a 231 = .ok (.aload_n 0, 1) := by decide +kernel
theorem dJx4497a_toDecimal_3416a_232 : decode cJx4497a_toDecimal_3416a 232 = .ok (.iload 31, 2) := by decide +kernel
theorem dJx4497a_toDecimal_3416a_234 : decode cJx4497a_toDecimal_3416a 234 = .ok (.ifCond .eq 8, 3) := by decide +kernel
theorem dJx4497a_toDecimal_3416a_237 : decode cJx4497a_toDecimal_3416a 237 = .ok (.lload 27, 2) := by decide +kernel
theorem dJx4497a_toDecimal_3416a_239 : decode cJx4497a_toDecimal_3416a 239 = .ok (.goto 5, 3) := by decide +kernel
theorem dJx4497a_toDecimal_3416a_242 : decode cJx4497a_toDecimal_3416a 242 = .ok (.lload 29, 2) := by decide +kernel
theorem dJx4497a_toDecimal_3416a_244 : decode cJx4497a_toDecimal_3416a 244 = .ok (.iload 13, 2) := by decide +kernel
theorem dJx4497a_toDecimal_3416a_246 : decode cJx4497a_toDecimal_3416a 246 = .ok (.aload 5, 2) := by decide +kernel
theorem dJx4497a_toDecimal_3416a_248 : decode cJx4497a_toDecimal_3416a 248 = .ok (.invokevirtual 78, 3) := by decide +kernel
theorem dJx4497a_toDecimal_3416a_251 : decode cJx4497a_toDecimal_3416a 251 = .ok (.ireturn, 1) := by decide +kernel
theorem dJx4497a_toDecimal_3416a_252 : decode cJx4497a_toDecimal_3416a 252 = .ok (.lload 25, 2) := by decide +kernel
theorem dJx4497a_toDecimal_3416a_254 : decode cJx4497a_toDecimal_3416a 254 = .ok (.lconst 1, 1) := by decide +kernel
theorem dJx4497a_toDecimal_3416a_255 : decode cJx4497a_toDecimal_3416a 255 = .ok (.ladd, 1) := by decide +kernel
theorem dJx4497a_toDecimal_3416a_256 : decode cJx4497a_toDecimal_3416a 256 = .ok (.lstore 27, 2) := by decide +kernel
theorem dJx4497a_toDecimal_3416a_258 : decode cJx4497a_toDecimal_3416a 258 = .ok (.lload 21, 2) := by decide +kernel
theorem dJx4497a_toDecimal_3416a_260 : decode cJx4497a_toDecimal_3416a 260 = .ok (.iload 6, 2) := by decide +kernel
theorem dJx4497a_toDecimal_3416a_262 : decode cJx4497a_toDecimal_3416a 262 = .ok (.i2l, 1) := by decide +kernel
theorem dJx4497a_toDecimal_3416a_263 : decode cJx4497a_toDecimal_3416a 263 = .ok (.ladd, 1) := by decide +kernel
theorem dJx4497a_toDecimal_3416a_264 : decode cJx4497a_toDecimal_3416a 264 = .ok (.lload 25, 2) := by decide +kernel
theorem dJx4497a_toDecimal_3416a_266 : decode cJx4497a_toDecimal_3416a 266 = .ok (.iconst 2, 1) := by decide +kernel
theorem dJx4497a_toDecimal_3416a_267 : decode cJx4497a_toDecimal_3416a 267 = .ok (.lshl, 1) := by decide +kernel
theorem dJx4497a_toDecimal_3416a_268 : decode cJx4497a_toDecimal_3416a 268 = .ok (.lcmp, 1) := by decide +kernel
theorem dJx4497a_toDecimal_3416a_269 : decode cJx4497a_toDecimal_3416a 269 = .ok (.ifCond .gt 7, 3) := by decide +kernel
theorem dJx4497a_toDecimal_3416a_272 : decode cJx4497a_toDecimal_3416a 272 = .ok (.iconst 1, 1) := by decide +kernel
theorem dJx4497a_toDecimal_3416a_273 : decode cJx4497a_toDecimal_3416a 273 = .ok (.goto 4, 3) := by decide +kernel
theorem dJx4497a_toDecimal_3416a_276 : decode cJx4497a_toDecimal_3416a 276 = .ok (.iconst 0, 1) := by decide +kernel
theorem dJx4497a_toDecimal_3416a_277 : decode cJx4497a_toDecimal_3416a 277 = .ok (.istore 29, 2) := by decide +kernel
theorem dJx4497a_toDecimal_3416a_279 : decode cJx4497a_toDecimal_3416a 279 = .ok (.lload 27, 2) := by decide +kernel
theorem dJx4497a_toDecimal_3416a_281 : decode cJx4497a_toDecimal_3416a 281 = .ok (.iconst 2, 1) := by decide +kernel
theorem dJx4497a_toDecimal_3416a_282 : decode cJx4497a_toDecimal_3416a 282 = .ok (.lshl, 1) := by decide +kernel
theorem dJx4497a_toDecimal_3416a_283 : decode cJx4497a_toDecimal_3416a 283 = .ok (.iload 6, 2) := by decide +kernel
theorem dJx4497a_toDecimal_3416a_285 : decode cJx4497a_toDecimal_3416a 285 = .ok (.i2l, 1) := by decide +kernel
theorem dJx4497a_toDecimal_3416a_286 : decode cJx4497a_toDecimal_3416a 286 = .ok (.ladd, 1) := by decide +kernel
theorem dJx4497a_toDecimal_3416a_287 : decode cJx4497a_toDecimal_3416a 287 = .ok (.lload 23, 2) := by decide +kernel
theorem dJx4497a_toDecimal_3416a_289 : decode cJx4497a_toDecimal_3416a 289 = .ok (.lcmp, 1) := by decide +kernel
theorem dJx4497a_toDecimal_3416a_290 : decode cJx4497a_toDecimal_3416a 290 = .ok (.ifCond .gt 7, 3) := by decide +kernel
theorem dJx4497a_toDecimal_3416a_293 : decode cJx4497a_toDecimal_3416a 293 = .ok (.iconst 1, 1) := by decide +kernel
theorem dJx4497a_toDecimal_3416a_294 : decode cJx4497a_toDecimal_3416a 294 = .ok (.goto 4, 3) := by decide +kernel
theorem dJx4497a_toDecimal_3416a_297 : decode cJx4497a_toDecimal_3416a 297 = .ok (.iconst 0, 1) := by decide +kernel
theorem dJx4497a_toDecimal_3416a_298 : decode cJx4497a_toDecimal_3416a 298 = .ok (.istore 30, 2) := by decide +kernel
theorem dJx4497a_toDecimal_3416a_300 : decode cJx4497a_toDecimal_3416a 300 = .ok (.iload 29, 2) := by decide +kernel
theorem dJx4497a_toDecimal_3416a_302 : decode cJx4497a_toDecimal_3416a 302 = .ok (.iload 30, 2) := by decide +kernel
theorem dJx4497a_toDecimal_3416a_304 : decode cJx4497a_toDecimal_3416a 304 = .ok (.if_icmp .eq 27, 3) := by decide +kernel
theorem dJx4497a_toDecimal_3416a_307 : decode cJx4497a_toDecimal_3416a 307 = .ok (.aload_n 0, 1) := by decide +kernel
theorem dJx4497a_toDecimal_3416a_308 : decode cJx4497a_toDecimal_3416a 308 = .ok (.iload 29, 2) := by decide +kernel
theorem dJx4497a_toDecimal_3416a_310 : decode cJx4497a_toDecimal_3416a 310 = .ok (.ifCond .eq 8, 3) := by decide +kernel
theorem dJx4497a_toDecimal_3416a_313 : decode cJx4497a_toDecimal_3416a 313 = .ok (.lload 25, 2) := by decide +kernel
theorem dJx4497a_toDecimal_3416a_315 : decode cJx4497a_toDecimal_3416a 315 = .ok (.goto 5, 3) := by decide +kernel
theorem dJx4497a_toDecimal_3416a_318 : decode cJx4497a_toDecimal_3416a 318 = .ok (.lload 27, 2) := by decide +kernel
theorem dJx4497a_toDecimal_3416a_320 : decode cJx4497a_toDecimal_3416a 320 = .ok (.iload 13, 2) := by decide +kernel
theorem dJx4497a_toDecimal_3416a_322 : decode cJx4497a_toDecimal_3416a 322 = .ok (.iload 4, 2) := by decide +kernel
theorem dJx4497a_toDecimal_3416a_324 : decode cJx4497a_toDecimal_3416a 324 = .ok (.iadd, 1) := by decide +kernel
theorem dJx4497a_toDecimal_3416a_325 : decode cJx4497a_toDecimal_3416a 325 = .ok (.aload 5, 2) := by decide +kernel
theorem dJx4497a_toDecimal_3416a_327 : decode cJx4497a_toDecimal_3416a 327 = .ok (.invokevirtual 78, 3) := by decide +kernel
theorem dJx4497a_toDecimal_3416a_330 : decode cJx4497a_toDecimal_3416a 330 = .ok (.ireturn, 1) := by decide +kernel
theorem dJx4497a_toDecimal_3416a_331 : decode cJx4497a_toDecimal_3416a 331 = .ok (.lload 19, 2) := by decide +kernel
theorem dJx4497a_toDecimal_3416a_333 : decode cJx4497a_toDecimal_3416a 333 = .ok (.lload 25, 2) := by decide +kernel
theorem dJx4497a_toDecimal_3416a_335 : decode cJx4497a_toDecimal_3416a 335 = .ok (.lload 27, 2) := by decide +kernel
theorem dJx4497a_toDecimal_3416a_337 : decode cJx4497a_toDecimal_3416a 337 = .ok (.ladd, 1) := by decide +kernel
theorem dJx4497a_toDecimal_3416a_338 : decode cJx4497a_toDecimal_3416a 338 = .ok (.iconst 1, 1) := by decide +kernel
theorem dJx4497a_toDecimal_3416a_339 : decode cJx4497a_toDecimal_3416a 339 = .ok (.lshl, 1) := by decide +kernel
theorem dJx4497a_toDecimal_3416a_340 : decode cJx4497a_toDecimal_3416a 340 = .ok (.lsub, 1) := by decide +kernel
theorem dJx4497a_toDecimal_3416a_341 : decode cJx4497a_toDecimal_3416a 341 = .ok (.lstore 31, 2) := by decide +kernel
theorem dJx4497a_toDecimal_3416a_343 : decode cJx4497a_toDecimal_3416a 343 = .ok (.aload_n 0, 1) := by decide +kernel
theorem dJx4497a_toDecimal_3416a_344 : decode cJx4497a_toDecimal_3416a 344 = .ok (.lload 31, 2) := by decide +kernel
theorem dJx4497a_toDecimal_3416a_346 : decode cJx4497a_toDecimal_3416a 346 = .ok (.lconst 0, 1) := by decide +kernel
theorem dJx4497a_toDecimal_3416a_347 : decode cJx4497a_toDecimal_3416a 347 = .ok (.lcmp, 1) := by decide +kernel
theorem dJx4497a_toDecimal_3416a_348 : decode cJx4497a_toDecimal_3416a 348 = .ok (.ifCond .lt 19, 3) := by decide +kernel
theorem dJx4497a_toDecimal_3416a_351 : decode cJx4497a_toDecimal_3416a 351 = .ok (.lload 31, 2) := by decide +kernel
theorem dJx4497a_toDecimal_3416a_353 : decode cJx4497a_toDecimal_3416a 353 = .ok (.lconst 0, 1) := by decide +kernel
theorem dJx4497a_toDecimal_3416a_354 : decode cJx4497a_toDecimal_3416a 354 = .ok (.lcmp, 1) := by decide +kernel
theorem dJx4497a_toDecimal_3416a_355 : decode cJx4497a_toDecimal_3416a 355 = .ok (.ifCond .ne 17, 3) := by decide +kernel
theorem dJx4497a_toDecimal_3416a_358 : decode cJx4497a_toDecimal_3416a 358 = .ok (.lload 25, 2) := by decide +kernel
theorem dJx4497a_toDecimal_3416a_360 : decode cJx4497a_toDecimal_3416a 360 = .ok (.lconst 1, 1) := by decide +kernel
theorem dJx4497a_toDecimal_3416a_361 : decode cJx4497a_toDecimal_3416a 361 = .ok (.land, 1) := by decide +kernel
theorem dJx4497a_toDecimal_3416a_362 : decode cJx4497a_toDecimal_3416a 362 = .ok (.lconst 0, 1) := by decide +kernel
theorem dJx4497a_toDecimal_3416a_363 : decode cJx4497a_toDecimal_3416a 363 = .ok (.lcmp, 1) := by decide +kernel
theorem dJx4497a_toDecimal_3416a_364 : decode cJx4497a_toDecimal_3416a 364 = .ok (.ifCond .ne 8, 3) := by decide +kernel
theorem dJx4497a_toDecimal_3416a_367 : decode cJx4497a_toDecimal_3416a 367 = .ok (.lload 25, 2) := by decide +kernel
theorem dJx4497a_toDecimal_3416a_369 : decode cJx4497a_toDecimal_3416a 369 = .ok (.goto 5, 3) := by decide +kernel
theorem dJx4497a_toDecimal_3416a_372 : decode cJx4497a_toDecimal_3416a 372 = .ok (.lload 27, 2) := by decide +kernel
theorem dJx4497a_toDecimal_3416a_374 : decode cJx4497a_toDecimal_3416a 374 = .ok (.iload 13, 2) := by decide +kernel
theorem dJx4497a_toDecimal_3416a_376 : decode cJx4497a_toDecimal_3416a 376 = .ok (.iload 4, 2) := by decide +kernel
theorem dJx4497a_toDecimal_3416a_378 : decode cJx4497a_toDecimal_3416a 378 = .ok (.iadd, 1) := by decide +kernel
theorem dJx4497a_toDecimal_3416a_379 : decode cJx4497a_toDecimal_3416a 379 = .ok (.aload 5, 2) := by decide +kernel
theorem dJx4497a_toDecimal_3416a_381 : decode cJx4497a_toDecimal_3416a 381 = .ok (.invokevirtual 78, 3) := by decide +kernel
theorem dJx4497a_toDecimal_3416a_384 : decode cJx4497a_toDecimal_3416a 384 = .ok (.ireturn, 1) := by decide +kernel
theorem dJx4497a_rop_fb923_0 : decode cJx4497a_rop_fb923 0 = .ok (.lload_n 2, 1) := by decide +kernel
theorem dJx4497a_rop_fb923_1 : decode cJx4497a_rop_fb923 1 = .ok (.lload 4, 2) := by decide +kernel
theorem dJx4497a_rop_fb923_3 : decode cJx4497a_rop_fb923 3 = .ok (.invokestatic 118, 3) := by decide +kernel
theorem dJx4497a_rop_fb923_6 : decode cJx4497a_rop_fb923 6 = .ok (.lstore 6, 2) := by decide +kernel
theorem dJx4497a_rop_fb923_8 : decode cJx4497a_rop_fb923 8 = .ok (.lload_n 0, 1) := by decide +kernel
theorem dJx4497a_rop_fb923_9 : decode cJx4497a_rop_fb923 9 = .ok (.lload 4, 2) := by decide +kernel
theorem dJx4497a_rop_fb923_11 : decode cJx4497a_rop_fb923 11 = .ok (.lmul, 1) := by decide +kernel
theorem dJx4497a_rop_fb923_12 : decode cJx4497a_rop_fb923 12 = .ok (.lstore 8, 2) := by decide +kernel
theorem dJx4497a_rop_fb923_14 : decode cJx4497a_rop_fb923 14 = .ok (.lload_n 0, 1) := by decide +kernel
theorem dJx4497a_rop_fb923_15 : decode cJx4497a_rop_fb923 15 = .ok (.lload 4, 2) := by decide +kernel
theorem dJx4497a_rop_fb923_17 : decode cJx4497a_rop_fb923 17 = .ok (.invokestatic 118, 3) := by decide +kernel
theorem dJx4497a_rop_fb923_20 : decode cJx4497a_rop_fb923 20 = .ok (.lstore 10, 2) := by decide +kernel
theorem dJx4497a_rop_fb923_22 : decode cJx4497a_rop_fb923 22 = .ok (.lload 8, 2) := by decide +kernel
theorem dJx4497a_rop_fb923_24 : decode cJx4497a_rop_fb923 24 = .ok (.iconst 1, 1) := by decide +kernel
theorem dJx4497a_rop_fb923_25 : decode cJx4497a_rop_fb923 25 = .ok (.lushr, 1) := by decide +kernel
theorem dJx4497a_rop_fb923_26 : decode cJx4497a_rop_fb923 26 = .ok (.lload 6, 2) := by decide +kernel
theorem dJx4497a_rop_fb923_28 : decode cJx4497a_rop_fb923 28 = .ok (.ladd, 1) := by decide +kernel
theorem dJx4497a_rop_fb923_29 : decode cJx4497a_rop_fb923 29 = .ok (.lstore 12, 2) := by decide +kernel
theorem dJx4497a_rop_fb923_31 : decode cJx4497a_rop_fb923 31 = .ok (.lload 10, 2) := by decide +kernel
theorem dJx4497a_rop_fb923_33 : decode cJx4497a_rop_fb923 33 = .ok (.lload 12, 2) := by decide +kernel
theorem dJx4497a_rop_fb923_35 : decode cJx4497a_rop_fb923 35 = .ok (.bipush 63, 2) := by decide +kernel
theorem dJx4497a_rop_fb923_37 : decode cJx4497a_rop_fb923 37 = .ok (.lushr, 1) := by decide +kernel
theorem dJx4497a_rop_fb923_38 : decode cJx4497a_rop_fb923 38 = .ok (.ladd, 1) := by decide +kernel
theorem dJx4497a_rop_fb923_39 : decode cJx4497a_rop_fb923 39 = .ok (.lstore 14, 2) := by decide +kernel
theorem dJx4497a_rop_fb923_41 : decode cJx4497a_rop_fb923 41 = .ok (.lload 14, 2) := by decide +kernel
theorem dJx4497a_rop_fb923_43 : decode cJx4497a_rop_fb923 43 = .ok (.lload 12, 2) := by decide +kernel
theorem dJx4497a_rop_fb923_45 : decode cJx4497a_rop_fb923 45 = .ok (.ldc2_w 124, 3) := by decide +kernel
theorem dJx4497a_rop_fb923_48 : decode cJx4497a_rop_fb923 48 = .ok (.land, 1) := by decide +kernel
theorem dJx4497a_rop_fb923_49 : decode cJx4497a_rop_fb923 49 = .ok (.ldc2_w 124, 3) := by decide +kernel
theorem dJx4497a_rop_fb923_52 : decode cJx4497a_rop_fb923 52 = .ok (.ladd, 1) := by decide +kernel
theorem dJx4497a_rop_fb923_53 : decode cJx4497a_rop_fb923 53 = .ok (.bipush 63, 2) := by decide +kernel
theorem dJx4497a_rop_fb923_55 : decode cJx4497a_rop_fb923 55 = .ok (.lushr, 1) := by decide +kernel
theorem dJx4497a_rop_fb923_56 : decode cJx4497a_rop_fb923 56 = .ok (.lor, 1) := by decide +kernel
theorem dJx4497a_rop_fb923_57 : decode cJx4497a_rop_fb923 57 = .ok (.lreturn, 1) := by decide +kernel
theorem dJx4497a_toChars_b7021_0 : decode cJx4497a_toChars_b7021 0 = .ok (.bipush 64, 2) := by decide +kernel
theorem dJx4497a_toChars_b7021_2 : decode cJx4497a_toChars_b7021 2 = .ok (.lload_n 1, 1) := by decide +kernel
theorem dJx4497a_toChars_b7021_3 : decode cJx4497a_toChars_b7021 3 = .ok (.invokestatic 128, 3) := by decide +kernel
theorem dJx4497a_toChars_b7021_6 : decode cJx4497a_toChars_b7021 6 = .ok (.isub, 1) := by decide +kernel
theorem dJx4497a_toChars_b7021_7 : decode cJx4497a_toChars_b7021 7 = .ok (.invokestatic 91, 3) := by decide +kernel
theorem dJx4497a_toChars_b7021_10 : decode cJx4497a_toChars_b7021 10 = .ok (.istore 5, 2) := by decide +kernel
theorem dJx4497a_toChars_b7021_12 : decode cJx4497a_toChars_b7021 12 = .ok (.lload_n 1, 1) := by decide +kernel
theorem dJx4497a_toChars_b7021_13 : decode cJx4497a_toChars_b7021 13 = .ok (.iload 5, 2) := by decide +kernel
theorem dJx4497a_toChars_b7021_15 : decode cJx4497a_toChars_b7021 15 = .ok (.invokestatic 132, 3) := by decide +kernel
theorem dJx4497a_toChars_b7021_18 : decode cJx4497a_toChars_b7021 18 = .ok (.lcmp, 1) := by decide +kernel
theorem dJx4497a_toChars_b7021_19 : decode cJx4497a_toChars_b7021 19 = .ok (.ifCond .lt 6, 3) := by decide +kernel
theorem dJx4497a_toChars_b7021_22 : decode cJx4497a_toChars_b7021 22 = .ok (.iinc 5 1, 3) := by decide +kernel
theorem dJx4497a_toChars_b7021_25 : decode cJx4497a_toChars_b7021 25 = .ok (.aload 4, 2) := by decide +kernel
theorem dJx4497a_toChars_b7021_27 : decode cJx4497a_toChars_b7021 27 = .ok (.ifnull 14, 3) := by decide +kernel
theorem dJx4497a_toChars_b7021_30 : decode cJx4497a_toChars_b7021 30 = .ok (.aload 4, 2) := by decide +kernel
theorem dJx4497a_toChars_b7021_32 : decode cJx4497a_toChars_b7021 32 = .ok (.lload_n 1, 1) := by decide +kernel
theorem dJx4497a_toChars_b7021_33 : decode cJx4497a_toChars_b7021 33 = .ok (.iload_n 3, 1) := by decide +kernel
theorem dJx4497a_toChars_b7021_34 : decode cJx4497a_toChars_b7021 34 = .ok (.iload 5, 2) := by decide +kernel
theorem dJx4497a_toChars_b7021_36 : decode cJx4497a_toChars_b7021 36 = .ok (.invokevirtual 135, 3) := by decide +kernel
theorem dJx4497a_toChars_b7021_39 : decode cJx4497a_toChars_b7021 39 = .ok (.iconst 0, 1) := by decide +kernel
theorem dJx4497a_toChars_b7021_40 : decode cJx4497a_toChars_b7021 40 = .ok (.ireturn, 1) := by decide +kernel
theorem dJx4497a_toChars_b7021_41 : decode cJx4497a_toChars_b7021 41 = .ok (.lload_n 1, 1) := by decide +kernel
theorem dJx4497a_toChars_b7021_42 : decode cJx4497a_toChars_b7021 42 = .ok (.bipush 17, 2) := by decide +kernel
theorem dJx4497a_toChars_b7021_44 : decode cJx4497a_toChars_b7021 44 = .ok (.iload 5, 2) := by decide +kernel
theorem dJx4497a_toChars_b7021_46 : decode cJx4497a_toChars_b7021 46 = .ok (.isub, 1) := by decide +kernel
theorem dJx4497a_toChars_b7021_47 : decode cJx4497a_toChars_b7021 47 = .ok (.invokestatic 132, 3) := by decide +kernel
theorem dJx4497a_toChars_b7021_50 : decode cJx4497a_toChars_b7021 50 = .ok (.lmul, 1) := by decide +kernel
theorem dJx4497a_toChars_b7021_51 : decode cJx4497a_toChars_b7021 51 = .ok (.lstore_n 1, 1) := by decide +kernel
theorem dJx4497a_toChars_b7021_52 : decode cJx4497a_toChars_b7021 52 = .ok (.iload_n 3, 1) := by decide +kernel
theorem dJx4497a_toChars_b7021_53 : decode cJx4497a_toChars_b7021 53 = .ok (.iload 5, 2) := by decide +kernel
theorem dJx4497a_toChars_b7021_55 : decode cJx4497a_toChars_b7021 55 = .ok (.iadd, 1) := by decide +kernel
theorem dJx4497a_toChars_b7021_56 : decode cJx4497a_toChars_b7021 56 = .ok (.istore_n 3, 1) := by decide +kernel
theorem dJx4497a_toChars_b7021_57 : decode cJx4497a_toChars_b7021 57 = .ok (.lload_n 1, 1) := by decide +kernel
theorem dJx4497a_toChars_b7021_58 : decode cJx4497a_toChars_b7021 58 = .ok (.ldc2_w 141, 3) := by decide +kernel
theorem dJx4497a_toChars_b7021_61 : decode cJx4497a_toChars_b7021 61 = .ok (.invokestatic 118, 3) := by decide +kernel
theorem dJx4497a_toChars_b7021_64 : decode cJx4497a_toChars_b7021 64 = .ok (.bipush 20, 2) := by decide +kernel
theorem dJx4497a_toChars_b7021_66 : decode cJx4497a_toChars_b7021 66 = .ok (.lushr, 1) := by decide +kernel
theorem dJx4497a_toChars_b7021_67 : decode cJx4497a_toChars_b7021 67 = .ok (.lstore 6, 2) := by decide +kernel
theorem dJx4497a_toChars_b7021_69 : decode cJx4497a_toChars_b7021 69 = .ok (.lload_n 1, 1) := by decide +kernel
theorem dJx4497a_toChars_b7021_70 : decode cJx4497a_toChars_b7021 70 = .ok (.ldc2_w 143, 3) := by decide +kernel
theorem dJx4497a_toChars_b7021_73 : decode cJx4497a_toChars_b7021 73 = .ok (.lload 6, 2) := by decide +kernel
theorem dJx4497a_toChars_b7021_75 : decode cJx4497a_toChars_b7021 75 = .ok (.lmul, 1) := by decide +kernel
theorem dJx4497a_toChars_b7021_76 : decode cJx4497a_toChars_b7021 76 = .ok (.lsub, 1) := by decide +kernel
theorem dJx4497a_toChars_b7021_77 : decode cJx4497a_toChars_b7021 77 = .ok (.l2i, 1) := by decide +kernel
theorem dJx4497a_toChars_b7021_78 : decode cJx4497a_toChars_b7021 78 = .ok (.istore 8, 2) := by decide +kernel
theorem dJx4497a_toChars_b7021_80 : decode cJx4497a_toChars_b7021 80 = .ok (.lload 6, 2) := by decide +kernel
theorem dJx4497a_toChars_b7021_82 : decode cJx4497a_toChars_b7021 82 = .ok (.ldc2_w 145, 3) := by decide +kernel
theorem dJx4497a_toChars_b7021_85 : decode cJx4497a_toChars_b7021 85 = .ok (.lmul, 1) := by decide +kernel
theorem dJx4497a_toChars_b7021_86 : decode cJx4497a_toChars_b7021 86 = .ok (.bipush 57, 2) := by decide +kernel
theorem dJx4497a_toChars_b7021_88 : decode cJx4497a_toChars_b7021 88 = .ok (.lushr, 1) := by decide +kernel
theorem dJx4497a_toChars_b7021_89 : decode cJx4497a_toChars_b7021 89 = .ok (.l2i, 1) := by decide +kernel
theorem dJx4497a_toChars_b7021_90 : decode cJx4497a_toChars_b7021 90 = .ok (.istore 9, 2) := by decide +kernel
theorem dJx4497a_toChars_b7021_92 : decode cJx4497a_toChars_b7021 92 = .ok (.lload 6, 2) := by decide +kernel
theorem dJx4497a_toChars_b7021_94 : decode cJx4497a_toChars_b7021 94 = .ok (.ldc 147, 2) := by decide +kernel
theorem dJx4497a_toChars_b7021_96 : decode cJx4497a_toChars_b7021 96 = .ok (.iload 9, 2) := by decide +kernel
theorem dJx4497a_toChars_b7021_98 : decode cJx4497a_toChars_b7021 98 = .ok (.imul, 1) := by decide +kernel
theorem dJx4497a_toChars_b7021_99 : decode cJx4497a_toChars_b7021 99 = .ok (.i2l, 1) := by decide +kernel
theorem dJx4497a_toChars_b7021_100 : decode cJx4497a_toChars_b7021 100 = .ok (.lsub, 1) := by decide +kernel
theorem dJx4497a_toChars_b7021_101 : decode cJx4497a_toChars_b7021 101 = .ok (.l2i, 1) := by decide +kernel
theorem dJx4497a_toChars_b7021_102 : decode cJx4497a_toChars_b7021 102 = .ok (.istore 10, 2) := by decide +kernel
theorem dJx4497a_toChars_b7021_104 : decode cJx4497a_toChars_b7021 104 = .ok (.iconst 0, 1) := by decide +kernel
theorem dJx4497a_toChars_b7021_105 : decode cJx4497a_toChars_b7021 105 = .ok (.iload_n 3, 1) := by decide +kernel
theorem dJx4497a_toChars_b7021_106 : decode cJx4497a_toChars_b7021 106 = .ok (.if_icmp .ge 21, 3) := by decide +kernel
theorem dJx4497a_toChars_b7021_109 : decode cJx4497a_toChars_b7021 109 = .ok (.iload_n 3, 1) := by decide +kernel
theorem dJx4497a_toChars_b7021_110 : decode cJx4497a_toChars_b7021 110 = .ok (.bipush 7, 2) := by decide +kernel
theorem dJx4497a_toChars_b7021_112 : decode cJx4497a_toChars_b7021 112 = .ok (.if_icmp .gt 15, 3) := by decide +kernel
theorem dJx4497a_toChars_b7021_115 : decode cJx4497a_toChars_b7021 115 = .ok (.aload_n 0, 1) := by decide +kernel
theorem dJx4497a_toChars_b7021_116 : decode cJx4497a_toChars_b7021 116 = .ok (.iload 9, 2) := by decide +kernel
theorem dJx4497a_toChars_b7021_118 : decode cJx4497a_toChars_b7021 118 = .ok (.iload 10, 2) := by decide +kernel
theorem dJx4497a_toChars_b7021_120 : decode cJx4497a_toChars_b7021 120 = .ok (.iload 8, 2) := by decide +kernel
theorem dJx4497a_toChars_b7021_122 : decode cJx4497a_toChars_b7021 122 = .ok (.iload_n 3, 1) := by decide +kernel
theorem dJx4497a_toChars_b7021_123 : decode cJx4497a_toChars_b7021 123 = .ok (.invokevirtual 148, 3) := by decide +kernel
theorem dJx4497a_toChars_b7021_126 : decode cJx4497a_toChars_b7021 126 = .ok (.ireturn, 1) := by decide +kernel
theorem dJx4497a_toChars_b7021_127 : decode cJx4497a_toChars_b7021 127 = .ok (.bipush (-3), 2) := by decide +kernel
theorem dJx4497a_toChars_b7021_129 : decode cJx4497a_toChars_b7021 129 = .ok (.iload_n 3, 1) := by decide +kernel
theorem dJx4497a_toChars_b7021_130 : decode cJx4497a_toChars_b7021 130 = .ok (.if_icmp .ge 19, 3) := by decide +kernel
theorem dJx4497a_toChars_b7021_133 : decode cJx4497a_toChars_b7021 133 = .ok (.iload_n 3, 1) := by decide +kernel
theorem dJx4497a_toChars_b7021_134 : decode cJx4497a_toChars_b7021 134 = .ok (.ifCond .gt 15, 3) := by decide +kernel
theorem dJx4497a_toChars_b7021_137 : decode cJx4497a_toChars_b7021 137 = .ok (.aload_n 0, 1) := by decide +kernel
theorem dJx4497a_toChars_b7021_138 : decode cJx4497a_toChars_b7021 138 = .ok (.iload 9, 2) := by decide +kernel
theorem dJx4497a_toChars_b7021_140 : decode cJx4497a_toChars_b7021 140 = .ok (.iload 10, 2) := by decide +kernel
theorem dJx4497a_toChars_b7021_142 : decode cJx4497a_toChars_b7021 142 = .ok (.iload 8, 2) := by decide +kernel
theorem dJx4497a_toChars_b7021_144 : decode cJx4497a_toChars_b7021 144 = .ok (.iload_n 3, 1) := by decide +kernel
theorem dJx4497a_toChars_b7021_145 : decode cJx4497a_toChars_b7021 145 = .ok (.invokevirtual 152, 3) := by decide +kernel
theorem dJx4497a_toChars_b7021_148 : decode cJx4497a_toChars_b7021 148 = .ok (.ireturn, 1) := by decide +kernel
theorem dJx4497a_toChars_b7021_149 : decode cJx4497a_toChars_b7021 149 = .ok (.aload_n 0, 1) := by decide +kernel
theorem dJx4497a_toChars_b7021_150 : decode cJx4497a_toChars_b7021 150 = .ok (.iload 9, 2) := by decide +kernel
theorem dJx4497a_toChars_b7021_152 : decode cJx4497a_toChars_b7021 152 = .ok (.iload 10, 2) := by decide +kernel
theorem dJx4497a_toChars_b7021_154 : decode cJx4497a_toChars_b7021 154 = .ok (.iload 8, 2) := by decide +kernel
theorem dJx4497a_toChars_b7021_156 : decode cJx4497a_toChars_b7021 156 = .ok (.iload_n 3, 1) := by decide +kernel
theorem dJx4497a_toChars_b7021_157 : decode cJx4497a_toChars_b7021 157 = .ok (.invokevirtual 155, 3) := by decide +kernel
theorem dJx4497a_toChars_b7021_160 : decode cJx4497a_toChars_b7021 160 = .ok (.ireturn, 1) := by decide +kernel
theorem dJx4497a_toChars1_7f61f_0 : decode cJx4497a_toChars1_7f61f 0 = .ok (.aload_n 0, 1) := by decide +kernel
theorem dJx4497a_toChars1_7f61f_1 : decode cJx4497a_toChars1_7f61f 1 = .ok (.iload_n 1, 1) := by decide +kernel
theorem dJx4497a_toChars1_7f61f_2 : decode cJx4497a_toChars1_7f61f 2 = .ok (.invokevirtual 158, 3) := by decide +kernel
theorem dJx4497a_toChars1_7f61f_5 : decode cJx4497a_toChars1_7f61f 5 = .ok (.aload_n 0, 1) := by decide +kernel
theorem dJx4497a_toChars1_7f61f_6 : decode cJx4497a_toChars1_7f61f 6 = .ok (.iload_n 2, 1) := by decide +kernel
theorem dJx4497a_toChars1_7f61f_7 : decode cJx4497a_toChars1_7f61f 7 = .ok (.invokevirtual 161, 3) := by decide +kernel
theorem dJx4497a_toChars1_7f61f_10 : decode cJx4497a_toChars1_7f61f 10 = .ok (.istore 5, 2) := by decide +kernel
theorem dJx4497a_toChars1_7f61f_12 : decode cJx4497a_toChars1_7f61f 12 = .ok (.iconst 1, 1) := by decide +kernel
theorem dJx4497a_toChars1_7f61f_13 : decode cJx4497a_toChars1_7f61f 13 = .ok (.istore 7, 2) := by decide +kernel
theorem dJx4497a_toChars1_7f61f_15 : decode cJx4497a_toChars1_7f61f 15 = .ok (.iload 7, 2) := by decide +kernel
theorem dJx4497a_toChars1_7f61f_17 : decode cJx4497a_toChars1_7f61f 17 = .ok (.iload 4, 2) := by decide +kernel
theorem dJx4497a_toChars1_7f61f_19 : decode cJx4497a_toChars1_7f61f 19 = .ok (.if_icmp .ge 32, 3) := by decide +kernel
theorem dJx4497a_toChars1_7f61f_22 : decode cJx4497a_toChars1_7f61f 22 = .ok (.bipush 10, 2) := by decide +kernel
theorem dJx4497a_toChars1_7f61f_24 : decode cJx4497a_toChars1_7f61f 24 = .ok (.iload 5, 2) := by decide +kernel
theorem dJx4497a_toChars1_7f61f_26 : decode cJx4497a_toChars1_7f61f 26 = .ok (.imul, 1) := by decide +kernel
theorem dJx4497a_toChars1_7f61f_27 : decode cJx4497a_toChars1_7f61f 27 = .ok (.istore 6, 2) := by decide +kernel
theorem dJx4497a_toChars1_7f61f_29 : decode cJx4497a_toChars1_7f61f 29 = .ok (.aload_n 0, 1) := by decide +kernel
theorem dJx4497a_toChars1_7f61f_30 : decode cJx4497a_toChars1_7f61f 30 = .ok (.iload 6, 2) := by decide +kernel
theorem dJx4497a_toChars1_7f61f_32 : decode cJx4497a_toChars1_7f61f 32 = .ok (.bipush 28, 2) := by decide +kernel
theorem dJx4497a_toChars1_7f61f_34 : decode cJx4497a_toChars1_7f61f 34 = .ok (.iushr, 1) := by decide +kernel
theorem dJx4497a_toChars1_7f61f_35 : decode cJx4497a_toChars1_7f61f 35 = .ok (.invokevirtual 158, 3) := by decide +kernel
theorem dJx4497a_toChars1_7f61f_38 : decode cJx4497a_toChars1_7f61f 38 = .ok (.iload 6, 2) := by decide +kernel
theorem dJx4497a_toChars1_7f61f_40 : decode cJx4497a_toChars1_7f61f 40 = .ok (.ldc 164, 2) := by decide +kernel
theorem dJx4497a_toChars1_7f61f_42 : decode cJx4497a_toChars1_7f61f 42 = .ok (.iand, 1) := by decide +kernel
theorem dJx4497a_toChars1_7f61f_43 : decode cJx4497a_toChars1_7f61f 43 = .ok (.istore 5, 2) := by decide +kernel
theorem dJx4497a_toChars1_7f61f_45 : decode cJx4497a_toChars1_7f61f 45 = .ok (.iinc 7 1, 3) := by decide +kernel
theorem dJx4497a_toChars1_7f61f_48 : decode cJx4497a_toChars1_7f61f 48 = .ok (.goto (-33), 3) := by decide +kernel
theorem dJx4497a_toChars1_7f61f_51 : decode cJx4497a_toChars1_7f61f 51 = .ok (.aload_n 0, 1) := by decide +kernel
theorem dJx4497a_toChars1_7f61f_52 : decode cJx4497a_toChars1_7f61f 52 = .ok (.bipush 46, 2) := by decide +kernel
theorem dJx4497a_toChars1_7f61f_54 : decode cJx4497a_toChars1_7f61f 54 = .ok (.invokevirtual 73, 3) := by decide +kernel
theorem dJx4497a_toChars1_7f61f_57 : decode cJx4497a_toChars1_7f61f 57 = .ok (.iload 7, 2) := by decide +kernel
theorem dJx4497a_toChars1_7f61f_59 : decode cJx4497a_toChars1_7f61f 59 = .ok (.bipush 8, 2) := by decide +kernel
theorem dJx4497a_toChars1_7f61f_61 : decode cJx4497a_toChars1_7f61f 61 = .ok (.if_icmp .gt 32, 3) := by decide +kernel
theorem dJx4497a_toChars1_7f61f_64 : decode cJx4497a_toChars1_7f61f 64 = .ok (.bipush 10, 2) := by decide +kernel
theorem dJx4497a_toChars1_7f61f_66 : decode cJx4497a_toChars1_7f61f 66 = .ok (.iload 5, 2) := by decide +kernel
theorem dJx4497a_toChars1_7f61f_68 : decode cJx4497a_toChars1_7f61f 68 = .ok (.imul, 1) := by decide +kernel
theorem dJx4497a_toChars1_7f61f_69 : decode cJx4497a_toChars1_7f61f 69 = .ok (.istore 6, 2) := by decide +kernel
theorem dJx4497a_toChars1_7f61f_71 : decode cJx4497a_toChars1_7f61f 71 = .ok (.aload_n 0, 1) := by decide +kernel
theorem dJx4497a_toChars1_7f61f_72 : decode cJx4497a_toChars1_7f61f 72 = .ok (.iload 6, 2) := by decide +kernel
theorem dJx4497a_toChars1_7f61f_74 : decode cJx4497a_toChars1_7f61f 74 = .ok (.bipush 28, 2) := by decide +kernel
theorem dJx4497a_toChars1_7f61f_76 : decode cJx4497a_toChars1_7f61f 76 = .ok (.iushr, 1) := by decide +kernel
theorem dJx4497a_toChars1_7f61f_77 : decode cJx4497a_toChars1_7f61f 77 = .ok (.invokevirtual 158, 3) := by decide +kernel
theorem dJx4497a_toChars1_7f61f_80 : decode cJx4497a_toChars1_7f61f 80 = .ok (.iload 6, 2) := by decide +kernel
theorem dJx4497a_toChars1_7f61f_82 : decode cJx4497a_toChars1_7f61f 82 = .ok (.ldc 164, 2) := by decide +kernel
theorem dJx4497a_toChars1_7f61f_84 : decode cJx4497a_toChars1_7f61f 84 = .ok (.iand, 1) := by decide +kernel
theorem dJx4497a_toChars1_7f61f_85 : decode cJx4497a_toChars1_7f61f 85 = .ok (.istore 5, 2) := by decide +kernel
theorem dJx4497a_toChars1_7f61f_87 : decode cJx4497a_toChars1_7f61f 87 = .ok (.iinc 7 1, 3) := by decide +kernel
theorem dJx4497a_toChars1_7f61f_90 : decode cJx4497a_toChars1_7f61f 90 = .ok (.goto (-33), 3) := by decide +kernel
theorem dJx4497a_toChars1_7f61f_93 : decode cJx4497a_toChars1_7f61f 93 = .ok (.aload_n 0, 1) := by decide +kernel
theorem dJx4497a_toChars1_7f61f_94 : decode cJx4497a_toChars1_7f61f 94 = .ok (.iload_n 3, 1) := by decide +kernel
theorem dJx4497a_toChars1_7f61f_95 : decode cJx4497a_toChars1_7f61f 95 = .ok (.invokevirtual 165, 3) := by decide +kernel
theorem dJx4497a_toChars1_7f61f_98 : decode cJx4497a_toChars1_7f61f 98 = .ok (.iconst 0, 1) := by decide +kernel
theorem dJx4497a_toChars1_7f61f_99 : decode cJx4497a_toChars1_7f61f 99 = .ok (.ireturn, 1) := by decide +kernel
theorem dJx4497a_toChars2_7f61f_0 : decode cJx4497a_toChars2_7f61f 0 = .ok (.aload_n 0, 1) := by decide +kernel
theorem dJx4497a_toChars2_7f61f_1 : decode cJx4497a_toChars2_7f61f 1 = .ok (.iconst 0, 1) := by decide +kernel
theorem dJx4497a_toChars2_7f61f_2 : decode cJx4497a_toChars2_7f61f 2 = .ok (.invokevirtual 158, 3) := by decide +kernel
theorem dJx4497a_toChars2_7f61f_5 : decode cJx4497a_toChars2_7f61f 5 = .ok (.aload_n 0, 1) := by decide +kernel
theorem dJx4497a_toChars2_7f61f_6 : decode cJx4497a_toChars2_7f61f 6 = .ok (.bipush 46, 2) := by decide +kernel
theorem dJx4497a_toChars2_7f61f_8 : decode cJx4497a_toChars2_7f61f 8 = .ok (.invokevirtual 73, 3) := by decide +kernel
theorem dJx4497a_toChars2_7f61f_11 : decode cJx4497a_toChars2_7f61f 11 = .ok (.iload 4, 2) := by decide +kernel
theorem dJx4497a_toChars2_7f61f_13 : decode cJx4497a_toChars2_7f61f 13 = .ok (.ifCond .ge 14, 3) := by decide +kernel
theorem dJx4497a_toChars2_7f61f_16 : decode cJx4497a_toChars2_7f61f 16 = .ok (.aload_n 0, 1) := by decide +kernel
theorem dJx4497a_toChars2_7f61f_17 : decode cJx4497a_toChars2_7f61f 17 = .ok (.iconst 0, 1) := by decide +kernel
theorem dJx4497a_toChars2_7f61f_18 : decode cJx4497a_toChars2_7f61f 18 = .ok (.invokevirtual 158, 3) := by decide +kernel
theorem dJx4497a_toChars2_7f61f_21 : decode cJx4497a_toChars2_7f61f 21 = .ok (.iinc 4 1, 3) := by decide +kernel
theorem dJx4497a_toChars2_7f61f_24 : decode cJx4497a_toChars2_7f61f 24 = .ok (.goto (-13), 3) := by decide +kernel
theorem dJx4497a_toChars2_7f61f_27 : decode cJx4497a_toChars2_7f61f 27 = .ok (.aload_n 0, 1) := by decide +kernel
theorem dJx4497a_toChars2_7f61f_28 : decode cJx4497a_toChars2_7f61f 28 = .ok (.iload_n 1, 1) := by decide +kernel
theorem dJx4497a_toChars2_7f61f_29 : decode cJx4497a_toChars2_7f61f 29 = .ok (.invokevirtual 158, 3) := by decide +kernel
theorem dJx4497a_toChars2_7f61f_32 : decode cJx4497a_toChars2_7f61f 32 = .ok (.aload_n 0, 1) := by decide +kernel
theorem dJx4497a_toChars2_7f61f_33 : decode cJx4497a_toChars2_7f61f 33 = .ok (.iload_n 2, 1) := by decide +kernel
theorem dJx4497a_toChars2_7f61f_34 : decode cJx4497a_toChars2_7f61f 34 = .ok (.invokevirtual 168, 3) := by decide +kernel
theorem dJx4497a_toChars2_7f61f_37 : decode cJx4497a_toChars2_7f61f 37 = .ok (.aload_n 0, 1) := by decide +kernel
theorem dJx4497a_toChars2_7f61f_38 : decode cJx4497a_toChars2_7f61f 38 = .ok (.iload_n 3, 1) := by decide +kernel
theorem dJx4497a_toChars2_7f61f_39 : decode cJx4497a_toChars2_7f61f 39 = .ok (.invokevirtual 165, 3) := by decide +kernel
theorem dJx4497a_toChars2_7f61f_42 : decode cJx4497a_toChars2_7f61f 42 = .ok (.iconst 0, 1) := by decide +kernel
theorem dJx4497a_toChars2_7f61f_43 : decode cJx4497a_toChars2_7f61f 43 = .ok (.ireturn, 1) := by decide +kernel
theorem dJx4497a_toChars3_7f61f_0 : decode cJx4497a_toChars3_7f61f 0 = .ok (.aload_n 0, 1) := by decide +kernel
theorem dJx4497a_toChars3_7f61f_1 : decode cJx4497a_toChars3_7f61f 1 = .ok (.iload_n 1, 1) := by decide +kernel
theorem dJx4497a_toChars3_7f61f_2 : decode cJx4497a_toChars3_7f61f 2 = .ok (.invokevirtual 158, 3) := by decide +kernel
theorem dJx4497a_toChars3_7f61f_5 : decode cJx4497a_toChars3_7f61f 5 = .ok (.aload_n 0, 1) := by decide +kernel
theorem dJx4497a_toChars3_7f61f_6 : decode cJx4497a_toChars3_7f61f 6 = .ok (.bipush 46, 2) := by decide +kernel
theorem dJx4497a_toChars3_7f61f_8 : decode cJx4497a_toChars3_7f61f 8 = .ok (.invokevirtual 73, 3) := by decide +kernel
theorem dJx4497a_toChars3_7f61f_11 : decode cJx4497a_toChars3_7f61f 11 = .ok (.aload_n 0, 1) := by decide +kernel
theorem dJx4497a_toChars3_7f61f_12 : decode cJx4497a_toChars3_7f61f 12 = .ok (.iload_n 2, 1) := by decide +kernel
theorem dJx4497a_toChars3_7f61f_13 : decode cJx4497a_toChars3_7f61f 13 = .ok (.invokevirtual 168, 3) := by decide +kernel
theorem dJx4497a_toChars3_7f61f_16 : decode cJx4497a_toChars3_7f61f 16 = .ok (.aload_n 0, 1) := by decide +kernel
theorem dJx4497a_toChars3_7f61f_17 : decode cJx4497a_toChars3_7f61f 17 = .ok (.iload_n 3, 1) := by decide +kernel
theorem dJx4497a_toChars3_7f61f_18 : decode cJx4497a_toChars3_7f61f 18 = .ok (.invokevirtual 165, 3) := by decide +kernel
theorem dJx4497a_toChars3_7f61f_21 : decode cJx4497a_toChars3_7f61f 21 = .ok (.aload_n 0, 1) := by decide +kernel
theorem dJx4497a_toChars3_7f61f_22 : decode cJx4497a_toChars3_7f61f 22 = .ok (.iload 4, 2) := by decide +kernel
theorem dJx4497a_toChars3_7f61f_24 : decode cJx4497a_toChars3_7f61f 24 = .ok (.iconst 1, 1) := by decide +kernel
theorem dJx4497a_toChars3_7f61f_25 : decode cJx4497a_toChars3_7f61f 25 = .ok (.isub, 1) := by decide +kernel
theorem dJx4497a_toChars3_7f61f_26 : decode cJx4497a_toChars3_7f61f 26 = .ok (.invokevirtual 171, 3) := by decide +kernel
theorem dJx4497a_toChars3_7f61f_29 : decode cJx4497a_toChars3_7f61f 29 = .ok (.iconst 0, 1) := by decide +kernel
theorem dJx4497a_toChars3_7f61f_30 : decode cJx4497a_toChars3_7f61f 30 = .ok (.ireturn, 1) := by decide +kernel
theorem dJx4497a_lowDigits_d00df_0 : decode cJx4497a_lowDigits_d00df 0 = .ok (.iload_n 1, 1) := by decide +kernel
theorem dJx4497a_lowDigits_d00df_1 : decode cJx4497a_lowDigits_d00df 1 = .ok (.ifCond .eq 8, 3) := by decide +kernel
theorem dJx4497a_lowDigits_d00df_4 : decode cJx4497a_lowDigits_d00df 4 = .ok (.aload_n 0, 1) := by decide +kernel
theorem dJx4497a_lowDigits_d00df_5 : decode cJx4497a_lowDigits_d00df 5 = .ok (.iload_n 1, 1) := by decide +kernel
theorem dJx4497a_lowDigits_d00df_6 : decode cJx4497a_lowDigits_d00df 6 = .ok (.invokevirtual 168, 3) := by decide +kernel
theorem dJx4497a_lowDigits_d00df_9 : decode cJx4497a_lowDigits_d00df 9 = .ok (.aload_n 0, 1) := by decide +kernel
theorem dJx4497a_lowDigits_d00df_10 : decode cJx4497a_lowDigits_d00df 10 = .ok (.invokevirtual 174, 3) := by decide +kernel
theorem dJx4497a_lowDigits_d00df_13 : decode cJx4497a_lowDigits_d00df 13 = .ok (.return_, 1) := by decide +kernel
theorem dJx4497a_append8Digits_d00df_0 : decode cJx4497a_append8Digits_d00df 0 = .ok (.aload_n 0, 1) := by decide +kernel
theorem dJx4497a_append8Digits_d00df_1 : decode cJx4497a_append8Digits_d00df 1 = .ok (.iload_n 1, 1) := by decide +kernel
theorem dJx4497a_append8Digits_d00df_2 : decode cJx4497a_append8Digits_d00df 2 = .ok (.invokevirtual 161, 3) := by decide +kernel
theorem dJx4497a_append8Digits_d00df_5 : decode cJx4497a_append8Digits_d00df 5 = .ok (.istore_n 2, 1) := by decide +kernel
theorem dJx4497a_append8Digits_d00df_6 : decode cJx4497a_append8Digits_d00df 6 = .ok (.iconst 0, 1) := by decide +kernel
theorem dJx4497a_append8Digits_d00df_7 : decode cJx4497a_append8Digits_d00df 7 = .ok (.istore_n 3, 1) := by decide +kernel
theorem dJx4497a_append8Digits_d00df_8 : decode cJx4497a_append8Digits_d00df 8 = .ok (.iload_n 3, 1) := by decide +kernel
theorem dJx4497a_append8Digits_d00df_9 : decode cJx4497a_append8Digits_d00df 9 = .ok (.bipush 8, 2) := by decide +kernel
theorem dJx4497a_append8Digits_d00df_11 : decode cJx4497a_append8Digits_d00df 11 = .ok (.if_icmp .ge 30, 3) := by decide +kernel
theorem dJx4497a_append8Digits_d00df_14 : decode cJx4497a_append8Digits_d00df 14 = .ok (.bipush 10, 2) := by decide +kernel
theorem dJx4497a_append8Digits_d00df_16 : decode cJx4497a_append8Digits_d00df 16 = .ok (.iload_n 2, 1) := by decide +kernel
theorem dJx4497a_append8Digits_d00df_17 : decode cJx4497a_append8Digits_d00df 17 = .ok (.imul, 1) := by decide +kernel
theorem dJx4497a_append8Digits_d00df_18 : decode cJx4497a_append8Digits_d00df 18 = .ok (.istore 4, 2) := by decide +kernel
theorem dJx4497a_append8Digits_d00df_20 : decode cJx4497a_append8Digits_d00df 20 = .ok (.aload_n 0, 1) := by decide +kernel
theorem dJx4497a_append8Digits_d00df_21 : decode cJx4497a_append8Digits_d00df 21 = .ok (.iload 4, 2) := by decide +kernel
theorem dJx4497a_append8Digits_d00df_23 : decode cJx4497a_append8Digits_d00df 23 = .ok (.bipush 28, 2) := by decide +kernel
theorem dJx4497a_append8Digits_d00df_25 : decode cJx4497a_append8Digits_d00df 25 = .ok (.iushr, 1) := by decide +kernel
theorem dJx4497a_append8Digits_d00df_26 : decode cJx4497a_append8Digits_d00df 26 = .ok (.invokevirtual 158, 3) := by decide +kernel
theorem dJx4497a_append8Digits_d00df_29 : decode cJx4497a_append8Digits_d00df 29 = .ok (.iload 4, 2) := by decide +kernel
theorem dJx4497a_append8Digits_d00df_31 : decode cJx4497a_append8Digits_d00df 31 = .ok (.ldc 164, 2) := by decide +kernel
theorem dJx4497a_append8Digits_d00df_33 : decode cJx4497a_append8Digits_d00df 33 = .ok (.iand, 1) := by decide +kernel
theorem dJx4497a_append8Digits_d00df_34 : decode cJx4497a_append8Digits_d00df 34 = .ok (.istore_n 2, 1) := by decide +kernel
theorem dJx4497a_append8Digits_d00df_35 : decode cJx4497a_append8Digits_d00df 35 = .ok (.iinc 3 1, 3) := by decide +kernel
theorem dJx4497a_append8Digits_d00df_38 : decode cJx4497a_append8Digits_d00df 38 = .ok (.goto (-30), 3) := by decide +kernel
theorem dJx4497a_append8Digits_d00df_41 : decode cJx4497a_append8Digits_d00df 41 = .ok (.return_, 1) := by decide +kernel
theorem dJx4497a_removeTrailingZeroes_da8c8_0 : decode cJx4497a_removeTrailingZeroes_da8c8 0 = .ok (.aload_n 0, 1) := by decide +kernel
theorem dJx4497a_removeTrailingZeroes_da8c8_1 : decode cJx4497a_removeTrailingZeroes_da8c8 1 = .ok (.getfield 11, 3) := by decide +kernel
theorem dJx4497a_removeTrailingZeroes_da8c8_4 : decode cJx4497a_removeTrailingZeroes_da8c8 4 = .ok (.aload_n 0, 1) := by decide +kernel
theorem dJx4497a_removeTrailingZeroes_da8c8_5 : decode cJx4497a_removeTrailingZeroes_da8c8 5 = .ok (.getfield 44, 3) := by decide +kernel
theorem dJx4497a_removeTrailingZeroes_da8c8_8 : decode cJx4497a_removeTrailingZeroes_da8c8 8 = .ok (.baload, 1) := by decide +kernel
theorem dJx4497a_removeTrailingZeroes_da8c8_9 : decode cJx4497a_removeTrailingZeroes_da8c8 9 = .ok (.bipush 48, 2) := by decide +kernel
theorem dJx4497a_removeTrailingZeroes_da8c8_11 : decode cJx4497a_removeTrailingZeroes_da8c8 11 = .ok (.if_icmp .ne 16, 3) := by decide +kernel
theorem dJx4497a_removeTrailingZeroes_da8c8_14 : decode cJx4497a_removeTrailingZeroes_da8c8 14 = .ok (.aload_n 0, 1) := by decide +kernel
theorem dJx4497a_removeTrailingZeroes_da8c8_15 : decode cJx4497a_removeTrailingZeroes_da8c8 15 = .ok (.dup, 1) := by decide +kernel
theorem dJx4497a_removeTrailingZeroes_da8c8_16 : decode cJx4497a_removeTrailingZeroes_da8c8 16 = .ok (.getfield 44, 3) := by decide +kernel
theorem dJx4497a_removeTrailingZeroes_da8c8_19 : decode cJx4497a_removeTrailingZeroes_da8c8 19 = .ok (.iconst 1, 1) := by decide +kernel
theorem dJx4497a_removeTrailingZeroes_da8c8_20 : decode cJx4497a_removeTrailingZeroes_da8c8 20 = .ok (.isub, 1) := by decide +kernel
theorem dJx4497a_removeTrailingZeroes_da8c8_21 : decode cJx4497a_removeTrailingZeroes_da8c8 21 = .ok (.putfield 44, 3) := by decide +kernel
theorem dJx4497a_removeTrailingZeroes_da8c8_24 : decode cJx4497a_removeTrailingZeroes_da8c8 24 = .ok (.goto (-24), 3) := by decide +kernel
theorem dJx4497a_removeTrailingZeroes_da8c8_27 : decode cJx4497a_removeTrailingZeroes_da8c8 27 = .ok (.aload_n 0, 1) := by decide +kernel
theorem dJx4497a_removeTrailingZeroes_da8c8_28 : decode cJx4497a_removeTrailingZeroes_da8c8 28 = .ok (.getfield 11, 3) := by decide +kernel
theorem dJx4497a_removeTrailingZeroes_da8c8_31 : decode cJx4497a_removeTrailingZeroes_da8c8 31 = .ok (.aload_n 0, 1) := by decide +kernel
theorem dJx4497a_removeTrailingZeroes_da8c8_32 : decode cJx4497a_removeTrailingZeroes_da8c8 32 = .ok (.getfield 44, 3) := by decide +kernel
theorem dJx4497a_removeTrailingZeroes_da8c8_35 : decode cJx4497a_removeTrailingZeroes_da8c8 35 = .ok (.baload, 1) := by decide +kernel
theorem dJx4497a_removeTrailingZeroes_da8c8_36 : decode cJx4497a_removeTrailingZeroes_da8c8 36 = .ok (.bipush 46, 2) := by decide +kernel
theorem dJx4497a_removeTrailingZeroes_da8c8_38 : decode cJx4497a_removeTrailingZeroes_da8c8 38 = .ok (.if_icmp .ne 13, 3) := by decide +kernel
theorem dJx4497a_removeTrailingZeroes_da8c8_41 : decode cJx4497a_removeTrailingZeroes_da8c8 41 = .ok (.aload_n 0, 1) := by decide +kernel
theorem dJx4497a_removeTrailingZeroes_da8c8_42 : decode cJx4497a_removeTrailingZeroes_da8c8 42 = .ok (.dup, 1) := by decide +kernel
theorem dJx4497a_removeTrailingZeroes_da8c8_43 : decode cJx4497a_removeTrailingZeroes_da8c8 43 = .ok (.getfield 44, 3) := by decide +kernel
theorem dJx4497a_removeTrailingZeroes_da8c8_46 : decode cJx4497a_removeTrailingZeroes_da8c8 46 = .ok (.iconst 1, 1) := by decide +kernel
theorem dJx4497a_removeTrailingZeroes_da8c8_47 : decode cJx4497a_removeTrailingZeroes_da8c8 47 = .ok (.iadd, 1) := by decide +kernel
theorem dJx4497a_removeTrailingZeroes_da8c8_48 : decode cJx4497a_removeTrailingZeroes_da8c8 48 = .ok (.putfield 44, 3) := by decide +kernel
theorem dJx4497a_removeTrailingZeroes_da8c8_51 : decode cJx4497a_removeTrailingZeroes_da8c8 51 = .ok (.return_, 1) := by decide +kernel
theorem dJx4497a_y_0f7a4_0 : decode cJx4497a_y_0f7a4 0 = .ok (.iload_n 1, 1) := by decide +kernel
theorem dJx4497a_y_0f7a4_1 : decode cJx4497a_y_0f7a4 1 = .ok (.iconst 1, 1) := by decide +kernel
theorem dJx4497a_y_0f7a4_2 : decode cJx4497a_y_0f7a4 2 = .ok (.iadd, 1) := by decide +kernel
theorem dJx4497a_y_0f7a4_3 : decode cJx4497a_y_0f7a4 3 = .ok (.i2l, 1) := by decide +kernel
theorem dJx4497a_y_0f7a4_4 : decode cJx4497a_y_0f7a4 4 = .ok (.bipush 28, 2) := by decide +kernel
theorem dJx4497a_y_0f7a4_6 : decode cJx4497a_y_0f7a4 6 = .ok (.lshl, 1) := by decide +kernel
theorem dJx4497a_y_0f7a4_7 : decode cJx4497a_y_0f7a4 7 = .ok (.ldc2_w 141, 3) := by decide +kernel
theorem dJx4497a_y_0f7a4_10 : decode cJx4497a_y_0f7a4 10 = .ok (.invokestatic 118, 3) := by decide +kernel
theorem dJx4497a_y_0f7a4_13 : decode cJx4497a_y_0f7a4 13 = .ok (.bipush 20, 2) := by decide +kernel
theorem dJx4497a_y_0f7a4_15 : decode cJx4497a_y_0f7a4 15 = .ok (.lushr, 1) := by decide +kernel
theorem dJx4497a_y_0f7a4_16 : decode cJx4497a_y_0f7a4 16 = .ok (.l2i, 1) := by decide +kernel
theorem dJx4497a_y_0f7a4_17 : decode cJx4497a_y_0f7a4 17 = .ok (.iconst 1, 1) := by decide +kernel
theorem dJx4497a_y_0f7a4_18 : decode cJx4497a_y_0f7a4 18 = .ok (.isub, 1) := by decide +kernel
theorem dJx4497a_y_0f7a4_19 : decode cJx4497a_y_0f7a4 19 = .ok (.ireturn, 1) := by decide +kernel
theorem dJx4497a_exponent_d00df_0 : decode cJx4497a_exponent_d00df 0 = .ok (.aload_n 0, 1) := by decide +kernel
theorem dJx4497a_exponent_d00df_1 : decode cJx4497a_exponent_d00df 1 = .ok (.bipush 69, 2) := by decide +kernel
theorem dJx4497a_exponent_d00df_3 : decode cJx4497a_exponent_d00df 3 = .ok (.invokevirtual 73, 3) := by decide +kernel
theorem dJx4497a_exponent_d00df_6 : decode cJx4497a_exponent_d00df 6 = .ok (.iload_n 1, 1) := by decide +kernel
theorem dJx4497a_exponent_d00df_7 : decode cJx4497a_exponent_d00df 7 = .ok (.ifCond .ge 12, 3) := by decide +kernel
theorem dJx4497a_exponent_d00df_10 : decode cJx4497a_exponent_d00df 10 = .ok (.aload_n 0, 1) := by decide +kernel
theorem dJx4497a_exponent_d00df_11 : decode cJx4497a_exponent_d00df 11 = .ok (.bipush 45, 2) := by decide +kernel
theorem dJx4497a_exponent_d00df_13 : decode cJx4497a_exponent_d00df 13 = .ok (.invokevirtual 73, 3) := by decide +kernel
theorem dJx4497a_exponent_d00df_16 : decode cJx4497a_exponent_d00df 16 = .ok (.iload_n 1, 1) := by decide +kernel
theorem dJx4497a_exponent_d00df_17 : decode cJx4497a_exponent_d00df 17 = .ok (.ineg, 1) := by decide +kernel
theorem dJx4497a_exponent_d00df_18 : decode cJx4497a_exponent_d00df 18 = .ok (.istore_n 1, 1) := by decide +kernel
theorem dJx4497a_exponent_d00df_19 : decode cJx4497a_exponent_d00df 19 = .ok (.iload_n 1, 1) := by decide +kernel
theorem dJx4497a_exponent_d00df_20 : decode cJx4497a_exponent_d00df 20 = .ok (.bipush 10, 2) := by decide +kernel
theorem dJx4497a_exponent_d00df_22 : decode cJx4497a_exponent_d00df 22 = .ok (.if_icmp .ge 9, 3) := by decide +kernel
theorem dJx4497a_exponent_d00df_25 : decode cJx4497a_exponent_d00df 25 = .ok (.aload_n 0, 1) := by decide +kernel
theorem dJx4497a_exponent_d00df_26 : decode cJx4497a_exponent_d00df 26 = .ok (.iload_n 1, 1) := by decide +kernel
theorem dJx4497a_exponent_d00df_27 : decode cJx4497a_exponent_d00df 27 = .ok (.invokevirtual 158, 3) := by decide +kernel
theorem dJx4497a_exponent_d00df_30 : decode cJx4497a_exponent_d00df 30 = .ok (.return_, 1) := by decide +kernel
theorem dJx4497a_exponent_d00df_31 : decode cJx4497a_exponent_d00df 31 = .ok (.iload_n 1, 1) := by decide +kernel
theorem dJx4497a_exponent_d00df_32 : decode cJx4497a_exponent_d00df 32 = .ok (.bipush 100, 2) := by decide +kernel
theorem dJx4497a_exponent_d00df_34 : decode cJx4497a_exponent_d00df 34 = .ok (.if_icmp .lt 24, 3) := by decide +kernel
theorem dJx4497a_exponent_d00df_37 : decode cJx4497a_exponent_d00df 37 = .ok (.iload_n 1, 1) := by decide +kernel
theorem dJx4497a_exponent_d00df_38 : decode cJx4497a_exponent_d00df 38 = .ok (.sipush 1311, 3) := by decide +kernel
theorem dJx4497a_exponent_d00df_41 : decode cJx4497a_exponent_d00df 41 = .ok (.imul, 1) := by decide +kernel
theorem dJx4497a_exponent_d00df_42 : decode cJx4497a_exponent_d00df 42 = .ok (.bipush 17, 2) := by decide +kernel
theorem dJx4497a_exponent_d00df_44 : decode cJx4497a_exponent_d00df 44 = .ok (.iushr, 1) := by decide +kernel
theorem dJx4497a_exponent_d00df_45 : decode cJx4497a_exponent_d00df 45 = .ok (.istore_n 2, 1) := by decide +kernel
theorem dJx4497a_exponent_d00df_46 : decode cJx4497a_exponent_d00df 46 = .ok (.aload_n 0, 1) := by decide +kernel
theorem dJx4497a_exponent_d00df_47 : decode cJx4497a_exponent_d00df 47 = .ok (.iload_n 2, 1) := by decide +kernel
theorem dJx4497a_exponent_d00df_48 : decode cJx4497a_exponent_d00df 48 = .ok (.invokevirtual 158, 3) := by decide +kernel
theorem dJx4497a_exponent_d00df_51 : decode cJx4497a_exponent_d00df 51 = .ok (.iload_n 1, 1) := by decide +kernel
theorem dJx4497a_exponent_d00df_52 : decode cJx4497a_exponent_d00df 52 = .ok (.bipush 100, 2) := by decide +kernel
theorem dJx4497a_exponent_d00df_54 : decode cJx4497a_exponent_d00df 54 = .ok (.iload_n 2, 1) := by decide +kernel
theorem dJx4497a_exponent_d00df_55 : decode cJx4497a_exponent_d00df 55 = .ok (.imul, 1) := by decide +kernel
theorem dJx4497a_exponent_d00df_56 : decode cJx4497a_exponent_d00df 56 = .ok (.isub, 1) := by decide +kernel
theorem dJx4497a_exponent_d00df_57 : decode cJx4497a_exponent_d00df 57 = .ok (.istore_n 1, 1) := by decide +kernel
theorem dJx4497a_exponent_d00df_58 : decode cJx4497a_exponent_d00df 58 = .ok (.iload_n 1, 1) := by decide +kernel
theorem dJx4497a_exponent_d00df_59 : decode cJx4497a_exponent_d00df 59 = .ok (.bipush 103, 2) := by decide +kernel
theorem dJx4497a_exponent_d00df_61 : decode cJx4497a_exponent_d00df 61 = .ok (.imul, 1) := by decide +kernel
theorem dJx4497a_exponent_d00df_62 : decode cJx4497a_exponent_d00df 62 = .ok (.bipush 10, 2) := by decide +kernel
theorem dJx4497a_exponent_d00df_64 : decode cJx4497a_exponent_d00df 64 = .ok (.iushr, 1) := by decide +kernel
theorem dJx4497a_exponent_d00df_65 : decode cJx4497a_exponent_d00df 65 = .ok (.istore_n 2, 1) := by decide +kernel
theorem dJx4497a_exponent_d00df_66 : decode cJx4497a_exponent_d00df 66 = .ok (.aload_n 0, 1) := by decide +kernel
theorem dJx4497a_exponent_d00df_67 : decode cJx4497a_exponent_d00df 67 = .ok (.iload_n 2, 1) := by decide +kernel
theorem dJx4497a_exponent_d00df_68 : decode cJx4497a_exponent_d00df 68 = .ok (.invokevirtual 158, 3) := by decide +kernel
theorem dJx4497a_exponent_d00df_71 : decode cJx4497a_exponent_d00df 71 = .ok (.aload_n 0, 1) := by decide +kernel
theorem dJx4497a_exponent_d00df_72 : decode cJx4497a_exponent_d00df 72 = .ok (.iload_n 1, 1) := by decide +kernel
theorem dJx4497a_exponent_d00df_73 : decode cJx4497a_exponent_d00df 73 = .ok (.bipush 10, 2) := by decide +kernel
theorem dJx4497a_exponent_d00df_75 : decode cJx4497a_exponent_d00df 75 = .ok (.iload_n 2, 1) := by decide +kernel
theorem dJx4497a_exponent_d00df_76 : decode cJx4497a_exponent_d00df 76 = .ok (.imul, 1) := by decide +kernel
theorem dJx4497a_exponent_d00df_77 : decode cJx4497a_exponent_d00df 77 = .ok (.isub, 1) := by decide +kernel
theorem dJx4497a_exponent_d00df_78 : decode cJx4497a_exponent_d00df 78 = .ok (.invokevirtual 158, 3) := by decide +kernel
theorem dJx4497a_exponent_d00df_81 : decode cJx4497a_exponent_d00df 81 = .ok (.return_, 1) := by decide +kernel
theorem dJx4497a_append_d00df_0 : decode cJx4497a_append_d00df 0 = .ok (.aload_n 0, 1) := by decide +kernel
theorem dJx4497a_append_d00df_1 : decode cJx4497a_append_d00df 1 = .ok (.getfield 11, 3) := by decide +kernel
theorem dJx4497a_append_d00df_4 : decode cJx4497a_append_d00df 4 = .ok (.aload_n 0, 1) := by decide +kernel
theorem dJx4497a_append_d00df_5 : decode cJx4497a_append_d00df 5 = .ok (.dup, 1) := by decide +kernel
theorem dJx4497a_append_d00df_6 : decode cJx4497a_append_d00df 6 = .ok (.getfield 44, 3) := by decide +kernel
theorem dJx4497a_append_d00df_9 : decode cJx4497a_append_d00df 9 = .ok (.iconst 1, 1) := by decide +kernel
theorem dJx4497a_append_d00df_10 : decode cJx4497a_append_d00df 10 = .ok (.iadd, 1) := by decide +kernel
theorem dJx4497a_append_d00df_11 : decode cJx4497a_append_d00df 11 = .ok (.dup_x1, 1) := by decide +kernel
theorem dJx4497a_append_d00df_12 : decode cJx4497a_append_d00df 12 = .ok (.putfield 44, 3) := by decide +kernel
theorem dJx4497a_append_d00df_15 : decode cJx4497a_append_d00df 15 = .ok (.iload_n 1, 1) := by decide +kernel
theorem dJx4497a_append_d00df_16 : decode cJx4497a_append_d00df 16 = .ok (.i2b, 1) := by decide +kernel
theorem dJx4497a_append_d00df_17 : decode cJx4497a_append_d00df 17 = .ok (.bastore, 1) := by decide +kernel
theorem dJx4497a_append_d00df_18 : decode cJx4497a_append_d00df 18 = .ok (.return_, 1) := by decide +kernel
theorem dJx4497a_appendDigit_d00df_0 : decode cJx4497a_appendDigit_d00df 0 = .ok (.aload_n 0, 1) := by decide +kernel
theorem dJx4497a_appendDigit_d00df_1 : decode cJx4497a_appendDigit_d00df 1 = .ok (.getfield 11, 3) := by decide +kernel
theorem dJx4497a_appendDigit_d00df_4 : decode cJx4497a_appendDigit_d00df 4 = .ok (.aload_n 0, 1) := by decide +kernel
theorem dJx4497a_appendDigit_d00df_5 : decode cJx4497a_appendDigit_d00df 5 = .ok (.dup, 1) := by decide +kernel
theorem dJx4497a_appendDigit_d00df_6 : decode cJx4497a_appendDigit_d00df 6 = .ok (.getfield 44, 3) := by decide +kernel
theorem dJx4497a_appendDigit_d00df_9 : decode cJx4497a_appendDigit_d00df 9 = .ok (.iconst 1, 1) := by decide +kernel
theorem dJx4497a_appendDigit_d00df_10 : decode cJx4497a_appendDigit_d00df 10 = .ok (.iadd, 1) := by decide +kernel
theorem dJx4497a_appendDigit_d00df_11 : decode cJx4497a_appendDigit_d00df 11 = .ok (.dup_x1, 1) := by decide +kernel
theorem dJx4497a_appendDigit_d00df_12 : decode cJx4497a_appendDigit_d00df 12 = .ok (.putfield 44, 3) := by decide +kernel
theorem dJx4497a_appendDigit_d00df_15 : decode cJx4497a_appendDigit_d00df 15 = .ok (.bipush 48, 2) := by decide +kernel
theorem dJx4497a_appendDigit_d00df_17 : decode cJx4497a_appendDigit_d00df 17 = .ok (.iload_n 1, 1) := by decide +kernel
theorem dJx4497a_appendDigit_d00df_18 : decode cJx4497a_appendDigit_d00df 18 = .ok (.iadd, 1) := by decide +kernel
theorem dJx4497a_appendDigit_d00df_19 : decode cJx4497a_appendDigit_d00df 19 = .ok (.i2b, 1) := by decide +kernel
theorem dJx4497a_appendDigit_d00df_20 : decode cJx4497a_appendDigit_d00df 20 = .ok (.bastore, 1) := by decide +kernel
theorem dJx4497a_appendDigit_d00df_21 : decode cJx4497a_appendDigit_d00df 21 = .ok (.return_, 1) := by decide +kernel
theorem dJx40b00_init_da8c8_0 : decode cJx40b00_init_da8c8 0 = .ok (.aload_n 0, 1) := by decide +kernel
theorem dJx40b00_init_da8c8_1 : decode cJx40b00_init_da8c8 1 = .ok (.invokespecial 5, 3) := by decide +kernel
theorem dJx40b00_init_da8c8_4 : decode cJx40b00_init_da8c8 4 = .ok (.aload_n 0, 1) := by decide +kernel
theorem dJx40b00_init_da8c8_5 : decode cJx40b00_init_da8c8 5 = .ok (.bipush 15, 2) := by decide +kernel
theorem dJx40b00_init_da8c8_7 : decode cJx40b00_init_da8c8 7 = .ok (.newarray .byte, 2) := by decide +kernel
theorem dJx40b00_init_da8c8_9 : decode cJx40b00_init_da8c8 9 = .ok (.putfield 11, 3) := by decide +kernel
theorem dJx40b00_init_da8c8_12 : decode cJx40b00_init_da8c8 12 = .ok (.return_, 1) := by decide +kernel
theorem dJx40b00_appendTo_8d9f2_0 : decode cJx40b00_appendTo_8d9f2 0 = .ok (.new 3, 3) := by decide +kernel
theorem dJx40b00_appendTo_8d9f2_3 : decode cJx40b00_appendTo_8d9f2 3 = .ok (.dup, 1) := by decide +kernel
theorem dJx40b00_appendTo_8d9f2_4 : decode cJx40b00_appendTo_8d9f2 4 = .ok (.invokespecial 15, 3) := by decide +kernel
theorem dJx40b00_appendTo_8d9f2_7 : decode cJx40b00_appendTo_8d9f2 7 = .ok (.fload_n 0, 1) := by decide +kernel
theorem dJx40b00_appendTo_8d9f2_8 : decode cJx40b00_appendTo_8d9f2 8 = .ok (.aload_n 1, 1) := by decide +kernel
theorem dJx40b00_appendTo_8d9f2_9 : decode cJx40b00_appendTo_8d9f2 9 = .ok (.invokevirtual 20, 3) := by decide +kernel
theorem dJx40b00_appendTo_8d9f2_12 : decode cJx40b00_appendTo_8d9f2 12 = .ok (.areturn, 1) := by decide +kernel
theorem dJx40b00_appendDecimalTo_8d9f2_0 : decode cJx40b00_appendDecimalTo_8d9f2 0 = .ok (.aload_n 0, 1) := by decide +kernel
theorem dJx40b00_appendDecimalTo_8d9f2_1 : decode cJx40b00_appendDecimalTo_8d9f2 1 = .ok (.fload_n 1, 1) := by decide +kernel
theorem dJx40b00_appendDecimalTo_8d9f2_2 : decode cJx40b00_appendDecimalTo_8d9f2 2 = .ok (.invokevirtual 24, 3) := by decide +kernel
theorem dJx40b00_appendDecimalTo_8d9f2_5 : decode cJx40b00_appendDecimalTo_8d9f2 5 = .ok (.tableswitch 190 0 4 #[35, 154, 163, 172, 181], 35) := by decide +kernel
theorem dJx40b00_appendDecimalTo_8d9f2_40 : decode cJx40b00_appendDecimalTo_8d9f2 40 = .ok (.aload_n 0, 1) := by decide +kernel
theorem dJx40b00_appendDecimalTo_8d9f2_41 : decode cJx40b00_appendDecimalTo_8d9f2 41 = .ok (.getfield 42, 3) := by decide +kernel
theorem dJx40b00_appendDecimalTo_8d9f2_44 : decode cJx40b00_appendDecimalTo_8d9f2 44 = .ok (.iconst 1, 1) := by decide +kernel
theorem dJx40b00_appendDecimalTo_8d9f2_45 : decode cJx40b00_appendDecimalTo_8d9f2 45 = .ok (.iadd, 1) := by decide +kernel
theorem dJx40b00_appendDecimalTo_8d9f2_46 : decode cJx40b00_appendDecimalTo_8d9f2 46 = .ok (.newarray .char, 2) := by decide +kernel
theorem dJx40b00_appendDecimalTo_8d9f2_48 : decode cJx40b00_appendDecimalTo_8d9f2 48 = .ok (.astore_n 3, 1) := by decide +kernel
theorem dJx40b00_appendDecimalTo_8d9f2_49 : decode cJx40b00_appendDecimalTo_8d9f2 49 = .ok (.iconst 0, 1) := by decide +kernel
theorem dJx40b00_appendDecimalTo_8d9f2_50 : decode cJx40b00_appendDecimalTo_8d9f2 50 = .ok (.istore 4, 2) := by decide +kernel
theorem dJx40b00_appendDecimalTo_8d9f2_52 : decode cJx40b00_appendDecimalTo_8d9f2 52 = .ok (.iload 4, 2) := by decide +kernel
theorem dJx40b00_appendDecimalTo_8d9f2_54 : decode cJx40b00_appendDecimalTo_8d9f2 54 = .ok (.aload_n 3, 1) := by decide +kernel
theorem dJx40b00_appendDecimalTo_8d9f2_55 : decode cJx40b00_appendDecimalTo_8d9f2 55 = .ok (.arraylength, 1) := by decide +kernel
theorem dJx40b00_appendDecimalTo_8d9f2_56 : decode cJx40b00_appendDecimalTo_8d9f2 56 = .ok (.if_icmp .ge 21, 3) := by decide +kernel
theorem dJx40b00_appendDecimalTo_8d9f2_59 : decode cJx40b00_appendDecimalTo_8d9f2 59 = .ok (.aload_n 3, 1) := by decide +kernel
theorem dJx40b00_appendDecimalTo_8d9f2_60 : decode cJx40b00_appendDecimalTo_8d9f2 60 = .ok (.iload 4, 2) := by decide +kernel
theorem dJx40b00_appendDecimalTo_8d9f2_62 : decode cJx40b00_appendDecimalTo_8d9f2 62 = .ok (.aload_n 0, 1) := by decide +kernel
theorem dJx40b00_appendDecimalTo_8d9f2_63 : decode cJx40b00_appendDecimalTo_8d9f2 63 = .ok (.getfield 11, 3) := by decide +kernel
theorem dJx40b00_appendDecimalTo_8d9f2_66 : decode cJx40b00_appendDecimalTo_8d9f2 66 = .ok (.iload 4, 2) := by decide +kernel
theorem dJx40b00_appendDecimalTo_8d9f2_68 : decode cJx40b00_appendDecimalTo_8d9f2 68 = .ok (.baload, 1) := by decide +kernel
theorem dJx40b00_appendDecimalTo_8d9f2_69 : decode cJx40b00_appendDecimalTo_8d9f2 69 = .ok (.i2c, 1) := by decide +kernel
theorem dJx40b00_appendDecimalTo_8d9f2_70 : decode cJx40b00_appendDecimalTo_8d9f2 70 = .ok (.castore, 1) := by decide +kernel
theorem dJx40b00_appendDecimalTo_8d9f2_71 : decode cJx40b00_appendDecimalTo_8d9f2 71 = .ok (.iinc 4 1, 3) := by decide +kernel
theorem dJx40b00_appendDecimalTo_8d9f2_74 : decode cJx40b00_appendDecimalTo_8d9f2 74 = .ok (.goto (-22), 3) := by decide +kernel
theorem dJx40b00_appendDecimalTo_8d9f2_77 : decode cJx40b00_appendDecimalTo_8d9f2 77 = .ok (.aload_n 2, 1) := by decide +kernel
theorem dJx40b00_appendDecimalTo_8d9f2_78 : decode cJx40b00_appendDecimalTo_8d9f2 78 = .ok (.instanceof 46, 3) := by decide +kernel
theorem dJx40b00_appendDecimalTo_8d9f2_81 : decode cJx40b00_appendDecimalTo_8d9f2 81 = .ok (.ifCond .eq 16, 3) := by decide +kernel
theorem dJx40b00_appendDecimalTo_8d9f2_84 : decode cJx40b00_appendDecimalTo_8d9f2 84 = .ok (.aload_n 2, 1) := by decide +kernel
theorem dJx40b00_appendDecimalTo_8d9f2_85 : decode cJx40b00_appendDecimalTo_8d9f2 85 = .ok (.checkcast 46, 3) := by decide +kernel
theorem dJx40b00_appendDecimalTo_8d9f2_88 : decode cJx40b00_appendDecimalTo_8d9f2 88 = .ok (.astore 4, 2) := by decide +kernel
theorem dJx40b00_appendDecimalTo_8d9f2_90 : decode cJx40b00_appendDecimalTo_8d9f2 90 = .ok (.aload 4, 2) := by decide +kernel
theorem dJx40b00_appendDecimalTo_8d9f2_92 : decode cJx40b00_appendDecimalTo_8d9f2 92 = .ok (.aload_n 3, 1) := by decide +kernel
theorem dJx40b00_appendDecimalTo_8d9f2_93 : decode cJx40b00_appendDecimalTo_8d9f2 93 = .ok (.invokevirtual 48, 3) := by decide +kernel
theorem dJx40b00_appendDecimalTo_8d9f2_96 : decode cJx40b00_appendDecimalTo_8d9f2 96 = .ok (.areturn, 1) := by decide +kernel
theorem dJx40b00_appendDecimalTo_8d9f2_97 : decode cJx40b00_appendDecimalTo_8d9f2 97 = .ok (.aload_n 2, 1) := by decide +kernel
theorem dJx40b00_appendDecimalTo_8d9f2_98 : decode cJx40b00_appendDecimalTo_8d9f2 98 = .ok (.instanceof 52, 3) := by decide +kernel
theorem dJx40b00_appendDecimalTo_8d9f2_101 : decode cJx40b00_appendDecimalTo_8d9f2 101 = .ok (.ifCond .eq 16, 3) := by decide +kernel
theorem dJx40b00_appendDecimalTo_8d9f2_104 : decode cJx40b00_appendDecimalTo_8d9f2 104 = .ok (.aload_n 2, 1) := by decide +kernel
theorem dJx40b00_appendDecimalTo_8d9f2_105 : decode cJx40b00_appendDecimalTo_8d9f2 105 = .ok (.checkcast 52, 3) := by decide +kernel
theorem dJx40b00_appendDecimalTo_8d9f2_108 : decode cJx40b00_appendDecimalTo_8d9f2 108 = .ok (.astore 4, 2) := by decide +kernel
theorem dJx40b00_appendDecimalTo_8d9f2_110 : decode cJx40b00_appendDecimalTo_8d9f2 110 = .ok (.aload 4, 2) := by decide +kernel
theorem dJx40b00_appendDecimalTo_8d9f2_112 : decode cJx40b00_appendDecimalTo_8d9f2 112 = .ok (.aload_n 3, 1) := by decide +kernel
theorem dJx40b00_appendDecimalTo_8d9f2_113 : decode cJx40b00_appendDecimalTo_8d9f2 113 = .ok (.invokevirtual 54, 3) := by decide +kernel
theorem dJx40b00_appendDecimalTo_8d9f2_116 : decode cJx40b00_appendDecimalTo_8d9f2 116 = .ok (.areturn, 1) := by decide +kernel
theorem dJx40b00_appendDecimalTo_8d9f2_117 : decode cJx40b00_appendDecimalTo_8d9f2 117 = .ok (.aload_n 3, 1) := by decide +kernel
theorem dJx40b00_appendDecimalTo_8d9f2_118 : decode cJx40b00_appendDecimalTo_8d9f2 118 = .ok (.astore 4, 2) := by decide +kernel
theorem dJx40b00_appendDecimalTo_8d9f2_120 : decode cJx40b00_appendDecimalTo_8d9f2 120 = .ok (.aload 4, 2) := by decide +kernel
theorem dJx40b00_appendDecimalTo_8d9f2_122 : decode cJx40b00_appendDecimalTo_8d9f2 122 = .ok (.arraylength, 1) := by decide +kernel
theorem dJx40b00_appendDecimalTo_8d9f2_123 : decode cJx40b00_appendDecimalTo_8d9f2 123 = .ok (.istore 5, 2) := by decide +kernel
theorem dJx40b00_appendDecimalTo_8d9f2_125 : decode cJx40b00_appendDecimalTo_8d9f2 125 = .ok (.iconst 0, 1) := by decide +kernel
theorem dJx40b00_appendDecimalTo_8d9f2_126 : decode cJx40b00_appendDecimalTo_8d9f2 126 = .ok (.istore 6, 2) := by decide +kernel
theorem dJx40b00_appendDecimalTo_8d9f2_128 : decode cJx40b00_appendDecimalTo_8d9f2 128 = .ok (.iload 6, 2) := by decide +kernel
theorem dJx40b00_appendDecimalTo_8d9f2_130 : decode cJx40b00_appendDecimalTo_8d9f2 130 = .ok (.iload 5, 2) := by decide +kernel
theorem dJx40b00_appendDecimalTo_8d9f2_132 : decode cJx40b00_appendDecimalTo_8d9f2 132 = .ok (.if_icmp .ge 25, 3) := by decide +kernel
theorem dJx40b00_appendDecimalTo_8d9f2_135 : decode cJx40b00_appendDecimalTo_8d9f2 135 = .ok (.aload 4, 2) := by decide +kernel
theorem dJx40b00_appendDecimalTo_8d9f2_137 : decode cJx40b00_appendDecimalTo_8d9f2 137 = .ok (.iload 6, 2) := by decide +kernel
theorem dJx40b00_appendDecimalTo_8d9f2_139 : decode cJx40b00_appendDecimalTo_8d9f2 139 = .ok (.caload, 1) := by decide +kernel
theorem dJx40b00_appendDecimalTo_8d9f2_140 : decode cJx40b00_appendDecimalTo_8d9f2 140 = .ok (.istore 7, 2) := by decide +kernel
theorem dJx40b00_appendDecimalTo_8d9f2_142 : decode cJx40b00_appendDecimalTo_8d9f2 142 = .ok (.aload_n 2, 1) := by decide +kernel
theorem dJx40b00_appendDecimalTo_8d9f2_143 : decode cJx40b00_appendDecimalTo_8d9f2 143 = .ok (.iload 7, 2) := by decide +kernel
theorem dJx40b00_appendDecimalTo_8d9f2_145 : decode cJx40b00_appendDecimalTo_8d9f2 145 = .ok (.invokeinterface 57 2, 5) := by decide +kernel
theorem dJx40b00_appendDecimalTo_8d9f2_150 : decode cJx40b00_appendDecimalTo_8d9f2 150 = .ok (.pop, 1) := by decide +kernel
theorem dJx40b00_appendDecimalTo_8d9f2_151 : decode cJx40b00_appendDecimalTo_8d9f2 151 = .ok (.iinc 6 1, 3) := by decide +kernel
theorem dJx40b00_appendDecimalTo_8d9f2_154 : decode cJx40b00_appendDecimalTo_8d9f2 154 = .ok (.goto (-26), 3) := by decide +kernel
theorem dJx40b00_appendDecimalTo_8d9f2_157 : decode cJx40b00_appendDecimalTo_8d9f2 157 = .ok (.aload_n 2, 1) := by decide +kernel
theorem dJx40b00_appendDecimalTo_8d9f2_158 : decode cJx40b00_appendDecimalTo_8d9f2 158 = .ok (.areturn, 1) := by decide +kernel
theorem dJx40b00_appendDecimalTo_8d9f2_159 : decode cJx40b00_appendDecimalTo_8d9f2 159 = .ok (.aload_n 2, 1) := by decide +kernel
theorem dJx40b00_appendDecimalTo_8d9f2_160 : decode cJx40b00_appendDecimalTo_8d9f2 160 = .ok (.ldc 32, 2) := by decide +kernel
theorem dJx40b00_appendDecimalTo_8d9f2_162 : decode cJx40b00_appendDecimalTo_8d9f2 162 = .ok (.invokeinterface 62 2, 5) := by decide +kernel
theorem dJx40b00_appendDecimalTo_8d9f2_167 : decode cJx40b00_appendDecimalTo_8d9f2 167 = .ok (.areturn, 1) := by decide +kernel
theorem dJx40b00_appendDecimalTo_8d9f2_168 : decode cJx40b00_appendDecimalTo_8d9f2 168 = .ok (.aload_n 2, 1) := by decide +kernel
theorem dJx40b00_appendDecimalTo_8d9f2_169 : decode cJx40b00_appendDecimalTo_8d9f2 169 = .ok (.ldc 34, 2) := by decide +kernel
theorem dJx40b00_appendDecimalTo_8d9f2_171 : decode cJx40b00_appendDecimalTo_8d9f2 171 = .ok (.invokeinterface 62 2, 5) := by decide +kernel
theorem dJx40b00_appendDecimalTo_8d9f2_176 : decode cJx40b00_appendDecimalTo_8d9f2 176 = .ok (.areturn, 1) := by decide +kernel
theorem dJx40b00_appendDecimalTo_8d9f2_177 : decode cJx40b00_appendDecimalTo_8d9f2 177 = .ok (.aload_n 2, 1) := by decide +kernel
theorem dJx40b00_appendDecimalTo_8d9f2_178 : decode cJx40b00_appendDecimalTo_8d9f2 178 = .ok (.ldc 36, 2) := by decide +kernel
theorem dJx40b00_appendDecimalTo_8d9f2_180 : decode cJx40b00_appendDecimalTo_8d9f2 180 = .ok (.invokeinterface 62 2, 5) := by decide +kernel
theorem dJx40b00_appendDecimalTo_8d9f2_185 : decode cJx40b00_appendDecimalTo_8d9f2 185 = .ok (.areturn, 1) := by decide +kernel
theorem dJx40b00_appendDecimalTo_8d9f2_186 : decode cJx40b00_appendDecimalTo_8d9f2 186 = .ok (.aload_n 2, 1) := by decide +kernel
theorem dJx40b00_appendDecimalTo_8d9f2_187 : decode cJx40b00_appendDecimalTo_8d9f2 187 = .ok (.ldc 38, 2) := by decide +kernel
theorem dJx40b00_appendDecimalTo_8d9f2_189 : decode cJx40b00_appendDecimalTo_8d9f2 189 = .ok (.invokeinterface 62 2, 5) := by decide +kernel
theorem dJx40b00_appendDecimalTo_8d9f2_194 : decode cJx40b00_appendDecimalTo_8d9f2 194 = .ok (.areturn, 1) := by decide +kernel
theorem dJx40b00_appendDecimalTo_8d9f2_195 : decode cJx40b00_appendDecimalTo_8d9f2 195 = .ok (.aload_n 2, 1) := by decide +kernel
theorem dJx40b00_appendDecimalTo_8d9f2_196 : decode cJx40b00_appendDecimalTo_8d9f2 196 = .ok (.ldc 40, 2) := by decide +kernel
theorem dJx40b00_appendDecimalTo_8d9f2_198 : decode cJx40b00_appendDecimalTo_8d9f2 198 = .ok (.invokeinterface 62 2, 5) := by decide +kernel
theorem dJx40b00_appendDecimalTo_8d9f2_203 : decode cJx40b00_appendDecimalTo_8d9f2 203 = .ok (.areturn, 1) := by decide +kernel
theorem dJx40b00_toDecimal_5c35a_0 : decode cJx40b00_toDecimal_5c35a 0 = .ok (.fload_n 1, 1) := by decide +kernel
theorem dJx40b00_toDecimal_5c35a_1 : decode cJx40b00_toDecimal_5c35a 1 = .ok (.invokestatic 65, 3) := by decide +kernel
theorem dJx40b00_toDecimal_5c35a_4 : decode cJx40b00_toDecimal_5c35a 4 = .ok (.istore_n 2, 1) := by decide +kernel
theorem dJx40b00_toDecimal_5c35a_5 : decode cJx40b00_toDecimal_5c35a 5 = .ok (.iload_n 2, 1) := by decide +kernel
theorem dJx40b00_toDecimal_5c35a_6 : decode cJx40b00_toDecimal_5c35a 6 = .ok (.ldc 68, 2) := by decide +kernel
theorem dJx40b00_toDecimal_5c35a_8 : decode cJx40b00_toDecimal_5c35a 8 = .ok (.iand, 1) := by decide +kernel
theorem dJx40b00_toDecimal_5c35a_9 : decode cJx40b00_toDecimal_5c35a 9 = .ok (.istore_n 3, 1) := by decide +kernel
theorem dJx40b00_toDecimal_5c35a_10 : decode cJx40b00_toDecimal_5c35a 10 = .ok (.iload_n 2, 1) := by decide +kernel
theorem dJx40b00_toDecimal_5c35a_11 : decode cJx40b00_toDecimal_5c35a 11 = .ok (.bipush 23, 2) := by decide +kernel
theorem dJx40b00_toDecimal_5c35a_13 : decode cJx40b00_toDecimal_5c35a 13 = .ok (.iushr, 1) := by decide +kernel
theorem dJx40b00_toDecimal_5c35a_14 : decode cJx40b00_toDecimal_5c35a 14 = .ok (.sipush 255, 3) := by decide +kernel
theorem dJx40b00_toDecimal_5c35a_17 : decode cJx40b00_toDecimal_5c35a 17 = .ok (.iand, 1) := by decide +kernel
theorem dJx40b00_toDecimal_5c35a_18 : decode cJx40b00_toDecimal_5c35a 18 = .ok (.istore 4, 2) := by decide +kernel
theorem dJx40b00_toDecimal_5c35a_20 : decode cJx40b00_toDecimal_5c35a 20 = .ok (.iload 4, 2) := by decide +kernel
theorem dJx40b00_toDecimal_5c35a_22 : decode cJx40b00_toDecimal_5c35a 22 = .ok (.sipush 255, 3) := by decide +kernel
theorem dJx40b00_toDecimal_5c35a_25 : decode cJx40b00_toDecimal_5c35a 25 = .ok (.if_icmp .ge 145, 3) := by decide +kernel
theorem dJx40b00_toDecimal_5c35a_28 : decode cJx40b00_toDecimal_5c35a 28 = .ok (.aload_n 0, 1) := by decide +kernel
theorem dJx40b00_toDecimal_5c35a_29 : decode cJx40b00_toDecimal_5c35a 29 = .ok (.iconst (-1), 1) := by decide +kernel
theorem dJx40b00_toDecimal_5c35a_30 : decode cJx40b00_toDecimal_5c35a 30 = .ok (.putfield 42, 3) := by decide +kernel
theorem dJx40b00_toDecimal_5c35a_33 : decode cJx40b00_toDecimal_5c35a 33 = .ok (.iload_n 2, 1) := by decide +kernel
theorem dJx40b00_toDecimal_5c35a_34 : decode cJx40b00_toDecimal_5c35a 34 = .ok (.ifCond .ge 9, 3) := by decide +kernel
theorem dJx40b00_toDecimal_5c35a_37 : decode cJx40b00_toDecimal_5c35a 37 = .ok (.aload_n 0, 1) := by decide +kernel
theorem dJx40b00_toDecimal_5c35a_38 : decode cJx40b00_toDecimal_5c35a 38 = .ok (.bipush 45, 2) := by decide +kernel
theorem dJx40b00_toDecimal_5c35a_40 : decode cJx40b00_toDecimal_5c35a 40 = .ok (.invokevirtual 69, 3) := by decide +kernel
theorem dJx40b00_toDecimal_5c35a_43 : decode cJx40b00_toDecimal_5c35a 43 = .ok (.iload 4, 2) := by decide +kernel
theorem dJx40b00_toDecimal_5c35a_45 : decode cJx40b00_toDecimal_5c35a 45 = .ok (.ifCond .eq 80, 3) := by decide +kernel
theorem dJx40b00_toDecimal_5c35a_48 : decode cJx40b00_toDecimal_5c35a 48 = .ok (.sipush 150, 3) := by decide +kernel
theorem dJx40b00_toDecimal_5c35a_51 : decode cJx40b00_toDecimal_5c35a 51 = .ok (.iload 4, 2) := by decide +kernel
theorem dJx40b00_toDecimal_5c35a_53 : decode cJx40b00_toDecimal_5c35a 53 = .ok (.isub, 1) := by decide +kernel
theorem dJx40b00_toDecimal_5c35a_54 : decode cJx40b00_toDecimal_5c35a 54 = .ok (.istore 5, 2) := by decide +kernel
theorem dJx40b00_toDecimal_5c35a_56 : decode cJx40b00_toDecimal_5c35a 56 = .ok (.ldc 72, 2) := by decide +kernel
theorem dJx40b00_toDecimal_5c35a_58 : decode cJx40b00_toDecimal_5c35a 58 = .ok (.iload_n 3, 1) := by decide +kernel
theorem dJx40b00_toDecimal_5c35a_59 : decode cJx40b00_toDecimal_5c35a 59 = .ok (.ior, 1) := by decide +kernel
theorem dJx40b00_toDecimal_5c35a_60 : decode cJx40b00_toDecimal_5c35a 60 = .ok (.istore 6, 2) := by decide +kernel
theorem dJx40b00_toDecimal_5c35a_62 : decode cJx40b00_toDecimal_5c35a 62 = .ok (.iconst 0, 1) := by decide +kernel
theorem dJx40b00_toDecimal_5c35a_63 : decode cJx40b00_toDecimal_5c35a 63 = .ok (.iload 5, 2) := by decide +kernel
theorem dJx40b00_toDecimal_5c35a_65 : decode cJx40b00_toDecimal_5c35a 65 = .ok (.if_icmp .ge 7, 3) := by decide +kernel
theorem dJx40b00_toDecimal_5c35a_68 : decode cJx40b00_toDecimal_5c35a 68 = .ok (.iconst 1, 1) := by decide +kernel
theorem dJx40b00_toDecimal_5c35a_69 : decode cJx40b00_toDecimal_5c35a 69 = .ok (.goto 4, 3) := by decide +kernel
theorem dJx40b00_toDecimal_5c35a_72 : decode cJx40b00_toDecimal_5c35a 72 = .ok (.iconst 0, 1) := by decide +kernel
theorem dJx40b00_toDecimal_5c35a_73 : decode cJx40b00_toDecimal_5c35a 73 = .ok (.iload 5, 2) := by decide +kernel
theorem dJx40b00_toDecimal_5c35a_75 : decode cJx40b00_toDecimal_5c35a 75 = .ok (.bipush 24, 2) := by decide +kernel
theorem dJx40b00_toDecimal_5c35a_77 : decode cJx40b00_toDecimal_5c35a 77 = .ok (.if_icmp .ge 7, 3) := by decide +kernel
theorem dJx40b00_toDecimal_5c35a_80 : decode cJx40b00_toDecimal_5c35a 80 = .ok (.iconst 1, 1) := by decide +kernel
theorem dJx40b00_toDecimal_5c35a_81 : decode cJx40b00_toDecimal_5c35a 81 = .ok (.goto 4, 3) := by decide +kernel
theorem dJx40b00_toDecimal_5c35a_84 : decode cJx40b00_toDecimal_5c35a 84 = .ok (.iconst 0, 1) := by decide +kernel
theorem dJx40b00_toDecimal_5c35a_85 : decode cJx40b00_toDecimal_5c35a 85 = .ok (.iand, 1) := by decide +kernel
theorem dJx40b00_toDecimal_5c35a_86 : decode cJx40b00_toDecimal_5c35a 86 = .ok (.ifCond .eq 28, 3) := by decide +kernel
theorem dJx40b00_toDecimal_5c35a_89 : decode cJx40b00_toDecimal_5c35a 89 = .ok (.iload 6, 2) := by decide +kernel
theorem dJx40b00_toDecimal_5c35a_91 : decode cJx40b00_toDecimal_5c35a 91 = .ok (.iload 5, 2) := by decide +kernel
theorem dJx40b00_toDecimal_5c35a_93 : decode cJx40b00_toDecimal_5c35a 93 = .ok (.ishr, 1) := by decide +kernel
theorem dJx40b00_toDecimal_5c35a_94 : decode cJx40b00_toDecimal_5c35a 94 = .ok (.istore 7, 2) := by decide +kernel
theorem dJx40b00_toDecimal_5c35a_96 : decode cJx40b00_toDecimal_5c35a 96 = .ok (.iload 7, 2) := by decide +kernel
theorem dJx40b00_toDecimal_5c35a_98 : decode cJx40b00_toDecimal_5c35a 98 = .ok (.iload 5, 2) := by decide +kernel
theorem dJx40b00_toDecimal_5c35a_100 : decode cJx40b00_toDecimal_5c35a 100 = .ok (.ishl, 1) := by decide +kernel
theorem dJx40b00_toDecimal_5c35a_101 : decode cJx40b00_toDecimal_5c35a 101 = .ok (.iload 6, 2) := by decide +kernel
theorem dJx40b00_toDecimal_5c35a_103 : decode cJx40b00_toDecimal_5c35a 103 = .ok (.if_icmp .ne 11, 3) := by decide +kernel
theorem dJx40b00_toDecimal_5c35a_106 : decode cJx40b00_toDecimal_5c35a 106 = .ok (.aload_n 0, 1) := by decide +kernel
theorem dJx40b00_toDecimal_5c35a_107 : decode cJx40b00_toDecimal_5c35a 107 = .ok (.iload 7, 2) := by decide +kernel
theorem dJx40b00_toDecimal_5c35a_109 : decode cJx40b00_toDecimal_5c35a 109 = .ok (.iconst 0, 1) := by decide +kernel
theorem dJx40b00_toDecimal_5c35a_110 : decode cJx40b00_toDecimal_5c35a 110 = .ok (.invokevirtual 73, 3) := by decide +kernel
theorem dJx40b00_toDecimal_5c35a_113 : decode cJx40b00_toDecimal_5c35a 113 = .ok (.ireturn, 1) := by decide +kernel
theorem dJx40b00_toDecimal_5c35a_114 : decode cJx40b00_toDecimal_5c35a 114 = .ok (.aload_n 0, 1) := by decide +kernel
theorem dJx40b00_toDecimal_5c35a_115 : decode cJx40b00_toDecimal_5c35a 115 = .ok (.iload 5, 2) := by decide +kernel
theorem dJx40b00_toDecimal_5c35a_117 : decode cJx40b00_toDecimal_5c35a 117 = .ok (.ineg, 1) := by decide +kernel
theorem dJx40b00_toDecimal_5c35a_118 : decode cJx40b00_toDecimal_5c35a 118 = .ok (.iload 6, 2) := by decide +kernel
theorem dJx40b00_toDecimal_5c35a_120 : decode cJx40b00_toDecimal_5c35a 120 = .ok (.iconst 0, 1) := by decide +kernel
theorem dJx40b00_toDecimal_5c35a_121 : decode cJx40b00_toDecimal_5c35a 121 = .ok (.invokevirtual 77, 3) := by decide +kernel
theorem dJx40b00_toDecimal_5c35a_124 : decode cJx40b00_toDecimal_5c35a 124 = .ok (.ireturn, 1) := by decide +kernel
theorem dJx40b00_toDecimal_5c35a_125 : decode cJx40b00_toDecimal_5c35a 125 = .ok (.iload_n 3, 1) := by decide +kernel
theorem dJx40b00_toDecimal_5c35a_126 : decode cJx40b00_toDecimal_5c35a 126 = .ok (.ifCond .eq 34, 3) := by decide +kernel
theorem dJx40b00_toDecimal_5c35a_129 : decode cJx40b00_toDecimal_5c35a 129 = .ok (.iload_n 3, 1) := by decide +kernel
theorem dJx40b00_toDecimal_5c35a_130 : decode cJx40b00_toDecimal_5c35a 130 = .ok (.bipush 8, 2) := by decide +kernel
theorem dJx40b00_toDecimal_5c35a_132 : decode cJx40b00_toDecimal_5c35a 132 = .ok (.if_icmp .ge 18, 3) := by decide +kernel
theorem dJx40b00_toDecimal_5c35a_135 : decode cJx40b00_toDecimal_5c35a 135 = .ok (.aload_n 0, 1) := by decide +kernel
theorem dJx40b00_toDecimal_5c35a_136 : decode cJx40b00_toDecimal_5c35a 136 = .ok (.sipush (-149), 3) := by decide +kernel
theorem dJx40b00_toDecimal_5c35a_139 : decode cJx40b00_toDecimal_5c35a 139 = .ok (.bipush 10, 2) := by decide +kernel
theorem dJx40b00_toDecimal_5c35a_141 : decode cJx40b00_toDecimal_5c35a 141 = .ok (.iload_n 3, 1) := by decide +kernel
theorem dJx40b00_toDecimal_5c35a_142 : decode cJx40b00_toDecimal_5c35a 142 = .ok (.imul, 1) := by decide +kernel
theorem dJx40b00_toDecimal_5c35a_143 : decode cJx40b00_toDecimal_5c35a 143 = .ok (.iconst (-1), 1) := by decide +kernel
theorem dJx40b00_toDecimal_5c35a_144 : decode cJx40b00_toDecimal_5c35a 144 = .ok (.invokevirtual 77, 3) := by decide +kernel
theorem dJx40b00_toDecimal_5c35a_147 : decode cJx40b00_toDecimal_5c35a 147 = .ok (.goto 12, 3) := by decide +kernel
theorem dJx40b00_toDecimal_5c35a_150 : decode cJx40b00_toDecimal_5c35a 150 = .ok (.aload_n 0, 1) := by decide +kernel
theorem dJx40b00_toDecimal_5c35a_151 : decode cJx40b00_toDecimal_5c35a 151 = .ok (.sipush (-149), 3) := by decide +kernel
theorem dJx40b00_toDecimal_5c35a_154 : decode cJx40b00_toDecimal_5c35a 154 = .ok (.iload_n 3, 1) := by decide +kernel
theorem dJx40b00_toDecimal_5c35a_155 : decode cJx40b00_toDecimal_5c35a 155 = .ok (.iconst 0, 1) := by decide +kernel
theorem dJx40b00_toDecimal_5c35a_156 : decode cJx40b00_toDecimal_5c35a 156 = .ok (.invokevirtual 77, 3) := by decide +kernel
theorem dJx40b00_toDecimal_5c35a_159 : decode cJx40b00_toDecimal_5c35a 159 = .ok (.ireturn, 1) := by decide +kernel
theorem dJx40b00_toDecimal_5c35a_160 : decode cJx40b00_toDecimal_5c35a 160 = .ok (.iload_n 2, 1) := by decide +kernel
theorem dJx40b00_toDecimal_5c35a_161 : decode cJx40b00_toDecimal_5c35a 161 = .ok (.ifCond .ne 7, 3) := by decide +kernel
theorem dJx40b00_toDecimal_5c35a_164 : decode cJx40b00_toDecimal_5c35a 164 = .ok (.iconst 1, 1) := by decide +kernel
theorem dJx40b00_toDecimal_5c35a_165 : decode cJx40b00_toDecimal_5c35a 165 = .ok (.goto 4, 3) := by decide +kernel
theorem dJx40b00_toDecimal_5c35a_168 : decode cJx40b00_toDecimal_5c35a 168 = .ok (.iconst 2, 1) := by decide +kernel
theorem dJx40b00_toDecimal_5c35a_169 : decode cJx40b00_toDecimal_5c35a 169 = .ok (.ireturn, 1) := by decide +kernel
theorem dJx40b00_toDecimal_5c35a_170 : decode cJx40b00_toDecimal_5c35a 170 = .ok (.iload_n 3, 1) := by decide +kernel
theorem dJx40b00_toDecimal_5c35a_171 : decode cJx40b00_toDecimal_5c35a 171 = .ok (.ifCond .eq 5, 3) := by decide +kernel
theorem dJx40b00_toDecimal_5c35a_174 : decode cJx40b00_toDecimal_5c35a 174 = .ok (.iconst 5, 1) := by decide +kernel
theorem dJx40b00_toDecimal_5c35a_175 : decode cJx40b00_toDecimal_5c35a 175 = .ok (.ireturn, 1) := by decide +kernel
theorem dJx40b00_toDecimal_5c35a_176 : decode cJx40b00_toDecimal_5c35a 176 = .ok (.iload_n 2, 1) := by decide +kernel
theorem dJx40b00_toDecimal_5c35a_177 : decode cJx40b00_toDecimal_5c35a 177 = .ok (.ifCond .le 7, 3) := by decide +kernel
theorem dJx40b00_toDecimal_5c35a_180 : decode cJx40b00_toDecimal_5c35a 180 = .ok (.iconst 3, 1) := by decide +kernel
theorem dJx40b00_toDecimal_5c35a_181 : decode cJx40b00_toDecimal_5c35a 181 = .ok (.goto 4, 3) := by decide +kernel
theorem dJx40b00_toDecimal_5c35a_184 : decode cJx40b00_toDecimal_5c35a 184 = .ok (.iconst 4, 1) := by decide +kernel
theorem dJx40b00_toDecimal_5c35a_185 : decode cJx40b00_toDecimal_5c35a 185 = .ok (.ireturn, 1) := by decide +kernel
theorem dJx40b00_toDecimal_cabcc_0 : decode cJx40b00_toDecimal_cabcc 0 = .ok (.iload_n 2, 1) := by decide +kernel
theorem dJx40b00_toDecimal_cabcc_1 : decode cJx40b00_toDecimal_cabcc 1 = .ok (.iconst 1, 1) := by decide +kernel
theorem dJx40b00_toDecimal_cabcc_2 : decode cJx40b00_toDecimal_cabcc 2 = .ok (.iand, 1) := by decide +kernel
theorem dJx40b00_toDecimal_cabcc_3 : decode cJx40b00_toDecimal_cabcc 3 = .ok (.istore 4, 2) := by decide +kernel
theorem dJx40b00_toDecimal_cabcc_5 : decode cJx40b00_toDecimal_cabcc 5 = .ok (.iload_n 2, 1) := by decide +kernel
theorem dJx40b00_toDecimal_cabcc_6 : decode cJx40b00_toDecimal_cabcc 6 = .ok (.iconst 2, 1) := by decide +kernel
theorem dJx40b00_toDecimal_cabcc_7 : decode cJx40b00_toDecimal_cabcc 7 = .ok (.ishl, 1) := by decide +kernel
theorem dJx40b00_toDecimal_cabcc_8 : decode cJx40b00_toDecimal_cabcc 8 = .ok (.i2l, 1) := by decide +kernel
theorem dJx40b00_toDecimal_cabcc_9 : decode cJx40b00_toDecimal_cabcc 9 = .ok (.lstore 5, 2) := by decide +kernel
theorem dJx40b00_toDecimal_cabcc_11 : decode cJx40b00_toDecimal_cabcc 11 = .ok (.lload 5, 2) := by decide +kernel
theorem dJx40b00_toDecimal_cabcc_13 : decode cJx40b00_toDecimal_cabcc 13 = .ok (.ldc2_w 80, 3) := by decide +kernel
theorem dJx40b00_toDecimal_cabcc_16 : decode cJx40b00_toDecimal_cabcc 16 = .ok (.ladd, 1) := by decide +kernel
theorem dJx40b00_toDecimal_cabcc_17 : decode cJx40b00_toDecimal_cabcc 17 = .ok (.lstore 7, 2) := by decide +kernel
theorem dJx40b00_toDecimal_cabcc_19 : decode cJx40b00_toDecimal_cabcc 19 = .ok (.iload_n 2, 1) := by decide +kernel
theorem dJx40b00_toDecimal_cabcc_20 : decode cJx40b00_toDecimal_cabcc 20 = .ok (.ldc 72, 2) := by decide +kernel
theorem dJx40b00_toDecimal_cabcc_22 : decode cJx40b00_toDecimal_cabcc 22 = .ok (.if_icmp .eq 7, 3) := by decide +kernel
theorem dJx40b00_toDecimal_cabcc_25 : decode cJx40b00_toDecimal_cabcc 25 = .ok (.iconst 1, 1) := by decide +kernel
theorem dJx40b00_toDecimal_cabcc_26 : decode cJx40b00_toDecimal_cabcc 26 = .ok (.goto 4, 3) := by decide +kernel
theorem dJx40b00_toDecimal_cabcc_29 : decode cJx40b00_toDecimal_cabcc 29 = .ok (.iconst 0, 1) := by decide +kernel
theorem dJx40b00_toDecimal_cabcc_30 : decode cJx40b00_toDecimal_cabcc 30 = .ok (.iload_n 1, 1) := by decide +kernel
theorem dJx40b00_toDecimal_cabcc_31 : decode cJx40b00_toDecimal_cabcc 31 = .ok (.sipush (-149), 3) := by decide +kernel
theorem dJx40b00_toDecimal_cabcc_34 : decode cJx40b00_toDecimal_cabcc 34 = .ok (.if_icmp .ne 7, 3) := by decide +kernel
theorem dJx40b00_toDecimal_cabcc_37 : decode cJx40b00_toDecimal_cabcc 37 = .ok (.iconst 1, 1) := by decide +kernel
theorem dJx40b00_toDecimal_cabcc_38 : decode cJx40b00_toDecimal_cabcc 38 = .ok (.goto 4, 3) := by decide +kernel
theorem dJx40b00_toDecimal_cabcc_41 : decode cJx40b00_toDecimal_cabcc 41 = .ok (.iconst 0, 1) := by decide +kernel
theorem dJx40b00_toDecimal_cabcc_42 : decode cJx40b00_toDecimal_cabcc 42 = .ok (.ior, 1) := by decide +kernel
theorem dJx40b00_toDecimal_cabcc_43 : decode cJx40b00_toDecimal_cabcc 43 = .ok (.ifCond .eq 20, 3) := by decide +kernel
theorem dJx40b00_toDecimal_cabcc_46 : decode cJx40b00_toDecimal_cabcc 46 = .ok (.lload 5, 2) := by decide +kernel
theorem dJx40b00_toDecimal_cabcc_48 : decode cJx40b00_toDecimal_cabcc 48 = .ok (.ldc2_w 80, 3) := by decide +kernel
theorem dJx40b00_toDecimal_cabcc_51 : decode cJx40b00_toDecimal_cabcc 51 = .ok (.lsub, 1) := by decide +kernel
theorem dJx40b00_toDecimal_cabcc_52 : decode cJx40b00_toDecimal_cabcc 52 = .ok (.lstore 9, 2) := by decide +kernel
theorem dJx40b00_toDecimal_cabcc_54 : decode cJx40b00_toDecimal_cabcc 54 = .ok (.iload_n 1, 1) := by decide +kernel
theorem dJx40b00_toDecimal_cabcc_55 : decode cJx40b00_toDecimal_cabcc 55 = .ok (.invokestatic 82, 3) := by decide +kernel
theorem dJx40b00_toDecimal_cabcc_58 : decode cJx40b00_toDecimal_cabcc 58 = .ok (.istore 11, 2) := by decide +kernel
theorem dJx40b00_toDecimal_cabcc_60 : decode cJx40b00_toDecimal_cabcc 60 = .ok (.goto 15, 3) := by decide +kernel
theorem dJx40b00_toDecimal_cabcc_63 : decode cJx40b00_toDecimal_cabcc 63 = .ok (.lload 5, 2) := by decide +kernel
theorem dJx40b00_toDecimal_cabcc_65 : decode cJx40b00_toDecimal_cabcc 65 = .ok (.lconst 1, 1) := by decide +kernel
theorem dJx40b00_toDecimal_cabcc_66 : decode cJx40b00_toDecimal_cabcc 66 = .ok (.lsub, 1) := by decide +kernel
theorem dJx40b00_toDecimal_cabcc_67 : decode cJx40b00_toDecimal_cabcc 67 = .ok (.lstore 9, 2) := by decide +kernel
theorem dJx40b00_toDecimal_cabcc_69 : decode cJx40b00_toDecimal_cabcc 69 = .ok (.iload_n 1, 1) := by decide +kernel
theorem dJx40b00_toDecimal_cabcc_70 : decode cJx40b00_toDecimal_cabcc 70 = .ok (.invokestatic 88, 3) := by decide +kernel
theorem dJx40b00_toDecimal_cabcc_73 : decode cJx40b00_toDecimal_cabcc 73 = .ok (.istore 11, 2) := by decide +kernel
theorem dJx40b00_toDecimal_cabcc_75 : decode cJx40b00_toDecimal_cabcc 75 = .ok (.iload_n 1, 1) := by decide +kernel
theorem dJx40b00_toDecimal_cabcc_76 : decode cJx40b00_toDecimal_cabcc 76 = .ok (.iload 11, 2) := by decide +kernel
theorem dJx40b00_toDecimal_cabcc_78 : decode cJx40b00_toDecimal_cabcc 78 = .ok (.ineg, 1) := by decide +kernel
theorem dJx40b00_toDecimal_cabcc_79 : decode cJx40b00_toDecimal_cabcc 79 = .ok (.invokestatic 91, 3) := by decide +kernel
theorem dJx40b00_toDecimal_cabcc_82 : decode cJx40b00_toDecimal_cabcc 82 = .ok (.iadd, 1) := by decide +kernel
theorem dJx40b00_toDecimal_cabcc_83 : decode cJx40b00_toDecimal_cabcc 83 = .ok (.bipush 33, 2) := by decide +kernel
theorem dJx40b00_toDecimal_cabcc_85 : decode cJx40b00_toDecimal_cabcc 85 = .ok (.iadd, 1) := by decide +kernel
theorem dJx40b00_toDecimal_cabcc_86 : decode cJx40b00_toDecimal_cabcc 86 = .ok (.istore 12, 2) := by decide +kernel
theorem dJx40b00_toDecimal_cabcc_88 : decode cJx40b00_toDecimal_cabcc 88 = .ok (.iload 11, 2) := by decide +kernel
theorem dJx40b00_toDecimal_cabcc_90 : decode cJx40b00_toDecimal_cabcc 90 = .ok (.invokestatic 94, 3) := by decide +kernel
theorem dJx40b00_toDecimal_cabcc_93 : decode cJx40b00_toDecimal_cabcc 93 = .ok (.lconst 1, 1) := by decide +kernel
theorem dJx40b00_toDecimal_cabcc_94 : decode cJx40b00_toDecimal_cabcc 94 = .ok (.ladd, 1) := by decide +kernel
theorem dJx40b00_toDecimal_cabcc_95 : decode cJx40b00_toDecimal_cabcc 95 = .ok (.lstore 13, 2) := by decide +kernel
theorem dJx40b00_toDecimal_cabcc_97 : decode cJx40b00_toDecimal_cabcc 97 = .ok (.lload 13, 2) := by decide +kernel
theorem dJx40b00_toDecimal_cabcc_99 : decode cJx40b00_toDecimal_cabcc 99 = .ok (.lload 5, 2) := by decide +kernel
theorem dJx40b00_toDecimal_cabcc_101 : decode cJx40b00_toDecimal_cabcc 101 = .ok (.iload 12, 2) := by decide +kernel
theorem dJx40b00_toDecimal_cabcc_103 : decode cJx40b00_toDecimal_cabcc 103 = .ok (.lshl, 1) := by decide +kernel
theorem dJx40b00_toDecimal_cabcc_104 : decode cJx40b00_toDecimal_cabcc 104 = .ok (.invokestatic 98, 3) := by decide +kernel
theorem dJx40b00_toDecimal_cabcc_107 : decode cJx40b00_toDecimal_cabcc 107 = .ok (.istore 15, 2) := by decide +kernel
theorem dJx40b00_toDecimal_cabcc_109 : decode cJx40b00_toDecimal_cabcc 109 = .ok (.lload 13, 2) := by decide +kernel
theorem dJx40b00_toDecimal_cabcc_111 : decode cJx40b00_toDecimal_cabcc 111 = .ok (.lload 9, 2) := by decide +kernel
theorem dJx40b00_toDecimal_cabcc_113 : decode cJx40b00_toDecimal_cabcc 113 = .ok (.iload 12, 2) := by decide +kernel
theorem dJx40b00_toDecimal_cabcc_115 : decode cJx40b00_toDecimal_cabcc 115 = .ok (.lshl, 1) := by decide +kernel
theorem dJx40b00_toDecimal_cabcc_116 : decode cJx40b00_toDecimal_cabcc 116 = .ok (.invokestatic 98, 3) := by decide +kernel
theorem dJx40b00_toDecimal_cabcc_119 : decode cJx40b00_toDecimal_cabcc 119 = .ok (.istore 16, 2) := by decide +kernel
theorem dJx40b00_toDecimal_cabcc_121 : decode cJx40b00_toDecimal_cabcc 121 = .ok (.lload 13, 2) := by decide +kernel
theorem dJx40b00_toDecimal_cabcc_123 : decode cJx40b00_toDecimal_cabcc 123 = .ok (.lload 7, 2) := by decide +kernel
theorem dJx40b00_toDecimal_cabcc_125 : decode cJx40b00_toDecimal_cabcc 125 = .ok (.iload 12, 2) := by decide +kernel
theorem dJx40b00_toDecimal_cabcc_127 : decode cJx40b00_toDecimal_cabcc 127 = .ok (.lshl, 1) := by decide +kernel
theorem dJx40b00_toDecimal_cabcc_128 : decode cJx40b00_toDecimal_cabcc 128 = .ok (.invokestatic 98, 3) := by decide +kernel
theorem dJx40b00_toDecimal_cabcc_131 : decode cJx40b00_toDecimal_cabcc 131 = .ok (.istore 17, 2) := by decide +kernel
theorem dJx40b00_toDecimal_cabcc_133 : decode cJx40b00_toDecimal_cabcc 133 = .ok (.iload 15, 2) := by decide +kernel
theorem dJx40b00_toDecimal_cabcc_135 : decode cJx40b00_toDecimal_cabcc 135 = .ok (.iconst 2, 1) := by decide +kernel
theorem dJx40b00_toDecimal_cabcc_136 : decode cJx40b00_toDecimal_cabcc 136 = .ok (.ishr, 1) := by decide +kernel
theorem dJx40b00_toDecimal_cabcc_137 : decode cJx40b00_toDecimal_cabcc 137 = .ok (.istore 18, 2) := by decide +kernel
theorem dJx40b00_toDecimal_cabcc_139 : decode cJx40b00_toDecimal_cabcc 139 = .ok (.iload 18, 2) := by decide +kernel
theorem dJx40b00_toDecimal_cabcc_141 : decode cJx40b00_toDecimal_cabcc 141 = .ok (.bipush 100, 2) := by decide +kernel
theorem dJx40b00_toDecimal_cabcc_143 : decode cJx40b00_toDecimal_cabcc 143 = .ok (.if_icmp .lt 90, 3) := by decide +kernel
theorem dJx40b00_toDecimal_cabcc_146 : decode cJx40b00_toDecimal_cabcc 146 = .ok (.bipush 10, 2) := by decide +kernel
theorem dJx40b00_toDecimal_cabcc_148 : decode cJx40b00_toDecimal_cabcc 148 = .ok (.iload 18, 2) := by decide +kernel
theorem dJx40b00_toDecimal_cabcc_150 : decode cJx40b00_toDecimal_cabcc 150 = .ok (.i2l, 1) := by decide +kernel
theorem dJx40b00_toDecimal_cabcc_151 : decode cJx40b00_toDecimal_cabcc 151 = .ok (.ldc2_w 102, 3) := by decide +kernel
theorem dJx40b00_toDecimal_cabcc_154 : decode cJx40b00_toDecimal_cabcc 154 = .ok (.lmul, 1) := by decide +kernel
theorem dJx40b00_toDecimal_cabcc_155 : decode cJx40b00_toDecimal_cabcc 155 = .ok (.bipush 34, 2) := by decide +kernel
theorem dJx40b00_toDecimal_cabcc_157 : decode cJx40b00_toDecimal_cabcc 157 = .ok (.lushr, 1) := by decide +kernel
theorem dJx40b00_toDecimal_cabcc_158 : decode cJx40b00_toDecimal_cabcc 158 = .ok (.l2i, 1) := by decide +kernel
theorem dJx40b00_toDecimal_cabcc_159 : decode cJx40b00_toDecimal_cabcc 159 = .ok (.imul, 1) := by decide +kernel
theorem dJx40b00_toDecimal_cabcc_160 : decode cJx40b00_toDecimal_cabcc 160 = .ok (.istore 19, 2) := by decide +kernel
theorem dJx40b00_toDecimal_cabcc_162 : decode cJx40b00_toDecimal_cabcc 162 = .ok (.iload 19, 2) := by decide +kernel
theorem dJx40b00_toDecimal_cabcc_164 : decode cJx40b00_toDecimal_cabcc 164 = .ok (.bipush 10, 2) := by decide +kernel
theorem dJx40b00_toDecimal_cabcc_166 : decode cJx40b00_toDecimal_cabcc 166 = .ok (.iadd, 1) := by decide +kernel
theorem dJx40b00_toDecimal_cabcc_167 : decode cJx40b00_toDecimal_cabcc 167 = .ok (.istore 20, 2) := by decide +kernel
