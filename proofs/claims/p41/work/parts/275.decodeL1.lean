theorem dL_at_0 : decode cL_at 0 = .ok (.iload_n 1, 1) := by decide +kernel
theorem dL_at_1 : decode cL_at 1 = .ok (.aload_n 0, 1) := by decide +kernel
theorem dL_at_2 : decode cL_at 2 = .ok (.arraylength, 1) := by decide +kernel
theorem dL_at_3 : decode cL_at 3 = .ok (.if_icmp .ge 9, 3) := by decide +kernel
theorem dL_at_6 : decode cL_at 6 = .ok (.aload_n 0, 1) := by decide +kernel
theorem dL_at_7 : decode cL_at 7 = .ok (.iload_n 1, 1) := by decide +kernel
theorem dL_at_8 : decode cL_at 8 = .ok (.iaload, 1) := by decide +kernel
theorem dL_at_9 : decode cL_at 9 = .ok (.goto 4, 3) := by decide +kernel
theorem dL_at_12 : decode cL_at 12 = .ok (.iconst 0, 1) := by decide +kernel
theorem dL_at_13 : decode cL_at 13 = .ok (.ireturn, 1) := by decide +kernel
theorem dL_some_0 : decode cL_some 0 = .ok (.iload_n 0, 1) := by decide +kernel
theorem dL_some_1 : decode cL_some 1 = .ok (.iload_n 1, 1) := by decide +kernel
theorem dL_some_2 : decode cL_some 2 = .ok (.irem, 1) := by decide +kernel
theorem dL_some_3 : decode cL_some 3 = .ok (.istore_n 2, 1) := by decide +kernel
theorem dL_some_4 : decode cL_some 4 = .ok (.iload_n 2, 1) := by decide +kernel
theorem dL_some_5 : decode cL_some 5 = .ok (.ifCond .ge 9, 3) := by decide +kernel
theorem dL_some_8 : decode cL_some 8 = .ok (.iload_n 2, 1) := by decide +kernel
theorem dL_some_9 : decode cL_some 9 = .ok (.iload_n 1, 1) := by decide +kernel
theorem dL_some_10 : decode cL_some 10 = .ok (.iadd, 1) := by decide +kernel
theorem dL_some_11 : decode cL_some 11 = .ok (.goto 4, 3) := by decide +kernel
theorem dL_some_14 : decode cL_some 14 = .ok (.iload_n 2, 1) := by decide +kernel
theorem dL_some_15 : decode cL_some 15 = .ok (.ireturn, 1) := by decide +kernel
theorem dL_is_0 : decode cL_is 0 = .ok (.aload_n 0, 1) := by decide +kernel
theorem dL_is_1 : decode cL_is 1 = .ok (.iconst 0, 1) := by decide +kernel
theorem dL_is_2 : decode cL_is 2 = .ok (.iconst 0, 1) := by decide +kernel
theorem dL_is_3 : decode cL_is 3 = .ok (.invokevirtual 26, 3) := by decide +kernel
theorem dL_is_6 : decode cL_is 6 = .ok (.iload_n 1, 1) := by decide +kernel
theorem dL_is_7 : decode cL_is 7 = .ok (.if_icmp .ne 39, 3) := by decide +kernel
theorem dL_is_10 : decode cL_is 10 = .ok (.aload_n 0, 1) := by decide +kernel
theorem dL_is_11 : decode cL_is 11 = .ok (.iconst 0, 1) := by decide +kernel
theorem dL_is_12 : decode cL_is 12 = .ok (.iconst 1, 1) := by decide +kernel
theorem dL_is_13 : decode cL_is 13 = .ok (.invokevirtual 26, 3) := by decide +kernel
theorem dL_is_16 : decode cL_is 16 = .ok (.iload_n 2, 1) := by decide +kernel
theorem dL_is_17 : decode cL_is 17 = .ok (.if_icmp .ne 29, 3) := by decide +kernel
theorem dL_is_20 : decode cL_is 20 = .ok (.aload_n 0, 1) := by decide +kernel
theorem dL_is_21 : decode cL_is 21 = .ok (.iconst 1, 1) := by decide +kernel
theorem dL_is_22 : decode cL_is 22 = .ok (.iconst 0, 1) := by decide +kernel
theorem dL_is_23 : decode cL_is 23 = .ok (.invokevirtual 26, 3) := by decide +kernel
theorem dL_is_26 : decode cL_is 26 = .ok (.bipush (-4), 2) := by decide +kernel
theorem dL_is_28 : decode cL_is 28 = .ok (.if_icmp .ne 18, 3) := by decide +kernel
theorem dL_is_31 : decode cL_is 31 = .ok (.aload_n 0, 1) := by decide +kernel
theorem dL_is_32 : decode cL_is 32 = .ok (.iconst 1, 1) := by decide +kernel
theorem dL_is_33 : decode cL_is 33 = .ok (.iconst 1, 1) := by decide +kernel
theorem dL_is_34 : decode cL_is 34 = .ok (.invokevirtual 26, 3) := by decide +kernel
theorem dL_is_37 : decode cL_is 37 = .ok (.bipush (-4), 2) := by decide +kernel
theorem dL_is_39 : decode cL_is 39 = .ok (.if_icmp .ne 7, 3) := by decide +kernel
theorem dL_is_42 : decode cL_is 42 = .ok (.iconst 1, 1) := by decide +kernel
theorem dL_is_43 : decode cL_is 43 = .ok (.goto 4, 3) := by decide +kernel
theorem dL_is_46 : decode cL_is 46 = .ok (.iconst 0, 1) := by decide +kernel
theorem dL_is_47 : decode cL_is 47 = .ok (.ireturn, 1) := by decide +kernel
theorem dL_isSeven_0 : decode cL_isSeven 0 = .ok (.aload_n 0, 1) := by decide +kernel
theorem dL_isSeven_1 : decode cL_isSeven 1 = .ok (.iconst 0, 1) := by decide +kernel
theorem dL_isSeven_2 : decode cL_isSeven 2 = .ok (.iconst 0, 1) := by decide +kernel
theorem dL_isSeven_3 : decode cL_isSeven 3 = .ok (.invokevirtual 26, 3) := by decide +kernel
theorem dL_isSeven_6 : decode cL_isSeven 6 = .ok (.iload_n 2, 1) := by decide +kernel
theorem dL_isSeven_7 : decode cL_isSeven 7 = .ok (.ifCond .ne 8, 3) := by decide +kernel
theorem dL_isSeven_10 : decode cL_isSeven 10 = .ok (.bipush 8, 2) := by decide +kernel
theorem dL_isSeven_12 : decode cL_isSeven 12 = .ok (.goto 5, 3) := by decide +kernel
theorem dL_isSeven_15 : decode cL_isSeven 15 = .ok (.bipush 7, 2) := by decide +kernel
theorem dL_isSeven_17 : decode cL_isSeven 17 = .ok (.if_icmp .ne 55, 3) := by decide +kernel
theorem dL_isSeven_20 : decode cL_isSeven 20 = .ok (.aload_n 0, 1) := by decide +kernel
theorem dL_isSeven_21 : decode cL_isSeven 21 = .ok (.iconst 0, 1) := by decide +kernel
theorem dL_isSeven_22 : decode cL_isSeven 22 = .ok (.iconst 1, 1) := by decide +kernel
theorem dL_isSeven_23 : decode cL_isSeven 23 = .ok (.invokevirtual 26, 3) := by decide +kernel
theorem dL_isSeven_26 : decode cL_isSeven 26 = .ok (.iload_n 1, 1) := by decide +kernel
theorem dL_isSeven_27 : decode cL_isSeven 27 = .ok (.if_icmp .ne 45, 3) := by decide +kernel
theorem dL_isSeven_30 : decode cL_isSeven 30 = .ok (.aload_n 0, 1) := by decide +kernel
theorem dL_isSeven_31 : decode cL_isSeven 31 = .ok (.iconst 1, 1) := by decide +kernel
theorem dL_isSeven_32 : decode cL_isSeven 32 = .ok (.iconst 0, 1) := by decide +kernel
theorem dL_isSeven_33 : decode cL_isSeven 33 = .ok (.invokevirtual 26, 3) := by decide +kernel
theorem dL_isSeven_36 : decode cL_isSeven 36 = .ok (.iload_n 2, 1) := by decide +kernel
theorem dL_isSeven_37 : decode cL_isSeven 37 = .ok (.ifCond .ne 8, 3) := by decide +kernel
theorem dL_isSeven_40 : decode cL_isSeven 40 = .ok (.bipush (-4), 2) := by decide +kernel
theorem dL_isSeven_42 : decode cL_isSeven 42 = .ok (.goto 4, 3) := by decide +kernel
theorem dL_isSeven_45 : decode cL_isSeven 45 = .ok (.iload_n 2, 1) := by decide +kernel
theorem dL_isSeven_46 : decode cL_isSeven 46 = .ok (.if_icmp .ne 26, 3) := by decide +kernel
theorem dL_isSeven_49 : decode cL_isSeven 49 = .ok (.aload_n 0, 1) := by decide +kernel
theorem dL_isSeven_50 : decode cL_isSeven 50 = .ok (.iconst 1, 1) := by decide +kernel
theorem dL_isSeven_51 : decode cL_isSeven 51 = .ok (.iconst 1, 1) := by decide +kernel
theorem dL_isSeven_52 : decode cL_isSeven 52 = .ok (.invokevirtual 26, 3) := by decide +kernel
theorem dL_isSeven_55 : decode cL_isSeven 55 = .ok (.iload_n 2, 1) := by decide +kernel
theorem dL_isSeven_56 : decode cL_isSeven 56 = .ok (.ifCond .ne 8, 3) := by decide +kernel
theorem dL_isSeven_59 : decode cL_isSeven 59 = .ok (.bipush (-4), 2) := by decide +kernel
theorem dL_isSeven_61 : decode cL_isSeven 61 = .ok (.goto 4, 3) := by decide +kernel
theorem dL_isSeven_64 : decode cL_isSeven 64 = .ok (.iload_n 3, 1) := by decide +kernel
theorem dL_isSeven_65 : decode cL_isSeven 65 = .ok (.if_icmp .ne 7, 3) := by decide +kernel
theorem dL_isSeven_68 : decode cL_isSeven 68 = .ok (.iconst 1, 1) := by decide +kernel
theorem dL_isSeven_69 : decode cL_isSeven 69 = .ok (.goto 4, 3) := by decide +kernel
theorem dL_isSeven_72 : decode cL_isSeven 72 = .ok (.iconst 0, 1) := by decide +kernel
theorem dL_isSeven_73 : decode cL_isSeven 73 = .ok (.ireturn, 1) := by decide +kernel
theorem dL_makes_0 : decode cL_makes 0 = .ok (.iconst 4, 1) := by decide +kernel
theorem dL_makes_1 : decode cL_makes 1 = .ok (.aload_n 1, 1) := by decide +kernel
theorem dL_makes_2 : decode cL_makes 2 = .ok (.iconst 0, 1) := by decide +kernel
theorem dL_makes_3 : decode cL_makes 3 = .ok (.invokestatic 34, 3) := by decide +kernel
theorem dL_makes_6 : decode cL_makes 6 = .ok (.bipush 13, 2) := by decide +kernel
theorem dL_makes_8 : decode cL_makes 8 = .ok (.invokestatic 40, 3) := by decide +kernel
theorem dL_makes_11 : decode cL_makes 11 = .ok (.iadd, 1) := by decide +kernel
theorem dL_makes_12 : decode cL_makes 12 = .ok (.istore_n 2, 1) := by decide +kernel
theorem dL_makes_13 : decode cL_makes 13 = .ok (.iconst 0, 1) := by decide +kernel
theorem dL_makes_14 : decode cL_makes 14 = .ok (.istore_n 3, 1) := by decide +kernel
theorem dL_makes_15 : decode cL_makes 15 = .ok (.iload_n 3, 1) := by decide +kernel
theorem dL_makes_16 : decode cL_makes 16 = .ok (.iload_n 2, 1) := by decide +kernel
theorem dL_makes_17 : decode cL_makes 17 = .ok (.if_icmp .ge 31, 3) := by decide +kernel
theorem dL_makes_20 : decode cL_makes 20 = .ok (.aload_n 0, 1) := by decide +kernel
theorem dL_makes_21 : decode cL_makes 21 = .ok (.aload_n 1, 1) := by decide +kernel
theorem dL_makes_22 : decode cL_makes 22 = .ok (.iconst 1, 1) := by decide +kernel
theorem dL_makes_23 : decode cL_makes 23 = .ok (.iload_n 3, 1) := by decide +kernel
theorem dL_makes_24 : decode cL_makes 24 = .ok (.iadd, 1) := by decide +kernel
theorem dL_makes_25 : decode cL_makes 25 = .ok (.invokestatic 34, 3) := by decide +kernel
theorem dL_makes_28 : decode cL_makes 28 = .ok (.bipush 100, 2) := by decide +kernel
theorem dL_makes_30 : decode cL_makes 30 = .ok (.invokestatic 40, 3) := by decide +kernel
theorem dL_makes_33 : decode cL_makes 33 = .ok (.invokevirtual 44, 3) := by decide +kernel
theorem dL_makes_36 : decode cL_makes 36 = .ok (.iload_n 3, 1) := by decide +kernel
theorem dL_makes_37 : decode cL_makes 37 = .ok (.if_icmp .eq 5, 3) := by decide +kernel
theorem dL_makes_40 : decode cL_makes 40 = .ok (.iconst 0, 1) := by decide +kernel
theorem dL_makes_41 : decode cL_makes 41 = .ok (.ireturn, 1) := by decide +kernel
theorem dL_makes_42 : decode cL_makes 42 = .ok (.iinc 3 1, 3) := by decide +kernel
theorem dL_makes_45 : decode cL_makes 45 = .ok (.goto (-30), 3) := by decide +kernel
theorem dL_makes_48 : decode cL_makes 48 = .ok (.iconst 0, 1) := by decide +kernel
theorem dL_makes_49 : decode cL_makes 49 = .ok (.istore_n 3, 1) := by decide +kernel
theorem dL_makes_50 : decode cL_makes 50 = .ok (.iload_n 3, 1) := by decide +kernel
theorem dL_makes_51 : decode cL_makes 51 = .ok (.bipush 16, 2) := by decide +kernel
theorem dL_makes_53 : decode cL_makes 53 = .ok (.if_icmp .ge 87, 3) := by decide +kernel
theorem dL_makes_56 : decode cL_makes 56 = .ok (.aload_n 1, 1) := by decide +kernel
theorem dL_makes_57 : decode cL_makes 57 = .ok (.bipush 17, 2) := by decide +kernel
theorem dL_makes_59 : decode cL_makes 59 = .ok (.iload_n 3, 1) := by decide +kernel
theorem dL_makes_60 : decode cL_makes 60 = .ok (.iadd, 1) := by decide +kernel
theorem dL_makes_61 : decode cL_makes 61 = .ok (.invokestatic 34, 3) := by decide +kernel
theorem dL_makes_64 : decode cL_makes 64 = .ok (.iload_n 3, 1) := by decide +kernel
theorem dL_makes_65 : decode cL_makes 65 = .ok (.sipush 7919, 3) := by decide +kernel
theorem dL_makes_68 : decode cL_makes 68 = .ok (.imul, 1) := by decide +kernel
theorem dL_makes_69 : decode cL_makes 69 = .ok (.ixor, 1) := by decide +kernel
theorem dL_makes_70 : decode cL_makes 70 = .ok (.istore 4, 2) := by decide +kernel
theorem dL_makes_72 : decode cL_makes 72 = .ok (.aload_n 0, 1) := by decide +kernel
theorem dL_makes_73 : decode cL_makes 73 = .ok (.iload 4, 2) := by decide +kernel
theorem dL_makes_75 : decode cL_makes 75 = .ok (.iload_n 2, 1) := by decide +kernel
theorem dL_makes_76 : decode cL_makes 76 = .ok (.invokestatic 40, 3) := by decide +kernel
theorem dL_makes_79 : decode cL_makes 79 = .ok (.iload 4, 2) := by decide +kernel
theorem dL_makes_81 : decode cL_makes 81 = .ok (.iconst 4, 1) := by decide +kernel
theorem dL_makes_82 : decode cL_makes 82 = .ok (.ishr, 1) := by decide +kernel
theorem dL_makes_83 : decode cL_makes 83 = .ok (.iload_n 2, 1) := by decide +kernel
theorem dL_makes_84 : decode cL_makes 84 = .ok (.invokestatic 40, 3) := by decide +kernel
theorem dL_makes_87 : decode cL_makes 87 = .ok (.invokevirtual 47, 3) := by decide +kernel
theorem dL_makes_90 : decode cL_makes 90 = .ok (.istore 5, 2) := by decide +kernel
theorem dL_makes_92 : decode cL_makes 92 = .ok (.iload 5, 2) := by decide +kernel
theorem dL_makes_94 : decode cL_makes 94 = .ok (.ifCond .ge 12, 3) := by decide +kernel
theorem dL_makes_97 : decode cL_makes 97 = .ok (.iload 5, 2) := by decide +kernel
theorem dL_makes_99 : decode cL_makes 99 = .ok (.bipush (-3), 2) := by decide +kernel
theorem dL_makes_101 : decode cL_makes 101 = .ok (.if_icmp .eq 5, 3) := by decide +kernel
theorem dL_makes_104 : decode cL_makes 104 = .ok (.iconst 0, 1) := by decide +kernel
theorem dL_makes_105 : decode cL_makes 105 = .ok (.ireturn, 1) := by decide +kernel
theorem dL_makes_106 : decode cL_makes 106 = .ok (.iload 4, 2) := by decide +kernel
theorem dL_makes_108 : decode cL_makes 108 = .ok (.bipush 8, 2) := by decide +kernel
theorem dL_makes_110 : decode cL_makes 110 = .ok (.ishr, 1) := by decide +kernel
theorem dL_makes_111 : decode cL_makes 111 = .ok (.iconst 3, 1) := by decide +kernel
theorem dL_makes_112 : decode cL_makes 112 = .ok (.iand, 1) := by decide +kernel
theorem dL_makes_113 : decode cL_makes 113 = .ok (.ifCond .ne 21, 3) := by decide +kernel
theorem dL_makes_116 : decode cL_makes 116 = .ok (.aload_n 0, 1) := by decide +kernel
theorem dL_makes_117 : decode cL_makes 117 = .ok (.iload 4, 2) := by decide +kernel
theorem dL_makes_119 : decode cL_makes 119 = .ok (.bipush 10, 2) := by decide +kernel
theorem dL_makes_121 : decode cL_makes 121 = .ok (.ishr, 1) := by decide +kernel
theorem dL_makes_122 : decode cL_makes 122 = .ok (.iload_n 2, 1) := by decide +kernel
theorem dL_makes_123 : decode cL_makes 123 = .ok (.invokestatic 40, 3) := by decide +kernel
theorem dL_makes_126 : decode cL_makes 126 = .ok (.invokevirtual 50, 3) := by decide +kernel
theorem dL_makes_129 : decode cL_makes 129 = .ok (.ifCond .ge 5, 3) := by decide +kernel
theorem dL_makes_132 : decode cL_makes 132 = .ok (.iconst 0, 1) := by decide +kernel
theorem dL_makes_133 : decode cL_makes 133 = .ok (.ireturn, 1) := by decide +kernel
theorem dL_makes_134 : decode cL_makes 134 = .ok (.iinc 3 1, 3) := by decide +kernel
theorem dL_makes_137 : decode cL_makes 137 = .ok (.goto (-87), 3) := by decide +kernel
theorem dL_makes_140 : decode cL_makes 140 = .ok (.aload_n 0, 1) := by decide +kernel
theorem dL_makes_141 : decode cL_makes 141 = .ok (.aload_n 1, 1) := by decide +kernel
theorem dL_makes_142 : decode cL_makes 142 = .ok (.bipush 30, 2) := by decide +kernel
theorem dL_makes_144 : decode cL_makes 144 = .ok (.invokestatic 34, 3) := by decide +kernel
theorem dL_makes_147 : decode cL_makes 147 = .ok (.iload_n 2, 1) := by decide +kernel
theorem dL_makes_148 : decode cL_makes 148 = .ok (.invokestatic 40, 3) := by decide +kernel
theorem dL_makes_151 : decode cL_makes 151 = .ok (.invokevirtual 53, 3) := by decide +kernel
theorem dL_makes_154 : decode cL_makes 154 = .ok (.ifCond .ne 7, 3) := by decide +kernel
theorem dL_makes_157 : decode cL_makes 157 = .ok (.iconst 1, 1) := by decide +kernel
theorem dL_makes_158 : decode cL_makes 158 = .ok (.goto 4, 3) := by decide +kernel
theorem dL_makes_161 : decode cL_makes 161 = .ok (.iconst 0, 1) := by decide +kernel
theorem dL_makes_162 : decode cL_makes 162 = .ok (.ireturn, 1) := by decide +kernel
theorem dL_asks_0 : decode cL_asks 0 = .ok (.ldc2_w 56, 3) := by decide +kernel
theorem dL_asks_3 : decode cL_asks 3 = .ok (.aload_n 0, 1) := by decide +kernel
theorem dL_asks_4 : decode cL_asks 4 = .ok (.invokevirtual 58, 3) := by decide +kernel
theorem dL_asks_7 : decode cL_asks 7 = .ok (.invokestatic 62, 3) := by decide +kernel
theorem dL_asks_10 : decode cL_asks 10 = .ok (.lmul, 1) := by decide +kernel
theorem dL_asks_11 : decode cL_asks 11 = .ok (.aload_n 0, 1) := by decide +kernel
theorem dL_asks_12 : decode cL_asks 12 = .ok (.invokevirtual 68, 3) := by decide +kernel
theorem dL_asks_15 : decode cL_asks 15 = .ok (.invokestatic 72, 3) := by decide +kernel
theorem dL_asks_18 : decode cL_asks 18 = .ok (.i2l, 1) := by decide +kernel
theorem dL_asks_19 : decode cL_asks 19 = .ok (.ladd, 1) := by decide +kernel
theorem dL_asks_20 : decode cL_asks 20 = .ok (.aload_n 0, 1) := by decide +kernel
theorem dL_asks_21 : decode cL_asks 21 = .ok (.invokevirtual 78, 3) := by decide +kernel
theorem dL_asks_24 : decode cL_asks 24 = .ok (.i2l, 1) := by decide +kernel
theorem dL_asks_25 : decode cL_asks 25 = .ok (.ladd, 1) := by decide +kernel
theorem dL_asks_26 : decode cL_asks 26 = .ok (.lstore_n 1, 1) := by decide +kernel
theorem dL_asks_27 : decode cL_asks 27 = .ok (.iconst 0, 1) := by decide +kernel
theorem dL_asks_28 : decode cL_asks 28 = .ok (.istore_n 3, 1) := by decide +kernel
theorem dL_asks_29 : decode cL_asks 29 = .ok (.iload_n 3, 1) := by decide +kernel
theorem dL_asks_30 : decode cL_asks 30 = .ok (.bipush 11, 2) := by decide +kernel
theorem dL_asks_32 : decode cL_asks 32 = .ok (.if_icmp .ge 22, 3) := by decide +kernel
theorem dL_asks_35 : decode cL_asks 35 = .ok (.ldc2_w 56, 3) := by decide +kernel
theorem dL_asks_38 : decode cL_asks 38 = .ok (.lload_n 1, 1) := by decide +kernel
theorem dL_asks_39 : decode cL_asks 39 = .ok (.lmul, 1) := by decide +kernel
theorem dL_asks_40 : decode cL_asks 40 = .ok (.aload_n 0, 1) := by decide +kernel
theorem dL_asks_41 : decode cL_asks 41 = .ok (.iload_n 3, 1) := by decide +kernel
theorem dL_asks_42 : decode cL_asks 42 = .ok (.invokevirtual 81, 3) := by decide +kernel
theorem dL_asks_45 : decode cL_asks 45 = .ok (.i2l, 1) := by decide +kernel
theorem dL_asks_46 : decode cL_asks 46 = .ok (.ladd, 1) := by decide +kernel
theorem dL_asks_47 : decode cL_asks 47 = .ok (.lstore_n 1, 1) := by decide +kernel
theorem dL_asks_48 : decode cL_asks 48 = .ok (.iinc 3 1, 3) := by decide +kernel
theorem dL_asks_51 : decode cL_asks 51 = .ok (.goto (-22), 3) := by decide +kernel
theorem dL_asks_54 : decode cL_asks 54 = .ok (.aload_n 0, 1) := by decide +kernel
theorem dL_asks_55 : decode cL_asks 55 = .ok (.iconst 0, 1) := by decide +kernel
theorem dL_asks_56 : decode cL_asks 56 = .ok (.invokevirtual 81, 3) := by decide +kernel
theorem dL_asks_59 : decode cL_asks 59 = .ok (.istore_n 3, 1) := by decide +kernel
theorem dL_asks_60 : decode cL_asks 60 = .ok (.iconst 0, 1) := by decide +kernel
theorem dL_asks_61 : decode cL_asks 61 = .ok (.istore 4, 2) := by decide +kernel
theorem dL_asks_63 : decode cL_asks 63 = .ok (.iload 4, 2) := by decide +kernel
theorem dL_asks_65 : decode cL_asks 65 = .ok (.iload_n 3, 1) := by decide +kernel
theorem dL_asks_66 : decode cL_asks 66 = .ok (.if_icmp .ge 232, 3) := by decide +kernel
theorem dL_asks_69 : decode cL_asks 69 = .ok (.iconst 0, 1) := by decide +kernel
theorem dL_asks_70 : decode cL_asks 70 = .ok (.istore 5, 2) := by decide +kernel
theorem dL_asks_72 : decode cL_asks 72 = .ok (.iload 5, 2) := by decide +kernel
theorem dL_asks_74 : decode cL_asks 74 = .ok (.bipush 7, 2) := by decide +kernel
theorem dL_asks_76 : decode cL_asks 76 = .ok (.if_icmp .ge 39, 3) := by decide +kernel
theorem dL_asks_79 : decode cL_asks 79 = .ok (.ldc2_w 56, 3) := by decide +kernel
theorem dL_asks_82 : decode cL_asks 82 = .ok (.ldc2_w 56, 3) := by decide +kernel
theorem dL_asks_85 : decode cL_asks 85 = .ok (.lload_n 1, 1) := by decide +kernel
theorem dL_asks_86 : decode cL_asks 86 = .ok (.lmul, 1) := by decide +kernel
theorem dL_asks_87 : decode cL_asks 87 = .ok (.aload_n 0, 1) := by decide +kernel
theorem dL_asks_88 : decode cL_asks 88 = .ok (.iload 4, 2) := by decide +kernel
theorem dL_asks_90 : decode cL_asks 90 = .ok (.iload 5, 2) := by decide +kernel
theorem dL_asks_92 : decode cL_asks 92 = .ok (.invokevirtual 84, 3) := by decide +kernel
theorem dL_asks_95 : decode cL_asks 95 = .ok (.i2l, 1) := by decide +kernel
theorem dL_asks_96 : decode cL_asks 96 = .ok (.ladd, 1) := by decide +kernel
theorem dL_asks_97 : decode cL_asks 97 = .ok (.lmul, 1) := by decide +kernel
theorem dL_asks_98 : decode cL_asks 98 = .ok (.aload_n 0, 1) := by decide +kernel
theorem dL_asks_99 : decode cL_asks 99 = .ok (.iload 4, 2) := by decide +kernel
theorem dL_asks_101 : decode cL_asks 101 = .ok (.iload 5, 2) := by decide +kernel
theorem dL_asks_103 : decode cL_asks 103 = .ok (.invokevirtual 87, 3) := by decide +kernel
theorem dL_asks_106 : decode cL_asks 106 = .ok (.i2l, 1) := by decide +kernel
theorem dL_asks_107 : decode cL_asks 107 = .ok (.ladd, 1) := by decide +kernel
theorem dL_asks_108 : decode cL_asks 108 = .ok (.lstore_n 1, 1) := by decide +kernel
theorem dL_asks_109 : decode cL_asks 109 = .ok (.iinc 5 1, 3) := by decide +kernel
theorem dL_asks_112 : decode cL_asks 112 = .ok (.goto (-40), 3) := by decide +kernel
theorem dL_asks_115 : decode cL_asks 115 = .ok (.ldc2_w 56, 3) := by decide +kernel
theorem dL_asks_118 : decode cL_asks 118 = .ok (.ldc2_w 56, 3) := by decide +kernel
theorem dL_asks_121 : decode cL_asks 121 = .ok (.ldc2_w 56, 3) := by decide +kernel
theorem dL_asks_124 : decode cL_asks 124 = .ok (.ldc2_w 56, 3) := by decide +kernel
theorem dL_asks_127 : decode cL_asks 127 = .ok (.ldc2_w 56, 3) := by decide +kernel
theorem dL_asks_130 : decode cL_asks 130 = .ok (.ldc2_w 56, 3) := by decide +kernel
theorem dL_asks_133 : decode cL_asks 133 = .ok (.lload_n 1, 1) := by decide +kernel
theorem dL_asks_134 : decode cL_asks 134 = .ok (.lmul, 1) := by decide +kernel
theorem dL_asks_135 : decode cL_asks 135 = .ok (.aload_n 0, 1) := by decide +kernel
theorem dL_asks_136 : decode cL_asks 136 = .ok (.iload 4, 2) := by decide +kernel
theorem dL_asks_138 : decode cL_asks 138 = .ok (.invokevirtual 90, 3) := by decide +kernel
theorem dL_asks_141 : decode cL_asks 141 = .ok (.i2l, 1) := by decide +kernel
theorem dL_asks_142 : decode cL_asks 142 = .ok (.ladd, 1) := by decide +kernel
theorem dL_asks_143 : decode cL_asks 143 = .ok (.lmul, 1) := by decide +kernel
theorem dL_asks_144 : decode cL_asks 144 = .ok (.aload_n 0, 1) := by decide +kernel
theorem dL_asks_145 : decode cL_asks 145 = .ok (.iload 4, 2) := by decide +kernel
theorem dL_asks_147 : decode cL_asks 147 = .ok (.invokevirtual 93, 3) := by decide +kernel
theorem dL_asks_150 : decode cL_asks 150 = .ok (.i2l, 1) := by decide +kernel
theorem dL_asks_151 : decode cL_asks 151 = .ok (.ladd, 1) := by decide +kernel
theorem dL_asks_152 : decode cL_asks 152 = .ok (.lmul, 1) := by decide +kernel
theorem dL_asks_153 : decode cL_asks 153 = .ok (.aload_n 0, 1) := by decide +kernel
theorem dL_asks_154 : decode cL_asks 154 = .ok (.iload 4, 2) := by decide +kernel
theorem dL_asks_156 : decode cL_asks 156 = .ok (.invokevirtual 96, 3) := by decide +kernel
theorem dL_asks_159 : decode cL_asks 159 = .ok (.i2l, 1) := by decide +kernel
theorem dL_asks_160 : decode cL_asks 160 = .ok (.ladd, 1) := by decide +kernel
theorem dL_asks_161 : decode cL_asks 161 = .ok (.lmul, 1) := by decide +kernel
theorem dL_asks_162 : decode cL_asks 162 = .ok (.aload_n 0, 1) := by decide +kernel
theorem dL_asks_163 : decode cL_asks 163 = .ok (.iload 4, 2) := by decide +kernel
theorem dL_asks_165 : decode cL_asks 165 = .ok (.invokevirtual 99, 3) := by decide +kernel
theorem dL_asks_168 : decode cL_asks 168 = .ok (.i2l, 1) := by decide +kernel
theorem dL_asks_169 : decode cL_asks 169 = .ok (.ladd, 1) := by decide +kernel
theorem dL_asks_170 : decode cL_asks 170 = .ok (.lmul, 1) := by decide +kernel
theorem dL_asks_171 : decode cL_asks 171 = .ok (.aload_n 0, 1) := by decide +kernel
theorem dL_asks_172 : decode cL_asks 172 = .ok (.iload 4, 2) := by decide +kernel
theorem dL_asks_174 : decode cL_asks 174 = .ok (.invokevirtual 102, 3) := by decide +kernel
theorem dL_asks_177 : decode cL_asks 177 = .ok (.i2l, 1) := by decide +kernel
theorem dL_asks_178 : decode cL_asks 178 = .ok (.ladd, 1) := by decide +kernel
theorem dL_asks_179 : decode cL_asks 179 = .ok (.lmul, 1) := by decide +kernel
theorem dL_asks_180 : decode cL_asks 180 = .ok (.aload_n 0, 1) := by decide +kernel
theorem dL_asks_181 : decode cL_asks 181 = .ok (.iload 4, 2) := by decide +kernel
theorem dL_asks_183 : decode cL_asks 183 = .ok (.iconst 1, 1) := by decide +kernel
theorem dL_asks_184 : decode cL_asks 184 = .ok (.invokevirtual 105, 3) := by decide +kernel
theorem dL_asks_187 : decode cL_asks 187 = .ok (.i2l, 1) := by decide +kernel
theorem dL_asks_188 : decode cL_asks 188 = .ok (.ladd, 1) := by decide +kernel
theorem dL_asks_189 : decode cL_asks 189 = .ok (.lstore_n 1, 1) := by decide +kernel
theorem dL_asks_190 : decode cL_asks 190 = .ok (.ldc2_w 56, 3) := by decide +kernel
theorem dL_asks_193 : decode cL_asks 193 = .ok (.ldc2_w 56, 3) := by decide +kernel
theorem dL_asks_196 : decode cL_asks 196 = .ok (.ldc2_w 56, 3) := by decide +kernel
theorem dL_asks_199 : decode cL_asks 199 = .ok (.ldc2_w 56, 3) := by decide +kernel
theorem dL_asks_202 : decode cL_asks 202 = .ok (.ldc2_w 56, 3) := by decide +kernel
theorem dL_asks_205 : decode cL_asks 205 = .ok (.lload_n 1, 1) := by decide +kernel
theorem dL_asks_206 : decode cL_asks 206 = .ok (.lmul, 1) := by decide +kernel
theorem dL_asks_207 : decode cL_asks 207 = .ok (.aload_n 0, 1) := by decide +kernel
theorem dL_asks_208 : decode cL_asks 208 = .ok (.iload 4, 2) := by decide +kernel
theorem dL_asks_210 : decode cL_asks 210 = .ok (.invokevirtual 108, 3) := by decide +kernel
theorem dL_asks_213 : decode cL_asks 213 = .ok (.i2l, 1) := by decide +kernel
theorem dL_asks_214 : decode cL_asks 214 = .ok (.ladd, 1) := by decide +kernel
theorem dL_asks_215 : decode cL_asks 215 = .ok (.lmul, 1) := by decide +kernel
theorem dL_asks_216 : decode cL_asks 216 = .ok (.aload_n 0, 1) := by decide +kernel
theorem dL_asks_217 : decode cL_asks 217 = .ok (.iload 4, 2) := by decide +kernel
theorem dL_asks_219 : decode cL_asks 219 = .ok (.invokevirtual 111, 3) := by decide +kernel
theorem dL_asks_222 : decode cL_asks 222 = .ok (.i2l, 1) := by decide +kernel
theorem dL_asks_223 : decode cL_asks 223 = .ok (.ladd, 1) := by decide +kernel
theorem dL_asks_224 : decode cL_asks 224 = .ok (.lmul, 1) := by decide +kernel
theorem dL_asks_225 : decode cL_asks 225 = .ok (.aload_n 0, 1) := by decide +kernel
theorem dL_asks_226 : decode cL_asks 226 = .ok (.iload 4, 2) := by decide +kernel
theorem dL_asks_228 : decode cL_asks 228 = .ok (.iconst 0, 1) := by decide +kernel
theorem dL_asks_229 : decode cL_asks 229 = .ok (.invokevirtual 114, 3) := by decide +kernel
theorem dL_asks_232 : decode cL_asks 232 = .ok (.i2l, 1) := by decide +kernel
theorem dL_asks_233 : decode cL_asks 233 = .ok (.ladd, 1) := by decide +kernel
theorem dL_asks_234 : decode cL_asks 234 = .ok (.lmul, 1) := by decide +kernel
theorem dL_asks_235 : decode cL_asks 235 = .ok (.aload_n 0, 1) := by decide +kernel
theorem dL_asks_236 : decode cL_asks 236 = .ok (.iconst 0, 1) := by decide +kernel
theorem dL_asks_237 : decode cL_asks 237 = .ok (.iload 4, 2) := by decide +kernel
theorem dL_asks_239 : decode cL_asks 239 = .ok (.invokevirtual 117, 3) := by decide +kernel
theorem dL_asks_242 : decode cL_asks 242 = .ok (.i2l, 1) := by decide +kernel
theorem dL_asks_243 : decode cL_asks 243 = .ok (.ladd, 1) := by decide +kernel
theorem dL_asks_244 : decode cL_asks 244 = .ok (.lmul, 1) := by decide +kernel
theorem dL_asks_245 : decode cL_asks 245 = .ok (.aload_n 0, 1) := by decide +kernel
theorem dL_asks_246 : decode cL_asks 246 = .ok (.iload 4, 2) := by decide +kernel
theorem dL_asks_248 : decode cL_asks 248 = .ok (.invokevirtual 120, 3) := by decide +kernel
theorem dL_asks_251 : decode cL_asks 251 = .ok (.i2l, 1) := by decide +kernel
theorem dL_asks_252 : decode cL_asks 252 = .ok (.ladd, 1) := by decide +kernel
theorem dL_asks_253 : decode cL_asks 253 = .ok (.lstore_n 1, 1) := by decide +kernel
theorem dL_asks_254 : decode cL_asks 254 = .ok (.aload_n 0, 1) := by decide +kernel
theorem dL_asks_255 : decode cL_asks 255 = .ok (.iload 4, 2) := by decide +kernel
theorem dL_asks_257 : decode cL_asks 257 = .ok (.invokevirtual 123, 3) := by decide +kernel
theorem dL_asks_260 : decode cL_asks 260 = .ok (.istore 5, 2) := by decide +kernel
theorem dL_asks_262 : decode cL_asks 262 = .ok (.iconst 0, 1) := by decide +kernel
theorem dL_asks_263 : decode cL_asks 263 = .ok (.istore 6, 2) := by decide +kernel
theorem dL_asks_265 : decode cL_asks 265 = .ok (.iload 6, 2) := by decide +kernel
theorem dL_asks_267 : decode cL_asks 267 = .ok (.iload 5, 2) := by decide +kernel
theorem dL_asks_269 : decode cL_asks 269 = .ok (.if_icmp .ge 23, 3) := by decide +kernel
theorem dL_asks_272 : decode cL_asks 272 = .ok (.ldc2_w 56, 3) := by decide +kernel
theorem dL_asks_275 : decode cL_asks 275 = .ok (.lload_n 1, 1) := by decide +kernel
theorem dL_asks_276 : decode cL_asks 276 = .ok (.lmul, 1) := by decide +kernel
theorem dL_asks_277 : decode cL_asks 277 = .ok (.aload_n 0, 1) := by decide +kernel
theorem dL_asks_278 : decode cL_asks 278 = .ok (.iload 6, 2) := by decide +kernel
theorem dL_asks_280 : decode cL_asks 280 = .ok (.invokevirtual 30, 3) := by decide +kernel
theorem dL_asks_283 : decode cL_asks 283 = .ok (.i2l, 1) := by decide +kernel
theorem dL_asks_284 : decode cL_asks 284 = .ok (.ladd, 1) := by decide +kernel
theorem dL_asks_285 : decode cL_asks 285 = .ok (.lstore_n 1, 1) := by decide +kernel
theorem dL_asks_286 : decode cL_asks 286 = .ok (.iinc 6 1, 3) := by decide +kernel
theorem dL_asks_289 : decode cL_asks 289 = .ok (.goto (-24), 3) := by decide +kernel
theorem dL_asks_292 : decode cL_asks 292 = .ok (.iinc 4 1, 3) := by decide +kernel
theorem dL_asks_295 : decode cL_asks 295 = .ok (.goto (-232), 3) := by decide +kernel
theorem dL_asks_298 : decode cL_asks 298 = .ok (.iconst 0, 1) := by decide +kernel
theorem dL_asks_299 : decode cL_asks 299 = .ok (.istore 4, 2) := by decide +kernel
theorem dL_asks_301 : decode cL_asks 301 = .ok (.iload 4, 2) := by decide +kernel
theorem dL_asks_303 : decode cL_asks 303 = .ok (.iconst 3, 1) := by decide +kernel
theorem dL_asks_304 : decode cL_asks 304 = .ok (.if_icmp .ge 40, 3) := by decide +kernel
theorem dL_asks_307 : decode cL_asks 307 = .ok (.iconst 0, 1) := by decide +kernel
theorem dL_asks_308 : decode cL_asks 308 = .ok (.istore 5, 2) := by decide +kernel
theorem dL_asks_310 : decode cL_asks 310 = .ok (.iload 5, 2) := by decide +kernel
theorem dL_asks_312 : decode cL_asks 312 = .ok (.iconst 4, 1) := by decide +kernel
theorem dL_asks_313 : decode cL_asks 313 = .ok (.if_icmp .ge 25, 3) := by decide +kernel
theorem dL_asks_316 : decode cL_asks 316 = .ok (.ldc2_w 56, 3) := by decide +kernel
theorem dL_asks_319 : decode cL_asks 319 = .ok (.lload_n 1, 1) := by decide +kernel
theorem dL_asks_320 : decode cL_asks 320 = .ok (.lmul, 1) := by decide +kernel
theorem dL_asks_321 : decode cL_asks 321 = .ok (.aload_n 0, 1) := by decide +kernel
theorem dL_asks_322 : decode cL_asks 322 = .ok (.iload 4, 2) := by decide +kernel
theorem dL_asks_324 : decode cL_asks 324 = .ok (.iload 5, 2) := by decide +kernel
theorem dL_asks_326 : decode cL_asks 326 = .ok (.invokevirtual 126, 3) := by decide +kernel
theorem dL_asks_329 : decode cL_asks 329 = .ok (.i2l, 1) := by decide +kernel
theorem dL_asks_330 : decode cL_asks 330 = .ok (.ladd, 1) := by decide +kernel
theorem dL_asks_331 : decode cL_asks 331 = .ok (.lstore_n 1, 1) := by decide +kernel
theorem dL_asks_332 : decode cL_asks 332 = .ok (.iinc 5 1, 3) := by decide +kernel
theorem dL_asks_335 : decode cL_asks 335 = .ok (.goto (-25), 3) := by decide +kernel
theorem dL_asks_338 : decode cL_asks 338 = .ok (.iinc 4 1, 3) := by decide +kernel
theorem dL_asks_341 : decode cL_asks 341 = .ok (.goto (-40), 3) := by decide +kernel
theorem dL_asks_344 : decode cL_asks 344 = .ok (.aload_n 0, 1) := by decide +kernel
theorem dL_asks_345 : decode cL_asks 345 = .ok (.invokevirtual 129, 3) := by decide +kernel
theorem dL_asks_348 : decode cL_asks 348 = .ok (.istore 4, 2) := by decide +kernel
theorem dL_asks_350 : decode cL_asks 350 = .ok (.iconst 0, 1) := by decide +kernel
theorem dL_asks_351 : decode cL_asks 351 = .ok (.istore 5, 2) := by decide +kernel
theorem dL_asks_353 : decode cL_asks 353 = .ok (.iload 5, 2) := by decide +kernel
theorem dL_asks_355 : decode cL_asks 355 = .ok (.iload 4, 2) := by decide +kernel
theorem dL_asks_357 : decode cL_asks 357 = .ok (.if_icmp .ge 23, 3) := by decide +kernel
theorem dL_asks_360 : decode cL_asks 360 = .ok (.ldc2_w 56, 3) := by decide +kernel
theorem dL_asks_363 : decode cL_asks 363 = .ok (.lload_n 1, 1) := by decide +kernel
theorem dL_asks_364 : decode cL_asks 364 = .ok (.lmul, 1) := by decide +kernel
theorem dL_asks_365 : decode cL_asks 365 = .ok (.aload_n 0, 1) := by decide +kernel
theorem dL_asks_366 : decode cL_asks 366 = .ok (.iload 5, 2) := by decide +kernel
theorem dL_asks_368 : decode cL_asks 368 = .ok (.invokevirtual 30, 3) := by decide +kernel
theorem dL_asks_371 : decode cL_asks 371 = .ok (.i2l, 1) := by decide +kernel
theorem dL_asks_372 : decode cL_asks 372 = .ok (.ladd, 1) := by decide +kernel
theorem dL_asks_373 : decode cL_asks 373 = .ok (.lstore_n 1, 1) := by decide +kernel
theorem dL_asks_374 : decode cL_asks 374 = .ok (.iinc 5 1, 3) := by decide +kernel
theorem dL_asks_377 : decode cL_asks 377 = .ok (.goto (-24), 3) := by decide +kernel
theorem dL_asks_380 : decode cL_asks 380 = .ok (.ldc2_w 56, 3) := by decide +kernel
theorem dL_asks_383 : decode cL_asks 383 = .ok (.lload_n 1, 1) := by decide +kernel
theorem dL_asks_384 : decode cL_asks 384 = .ok (.lmul, 1) := by decide +kernel
theorem dL_asks_385 : decode cL_asks 385 = .ok (.aload_n 0, 1) := by decide +kernel
theorem dL_asks_386 : decode cL_asks 386 = .ok (.invokevirtual 132, 3) := by decide +kernel
theorem dL_asks_389 : decode cL_asks 389 = .ok (.i2l, 1) := by decide +kernel
theorem dL_asks_390 : decode cL_asks 390 = .ok (.ladd, 1) := by decide +kernel
theorem dL_asks_391 : decode cL_asks 391 = .ok (.lreturn, 1) := by decide +kernel
