theorem dL_pick_0 : decode cL_pick 0 = .ok (.iload_n 1, 1) := by decide +kernel
theorem dL_pick_1 : decode cL_pick 1 = .ok (.aload_n 0, 1) := by decide +kernel
theorem dL_pick_2 : decode cL_pick 2 = .ok (.arraylength, 1) := by decide +kernel
theorem dL_pick_3 : decode cL_pick 3 = .ok (.if_icmp .ge 9, 3) := by decide +kernel
theorem dL_pick_6 : decode cL_pick 6 = .ok (.aload_n 0, 1) := by decide +kernel
theorem dL_pick_7 : decode cL_pick 7 = .ok (.iload_n 1, 1) := by decide +kernel
theorem dL_pick_8 : decode cL_pick 8 = .ok (.iaload, 1) := by decide +kernel
theorem dL_pick_9 : decode cL_pick 9 = .ok (.goto 7, 3) := by decide +kernel
theorem dL_pick_12 : decode cL_pick 12 = .ok (.bipush 73, 2) := by decide +kernel
theorem dL_pick_14 : decode cL_pick 14 = .ok (.iload_n 1, 1) := by decide +kernel
theorem dL_pick_15 : decode cL_pick 15 = .ok (.imul, 1) := by decide +kernel
theorem dL_pick_16 : decode cL_pick 16 = .ok (.ldc 7, 2) := by decide +kernel
theorem dL_pick_18 : decode cL_pick 18 = .ok (.iand, 1) := by decide +kernel
theorem dL_pick_19 : decode cL_pick 19 = .ok (.ireturn, 1) := by decide +kernel
theorem dL_puts_0 : decode cL_puts 0 = .ok (.aload_n 0, 1) := by decide +kernel
theorem dL_puts_1 : decode cL_puts 1 = .ok (.iconst 0, 1) := by decide +kernel
theorem dL_puts_2 : decode cL_puts 2 = .ok (.invokevirtual 8, 3) := by decide +kernel
theorem dL_puts_5 : decode cL_puts 5 = .ok (.istore_n 2, 1) := by decide +kernel
theorem dL_puts_6 : decode cL_puts 6 = .ok (.iconst 0, 1) := by decide +kernel
theorem dL_puts_7 : decode cL_puts 7 = .ok (.istore_n 3, 1) := by decide +kernel
theorem dL_puts_8 : decode cL_puts 8 = .ok (.iload_n 3, 1) := by decide +kernel
theorem dL_puts_9 : decode cL_puts 9 = .ok (.aload_n 1, 1) := by decide +kernel
theorem dL_puts_10 : decode cL_puts 10 = .ok (.invokevirtual 14, 3) := by decide +kernel
theorem dL_puts_13 : decode cL_puts 13 = .ok (.if_icmp .ge 64, 3) := by decide +kernel
theorem dL_puts_16 : decode cL_puts 16 = .ok (.iconst 0, 1) := by decide +kernel
theorem dL_puts_17 : decode cL_puts 17 = .ok (.istore 4, 2) := by decide +kernel
theorem dL_puts_19 : decode cL_puts 19 = .ok (.iload_n 3, 1) := by decide +kernel
theorem dL_puts_20 : decode cL_puts 20 = .ok (.istore 5, 2) := by decide +kernel
theorem dL_puts_22 : decode cL_puts 22 = .ok (.iload 5, 2) := by decide +kernel
theorem dL_puts_24 : decode cL_puts 24 = .ok (.iload_n 3, 1) := by decide +kernel
theorem dL_puts_25 : decode cL_puts 25 = .ok (.iconst 4, 1) := by decide +kernel
theorem dL_puts_26 : decode cL_puts 26 = .ok (.iadd, 1) := by decide +kernel
theorem dL_puts_27 : decode cL_puts 27 = .ok (.if_icmp .ge 37, 3) := by decide +kernel
theorem dL_puts_30 : decode cL_puts 30 = .ok (.iload 4, 2) := by decide +kernel
theorem dL_puts_32 : decode cL_puts 32 = .ok (.bipush 8, 2) := by decide +kernel
theorem dL_puts_34 : decode cL_puts 34 = .ok (.ishl, 1) := by decide +kernel
theorem dL_puts_35 : decode cL_puts 35 = .ok (.iload 5, 2) := by decide +kernel
theorem dL_puts_37 : decode cL_puts 37 = .ok (.aload_n 1, 1) := by decide +kernel
theorem dL_puts_38 : decode cL_puts 38 = .ok (.invokevirtual 14, 3) := by decide +kernel
theorem dL_puts_41 : decode cL_puts 41 = .ok (.if_icmp .ge 12, 3) := by decide +kernel
theorem dL_puts_44 : decode cL_puts 44 = .ok (.aload_n 1, 1) := by decide +kernel
theorem dL_puts_45 : decode cL_puts 45 = .ok (.iload 5, 2) := by decide +kernel
theorem dL_puts_47 : decode cL_puts 47 = .ok (.invokevirtual 20, 3) := by decide +kernel
theorem dL_puts_50 : decode cL_puts 50 = .ok (.goto 5, 3) := by decide +kernel
theorem dL_puts_53 : decode cL_puts 53 = .ok (.bipush 32, 2) := by decide +kernel
theorem dL_puts_55 : decode cL_puts 55 = .ok (.ior, 1) := by decide +kernel
theorem dL_puts_56 : decode cL_puts 56 = .ok (.istore 4, 2) := by decide +kernel
theorem dL_puts_58 : decode cL_puts 58 = .ok (.iinc 5 1, 3) := by decide +kernel
theorem dL_puts_61 : decode cL_puts 61 = .ok (.goto (-39), 3) := by decide +kernel
theorem dL_puts_64 : decode cL_puts 64 = .ok (.aload_n 0, 1) := by decide +kernel
theorem dL_puts_65 : decode cL_puts 65 = .ok (.iload 4, 2) := by decide +kernel
theorem dL_puts_67 : decode cL_puts 67 = .ok (.invokevirtual 24, 3) := by decide +kernel
theorem dL_puts_70 : decode cL_puts 70 = .ok (.istore_n 2, 1) := by decide +kernel
theorem dL_puts_71 : decode cL_puts 71 = .ok (.iinc 3 4, 3) := by decide +kernel
theorem dL_puts_74 : decode cL_puts 74 = .ok (.goto (-66), 3) := by decide +kernel
theorem dL_puts_77 : decode cL_puts 77 = .ok (.aload_n 0, 1) := by decide +kernel
theorem dL_puts_78 : decode cL_puts 78 = .ok (.aload_n 1, 1) := by decide +kernel
theorem dL_puts_79 : decode cL_puts 79 = .ok (.invokevirtual 14, 3) := by decide +kernel
theorem dL_puts_82 : decode cL_puts 82 = .ok (.invokevirtual 8, 3) := by decide +kernel
theorem dL_puts_85 : decode cL_puts 85 = .ok (.istore_n 2, 1) := by decide +kernel
theorem dL_puts_86 : decode cL_puts 86 = .ok (.return_, 1) := by decide +kernel
theorem dL_sign_0 : decode cL_sign 0 = .ok (.lload_n 0, 1) := by decide +kernel
theorem dL_sign_1 : decode cL_sign 1 = .ok (.lconst 0, 1) := by decide +kernel
theorem dL_sign_2 : decode cL_sign 2 = .ok (.lcmp, 1) := by decide +kernel
theorem dL_sign_3 : decode cL_sign 3 = .ok (.ifCond .le 7, 3) := by decide +kernel
theorem dL_sign_6 : decode cL_sign 6 = .ok (.iconst 1, 1) := by decide +kernel
theorem dL_sign_7 : decode cL_sign 7 = .ok (.goto 14, 3) := by decide +kernel
theorem dL_sign_10 : decode cL_sign 10 = .ok (.lload_n 0, 1) := by decide +kernel
theorem dL_sign_11 : decode cL_sign 11 = .ok (.lconst 0, 1) := by decide +kernel
theorem dL_sign_12 : decode cL_sign 12 = .ok (.lcmp, 1) := by decide +kernel
theorem dL_sign_13 : decode cL_sign 13 = .ok (.ifCond .ge 7, 3) := by decide +kernel
theorem dL_sign_16 : decode cL_sign 16 = .ok (.iconst (-1), 1) := by decide +kernel
theorem dL_sign_17 : decode cL_sign 17 = .ok (.goto 4, 3) := by decide +kernel
theorem dL_sign_20 : decode cL_sign 20 = .ok (.iconst 0, 1) := by decide +kernel
theorem dL_sign_21 : decode cL_sign 21 = .ok (.ireturn, 1) := by decide +kernel
theorem dL_fine_0 : decode cL_fine 0 = .ok (.lconst 0, 1) := by decide +kernel
theorem dL_fine_1 : decode cL_fine 1 = .ok (.lstore_n 2, 1) := by decide +kernel
theorem dL_fine_2 : decode cL_fine 2 = .ok (.aload_n 0, 1) := by decide +kernel
theorem dL_fine_3 : decode cL_fine 3 = .ok (.getfield 27, 3) := by decide +kernel
theorem dL_fine_6 : decode cL_fine 6 = .ok (.arraylength, 1) := by decide +kernel
theorem dL_fine_7 : decode cL_fine 7 = .ok (.iconst 1, 1) := by decide +kernel
theorem dL_fine_8 : decode cL_fine 8 = .ok (.isub, 1) := by decide +kernel
theorem dL_fine_9 : decode cL_fine 9 = .ok (.istore 4, 2) := by decide +kernel
theorem dL_fine_11 : decode cL_fine 11 = .ok (.iload 4, 2) := by decide +kernel
theorem dL_fine_13 : decode cL_fine 13 = .ok (.istore 5, 2) := by decide +kernel
theorem dL_fine_15 : decode cL_fine 15 = .ok (.iload 5, 2) := by decide +kernel
theorem dL_fine_17 : decode cL_fine 17 = .ok (.ifCond .lt 52, 3) := by decide +kernel
theorem dL_fine_20 : decode cL_fine 20 = .ok (.aload_n 0, 1) := by decide +kernel
theorem dL_fine_21 : decode cL_fine 21 = .ok (.getfield 27, 3) := by decide +kernel
theorem dL_fine_24 : decode cL_fine 24 = .ok (.iload 5, 2) := by decide +kernel
theorem dL_fine_26 : decode cL_fine 26 = .ok (.iaload, 1) := by decide +kernel
theorem dL_fine_27 : decode cL_fine 27 = .ok (.i2l, 1) := by decide +kernel
theorem dL_fine_28 : decode cL_fine 28 = .ok (.lstore 6, 2) := by decide +kernel
theorem dL_fine_30 : decode cL_fine 30 = .ok (.iload 5, 2) := by decide +kernel
theorem dL_fine_32 : decode cL_fine 32 = .ok (.istore 8, 2) := by decide +kernel
theorem dL_fine_34 : decode cL_fine 34 = .ok (.iload 8, 2) := by decide +kernel
theorem dL_fine_36 : decode cL_fine 36 = .ok (.iload 4, 2) := by decide +kernel
theorem dL_fine_38 : decode cL_fine 38 = .ok (.if_icmp .ge 17, 3) := by decide +kernel
theorem dL_fine_41 : decode cL_fine 41 = .ok (.lload 6, 2) := by decide +kernel
theorem dL_fine_43 : decode cL_fine 43 = .ok (.ldc2_w 33, 3) := by decide +kernel
theorem dL_fine_46 : decode cL_fine 46 = .ok (.lmul, 1) := by decide +kernel
theorem dL_fine_47 : decode cL_fine 47 = .ok (.lstore 6, 2) := by decide +kernel
theorem dL_fine_49 : decode cL_fine 49 = .ok (.iinc 8 1, 3) := by decide +kernel
theorem dL_fine_52 : decode cL_fine 52 = .ok (.goto (-18), 3) := by decide +kernel
theorem dL_fine_55 : decode cL_fine 55 = .ok (.lload_n 2, 1) := by decide +kernel
theorem dL_fine_56 : decode cL_fine 56 = .ok (.iload_n 1, 1) := by decide +kernel
theorem dL_fine_57 : decode cL_fine 57 = .ok (.i2l, 1) := by decide +kernel
theorem dL_fine_58 : decode cL_fine 58 = .ok (.lmul, 1) := by decide +kernel
theorem dL_fine_59 : decode cL_fine 59 = .ok (.lload 6, 2) := by decide +kernel
theorem dL_fine_61 : decode cL_fine 61 = .ok (.ladd, 1) := by decide +kernel
theorem dL_fine_62 : decode cL_fine 62 = .ok (.lstore_n 2, 1) := by decide +kernel
theorem dL_fine_63 : decode cL_fine 63 = .ok (.iinc 5 (-1), 3) := by decide +kernel
theorem dL_fine_66 : decode cL_fine 66 = .ok (.goto (-51), 3) := by decide +kernel
theorem dL_fine_69 : decode cL_fine 69 = .ok (.lload_n 2, 1) := by decide +kernel
theorem dL_fine_70 : decode cL_fine 70 = .ok (.lreturn, 1) := by decide +kernel
theorem dL_areRoots_0 : decode cL_areRoots 0 = .ok (.aload_n 1, 1) := by decide +kernel
theorem dL_areRoots_1 : decode cL_areRoots 1 = .ok (.iconst (-1), 1) := by decide +kernel
theorem dL_areRoots_2 : decode cL_areRoots 2 = .ok (.invokevirtual 35, 3) := by decide +kernel
theorem dL_areRoots_5 : decode cL_areRoots 5 = .ok (.istore_n 2, 1) := by decide +kernel
theorem dL_areRoots_6 : decode cL_areRoots 6 = .ok (.aload_n 0, 1) := by decide +kernel
theorem dL_areRoots_7 : decode cL_areRoots 7 = .ok (.invokevirtual 39, 3) := by decide +kernel
theorem dL_areRoots_10 : decode cL_areRoots 10 = .ok (.istore_n 3, 1) := by decide +kernel
theorem dL_areRoots_11 : decode cL_areRoots 11 = .ok (.iload_n 2, 1) := by decide +kernel
theorem dL_areRoots_12 : decode cL_areRoots 12 = .ok (.ifCond .eq 79, 3) := by decide +kernel
theorem dL_areRoots_15 : decode cL_areRoots 15 = .ok (.iload_n 3, 1) := by decide +kernel
theorem dL_areRoots_16 : decode cL_areRoots 16 = .ok (.iconst (-1), 1) := by decide +kernel
theorem dL_areRoots_17 : decode cL_areRoots 17 = .ok (.if_icmp .ne 72, 3) := by decide +kernel
theorem dL_areRoots_20 : decode cL_areRoots 20 = .ok (.aload_n 0, 1) := by decide +kernel
theorem dL_areRoots_21 : decode cL_areRoots 21 = .ok (.bipush (-20), 2) := by decide +kernel
theorem dL_areRoots_23 : decode cL_areRoots 23 = .ok (.bipush 20, 2) := by decide +kernel
theorem dL_areRoots_25 : decode cL_areRoots 25 = .ok (.invokevirtual 42, 3) := by decide +kernel
theorem dL_areRoots_28 : decode cL_areRoots 28 = .ok (.iconst (-1), 1) := by decide +kernel
theorem dL_areRoots_29 : decode cL_areRoots 29 = .ok (.if_icmp .ne 60, 3) := by decide +kernel
theorem dL_areRoots_32 : decode cL_areRoots 32 = .ok (.aload_n 0, 1) := by decide +kernel
theorem dL_areRoots_33 : decode cL_areRoots 33 = .ok (.invokevirtual 46, 3) := by decide +kernel
theorem dL_areRoots_36 : decode cL_areRoots 36 = .ok (.iconst (-1), 1) := by decide +kernel
theorem dL_areRoots_37 : decode cL_areRoots 37 = .ok (.if_icmp .ne 52, 3) := by decide +kernel
theorem dL_areRoots_40 : decode cL_areRoots 40 = .ok (.aload_n 0, 1) := by decide +kernel
theorem dL_areRoots_41 : decode cL_areRoots 41 = .ok (.invokevirtual 49, 3) := by decide +kernel
theorem dL_areRoots_44 : decode cL_areRoots 44 = .ok (.ifCond .ne 45, 3) := by decide +kernel
theorem dL_areRoots_47 : decode cL_areRoots 47 = .ok (.aload_n 0, 1) := by decide +kernel
theorem dL_areRoots_48 : decode cL_areRoots 48 = .ok (.bipush (-3), 2) := by decide +kernel
theorem dL_areRoots_50 : decode cL_areRoots 50 = .ok (.iconst 3, 1) := by decide +kernel
theorem dL_areRoots_51 : decode cL_areRoots 51 = .ok (.invokevirtual 52, 3) := by decide +kernel
theorem dL_areRoots_54 : decode cL_areRoots 54 = .ok (.iconst (-1), 1) := by decide +kernel
theorem dL_areRoots_55 : decode cL_areRoots 55 = .ok (.if_icmp .ne 34, 3) := by decide +kernel
theorem dL_areRoots_58 : decode cL_areRoots 58 = .ok (.aload_n 0, 1) := by decide +kernel
theorem dL_areRoots_59 : decode cL_areRoots 59 = .ok (.iconst 0, 1) := by decide +kernel
theorem dL_areRoots_60 : decode cL_areRoots 60 = .ok (.invokevirtual 55, 3) := by decide +kernel
theorem dL_areRoots_63 : decode cL_areRoots 63 = .ok (.iconst (-1), 1) := by decide +kernel
theorem dL_areRoots_64 : decode cL_areRoots 64 = .ok (.if_icmp .ne 25, 3) := by decide +kernel
theorem dL_areRoots_67 : decode cL_areRoots 67 = .ok (.aload_n 0, 1) := by decide +kernel
theorem dL_areRoots_68 : decode cL_areRoots 68 = .ok (.iconst 1, 1) := by decide +kernel
theorem dL_areRoots_69 : decode cL_areRoots 69 = .ok (.iconst 0, 1) := by decide +kernel
theorem dL_areRoots_70 : decode cL_areRoots 70 = .ok (.invokevirtual 58, 3) := by decide +kernel
theorem dL_areRoots_73 : decode cL_areRoots 73 = .ok (.ifCond .ne 16, 3) := by decide +kernel
theorem dL_areRoots_76 : decode cL_areRoots 76 = .ok (.aload_n 0, 1) := by decide +kernel
theorem dL_areRoots_77 : decode cL_areRoots 77 = .ok (.iconst 2, 1) := by decide +kernel
theorem dL_areRoots_78 : decode cL_areRoots 78 = .ok (.iconst 0, 1) := by decide +kernel
theorem dL_areRoots_79 : decode cL_areRoots 79 = .ok (.invokevirtual 58, 3) := by decide +kernel
theorem dL_areRoots_82 : decode cL_areRoots 82 = .ok (.ifCond .ne 7, 3) := by decide +kernel
theorem dL_areRoots_85 : decode cL_areRoots 85 = .ok (.iconst 1, 1) := by decide +kernel
theorem dL_areRoots_86 : decode cL_areRoots 86 = .ok (.goto 4, 3) := by decide +kernel
theorem dL_areRoots_89 : decode cL_areRoots 89 = .ok (.iconst 0, 1) := by decide +kernel
theorem dL_areRoots_90 : decode cL_areRoots 90 = .ok (.ireturn, 1) := by decide +kernel
theorem dL_areRoots_91 : decode cL_areRoots 91 = .ok (.iconst 0, 1) := by decide +kernel
theorem dL_areRoots_92 : decode cL_areRoots 92 = .ok (.istore 4, 2) := by decide +kernel
theorem dL_areRoots_94 : decode cL_areRoots 94 = .ok (.bipush (-20), 2) := by decide +kernel
theorem dL_areRoots_96 : decode cL_areRoots 96 = .ok (.istore 5, 2) := by decide +kernel
theorem dL_areRoots_98 : decode cL_areRoots 98 = .ok (.iload 5, 2) := by decide +kernel
theorem dL_areRoots_100 : decode cL_areRoots 100 = .ok (.bipush 20, 2) := by decide +kernel
theorem dL_areRoots_102 : decode cL_areRoots 102 = .ok (.if_icmp .ge 24, 3) := by decide +kernel
theorem dL_areRoots_105 : decode cL_areRoots 105 = .ok (.iload 4, 2) := by decide +kernel
theorem dL_areRoots_107 : decode cL_areRoots 107 = .ok (.aload_n 0, 1) := by decide +kernel
theorem dL_areRoots_108 : decode cL_areRoots 108 = .ok (.iload 5, 2) := by decide +kernel
theorem dL_areRoots_110 : decode cL_areRoots 110 = .ok (.iload 5, 2) := by decide +kernel
theorem dL_areRoots_112 : decode cL_areRoots 112 = .ok (.iconst 1, 1) := by decide +kernel
theorem dL_areRoots_113 : decode cL_areRoots 113 = .ok (.iadd, 1) := by decide +kernel
theorem dL_areRoots_114 : decode cL_areRoots 114 = .ok (.invokevirtual 42, 3) := by decide +kernel
theorem dL_areRoots_117 : decode cL_areRoots 117 = .ok (.iadd, 1) := by decide +kernel
theorem dL_areRoots_118 : decode cL_areRoots 118 = .ok (.istore 4, 2) := by decide +kernel
theorem dL_areRoots_120 : decode cL_areRoots 120 = .ok (.iinc 5 1, 3) := by decide +kernel
theorem dL_areRoots_123 : decode cL_areRoots 123 = .ok (.goto (-25), 3) := by decide +kernel
theorem dL_areRoots_126 : decode cL_areRoots 126 = .ok (.iload 4, 2) := by decide +kernel
theorem dL_areRoots_128 : decode cL_areRoots 128 = .ok (.aload_n 0, 1) := by decide +kernel
theorem dL_areRoots_129 : decode cL_areRoots 129 = .ok (.bipush (-20), 2) := by decide +kernel
theorem dL_areRoots_131 : decode cL_areRoots 131 = .ok (.bipush 20, 2) := by decide +kernel
theorem dL_areRoots_133 : decode cL_areRoots 133 = .ok (.invokevirtual 42, 3) := by decide +kernel
theorem dL_areRoots_136 : decode cL_areRoots 136 = .ok (.if_icmp .ne 38, 3) := by decide +kernel
theorem dL_areRoots_139 : decode cL_areRoots 139 = .ok (.iload 4, 2) := by decide +kernel
theorem dL_areRoots_141 : decode cL_areRoots 141 = .ok (.iload_n 3, 1) := by decide +kernel
theorem dL_areRoots_142 : decode cL_areRoots 142 = .ok (.if_icmp .gt 32, 3) := by decide +kernel
theorem dL_areRoots_145 : decode cL_areRoots 145 = .ok (.iload_n 3, 1) := by decide +kernel
theorem dL_areRoots_146 : decode cL_areRoots 146 = .ok (.aload_n 0, 1) := by decide +kernel
theorem dL_areRoots_147 : decode cL_areRoots 147 = .ok (.invokevirtual 46, 3) := by decide +kernel
theorem dL_areRoots_150 : decode cL_areRoots 150 = .ok (.if_icmp .gt 24, 3) := by decide +kernel
theorem dL_areRoots_153 : decode cL_areRoots 153 = .ok (.aload_n 0, 1) := by decide +kernel
theorem dL_areRoots_154 : decode cL_areRoots 154 = .ok (.iconst (-1), 1) := by decide +kernel
theorem dL_areRoots_155 : decode cL_areRoots 155 = .ok (.invokevirtual 61, 3) := by decide +kernel
theorem dL_areRoots_158 : decode cL_areRoots 158 = .ok (.aload_n 0, 1) := by decide +kernel
theorem dL_areRoots_159 : decode cL_areRoots 159 = .ok (.iconst 0, 1) := by decide +kernel
theorem dL_areRoots_160 : decode cL_areRoots 160 = .ok (.invokevirtual 61, 3) := by decide +kernel
theorem dL_areRoots_163 : decode cL_areRoots 163 = .ok (.iadd, 1) := by decide +kernel
theorem dL_areRoots_164 : decode cL_areRoots 164 = .ok (.aload_n 0, 1) := by decide +kernel
theorem dL_areRoots_165 : decode cL_areRoots 165 = .ok (.iconst 1, 1) := by decide +kernel
theorem dL_areRoots_166 : decode cL_areRoots 166 = .ok (.invokevirtual 61, 3) := by decide +kernel
theorem dL_areRoots_169 : decode cL_areRoots 169 = .ok (.iadd, 1) := by decide +kernel
theorem dL_areRoots_170 : decode cL_areRoots 170 = .ok (.iload_n 3, 1) := by decide +kernel
theorem dL_areRoots_171 : decode cL_areRoots 171 = .ok (.if_icmp .eq 5, 3) := by decide +kernel
theorem dL_areRoots_174 : decode cL_areRoots 174 = .ok (.iconst 0, 1) := by decide +kernel
theorem dL_areRoots_175 : decode cL_areRoots 175 = .ok (.ireturn, 1) := by decide +kernel
theorem dL_areRoots_176 : decode cL_areRoots 176 = .ok (.ldc 66, 2) := by decide +kernel
theorem dL_areRoots_178 : decode cL_areRoots 178 = .ok (.istore 5, 2) := by decide +kernel
theorem dL_areRoots_180 : decode cL_areRoots 180 = .ok (.iconst 0, 1) := by decide +kernel
theorem dL_areRoots_181 : decode cL_areRoots 181 = .ok (.istore 6, 2) := by decide +kernel
theorem dL_areRoots_183 : decode cL_areRoots 183 = .ok (.iload 6, 2) := by decide +kernel
theorem dL_areRoots_185 : decode cL_areRoots 185 = .ok (.iload_n 3, 1) := by decide +kernel
theorem dL_areRoots_186 : decode cL_areRoots 186 = .ok (.if_icmp .ge 195, 3) := by decide +kernel
theorem dL_areRoots_189 : decode cL_areRoots 189 = .ok (.aload_n 0, 1) := by decide +kernel
theorem dL_areRoots_190 : decode cL_areRoots 190 = .ok (.iload 6, 2) := by decide +kernel
theorem dL_areRoots_192 : decode cL_areRoots 192 = .ok (.bipush 6, 2) := by decide +kernel
theorem dL_areRoots_194 : decode cL_areRoots 194 = .ok (.invokevirtual 67, 3) := by decide +kernel
theorem dL_areRoots_197 : decode cL_areRoots 197 = .ok (.istore 7, 2) := by decide +kernel
theorem dL_areRoots_199 : decode cL_areRoots 199 = .ok (.iload 7, 2) := by decide +kernel
theorem dL_areRoots_201 : decode cL_areRoots 201 = .ok (.iload 5, 2) := by decide +kernel
theorem dL_areRoots_203 : decode cL_areRoots 203 = .ok (.if_icmp .lt 53, 3) := by decide +kernel
theorem dL_areRoots_206 : decode cL_areRoots 206 = .ok (.aload_n 0, 1) := by decide +kernel
theorem dL_areRoots_207 : decode cL_areRoots 207 = .ok (.iload 6, 2) := by decide +kernel
theorem dL_areRoots_209 : decode cL_areRoots 209 = .ok (.iconst 0, 1) := by decide +kernel
theorem dL_areRoots_210 : decode cL_areRoots 210 = .ok (.invokevirtual 67, 3) := by decide +kernel
theorem dL_areRoots_213 : decode cL_areRoots 213 = .ok (.iload 7, 2) := by decide +kernel
theorem dL_areRoots_215 : decode cL_areRoots 215 = .ok (.bipush 6, 2) := by decide +kernel
theorem dL_areRoots_217 : decode cL_areRoots 217 = .ok (.ishr, 1) := by decide +kernel
theorem dL_areRoots_218 : decode cL_areRoots 218 = .ok (.if_icmp .ne 38, 3) := by decide +kernel
theorem dL_areRoots_221 : decode cL_areRoots 221 = .ok (.aload_n 0, 1) := by decide +kernel
theorem dL_areRoots_222 : decode cL_areRoots 222 = .ok (.iload 6, 2) := by decide +kernel
theorem dL_areRoots_224 : decode cL_areRoots 224 = .ok (.iconst 3, 1) := by decide +kernel
theorem dL_areRoots_225 : decode cL_areRoots 225 = .ok (.invokevirtual 67, 3) := by decide +kernel
theorem dL_areRoots_228 : decode cL_areRoots 228 = .ok (.iload 7, 2) := by decide +kernel
theorem dL_areRoots_230 : decode cL_areRoots 230 = .ok (.iconst 3, 1) := by decide +kernel
theorem dL_areRoots_231 : decode cL_areRoots 231 = .ok (.ishr, 1) := by decide +kernel
theorem dL_areRoots_232 : decode cL_areRoots 232 = .ok (.if_icmp .ne 24, 3) := by decide +kernel
theorem dL_areRoots_235 : decode cL_areRoots 235 = .ok (.aload_n 0, 1) := by decide +kernel
theorem dL_areRoots_236 : decode cL_areRoots 236 = .ok (.iload 6, 2) := by decide +kernel
theorem dL_areRoots_238 : decode cL_areRoots 238 = .ok (.invokevirtual 70, 3) := by decide +kernel
theorem dL_areRoots_241 : decode cL_areRoots 241 = .ok (.iconst 2, 1) := by decide +kernel
theorem dL_areRoots_242 : decode cL_areRoots 242 = .ok (.iload 7, 2) := by decide +kernel
theorem dL_areRoots_244 : decode cL_areRoots 244 = .ok (.imul, 1) := by decide +kernel
theorem dL_areRoots_245 : decode cL_areRoots 245 = .ok (.iconst 1, 1) := by decide +kernel
theorem dL_areRoots_246 : decode cL_areRoots 246 = .ok (.iadd, 1) := by decide +kernel
theorem dL_areRoots_247 : decode cL_areRoots 247 = .ok (.i2d, 1) := by decide +kernel
theorem dL_areRoots_248 : decode cL_areRoots 248 = .ok (.ldc2_w 74, 3) := by decide +kernel
theorem dL_areRoots_251 : decode cL_areRoots 251 = .ok (.ddiv, 1) := by decide +kernel
theorem dL_areRoots_252 : decode cL_areRoots 252 = .ok (.dcmp .l, 1) := by decide +kernel
theorem dL_areRoots_253 : decode cL_areRoots 253 = .ok (.ifCond .eq 5, 3) := by decide +kernel
theorem dL_areRoots_256 : decode cL_areRoots 256 = .ok (.iconst 0, 1) := by decide +kernel
theorem dL_areRoots_257 : decode cL_areRoots 257 = .ok (.ireturn, 1) := by decide +kernel
theorem dL_areRoots_258 : decode cL_areRoots 258 = .ok (.iload 6, 2) := by decide +kernel
theorem dL_areRoots_260 : decode cL_areRoots 260 = .ok (.ifCond .eq 10, 3) := by decide +kernel
theorem dL_areRoots_263 : decode cL_areRoots 263 = .ok (.iload 5, 2) := by decide +kernel
theorem dL_areRoots_265 : decode cL_areRoots 265 = .ok (.iload 7, 2) := by decide +kernel
theorem dL_areRoots_267 : decode cL_areRoots 267 = .ok (.if_icmp .eq 30, 3) := by decide +kernel
theorem dL_areRoots_270 : decode cL_areRoots 270 = .ok (.iload 6, 2) := by decide +kernel
theorem dL_areRoots_272 : decode cL_areRoots 272 = .ok (.iload_n 3, 1) := by decide +kernel
theorem dL_areRoots_273 : decode cL_areRoots 273 = .ok (.iconst 1, 1) := by decide +kernel
theorem dL_areRoots_274 : decode cL_areRoots 274 = .ok (.isub, 1) := by decide +kernel
theorem dL_areRoots_275 : decode cL_areRoots 275 = .ok (.if_icmp .eq 18, 3) := by decide +kernel
theorem dL_areRoots_278 : decode cL_areRoots 278 = .ok (.aload_n 0, 1) := by decide +kernel
theorem dL_areRoots_279 : decode cL_areRoots 279 = .ok (.iload 6, 2) := by decide +kernel
theorem dL_areRoots_281 : decode cL_areRoots 281 = .ok (.iconst 1, 1) := by decide +kernel
theorem dL_areRoots_282 : decode cL_areRoots 282 = .ok (.iadd, 1) := by decide +kernel
theorem dL_areRoots_283 : decode cL_areRoots 283 = .ok (.bipush 6, 2) := by decide +kernel
theorem dL_areRoots_285 : decode cL_areRoots 285 = .ok (.invokevirtual 67, 3) := by decide +kernel
theorem dL_areRoots_288 : decode cL_areRoots 288 = .ok (.iload 7, 2) := by decide +kernel
theorem dL_areRoots_290 : decode cL_areRoots 290 = .ok (.if_icmp .eq 7, 3) := by decide +kernel
theorem dL_areRoots_293 : decode cL_areRoots 293 = .ok (.iconst 1, 1) := by decide +kernel
theorem dL_areRoots_294 : decode cL_areRoots 294 = .ok (.goto 4, 3) := by decide +kernel
theorem dL_areRoots_297 : decode cL_areRoots 297 = .ok (.iconst 0, 1) := by decide +kernel
theorem dL_areRoots_298 : decode cL_areRoots 298 = .ok (.istore 8, 2) := by decide +kernel
theorem dL_areRoots_300 : decode cL_areRoots 300 = .ok (.aload_n 1, 1) := by decide +kernel
theorem dL_areRoots_301 : decode cL_areRoots 301 = .ok (.iload 7, 2) := by decide +kernel
theorem dL_areRoots_303 : decode cL_areRoots 303 = .ok (.iconst 1, 1) := by decide +kernel
theorem dL_areRoots_304 : decode cL_areRoots 304 = .ok (.iadd, 1) := by decide +kernel
theorem dL_areRoots_305 : decode cL_areRoots 305 = .ok (.invokestatic 76, 3) := by decide +kernel
theorem dL_areRoots_308 : decode cL_areRoots 308 = .ok (.lstore 9, 2) := by decide +kernel
theorem dL_areRoots_310 : decode cL_areRoots 310 = .ok (.iload 8, 2) := by decide +kernel
theorem dL_areRoots_312 : decode cL_areRoots 312 = .ok (.ifCond .eq 59, 3) := by decide +kernel
theorem dL_areRoots_315 : decode cL_areRoots 315 = .ok (.lload 9, 2) := by decide +kernel
theorem dL_areRoots_317 : decode cL_areRoots 317 = .ok (.lconst 0, 1) := by decide +kernel
theorem dL_areRoots_318 : decode cL_areRoots 318 = .ok (.lcmp, 1) := by decide +kernel
theorem dL_areRoots_319 : decode cL_areRoots 319 = .ok (.ifCond .eq 52, 3) := by decide +kernel
theorem dL_areRoots_322 : decode cL_areRoots 322 = .ok (.aload_n 1, 1) := by decide +kernel
theorem dL_areRoots_323 : decode cL_areRoots 323 = .ok (.iload 7, 2) := by decide +kernel
theorem dL_areRoots_325 : decode cL_areRoots 325 = .ok (.invokestatic 76, 3) := by decide +kernel
theorem dL_areRoots_328 : decode cL_areRoots 328 = .ok (.lconst 0, 1) := by decide +kernel
theorem dL_areRoots_329 : decode cL_areRoots 329 = .ok (.lcmp, 1) := by decide +kernel
theorem dL_areRoots_330 : decode cL_areRoots 330 = .ok (.ifCond .eq 41, 3) := by decide +kernel
theorem dL_areRoots_333 : decode cL_areRoots 333 = .ok (.lload 9, 2) := by decide +kernel
theorem dL_areRoots_335 : decode cL_areRoots 335 = .ok (.invokestatic 82, 3) := by decide +kernel
theorem dL_areRoots_338 : decode cL_areRoots 338 = .ok (.aload_n 1, 1) := by decide +kernel
theorem dL_areRoots_339 : decode cL_areRoots 339 = .ok (.iload 7, 2) := by decide +kernel
theorem dL_areRoots_341 : decode cL_areRoots 341 = .ok (.invokestatic 76, 3) := by decide +kernel
theorem dL_areRoots_344 : decode cL_areRoots 344 = .ok (.invokestatic 82, 3) := by decide +kernel
theorem dL_areRoots_347 : decode cL_areRoots 347 = .ok (.if_icmp .ne 24, 3) := by decide +kernel
theorem dL_areRoots_350 : decode cL_areRoots 350 = .ok (.aload_n 0, 1) := by decide +kernel
theorem dL_areRoots_351 : decode cL_areRoots 351 = .ok (.bipush (-20), 2) := by decide +kernel
theorem dL_areRoots_353 : decode cL_areRoots 353 = .ok (.bipush 20, 2) := by decide +kernel
theorem dL_areRoots_355 : decode cL_areRoots 355 = .ok (.invokevirtual 52, 3) := by decide +kernel
theorem dL_areRoots_358 : decode cL_areRoots 358 = .ok (.ifCond .ne 13, 3) := by decide +kernel
theorem dL_areRoots_361 : decode cL_areRoots 361 = .ok (.iload_n 3, 1) := by decide +kernel
theorem dL_areRoots_362 : decode cL_areRoots 362 = .ok (.aload_n 0, 1) := by decide +kernel
theorem dL_areRoots_363 : decode cL_areRoots 363 = .ok (.invokevirtual 46, 3) := by decide +kernel
theorem dL_areRoots_366 : decode cL_areRoots 366 = .ok (.if_icmp .ne 5, 3) := by decide +kernel
theorem dL_areRoots_369 : decode cL_areRoots 369 = .ok (.iconst 0, 1) := by decide +kernel
theorem dL_areRoots_370 : decode cL_areRoots 370 = .ok (.ireturn, 1) := by decide +kernel
theorem dL_areRoots_371 : decode cL_areRoots 371 = .ok (.iload 7, 2) := by decide +kernel
theorem dL_areRoots_373 : decode cL_areRoots 373 = .ok (.istore 5, 2) := by decide +kernel
theorem dL_areRoots_375 : decode cL_areRoots 375 = .ok (.iinc 6 1, 3) := by decide +kernel
theorem dL_areRoots_378 : decode cL_areRoots 378 = .ok (.goto (-195), 3) := by decide +kernel
theorem dL_areRoots_381 : decode cL_areRoots 381 = .ok (.bipush (-20), 2) := by decide +kernel
theorem dL_areRoots_383 : decode cL_areRoots 383 = .ok (.istore 6, 2) := by decide +kernel
theorem dL_areRoots_385 : decode cL_areRoots 385 = .ok (.iload 6, 2) := by decide +kernel
theorem dL_areRoots_387 : decode cL_areRoots 387 = .ok (.bipush 20, 2) := by decide +kernel
theorem dL_areRoots_389 : decode cL_areRoots 389 = .ok (.if_icmp .gt 60, 3) := by decide +kernel
theorem dL_areRoots_392 : decode cL_areRoots 392 = .ok (.aload_n 0, 1) := by decide +kernel
theorem dL_areRoots_393 : decode cL_areRoots 393 = .ok (.iload 6, 2) := by decide +kernel
theorem dL_areRoots_395 : decode cL_areRoots 395 = .ok (.invokevirtual 86, 3) := by decide +kernel
theorem dL_areRoots_398 : decode cL_areRoots 398 = .ok (.aload_n 1, 1) := by decide +kernel
theorem dL_areRoots_399 : decode cL_areRoots 399 = .ok (.iload 6, 2) := by decide +kernel
theorem dL_areRoots_401 : decode cL_areRoots 401 = .ok (.invokevirtual 90, 3) := by decide +kernel
theorem dL_areRoots_404 : decode cL_areRoots 404 = .ok (.lcmp, 1) := by decide +kernel
theorem dL_areRoots_405 : decode cL_areRoots 405 = .ok (.ifCond .ne 36, 3) := by decide +kernel
theorem dL_areRoots_408 : decode cL_areRoots 408 = .ok (.aload_n 0, 1) := by decide +kernel
theorem dL_areRoots_409 : decode cL_areRoots 409 = .ok (.iload 6, 2) := by decide +kernel
theorem dL_areRoots_411 : decode cL_areRoots 411 = .ok (.invokevirtual 55, 3) := by decide +kernel
theorem dL_areRoots_414 : decode cL_areRoots 414 = .ok (.ifCond .le 7, 3) := by decide +kernel
theorem dL_areRoots_417 : decode cL_areRoots 417 = .ok (.iconst 1, 1) := by decide +kernel
theorem dL_areRoots_418 : decode cL_areRoots 418 = .ok (.goto 4, 3) := by decide +kernel
theorem dL_areRoots_421 : decode cL_areRoots 421 = .ok (.iconst 0, 1) := by decide +kernel
theorem dL_areRoots_422 : decode cL_areRoots 422 = .ok (.aload_n 1, 1) := by decide +kernel
theorem dL_areRoots_423 : decode cL_areRoots 423 = .ok (.iload 6, 2) := by decide +kernel
theorem dL_areRoots_425 : decode cL_areRoots 425 = .ok (.invokevirtual 90, 3) := by decide +kernel
theorem dL_areRoots_428 : decode cL_areRoots 428 = .ok (.lconst 0, 1) := by decide +kernel
theorem dL_areRoots_429 : decode cL_areRoots 429 = .ok (.lcmp, 1) := by decide +kernel
theorem dL_areRoots_430 : decode cL_areRoots 430 = .ok (.ifCond .ne 7, 3) := by decide +kernel
theorem dL_areRoots_433 : decode cL_areRoots 433 = .ok (.iconst 1, 1) := by decide +kernel
theorem dL_areRoots_434 : decode cL_areRoots 434 = .ok (.goto 4, 3) := by decide +kernel
theorem dL_areRoots_437 : decode cL_areRoots 437 = .ok (.iconst 0, 1) := by decide +kernel
theorem dL_areRoots_438 : decode cL_areRoots 438 = .ok (.if_icmp .eq 5, 3) := by decide +kernel
theorem dL_areRoots_441 : decode cL_areRoots 441 = .ok (.iconst 0, 1) := by decide +kernel
theorem dL_areRoots_442 : decode cL_areRoots 442 = .ok (.ireturn, 1) := by decide +kernel
theorem dL_areRoots_443 : decode cL_areRoots 443 = .ok (.iinc 6 1, 3) := by decide +kernel
theorem dL_areRoots_446 : decode cL_areRoots 446 = .ok (.goto (-61), 3) := by decide +kernel
theorem dL_areRoots_449 : decode cL_areRoots 449 = .ok (.aload_n 0, 1) := by decide +kernel
theorem dL_areRoots_450 : decode cL_areRoots 450 = .ok (.bipush (-4), 2) := by decide +kernel
theorem dL_areRoots_452 : decode cL_areRoots 452 = .ok (.bipush 7, 2) := by decide +kernel
theorem dL_areRoots_454 : decode cL_areRoots 454 = .ok (.invokevirtual 52, 3) := by decide +kernel
theorem dL_areRoots_457 : decode cL_areRoots 457 = .ok (.istore 6, 2) := by decide +kernel
theorem dL_areRoots_459 : decode cL_areRoots 459 = .ok (.iload 6, 2) := by decide +kernel
theorem dL_areRoots_461 : decode cL_areRoots 461 = .ok (.ifCond .lt 14, 3) := by decide +kernel
theorem dL_areRoots_464 : decode cL_areRoots 464 = .ok (.iload 6, 2) := by decide +kernel
theorem dL_areRoots_466 : decode cL_areRoots 466 = .ok (.iconst 2, 1) := by decide +kernel
theorem dL_areRoots_467 : decode cL_areRoots 467 = .ok (.irem, 1) := by decide +kernel
theorem dL_areRoots_468 : decode cL_areRoots 468 = .ok (.ifCond .ne 7, 3) := by decide +kernel
theorem dL_areRoots_471 : decode cL_areRoots 471 = .ok (.iconst 1, 1) := by decide +kernel
theorem dL_areRoots_472 : decode cL_areRoots 472 = .ok (.goto 4, 3) := by decide +kernel
theorem dL_areRoots_475 : decode cL_areRoots 475 = .ok (.iconst 0, 1) := by decide +kernel
theorem dL_areRoots_476 : decode cL_areRoots 476 = .ok (.ireturn, 1) := by decide +kernel
theorem dL_isBest_0 : decode cL_isBest 0 = .ok (.iconst (-1), 1) := by decide +kernel
theorem dL_isBest_1 : decode cL_isBest 1 = .ok (.istore_n 2, 1) := by decide +kernel
theorem dL_isBest_2 : decode cL_isBest 2 = .ok (.iconst 0, 1) := by decide +kernel
theorem dL_isBest_3 : decode cL_isBest 3 = .ok (.istore_n 3, 1) := by decide +kernel
theorem dL_isBest_4 : decode cL_isBest 4 = .ok (.aload_n 1, 1) := by decide +kernel
theorem dL_isBest_5 : decode cL_isBest 5 = .ok (.invokevirtual 91, 3) := by decide +kernel
theorem dL_isBest_8 : decode cL_isBest 8 = .ok (.istore 4, 2) := by decide +kernel
theorem dL_isBest_10 : decode cL_isBest 10 = .ok (.iconst 0, 1) := by decide +kernel
theorem dL_isBest_11 : decode cL_isBest 11 = .ok (.istore 5, 2) := by decide +kernel
theorem dL_isBest_13 : decode cL_isBest 13 = .ok (.iload 5, 2) := by decide +kernel
theorem dL_isBest_15 : decode cL_isBest 15 = .ok (.aload_n 1, 1) := by decide +kernel
theorem dL_isBest_16 : decode cL_isBest 16 = .ok (.getfield 27, 3) := by decide +kernel
theorem dL_isBest_19 : decode cL_isBest 19 = .ok (.arraylength, 1) := by decide +kernel
theorem dL_isBest_20 : decode cL_isBest 20 = .ok (.if_icmp .ge 124, 3) := by decide +kernel
theorem dL_isBest_23 : decode cL_isBest 23 = .ok (.bipush (-9), 2) := by decide +kernel
theorem dL_isBest_25 : decode cL_isBest 25 = .ok (.istore 6, 2) := by decide +kernel
theorem dL_isBest_27 : decode cL_isBest 27 = .ok (.iload 6, 2) := by decide +kernel
theorem dL_isBest_29 : decode cL_isBest 29 = .ok (.bipush 9, 2) := by decide +kernel
theorem dL_isBest_31 : decode cL_isBest 31 = .ok (.if_icmp .gt 107, 3) := by decide +kernel
theorem dL_isBest_34 : decode cL_isBest 34 = .ok (.iload 6, 2) := by decide +kernel
theorem dL_isBest_36 : decode cL_isBest 36 = .ok (.ifCond .ne 6, 3) := by decide +kernel
theorem dL_isBest_39 : decode cL_isBest 39 = .ok (.goto 93, 3) := by decide +kernel
theorem dL_isBest_42 : decode cL_isBest 42 = .ok (.aload_n 0, 1) := by decide +kernel
theorem dL_isBest_43 : decode cL_isBest 43 = .ok (.iload 6, 2) := by decide +kernel
theorem dL_isBest_45 : decode cL_isBest 45 = .ok (.iload 5, 2) := by decide +kernel
theorem dL_isBest_47 : decode cL_isBest 47 = .ok (.invokevirtual 94, 3) := by decide +kernel
theorem dL_isBest_50 : decode cL_isBest 50 = .ok (.aload_n 1, 1) := by decide +kernel
theorem dL_isBest_51 : decode cL_isBest 51 = .ok (.iload 6, 2) := by decide +kernel
theorem dL_isBest_53 : decode cL_isBest 53 = .ok (.iload 5, 2) := by decide +kernel
theorem dL_isBest_55 : decode cL_isBest 55 = .ok (.invokevirtual 97, 3) := by decide +kernel
theorem dL_isBest_58 : decode cL_isBest 58 = .ok (.if_icmp .eq 5, 3) := by decide +kernel
theorem dL_isBest_61 : decode cL_isBest 61 = .ok (.iconst 0, 1) := by decide +kernel
theorem dL_isBest_62 : decode cL_isBest 62 = .ok (.ireturn, 1) := by decide +kernel
theorem dL_isBest_63 : decode cL_isBest 63 = .ok (.aload_n 1, 1) := by decide +kernel
theorem dL_isBest_64 : decode cL_isBest 64 = .ok (.iload 6, 2) := by decide +kernel
theorem dL_isBest_66 : decode cL_isBest 66 = .ok (.iload 5, 2) := by decide +kernel
theorem dL_isBest_68 : decode cL_isBest 68 = .ok (.invokevirtual 97, 3) := by decide +kernel
theorem dL_isBest_71 : decode cL_isBest 71 = .ok (.ifCond .le 6, 3) := by decide +kernel
theorem dL_isBest_74 : decode cL_isBest 74 = .ok (.goto 58, 3) := by decide +kernel
theorem dL_isBest_77 : decode cL_isBest 77 = .ok (.aload_n 0, 1) := by decide +kernel
theorem dL_isBest_78 : decode cL_isBest 78 = .ok (.iload 6, 2) := by decide +kernel
theorem dL_isBest_80 : decode cL_isBest 80 = .ok (.iload 5, 2) := by decide +kernel
theorem dL_isBest_82 : decode cL_isBest 82 = .ok (.iconst 1, 1) := by decide +kernel
theorem dL_isBest_83 : decode cL_isBest 83 = .ok (.iload 4, 2) := by decide +kernel
theorem dL_isBest_85 : decode cL_isBest 85 = .ok (.iadd, 1) := by decide +kernel
theorem dL_isBest_86 : decode cL_isBest 86 = .ok (.invokevirtual 100, 3) := by decide +kernel
theorem dL_isBest_89 : decode cL_isBest 89 = .ok (.aload_n 0, 1) := by decide +kernel
theorem dL_isBest_90 : decode cL_isBest 90 = .ok (.iload 6, 2) := by decide +kernel
theorem dL_isBest_92 : decode cL_isBest 92 = .ok (.iload 5, 2) := by decide +kernel
theorem dL_isBest_94 : decode cL_isBest 94 = .ok (.iconst 2, 1) := by decide +kernel
theorem dL_isBest_95 : decode cL_isBest 95 = .ok (.iload 4, 2) := by decide +kernel
theorem dL_isBest_97 : decode cL_isBest 97 = .ok (.isub, 1) := by decide +kernel
theorem dL_isBest_98 : decode cL_isBest 98 = .ok (.invokevirtual 100, 3) := by decide +kernel
theorem dL_isBest_101 : decode cL_isBest 101 = .ok (.isub, 1) := by decide +kernel
theorem dL_isBest_102 : decode cL_isBest 102 = .ok (.istore 7, 2) := by decide +kernel
theorem dL_isBest_104 : decode cL_isBest 104 = .ok (.iload_n 2, 1) := by decide +kernel
theorem dL_isBest_105 : decode cL_isBest 105 = .ok (.ifCond .lt 12, 3) := by decide +kernel
theorem dL_isBest_108 : decode cL_isBest 108 = .ok (.iload 7, 2) := by decide +kernel
theorem dL_isBest_110 : decode cL_isBest 110 = .ok (.iload_n 3, 1) := by decide +kernel
theorem dL_isBest_111 : decode cL_isBest 111 = .ok (.if_icmp .gt 6, 3) := by decide +kernel
theorem dL_isBest_114 : decode cL_isBest 114 = .ok (.goto 18, 3) := by decide +kernel
theorem dL_isBest_117 : decode cL_isBest 117 = .ok (.bipush 20, 2) := by decide +kernel
theorem dL_isBest_119 : decode cL_isBest 119 = .ok (.iload 5, 2) := by decide +kernel
theorem dL_isBest_121 : decode cL_isBest 121 = .ok (.imul, 1) := by decide +kernel
theorem dL_isBest_122 : decode cL_isBest 122 = .ok (.iload 6, 2) := by decide +kernel
theorem dL_isBest_124 : decode cL_isBest 124 = .ok (.iadd, 1) := by decide +kernel
theorem dL_isBest_125 : decode cL_isBest 125 = .ok (.bipush 10, 2) := by decide +kernel
theorem dL_isBest_127 : decode cL_isBest 127 = .ok (.iadd, 1) := by decide +kernel
theorem dL_isBest_128 : decode cL_isBest 128 = .ok (.istore_n 2, 1) := by decide +kernel
theorem dL_isBest_129 : decode cL_isBest 129 = .ok (.iload 7, 2) := by decide +kernel
theorem dL_isBest_131 : decode cL_isBest 131 = .ok (.istore_n 3, 1) := by decide +kernel
theorem dL_isBest_132 : decode cL_isBest 132 = .ok (.iinc 6 1, 3) := by decide +kernel
theorem dL_isBest_135 : decode cL_isBest 135 = .ok (.goto (-108), 3) := by decide +kernel
theorem dL_isBest_138 : decode cL_isBest 138 = .ok (.iinc 5 1, 3) := by decide +kernel
theorem dL_isBest_141 : decode cL_isBest 141 = .ok (.goto (-128), 3) := by decide +kernel
theorem dL_isBest_144 : decode cL_isBest 144 = .ok (.aload_n 0, 1) := by decide +kernel
theorem dL_isBest_145 : decode cL_isBest 145 = .ok (.invokevirtual 104, 3) := by decide +kernel
theorem dL_isBest_148 : decode cL_isBest 148 = .ok (.iload_n 2, 1) := by decide +kernel
theorem dL_isBest_149 : decode cL_isBest 149 = .ok (.if_icmp .ne 7, 3) := by decide +kernel
theorem dL_isBest_152 : decode cL_isBest 152 = .ok (.iconst 1, 1) := by decide +kernel
theorem dL_isBest_153 : decode cL_isBest 153 = .ok (.goto 4, 3) := by decide +kernel
theorem dL_isBest_156 : decode cL_isBest 156 = .ok (.iconst 0, 1) := by decide +kernel
theorem dL_isBest_157 : decode cL_isBest 157 = .ok (.ireturn, 1) := by decide +kernel
theorem dL_law_0 : decode cL_law 0 = .ok (.new 107, 3) := by decide +kernel
theorem dL_law_3 : decode cL_law 3 = .ok (.dup, 1) := by decide +kernel
theorem dL_law_4 : decode cL_law 4 = .ok (.aload_n 0, 1) := by decide +kernel
theorem dL_law_5 : decode cL_law 5 = .ok (.invokespecial 109, 3) := by decide +kernel
theorem dL_law_8 : decode cL_law 8 = .ok (.astore_n 1, 1) := by decide +kernel
theorem dL_law_9 : decode cL_law 9 = .ok (.new 9, 3) := by decide +kernel
theorem dL_law_12 : decode cL_law 12 = .ok (.dup, 1) := by decide +kernel
theorem dL_law_13 : decode cL_law 13 = .ok (.invokespecial 112, 3) := by decide +kernel
theorem dL_law_16 : decode cL_law 16 = .ok (.astore_n 2, 1) := by decide +kernel
theorem dL_law_17 : decode cL_law 17 = .ok (.iconst 2, 1) := by decide +kernel
theorem dL_law_18 : decode cL_law 18 = .ok (.aload_n 1, 1) := by decide +kernel
theorem dL_law_19 : decode cL_law 19 = .ok (.iconst 4, 1) := by decide +kernel
theorem dL_law_20 : decode cL_law 20 = .ok (.invokevirtual 113, 3) := by decide +kernel
theorem dL_law_23 : decode cL_law 23 = .ok (.iadd, 1) := by decide +kernel
theorem dL_law_24 : decode cL_law 24 = .ok (.istore_n 3, 1) := by decide +kernel
theorem dL_law_25 : decode cL_law 25 = .ok (.aload_n 1, 1) := by decide +kernel
theorem dL_law_26 : decode cL_law 26 = .ok (.aload_n 1, 1) := by decide +kernel
theorem dL_law_27 : decode cL_law 27 = .ok (.iconst 2, 1) := by decide +kernel
theorem dL_law_28 : decode cL_law 28 = .ok (.invokevirtual 113, 3) := by decide +kernel
theorem dL_law_31 : decode cL_law 31 = .ok (.ifCond .ne 7, 3) := by decide +kernel
theorem dL_law_34 : decode cL_law 34 = .ok (.iconst 3, 1) := by decide +kernel
theorem dL_law_35 : decode cL_law 35 = .ok (.goto 5, 3) := by decide +kernel
theorem dL_law_38 : decode cL_law 38 = .ok (.bipush 10, 2) := by decide +kernel
theorem dL_law_40 : decode cL_law 40 = .ok (.invokevirtual 113, 3) := by decide +kernel
theorem dL_law_43 : decode cL_law 43 = .ok (.istore 4, 2) := by decide +kernel
theorem dL_law_45 : decode cL_law 45 = .ok (.iconst 1, 1) := by decide +kernel
theorem dL_law_46 : decode cL_law 46 = .ok (.aload_n 1, 1) := by decide +kernel
theorem dL_law_47 : decode cL_law 47 = .ok (.bipush 14, 2) := by decide +kernel
theorem dL_law_49 : decode cL_law 49 = .ok (.invokevirtual 113, 3) := by decide +kernel
theorem dL_law_52 : decode cL_law 52 = .ok (.iadd, 1) := by decide +kernel
theorem dL_law_53 : decode cL_law 53 = .ok (.istore 5, 2) := by decide +kernel
theorem dL_law_55 : decode cL_law 55 = .ok (.iconst 1, 1) := by decide +kernel
theorem dL_law_56 : decode cL_law 56 = .ok (.aload_n 1, 1) := by decide +kernel
theorem dL_law_57 : decode cL_law 57 = .ok (.bipush 20, 2) := by decide +kernel
theorem dL_law_59 : decode cL_law 59 = .ok (.invokevirtual 113, 3) := by decide +kernel
theorem dL_law_62 : decode cL_law 62 = .ok (.iadd, 1) := by decide +kernel
theorem dL_law_63 : decode cL_law 63 = .ok (.istore 6, 2) := by decide +kernel
theorem dL_law_65 : decode cL_law 65 = .ok (.aload_n 1, 1) := by decide +kernel
theorem dL_law_66 : decode cL_law 66 = .ok (.iconst 3, 1) := by decide +kernel
theorem dL_law_67 : decode cL_law 67 = .ok (.invokevirtual 113, 3) := by decide +kernel
theorem dL_law_70 : decode cL_law 70 = .ok (.ifCond .ne 13, 3) := by decide +kernel
theorem dL_law_73 : decode cL_law 73 = .ok (.iconst 1, 1) := by decide +kernel
theorem dL_law_74 : decode cL_law 74 = .ok (.aload_n 1, 1) := by decide +kernel
theorem dL_law_75 : decode cL_law 75 = .ok (.iconst 4, 1) := by decide +kernel
theorem dL_law_76 : decode cL_law 76 = .ok (.invokevirtual 113, 3) := by decide +kernel
theorem dL_law_79 : decode cL_law 79 = .ok (.iadd, 1) := by decide +kernel
theorem dL_law_80 : decode cL_law 80 = .ok (.goto 4, 3) := by decide +kernel
theorem dL_law_83 : decode cL_law 83 = .ok (.iconst 0, 1) := by decide +kernel
theorem dL_law_84 : decode cL_law 84 = .ok (.istore 7, 2) := by decide +kernel
theorem dL_law_86 : decode cL_law 86 = .ok (.aload_n 1, 1) := by decide +kernel
theorem dL_law_87 : decode cL_law 87 = .ok (.bipush 21, 2) := by decide +kernel
theorem dL_law_89 : decode cL_law 89 = .ok (.invokevirtual 113, 3) := by decide +kernel
theorem dL_law_92 : decode cL_law 92 = .ok (.istore 8, 2) := by decide +kernel
theorem dL_law_94 : decode cL_law 94 = .ok (.iconst 1, 1) := by decide +kernel
theorem dL_law_95 : decode cL_law 95 = .ok (.aload_n 1, 1) := by decide +kernel
theorem dL_law_96 : decode cL_law 96 = .ok (.bipush 40, 2) := by decide +kernel
theorem dL_law_98 : decode cL_law 98 = .ok (.invokevirtual 113, 3) := by decide +kernel
theorem dL_law_101 : decode cL_law 101 = .ok (.iadd, 1) := by decide +kernel
theorem dL_law_102 : decode cL_law 102 = .ok (.istore 9, 2) := by decide +kernel
theorem dL_law_104 : decode cL_law 104 = .ok (.new 28, 3) := by decide +kernel
theorem dL_law_107 : decode cL_law 107 = .ok (.dup, 1) := by decide +kernel
theorem dL_law_108 : decode cL_law 108 = .ok (.bipush 7, 2) := by decide +kernel
theorem dL_law_110 : decode cL_law 110 = .ok (.newarray .int, 2) := by decide +kernel
theorem dL_law_112 : decode cL_law 112 = .ok (.dup, 1) := by decide +kernel
theorem dL_law_113 : decode cL_law 113 = .ok (.iconst 0, 1) := by decide +kernel
theorem dL_law_114 : decode cL_law 114 = .ok (.iload_n 3, 1) := by decide +kernel
theorem dL_law_115 : decode cL_law 115 = .ok (.iastore, 1) := by decide +kernel
theorem dL_law_116 : decode cL_law 116 = .ok (.dup, 1) := by decide +kernel
theorem dL_law_117 : decode cL_law 117 = .ok (.iconst 1, 1) := by decide +kernel
theorem dL_law_118 : decode cL_law 118 = .ok (.iload 4, 2) := by decide +kernel
theorem dL_law_120 : decode cL_law 120 = .ok (.iastore, 1) := by decide +kernel
theorem dL_law_121 : decode cL_law 121 = .ok (.dup, 1) := by decide +kernel
theorem dL_law_122 : decode cL_law 122 = .ok (.iconst 2, 1) := by decide +kernel
theorem dL_law_123 : decode cL_law 123 = .ok (.iload 5, 2) := by decide +kernel
theorem dL_law_125 : decode cL_law 125 = .ok (.iastore, 1) := by decide +kernel
theorem dL_law_126 : decode cL_law 126 = .ok (.dup, 1) := by decide +kernel
theorem dL_law_127 : decode cL_law 127 = .ok (.iconst 3, 1) := by decide +kernel
theorem dL_law_128 : decode cL_law 128 = .ok (.iload 6, 2) := by decide +kernel
theorem dL_law_130 : decode cL_law 130 = .ok (.iastore, 1) := by decide +kernel
theorem dL_law_131 : decode cL_law 131 = .ok (.dup, 1) := by decide +kernel
theorem dL_law_132 : decode cL_law 132 = .ok (.iconst 4, 1) := by decide +kernel
theorem dL_law_133 : decode cL_law 133 = .ok (.iload 7, 2) := by decide +kernel
theorem dL_law_135 : decode cL_law 135 = .ok (.iastore, 1) := by decide +kernel
theorem dL_law_136 : decode cL_law 136 = .ok (.dup, 1) := by decide +kernel
theorem dL_law_137 : decode cL_law 137 = .ok (.iconst 5, 1) := by decide +kernel
theorem dL_law_138 : decode cL_law 138 = .ok (.iload 8, 2) := by decide +kernel
theorem dL_law_140 : decode cL_law 140 = .ok (.iastore, 1) := by decide +kernel
theorem dL_law_141 : decode cL_law 141 = .ok (.dup, 1) := by decide +kernel
theorem dL_law_142 : decode cL_law 142 = .ok (.bipush 6, 2) := by decide +kernel
theorem dL_law_144 : decode cL_law 144 = .ok (.iload 9, 2) := by decide +kernel
theorem dL_law_146 : decode cL_law 146 = .ok (.iastore, 1) := by decide +kernel
theorem dL_law_147 : decode cL_law 147 = .ok (.invokespecial 116, 3) := by decide +kernel
theorem dL_law_150 : decode cL_law 150 = .ok (.astore 10, 2) := by decide +kernel
theorem dL_law_152 : decode cL_law 152 = .ok (.new 117, 3) := by decide +kernel
theorem dL_law_155 : decode cL_law 155 = .ok (.dup, 1) := by decide +kernel
theorem dL_law_156 : decode cL_law 156 = .ok (.new 117, 3) := by decide +kernel
theorem dL_law_159 : decode cL_law 159 = .ok (.dup, 1) := by decide +kernel
theorem dL_law_160 : decode cL_law 160 = .ok (.invokespecial 119, 3) := by decide +kernel
theorem dL_law_163 : decode cL_law 163 = .ok (.ldc 120, 2) := by decide +kernel
theorem dL_law_165 : decode cL_law 165 = .ok (.invokevirtual 122, 3) := by decide +kernel
theorem dL_law_168 : decode cL_law 168 = .ok (.iload_n 3, 1) := by decide +kernel
theorem dL_law_169 : decode cL_law 169 = .ok (.invokevirtual 126, 3) := by decide +kernel
theorem dL_law_172 : decode cL_law 172 = .ok (.ldc 129, 2) := by decide +kernel
theorem dL_law_174 : decode cL_law 174 = .ok (.invokevirtual 122, 3) := by decide +kernel
theorem dL_law_177 : decode cL_law 177 = .ok (.iload 4, 2) := by decide +kernel
theorem dL_law_179 : decode cL_law 179 = .ok (.invokevirtual 126, 3) := by decide +kernel
theorem dL_law_182 : decode cL_law 182 = .ok (.ldc 131, 2) := by decide +kernel
theorem dL_law_184 : decode cL_law 184 = .ok (.invokevirtual 122, 3) := by decide +kernel
theorem dL_law_187 : decode cL_law 187 = .ok (.iload 5, 2) := by decide +kernel
theorem dL_law_189 : decode cL_law 189 = .ok (.invokevirtual 126, 3) := by decide +kernel
theorem dL_law_192 : decode cL_law 192 = .ok (.ldc 133, 2) := by decide +kernel
theorem dL_law_194 : decode cL_law 194 = .ok (.invokevirtual 122, 3) := by decide +kernel
theorem dL_law_197 : decode cL_law 197 = .ok (.iload 6, 2) := by decide +kernel
theorem dL_law_199 : decode cL_law 199 = .ok (.invokevirtual 126, 3) := by decide +kernel
theorem dL_law_202 : decode cL_law 202 = .ok (.ldc 135, 2) := by decide +kernel
theorem dL_law_204 : decode cL_law 204 = .ok (.invokevirtual 122, 3) := by decide +kernel
theorem dL_law_207 : decode cL_law 207 = .ok (.iload 7, 2) := by decide +kernel
theorem dL_law_209 : decode cL_law 209 = .ok (.invokevirtual 126, 3) := by decide +kernel
theorem dL_law_212 : decode cL_law 212 = .ok (.ldc 137, 2) := by decide +kernel
theorem dL_law_214 : decode cL_law 214 = .ok (.invokevirtual 122, 3) := by decide +kernel
theorem dL_law_217 : decode cL_law 217 = .ok (.iload 8, 2) := by decide +kernel
theorem dL_law_219 : decode cL_law 219 = .ok (.invokevirtual 126, 3) := by decide +kernel
theorem dL_law_222 : decode cL_law 222 = .ok (.ldc 139, 2) := by decide +kernel
theorem dL_law_224 : decode cL_law 224 = .ok (.invokevirtual 122, 3) := by decide +kernel
theorem dL_law_227 : decode cL_law 227 = .ok (.iload 9, 2) := by decide +kernel
theorem dL_law_229 : decode cL_law 229 = .ok (.invokevirtual 126, 3) := by decide +kernel
theorem dL_law_232 : decode cL_law 232 = .ok (.ldc 141, 2) := by decide +kernel
theorem dL_law_234 : decode cL_law 234 = .ok (.invokevirtual 122, 3) := by decide +kernel
theorem dL_law_237 : decode cL_law 237 = .ok (.invokevirtual 143, 3) := by decide +kernel
theorem dL_law_240 : decode cL_law 240 = .ok (.invokespecial 147, 3) := by decide +kernel
theorem dL_law_243 : decode cL_law 243 = .ok (.astore 11, 2) := by decide +kernel
theorem dL_law_245 : decode cL_law 245 = .ok (.aload_n 1, 1) := by decide +kernel
theorem dL_law_246 : decode cL_law 246 = .ok (.iload_n 3, 1) := by decide +kernel
theorem dL_law_247 : decode cL_law 247 = .ok (.iconst 1, 1) := by decide +kernel
theorem dL_law_248 : decode cL_law 248 = .ok (.iadd, 1) := by decide +kernel
theorem dL_law_249 : decode cL_law 249 = .ok (.invokevirtual 113, 3) := by decide +kernel
theorem dL_law_252 : decode cL_law 252 = .ok (.istore 12, 2) := by decide +kernel
theorem dL_law_254 : decode cL_law 254 = .ok (.iconst 0, 1) := by decide +kernel
theorem dL_law_255 : decode cL_law 255 = .ok (.istore 13, 2) := by decide +kernel
theorem dL_law_257 : decode cL_law 257 = .ok (.iload 13, 2) := by decide +kernel
theorem dL_law_259 : decode cL_law 259 = .ok (.iload 12, 2) := by decide +kernel
theorem dL_law_261 : decode cL_law 261 = .ok (.if_icmp .ge 60, 3) := by decide +kernel
theorem dL_law_264 : decode cL_law 264 = .ok (.aload 10, 2) := by decide +kernel
theorem dL_law_266 : decode cL_law 266 = .ok (.getfield 27, 3) := by decide +kernel
theorem dL_law_269 : decode cL_law 269 = .ok (.iload 13, 2) := by decide +kernel
theorem dL_law_271 : decode cL_law 271 = .ok (.aload_n 1, 1) := by decide +kernel
theorem dL_law_272 : decode cL_law 272 = .ok (.bipush 61, 2) := by decide +kernel
theorem dL_law_274 : decode cL_law 274 = .ok (.invokevirtual 113, 3) := by decide +kernel
theorem dL_law_277 : decode cL_law 277 = .ok (.bipush 30, 2) := by decide +kernel
theorem dL_law_279 : decode cL_law 279 = .ok (.isub, 1) := by decide +kernel
theorem dL_law_280 : decode cL_law 280 = .ok (.iastore, 1) := by decide +kernel
theorem dL_law_281 : decode cL_law 281 = .ok (.aload 11, 2) := by decide +kernel
theorem dL_law_283 : decode cL_law 283 = .ok (.ldc 150, 2) := by decide +kernel
theorem dL_law_285 : decode cL_law 285 = .ok (.invokevirtual 122, 3) := by decide +kernel
theorem dL_law_288 : decode cL_law 288 = .ok (.aload 10, 2) := by decide +kernel
theorem dL_law_290 : decode cL_law 290 = .ok (.getfield 27, 3) := by decide +kernel
theorem dL_law_293 : decode cL_law 293 = .ok (.iload 13, 2) := by decide +kernel
theorem dL_law_295 : decode cL_law 295 = .ok (.iaload, 1) := by decide +kernel
theorem dL_law_296 : decode cL_law 296 = .ok (.invokevirtual 126, 3) := by decide +kernel
theorem dL_law_299 : decode cL_law 299 = .ok (.bipush 32, 2) := by decide +kernel
theorem dL_law_301 : decode cL_law 301 = .ok (.invokevirtual 152, 3) := by decide +kernel
theorem dL_law_304 : decode cL_law 304 = .ok (.iload 13, 2) := by decide +kernel
theorem dL_law_306 : decode cL_law 306 = .ok (.invokevirtual 126, 3) := by decide +kernel
theorem dL_law_309 : decode cL_law 309 = .ok (.bipush 59, 2) := by decide +kernel
theorem dL_law_311 : decode cL_law 311 = .ok (.invokevirtual 152, 3) := by decide +kernel
theorem dL_law_314 : decode cL_law 314 = .ok (.pop, 1) := by decide +kernel
theorem dL_law_315 : decode cL_law 315 = .ok (.iinc 13 1, 3) := by decide +kernel
theorem dL_law_318 : decode cL_law 318 = .ok (.goto (-61), 3) := by decide +kernel
theorem dL_law_321 : decode cL_law 321 = .ok (.aload_n 2, 1) := by decide +kernel
theorem dL_law_322 : decode cL_law 322 = .ok (.aload 11, 2) := by decide +kernel
theorem dL_law_324 : decode cL_law 324 = .ok (.invokevirtual 143, 3) := by decide +kernel
theorem dL_law_327 : decode cL_law 327 = .ok (.invokestatic 155, 3) := by decide +kernel
theorem dL_law_330 : decode cL_law 330 = .ok (.aload_n 2, 1) := by decide +kernel
theorem dL_law_331 : decode cL_law 331 = .ok (.invokevirtual 159, 3) := by decide +kernel
theorem dL_law_334 : decode cL_law 334 = .ok (.bipush 6, 2) := by decide +kernel
theorem dL_law_336 : decode cL_law 336 = .ok (.iload 12, 2) := by decide +kernel
theorem dL_law_338 : decode cL_law 338 = .ok (.iadd, 1) := by decide +kernel
theorem dL_law_339 : decode cL_law 339 = .ok (.if_icmp .ne 12, 3) := by decide +kernel
theorem dL_law_342 : decode cL_law 342 = .ok (.aload_n 2, 1) := by decide +kernel
theorem dL_law_343 : decode cL_law 343 = .ok (.aload 10, 2) := by decide +kernel
theorem dL_law_345 : decode cL_law 345 = .ok (.invokestatic 162, 3) := by decide +kernel
theorem dL_law_348 : decode cL_law 348 = .ok (.ifCond .ne 5, 3) := by decide +kernel
theorem dL_law_351 : decode cL_law 351 = .ok (.iconst 0, 1) := by decide +kernel
theorem dL_law_352 : decode cL_law 352 = .ok (.ireturn, 1) := by decide +kernel
theorem dL_law_353 : decode cL_law 353 = .ok (.iconst 3, 1) := by decide +kernel
theorem dL_law_354 : decode cL_law 354 = .ok (.aload_n 1, 1) := by decide +kernel
theorem dL_law_355 : decode cL_law 355 = .ok (.bipush 20, 2) := by decide +kernel
theorem dL_law_357 : decode cL_law 357 = .ok (.invokevirtual 113, 3) := by decide +kernel
theorem dL_law_360 : decode cL_law 360 = .ok (.iadd, 1) := by decide +kernel
theorem dL_law_361 : decode cL_law 361 = .ok (.istore 13, 2) := by decide +kernel
theorem dL_law_363 : decode cL_law 363 = .ok (.iload 13, 2) := by decide +kernel
theorem dL_law_365 : decode cL_law 365 = .ok (.ifCond .le 635, 3) := by decide +kernel
theorem dL_law_368 : decode cL_law 368 = .ok (.aload_n 1, 1) := by decide +kernel
theorem dL_law_369 : decode cL_law 369 = .ok (.bipush 8, 2) := by decide +kernel
theorem dL_law_371 : decode cL_law 371 = .ok (.invokevirtual 113, 3) := by decide +kernel
theorem dL_law_374 : decode cL_law 374 = .ok (.istore 14, 2) := by decide +kernel
theorem dL_law_376 : decode cL_law 376 = .ok (.iload 14, 2) := by decide +kernel
theorem dL_law_378 : decode cL_law 378 = .ok (.iconst 2, 1) := by decide +kernel
theorem dL_law_379 : decode cL_law 379 = .ok (.if_icmp .ge 146, 3) := by decide +kernel
theorem dL_law_382 : decode cL_law 382 = .ok (.aload_n 1, 1) := by decide +kernel
theorem dL_law_383 : decode cL_law 383 = .ok (.bipush 40, 2) := by decide +kernel
theorem dL_law_385 : decode cL_law 385 = .ok (.invokevirtual 113, 3) := by decide +kernel
theorem dL_law_388 : decode cL_law 388 = .ok (.bipush 20, 2) := by decide +kernel
theorem dL_law_390 : decode cL_law 390 = .ok (.isub, 1) := by decide +kernel
theorem dL_law_391 : decode cL_law 391 = .ok (.istore 15, 2) := by decide +kernel
theorem dL_law_393 : decode cL_law 393 = .ok (.new 166, 3) := by decide +kernel
theorem dL_law_396 : decode cL_law 396 = .ok (.dup, 1) := by decide +kernel
theorem dL_law_397 : decode cL_law 397 = .ok (.iload 15, 2) := by decide +kernel
theorem dL_law_399 : decode cL_law 399 = .ok (.iload 15, 2) := by decide +kernel
theorem dL_law_401 : decode cL_law 401 = .ok (.iconst 1, 1) := by decide +kernel
theorem dL_law_402 : decode cL_law 402 = .ok (.iadd, 1) := by decide +kernel
theorem dL_law_403 : decode cL_law 403 = .ok (.aload_n 1, 1) := by decide +kernel
theorem dL_law_404 : decode cL_law 404 = .ok (.bipush 20, 2) := by decide +kernel
theorem dL_law_406 : decode cL_law 406 = .ok (.iload 15, 2) := by decide +kernel
theorem dL_law_408 : decode cL_law 408 = .ok (.isub, 1) := by decide +kernel
theorem dL_law_409 : decode cL_law 409 = .ok (.invokevirtual 113, 3) := by decide +kernel
theorem dL_law_412 : decode cL_law 412 = .ok (.iadd, 1) := by decide +kernel
theorem dL_law_413 : decode cL_law 413 = .ok (.aload_n 1, 1) := by decide +kernel
theorem dL_law_414 : decode cL_law 414 = .ok (.iconst 5, 1) := by decide +kernel
theorem dL_law_415 : decode cL_law 415 = .ok (.invokevirtual 113, 3) := by decide +kernel
theorem dL_law_418 : decode cL_law 418 = .ok (.aload_n 1, 1) := by decide +kernel
theorem dL_law_419 : decode cL_law 419 = .ok (.iconst 2, 1) := by decide +kernel
theorem dL_law_420 : decode cL_law 420 = .ok (.invokevirtual 113, 3) := by decide +kernel
theorem dL_law_423 : decode cL_law 423 = .ok (.ifCond .ne 7, 3) := by decide +kernel
theorem dL_law_426 : decode cL_law 426 = .ok (.iconst 1, 1) := by decide +kernel
theorem dL_law_427 : decode cL_law 427 = .ok (.goto 4, 3) := by decide +kernel
theorem dL_law_430 : decode cL_law 430 = .ok (.iconst 0, 1) := by decide +kernel
theorem dL_law_431 : decode cL_law 431 = .ok (.iconst 1, 1) := by decide +kernel
theorem dL_law_432 : decode cL_law 432 = .ok (.aload_n 1, 1) := by decide +kernel
theorem dL_law_433 : decode cL_law 433 = .ok (.bipush 9, 2) := by decide +kernel
theorem dL_law_435 : decode cL_law 435 = .ok (.invokevirtual 113, 3) := by decide +kernel
theorem dL_law_438 : decode cL_law 438 = .ok (.iadd, 1) := by decide +kernel
theorem dL_law_439 : decode cL_law 439 = .ok (.invokespecial 168, 3) := by decide +kernel
theorem dL_law_442 : decode cL_law 442 = .ok (.astore 16, 2) := by decide +kernel
theorem dL_law_444 : decode cL_law 444 = .ok (.aload 10, 2) := by decide +kernel
theorem dL_law_446 : decode cL_law 446 = .ok (.aload 16, 2) := by decide +kernel
theorem dL_law_448 : decode cL_law 448 = .ok (.invokevirtual 171, 3) := by decide +kernel
theorem dL_law_451 : decode cL_law 451 = .ok (.istore 17, 2) := by decide +kernel
theorem dL_law_453 : decode cL_law 453 = .ok (.aload_n 2, 1) := by decide +kernel
theorem dL_law_454 : decode cL_law 454 = .ok (.aload 16, 2) := by decide +kernel
theorem dL_law_456 : decode cL_law 456 = .ok (.getfield 175, 3) := by decide +kernel
theorem dL_law_459 : decode cL_law 459 = .ok (.aload 16, 2) := by decide +kernel
theorem dL_law_461 : decode cL_law 461 = .ok (.getfield 179, 3) := by decide +kernel
theorem dL_law_464 : decode cL_law 464 = .ok (.aload 16, 2) := by decide +kernel
theorem dL_law_466 : decode cL_law 466 = .ok (.getfield 182, 3) := by decide +kernel
theorem dL_law_469 : decode cL_law 469 = .ok (.aload 16, 2) := by decide +kernel
theorem dL_law_471 : decode cL_law 471 = .ok (.getfield 184, 3) := by decide +kernel
theorem dL_law_474 : decode cL_law 474 = .ok (.aload 16, 2) := by decide +kernel
theorem dL_law_476 : decode cL_law 476 = .ok (.getfield 188, 3) := by decide +kernel
theorem dL_law_479 : decode cL_law 479 = .ok (.invokevirtual 191, 3) := by decide +kernel
theorem dL_law_482 : decode cL_law 482 = .ok (.iload 17, 2) := by decide +kernel
theorem dL_law_484 : decode cL_law 484 = .ok (.if_icmp .eq 5, 3) := by decide +kernel
theorem dL_law_487 : decode cL_law 487 = .ok (.iconst 0, 1) := by decide +kernel
theorem dL_law_488 : decode cL_law 488 = .ok (.ireturn, 1) := by decide +kernel
theorem dL_law_489 : decode cL_law 489 = .ok (.iload 17, 2) := by decide +kernel
theorem dL_law_491 : decode cL_law 491 = .ok (.ifCond .ne 31, 3) := by decide +kernel
theorem dL_law_494 : decode cL_law 494 = .ok (.aload 10, 2) := by decide +kernel
theorem dL_law_496 : decode cL_law 496 = .ok (.getfield 195, 3) := by decide +kernel
theorem dL_law_499 : decode cL_law 499 = .ok (.aload 10, 2) := by decide +kernel
theorem dL_law_501 : decode cL_law 501 = .ok (.invokevirtual 91, 3) := by decide +kernel
theorem dL_law_504 : decode cL_law 504 = .ok (.invokevirtual 199, 3) := by decide +kernel
theorem dL_law_507 : decode cL_law 507 = .ok (.checkcast 200, 3) := by decide +kernel
theorem dL_law_510 : decode cL_law 510 = .ok (.aload 16, 2) := by decide +kernel
theorem dL_law_512 : decode cL_law 512 = .ok (.invokevirtual 205, 3) := by decide +kernel
theorem dL_law_515 : decode cL_law 515 = .ok (.pop, 1) := by decide +kernel
theorem dL_law_516 : decode cL_law 516 = .ok (.aload 10, 2) := by decide +kernel
theorem dL_law_518 : decode cL_law 518 = .ok (.iconst 1, 1) := by decide +kernel
theorem dL_law_519 : decode cL_law 519 = .ok (.putfield 209, 3) := by decide +kernel
theorem dL_law_522 : decode cL_law 522 = .ok (.goto 208, 3) := by decide +kernel
theorem dL_law_525 : decode cL_law 525 = .ok (.iload 14, 2) := by decide +kernel
theorem dL_law_527 : decode cL_law 527 = .ok (.iconst 2, 1) := by decide +kernel
theorem dL_law_528 : decode cL_law 528 = .ok (.if_icmp .ne 42, 3) := by decide +kernel
theorem dL_law_531 : decode cL_law 531 = .ok (.aload_n 2, 1) := by decide +kernel
theorem dL_law_532 : decode cL_law 532 = .ok (.invokevirtual 212, 3) := by decide +kernel
theorem dL_law_535 : decode cL_law 535 = .ok (.aload 10, 2) := by decide +kernel
theorem dL_law_537 : decode cL_law 537 = .ok (.getfield 215, 3) := by decide +kernel
theorem dL_law_540 : decode cL_law 540 = .ok (.ifCond .eq 7, 3) := by decide +kernel
theorem dL_law_543 : decode cL_law 543 = .ok (.iconst 1, 1) := by decide +kernel
theorem dL_law_544 : decode cL_law 544 = .ok (.goto 4, 3) := by decide +kernel
theorem dL_law_547 : decode cL_law 547 = .ok (.iconst 0, 1) := by decide +kernel
theorem dL_law_548 : decode cL_law 548 = .ok (.if_icmp .eq 5, 3) := by decide +kernel
theorem dL_law_551 : decode cL_law 551 = .ok (.iconst 0, 1) := by decide +kernel
theorem dL_law_552 : decode cL_law 552 = .ok (.ireturn, 1) := by decide +kernel
theorem dL_law_553 : decode cL_law 553 = .ok (.aload 10, 2) := by decide +kernel
theorem dL_law_555 : decode cL_law 555 = .ok (.getfield 215, 3) := by decide +kernel
theorem dL_law_558 : decode cL_law 558 = .ok (.ifCond .ne 172, 3) := by decide +kernel
theorem dL_law_561 : decode cL_law 561 = .ok (.aload 10, 2) := by decide +kernel
theorem dL_law_563 : decode cL_law 563 = .ok (.iconst 1, 1) := by decide +kernel
theorem dL_law_564 : decode cL_law 564 = .ok (.invokevirtual 218, 3) := by decide +kernel
theorem dL_law_567 : decode cL_law 567 = .ok (.goto 163, 3) := by decide +kernel
theorem dL_law_570 : decode cL_law 570 = .ok (.aload_n 1, 1) := by decide +kernel
theorem dL_law_571 : decode cL_law 571 = .ok (.iload_n 3, 1) := by decide +kernel
theorem dL_law_572 : decode cL_law 572 = .ok (.invokevirtual 113, 3) := by decide +kernel
theorem dL_law_575 : decode cL_law 575 = .ok (.istore 15, 2) := by decide +kernel
theorem dL_law_577 : decode cL_law 577 = .ok (.aload_n 1, 1) := by decide +kernel
theorem dL_law_578 : decode cL_law 578 = .ok (.bipush 18, 2) := by decide +kernel
theorem dL_law_580 : decode cL_law 580 = .ok (.invokevirtual 113, 3) := by decide +kernel
theorem dL_law_583 : decode cL_law 583 = .ok (.bipush 9, 2) := by decide +kernel
theorem dL_law_585 : decode cL_law 585 = .ok (.isub, 1) := by decide +kernel
theorem dL_law_586 : decode cL_law 586 = .ok (.istore 16, 2) := by decide +kernel
theorem dL_law_588 : decode cL_law 588 = .ok (.iload 16, 2) := by decide +kernel
theorem dL_law_590 : decode cL_law 590 = .ok (.ifCond .lt 10, 3) := by decide +kernel
theorem dL_law_593 : decode cL_law 593 = .ok (.iload 16, 2) := by decide +kernel
theorem dL_law_595 : decode cL_law 595 = .ok (.iconst 1, 1) := by decide +kernel
theorem dL_law_596 : decode cL_law 596 = .ok (.iadd, 1) := by decide +kernel
theorem dL_law_597 : decode cL_law 597 = .ok (.goto 5, 3) := by decide +kernel
theorem dL_law_600 : decode cL_law 600 = .ok (.iload 16, 2) := by decide +kernel
theorem dL_law_602 : decode cL_law 602 = .ok (.istore 16, 2) := by decide +kernel
theorem dL_law_604 : decode cL_law 604 = .ok (.aload 10, 2) := by decide +kernel
theorem dL_law_606 : decode cL_law 606 = .ok (.iload 16, 2) := by decide +kernel
theorem dL_law_608 : decode cL_law 608 = .ok (.iload 15, 2) := by decide +kernel
theorem dL_law_610 : decode cL_law 610 = .ok (.invokevirtual 97, 3) := by decide +kernel
theorem dL_law_613 : decode cL_law 613 = .ok (.istore 17, 2) := by decide +kernel
theorem dL_law_615 : decode cL_law 615 = .ok (.aload 10, 2) := by decide +kernel
theorem dL_law_617 : decode cL_law 617 = .ok (.invokevirtual 91, 3) := by decide +kernel
theorem dL_law_620 : decode cL_law 620 = .ok (.istore 18, 2) := by decide +kernel
theorem dL_law_622 : decode cL_law 622 = .ok (.iload 17, 2) := by decide +kernel
theorem dL_law_624 : decode cL_law 624 = .ok (.ifCond .ne 15, 3) := by decide +kernel
theorem dL_law_627 : decode cL_law 627 = .ok (.aload_n 2, 1) := by decide +kernel
theorem dL_law_628 : decode cL_law 628 = .ok (.iload 16, 2) := by decide +kernel
theorem dL_law_630 : decode cL_law 630 = .ok (.iload 15, 2) := by decide +kernel
theorem dL_law_632 : decode cL_law 632 = .ok (.iconst 0, 1) := by decide +kernel
theorem dL_law_633 : decode cL_law 633 = .ok (.invokevirtual 100, 3) := by decide +kernel
theorem dL_law_636 : decode cL_law 636 = .ok (.goto 4, 3) := by decide +kernel
theorem dL_law_639 : decode cL_law 639 = .ok (.iconst 0, 1) := by decide +kernel
theorem dL_law_640 : decode cL_law 640 = .ok (.istore 19, 2) := by decide +kernel
theorem dL_law_642 : decode cL_law 642 = .ok (.aload_n 2, 1) := by decide +kernel
theorem dL_law_643 : decode cL_law 643 = .ok (.iload 16, 2) := by decide +kernel
theorem dL_law_645 : decode cL_law 645 = .ok (.iload 15, 2) := by decide +kernel
theorem dL_law_647 : decode cL_law 647 = .ok (.invokevirtual 222, 3) := by decide +kernel
theorem dL_law_650 : decode cL_law 650 = .ok (.iload 17, 2) := by decide +kernel
theorem dL_law_652 : decode cL_law 652 = .ok (.if_icmp .eq 5, 3) := by decide +kernel
theorem dL_law_655 : decode cL_law 655 = .ok (.iconst 0, 1) := by decide +kernel
theorem dL_law_656 : decode cL_law 656 = .ok (.ireturn, 1) := by decide +kernel
theorem dL_law_657 : decode cL_law 657 = .ok (.iload 17, 2) := by decide +kernel
theorem dL_law_659 : decode cL_law 659 = .ok (.ifCond .ne 71, 3) := by decide +kernel
theorem dL_law_662 : decode cL_law 662 = .ok (.aload 10, 2) := by decide +kernel
theorem dL_law_664 : decode cL_law 664 = .ok (.getfield 27, 3) := by decide +kernel
theorem dL_law_667 : decode cL_law 667 = .ok (.iload 15, 2) := by decide +kernel
theorem dL_law_669 : decode cL_law 669 = .ok (.dup2, 1) := by decide +kernel
theorem dL_law_670 : decode cL_law 670 = .ok (.iaload, 1) := by decide +kernel
theorem dL_law_671 : decode cL_law 671 = .ok (.iload 16, 2) := by decide +kernel
theorem dL_law_673 : decode cL_law 673 = .ok (.iadd, 1) := by decide +kernel
theorem dL_law_674 : decode cL_law 674 = .ok (.iastore, 1) := by decide +kernel
theorem dL_law_675 : decode cL_law 675 = .ok (.aload 10, 2) := by decide +kernel
theorem dL_law_677 : decode cL_law 677 = .ok (.getfield 225, 3) := by decide +kernel
theorem dL_law_680 : decode cL_law 680 = .ok (.iload 15, 2) := by decide +kernel
theorem dL_law_682 : decode cL_law 682 = .ok (.aload 10, 2) := by decide +kernel
theorem dL_law_684 : decode cL_law 684 = .ok (.getfield 228, 3) := by decide +kernel
theorem dL_law_687 : decode cL_law 687 = .ok (.iastore, 1) := by decide +kernel
theorem dL_law_688 : decode cL_law 688 = .ok (.aload 10, 2) := by decide +kernel
theorem dL_law_690 : decode cL_law 690 = .ok (.iconst 0, 1) := by decide +kernel
theorem dL_law_691 : decode cL_law 691 = .ok (.invokevirtual 218, 3) := by decide +kernel
theorem dL_law_694 : decode cL_law 694 = .ok (.aload_n 2, 1) := by decide +kernel
theorem dL_law_695 : decode cL_law 695 = .ok (.invokevirtual 39, 3) := by decide +kernel
theorem dL_law_698 : decode cL_law 698 = .ok (.iload 19, 2) := by decide +kernel
theorem dL_law_700 : decode cL_law 700 = .ok (.if_icmp .eq 5, 3) := by decide +kernel
theorem dL_law_703 : decode cL_law 703 = .ok (.iconst 0, 1) := by decide +kernel
theorem dL_law_704 : decode cL_law 704 = .ok (.ireturn, 1) := by decide +kernel
theorem dL_law_705 : decode cL_law 705 = .ok (.iload 7, 2) := by decide +kernel
theorem dL_law_707 : decode cL_law 707 = .ok (.ifCond .le 23, 3) := by decide +kernel
theorem dL_law_710 : decode cL_law 710 = .ok (.iload 19, 2) := by decide +kernel
theorem dL_law_712 : decode cL_law 712 = .ok (.iload 7, 2) := by decide +kernel
theorem dL_law_714 : decode cL_law 714 = .ok (.if_icmp .lt 16, 3) := by decide +kernel
theorem dL_law_717 : decode cL_law 717 = .ok (.aload 10, 2) := by decide +kernel
theorem dL_law_719 : decode cL_law 719 = .ok (.iconst 1, 1) := by decide +kernel
theorem dL_law_720 : decode cL_law 720 = .ok (.putfield 215, 3) := by decide +kernel
theorem dL_law_723 : decode cL_law 723 = .ok (.aload 10, 2) := by decide +kernel
theorem dL_law_725 : decode cL_law 725 = .ok (.iload 18, 2) := by decide +kernel
theorem dL_law_727 : decode cL_law 727 = .ok (.putfield 231, 3) := by decide +kernel
theorem dL_law_730 : decode cL_law 730 = .ok (.iconst 0, 1) := by decide +kernel
theorem dL_law_731 : decode cL_law 731 = .ok (.istore 15, 2) := by decide +kernel
theorem dL_law_733 : decode cL_law 733 = .ok (.iconst 0, 1) := by decide +kernel
theorem dL_law_734 : decode cL_law 734 = .ok (.istore 16, 2) := by decide +kernel
theorem dL_law_736 : decode cL_law 736 = .ok (.iload 16, 2) := by decide +kernel
theorem dL_law_738 : decode cL_law 738 = .ok (.iload_n 3, 1) := by decide +kernel
theorem dL_law_739 : decode cL_law 739 = .ok (.if_icmp .ge 74, 3) := by decide +kernel
theorem dL_law_742 : decode cL_law 742 = .ok (.aload_n 2, 1) := by decide +kernel
theorem dL_law_743 : decode cL_law 743 = .ok (.iload 16, 2) := by decide +kernel
theorem dL_law_745 : decode cL_law 745 = .ok (.iconst 0, 1) := by decide +kernel
theorem dL_law_746 : decode cL_law 746 = .ok (.invokevirtual 234, 3) := by decide +kernel
theorem dL_law_749 : decode cL_law 749 = .ok (.aload 10, 2) := by decide +kernel
theorem dL_law_751 : decode cL_law 751 = .ok (.getfield 27, 3) := by decide +kernel
theorem dL_law_754 : decode cL_law 754 = .ok (.iload 16, 2) := by decide +kernel
theorem dL_law_756 : decode cL_law 756 = .ok (.iaload, 1) := by decide +kernel
theorem dL_law_757 : decode cL_law 757 = .ok (.if_icmp .ne 28, 3) := by decide +kernel
theorem dL_law_760 : decode cL_law 760 = .ok (.aload_n 2, 1) := by decide +kernel
theorem dL_law_761 : decode cL_law 761 = .ok (.iload 16, 2) := by decide +kernel
theorem dL_law_763 : decode cL_law 763 = .ok (.iconst 1, 1) := by decide +kernel
theorem dL_law_764 : decode cL_law 764 = .ok (.invokevirtual 234, 3) := by decide +kernel
theorem dL_law_767 : decode cL_law 767 = .ok (.aload 10, 2) := by decide +kernel
theorem dL_law_769 : decode cL_law 769 = .ok (.iload 16, 2) := by decide +kernel
theorem dL_law_771 : decode cL_law 771 = .ok (.invokevirtual 237, 3) := by decide +kernel
theorem dL_law_774 : decode cL_law 774 = .ok (.ifCond .eq 7, 3) := by decide +kernel
theorem dL_law_777 : decode cL_law 777 = .ok (.iconst 1, 1) := by decide +kernel
theorem dL_law_778 : decode cL_law 778 = .ok (.goto 4, 3) := by decide +kernel
theorem dL_law_781 : decode cL_law 781 = .ok (.iconst 0, 1) := by decide +kernel
theorem dL_law_782 : decode cL_law 782 = .ok (.if_icmp .eq 5, 3) := by decide +kernel
theorem dL_law_785 : decode cL_law 785 = .ok (.iconst 0, 1) := by decide +kernel
theorem dL_law_786 : decode cL_law 786 = .ok (.ireturn, 1) := by decide +kernel
theorem dL_law_787 : decode cL_law 787 = .ok (.iload 15, 2) := by decide +kernel
theorem dL_law_789 : decode cL_law 789 = .ok (.aload 10, 2) := by decide +kernel
theorem dL_law_791 : decode cL_law 791 = .ok (.iload 16, 2) := by decide +kernel
theorem dL_law_793 : decode cL_law 793 = .ok (.invokevirtual 237, 3) := by decide +kernel
theorem dL_law_796 : decode cL_law 796 = .ok (.ifCond .eq 7, 3) := by decide +kernel
theorem dL_law_799 : decode cL_law 799 = .ok (.iconst 1, 1) := by decide +kernel
theorem dL_law_800 : decode cL_law 800 = .ok (.goto 4, 3) := by decide +kernel
theorem dL_law_803 : decode cL_law 803 = .ok (.iconst 0, 1) := by decide +kernel
theorem dL_law_804 : decode cL_law 804 = .ok (.iadd, 1) := by decide +kernel
theorem dL_law_805 : decode cL_law 805 = .ok (.istore 15, 2) := by decide +kernel
theorem dL_law_807 : decode cL_law 807 = .ok (.iinc 16 1, 3) := by decide +kernel
theorem dL_law_810 : decode cL_law 810 = .ok (.goto (-74), 3) := by decide +kernel
theorem dL_law_813 : decode cL_law 813 = .ok (.aload_n 2, 1) := by decide +kernel
theorem dL_law_814 : decode cL_law 814 = .ok (.bipush 7, 2) := by decide +kernel
theorem dL_law_816 : decode cL_law 816 = .ok (.invokevirtual 240, 3) := by decide +kernel
theorem dL_law_819 : decode cL_law 819 = .ok (.aload 10, 2) := by decide +kernel
theorem dL_law_821 : decode cL_law 821 = .ok (.getfield 228, 3) := by decide +kernel
theorem dL_law_824 : decode cL_law 824 = .ok (.if_icmp .ne 84, 3) := by decide +kernel
theorem dL_law_827 : decode cL_law 827 = .ok (.aload_n 2, 1) := by decide +kernel
theorem dL_law_828 : decode cL_law 828 = .ok (.bipush 8, 2) := by decide +kernel
theorem dL_law_830 : decode cL_law 830 = .ok (.invokevirtual 240, 3) := by decide +kernel
theorem dL_law_833 : decode cL_law 833 = .ok (.aload 10, 2) := by decide +kernel
theorem dL_law_835 : decode cL_law 835 = .ok (.getfield 215, 3) := by decide +kernel
theorem dL_law_838 : decode cL_law 838 = .ok (.ifCond .eq 7, 3) := by decide +kernel
theorem dL_law_841 : decode cL_law 841 = .ok (.iconst (-1), 1) := by decide +kernel
theorem dL_law_842 : decode cL_law 842 = .ok (.goto 8, 3) := by decide +kernel
theorem dL_law_845 : decode cL_law 845 = .ok (.aload 10, 2) := by decide +kernel
theorem dL_law_847 : decode cL_law 847 = .ok (.invokevirtual 91, 3) := by decide +kernel
theorem dL_law_850 : decode cL_law 850 = .ok (.if_icmp .ne 58, 3) := by decide +kernel
theorem dL_law_853 : decode cL_law 853 = .ok (.aload_n 2, 1) := by decide +kernel
theorem dL_law_854 : decode cL_law 854 = .ok (.bipush 10, 2) := by decide +kernel
theorem dL_law_856 : decode cL_law 856 = .ok (.invokevirtual 240, 3) := by decide +kernel
theorem dL_law_859 : decode cL_law 859 = .ok (.iload 15, 2) := by decide +kernel
theorem dL_law_861 : decode cL_law 861 = .ok (.if_icmp .ne 47, 3) := by decide +kernel
theorem dL_law_864 : decode cL_law 864 = .ok (.aload_n 2, 1) := by decide +kernel
theorem dL_law_865 : decode cL_law 865 = .ok (.bipush 14, 2) := by decide +kernel
theorem dL_law_867 : decode cL_law 867 = .ok (.invokevirtual 240, 3) := by decide +kernel
theorem dL_law_870 : decode cL_law 870 = .ok (.aload 10, 2) := by decide +kernel
theorem dL_law_872 : decode cL_law 872 = .ok (.getfield 209, 3) := by decide +kernel
theorem dL_law_875 : decode cL_law 875 = .ok (.ifCond .eq 15, 3) := by decide +kernel
theorem dL_law_878 : decode cL_law 878 = .ok (.aload 10, 2) := by decide +kernel
theorem dL_law_880 : decode cL_law 880 = .ok (.getfield 215, 3) := by decide +kernel
theorem dL_law_883 : decode cL_law 883 = .ok (.ifCond .ne 7, 3) := by decide +kernel
theorem dL_law_886 : decode cL_law 886 = .ok (.iconst 1, 1) := by decide +kernel
theorem dL_law_887 : decode cL_law 887 = .ok (.goto 4, 3) := by decide +kernel
theorem dL_law_890 : decode cL_law 890 = .ok (.iconst 0, 1) := by decide +kernel
theorem dL_law_891 : decode cL_law 891 = .ok (.if_icmp .ne 17, 3) := by decide +kernel
theorem dL_law_894 : decode cL_law 894 = .ok (.aload_n 2, 1) := by decide +kernel
theorem dL_law_895 : decode cL_law 895 = .ok (.bipush 15, 2) := by decide +kernel
theorem dL_law_897 : decode cL_law 897 = .ok (.invokevirtual 240, 3) := by decide +kernel
theorem dL_law_900 : decode cL_law 900 = .ok (.aload 10, 2) := by decide +kernel
theorem dL_law_902 : decode cL_law 902 = .ok (.getfield 231, 3) := by decide +kernel
theorem dL_law_905 : decode cL_law 905 = .ok (.if_icmp .eq 5, 3) := by decide +kernel
theorem dL_law_908 : decode cL_law 908 = .ok (.iconst 0, 1) := by decide +kernel
theorem dL_law_909 : decode cL_law 909 = .ok (.ireturn, 1) := by decide +kernel
theorem dL_law_910 : decode cL_law 910 = .ok (.aload 10, 2) := by decide +kernel
theorem dL_law_912 : decode cL_law 912 = .ok (.aload_n 2, 1) := by decide +kernel
theorem dL_law_913 : decode cL_law 913 = .ok (.iconst 0, 1) := by decide +kernel
theorem dL_law_914 : decode cL_law 914 = .ok (.invokevirtual 243, 3) := by decide +kernel
theorem dL_law_917 : decode cL_law 917 = .ok (.istore 16, 2) := by decide +kernel
theorem dL_law_919 : decode cL_law 919 = .ok (.aload 10, 2) := by decide +kernel
theorem dL_law_921 : decode cL_law 921 = .ok (.aload_n 2, 1) := by decide +kernel
theorem dL_law_922 : decode cL_law 922 = .ok (.iconst 1, 1) := by decide +kernel
theorem dL_law_923 : decode cL_law 923 = .ok (.invokevirtual 243, 3) := by decide +kernel
theorem dL_law_926 : decode cL_law 926 = .ok (.istore 17, 2) := by decide +kernel
theorem dL_law_928 : decode cL_law 928 = .ok (.aload_n 2, 1) := by decide +kernel
theorem dL_law_929 : decode cL_law 929 = .ok (.iconst 0, 1) := by decide +kernel
theorem dL_law_930 : decode cL_law 930 = .ok (.iconst 0, 1) := by decide +kernel
theorem dL_law_931 : decode cL_law 931 = .ok (.invokevirtual 247, 3) := by decide +kernel
theorem dL_law_934 : decode cL_law 934 = .ok (.iload 16, 2) := by decide +kernel
theorem dL_law_936 : decode cL_law 936 = .ok (.if_icmp .ne 56, 3) := by decide +kernel
theorem dL_law_939 : decode cL_law 939 = .ok (.aload_n 2, 1) := by decide +kernel
theorem dL_law_940 : decode cL_law 940 = .ok (.iconst 1, 1) := by decide +kernel
theorem dL_law_941 : decode cL_law 941 = .ok (.iconst 0, 1) := by decide +kernel
theorem dL_law_942 : decode cL_law 942 = .ok (.invokevirtual 247, 3) := by decide +kernel
theorem dL_law_945 : decode cL_law 945 = .ok (.iload 17, 2) := by decide +kernel
theorem dL_law_947 : decode cL_law 947 = .ok (.if_icmp .ne 45, 3) := by decide +kernel
theorem dL_law_950 : decode cL_law 950 = .ok (.aload_n 2, 1) := by decide +kernel
theorem dL_law_951 : decode cL_law 951 = .ok (.invokevirtual 250, 3) := by decide +kernel
theorem dL_law_954 : decode cL_law 954 = .ok (.aload 10, 2) := by decide +kernel
theorem dL_law_956 : decode cL_law 956 = .ok (.getfield 215, 3) := by decide +kernel
theorem dL_law_959 : decode cL_law 959 = .ok (.ifCond .ne 7, 3) := by decide +kernel
theorem dL_law_962 : decode cL_law 962 = .ok (.iconst (-1), 1) := by decide +kernel
theorem dL_law_963 : decode cL_law 963 = .ok (.goto 26, 3) := by decide +kernel
theorem dL_law_966 : decode cL_law 966 = .ok (.iload 16, 2) := by decide +kernel
theorem dL_law_968 : decode cL_law 968 = .ok (.iload 17, 2) := by decide +kernel
theorem dL_law_970 : decode cL_law 970 = .ok (.if_icmp .le 7, 3) := by decide +kernel
theorem dL_law_973 : decode cL_law 973 = .ok (.iconst 0, 1) := by decide +kernel
theorem dL_law_974 : decode cL_law 974 = .ok (.goto 15, 3) := by decide +kernel
theorem dL_law_977 : decode cL_law 977 = .ok (.iload 16, 2) := by decide +kernel
theorem dL_law_979 : decode cL_law 979 = .ok (.iload 17, 2) := by decide +kernel
theorem dL_law_981 : decode cL_law 981 = .ok (.if_icmp .ge 7, 3) := by decide +kernel
theorem dL_law_984 : decode cL_law 984 = .ok (.iconst 1, 1) := by decide +kernel
theorem dL_law_985 : decode cL_law 985 = .ok (.goto 4, 3) := by decide +kernel
theorem dL_law_988 : decode cL_law 988 = .ok (.iconst 2, 1) := by decide +kernel
theorem dL_law_989 : decode cL_law 989 = .ok (.if_icmp .eq 5, 3) := by decide +kernel
theorem dL_law_992 : decode cL_law 992 = .ok (.iconst 0, 1) := by decide +kernel
theorem dL_law_993 : decode cL_law 993 = .ok (.ireturn, 1) := by decide +kernel
theorem dL_law_994 : decode cL_law 994 = .ok (.iinc 13 (-1), 3) := by decide +kernel
theorem dL_law_997 : decode cL_law 997 = .ok (.goto (-634), 3) := by decide +kernel
theorem dL_law_1000 : decode cL_law 1000 = .ok (.aload_n 2, 1) := by decide +kernel
theorem dL_law_1001 : decode cL_law 1001 = .ok (.aload 10, 2) := by decide +kernel
theorem dL_law_1003 : decode cL_law 1003 = .ok (.invokestatic 162, 3) := by decide +kernel
theorem dL_law_1006 : decode cL_law 1006 = .ok (.ifCond .eq 12, 3) := by decide +kernel
theorem dL_law_1009 : decode cL_law 1009 = .ok (.aload_n 2, 1) := by decide +kernel
theorem dL_law_1010 : decode cL_law 1010 = .ok (.aload 10, 2) := by decide +kernel
theorem dL_law_1012 : decode cL_law 1012 = .ok (.invokestatic 253, 3) := by decide +kernel
theorem dL_law_1015 : decode cL_law 1015 = .ok (.ifCond .ne 5, 3) := by decide +kernel
theorem dL_law_1018 : decode cL_law 1018 = .ok (.iconst 0, 1) := by decide +kernel
theorem dL_law_1019 : decode cL_law 1019 = .ok (.ireturn, 1) := by decide +kernel
theorem dL_law_1020 : decode cL_law 1020 = .ok (.aload_n 2, 1) := by decide +kernel
theorem dL_law_1021 : decode cL_law 1021 = .ok (.invokevirtual 256, 3) := by decide +kernel
theorem dL_law_1024 : decode cL_law 1024 = .ok (.istore 13, 2) := by decide +kernel
theorem dL_law_1026 : decode cL_law 1026 = .ok (.new 117, 3) := by decide +kernel
theorem dL_law_1029 : decode cL_law 1029 = .ok (.dup, 1) := by decide +kernel
theorem dL_law_1030 : decode cL_law 1030 = .ok (.invokespecial 119, 3) := by decide +kernel
theorem dL_law_1033 : decode cL_law 1033 = .ok (.astore 14, 2) := by decide +kernel
theorem dL_law_1035 : decode cL_law 1035 = .ok (.iconst 0, 1) := by decide +kernel
theorem dL_law_1036 : decode cL_law 1036 = .ok (.istore 15, 2) := by decide +kernel
theorem dL_law_1038 : decode cL_law 1038 = .ok (.iload 15, 2) := by decide +kernel
theorem dL_law_1040 : decode cL_law 1040 = .ok (.iload 13, 2) := by decide +kernel
theorem dL_law_1042 : decode cL_law 1042 = .ok (.if_icmp .ge 22, 3) := by decide +kernel
theorem dL_law_1045 : decode cL_law 1045 = .ok (.aload 14, 2) := by decide +kernel
theorem dL_law_1047 : decode cL_law 1047 = .ok (.aload_n 2, 1) := by decide +kernel
theorem dL_law_1048 : decode cL_law 1048 = .ok (.iload 15, 2) := by decide +kernel
theorem dL_law_1050 : decode cL_law 1050 = .ok (.invokevirtual 259, 3) := by decide +kernel
theorem dL_law_1053 : decode cL_law 1053 = .ok (.i2c, 1) := by decide +kernel
theorem dL_law_1054 : decode cL_law 1054 = .ok (.invokevirtual 152, 3) := by decide +kernel
theorem dL_law_1057 : decode cL_law 1057 = .ok (.pop, 1) := by decide +kernel
theorem dL_law_1058 : decode cL_law 1058 = .ok (.iinc 15 1, 3) := by decide +kernel
theorem dL_law_1061 : decode cL_law 1061 = .ok (.goto (-23), 3) := by decide +kernel
theorem dL_law_1064 : decode cL_law 1064 = .ok (.aload_n 2, 1) := by decide +kernel
theorem dL_law_1065 : decode cL_law 1065 = .ok (.iconst 0, 1) := by decide +kernel
theorem dL_law_1066 : decode cL_law 1066 = .ok (.iconst 0, 1) := by decide +kernel
theorem dL_law_1067 : decode cL_law 1067 = .ok (.invokevirtual 247, 3) := by decide +kernel
theorem dL_law_1070 : decode cL_law 1070 = .ok (.istore 15, 2) := by decide +kernel
theorem dL_law_1072 : decode cL_law 1072 = .ok (.aload_n 2, 1) := by decide +kernel
theorem dL_law_1073 : decode cL_law 1073 = .ok (.bipush 7, 2) := by decide +kernel
theorem dL_law_1075 : decode cL_law 1075 = .ok (.invokevirtual 240, 3) := by decide +kernel
theorem dL_law_1078 : decode cL_law 1078 = .ok (.istore 16, 2) := by decide +kernel
theorem dL_law_1080 : decode cL_law 1080 = .ok (.aload 14, 2) := by decide +kernel
theorem dL_law_1082 : decode cL_law 1082 = .ok (.invokevirtual 143, 3) := by decide +kernel
theorem dL_law_1085 : decode cL_law 1085 = .ok (.astore 17, 2) := by decide +kernel
theorem dL_law_1087 : decode cL_law 1087 = .ok (.aload 17, 2) := by decide +kernel
theorem dL_law_1089 : decode cL_law 1089 = .ok (.invokevirtual 14, 3) := by decide +kernel
theorem dL_law_1092 : decode cL_law 1092 = .ok (.sipush 600, 3) := by decide +kernel
theorem dL_law_1095 : decode cL_law 1095 = .ok (.if_icmp .le 5, 3) := by decide +kernel
theorem dL_law_1098 : decode cL_law 1098 = .ok (.iconst 1, 1) := by decide +kernel
theorem dL_law_1099 : decode cL_law 1099 = .ok (.ireturn, 1) := by decide +kernel
theorem dL_law_1100 : decode cL_law 1100 = .ok (.iconst 0, 1) := by decide +kernel
theorem dL_law_1101 : decode cL_law 1101 = .ok (.istore 18, 2) := by decide +kernel
theorem dL_law_1103 : decode cL_law 1103 = .ok (.iconst 0, 1) := by decide +kernel
theorem dL_law_1104 : decode cL_law 1104 = .ok (.istore 19, 2) := by decide +kernel
theorem dL_law_1106 : decode cL_law 1106 = .ok (.iload 19, 2) := by decide +kernel
theorem dL_law_1108 : decode cL_law 1108 = .ok (.iload 13, 2) := by decide +kernel
theorem dL_law_1110 : decode cL_law 1110 = .ok (.if_icmp .ge 31, 3) := by decide +kernel
theorem dL_law_1113 : decode cL_law 1113 = .ok (.iload 18, 2) := by decide +kernel
theorem dL_law_1115 : decode cL_law 1115 = .ok (.aload 17, 2) := by decide +kernel
theorem dL_law_1117 : decode cL_law 1117 = .ok (.iload 19, 2) := by decide +kernel
theorem dL_law_1119 : decode cL_law 1119 = .ok (.invokevirtual 20, 3) := by decide +kernel
theorem dL_law_1122 : decode cL_law 1122 = .ok (.bipush 59, 2) := by decide +kernel
theorem dL_law_1124 : decode cL_law 1124 = .ok (.if_icmp .ne 7, 3) := by decide +kernel
theorem dL_law_1127 : decode cL_law 1127 = .ok (.iconst 1, 1) := by decide +kernel
theorem dL_law_1128 : decode cL_law 1128 = .ok (.goto 4, 3) := by decide +kernel
theorem dL_law_1131 : decode cL_law 1131 = .ok (.iconst 0, 1) := by decide +kernel
theorem dL_law_1132 : decode cL_law 1132 = .ok (.iadd, 1) := by decide +kernel
theorem dL_law_1133 : decode cL_law 1133 = .ok (.istore 18, 2) := by decide +kernel
theorem dL_law_1135 : decode cL_law 1135 = .ok (.iinc 19 1, 3) := by decide +kernel
theorem dL_law_1138 : decode cL_law 1138 = .ok (.goto (-32), 3) := by decide +kernel
theorem dL_law_1141 : decode cL_law 1141 = .ok (.aload_n 2, 1) := by decide +kernel
theorem dL_law_1142 : decode cL_law 1142 = .ok (.aload 11, 2) := by decide +kernel
theorem dL_law_1144 : decode cL_law 1144 = .ok (.invokevirtual 143, 3) := by decide +kernel
theorem dL_law_1147 : decode cL_law 1147 = .ok (.invokestatic 155, 3) := by decide +kernel
theorem dL_law_1150 : decode cL_law 1150 = .ok (.aload_n 2, 1) := by decide +kernel
theorem dL_law_1151 : decode cL_law 1151 = .ok (.invokevirtual 159, 3) := by decide +kernel
theorem dL_law_1154 : decode cL_law 1154 = .ok (.bipush 6, 2) := by decide +kernel
theorem dL_law_1156 : decode cL_law 1156 = .ok (.iload 12, 2) := by decide +kernel
theorem dL_law_1158 : decode cL_law 1158 = .ok (.iadd, 1) := by decide +kernel
theorem dL_law_1159 : decode cL_law 1159 = .ok (.if_icmp .eq 5, 3) := by decide +kernel
theorem dL_law_1162 : decode cL_law 1162 = .ok (.iconst 0, 1) := by decide +kernel
theorem dL_law_1163 : decode cL_law 1163 = .ok (.ireturn, 1) := by decide +kernel
theorem dL_law_1164 : decode cL_law 1164 = .ok (.aload_n 2, 1) := by decide +kernel
theorem dL_law_1165 : decode cL_law 1165 = .ok (.aload 17, 2) := by decide +kernel
theorem dL_law_1167 : decode cL_law 1167 = .ok (.invokestatic 155, 3) := by decide +kernel
theorem dL_law_1170 : decode cL_law 1170 = .ok (.aload_n 2, 1) := by decide +kernel
theorem dL_law_1171 : decode cL_law 1171 = .ok (.invokevirtual 262, 3) := by decide +kernel
theorem dL_law_1174 : decode cL_law 1174 = .ok (.iload 18, 2) := by decide +kernel
theorem dL_law_1176 : decode cL_law 1176 = .ok (.if_icmp .ne 29, 3) := by decide +kernel
theorem dL_law_1179 : decode cL_law 1179 = .ok (.aload_n 2, 1) := by decide +kernel
theorem dL_law_1180 : decode cL_law 1180 = .ok (.iconst 0, 1) := by decide +kernel
theorem dL_law_1181 : decode cL_law 1181 = .ok (.iconst 0, 1) := by decide +kernel
theorem dL_law_1182 : decode cL_law 1182 = .ok (.invokevirtual 247, 3) := by decide +kernel
theorem dL_law_1185 : decode cL_law 1185 = .ok (.iload 15, 2) := by decide +kernel
theorem dL_law_1187 : decode cL_law 1187 = .ok (.if_icmp .ne 18, 3) := by decide +kernel
theorem dL_law_1190 : decode cL_law 1190 = .ok (.aload_n 2, 1) := by decide +kernel
theorem dL_law_1191 : decode cL_law 1191 = .ok (.bipush 7, 2) := by decide +kernel
theorem dL_law_1193 : decode cL_law 1193 = .ok (.invokevirtual 240, 3) := by decide +kernel
theorem dL_law_1196 : decode cL_law 1196 = .ok (.iload 16, 2) := by decide +kernel
theorem dL_law_1198 : decode cL_law 1198 = .ok (.if_icmp .ne 7, 3) := by decide +kernel
theorem dL_law_1201 : decode cL_law 1201 = .ok (.iconst 1, 1) := by decide +kernel
theorem dL_law_1202 : decode cL_law 1202 = .ok (.goto 4, 3) := by decide +kernel
theorem dL_law_1205 : decode cL_law 1205 = .ok (.iconst 0, 1) := by decide +kernel
theorem dL_law_1206 : decode cL_law 1206 = .ok (.ireturn, 1) := by decide +kernel
