theorem dX4_init_0 : decode cX4_init 0 = .ok (.aload_n 0, 1) := by decide +kernel
theorem dX4_init_1 : decode cX4_init 1 = .ok (.invokespecial 1, 3) := by decide +kernel
theorem dX4_init_4 : decode cX4_init 4 = .ok (.aload_n 0, 1) := by decide +kernel
theorem dX4_init_5 : decode cX4_init 5 = .ok (.new 7, 3) := by decide +kernel
theorem dX4_init_8 : decode cX4_init 8 = .ok (.dup, 1) := by decide +kernel
theorem dX4_init_9 : decode cX4_init 9 = .ok (.invokespecial 9, 3) := by decide +kernel
theorem dX4_init_12 : decode cX4_init 12 = .ok (.putfield 10, 3) := by decide +kernel
theorem dX4_init_15 : decode cX4_init 15 = .ok (.aload_n 0, 1) := by decide +kernel
theorem dX4_init_16 : decode cX4_init 16 = .ok (.new 7, 3) := by decide +kernel
theorem dX4_init_19 : decode cX4_init 19 = .ok (.dup, 1) := by decide +kernel
theorem dX4_init_20 : decode cX4_init 20 = .ok (.invokespecial 9, 3) := by decide +kernel
theorem dX4_init_23 : decode cX4_init 23 = .ok (.putfield 16, 3) := by decide +kernel
theorem dX4_init_26 : decode cX4_init 26 = .ok (.aload_n 0, 1) := by decide +kernel
theorem dX4_init_27 : decode cX4_init 27 = .ok (.iconst 2, 1) := by decide +kernel
theorem dX4_init_28 : decode cX4_init 28 = .ok (.anewarray 7, 3) := by decide +kernel
theorem dX4_init_31 : decode cX4_init 31 = .ok (.putfield 19, 3) := by decide +kernel
theorem dX4_init_34 : decode cX4_init 34 = .ok (.aload_n 0, 1) := by decide +kernel
theorem dX4_init_35 : decode cX4_init 35 = .ok (.new 23, 3) := by decide +kernel
theorem dX4_init_38 : decode cX4_init 38 = .ok (.dup, 1) := by decide +kernel
theorem dX4_init_39 : decode cX4_init 39 = .ok (.invokespecial 25, 3) := by decide +kernel
theorem dX4_init_42 : decode cX4_init 42 = .ok (.putfield 26, 3) := by decide +kernel
theorem dX4_init_45 : decode cX4_init 45 = .ok (.aload_n 0, 1) := by decide +kernel
theorem dX4_init_46 : decode cX4_init 46 = .ok (.new 30, 3) := by decide +kernel
theorem dX4_init_49 : decode cX4_init 49 = .ok (.dup, 1) := by decide +kernel
theorem dX4_init_50 : decode cX4_init 50 = .ok (.invokespecial 32, 3) := by decide +kernel
theorem dX4_init_53 : decode cX4_init 53 = .ok (.putfield 33, 3) := by decide +kernel
theorem dX4_init_56 : decode cX4_init 56 = .ok (.aload_n 0, 1) := by decide +kernel
theorem dX4_init_57 : decode cX4_init 57 = .ok (.new 37, 3) := by decide +kernel
theorem dX4_init_60 : decode cX4_init 60 = .ok (.dup, 1) := by decide +kernel
theorem dX4_init_61 : decode cX4_init 61 = .ok (.invokespecial 39, 3) := by decide +kernel
theorem dX4_init_64 : decode cX4_init 64 = .ok (.putfield 40, 3) := by decide +kernel
theorem dX4_init_67 : decode cX4_init 67 = .ok (.aload_n 0, 1) := by decide +kernel
theorem dX4_init_68 : decode cX4_init 68 = .ok (.bipush 9, 2) := by decide +kernel
theorem dX4_init_70 : decode cX4_init 70 = .ok (.newarray .int, 2) := by decide +kernel
theorem dX4_init_72 : decode cX4_init 72 = .ok (.putfield 44, 3) := by decide +kernel
theorem dX4_init_75 : decode cX4_init 75 = .ok (.aload_n 0, 1) := by decide +kernel
theorem dX4_init_76 : decode cX4_init 76 = .ok (.iconst 5, 1) := by decide +kernel
theorem dX4_init_77 : decode cX4_init 77 = .ok (.newarray .long, 2) := by decide +kernel
theorem dX4_init_79 : decode cX4_init 79 = .ok (.putfield 48, 3) := by decide +kernel
theorem dX4_init_82 : decode cX4_init 82 = .ok (.return_, 1) := by decide +kernel
theorem dX4_appendText_0 : decode cX4_appendText 0 = .ok (.aload_n 0, 1) := by decide +kernel
theorem dX4_appendText_1 : decode cX4_appendText 1 = .ok (.getfield 33, 3) := by decide +kernel
theorem dX4_appendText_4 : decode cX4_appendText 4 = .ok (.iconst 4, 1) := by decide +kernel
theorem dX4_appendText_5 : decode cX4_appendText 5 = .ok (.invokevirtual 52, 3) := by decide +kernel
theorem dX4_appendText_8 : decode cX4_appendText 8 = .ok (.ifCond .ne 11, 3) := by decide +kernel
theorem dX4_appendText_11 : decode cX4_appendText 11 = .ok (.new 56, 3) := by decide +kernel
theorem dX4_appendText_14 : decode cX4_appendText 14 = .ok (.dup, 1) := by decide +kernel
theorem dX4_appendText_15 : decode cX4_appendText 15 = .ok (.invokespecial 58, 3) := by decide +kernel
theorem dX4_appendText_18 : decode cX4_appendText 18 = .ok (.athrow, 1) := by decide +kernel
theorem dX4_appendText_19 : decode cX4_appendText 19 = .ok (.bipush 24, 2) := by decide +kernel
theorem dX4_appendText_21 : decode cX4_appendText 21 = .ok (.istore_n 2, 1) := by decide +kernel
theorem dX4_appendText_22 : decode cX4_appendText 22 = .ok (.iload_n 2, 1) := by decide +kernel
theorem dX4_appendText_23 : decode cX4_appendText 23 = .ok (.ifCond .lt 20, 3) := by decide +kernel
theorem dX4_appendText_26 : decode cX4_appendText 26 = .ok (.aload_n 0, 1) := by decide +kernel
theorem dX4_appendText_27 : decode cX4_appendText 27 = .ok (.getfield 33, 3) := by decide +kernel
theorem dX4_appendText_30 : decode cX4_appendText 30 = .ok (.iload_n 1, 1) := by decide +kernel
theorem dX4_appendText_31 : decode cX4_appendText 31 = .ok (.iload_n 2, 1) := by decide +kernel
theorem dX4_appendText_32 : decode cX4_appendText 32 = .ok (.ishr, 1) := by decide +kernel
theorem dX4_appendText_33 : decode cX4_appendText 33 = .ok (.i2b, 1) := by decide +kernel
theorem dX4_appendText_34 : decode cX4_appendText 34 = .ok (.invokevirtual 59, 3) := by decide +kernel
theorem dX4_appendText_37 : decode cX4_appendText 37 = .ok (.iinc 2 (-8), 3) := by decide +kernel
theorem dX4_appendText_40 : decode cX4_appendText 40 = .ok (.goto (-18), 3) := by decide +kernel
theorem dX4_appendText_43 : decode cX4_appendText 43 = .ok (.aload_n 0, 1) := by decide +kernel
theorem dX4_appendText_44 : decode cX4_appendText 44 = .ok (.getfield 33, 3) := by decide +kernel
theorem dX4_appendText_47 : decode cX4_appendText 47 = .ok (.getfield 63, 3) := by decide +kernel
theorem dX4_appendText_50 : decode cX4_appendText 50 = .ok (.ireturn, 1) := by decide +kernel
theorem dX4_truncateText_0 : decode cX4_truncateText 0 = .ok (.iload_n 1, 1) := by decide +kernel
theorem dX4_truncateText_1 : decode cX4_truncateText 1 = .ok (.ifCond .lt 14, 3) := by decide +kernel
theorem dX4_truncateText_4 : decode cX4_truncateText 4 = .ok (.iload_n 1, 1) := by decide +kernel
theorem dX4_truncateText_5 : decode cX4_truncateText 5 = .ok (.aload_n 0, 1) := by decide +kernel
theorem dX4_truncateText_6 : decode cX4_truncateText 6 = .ok (.getfield 33, 3) := by decide +kernel
theorem dX4_truncateText_9 : decode cX4_truncateText 9 = .ok (.getfield 63, 3) := by decide +kernel
theorem dX4_truncateText_12 : decode cX4_truncateText 12 = .ok (.if_icmp .le 11, 3) := by decide +kernel
theorem dX4_truncateText_15 : decode cX4_truncateText 15 = .ok (.new 67, 3) := by decide +kernel
theorem dX4_truncateText_18 : decode cX4_truncateText 18 = .ok (.dup, 1) := by decide +kernel
theorem dX4_truncateText_19 : decode cX4_truncateText 19 = .ok (.invokespecial 69, 3) := by decide +kernel
theorem dX4_truncateText_22 : decode cX4_truncateText 22 = .ok (.athrow, 1) := by decide +kernel
theorem dX4_truncateText_23 : decode cX4_truncateText 23 = .ok (.aload_n 0, 1) := by decide +kernel
theorem dX4_truncateText_24 : decode cX4_truncateText 24 = .ok (.getfield 33, 3) := by decide +kernel
theorem dX4_truncateText_27 : decode cX4_truncateText 27 = .ok (.iload_n 1, 1) := by decide +kernel
theorem dX4_truncateText_28 : decode cX4_truncateText 28 = .ok (.putfield 63, 3) := by decide +kernel
theorem dX4_truncateText_31 : decode cX4_truncateText 31 = .ok (.iload_n 1, 1) := by decide +kernel
theorem dX4_truncateText_32 : decode cX4_truncateText 32 = .ok (.ireturn, 1) := by decide +kernel
theorem dX4_load_0 : decode cX4_load 0 = .ok (.aload_n 0, 1) := by decide +kernel
theorem dX4_load_1 : decode cX4_load 1 = .ok (.getfield 16, 3) := by decide +kernel
theorem dX4_load_4 : decode cX4_load 4 = .ok (.invokevirtual 70, 3) := by decide +kernel
theorem dX4_load_7 : decode cX4_load 7 = .ok (.aload_n 0, 1) := by decide +kernel
theorem dX4_load_8 : decode cX4_load 8 = .ok (.getfield 33, 3) := by decide +kernel
theorem dX4_load_11 : decode cX4_load 11 = .ok (.aload_n 0, 1) := by decide +kernel
theorem dX4_load_12 : decode cX4_load 12 = .ok (.getfield 16, 3) := by decide +kernel
theorem dX4_load_15 : decode cX4_load 15 = .ok (.invokevirtual 73, 3) := by decide +kernel
theorem dX4_load_18 : decode cX4_load 18 = .ok (.istore_n 1, 1) := by decide +kernel
theorem dX4_load_19 : decode cX4_load 19 = .ok (.aload_n 0, 1) := by decide +kernel
theorem dX4_load_20 : decode cX4_load 20 = .ok (.getfield 33, 3) := by decide +kernel
theorem dX4_load_23 : decode cX4_load 23 = .ok (.iconst 0, 1) := by decide +kernel
theorem dX4_load_24 : decode cX4_load 24 = .ok (.putfield 63, 3) := by decide +kernel
theorem dX4_load_27 : decode cX4_load 27 = .ok (.iload_n 1, 1) := by decide +kernel
theorem dX4_load_28 : decode cX4_load 28 = .ok (.ifCond .ne 5, 3) := by decide +kernel
theorem dX4_load_31 : decode cX4_load 31 = .ok (.iconst (-1), 1) := by decide +kernel
theorem dX4_load_32 : decode cX4_load 32 = .ok (.ireturn, 1) := by decide +kernel
theorem dX4_load_33 : decode cX4_load 33 = .ok (.aload_n 0, 1) := by decide +kernel
theorem dX4_load_34 : decode cX4_load 34 = .ok (.getfield 10, 3) := by decide +kernel
theorem dX4_load_37 : decode cX4_load 37 = .ok (.aload_n 0, 1) := by decide +kernel
theorem dX4_load_38 : decode cX4_load 38 = .ok (.getfield 16, 3) := by decide +kernel
theorem dX4_load_41 : decode cX4_load 41 = .ok (.invokevirtual 77, 3) := by decide +kernel
theorem dX4_load_44 : decode cX4_load 44 = .ok (.aload_n 0, 1) := by decide +kernel
theorem dX4_load_45 : decode cX4_load 45 = .ok (.iconst 0, 1) := by decide +kernel
theorem dX4_load_46 : decode cX4_load 46 = .ok (.putfield 81, 3) := by decide +kernel
theorem dX4_load_49 : decode cX4_load 49 = .ok (.aload_n 0, 1) := by decide +kernel
theorem dX4_load_50 : decode cX4_load 50 = .ok (.getfield 33, 3) := by decide +kernel
theorem dX4_load_53 : decode cX4_load 53 = .ok (.getfield 84, 3) := by decide +kernel
theorem dX4_load_56 : decode cX4_load 56 = .ok (.ireturn, 1) := by decide +kernel
theorem dX4_play_0 : decode cX4_play 0 = .ok (.aload_n 0, 1) := by decide +kernel
theorem dX4_play_1 : decode cX4_play 1 = .ok (.getfield 33, 3) := by decide +kernel
theorem dX4_play_4 : decode cX4_play 4 = .ok (.aload_n 0, 1) := by decide +kernel
theorem dX4_play_5 : decode cX4_play 5 = .ok (.getfield 10, 3) := by decide +kernel
theorem dX4_play_8 : decode cX4_play 8 = .ok (.getfield 87, 3) := by decide +kernel
theorem dX4_play_11 : decode cX4_play 11 = .ok (.iconst 0, 1) := by decide +kernel
theorem dX4_play_12 : decode cX4_play 12 = .ok (.iaload, 1) := by decide +kernel
theorem dX4_play_13 : decode cX4_play 13 = .ok (.invokevirtual 90, 3) := by decide +kernel
theorem dX4_play_16 : decode cX4_play 16 = .ok (.istore_n 1, 1) := by decide +kernel
theorem dX4_play_17 : decode cX4_play 17 = .ok (.aload_n 0, 1) := by decide +kernel
theorem dX4_play_18 : decode cX4_play 18 = .ok (.getfield 33, 3) := by decide +kernel
theorem dX4_play_21 : decode cX4_play 21 = .ok (.iconst 0, 1) := by decide +kernel
theorem dX4_play_22 : decode cX4_play 22 = .ok (.putfield 63, 3) := by decide +kernel
theorem dX4_play_25 : decode cX4_play 25 = .ok (.iload_n 1, 1) := by decide +kernel
theorem dX4_play_26 : decode cX4_play 26 = .ok (.ifCond .ne 5, 3) := by decide +kernel
theorem dX4_play_29 : decode cX4_play 29 = .ok (.iconst (-1), 1) := by decide +kernel
theorem dX4_play_30 : decode cX4_play 30 = .ok (.ireturn, 1) := by decide +kernel
theorem dX4_play_31 : decode cX4_play 31 = .ok (.iconst 0, 1) := by decide +kernel
theorem dX4_play_32 : decode cX4_play 32 = .ok (.istore_n 2, 1) := by decide +kernel
theorem dX4_play_33 : decode cX4_play 33 = .ok (.iload_n 2, 1) := by decide +kernel
theorem dX4_play_34 : decode cX4_play 34 = .ok (.aload_n 0, 1) := by decide +kernel
theorem dX4_play_35 : decode cX4_play 35 = .ok (.getfield 33, 3) := by decide +kernel
theorem dX4_play_38 : decode cX4_play 38 = .ok (.getfield 84, 3) := by decide +kernel
theorem dX4_play_41 : decode cX4_play 41 = .ok (.if_icmp .ge 129, 3) := by decide +kernel
theorem dX4_play_44 : decode cX4_play 44 = .ok (.aload_n 0, 1) := by decide +kernel
theorem dX4_play_45 : decode cX4_play 45 = .ok (.getfield 33, 3) := by decide +kernel
theorem dX4_play_48 : decode cX4_play 48 = .ok (.iload_n 2, 1) := by decide +kernel
theorem dX4_play_49 : decode cX4_play 49 = .ok (.iconst 1, 1) := by decide +kernel
theorem dX4_play_50 : decode cX4_play 50 = .ok (.invokevirtual 93, 3) := by decide +kernel
theorem dX4_play_53 : decode cX4_play 53 = .ok (.istore_n 3, 1) := by decide +kernel
theorem dX4_play_54 : decode cX4_play 54 = .ok (.aload_n 0, 1) := by decide +kernel
theorem dX4_play_55 : decode cX4_play 55 = .ok (.getfield 33, 3) := by decide +kernel
theorem dX4_play_58 : decode cX4_play 58 = .ok (.iload_n 2, 1) := by decide +kernel
theorem dX4_play_59 : decode cX4_play 59 = .ok (.iconst 2, 1) := by decide +kernel
theorem dX4_play_60 : decode cX4_play 60 = .ok (.invokevirtual 93, 3) := by decide +kernel
theorem dX4_play_63 : decode cX4_play 63 = .ok (.istore 4, 2) := by decide +kernel
theorem dX4_play_65 : decode cX4_play 65 = .ok (.aload_n 0, 1) := by decide +kernel
theorem dX4_play_66 : decode cX4_play 66 = .ok (.getfield 33, 3) := by decide +kernel
theorem dX4_play_69 : decode cX4_play 69 = .ok (.iload_n 2, 1) := by decide +kernel
theorem dX4_play_70 : decode cX4_play 70 = .ok (.iconst 0, 1) := by decide +kernel
theorem dX4_play_71 : decode cX4_play 71 = .ok (.invokevirtual 93, 3) := by decide +kernel
theorem dX4_play_74 : decode cX4_play 74 = .ok (.lookupswitch 77 #[(0, 26), (1, 38)], 26) := by decide +kernel
theorem dX4_play_100 : decode cX4_play 100 = .ok (.aload_n 0, 1) := by decide +kernel
theorem dX4_play_101 : decode cX4_play 101 = .ok (.iload_n 3, 1) := by decide +kernel
theorem dX4_play_102 : decode cX4_play 102 = .ok (.iload 4, 2) := by decide +kernel
theorem dX4_play_104 : decode cX4_play 104 = .ok (.invokevirtual 97, 3) := by decide +kernel
theorem dX4_play_107 : decode cX4_play 107 = .ok (.istore 5, 2) := by decide +kernel
theorem dX4_play_109 : decode cX4_play 109 = .ok (.goto 48, 3) := by decide +kernel
theorem dX4_play_112 : decode cX4_play 112 = .ok (.aload_n 0, 1) := by decide +kernel
theorem dX4_play_113 : decode cX4_play 113 = .ok (.iload_n 3, 1) := by decide +kernel
theorem dX4_play_114 : decode cX4_play 114 = .ok (.iload 4, 2) := by decide +kernel
theorem dX4_play_116 : decode cX4_play 116 = .ok (.aload_n 0, 1) := by decide +kernel
theorem dX4_play_117 : decode cX4_play 117 = .ok (.getfield 33, 3) := by decide +kernel
theorem dX4_play_120 : decode cX4_play 120 = .ok (.iload_n 2, 1) := by decide +kernel
theorem dX4_play_121 : decode cX4_play 121 = .ok (.iconst 3, 1) := by decide +kernel
theorem dX4_play_122 : decode cX4_play 122 = .ok (.invokevirtual 93, 3) := by decide +kernel
theorem dX4_play_125 : decode cX4_play 125 = .ok (.aload_n 0, 1) := by decide +kernel
theorem dX4_play_126 : decode cX4_play 126 = .ok (.getfield 33, 3) := by decide +kernel
theorem dX4_play_129 : decode cX4_play 129 = .ok (.iload_n 2, 1) := by decide +kernel
theorem dX4_play_130 : decode cX4_play 130 = .ok (.iconst 4, 1) := by decide +kernel
theorem dX4_play_131 : decode cX4_play 131 = .ok (.invokevirtual 93, 3) := by decide +kernel
theorem dX4_play_134 : decode cX4_play 134 = .ok (.aload_n 0, 1) := by decide +kernel
theorem dX4_play_135 : decode cX4_play 135 = .ok (.getfield 33, 3) := by decide +kernel
theorem dX4_play_138 : decode cX4_play 138 = .ok (.iload_n 2, 1) := by decide +kernel
theorem dX4_play_139 : decode cX4_play 139 = .ok (.iconst 5, 1) := by decide +kernel
theorem dX4_play_140 : decode cX4_play 140 = .ok (.invokevirtual 93, 3) := by decide +kernel
theorem dX4_play_143 : decode cX4_play 143 = .ok (.invokevirtual 100, 3) := by decide +kernel
theorem dX4_play_146 : decode cX4_play 146 = .ok (.istore 5, 2) := by decide +kernel
theorem dX4_play_148 : decode cX4_play 148 = .ok (.goto 9, 3) := by decide +kernel
theorem dX4_play_151 : decode cX4_play 151 = .ok (.aload_n 0, 1) := by decide +kernel
theorem dX4_play_152 : decode cX4_play 152 = .ok (.invokevirtual 104, 3) := by decide +kernel
theorem dX4_play_155 : decode cX4_play 155 = .ok (.istore 5, 2) := by decide +kernel
theorem dX4_play_157 : decode cX4_play 157 = .ok (.iload 5, 2) := by decide +kernel
theorem dX4_play_159 : decode cX4_play 159 = .ok (.ifCond .eq 5, 3) := by decide +kernel
theorem dX4_play_162 : decode cX4_play 162 = .ok (.iload_n 2, 1) := by decide +kernel
theorem dX4_play_163 : decode cX4_play 163 = .ok (.ireturn, 1) := by decide +kernel
theorem dX4_play_164 : decode cX4_play 164 = .ok (.iinc 2 1, 3) := by decide +kernel
theorem dX4_play_167 : decode cX4_play 167 = .ok (.goto (-134), 3) := by decide +kernel
theorem dX4_play_170 : decode cX4_play 170 = .ok (.aload_n 0, 1) := by decide +kernel
theorem dX4_play_171 : decode cX4_play 171 = .ok (.getfield 33, 3) := by decide +kernel
theorem dX4_play_174 : decode cX4_play 174 = .ok (.getfield 84, 3) := by decide +kernel
theorem dX4_play_177 : decode cX4_play 177 = .ok (.ireturn, 1) := by decide +kernel
theorem dX4_errorCode_0 : decode cX4_errorCode 0 = .ok (.aload_n 0, 1) := by decide +kernel
theorem dX4_errorCode_1 : decode cX4_errorCode 1 = .ok (.getfield 33, 3) := by decide +kernel
theorem dX4_errorCode_4 : decode cX4_errorCode 4 = .ok (.getfield 108, 3) := by decide +kernel
theorem dX4_errorCode_7 : decode cX4_errorCode 7 = .ok (.ireturn, 1) := by decide +kernel
theorem dX4_errorPosition_0 : decode cX4_errorPosition 0 = .ok (.aload_n 0, 1) := by decide +kernel
theorem dX4_errorPosition_1 : decode cX4_errorPosition 1 = .ok (.getfield 33, 3) := by decide +kernel
theorem dX4_errorPosition_4 : decode cX4_errorPosition 4 = .ok (.getfield 111, 3) := by decide +kernel
theorem dX4_errorPosition_7 : decode cX4_errorPosition 7 = .ok (.ireturn, 1) := by decide +kernel
theorem dX4_count_0 : decode cX4_count 0 = .ok (.iload_n 1, 1) := by decide +kernel
theorem dX4_count_1 : decode cX4_count 1 = .ok (.ifCond .lt 9, 3) := by decide +kernel
theorem dX4_count_4 : decode cX4_count 4 = .ok (.iload_n 1, 1) := by decide +kernel
theorem dX4_count_5 : decode cX4_count 5 = .ok (.bipush 15, 2) := by decide +kernel
theorem dX4_count_7 : decode cX4_count 7 = .ok (.if_icmp .le 11, 3) := by decide +kernel
theorem dX4_count_10 : decode cX4_count 10 = .ok (.new 67, 3) := by decide +kernel
theorem dX4_count_13 : decode cX4_count 13 = .ok (.dup, 1) := by decide +kernel
theorem dX4_count_14 : decode cX4_count 14 = .ok (.invokespecial 69, 3) := by decide +kernel
theorem dX4_count_17 : decode cX4_count 17 = .ok (.athrow, 1) := by decide +kernel
theorem dX4_count_18 : decode cX4_count 18 = .ok (.iload_n 1, 1) := by decide +kernel
theorem dX4_count_19 : decode cX4_count 19 = .ok (.bipush 7, 2) := by decide +kernel
theorem dX4_count_21 : decode cX4_count 21 = .ok (.if_icmp .ge 13, 3) := by decide +kernel
theorem dX4_count_24 : decode cX4_count 24 = .ok (.aload_n 0, 1) := by decide +kernel
theorem dX4_count_25 : decode cX4_count 25 = .ok (.getfield 10, 3) := by decide +kernel
theorem dX4_count_28 : decode cX4_count 28 = .ok (.getfield 87, 3) := by decide +kernel
theorem dX4_count_31 : decode cX4_count 31 = .ok (.iload_n 1, 1) := by decide +kernel
theorem dX4_count_32 : decode cX4_count 32 = .ok (.iaload, 1) := by decide +kernel
theorem dX4_count_33 : decode cX4_count 33 = .ok (.ireturn, 1) := by decide +kernel
theorem dX4_count_34 : decode cX4_count 34 = .ok (.iload_n 1, 1) := by decide +kernel
theorem dX4_count_35 : decode cX4_count 35 = .ok (.tableswitch 144 7 14 #[45, 53, 75, 91, 99, 107, 123, 128], 45) := by decide +kernel
theorem dX4_count_80 : decode cX4_count 80 = .ok (.aload_n 0, 1) := by decide +kernel
theorem dX4_count_81 : decode cX4_count 81 = .ok (.getfield 10, 3) := by decide +kernel
theorem dX4_count_84 : decode cX4_count 84 = .ok (.getfield 114, 3) := by decide +kernel
theorem dX4_count_87 : decode cX4_count 87 = .ok (.ireturn, 1) := by decide +kernel
theorem dX4_count_88 : decode cX4_count 88 = .ok (.aload_n 0, 1) := by decide +kernel
theorem dX4_count_89 : decode cX4_count 89 = .ok (.getfield 10, 3) := by decide +kernel
theorem dX4_count_92 : decode cX4_count 92 = .ok (.getfield 117, 3) := by decide +kernel
theorem dX4_count_95 : decode cX4_count 95 = .ok (.ifCond .eq 7, 3) := by decide +kernel
theorem dX4_count_98 : decode cX4_count 98 = .ok (.iconst (-1), 1) := by decide +kernel
theorem dX4_count_99 : decode cX4_count 99 = .ok (.goto 10, 3) := by decide +kernel
theorem dX4_count_102 : decode cX4_count 102 = .ok (.aload_n 0, 1) := by decide +kernel
theorem dX4_count_103 : decode cX4_count 103 = .ok (.getfield 10, 3) := by decide +kernel
theorem dX4_count_106 : decode cX4_count 106 = .ok (.invokevirtual 121, 3) := by decide +kernel
theorem dX4_count_109 : decode cX4_count 109 = .ok (.ireturn, 1) := by decide +kernel
theorem dX4_count_110 : decode cX4_count 110 = .ok (.aload_n 0, 1) := by decide +kernel
theorem dX4_count_111 : decode cX4_count 111 = .ok (.getfield 10, 3) := by decide +kernel
theorem dX4_count_114 : decode cX4_count 114 = .ok (.getfield 117, 3) := by decide +kernel
theorem dX4_count_117 : decode cX4_count 117 = .ok (.ifCond .eq 7, 3) := by decide +kernel
theorem dX4_count_120 : decode cX4_count 120 = .ok (.iconst 1, 1) := by decide +kernel
theorem dX4_count_121 : decode cX4_count 121 = .ok (.goto 4, 3) := by decide +kernel
theorem dX4_count_124 : decode cX4_count 124 = .ok (.iconst 0, 1) := by decide +kernel
theorem dX4_count_125 : decode cX4_count 125 = .ok (.ireturn, 1) := by decide +kernel
theorem dX4_count_126 : decode cX4_count 126 = .ok (.aload_n 0, 1) := by decide +kernel
theorem dX4_count_127 : decode cX4_count 127 = .ok (.getfield 10, 3) := by decide +kernel
theorem dX4_count_130 : decode cX4_count 130 = .ok (.invokevirtual 124, 3) := by decide +kernel
theorem dX4_count_133 : decode cX4_count 133 = .ok (.ireturn, 1) := by decide +kernel
theorem dX4_count_134 : decode cX4_count 134 = .ok (.aload_n 0, 1) := by decide +kernel
theorem dX4_count_135 : decode cX4_count 135 = .ok (.getfield 10, 3) := by decide +kernel
theorem dX4_count_138 : decode cX4_count 138 = .ok (.invokevirtual 127, 3) := by decide +kernel
theorem dX4_count_141 : decode cX4_count 141 = .ok (.ireturn, 1) := by decide +kernel
theorem dX4_count_142 : decode cX4_count 142 = .ok (.aload_n 0, 1) := by decide +kernel
theorem dX4_count_143 : decode cX4_count 143 = .ok (.getfield 10, 3) := by decide +kernel
theorem dX4_count_146 : decode cX4_count 146 = .ok (.getfield 114, 3) := by decide +kernel
theorem dX4_count_149 : decode cX4_count 149 = .ok (.aload_n 0, 1) := by decide +kernel
theorem dX4_count_150 : decode cX4_count 150 = .ok (.getfield 10, 3) := by decide +kernel
theorem dX4_count_153 : decode cX4_count 153 = .ok (.invokevirtual 127, 3) := by decide +kernel
theorem dX4_count_156 : decode cX4_count 156 = .ok (.isub, 1) := by decide +kernel
theorem dX4_count_157 : decode cX4_count 157 = .ok (.ireturn, 1) := by decide +kernel
theorem dX4_count_158 : decode cX4_count 158 = .ok (.aload_n 0, 1) := by decide +kernel
theorem dX4_count_159 : decode cX4_count 159 = .ok (.getfield 81, 3) := by decide +kernel
theorem dX4_count_162 : decode cX4_count 162 = .ok (.ireturn, 1) := by decide +kernel
theorem dX4_count_163 : decode cX4_count 163 = .ok (.aload_n 0, 1) := by decide +kernel
theorem dX4_count_164 : decode cX4_count 164 = .ok (.getfield 10, 3) := by decide +kernel
theorem dX4_count_167 : decode cX4_count 167 = .ok (.invokevirtual 130, 3) := by decide +kernel
theorem dX4_count_170 : decode cX4_count 170 = .ok (.ifCond .eq 7, 3) := by decide +kernel
theorem dX4_count_173 : decode cX4_count 173 = .ok (.iconst 1, 1) := by decide +kernel
theorem dX4_count_174 : decode cX4_count 174 = .ok (.goto 4, 3) := by decide +kernel
theorem dX4_count_177 : decode cX4_count 177 = .ok (.iconst 0, 1) := by decide +kernel
theorem dX4_count_178 : decode cX4_count 178 = .ok (.ireturn, 1) := by decide +kernel
theorem dX4_count_179 : decode cX4_count 179 = .ok (.aload_n 0, 1) := by decide +kernel
theorem dX4_count_180 : decode cX4_count 180 = .ok (.getfield 10, 3) := by decide +kernel
theorem dX4_count_183 : decode cX4_count 183 = .ok (.getfield 134, 3) := by decide +kernel
theorem dX4_count_186 : decode cX4_count 186 = .ok (.ireturn, 1) := by decide +kernel
theorem dX4_power_0 : decode cX4_power 0 = .ok (.aload_n 0, 1) := by decide +kernel
theorem dX4_power_1 : decode cX4_power 1 = .ok (.getfield 10, 3) := by decide +kernel
theorem dX4_power_4 : decode cX4_power 4 = .ok (.iload_n 1, 1) := by decide +kernel
theorem dX4_power_5 : decode cX4_power 5 = .ok (.invokevirtual 137, 3) := by decide +kernel
theorem dX4_power_8 : decode cX4_power 8 = .ok (.ifCond .ne 11, 3) := by decide +kernel
theorem dX4_power_11 : decode cX4_power 11 = .ok (.new 140, 3) := by decide +kernel
theorem dX4_power_14 : decode cX4_power 14 = .ok (.dup, 1) := by decide +kernel
theorem dX4_power_15 : decode cX4_power 15 = .ok (.invokespecial 142, 3) := by decide +kernel
theorem dX4_power_18 : decode cX4_power 18 = .ok (.athrow, 1) := by decide +kernel
theorem dX4_power_19 : decode cX4_power 19 = .ok (.iload_n 2, 1) := by decide +kernel
theorem dX4_power_20 : decode cX4_power 20 = .ok (.ifCond .lt 8, 3) := by decide +kernel
theorem dX4_power_23 : decode cX4_power 23 = .ok (.iload_n 2, 1) := by decide +kernel
theorem dX4_power_24 : decode cX4_power 24 = .ok (.iconst 4, 1) := by decide +kernel
theorem dX4_power_25 : decode cX4_power 25 = .ok (.if_icmp .le 11, 3) := by decide +kernel
theorem dX4_power_28 : decode cX4_power 28 = .ok (.new 67, 3) := by decide +kernel
theorem dX4_power_31 : decode cX4_power 31 = .ok (.dup, 1) := by decide +kernel
theorem dX4_power_32 : decode cX4_power 32 = .ok (.invokespecial 69, 3) := by decide +kernel
theorem dX4_power_35 : decode cX4_power 35 = .ok (.athrow, 1) := by decide +kernel
theorem dX4_power_36 : decode cX4_power 36 = .ok (.aload_n 0, 1) := by decide +kernel
theorem dX4_power_37 : decode cX4_power 37 = .ok (.getfield 10, 3) := by decide +kernel
theorem dX4_power_40 : decode cX4_power 40 = .ok (.iload_n 1, 1) := by decide +kernel
theorem dX4_power_41 : decode cX4_power 41 = .ok (.invokevirtual 143, 3) := by decide +kernel
theorem dX4_power_44 : decode cX4_power 44 = .ok (.istore_n 3, 1) := by decide +kernel
theorem dX4_power_45 : decode cX4_power 45 = .ok (.iload_n 2, 1) := by decide +kernel
theorem dX4_power_46 : decode cX4_power 46 = .ok (.tableswitch 68 0 3 #[30, 40, 57, 66], 30) := by decide +kernel
theorem dX4_power_76 : decode cX4_power 76 = .ok (.aload_n 0, 1) := by decide +kernel
theorem dX4_power_77 : decode cX4_power 77 = .ok (.getfield 10, 3) := by decide +kernel
theorem dX4_power_80 : decode cX4_power 80 = .ok (.getfield 147, 3) := by decide +kernel
theorem dX4_power_83 : decode cX4_power 83 = .ok (.iload_n 1, 1) := by decide +kernel
theorem dX4_power_84 : decode cX4_power 84 = .ok (.iaload, 1) := by decide +kernel
theorem dX4_power_85 : decode cX4_power 85 = .ok (.ireturn, 1) := by decide +kernel
theorem dX4_power_86 : decode cX4_power 86 = .ok (.aload_n 0, 1) := by decide +kernel
theorem dX4_power_87 : decode cX4_power 87 = .ok (.getfield 10, 3) := by decide +kernel
theorem dX4_power_90 : decode cX4_power 90 = .ok (.iload_n 1, 1) := by decide +kernel
theorem dX4_power_91 : decode cX4_power 91 = .ok (.invokevirtual 150, 3) := by decide +kernel
theorem dX4_power_94 : decode cX4_power 94 = .ok (.ifCond .eq 7, 3) := by decide +kernel
theorem dX4_power_97 : decode cX4_power 97 = .ok (.iconst 1, 1) := by decide +kernel
theorem dX4_power_98 : decode cX4_power 98 = .ok (.goto 4, 3) := by decide +kernel
theorem dX4_power_101 : decode cX4_power 101 = .ok (.iconst 0, 1) := by decide +kernel
theorem dX4_power_102 : decode cX4_power 102 = .ok (.ireturn, 1) := by decide +kernel
theorem dX4_power_103 : decode cX4_power 103 = .ok (.aload_n 0, 1) := by decide +kernel
theorem dX4_power_104 : decode cX4_power 104 = .ok (.getfield 10, 3) := by decide +kernel
theorem dX4_power_107 : decode cX4_power 107 = .ok (.iload_n 1, 1) := by decide +kernel
theorem dX4_power_108 : decode cX4_power 108 = .ok (.invokevirtual 153, 3) := by decide +kernel
theorem dX4_power_111 : decode cX4_power 111 = .ok (.ireturn, 1) := by decide +kernel
theorem dX4_power_112 : decode cX4_power 112 = .ok (.iload_n 3, 1) := by decide +kernel
theorem dX4_power_113 : decode cX4_power 113 = .ok (.ireturn, 1) := by decide +kernel
theorem dX4_power_114 : decode cX4_power 114 = .ok (.iload_n 3, 1) := by decide +kernel
theorem dX4_power_115 : decode cX4_power 115 = .ok (.iconst (-1), 1) := by decide +kernel
theorem dX4_power_116 : decode cX4_power 116 = .ok (.if_icmp .ne 7, 3) := by decide +kernel
theorem dX4_power_119 : decode cX4_power 119 = .ok (.iconst (-1), 1) := by decide +kernel
theorem dX4_power_120 : decode cX4_power 120 = .ok (.goto 6, 3) := by decide +kernel
theorem dX4_power_123 : decode cX4_power 123 = .ok (.iload_n 3, 1) := by decide +kernel
theorem dX4_power_124 : decode cX4_power 124 = .ok (.iconst 2, 1) := by decide +kernel
theorem dX4_power_125 : decode cX4_power 125 = .ok (.irem, 1) := by decide +kernel
theorem dX4_power_126 : decode cX4_power 126 = .ok (.ireturn, 1) := by decide +kernel
theorem dX4_claimOf_0 : decode cX4_claimOf 0 = .ok (.iload_n 1, 1) := by decide +kernel
theorem dX4_claimOf_1 : decode cX4_claimOf 1 = .ok (.invokestatic 156, 3) := by decide +kernel
theorem dX4_claimOf_4 : decode cX4_claimOf 4 = .ok (.ifCond .eq 7, 3) := by decide +kernel
theorem dX4_claimOf_7 : decode cX4_claimOf 7 = .ok (.iload_n 2, 1) := by decide +kernel
theorem dX4_claimOf_8 : decode cX4_claimOf 8 = .ok (.ifCond .ge 11, 3) := by decide +kernel
theorem dX4_claimOf_11 : decode cX4_claimOf 11 = .ok (.new 140, 3) := by decide +kernel
theorem dX4_claimOf_14 : decode cX4_claimOf 14 = .ok (.dup, 1) := by decide +kernel
theorem dX4_claimOf_15 : decode cX4_claimOf 15 = .ok (.invokespecial 142, 3) := by decide +kernel
theorem dX4_claimOf_18 : decode cX4_claimOf 18 = .ok (.athrow, 1) := by decide +kernel
theorem dX4_claimOf_19 : decode cX4_claimOf 19 = .ok (.iload_n 3, 1) := by decide +kernel
theorem dX4_claimOf_20 : decode cX4_claimOf 20 = .ok (.ifCond .lt 9, 3) := by decide +kernel
theorem dX4_claimOf_23 : decode cX4_claimOf 23 = .ok (.iload_n 3, 1) := by decide +kernel
theorem dX4_claimOf_24 : decode cX4_claimOf 24 = .ok (.bipush 6, 2) := by decide +kernel
theorem dX4_claimOf_26 : decode cX4_claimOf 26 = .ok (.if_icmp .le 11, 3) := by decide +kernel
theorem dX4_claimOf_29 : decode cX4_claimOf 29 = .ok (.new 67, 3) := by decide +kernel
theorem dX4_claimOf_32 : decode cX4_claimOf 32 = .ok (.dup, 1) := by decide +kernel
theorem dX4_claimOf_33 : decode cX4_claimOf 33 = .ok (.invokespecial 69, 3) := by decide +kernel
theorem dX4_claimOf_36 : decode cX4_claimOf 36 = .ok (.athrow, 1) := by decide +kernel
theorem dX4_claimOf_37 : decode cX4_claimOf 37 = .ok (.iload_n 2, 1) := by decide +kernel
theorem dX4_claimOf_38 : decode cX4_claimOf 38 = .ok (.aload_n 0, 1) := by decide +kernel
theorem dX4_claimOf_39 : decode cX4_claimOf 39 = .ok (.getfield 10, 3) := by decide +kernel
theorem dX4_claimOf_42 : decode cX4_claimOf 42 = .ok (.iload_n 1, 1) := by decide +kernel
theorem dX4_claimOf_43 : decode cX4_claimOf 43 = .ok (.invokevirtual 159, 3) := by decide +kernel
theorem dX4_claimOf_46 : decode cX4_claimOf 46 = .ok (.if_icmp .lt 5, 3) := by decide +kernel
theorem dX4_claimOf_49 : decode cX4_claimOf 49 = .ok (.iconst (-1), 1) := by decide +kernel
theorem dX4_claimOf_50 : decode cX4_claimOf 50 = .ok (.ireturn, 1) := by decide +kernel
theorem dX4_claimOf_51 : decode cX4_claimOf 51 = .ok (.iload_n 3, 1) := by decide +kernel
theorem dX4_claimOf_52 : decode cX4_claimOf 52 = .ok (.iconst 5, 1) := by decide +kernel
theorem dX4_claimOf_53 : decode cX4_claimOf 53 = .ok (.if_icmp .ne 36, 3) := by decide +kernel
theorem dX4_claimOf_56 : decode cX4_claimOf 56 = .ok (.aload_n 0, 1) := by decide +kernel
theorem dX4_claimOf_57 : decode cX4_claimOf 57 = .ok (.aload_n 0, 1) := by decide +kernel
theorem dX4_claimOf_58 : decode cX4_claimOf 58 = .ok (.getfield 10, 3) := by decide +kernel
theorem dX4_claimOf_61 : decode cX4_claimOf 61 = .ok (.getfield 147, 3) := by decide +kernel
theorem dX4_claimOf_64 : decode cX4_claimOf 64 = .ok (.invokevirtual 162, 3) := by decide +kernel
theorem dX4_claimOf_67 : decode cX4_claimOf 67 = .ok (.aload_n 0, 1) := by decide +kernel
theorem dX4_claimOf_68 : decode cX4_claimOf 68 = .ok (.getfield 10, 3) := by decide +kernel
theorem dX4_claimOf_71 : decode cX4_claimOf 71 = .ok (.iload_n 1, 1) := by decide +kernel
theorem dX4_claimOf_72 : decode cX4_claimOf 72 = .ok (.iload_n 2, 1) := by decide +kernel
theorem dX4_claimOf_73 : decode cX4_claimOf 73 = .ok (.aload_n 0, 1) := by decide +kernel
theorem dX4_claimOf_74 : decode cX4_claimOf 74 = .ok (.getfield 26, 3) := by decide +kernel
theorem dX4_claimOf_77 : decode cX4_claimOf 77 = .ok (.invokevirtual 166, 3) := by decide +kernel
theorem dX4_claimOf_80 : decode cX4_claimOf 80 = .ok (.ifCond .eq 7, 3) := by decide +kernel
theorem dX4_claimOf_83 : decode cX4_claimOf 83 = .ok (.iconst 1, 1) := by decide +kernel
theorem dX4_claimOf_84 : decode cX4_claimOf 84 = .ok (.goto 4, 3) := by decide +kernel
theorem dX4_claimOf_87 : decode cX4_claimOf 87 = .ok (.iconst 0, 1) := by decide +kernel
theorem dX4_claimOf_88 : decode cX4_claimOf 88 = .ok (.ireturn, 1) := by decide +kernel
theorem dX4_claimOf_89 : decode cX4_claimOf 89 = .ok (.aload_n 0, 1) := by decide +kernel
theorem dX4_claimOf_90 : decode cX4_claimOf 90 = .ok (.getfield 10, 3) := by decide +kernel
theorem dX4_claimOf_93 : decode cX4_claimOf 93 = .ok (.iload_n 1, 1) := by decide +kernel
theorem dX4_claimOf_94 : decode cX4_claimOf 94 = .ok (.iload_n 2, 1) := by decide +kernel
theorem dX4_claimOf_95 : decode cX4_claimOf 95 = .ok (.iload_n 3, 1) := by decide +kernel
theorem dX4_claimOf_96 : decode cX4_claimOf 96 = .ok (.bipush 6, 2) := by decide +kernel
theorem dX4_claimOf_98 : decode cX4_claimOf 98 = .ok (.if_icmp .ne 7, 3) := by decide +kernel
theorem dX4_claimOf_101 : decode cX4_claimOf 101 = .ok (.iconst 5, 1) := by decide +kernel
theorem dX4_claimOf_102 : decode cX4_claimOf 102 = .ok (.goto 4, 3) := by decide +kernel
theorem dX4_claimOf_105 : decode cX4_claimOf 105 = .ok (.iload_n 3, 1) := by decide +kernel
theorem dX4_claimOf_106 : decode cX4_claimOf 106 = .ok (.invokevirtual 170, 3) := by decide +kernel
theorem dX4_claimOf_109 : decode cX4_claimOf 109 = .ok (.ireturn, 1) := by decide +kernel
theorem dX4_player_0 : decode cX4_player 0 = .ok (.iload_n 1, 1) := by decide +kernel
theorem dX4_player_1 : decode cX4_player 1 = .ok (.invokestatic 156, 3) := by decide +kernel
theorem dX4_player_4 : decode cX4_player 4 = .ok (.ifCond .ne 11, 3) := by decide +kernel
theorem dX4_player_7 : decode cX4_player 7 = .ok (.new 140, 3) := by decide +kernel
theorem dX4_player_10 : decode cX4_player 10 = .ok (.dup, 1) := by decide +kernel
theorem dX4_player_11 : decode cX4_player 11 = .ok (.invokespecial 142, 3) := by decide +kernel
theorem dX4_player_14 : decode cX4_player 14 = .ok (.athrow, 1) := by decide +kernel
theorem dX4_player_15 : decode cX4_player 15 = .ok (.iload_n 2, 1) := by decide +kernel
theorem dX4_player_16 : decode cX4_player 16 = .ok (.ifCond .lt 9, 3) := by decide +kernel
theorem dX4_player_19 : decode cX4_player 19 = .ok (.iload_n 2, 1) := by decide +kernel
theorem dX4_player_20 : decode cX4_player 20 = .ok (.bipush 7, 2) := by decide +kernel
theorem dX4_player_22 : decode cX4_player 22 = .ok (.if_icmp .le 11, 3) := by decide +kernel
theorem dX4_player_25 : decode cX4_player 25 = .ok (.new 67, 3) := by decide +kernel
theorem dX4_player_28 : decode cX4_player 28 = .ok (.dup, 1) := by decide +kernel
theorem dX4_player_29 : decode cX4_player 29 = .ok (.invokespecial 69, 3) := by decide +kernel
theorem dX4_player_32 : decode cX4_player 32 = .ok (.athrow, 1) := by decide +kernel
theorem dX4_player_33 : decode cX4_player 33 = .ok (.aload_n 0, 1) := by decide +kernel
theorem dX4_player_34 : decode cX4_player 34 = .ok (.aload_n 0, 1) := by decide +kernel
theorem dX4_player_35 : decode cX4_player 35 = .ok (.getfield 10, 3) := by decide +kernel
theorem dX4_player_38 : decode cX4_player 38 = .ok (.getfield 147, 3) := by decide +kernel
theorem dX4_player_41 : decode cX4_player 41 = .ok (.invokevirtual 162, 3) := by decide +kernel
theorem dX4_player_44 : decode cX4_player 44 = .ok (.iload_n 2, 1) := by decide +kernel
theorem dX4_player_45 : decode cX4_player 45 = .ok (.tableswitch 118 0 6 #[43, 56, 65, 78, 87, 96, 105], 43) := by decide +kernel
theorem dX4_player_88 : decode cX4_player 88 = .ok (.aload_n 0, 1) := by decide +kernel
theorem dX4_player_89 : decode cX4_player 89 = .ok (.getfield 10, 3) := by decide +kernel
theorem dX4_player_92 : decode cX4_player 92 = .ok (.iload_n 1, 1) := by decide +kernel
theorem dX4_player_93 : decode cX4_player 93 = .ok (.aload_n 0, 1) := by decide +kernel
theorem dX4_player_94 : decode cX4_player 94 = .ok (.getfield 26, 3) := by decide +kernel
theorem dX4_player_97 : decode cX4_player 97 = .ok (.invokevirtual 174, 3) := by decide +kernel
theorem dX4_player_100 : decode cX4_player 100 = .ok (.ireturn, 1) := by decide +kernel
theorem dX4_player_101 : decode cX4_player 101 = .ok (.aload_n 0, 1) := by decide +kernel
theorem dX4_player_102 : decode cX4_player 102 = .ok (.getfield 10, 3) := by decide +kernel
theorem dX4_player_105 : decode cX4_player 105 = .ok (.iload_n 1, 1) := by decide +kernel
theorem dX4_player_106 : decode cX4_player 106 = .ok (.invokevirtual 178, 3) := by decide +kernel
theorem dX4_player_109 : decode cX4_player 109 = .ok (.ireturn, 1) := by decide +kernel
theorem dX4_player_110 : decode cX4_player 110 = .ok (.aload_n 0, 1) := by decide +kernel
theorem dX4_player_111 : decode cX4_player 111 = .ok (.getfield 10, 3) := by decide +kernel
theorem dX4_player_114 : decode cX4_player 114 = .ok (.iload_n 1, 1) := by decide +kernel
theorem dX4_player_115 : decode cX4_player 115 = .ok (.aload_n 0, 1) := by decide +kernel
theorem dX4_player_116 : decode cX4_player 116 = .ok (.getfield 26, 3) := by decide +kernel
theorem dX4_player_119 : decode cX4_player 119 = .ok (.invokevirtual 181, 3) := by decide +kernel
theorem dX4_player_122 : decode cX4_player 122 = .ok (.ireturn, 1) := by decide +kernel
theorem dX4_player_123 : decode cX4_player 123 = .ok (.aload_n 0, 1) := by decide +kernel
theorem dX4_player_124 : decode cX4_player 124 = .ok (.getfield 10, 3) := by decide +kernel
theorem dX4_player_127 : decode cX4_player 127 = .ok (.iload_n 1, 1) := by decide +kernel
theorem dX4_player_128 : decode cX4_player 128 = .ok (.invokevirtual 184, 3) := by decide +kernel
theorem dX4_player_131 : decode cX4_player 131 = .ok (.ireturn, 1) := by decide +kernel
theorem dX4_player_132 : decode cX4_player 132 = .ok (.aload_n 0, 1) := by decide +kernel
theorem dX4_player_133 : decode cX4_player 133 = .ok (.getfield 10, 3) := by decide +kernel
theorem dX4_player_136 : decode cX4_player 136 = .ok (.iload_n 1, 1) := by decide +kernel
theorem dX4_player_137 : decode cX4_player 137 = .ok (.invokevirtual 159, 3) := by decide +kernel
theorem dX4_player_140 : decode cX4_player 140 = .ok (.ireturn, 1) := by decide +kernel
theorem dX4_player_141 : decode cX4_player 141 = .ok (.aload_n 0, 1) := by decide +kernel
theorem dX4_player_142 : decode cX4_player 142 = .ok (.getfield 10, 3) := by decide +kernel
theorem dX4_player_145 : decode cX4_player 145 = .ok (.iload_n 1, 1) := by decide +kernel
theorem dX4_player_146 : decode cX4_player 146 = .ok (.invokevirtual 187, 3) := by decide +kernel
theorem dX4_player_149 : decode cX4_player 149 = .ok (.ireturn, 1) := by decide +kernel
theorem dX4_player_150 : decode cX4_player 150 = .ok (.aload_n 0, 1) := by decide +kernel
theorem dX4_player_151 : decode cX4_player 151 = .ok (.getfield 10, 3) := by decide +kernel
theorem dX4_player_154 : decode cX4_player 154 = .ok (.iload_n 1, 1) := by decide +kernel
theorem dX4_player_155 : decode cX4_player 155 = .ok (.aload_n 0, 1) := by decide +kernel
theorem dX4_player_156 : decode cX4_player 156 = .ok (.getfield 26, 3) := by decide +kernel
theorem dX4_player_159 : decode cX4_player 159 = .ok (.invokevirtual 190, 3) := by decide +kernel
theorem dX4_player_162 : decode cX4_player 162 = .ok (.ireturn, 1) := by decide +kernel
theorem dX4_player_163 : decode cX4_player 163 = .ok (.aload_n 0, 1) := by decide +kernel
theorem dX4_player_164 : decode cX4_player 164 = .ok (.getfield 10, 3) := by decide +kernel
theorem dX4_player_167 : decode cX4_player 167 = .ok (.iload_n 1, 1) := by decide +kernel
theorem dX4_player_168 : decode cX4_player 168 = .ok (.invokevirtual 193, 3) := by decide +kernel
theorem dX4_player_171 : decode cX4_player 171 = .ok (.ireturn, 1) := by decide +kernel
theorem dX4_winner_0 : decode cX4_winner 0 = .ok (.aload_n 0, 1) := by decide +kernel
theorem dX4_winner_1 : decode cX4_winner 1 = .ok (.getfield 10, 3) := by decide +kernel
theorem dX4_winner_4 : decode cX4_winner 4 = .ok (.getfield 117, 3) := by decide +kernel
theorem dX4_winner_7 : decode cX4_winner 7 = .ok (.ifCond .ne 5, 3) := by decide +kernel
theorem dX4_winner_10 : decode cX4_winner 10 = .ok (.iconst (-1), 1) := by decide +kernel
theorem dX4_winner_11 : decode cX4_winner 11 = .ok (.ireturn, 1) := by decide +kernel
theorem dX4_winner_12 : decode cX4_winner 12 = .ok (.aload_n 0, 1) := by decide +kernel
theorem dX4_winner_13 : decode cX4_winner 13 = .ok (.aload_n 0, 1) := by decide +kernel
theorem dX4_winner_14 : decode cX4_winner 14 = .ok (.getfield 10, 3) := by decide +kernel
theorem dX4_winner_17 : decode cX4_winner 17 = .ok (.getfield 147, 3) := by decide +kernel
theorem dX4_winner_20 : decode cX4_winner 20 = .ok (.invokevirtual 162, 3) := by decide +kernel
theorem dX4_winner_23 : decode cX4_winner 23 = .ok (.aload_n 0, 1) := by decide +kernel
theorem dX4_winner_24 : decode cX4_winner 24 = .ok (.getfield 10, 3) := by decide +kernel
theorem dX4_winner_27 : decode cX4_winner 27 = .ok (.iconst 0, 1) := by decide +kernel
theorem dX4_winner_28 : decode cX4_winner 28 = .ok (.aload_n 0, 1) := by decide +kernel
theorem dX4_winner_29 : decode cX4_winner 29 = .ok (.getfield 26, 3) := by decide +kernel
theorem dX4_winner_32 : decode cX4_winner 32 = .ok (.invokevirtual 174, 3) := by decide +kernel
theorem dX4_winner_35 : decode cX4_winner 35 = .ok (.istore_n 1, 1) := by decide +kernel
theorem dX4_winner_36 : decode cX4_winner 36 = .ok (.aload_n 0, 1) := by decide +kernel
theorem dX4_winner_37 : decode cX4_winner 37 = .ok (.getfield 10, 3) := by decide +kernel
theorem dX4_winner_40 : decode cX4_winner 40 = .ok (.iconst 1, 1) := by decide +kernel
theorem dX4_winner_41 : decode cX4_winner 41 = .ok (.aload_n 0, 1) := by decide +kernel
theorem dX4_winner_42 : decode cX4_winner 42 = .ok (.getfield 26, 3) := by decide +kernel
theorem dX4_winner_45 : decode cX4_winner 45 = .ok (.invokevirtual 174, 3) := by decide +kernel
theorem dX4_winner_48 : decode cX4_winner 48 = .ok (.istore_n 2, 1) := by decide +kernel
theorem dX4_winner_49 : decode cX4_winner 49 = .ok (.iload_n 1, 1) := by decide +kernel
theorem dX4_winner_50 : decode cX4_winner 50 = .ok (.iload_n 2, 1) := by decide +kernel
theorem dX4_winner_51 : decode cX4_winner 51 = .ok (.if_icmp .ne 5, 3) := by decide +kernel
theorem dX4_winner_54 : decode cX4_winner 54 = .ok (.iconst 2, 1) := by decide +kernel
theorem dX4_winner_55 : decode cX4_winner 55 = .ok (.ireturn, 1) := by decide +kernel
theorem dX4_winner_56 : decode cX4_winner 56 = .ok (.iload_n 1, 1) := by decide +kernel
theorem dX4_winner_57 : decode cX4_winner 57 = .ok (.iload_n 2, 1) := by decide +kernel
theorem dX4_winner_58 : decode cX4_winner 58 = .ok (.if_icmp .le 7, 3) := by decide +kernel
theorem dX4_winner_61 : decode cX4_winner 61 = .ok (.iconst 0, 1) := by decide +kernel
theorem dX4_winner_62 : decode cX4_winner 62 = .ok (.goto 4, 3) := by decide +kernel
theorem dX4_winner_65 : decode cX4_winner 65 = .ok (.iconst 1, 1) := by decide +kernel
theorem dX4_winner_66 : decode cX4_winner 66 = .ok (.ireturn, 1) := by decide +kernel
theorem dX4_account_0 : decode cX4_account 0 = .ok (.iload_n 1, 1) := by decide +kernel
theorem dX4_account_1 : decode cX4_account 1 = .ok (.ifCond .lt 9, 3) := by decide +kernel
theorem dX4_account_4 : decode cX4_account 4 = .ok (.iload_n 1, 1) := by decide +kernel
theorem dX4_account_5 : decode cX4_account 5 = .ok (.bipush 8, 2) := by decide +kernel
theorem dX4_account_7 : decode cX4_account 7 = .ok (.if_icmp .le 11, 3) := by decide +kernel
theorem dX4_account_10 : decode cX4_account 10 = .ok (.new 67, 3) := by decide +kernel
theorem dX4_account_13 : decode cX4_account 13 = .ok (.dup, 1) := by decide +kernel
theorem dX4_account_14 : decode cX4_account 14 = .ok (.invokespecial 69, 3) := by decide +kernel
theorem dX4_account_17 : decode cX4_account 17 = .ok (.athrow, 1) := by decide +kernel
theorem dX4_account_18 : decode cX4_account 18 = .ok (.aload_n 0, 1) := by decide +kernel
theorem dX4_account_19 : decode cX4_account 19 = .ok (.getfield 44, 3) := by decide +kernel
theorem dX4_account_22 : decode cX4_account 22 = .ok (.iload_n 1, 1) := by decide +kernel
theorem dX4_account_23 : decode cX4_account 23 = .ok (.iaload, 1) := by decide +kernel
theorem dX4_account_24 : decode cX4_account 24 = .ok (.ireturn, 1) := by decide +kernel
theorem dX4_claim_0 : decode cX4_claim 0 = .ok (.iload_n 1, 1) := by decide +kernel
theorem dX4_claim_1 : decode cX4_claim 1 = .ok (.iload_n 2, 1) := by decide +kernel
theorem dX4_claim_2 : decode cX4_claim 2 = .ok (.invokestatic 196, 3) := by decide +kernel
theorem dX4_claim_5 : decode cX4_claim 5 = .ok (.ifCond .eq 25, 3) := by decide +kernel
theorem dX4_claim_8 : decode cX4_claim 8 = .ok (.iload_n 3, 1) := by decide +kernel
theorem dX4_claim_9 : decode cX4_claim 9 = .ok (.ifCond .lt 21, 3) := by decide +kernel
theorem dX4_claim_12 : decode cX4_claim 12 = .ok (.iload_n 3, 1) := by decide +kernel
theorem dX4_claim_13 : decode cX4_claim 13 = .ok (.iconst 4, 1) := by decide +kernel
theorem dX4_claim_14 : decode cX4_claim 14 = .ok (.if_icmp .gt 16, 3) := by decide +kernel
theorem dX4_claim_17 : decode cX4_claim 17 = .ok (.iload 5, 2) := by decide +kernel
theorem dX4_claim_19 : decode cX4_claim 19 = .ok (.iconst 1, 1) := by decide +kernel
theorem dX4_claim_20 : decode cX4_claim 20 = .ok (.if_icmp .lt 10, 3) := by decide +kernel
theorem dX4_claim_23 : decode cX4_claim 23 = .ok (.iload 5, 2) := by decide +kernel
theorem dX4_claim_25 : decode cX4_claim 25 = .ok (.bipush 9, 2) := by decide +kernel
theorem dX4_claim_27 : decode cX4_claim 27 = .ok (.if_icmp .le 11, 3) := by decide +kernel
theorem dX4_claim_30 : decode cX4_claim 30 = .ok (.new 67, 3) := by decide +kernel
theorem dX4_claim_33 : decode cX4_claim 33 = .ok (.dup, 1) := by decide +kernel
theorem dX4_claim_34 : decode cX4_claim 34 = .ok (.invokespecial 69, 3) := by decide +kernel
theorem dX4_claim_37 : decode cX4_claim 37 = .ok (.athrow, 1) := by decide +kernel
theorem dX4_claim_38 : decode cX4_claim 38 = .ok (.aload_n 0, 1) := by decide +kernel
theorem dX4_claim_39 : decode cX4_claim 39 = .ok (.iload_n 1, 1) := by decide +kernel
theorem dX4_claim_40 : decode cX4_claim 40 = .ok (.iload_n 2, 1) := by decide +kernel
theorem dX4_claim_41 : decode cX4_claim 41 = .ok (.iload_n 3, 1) := by decide +kernel
theorem dX4_claim_42 : decode cX4_claim 42 = .ok (.iload 4, 2) := by decide +kernel
theorem dX4_claim_44 : decode cX4_claim 44 = .ok (.ifCond .eq 7, 3) := by decide +kernel
theorem dX4_claim_47 : decode cX4_claim 47 = .ok (.iconst 1, 1) := by decide +kernel
theorem dX4_claim_48 : decode cX4_claim 48 = .ok (.goto 4, 3) := by decide +kernel
theorem dX4_claim_51 : decode cX4_claim 51 = .ok (.iconst 0, 1) := by decide +kernel
theorem dX4_claim_52 : decode cX4_claim 52 = .ok (.iload 5, 2) := by decide +kernel
theorem dX4_claim_54 : decode cX4_claim 54 = .ok (.invokevirtual 100, 3) := by decide +kernel
theorem dX4_claim_57 : decode cX4_claim 57 = .ok (.ireturn, 1) := by decide +kernel
theorem dX4_lay_0 : decode cX4_lay 0 = .ok (.aload_n 0, 1) := by decide +kernel
theorem dX4_lay_1 : decode cX4_lay 1 = .ok (.getfield 10, 3) := by decide +kernel
theorem dX4_lay_4 : decode cX4_lay 4 = .ok (.iload_n 2, 1) := by decide +kernel
theorem dX4_lay_5 : decode cX4_lay 5 = .ok (.invokevirtual 137, 3) := by decide +kernel
theorem dX4_lay_8 : decode cX4_lay 8 = .ok (.ifCond .ne 11, 3) := by decide +kernel
theorem dX4_lay_11 : decode cX4_lay 11 = .ok (.new 140, 3) := by decide +kernel
theorem dX4_lay_14 : decode cX4_lay 14 = .ok (.dup, 1) := by decide +kernel
theorem dX4_lay_15 : decode cX4_lay 15 = .ok (.invokespecial 142, 3) := by decide +kernel
theorem dX4_lay_18 : decode cX4_lay 18 = .ok (.athrow, 1) := by decide +kernel
theorem dX4_lay_19 : decode cX4_lay 19 = .ok (.iload_n 1, 1) := by decide +kernel
theorem dX4_lay_20 : decode cX4_lay 20 = .ok (.invokestatic 200, 3) := by decide +kernel
theorem dX4_lay_23 : decode cX4_lay 23 = .ok (.ifCond .ne 11, 3) := by decide +kernel
theorem dX4_lay_26 : decode cX4_lay 26 = .ok (.new 67, 3) := by decide +kernel
theorem dX4_lay_29 : decode cX4_lay 29 = .ok (.dup, 1) := by decide +kernel
theorem dX4_lay_30 : decode cX4_lay 30 = .ok (.invokespecial 69, 3) := by decide +kernel
theorem dX4_lay_33 : decode cX4_lay 33 = .ok (.athrow, 1) := by decide +kernel
theorem dX4_lay_34 : decode cX4_lay 34 = .ok (.aload_n 0, 1) := by decide +kernel
theorem dX4_lay_35 : decode cX4_lay 35 = .ok (.iload_n 1, 1) := by decide +kernel
theorem dX4_lay_36 : decode cX4_lay 36 = .ok (.iload_n 2, 1) := by decide +kernel
theorem dX4_lay_37 : decode cX4_lay 37 = .ok (.invokevirtual 97, 3) := by decide +kernel
theorem dX4_lay_40 : decode cX4_lay 40 = .ok (.ireturn, 1) := by decide +kernel
theorem dX4_pass_0 : decode cX4_pass 0 = .ok (.aload_n 0, 1) := by decide +kernel
theorem dX4_pass_1 : decode cX4_pass 1 = .ok (.invokevirtual 104, 3) := by decide +kernel
theorem dX4_pass_4 : decode cX4_pass 4 = .ok (.ireturn, 1) := by decide +kernel
theorem dX4_why_0 : decode cX4_why 0 = .ok (.aload_n 0, 1) := by decide +kernel
theorem dX4_why_1 : decode cX4_why 1 = .ok (.getfield 10, 3) := by decide +kernel
theorem dX4_why_4 : decode cX4_why 4 = .ok (.iload_n 2, 1) := by decide +kernel
theorem dX4_why_5 : decode cX4_why 5 = .ok (.invokevirtual 137, 3) := by decide +kernel
theorem dX4_why_8 : decode cX4_why 8 = .ok (.ifCond .ne 11, 3) := by decide +kernel
theorem dX4_why_11 : decode cX4_why 11 = .ok (.new 140, 3) := by decide +kernel
theorem dX4_why_14 : decode cX4_why 14 = .ok (.dup, 1) := by decide +kernel
theorem dX4_why_15 : decode cX4_why 15 = .ok (.invokespecial 142, 3) := by decide +kernel
theorem dX4_why_18 : decode cX4_why 18 = .ok (.athrow, 1) := by decide +kernel
theorem dX4_why_19 : decode cX4_why 19 = .ok (.iload_n 1, 1) := by decide +kernel
theorem dX4_why_20 : decode cX4_why 20 = .ok (.invokestatic 200, 3) := by decide +kernel
theorem dX4_why_23 : decode cX4_why 23 = .ok (.ifCond .ne 11, 3) := by decide +kernel
theorem dX4_why_26 : decode cX4_why 26 = .ok (.new 67, 3) := by decide +kernel
theorem dX4_why_29 : decode cX4_why 29 = .ok (.dup, 1) := by decide +kernel
theorem dX4_why_30 : decode cX4_why 30 = .ok (.invokespecial 69, 3) := by decide +kernel
theorem dX4_why_33 : decode cX4_why 33 = .ok (.athrow, 1) := by decide +kernel
theorem dX4_why_34 : decode cX4_why 34 = .ok (.aload_n 0, 1) := by decide +kernel
theorem dX4_why_35 : decode cX4_why 35 = .ok (.getfield 10, 3) := by decide +kernel
theorem dX4_why_38 : decode cX4_why 38 = .ok (.iload_n 1, 1) := by decide +kernel
theorem dX4_why_39 : decode cX4_why 39 = .ok (.iload_n 2, 1) := by decide +kernel
theorem dX4_why_40 : decode cX4_why 40 = .ok (.invokevirtual 203, 3) := by decide +kernel
theorem dX4_why_43 : decode cX4_why 43 = .ok (.ireturn, 1) := by decide +kernel
theorem dX4_best_0 : decode cX4_best 0 = .ok (.iconst (-1), 1) := by decide +kernel
theorem dX4_best_1 : decode cX4_best 1 = .ok (.istore_n 1, 1) := by decide +kernel
theorem dX4_best_2 : decode cX4_best 2 = .ok (.iconst 0, 1) := by decide +kernel
theorem dX4_best_3 : decode cX4_best 3 = .ok (.istore_n 2, 1) := by decide +kernel
theorem dX4_best_4 : decode cX4_best 4 = .ok (.aload_n 0, 1) := by decide +kernel
theorem dX4_best_5 : decode cX4_best 5 = .ok (.getfield 16, 3) := by decide +kernel
theorem dX4_best_8 : decode cX4_best 8 = .ok (.aload_n 0, 1) := by decide +kernel
theorem dX4_best_9 : decode cX4_best 9 = .ok (.getfield 10, 3) := by decide +kernel
theorem dX4_best_12 : decode cX4_best 12 = .ok (.invokevirtual 77, 3) := by decide +kernel
theorem dX4_best_15 : decode cX4_best 15 = .ok (.iconst 0, 1) := by decide +kernel
theorem dX4_best_16 : decode cX4_best 16 = .ok (.istore_n 3, 1) := by decide +kernel
theorem dX4_best_17 : decode cX4_best 17 = .ok (.iload_n 3, 1) := by decide +kernel
theorem dX4_best_18 : decode cX4_best 18 = .ok (.aload_n 0, 1) := by decide +kernel
theorem dX4_best_19 : decode cX4_best 19 = .ok (.getfield 10, 3) := by decide +kernel
theorem dX4_best_22 : decode cX4_best 22 = .ok (.getfield 87, 3) := by decide +kernel
theorem dX4_best_25 : decode cX4_best 25 = .ok (.iconst 0, 1) := by decide +kernel
theorem dX4_best_26 : decode cX4_best 26 = .ok (.iaload, 1) := by decide +kernel
theorem dX4_best_27 : decode cX4_best 27 = .ok (.if_icmp .ge 81, 3) := by decide +kernel
theorem dX4_best_30 : decode cX4_best 30 = .ok (.bipush (-9), 2) := by decide +kernel
theorem dX4_best_32 : decode cX4_best 32 = .ok (.istore 4, 2) := by decide +kernel
theorem dX4_best_34 : decode cX4_best 34 = .ok (.iload 4, 2) := by decide +kernel
theorem dX4_best_36 : decode cX4_best 36 = .ok (.bipush 9, 2) := by decide +kernel
theorem dX4_best_38 : decode cX4_best 38 = .ok (.if_icmp .gt 64, 3) := by decide +kernel
theorem dX4_best_41 : decode cX4_best 41 = .ok (.iload 4, 2) := by decide +kernel
theorem dX4_best_43 : decode cX4_best 43 = .ok (.ifCond .eq 53, 3) := by decide +kernel
theorem dX4_best_46 : decode cX4_best 46 = .ok (.aload_n 0, 1) := by decide +kernel
theorem dX4_best_47 : decode cX4_best 47 = .ok (.getfield 10, 3) := by decide +kernel
theorem dX4_best_50 : decode cX4_best 50 = .ok (.iload 4, 2) := by decide +kernel
theorem dX4_best_52 : decode cX4_best 52 = .ok (.iload_n 3, 1) := by decide +kernel
theorem dX4_best_53 : decode cX4_best 53 = .ok (.invokevirtual 203, 3) := by decide +kernel
theorem dX4_best_56 : decode cX4_best 56 = .ok (.ifCond .eq 6, 3) := by decide +kernel
theorem dX4_best_59 : decode cX4_best 59 = .ok (.goto 37, 3) := by decide +kernel
theorem dX4_best_62 : decode cX4_best 62 = .ok (.aload_n 0, 1) := by decide +kernel
theorem dX4_best_63 : decode cX4_best 63 = .ok (.iload 4, 2) := by decide +kernel
theorem dX4_best_65 : decode cX4_best 65 = .ok (.iload_n 3, 1) := by decide +kernel
theorem dX4_best_66 : decode cX4_best 66 = .ok (.invokevirtual 206, 3) := by decide +kernel
theorem dX4_best_69 : decode cX4_best 69 = .ok (.istore 5, 2) := by decide +kernel
theorem dX4_best_71 : decode cX4_best 71 = .ok (.iload_n 1, 1) := by decide +kernel
theorem dX4_best_72 : decode cX4_best 72 = .ok (.iconst (-1), 1) := by decide +kernel
theorem dX4_best_73 : decode cX4_best 73 = .ok (.if_icmp .eq 9, 3) := by decide +kernel
theorem dX4_best_76 : decode cX4_best 76 = .ok (.iload 5, 2) := by decide +kernel
theorem dX4_best_78 : decode cX4_best 78 = .ok (.iload_n 2, 1) := by decide +kernel
theorem dX4_best_79 : decode cX4_best 79 = .ok (.if_icmp .le 17, 3) := by decide +kernel
theorem dX4_best_82 : decode cX4_best 82 = .ok (.bipush 20, 2) := by decide +kernel
theorem dX4_best_84 : decode cX4_best 84 = .ok (.iload_n 3, 1) := by decide +kernel
theorem dX4_best_85 : decode cX4_best 85 = .ok (.imul, 1) := by decide +kernel
theorem dX4_best_86 : decode cX4_best 86 = .ok (.iload 4, 2) := by decide +kernel
theorem dX4_best_88 : decode cX4_best 88 = .ok (.iadd, 1) := by decide +kernel
theorem dX4_best_89 : decode cX4_best 89 = .ok (.bipush 10, 2) := by decide +kernel
theorem dX4_best_91 : decode cX4_best 91 = .ok (.iadd, 1) := by decide +kernel
theorem dX4_best_92 : decode cX4_best 92 = .ok (.istore_n 1, 1) := by decide +kernel
theorem dX4_best_93 : decode cX4_best 93 = .ok (.iload 5, 2) := by decide +kernel
theorem dX4_best_95 : decode cX4_best 95 = .ok (.istore_n 2, 1) := by decide +kernel
theorem dX4_best_96 : decode cX4_best 96 = .ok (.iinc 4 1, 3) := by decide +kernel
theorem dX4_best_99 : decode cX4_best 99 = .ok (.goto (-65), 3) := by decide +kernel
theorem dX4_best_102 : decode cX4_best 102 = .ok (.iinc 3 1, 3) := by decide +kernel
theorem dX4_best_105 : decode cX4_best 105 = .ok (.goto (-88), 3) := by decide +kernel
theorem dX4_best_108 : decode cX4_best 108 = .ok (.iload_n 1, 1) := by decide +kernel
theorem dX4_best_109 : decode cX4_best 109 = .ok (.ireturn, 1) := by decide +kernel
theorem dX4_behind_0 : decode cX4_behind 0 = .ok (.aload_n 0, 1) := by decide +kernel
theorem dX4_behind_1 : decode cX4_behind 1 = .ok (.getfield 10, 3) := by decide +kernel
theorem dX4_behind_4 : decode cX4_behind 4 = .ok (.iload_n 2, 1) := by decide +kernel
theorem dX4_behind_5 : decode cX4_behind 5 = .ok (.invokevirtual 137, 3) := by decide +kernel
theorem dX4_behind_8 : decode cX4_behind 8 = .ok (.ifCond .ne 11, 3) := by decide +kernel
theorem dX4_behind_11 : decode cX4_behind 11 = .ok (.new 140, 3) := by decide +kernel
theorem dX4_behind_14 : decode cX4_behind 14 = .ok (.dup, 1) := by decide +kernel
theorem dX4_behind_15 : decode cX4_behind 15 = .ok (.invokespecial 142, 3) := by decide +kernel
theorem dX4_behind_18 : decode cX4_behind 18 = .ok (.athrow, 1) := by decide +kernel
theorem dX4_behind_19 : decode cX4_behind 19 = .ok (.iload_n 1, 1) := by decide +kernel
theorem dX4_behind_20 : decode cX4_behind 20 = .ok (.invokestatic 200, 3) := by decide +kernel
theorem dX4_behind_23 : decode cX4_behind 23 = .ok (.ifCond .eq 12, 3) := by decide +kernel
theorem dX4_behind_26 : decode cX4_behind 26 = .ok (.iload_n 3, 1) := by decide +kernel
theorem dX4_behind_27 : decode cX4_behind 27 = .ok (.ifCond .lt 8, 3) := by decide +kernel
theorem dX4_behind_30 : decode cX4_behind 30 = .ok (.iload_n 3, 1) := by decide +kernel
theorem dX4_behind_31 : decode cX4_behind 31 = .ok (.iconst 3, 1) := by decide +kernel
theorem dX4_behind_32 : decode cX4_behind 32 = .ok (.if_icmp .le 11, 3) := by decide +kernel
theorem dX4_behind_35 : decode cX4_behind 35 = .ok (.new 67, 3) := by decide +kernel
theorem dX4_behind_38 : decode cX4_behind 38 = .ok (.dup, 1) := by decide +kernel
theorem dX4_behind_39 : decode cX4_behind 39 = .ok (.invokespecial 69, 3) := by decide +kernel
theorem dX4_behind_42 : decode cX4_behind 42 = .ok (.athrow, 1) := by decide +kernel
theorem dX4_behind_43 : decode cX4_behind 43 = .ok (.aload_n 0, 1) := by decide +kernel
theorem dX4_behind_44 : decode cX4_behind 44 = .ok (.getfield 10, 3) := by decide +kernel
theorem dX4_behind_47 : decode cX4_behind 47 = .ok (.iload_n 1, 1) := by decide +kernel
theorem dX4_behind_48 : decode cX4_behind 48 = .ok (.iload_n 2, 1) := by decide +kernel
theorem dX4_behind_49 : decode cX4_behind 49 = .ok (.invokevirtual 203, 3) := by decide +kernel
theorem dX4_behind_52 : decode cX4_behind 52 = .ok (.ifCond .eq 11, 3) := by decide +kernel
theorem dX4_behind_55 : decode cX4_behind 55 = .ok (.new 56, 3) := by decide +kernel
theorem dX4_behind_58 : decode cX4_behind 58 = .ok (.dup, 1) := by decide +kernel
theorem dX4_behind_59 : decode cX4_behind 59 = .ok (.invokespecial 58, 3) := by decide +kernel
theorem dX4_behind_62 : decode cX4_behind 62 = .ok (.athrow, 1) := by decide +kernel
theorem dX4_behind_63 : decode cX4_behind 63 = .ok (.aload_n 0, 1) := by decide +kernel
theorem dX4_behind_64 : decode cX4_behind 64 = .ok (.getfield 16, 3) := by decide +kernel
theorem dX4_behind_67 : decode cX4_behind 67 = .ok (.aload_n 0, 1) := by decide +kernel
theorem dX4_behind_68 : decode cX4_behind 68 = .ok (.getfield 10, 3) := by decide +kernel
theorem dX4_behind_71 : decode cX4_behind 71 = .ok (.invokevirtual 77, 3) := by decide +kernel
theorem dX4_behind_74 : decode cX4_behind 74 = .ok (.aload_n 0, 1) := by decide +kernel
theorem dX4_behind_75 : decode cX4_behind 75 = .ok (.getfield 16, 3) := by decide +kernel
theorem dX4_behind_78 : decode cX4_behind 78 = .ok (.iload_n 1, 1) := by decide +kernel
theorem dX4_behind_79 : decode cX4_behind 79 = .ok (.iload_n 2, 1) := by decide +kernel
theorem dX4_behind_80 : decode cX4_behind 80 = .ok (.aload_n 0, 1) := by decide +kernel
theorem dX4_behind_81 : decode cX4_behind 81 = .ok (.getfield 26, 3) := by decide +kernel
theorem dX4_behind_84 : decode cX4_behind 84 = .ok (.invokevirtual 209, 3) := by decide +kernel
theorem dX4_behind_87 : decode cX4_behind 87 = .ok (.aload_n 0, 1) := by decide +kernel
theorem dX4_behind_88 : decode cX4_behind 88 = .ok (.aload_n 0, 1) := by decide +kernel
theorem dX4_behind_89 : decode cX4_behind 89 = .ok (.getfield 16, 3) := by decide +kernel
theorem dX4_behind_92 : decode cX4_behind 92 = .ok (.getfield 147, 3) := by decide +kernel
theorem dX4_behind_95 : decode cX4_behind 95 = .ok (.invokevirtual 162, 3) := by decide +kernel
theorem dX4_behind_98 : decode cX4_behind 98 = .ok (.iload_n 3, 1) := by decide +kernel
theorem dX4_behind_99 : decode cX4_behind 99 = .ok (.tableswitch 59 0 2 #[25, 33, 46], 25) := by decide +kernel
theorem dX4_behind_124 : decode cX4_behind 124 = .ok (.aload_n 0, 1) := by decide +kernel
theorem dX4_behind_125 : decode cX4_behind 125 = .ok (.getfield 26, 3) := by decide +kernel
theorem dX4_behind_128 : decode cX4_behind 128 = .ok (.invokevirtual 213, 3) := by decide +kernel
theorem dX4_behind_131 : decode cX4_behind 131 = .ok (.ireturn, 1) := by decide +kernel
theorem dX4_behind_132 : decode cX4_behind 132 = .ok (.aload_n 0, 1) := by decide +kernel
theorem dX4_behind_133 : decode cX4_behind 133 = .ok (.getfield 16, 3) := by decide +kernel
theorem dX4_behind_136 : decode cX4_behind 136 = .ok (.iconst 0, 1) := by decide +kernel
theorem dX4_behind_137 : decode cX4_behind 137 = .ok (.aload_n 0, 1) := by decide +kernel
theorem dX4_behind_138 : decode cX4_behind 138 = .ok (.getfield 26, 3) := by decide +kernel
theorem dX4_behind_141 : decode cX4_behind 141 = .ok (.invokevirtual 174, 3) := by decide +kernel
theorem dX4_behind_144 : decode cX4_behind 144 = .ok (.ireturn, 1) := by decide +kernel
theorem dX4_behind_145 : decode cX4_behind 145 = .ok (.aload_n 0, 1) := by decide +kernel
theorem dX4_behind_146 : decode cX4_behind 146 = .ok (.getfield 16, 3) := by decide +kernel
theorem dX4_behind_149 : decode cX4_behind 149 = .ok (.iconst 1, 1) := by decide +kernel
theorem dX4_behind_150 : decode cX4_behind 150 = .ok (.aload_n 0, 1) := by decide +kernel
theorem dX4_behind_151 : decode cX4_behind 151 = .ok (.getfield 26, 3) := by decide +kernel
theorem dX4_behind_154 : decode cX4_behind 154 = .ok (.invokevirtual 174, 3) := by decide +kernel
theorem dX4_behind_157 : decode cX4_behind 157 = .ok (.ireturn, 1) := by decide +kernel
theorem dX4_behind_158 : decode cX4_behind 158 = .ok (.aload_n 0, 1) := by decide +kernel
theorem dX4_behind_159 : decode cX4_behind 159 = .ok (.getfield 16, 3) := by decide +kernel
theorem dX4_behind_162 : decode cX4_behind 162 = .ok (.getfield 117, 3) := by decide +kernel
theorem dX4_behind_165 : decode cX4_behind 165 = .ok (.ifCond .eq 7, 3) := by decide +kernel
theorem dX4_behind_168 : decode cX4_behind 168 = .ok (.iconst 1, 1) := by decide +kernel
theorem dX4_behind_169 : decode cX4_behind 169 = .ok (.goto 4, 3) := by decide +kernel
theorem dX4_behind_172 : decode cX4_behind 172 = .ok (.iconst 0, 1) := by decide +kernel
theorem dX4_behind_173 : decode cX4_behind 173 = .ok (.ireturn, 1) := by decide +kernel
theorem dX4_degree_0 : decode cX4_degree 0 = .ok (.iconst 4, 1) := by decide +kernel
theorem dX4_degree_1 : decode cX4_degree 1 = .ok (.istore_n 1, 1) := by decide +kernel
theorem dX4_degree_2 : decode cX4_degree 2 = .ok (.iload_n 1, 1) := by decide +kernel
theorem dX4_degree_3 : decode cX4_degree 3 = .ok (.ifCond .lt 23, 3) := by decide +kernel
theorem dX4_degree_6 : decode cX4_degree 6 = .ok (.aload_n 0, 1) := by decide +kernel
theorem dX4_degree_7 : decode cX4_degree 7 = .ok (.getfield 10, 3) := by decide +kernel
theorem dX4_degree_10 : decode cX4_degree 10 = .ok (.getfield 147, 3) := by decide +kernel
theorem dX4_degree_13 : decode cX4_degree 13 = .ok (.iload_n 1, 1) := by decide +kernel
theorem dX4_degree_14 : decode cX4_degree 14 = .ok (.iaload, 1) := by decide +kernel
theorem dX4_degree_15 : decode cX4_degree 15 = .ok (.ifCond .eq 5, 3) := by decide +kernel
theorem dX4_degree_18 : decode cX4_degree 18 = .ok (.iload_n 1, 1) := by decide +kernel
theorem dX4_degree_19 : decode cX4_degree 19 = .ok (.ireturn, 1) := by decide +kernel
theorem dX4_degree_20 : decode cX4_degree 20 = .ok (.iinc 1 (-1), 3) := by decide +kernel
theorem dX4_degree_23 : decode cX4_degree 23 = .ok (.goto (-21), 3) := by decide +kernel
theorem dX4_degree_26 : decode cX4_degree 26 = .ok (.iconst (-1), 1) := by decide +kernel
theorem dX4_degree_27 : decode cX4_degree 27 = .ok (.ireturn, 1) := by decide +kernel
theorem dX4_value_0 : decode cX4_value 0 = .ok (.iload_n 1, 1) := by decide +kernel
theorem dX4_value_1 : decode cX4_value 1 = .ok (.invokestatic 216, 3) := by decide +kernel
theorem dX4_value_4 : decode cX4_value 4 = .ok (.ifCond .ne 11, 3) := by decide +kernel
theorem dX4_value_7 : decode cX4_value 7 = .ok (.new 67, 3) := by decide +kernel
theorem dX4_value_10 : decode cX4_value 10 = .ok (.dup, 1) := by decide +kernel
theorem dX4_value_11 : decode cX4_value 11 = .ok (.invokespecial 69, 3) := by decide +kernel
theorem dX4_value_14 : decode cX4_value 14 = .ok (.athrow, 1) := by decide +kernel
theorem dX4_value_15 : decode cX4_value 15 = .ok (.aload_n 0, 1) := by decide +kernel
theorem dX4_value_16 : decode cX4_value 16 = .ok (.getfield 10, 3) := by decide +kernel
theorem dX4_value_19 : decode cX4_value 19 = .ok (.iload_n 1, 1) := by decide +kernel
theorem dX4_value_20 : decode cX4_value 20 = .ok (.invokevirtual 219, 3) := by decide +kernel
theorem dX4_value_23 : decode cX4_value 23 = .ok (.lreturn, 1) := by decide +kernel
theorem dX4_roots_0 : decode cX4_roots 0 = .ok (.iload_n 1, 1) := by decide +kernel
theorem dX4_roots_1 : decode cX4_roots 1 = .ok (.iload_n 2, 1) := by decide +kernel
theorem dX4_roots_2 : decode cX4_roots 2 = .ok (.invokestatic 196, 3) := by decide +kernel
theorem dX4_roots_5 : decode cX4_roots 5 = .ok (.ifCond .ne 11, 3) := by decide +kernel
theorem dX4_roots_8 : decode cX4_roots 8 = .ok (.new 67, 3) := by decide +kernel
theorem dX4_roots_11 : decode cX4_roots 11 = .ok (.dup, 1) := by decide +kernel
theorem dX4_roots_12 : decode cX4_roots 12 = .ok (.invokespecial 69, 3) := by decide +kernel
theorem dX4_roots_15 : decode cX4_roots 15 = .ok (.athrow, 1) := by decide +kernel
theorem dX4_roots_16 : decode cX4_roots 16 = .ok (.aload_n 0, 1) := by decide +kernel
theorem dX4_roots_17 : decode cX4_roots 17 = .ok (.aload_n 0, 1) := by decide +kernel
theorem dX4_roots_18 : decode cX4_roots 18 = .ok (.getfield 10, 3) := by decide +kernel
theorem dX4_roots_21 : decode cX4_roots 21 = .ok (.getfield 147, 3) := by decide +kernel
theorem dX4_roots_24 : decode cX4_roots 24 = .ok (.invokevirtual 162, 3) := by decide +kernel
theorem dX4_roots_27 : decode cX4_roots 27 = .ok (.aload_n 0, 1) := by decide +kernel
theorem dX4_roots_28 : decode cX4_roots 28 = .ok (.getfield 26, 3) := by decide +kernel
theorem dX4_roots_31 : decode cX4_roots 31 = .ok (.iload_n 1, 1) := by decide +kernel
theorem dX4_roots_32 : decode cX4_roots 32 = .ok (.iload_n 2, 1) := by decide +kernel
theorem dX4_roots_33 : decode cX4_roots 33 = .ok (.invokevirtual 223, 3) := by decide +kernel
theorem dX4_roots_36 : decode cX4_roots 36 = .ok (.ireturn, 1) := by decide +kernel
theorem dX4_allRoots_0 : decode cX4_allRoots 0 = .ok (.aload_n 0, 1) := by decide +kernel
theorem dX4_allRoots_1 : decode cX4_allRoots 1 = .ok (.aload_n 0, 1) := by decide +kernel
theorem dX4_allRoots_2 : decode cX4_allRoots 2 = .ok (.getfield 10, 3) := by decide +kernel
theorem dX4_allRoots_5 : decode cX4_allRoots 5 = .ok (.getfield 147, 3) := by decide +kernel
theorem dX4_allRoots_8 : decode cX4_allRoots 8 = .ok (.invokevirtual 162, 3) := by decide +kernel
theorem dX4_allRoots_11 : decode cX4_allRoots 11 = .ok (.aload_n 0, 1) := by decide +kernel
theorem dX4_allRoots_12 : decode cX4_allRoots 12 = .ok (.getfield 26, 3) := by decide +kernel
theorem dX4_allRoots_15 : decode cX4_allRoots 15 = .ok (.invokevirtual 213, 3) := by decide +kernel
theorem dX4_allRoots_18 : decode cX4_allRoots 18 = .ok (.ireturn, 1) := by decide +kernel
theorem dX4_rootsOfSign_0 : decode cX4_rootsOfSign 0 = .ok (.iload_n 1, 1) := by decide +kernel
theorem dX4_rootsOfSign_1 : decode cX4_rootsOfSign 1 = .ok (.iconst (-1), 1) := by decide +kernel
theorem dX4_rootsOfSign_2 : decode cX4_rootsOfSign 2 = .ok (.if_icmp .lt 8, 3) := by decide +kernel
theorem dX4_rootsOfSign_5 : decode cX4_rootsOfSign 5 = .ok (.iload_n 1, 1) := by decide +kernel
theorem dX4_rootsOfSign_6 : decode cX4_rootsOfSign 6 = .ok (.iconst 1, 1) := by decide +kernel
theorem dX4_rootsOfSign_7 : decode cX4_rootsOfSign 7 = .ok (.if_icmp .le 11, 3) := by decide +kernel
theorem dX4_rootsOfSign_10 : decode cX4_rootsOfSign 10 = .ok (.new 67, 3) := by decide +kernel
theorem dX4_rootsOfSign_13 : decode cX4_rootsOfSign 13 = .ok (.dup, 1) := by decide +kernel
theorem dX4_rootsOfSign_14 : decode cX4_rootsOfSign 14 = .ok (.invokespecial 69, 3) := by decide +kernel
theorem dX4_rootsOfSign_17 : decode cX4_rootsOfSign 17 = .ok (.athrow, 1) := by decide +kernel
theorem dX4_rootsOfSign_18 : decode cX4_rootsOfSign 18 = .ok (.aload_n 0, 1) := by decide +kernel
theorem dX4_rootsOfSign_19 : decode cX4_rootsOfSign 19 = .ok (.aload_n 0, 1) := by decide +kernel
theorem dX4_rootsOfSign_20 : decode cX4_rootsOfSign 20 = .ok (.getfield 10, 3) := by decide +kernel
theorem dX4_rootsOfSign_23 : decode cX4_rootsOfSign 23 = .ok (.getfield 147, 3) := by decide +kernel
theorem dX4_rootsOfSign_26 : decode cX4_rootsOfSign 26 = .ok (.invokevirtual 162, 3) := by decide +kernel
theorem dX4_rootsOfSign_29 : decode cX4_rootsOfSign 29 = .ok (.aload_n 0, 1) := by decide +kernel
theorem dX4_rootsOfSign_30 : decode cX4_rootsOfSign 30 = .ok (.getfield 26, 3) := by decide +kernel
theorem dX4_rootsOfSign_33 : decode cX4_rootsOfSign 33 = .ok (.getfield 226, 3) := by decide +kernel
theorem dX4_rootsOfSign_36 : decode cX4_rootsOfSign 36 = .ok (.ifCond .ne 5, 3) := by decide +kernel
theorem dX4_rootsOfSign_39 : decode cX4_rootsOfSign 39 = .ok (.iconst (-1), 1) := by decide +kernel
theorem dX4_rootsOfSign_40 : decode cX4_rootsOfSign 40 = .ok (.ireturn, 1) := by decide +kernel
theorem dX4_rootsOfSign_41 : decode cX4_rootsOfSign 41 = .ok (.aload_n 0, 1) := by decide +kernel
theorem dX4_rootsOfSign_42 : decode cX4_rootsOfSign 42 = .ok (.getfield 10, 3) := by decide +kernel
theorem dX4_rootsOfSign_45 : decode cX4_rootsOfSign 45 = .ok (.getfield 147, 3) := by decide +kernel
theorem dX4_rootsOfSign_48 : decode cX4_rootsOfSign 48 = .ok (.iconst 0, 1) := by decide +kernel
theorem dX4_rootsOfSign_49 : decode cX4_rootsOfSign 49 = .ok (.iaload, 1) := by decide +kernel
theorem dX4_rootsOfSign_50 : decode cX4_rootsOfSign 50 = .ok (.ifCond .ne 7, 3) := by decide +kernel
theorem dX4_rootsOfSign_53 : decode cX4_rootsOfSign 53 = .ok (.iconst 1, 1) := by decide +kernel
theorem dX4_rootsOfSign_54 : decode cX4_rootsOfSign 54 = .ok (.goto 4, 3) := by decide +kernel
theorem dX4_rootsOfSign_57 : decode cX4_rootsOfSign 57 = .ok (.iconst 0, 1) := by decide +kernel
theorem dX4_rootsOfSign_58 : decode cX4_rootsOfSign 58 = .ok (.istore_n 2, 1) := by decide +kernel
theorem dX4_rootsOfSign_59 : decode cX4_rootsOfSign 59 = .ok (.iload_n 1, 1) := by decide +kernel
theorem dX4_rootsOfSign_60 : decode cX4_rootsOfSign 60 = .ok (.ifCond .ne 5, 3) := by decide +kernel
theorem dX4_rootsOfSign_63 : decode cX4_rootsOfSign 63 = .ok (.iload_n 2, 1) := by decide +kernel
theorem dX4_rootsOfSign_64 : decode cX4_rootsOfSign 64 = .ok (.ireturn, 1) := by decide +kernel
theorem dX4_rootsOfSign_65 : decode cX4_rootsOfSign 65 = .ok (.iload_n 1, 1) := by decide +kernel
theorem dX4_rootsOfSign_66 : decode cX4_rootsOfSign 66 = .ok (.ifCond .le 14, 3) := by decide +kernel
theorem dX4_rootsOfSign_69 : decode cX4_rootsOfSign 69 = .ok (.aload_n 0, 1) := by decide +kernel
theorem dX4_rootsOfSign_70 : decode cX4_rootsOfSign 70 = .ok (.getfield 26, 3) := by decide +kernel
theorem dX4_rootsOfSign_73 : decode cX4_rootsOfSign 73 = .ok (.iconst 0, 1) := by decide +kernel
theorem dX4_rootsOfSign_74 : decode cX4_rootsOfSign 74 = .ok (.bipush 31, 2) := by decide +kernel
theorem dX4_rootsOfSign_76 : decode cX4_rootsOfSign 76 = .ok (.invokevirtual 223, 3) := by decide +kernel
theorem dX4_rootsOfSign_79 : decode cX4_rootsOfSign 79 = .ok (.ireturn, 1) := by decide +kernel
theorem dX4_rootsOfSign_80 : decode cX4_rootsOfSign 80 = .ok (.aload_n 0, 1) := by decide +kernel
theorem dX4_rootsOfSign_81 : decode cX4_rootsOfSign 81 = .ok (.getfield 26, 3) := by decide +kernel
theorem dX4_rootsOfSign_84 : decode cX4_rootsOfSign 84 = .ok (.bipush (-31), 2) := by decide +kernel
theorem dX4_rootsOfSign_86 : decode cX4_rootsOfSign 86 = .ok (.iconst 0, 1) := by decide +kernel
theorem dX4_rootsOfSign_87 : decode cX4_rootsOfSign 87 = .ok (.invokevirtual 223, 3) := by decide +kernel
theorem dX4_rootsOfSign_90 : decode cX4_rootsOfSign 90 = .ok (.iload_n 2, 1) := by decide +kernel
theorem dX4_rootsOfSign_91 : decode cX4_rootsOfSign 91 = .ok (.isub, 1) := by decide +kernel
theorem dX4_rootsOfSign_92 : decode cX4_rootsOfSign 92 = .ok (.ireturn, 1) := by decide +kernel
theorem dX4_multiplicity_0 : decode cX4_multiplicity 0 = .ok (.iload_n 1, 1) := by decide +kernel
theorem dX4_multiplicity_1 : decode cX4_multiplicity 1 = .ok (.invokestatic 216, 3) := by decide +kernel
theorem dX4_multiplicity_4 : decode cX4_multiplicity 4 = .ok (.ifCond .ne 11, 3) := by decide +kernel
theorem dX4_multiplicity_7 : decode cX4_multiplicity 7 = .ok (.new 67, 3) := by decide +kernel
theorem dX4_multiplicity_10 : decode cX4_multiplicity 10 = .ok (.dup, 1) := by decide +kernel
theorem dX4_multiplicity_11 : decode cX4_multiplicity 11 = .ok (.invokespecial 69, 3) := by decide +kernel
theorem dX4_multiplicity_14 : decode cX4_multiplicity 14 = .ok (.athrow, 1) := by decide +kernel
theorem dX4_multiplicity_15 : decode cX4_multiplicity 15 = .ok (.aload_n 0, 1) := by decide +kernel
theorem dX4_multiplicity_16 : decode cX4_multiplicity 16 = .ok (.iload_n 1, 1) := by decide +kernel
theorem dX4_multiplicity_17 : decode cX4_multiplicity 17 = .ok (.invokevirtual 229, 3) := by decide +kernel
theorem dX4_multiplicity_20 : decode cX4_multiplicity 20 = .ok (.iconst 0, 1) := by decide +kernel
theorem dX4_multiplicity_21 : decode cX4_multiplicity 21 = .ok (.istore_n 2, 1) := by decide +kernel
theorem dX4_multiplicity_22 : decode cX4_multiplicity 22 = .ok (.iload_n 2, 1) := by decide +kernel
theorem dX4_multiplicity_23 : decode cX4_multiplicity 23 = .ok (.iconst 5, 1) := by decide +kernel
theorem dX4_multiplicity_24 : decode cX4_multiplicity 24 = .ok (.if_icmp .ge 22, 3) := by decide +kernel
theorem dX4_multiplicity_27 : decode cX4_multiplicity 27 = .ok (.aload_n 0, 1) := by decide +kernel
theorem dX4_multiplicity_28 : decode cX4_multiplicity 28 = .ok (.getfield 48, 3) := by decide +kernel
theorem dX4_multiplicity_31 : decode cX4_multiplicity 31 = .ok (.iload_n 2, 1) := by decide +kernel
theorem dX4_multiplicity_32 : decode cX4_multiplicity 32 = .ok (.laload, 1) := by decide +kernel
theorem dX4_multiplicity_33 : decode cX4_multiplicity 33 = .ok (.lconst 0, 1) := by decide +kernel
theorem dX4_multiplicity_34 : decode cX4_multiplicity 34 = .ok (.lcmp, 1) := by decide +kernel
theorem dX4_multiplicity_35 : decode cX4_multiplicity 35 = .ok (.ifCond .eq 5, 3) := by decide +kernel
theorem dX4_multiplicity_38 : decode cX4_multiplicity 38 = .ok (.iload_n 2, 1) := by decide +kernel
theorem dX4_multiplicity_39 : decode cX4_multiplicity 39 = .ok (.ireturn, 1) := by decide +kernel
theorem dX4_multiplicity_40 : decode cX4_multiplicity 40 = .ok (.iinc 2 1, 3) := by decide +kernel
theorem dX4_multiplicity_43 : decode cX4_multiplicity 43 = .ok (.goto (-21), 3) := by decide +kernel
theorem dX4_multiplicity_46 : decode cX4_multiplicity 46 = .ok (.iconst (-1), 1) := by decide +kernel
theorem dX4_multiplicity_47 : decode cX4_multiplicity 47 = .ok (.ireturn, 1) := by decide +kernel
theorem dX4_near_0 : decode cX4_near 0 = .ok (.aload_n 0, 1) := by decide +kernel
theorem dX4_near_1 : decode cX4_near 1 = .ok (.aload_n 0, 1) := by decide +kernel
theorem dX4_near_2 : decode cX4_near 2 = .ok (.getfield 10, 3) := by decide +kernel
theorem dX4_near_5 : decode cX4_near 5 = .ok (.getfield 147, 3) := by decide +kernel
theorem dX4_near_8 : decode cX4_near 8 = .ok (.invokevirtual 162, 3) := by decide +kernel
theorem dX4_near_11 : decode cX4_near 11 = .ok (.iload_n 1, 1) := by decide +kernel
theorem dX4_near_12 : decode cX4_near 12 = .ok (.ifCond .lt 14, 3) := by decide +kernel
theorem dX4_near_15 : decode cX4_near 15 = .ok (.iload_n 1, 1) := by decide +kernel
theorem dX4_near_16 : decode cX4_near 16 = .ok (.aload_n 0, 1) := by decide +kernel
theorem dX4_near_17 : decode cX4_near 17 = .ok (.getfield 26, 3) := by decide +kernel
theorem dX4_near_20 : decode cX4_near 20 = .ok (.invokevirtual 213, 3) := by decide +kernel
theorem dX4_near_23 : decode cX4_near 23 = .ok (.if_icmp .lt 11, 3) := by decide +kernel
theorem dX4_near_26 : decode cX4_near 26 = .ok (.new 140, 3) := by decide +kernel
theorem dX4_near_29 : decode cX4_near 29 = .ok (.dup, 1) := by decide +kernel
theorem dX4_near_30 : decode cX4_near 30 = .ok (.invokespecial 142, 3) := by decide +kernel
theorem dX4_near_33 : decode cX4_near 33 = .ok (.athrow, 1) := by decide +kernel
theorem dX4_near_34 : decode cX4_near 34 = .ok (.iload_n 2, 1) := by decide +kernel
theorem dX4_near_35 : decode cX4_near 35 = .ok (.ifCond .lt 9, 3) := by decide +kernel
theorem dX4_near_38 : decode cX4_near 38 = .ok (.iload_n 2, 1) := by decide +kernel
theorem dX4_near_39 : decode cX4_near 39 = .ok (.bipush 6, 2) := by decide +kernel
theorem dX4_near_41 : decode cX4_near 41 = .ok (.if_icmp .le 11, 3) := by decide +kernel
theorem dX4_near_44 : decode cX4_near 44 = .ok (.new 67, 3) := by decide +kernel
theorem dX4_near_47 : decode cX4_near 47 = .ok (.dup, 1) := by decide +kernel
theorem dX4_near_48 : decode cX4_near 48 = .ok (.invokespecial 69, 3) := by decide +kernel
theorem dX4_near_51 : decode cX4_near 51 = .ok (.athrow, 1) := by decide +kernel
theorem dX4_near_52 : decode cX4_near 52 = .ok (.aload_n 0, 1) := by decide +kernel
theorem dX4_near_53 : decode cX4_near 53 = .ok (.getfield 26, 3) := by decide +kernel
theorem dX4_near_56 : decode cX4_near 56 = .ok (.iload_n 1, 1) := by decide +kernel
theorem dX4_near_57 : decode cX4_near 57 = .ok (.iload_n 2, 1) := by decide +kernel
theorem dX4_near_58 : decode cX4_near 58 = .ok (.invokevirtual 233, 3) := by decide +kernel
theorem dX4_near_61 : decode cX4_near 61 = .ok (.ireturn, 1) := by decide +kernel
theorem dX4_root_0 : decode cX4_root 0 = .ok (.aload_n 0, 1) := by decide +kernel
theorem dX4_root_1 : decode cX4_root 1 = .ok (.aload_n 0, 1) := by decide +kernel
theorem dX4_root_2 : decode cX4_root 2 = .ok (.getfield 10, 3) := by decide +kernel
theorem dX4_root_5 : decode cX4_root 5 = .ok (.getfield 147, 3) := by decide +kernel
theorem dX4_root_8 : decode cX4_root 8 = .ok (.invokevirtual 162, 3) := by decide +kernel
theorem dX4_root_11 : decode cX4_root 11 = .ok (.iload_n 1, 1) := by decide +kernel
theorem dX4_root_12 : decode cX4_root 12 = .ok (.ifCond .lt 14, 3) := by decide +kernel
theorem dX4_root_15 : decode cX4_root 15 = .ok (.iload_n 1, 1) := by decide +kernel
theorem dX4_root_16 : decode cX4_root 16 = .ok (.aload_n 0, 1) := by decide +kernel
theorem dX4_root_17 : decode cX4_root 17 = .ok (.getfield 26, 3) := by decide +kernel
theorem dX4_root_20 : decode cX4_root 20 = .ok (.invokevirtual 213, 3) := by decide +kernel
theorem dX4_root_23 : decode cX4_root 23 = .ok (.if_icmp .lt 11, 3) := by decide +kernel
theorem dX4_root_26 : decode cX4_root 26 = .ok (.new 140, 3) := by decide +kernel
theorem dX4_root_29 : decode cX4_root 29 = .ok (.dup, 1) := by decide +kernel
theorem dX4_root_30 : decode cX4_root 30 = .ok (.invokespecial 142, 3) := by decide +kernel
theorem dX4_root_33 : decode cX4_root 33 = .ok (.athrow, 1) := by decide +kernel
theorem dX4_root_34 : decode cX4_root 34 = .ok (.aload_n 0, 1) := by decide +kernel
theorem dX4_root_35 : decode cX4_root 35 = .ok (.getfield 26, 3) := by decide +kernel
theorem dX4_root_38 : decode cX4_root 38 = .ok (.iload_n 1, 1) := by decide +kernel
theorem dX4_root_39 : decode cX4_root 39 = .ok (.bipush 6, 2) := by decide +kernel
theorem dX4_root_41 : decode cX4_root 41 = .ok (.invokevirtual 233, 3) := by decide +kernel
theorem dX4_root_44 : decode cX4_root 44 = .ok (.istore_n 2, 1) := by decide +kernel
theorem dX4_root_45 : decode cX4_root 45 = .ok (.iconst 2, 1) := by decide +kernel
theorem dX4_root_46 : decode cX4_root 46 = .ok (.iload_n 2, 1) := by decide +kernel
theorem dX4_root_47 : decode cX4_root 47 = .ok (.imul, 1) := by decide +kernel
theorem dX4_root_48 : decode cX4_root 48 = .ok (.iconst 1, 1) := by decide +kernel
theorem dX4_root_49 : decode cX4_root 49 = .ok (.iadd, 1) := by decide +kernel
theorem dX4_root_50 : decode cX4_root 50 = .ok (.i2d, 1) := by decide +kernel
theorem dX4_root_51 : decode cX4_root 51 = .ok (.ldc2_w 236, 3) := by decide +kernel
theorem dX4_root_54 : decode cX4_root 54 = .ok (.ddiv, 1) := by decide +kernel
theorem dX4_root_55 : decode cX4_root 55 = .ok (.dreturn, 1) := by decide +kernel
theorem dX4_rows_0 : decode cX4_rows 0 = .ok (.aload_n 0, 1) := by decide +kernel
theorem dX4_rows_1 : decode cX4_rows 1 = .ok (.aload_n 0, 1) := by decide +kernel
theorem dX4_rows_2 : decode cX4_rows 2 = .ok (.getfield 10, 3) := by decide +kernel
theorem dX4_rows_5 : decode cX4_rows 5 = .ok (.getfield 147, 3) := by decide +kernel
theorem dX4_rows_8 : decode cX4_rows 8 = .ok (.invokevirtual 162, 3) := by decide +kernel
theorem dX4_rows_11 : decode cX4_rows 11 = .ok (.aload_n 0, 1) := by decide +kernel
theorem dX4_rows_12 : decode cX4_rows 12 = .ok (.getfield 26, 3) := by decide +kernel
theorem dX4_rows_15 : decode cX4_rows 15 = .ok (.getfield 226, 3) := by decide +kernel
theorem dX4_rows_18 : decode cX4_rows 18 = .ok (.ireturn, 1) := by decide +kernel
theorem dX4_rowDegree_0 : decode cX4_rowDegree 0 = .ok (.aload_n 0, 1) := by decide +kernel
theorem dX4_rowDegree_1 : decode cX4_rowDegree 1 = .ok (.aload_n 0, 1) := by decide +kernel
theorem dX4_rowDegree_2 : decode cX4_rowDegree 2 = .ok (.getfield 10, 3) := by decide +kernel
theorem dX4_rowDegree_5 : decode cX4_rowDegree 5 = .ok (.getfield 147, 3) := by decide +kernel
theorem dX4_rowDegree_8 : decode cX4_rowDegree 8 = .ok (.invokevirtual 162, 3) := by decide +kernel
theorem dX4_rowDegree_11 : decode cX4_rowDegree 11 = .ok (.iload_n 1, 1) := by decide +kernel
theorem dX4_rowDegree_12 : decode cX4_rowDegree 12 = .ok (.ifCond .lt 14, 3) := by decide +kernel
theorem dX4_rowDegree_15 : decode cX4_rowDegree 15 = .ok (.iload_n 1, 1) := by decide +kernel
theorem dX4_rowDegree_16 : decode cX4_rowDegree 16 = .ok (.aload_n 0, 1) := by decide +kernel
theorem dX4_rowDegree_17 : decode cX4_rowDegree 17 = .ok (.getfield 26, 3) := by decide +kernel
theorem dX4_rowDegree_20 : decode cX4_rowDegree 20 = .ok (.getfield 226, 3) := by decide +kernel
theorem dX4_rowDegree_23 : decode cX4_rowDegree 23 = .ok (.if_icmp .lt 11, 3) := by decide +kernel
theorem dX4_rowDegree_26 : decode cX4_rowDegree 26 = .ok (.new 140, 3) := by decide +kernel
theorem dX4_rowDegree_29 : decode cX4_rowDegree 29 = .ok (.dup, 1) := by decide +kernel
theorem dX4_rowDegree_30 : decode cX4_rowDegree 30 = .ok (.invokespecial 142, 3) := by decide +kernel
theorem dX4_rowDegree_33 : decode cX4_rowDegree 33 = .ok (.athrow, 1) := by decide +kernel
theorem dX4_rowDegree_34 : decode cX4_rowDegree 34 = .ok (.aload_n 0, 1) := by decide +kernel
theorem dX4_rowDegree_35 : decode cX4_rowDegree 35 = .ok (.getfield 26, 3) := by decide +kernel
theorem dX4_rowDegree_38 : decode cX4_rowDegree 38 = .ok (.iload_n 1, 1) := by decide +kernel
theorem dX4_rowDegree_39 : decode cX4_rowDegree 39 = .ok (.invokevirtual 238, 3) := by decide +kernel
theorem dX4_rowDegree_42 : decode cX4_rowDegree 42 = .ok (.ireturn, 1) := by decide +kernel
theorem dX4_rowSign_0 : decode cX4_rowSign 0 = .ok (.aload_n 0, 1) := by decide +kernel
theorem dX4_rowSign_1 : decode cX4_rowSign 1 = .ok (.aload_n 0, 1) := by decide +kernel
theorem dX4_rowSign_2 : decode cX4_rowSign 2 = .ok (.getfield 10, 3) := by decide +kernel
theorem dX4_rowSign_5 : decode cX4_rowSign 5 = .ok (.getfield 147, 3) := by decide +kernel
theorem dX4_rowSign_8 : decode cX4_rowSign 8 = .ok (.invokevirtual 162, 3) := by decide +kernel
theorem dX4_rowSign_11 : decode cX4_rowSign 11 = .ok (.iload_n 1, 1) := by decide +kernel
theorem dX4_rowSign_12 : decode cX4_rowSign 12 = .ok (.ifCond .lt 14, 3) := by decide +kernel
theorem dX4_rowSign_15 : decode cX4_rowSign 15 = .ok (.iload_n 1, 1) := by decide +kernel
theorem dX4_rowSign_16 : decode cX4_rowSign 16 = .ok (.aload_n 0, 1) := by decide +kernel
theorem dX4_rowSign_17 : decode cX4_rowSign 17 = .ok (.getfield 26, 3) := by decide +kernel
theorem dX4_rowSign_20 : decode cX4_rowSign 20 = .ok (.getfield 226, 3) := by decide +kernel
theorem dX4_rowSign_23 : decode cX4_rowSign 23 = .ok (.if_icmp .lt 11, 3) := by decide +kernel
theorem dX4_rowSign_26 : decode cX4_rowSign 26 = .ok (.new 140, 3) := by decide +kernel
theorem dX4_rowSign_29 : decode cX4_rowSign 29 = .ok (.dup, 1) := by decide +kernel
theorem dX4_rowSign_30 : decode cX4_rowSign 30 = .ok (.invokespecial 142, 3) := by decide +kernel
theorem dX4_rowSign_33 : decode cX4_rowSign 33 = .ok (.athrow, 1) := by decide +kernel
theorem dX4_rowSign_34 : decode cX4_rowSign 34 = .ok (.iload_n 2, 1) := by decide +kernel
theorem dX4_rowSign_35 : decode cX4_rowSign 35 = .ok (.invokestatic 216, 3) := by decide +kernel
theorem dX4_rowSign_38 : decode cX4_rowSign 38 = .ok (.ifCond .ne 11, 3) := by decide +kernel
theorem dX4_rowSign_41 : decode cX4_rowSign 41 = .ok (.new 67, 3) := by decide +kernel
theorem dX4_rowSign_44 : decode cX4_rowSign 44 = .ok (.dup, 1) := by decide +kernel
theorem dX4_rowSign_45 : decode cX4_rowSign 45 = .ok (.invokespecial 69, 3) := by decide +kernel
theorem dX4_rowSign_48 : decode cX4_rowSign 48 = .ok (.athrow, 1) := by decide +kernel
theorem dX4_rowSign_49 : decode cX4_rowSign 49 = .ok (.aload_n 0, 1) := by decide +kernel
theorem dX4_rowSign_50 : decode cX4_rowSign 50 = .ok (.getfield 26, 3) := by decide +kernel
theorem dX4_rowSign_53 : decode cX4_rowSign 53 = .ok (.iload_n 1, 1) := by decide +kernel
theorem dX4_rowSign_54 : decode cX4_rowSign 54 = .ok (.iload_n 2, 1) := by decide +kernel
theorem dX4_rowSign_55 : decode cX4_rowSign 55 = .ok (.invokevirtual 241, 3) := by decide +kernel
theorem dX4_rowSign_58 : decode cX4_rowSign 58 = .ok (.ireturn, 1) := by decide +kernel
theorem dX4_changes_0 : decode cX4_changes 0 = .ok (.iload_n 1, 1) := by decide +kernel
theorem dX4_changes_1 : decode cX4_changes 1 = .ok (.iconst 1, 1) := by decide +kernel
theorem dX4_changes_2 : decode cX4_changes 2 = .ok (.if_icmp .lt 15, 3) := by decide +kernel
theorem dX4_changes_5 : decode cX4_changes 5 = .ok (.iload_n 1, 1) := by decide +kernel
theorem dX4_changes_6 : decode cX4_changes 6 = .ok (.iconst 2, 1) := by decide +kernel
theorem dX4_changes_7 : decode cX4_changes 7 = .ok (.if_icmp .gt 10, 3) := by decide +kernel
theorem dX4_changes_10 : decode cX4_changes 10 = .ok (.iload_n 2, 1) := by decide +kernel
theorem dX4_changes_11 : decode cX4_changes 11 = .ok (.invokestatic 216, 3) := by decide +kernel
theorem dX4_changes_14 : decode cX4_changes 14 = .ok (.ifCond .ne 11, 3) := by decide +kernel
theorem dX4_changes_17 : decode cX4_changes 17 = .ok (.new 67, 3) := by decide +kernel
theorem dX4_changes_20 : decode cX4_changes 20 = .ok (.dup, 1) := by decide +kernel
theorem dX4_changes_21 : decode cX4_changes 21 = .ok (.invokespecial 69, 3) := by decide +kernel
theorem dX4_changes_24 : decode cX4_changes 24 = .ok (.athrow, 1) := by decide +kernel
theorem dX4_changes_25 : decode cX4_changes 25 = .ok (.iload_n 1, 1) := by decide +kernel
theorem dX4_changes_26 : decode cX4_changes 26 = .ok (.iconst 2, 1) := by decide +kernel
theorem dX4_changes_27 : decode cX4_changes 27 = .ok (.if_icmp .ne 9, 3) := by decide +kernel
theorem dX4_changes_30 : decode cX4_changes 30 = .ok (.aload_n 0, 1) := by decide +kernel
theorem dX4_changes_31 : decode cX4_changes 31 = .ok (.iload_n 2, 1) := by decide +kernel
theorem dX4_changes_32 : decode cX4_changes 32 = .ok (.invokevirtual 244, 3) := by decide +kernel
theorem dX4_changes_35 : decode cX4_changes 35 = .ok (.ireturn, 1) := by decide +kernel
theorem dX4_changes_36 : decode cX4_changes 36 = .ok (.aload_n 0, 1) := by decide +kernel
theorem dX4_changes_37 : decode cX4_changes 37 = .ok (.aload_n 0, 1) := by decide +kernel
theorem dX4_changes_38 : decode cX4_changes 38 = .ok (.getfield 10, 3) := by decide +kernel
theorem dX4_changes_41 : decode cX4_changes 41 = .ok (.getfield 147, 3) := by decide +kernel
theorem dX4_changes_44 : decode cX4_changes 44 = .ok (.invokevirtual 162, 3) := by decide +kernel
theorem dX4_changes_47 : decode cX4_changes 47 = .ok (.aload_n 0, 1) := by decide +kernel
theorem dX4_changes_48 : decode cX4_changes 48 = .ok (.getfield 26, 3) := by decide +kernel
theorem dX4_changes_51 : decode cX4_changes 51 = .ok (.iload_n 2, 1) := by decide +kernel
theorem dX4_changes_52 : decode cX4_changes 52 = .ok (.invokevirtual 247, 3) := by decide +kernel
theorem dX4_changes_55 : decode cX4_changes 55 = .ok (.ireturn, 1) := by decide +kernel
theorem dX4_surplus_0 : decode cX4_surplus 0 = .ok (.iload_n 1, 1) := by decide +kernel
theorem dX4_surplus_1 : decode cX4_surplus 1 = .ok (.iload_n 2, 1) := by decide +kernel
theorem dX4_surplus_2 : decode cX4_surplus 2 = .ok (.invokestatic 196, 3) := by decide +kernel
theorem dX4_surplus_5 : decode cX4_surplus 5 = .ok (.ifCond .ne 11, 3) := by decide +kernel
theorem dX4_surplus_8 : decode cX4_surplus 8 = .ok (.new 67, 3) := by decide +kernel
theorem dX4_surplus_11 : decode cX4_surplus 11 = .ok (.dup, 1) := by decide +kernel
theorem dX4_surplus_12 : decode cX4_surplus 12 = .ok (.invokespecial 69, 3) := by decide +kernel
theorem dX4_surplus_15 : decode cX4_surplus 15 = .ok (.athrow, 1) := by decide +kernel
theorem dX4_surplus_16 : decode cX4_surplus 16 = .ok (.aload_n 0, 1) := by decide +kernel
theorem dX4_surplus_17 : decode cX4_surplus 17 = .ok (.aload_n 0, 1) := by decide +kernel
theorem dX4_surplus_18 : decode cX4_surplus 18 = .ok (.getfield 10, 3) := by decide +kernel
theorem dX4_surplus_21 : decode cX4_surplus 21 = .ok (.getfield 147, 3) := by decide +kernel
theorem dX4_surplus_24 : decode cX4_surplus 24 = .ok (.invokevirtual 162, 3) := by decide +kernel
theorem dX4_surplus_27 : decode cX4_surplus 27 = .ok (.aload_n 0, 1) := by decide +kernel
theorem dX4_surplus_28 : decode cX4_surplus 28 = .ok (.getfield 26, 3) := by decide +kernel
theorem dX4_surplus_31 : decode cX4_surplus 31 = .ok (.getfield 226, 3) := by decide +kernel
theorem dX4_surplus_34 : decode cX4_surplus 34 = .ok (.ifCond .ne 5, 3) := by decide +kernel
theorem dX4_surplus_37 : decode cX4_surplus 37 = .ok (.iconst (-1), 1) := by decide +kernel
theorem dX4_surplus_38 : decode cX4_surplus 38 = .ok (.ireturn, 1) := by decide +kernel
theorem dX4_surplus_39 : decode cX4_surplus 39 = .ok (.aload_n 0, 1) := by decide +kernel
theorem dX4_surplus_40 : decode cX4_surplus 40 = .ok (.iload_n 1, 1) := by decide +kernel
theorem dX4_surplus_41 : decode cX4_surplus 41 = .ok (.invokevirtual 244, 3) := by decide +kernel
theorem dX4_surplus_44 : decode cX4_surplus 44 = .ok (.aload_n 0, 1) := by decide +kernel
theorem dX4_surplus_45 : decode cX4_surplus 45 = .ok (.iload_n 2, 1) := by decide +kernel
theorem dX4_surplus_46 : decode cX4_surplus 46 = .ok (.invokevirtual 244, 3) := by decide +kernel
theorem dX4_surplus_49 : decode cX4_surplus 49 = .ok (.isub, 1) := by decide +kernel
theorem dX4_surplus_50 : decode cX4_surplus 50 = .ok (.aload_n 0, 1) := by decide +kernel
theorem dX4_surplus_51 : decode cX4_surplus 51 = .ok (.getfield 26, 3) := by decide +kernel
theorem dX4_surplus_54 : decode cX4_surplus 54 = .ok (.iload_n 1, 1) := by decide +kernel
theorem dX4_surplus_55 : decode cX4_surplus 55 = .ok (.iload_n 2, 1) := by decide +kernel
theorem dX4_surplus_56 : decode cX4_surplus 56 = .ok (.invokevirtual 250, 3) := by decide +kernel
theorem dX4_surplus_59 : decode cX4_surplus 59 = .ok (.isub, 1) := by decide +kernel
theorem dX4_surplus_60 : decode cX4_surplus 60 = .ok (.ireturn, 1) := by decide +kernel
theorem dX4_write_0 : decode cX4_write 0 = .ok (.aload_n 0, 1) := by decide +kernel
theorem dX4_write_1 : decode cX4_write 1 = .ok (.getfield 40, 3) := by decide +kernel
theorem dX4_write_4 : decode cX4_write 4 = .ok (.invokevirtual 253, 3) := by decide +kernel
theorem dX4_write_7 : decode cX4_write 7 = .ok (.aload_n 0, 1) := by decide +kernel
theorem dX4_write_8 : decode cX4_write 8 = .ok (.getfield 40, 3) := by decide +kernel
theorem dX4_write_11 : decode cX4_write 11 = .ok (.aload_n 0, 1) := by decide +kernel
theorem dX4_write_12 : decode cX4_write 12 = .ok (.getfield 10, 3) := by decide +kernel
theorem dX4_write_15 : decode cX4_write 15 = .ok (.getfield 147, 3) := by decide +kernel
theorem dX4_write_18 : decode cX4_write 18 = .ok (.invokevirtual 254, 3) := by decide +kernel
theorem dX4_write_21 : decode cX4_write 21 = .ok (.aload_n 0, 1) := by decide +kernel
theorem dX4_write_22 : decode cX4_write 22 = .ok (.getfield 40, 3) := by decide +kernel
theorem dX4_write_25 : decode cX4_write 25 = .ok (.getfield 257, 3) := by decide +kernel
theorem dX4_write_28 : decode cX4_write 28 = .ok (.ireturn, 1) := by decide +kernel
theorem dX4_writeTurns_0 : decode cX4_writeTurns 0 = .ok (.aload_n 0, 1) := by decide +kernel
theorem dX4_writeTurns_1 : decode cX4_writeTurns 1 = .ok (.getfield 40, 3) := by decide +kernel
theorem dX4_writeTurns_4 : decode cX4_writeTurns 4 = .ok (.invokevirtual 253, 3) := by decide +kernel
theorem dX4_writeTurns_7 : decode cX4_writeTurns 7 = .ok (.iconst 0, 1) := by decide +kernel
theorem dX4_writeTurns_8 : decode cX4_writeTurns 8 = .ok (.istore_n 1, 1) := by decide +kernel
theorem dX4_writeTurns_9 : decode cX4_writeTurns 9 = .ok (.iload_n 1, 1) := by decide +kernel
theorem dX4_writeTurns_10 : decode cX4_writeTurns 10 = .ok (.aload_n 0, 1) := by decide +kernel
theorem dX4_writeTurns_11 : decode cX4_writeTurns 11 = .ok (.getfield 10, 3) := by decide +kernel
theorem dX4_writeTurns_14 : decode cX4_writeTurns 14 = .ok (.getfield 114, 3) := by decide +kernel
theorem dX4_writeTurns_17 : decode cX4_writeTurns 17 = .ok (.if_icmp .ge 52, 3) := by decide +kernel
theorem dX4_writeTurns_20 : decode cX4_writeTurns 20 = .ok (.iload_n 1, 1) := by decide +kernel
theorem dX4_writeTurns_21 : decode cX4_writeTurns 21 = .ok (.bipush 60, 2) := by decide +kernel
theorem dX4_writeTurns_23 : decode cX4_writeTurns 23 = .ok (.if_icmp .ge 46, 3) := by decide +kernel
theorem dX4_writeTurns_26 : decode cX4_writeTurns 26 = .ok (.aload_n 0, 1) := by decide +kernel
theorem dX4_writeTurns_27 : decode cX4_writeTurns 27 = .ok (.getfield 40, 3) := by decide +kernel
theorem dX4_writeTurns_30 : decode cX4_writeTurns 30 = .ok (.aload_n 0, 1) := by decide +kernel
theorem dX4_writeTurns_31 : decode cX4_writeTurns 31 = .ok (.getfield 10, 3) := by decide +kernel
theorem dX4_writeTurns_34 : decode cX4_writeTurns 34 = .ok (.iload_n 1, 1) := by decide +kernel
theorem dX4_writeTurns_35 : decode cX4_writeTurns 35 = .ok (.invokevirtual 258, 3) := by decide +kernel
theorem dX4_writeTurns_38 : decode cX4_writeTurns 38 = .ok (.aload_n 0, 1) := by decide +kernel
theorem dX4_writeTurns_39 : decode cX4_writeTurns 39 = .ok (.getfield 40, 3) := by decide +kernel
theorem dX4_writeTurns_42 : decode cX4_writeTurns 42 = .ok (.aload_n 0, 1) := by decide +kernel
theorem dX4_writeTurns_43 : decode cX4_writeTurns 43 = .ok (.getfield 10, 3) := by decide +kernel
theorem dX4_writeTurns_46 : decode cX4_writeTurns 46 = .ok (.getfield 262, 3) := by decide +kernel
theorem dX4_writeTurns_49 : decode cX4_writeTurns 49 = .ok (.iload_n 1, 1) := by decide +kernel
theorem dX4_writeTurns_50 : decode cX4_writeTurns 50 = .ok (.iaload, 1) := by decide +kernel
theorem dX4_writeTurns_51 : decode cX4_writeTurns 51 = .ok (.aload_n 0, 1) := by decide +kernel
theorem dX4_writeTurns_52 : decode cX4_writeTurns 52 = .ok (.getfield 10, 3) := by decide +kernel
theorem dX4_writeTurns_55 : decode cX4_writeTurns 55 = .ok (.getfield 265, 3) := by decide +kernel
theorem dX4_writeTurns_58 : decode cX4_writeTurns 58 = .ok (.iload_n 1, 1) := by decide +kernel
theorem dX4_writeTurns_59 : decode cX4_writeTurns 59 = .ok (.iaload, 1) := by decide +kernel
theorem dX4_writeTurns_60 : decode cX4_writeTurns 60 = .ok (.invokevirtual 268, 3) := by decide +kernel
theorem dX4_writeTurns_63 : decode cX4_writeTurns 63 = .ok (.iinc 1 1, 3) := by decide +kernel
theorem dX4_writeTurns_66 : decode cX4_writeTurns 66 = .ok (.goto (-57), 3) := by decide +kernel
theorem dX4_writeTurns_69 : decode cX4_writeTurns 69 = .ok (.aload_n 0, 1) := by decide +kernel
theorem dX4_writeTurns_70 : decode cX4_writeTurns 70 = .ok (.getfield 40, 3) := by decide +kernel
theorem dX4_writeTurns_73 : decode cX4_writeTurns 73 = .ok (.aload_n 0, 1) := by decide +kernel
theorem dX4_writeTurns_74 : decode cX4_writeTurns 74 = .ok (.getfield 10, 3) := by decide +kernel
theorem dX4_writeTurns_77 : decode cX4_writeTurns 77 = .ok (.aload_n 0, 1) := by decide +kernel
theorem dX4_writeTurns_78 : decode cX4_writeTurns 78 = .ok (.getfield 10, 3) := by decide +kernel
theorem dX4_writeTurns_81 : decode cX4_writeTurns 81 = .ok (.getfield 114, 3) := by decide +kernel
theorem dX4_writeTurns_84 : decode cX4_writeTurns 84 = .ok (.invokevirtual 258, 3) := by decide +kernel
theorem dX4_writeTurns_87 : decode cX4_writeTurns 87 = .ok (.aload_n 0, 1) := by decide +kernel
theorem dX4_writeTurns_88 : decode cX4_writeTurns 88 = .ok (.getfield 40, 3) := by decide +kernel
theorem dX4_writeTurns_91 : decode cX4_writeTurns 91 = .ok (.getfield 257, 3) := by decide +kernel
theorem dX4_writeTurns_94 : decode cX4_writeTurns 94 = .ok (.ireturn, 1) := by decide +kernel
theorem dX4_output_0 : decode cX4_output 0 = .ok (.iload_n 1, 1) := by decide +kernel
theorem dX4_output_1 : decode cX4_output 1 = .ok (.ifCond .lt 38, 3) := by decide +kernel
theorem dX4_output_4 : decode cX4_output 4 = .ok (.iload_n 1, 1) := by decide +kernel
theorem dX4_output_5 : decode cX4_output 5 = .ok (.aload_n 0, 1) := by decide +kernel
theorem dX4_output_6 : decode cX4_output 6 = .ok (.getfield 40, 3) := by decide +kernel
theorem dX4_output_9 : decode cX4_output 9 = .ok (.getfield 257, 3) := by decide +kernel
theorem dX4_output_12 : decode cX4_output 12 = .ok (.if_icmp .ge 27, 3) := by decide +kernel
theorem dX4_output_15 : decode cX4_output 15 = .ok (.iload_n 1, 1) := by decide +kernel
theorem dX4_output_16 : decode cX4_output 16 = .ok (.aload_n 0, 1) := by decide +kernel
theorem dX4_output_17 : decode cX4_output 17 = .ok (.getfield 40, 3) := by decide +kernel
theorem dX4_output_20 : decode cX4_output 20 = .ok (.getfield 272, 3) := by decide +kernel
theorem dX4_output_23 : decode cX4_output 23 = .ok (.arraylength, 1) := by decide +kernel
theorem dX4_output_24 : decode cX4_output 24 = .ok (.if_icmp .ge 15, 3) := by decide +kernel
theorem dX4_output_27 : decode cX4_output 27 = .ok (.aload_n 0, 1) := by decide +kernel
theorem dX4_output_28 : decode cX4_output 28 = .ok (.getfield 40, 3) := by decide +kernel
theorem dX4_output_31 : decode cX4_output 31 = .ok (.getfield 272, 3) := by decide +kernel
theorem dX4_output_34 : decode cX4_output 34 = .ok (.iload_n 1, 1) := by decide +kernel
theorem dX4_output_35 : decode cX4_output 35 = .ok (.baload, 1) := by decide +kernel
theorem dX4_output_36 : decode cX4_output 36 = .ok (.goto 4, 3) := by decide +kernel
theorem dX4_output_39 : decode cX4_output 39 = .ok (.iconst (-1), 1) := by decide +kernel
theorem dX4_output_40 : decode cX4_output 40 = .ok (.ireturn, 1) := by decide +kernel
theorem dX4_undo_0 : decode cX4_undo 0 = .ok (.aload_n 0, 1) := by decide +kernel
theorem dX4_undo_1 : decode cX4_undo 1 = .ok (.getfield 81, 3) := by decide +kernel
theorem dX4_undo_4 : decode cX4_undo 4 = .ok (.ifCond .gt 5, 3) := by decide +kernel
theorem dX4_undo_7 : decode cX4_undo 7 = .ok (.iconst (-1), 1) := by decide +kernel
theorem dX4_undo_8 : decode cX4_undo 8 = .ok (.ireturn, 1) := by decide +kernel
theorem dX4_undo_9 : decode cX4_undo 9 = .ok (.aload_n 0, 1) := by decide +kernel
theorem dX4_undo_10 : decode cX4_undo 10 = .ok (.getfield 10, 3) := by decide +kernel
theorem dX4_undo_13 : decode cX4_undo 13 = .ok (.invokevirtual 276, 3) := by decide +kernel
theorem dX4_undo_16 : decode cX4_undo 16 = .ok (.aload_n 0, 1) := by decide +kernel
theorem dX4_undo_17 : decode cX4_undo 17 = .ok (.dup, 1) := by decide +kernel
theorem dX4_undo_18 : decode cX4_undo 18 = .ok (.getfield 81, 3) := by decide +kernel
theorem dX4_undo_21 : decode cX4_undo 21 = .ok (.iconst 1, 1) := by decide +kernel
theorem dX4_undo_22 : decode cX4_undo 22 = .ok (.isub, 1) := by decide +kernel
theorem dX4_undo_23 : decode cX4_undo 23 = .ok (.putfield 81, 3) := by decide +kernel
theorem dX4_undo_26 : decode cX4_undo 26 = .ok (.aload_n 0, 1) := by decide +kernel
theorem dX4_undo_27 : decode cX4_undo 27 = .ok (.getfield 81, 3) := by decide +kernel
theorem dX4_undo_30 : decode cX4_undo 30 = .ok (.ireturn, 1) := by decide +kernel
theorem dX4_save_0 : decode cX4_save 0 = .ok (.iload_n 1, 1) := by decide +kernel
theorem dX4_save_1 : decode cX4_save 1 = .ok (.ifCond .lt 8, 3) := by decide +kernel
theorem dX4_save_4 : decode cX4_save 4 = .ok (.iload_n 1, 1) := by decide +kernel
theorem dX4_save_5 : decode cX4_save 5 = .ok (.iconst 2, 1) := by decide +kernel
theorem dX4_save_6 : decode cX4_save 6 = .ok (.if_icmp .lt 11, 3) := by decide +kernel
theorem dX4_save_9 : decode cX4_save 9 = .ok (.new 67, 3) := by decide +kernel
theorem dX4_save_12 : decode cX4_save 12 = .ok (.dup, 1) := by decide +kernel
theorem dX4_save_13 : decode cX4_save 13 = .ok (.invokespecial 69, 3) := by decide +kernel
theorem dX4_save_16 : decode cX4_save 16 = .ok (.athrow, 1) := by decide +kernel
theorem dX4_save_17 : decode cX4_save 17 = .ok (.aload_n 0, 1) := by decide +kernel
theorem dX4_save_18 : decode cX4_save 18 = .ok (.getfield 19, 3) := by decide +kernel
theorem dX4_save_21 : decode cX4_save 21 = .ok (.iload_n 1, 1) := by decide +kernel
theorem dX4_save_22 : decode cX4_save 22 = .ok (.aaload, 1) := by decide +kernel
theorem dX4_save_23 : decode cX4_save 23 = .ok (.ifnonnull 16, 3) := by decide +kernel
theorem dX4_save_26 : decode cX4_save 26 = .ok (.aload_n 0, 1) := by decide +kernel
theorem dX4_save_27 : decode cX4_save 27 = .ok (.getfield 19, 3) := by decide +kernel
theorem dX4_save_30 : decode cX4_save 30 = .ok (.iload_n 1, 1) := by decide +kernel
theorem dX4_save_31 : decode cX4_save 31 = .ok (.new 7, 3) := by decide +kernel
theorem dX4_save_34 : decode cX4_save 34 = .ok (.dup, 1) := by decide +kernel
theorem dX4_save_35 : decode cX4_save 35 = .ok (.invokespecial 9, 3) := by decide +kernel
theorem dX4_save_38 : decode cX4_save 38 = .ok (.aastore, 1) := by decide +kernel
theorem dX4_save_39 : decode cX4_save 39 = .ok (.aload_n 0, 1) := by decide +kernel
theorem dX4_save_40 : decode cX4_save 40 = .ok (.getfield 19, 3) := by decide +kernel
theorem dX4_save_43 : decode cX4_save 43 = .ok (.iload_n 1, 1) := by decide +kernel
theorem dX4_save_44 : decode cX4_save 44 = .ok (.aaload, 1) := by decide +kernel
theorem dX4_save_45 : decode cX4_save 45 = .ok (.aload_n 0, 1) := by decide +kernel
theorem dX4_save_46 : decode cX4_save 46 = .ok (.getfield 10, 3) := by decide +kernel
theorem dX4_save_49 : decode cX4_save 49 = .ok (.invokevirtual 77, 3) := by decide +kernel
theorem dX4_save_52 : decode cX4_save 52 = .ok (.return_, 1) := by decide +kernel
theorem dX4_restore_0 : decode cX4_restore 0 = .ok (.iload_n 1, 1) := by decide +kernel
theorem dX4_restore_1 : decode cX4_restore 1 = .ok (.ifCond .lt 8, 3) := by decide +kernel
theorem dX4_restore_4 : decode cX4_restore 4 = .ok (.iload_n 1, 1) := by decide +kernel
theorem dX4_restore_5 : decode cX4_restore 5 = .ok (.iconst 2, 1) := by decide +kernel
theorem dX4_restore_6 : decode cX4_restore 6 = .ok (.if_icmp .lt 11, 3) := by decide +kernel
theorem dX4_restore_9 : decode cX4_restore 9 = .ok (.new 67, 3) := by decide +kernel
theorem dX4_restore_12 : decode cX4_restore 12 = .ok (.dup, 1) := by decide +kernel
theorem dX4_restore_13 : decode cX4_restore 13 = .ok (.invokespecial 69, 3) := by decide +kernel
theorem dX4_restore_16 : decode cX4_restore 16 = .ok (.athrow, 1) := by decide +kernel
theorem dX4_restore_17 : decode cX4_restore 17 = .ok (.aload_n 0, 1) := by decide +kernel
theorem dX4_restore_18 : decode cX4_restore 18 = .ok (.getfield 19, 3) := by decide +kernel
theorem dX4_restore_21 : decode cX4_restore 21 = .ok (.iload_n 1, 1) := by decide +kernel
theorem dX4_restore_22 : decode cX4_restore 22 = .ok (.aaload, 1) := by decide +kernel
theorem dX4_restore_23 : decode cX4_restore 23 = .ok (.ifnonnull 11, 3) := by decide +kernel
theorem dX4_restore_26 : decode cX4_restore 26 = .ok (.new 56, 3) := by decide +kernel
theorem dX4_restore_29 : decode cX4_restore 29 = .ok (.dup, 1) := by decide +kernel
theorem dX4_restore_30 : decode cX4_restore 30 = .ok (.invokespecial 58, 3) := by decide +kernel
theorem dX4_restore_33 : decode cX4_restore 33 = .ok (.athrow, 1) := by decide +kernel
theorem dX4_restore_34 : decode cX4_restore 34 = .ok (.aload_n 0, 1) := by decide +kernel
theorem dX4_restore_35 : decode cX4_restore 35 = .ok (.getfield 10, 3) := by decide +kernel
theorem dX4_restore_38 : decode cX4_restore 38 = .ok (.aload_n 0, 1) := by decide +kernel
theorem dX4_restore_39 : decode cX4_restore 39 = .ok (.getfield 19, 3) := by decide +kernel
theorem dX4_restore_42 : decode cX4_restore 42 = .ok (.iload_n 1, 1) := by decide +kernel
theorem dX4_restore_43 : decode cX4_restore 43 = .ok (.aaload, 1) := by decide +kernel
theorem dX4_restore_44 : decode cX4_restore 44 = .ok (.invokevirtual 77, 3) := by decide +kernel
theorem dX4_restore_47 : decode cX4_restore 47 = .ok (.aload_n 0, 1) := by decide +kernel
theorem dX4_restore_48 : decode cX4_restore 48 = .ok (.iconst 0, 1) := by decide +kernel
theorem dX4_restore_49 : decode cX4_restore 49 = .ok (.putfield 81, 3) := by decide +kernel
theorem dX4_restore_52 : decode cX4_restore 52 = .ok (.return_, 1) := by decide +kernel
theorem dX4_isPlayer_0 : decode cX4_isPlayer 0 = .ok (.iload_n 0, 1) := by decide +kernel
theorem dX4_isPlayer_1 : decode cX4_isPlayer 1 = .ok (.ifCond .eq 8, 3) := by decide +kernel
theorem dX4_isPlayer_4 : decode cX4_isPlayer 4 = .ok (.iload_n 0, 1) := by decide +kernel
theorem dX4_isPlayer_5 : decode cX4_isPlayer 5 = .ok (.iconst 1, 1) := by decide +kernel
theorem dX4_isPlayer_6 : decode cX4_isPlayer 6 = .ok (.if_icmp .ne 7, 3) := by decide +kernel
theorem dX4_isPlayer_9 : decode cX4_isPlayer 9 = .ok (.iconst 1, 1) := by decide +kernel
theorem dX4_isPlayer_10 : decode cX4_isPlayer 10 = .ok (.goto 4, 3) := by decide +kernel
theorem dX4_isPlayer_13 : decode cX4_isPlayer 13 = .ok (.iconst 0, 1) := by decide +kernel
theorem dX4_isPlayer_14 : decode cX4_isPlayer 14 = .ok (.ireturn, 1) := by decide +kernel
theorem dX4_isPlace_0 : decode cX4_isPlace 0 = .ok (.iload_n 0, 1) := by decide +kernel
theorem dX4_isPlace_1 : decode cX4_isPlace 1 = .ok (.bipush (-20), 2) := by decide +kernel
theorem dX4_isPlace_3 : decode cX4_isPlace 3 = .ok (.if_icmp .lt 13, 3) := by decide +kernel
theorem dX4_isPlace_6 : decode cX4_isPlace 6 = .ok (.iload_n 0, 1) := by decide +kernel
theorem dX4_isPlace_7 : decode cX4_isPlace 7 = .ok (.bipush 20, 2) := by decide +kernel
theorem dX4_isPlace_9 : decode cX4_isPlace 9 = .ok (.if_icmp .gt 7, 3) := by decide +kernel
theorem dX4_isPlace_12 : decode cX4_isPlace 12 = .ok (.iconst 1, 1) := by decide +kernel
theorem dX4_isPlace_13 : decode cX4_isPlace 13 = .ok (.goto 4, 3) := by decide +kernel
theorem dX4_isPlace_16 : decode cX4_isPlace 16 = .ok (.iconst 0, 1) := by decide +kernel
theorem dX4_isPlace_17 : decode cX4_isPlace 17 = .ok (.ireturn, 1) := by decide +kernel
theorem dX4_isInterval_0 : decode cX4_isInterval 0 = .ok (.iload_n 0, 1) := by decide +kernel
theorem dX4_isInterval_1 : decode cX4_isInterval 1 = .ok (.invokestatic 216, 3) := by decide +kernel
theorem dX4_isInterval_4 : decode cX4_isInterval 4 = .ok (.ifCond .eq 19, 3) := by decide +kernel
theorem dX4_isInterval_7 : decode cX4_isInterval 7 = .ok (.iload_n 1, 1) := by decide +kernel
theorem dX4_isInterval_8 : decode cX4_isInterval 8 = .ok (.invokestatic 216, 3) := by decide +kernel
theorem dX4_isInterval_11 : decode cX4_isInterval 11 = .ok (.ifCond .eq 12, 3) := by decide +kernel
theorem dX4_isInterval_14 : decode cX4_isInterval 14 = .ok (.iload_n 0, 1) := by decide +kernel
theorem dX4_isInterval_15 : decode cX4_isInterval 15 = .ok (.iload_n 1, 1) := by decide +kernel
theorem dX4_isInterval_16 : decode cX4_isInterval 16 = .ok (.if_icmp .ge 7, 3) := by decide +kernel
theorem dX4_isInterval_19 : decode cX4_isInterval 19 = .ok (.iconst 1, 1) := by decide +kernel
theorem dX4_isInterval_20 : decode cX4_isInterval 20 = .ok (.goto 4, 3) := by decide +kernel
theorem dX4_isInterval_23 : decode cX4_isInterval 23 = .ok (.iconst 0, 1) := by decide +kernel
theorem dX4_isInterval_24 : decode cX4_isInterval 24 = .ok (.ireturn, 1) := by decide +kernel
theorem dX4_isLayable_0 : decode cX4_isLayable 0 = .ok (.iload_n 0, 1) := by decide +kernel
theorem dX4_isLayable_1 : decode cX4_isLayable 1 = .ok (.ifCond .eq 19, 3) := by decide +kernel
theorem dX4_isLayable_4 : decode cX4_isLayable 4 = .ok (.iload_n 0, 1) := by decide +kernel
theorem dX4_isLayable_5 : decode cX4_isLayable 5 = .ok (.bipush (-9), 2) := by decide +kernel
theorem dX4_isLayable_7 : decode cX4_isLayable 7 = .ok (.if_icmp .lt 13, 3) := by decide +kernel
theorem dX4_isLayable_10 : decode cX4_isLayable 10 = .ok (.iload_n 0, 1) := by decide +kernel
theorem dX4_isLayable_11 : decode cX4_isLayable 11 = .ok (.bipush 9, 2) := by decide +kernel
theorem dX4_isLayable_13 : decode cX4_isLayable 13 = .ok (.if_icmp .gt 7, 3) := by decide +kernel
theorem dX4_isLayable_16 : decode cX4_isLayable 16 = .ok (.iconst 1, 1) := by decide +kernel
theorem dX4_isLayable_17 : decode cX4_isLayable 17 = .ok (.goto 4, 3) := by decide +kernel
theorem dX4_isLayable_20 : decode cX4_isLayable 20 = .ok (.iconst 0, 1) := by decide +kernel
theorem dX4_isLayable_21 : decode cX4_isLayable 21 = .ok (.ireturn, 1) := by decide +kernel
theorem dX4_buildRows_0 : decode cX4_buildRows 0 = .ok (.aload_n 0, 1) := by decide +kernel
theorem dX4_buildRows_1 : decode cX4_buildRows 1 = .ok (.getfield 26, 3) := by decide +kernel
theorem dX4_buildRows_4 : decode cX4_buildRows 4 = .ok (.aload_n 1, 1) := by decide +kernel
theorem dX4_buildRows_5 : decode cX4_buildRows 5 = .ok (.invokevirtual 279, 3) := by decide +kernel
theorem dX4_buildRows_8 : decode cX4_buildRows 8 = .ok (.aload_n 0, 1) := by decide +kernel
theorem dX4_buildRows_9 : decode cX4_buildRows 9 = .ok (.getfield 26, 3) := by decide +kernel
theorem dX4_buildRows_12 : decode cX4_buildRows 12 = .ok (.invokevirtual 282, 3) := by decide +kernel
theorem dX4_buildRows_15 : decode cX4_buildRows 15 = .ok (.return_, 1) := by decide +kernel
theorem dX4_makeClaim_0 : decode cX4_makeClaim 0 = .ok (.aload_n 0, 1) := by decide +kernel
theorem dX4_makeClaim_1 : decode cX4_makeClaim 1 = .ok (.getfield 10, 3) := by decide +kernel
theorem dX4_makeClaim_4 : decode cX4_makeClaim 4 = .ok (.iload_n 1, 1) := by decide +kernel
theorem dX4_makeClaim_5 : decode cX4_makeClaim 5 = .ok (.iload_n 2, 1) := by decide +kernel
theorem dX4_makeClaim_6 : decode cX4_makeClaim 6 = .ok (.iload 5, 2) := by decide +kernel
theorem dX4_makeClaim_8 : decode cX4_makeClaim 8 = .ok (.invokevirtual 285, 3) := by decide +kernel
theorem dX4_makeClaim_11 : decode cX4_makeClaim 11 = .ok (.istore 6, 2) := by decide +kernel
theorem dX4_makeClaim_13 : decode cX4_makeClaim 13 = .ok (.iload 6, 2) := by decide +kernel
theorem dX4_makeClaim_15 : decode cX4_makeClaim 15 = .ok (.ifCond .ne 17, 3) := by decide +kernel
theorem dX4_makeClaim_18 : decode cX4_makeClaim 18 = .ok (.aload_n 0, 1) := by decide +kernel
theorem dX4_makeClaim_19 : decode cX4_makeClaim 19 = .ok (.getfield 10, 3) := by decide +kernel
theorem dX4_makeClaim_22 : decode cX4_makeClaim 22 = .ok (.iload_n 1, 1) := by decide +kernel
theorem dX4_makeClaim_23 : decode cX4_makeClaim 23 = .ok (.iload_n 2, 1) := by decide +kernel
theorem dX4_makeClaim_24 : decode cX4_makeClaim 24 = .ok (.iload_n 3, 1) := by decide +kernel
theorem dX4_makeClaim_25 : decode cX4_makeClaim 25 = .ok (.iload 4, 2) := by decide +kernel
theorem dX4_makeClaim_27 : decode cX4_makeClaim 27 = .ok (.iload 5, 2) := by decide +kernel
theorem dX4_makeClaim_29 : decode cX4_makeClaim 29 = .ok (.invokevirtual 288, 3) := by decide +kernel
theorem dX4_makeClaim_32 : decode cX4_makeClaim 32 = .ok (.aload_n 0, 1) := by decide +kernel
theorem dX4_makeClaim_33 : decode cX4_makeClaim 33 = .ok (.iload 6, 2) := by decide +kernel
theorem dX4_makeClaim_35 : decode cX4_makeClaim 35 = .ok (.invokevirtual 292, 3) := by decide +kernel
theorem dX4_makeClaim_38 : decode cX4_makeClaim 38 = .ok (.ireturn, 1) := by decide +kernel
theorem dX4_layTerm_0 : decode cX4_layTerm 0 = .ok (.aload_n 0, 1) := by decide +kernel
theorem dX4_layTerm_1 : decode cX4_layTerm 1 = .ok (.getfield 10, 3) := by decide +kernel
theorem dX4_layTerm_4 : decode cX4_layTerm 4 = .ok (.iload_n 1, 1) := by decide +kernel
theorem dX4_layTerm_5 : decode cX4_layTerm 5 = .ok (.iload_n 2, 1) := by decide +kernel
theorem dX4_layTerm_6 : decode cX4_layTerm 6 = .ok (.invokevirtual 203, 3) := by decide +kernel
theorem dX4_layTerm_9 : decode cX4_layTerm 9 = .ok (.istore_n 3, 1) := by decide +kernel
theorem dX4_layTerm_10 : decode cX4_layTerm 10 = .ok (.iload_n 3, 1) := by decide +kernel
theorem dX4_layTerm_11 : decode cX4_layTerm 11 = .ok (.ifCond .ne 16, 3) := by decide +kernel
theorem dX4_layTerm_14 : decode cX4_layTerm 14 = .ok (.aload_n 0, 1) := by decide +kernel
theorem dX4_layTerm_15 : decode cX4_layTerm 15 = .ok (.getfield 10, 3) := by decide +kernel
theorem dX4_layTerm_18 : decode cX4_layTerm 18 = .ok (.iload_n 1, 1) := by decide +kernel
theorem dX4_layTerm_19 : decode cX4_layTerm 19 = .ok (.iload_n 2, 1) := by decide +kernel
theorem dX4_layTerm_20 : decode cX4_layTerm 20 = .ok (.aload_n 0, 1) := by decide +kernel
theorem dX4_layTerm_21 : decode cX4_layTerm 21 = .ok (.getfield 26, 3) := by decide +kernel
theorem dX4_layTerm_24 : decode cX4_layTerm 24 = .ok (.invokevirtual 209, 3) := by decide +kernel
theorem dX4_layTerm_27 : decode cX4_layTerm 27 = .ok (.aload_n 0, 1) := by decide +kernel
theorem dX4_layTerm_28 : decode cX4_layTerm 28 = .ok (.iload_n 3, 1) := by decide +kernel
theorem dX4_layTerm_29 : decode cX4_layTerm 29 = .ok (.invokevirtual 292, 3) := by decide +kernel
theorem dX4_layTerm_32 : decode cX4_layTerm 32 = .ok (.ireturn, 1) := by decide +kernel
theorem dX4_passTurn_0 : decode cX4_passTurn 0 = .ok (.aload_n 0, 1) := by decide +kernel
theorem dX4_passTurn_1 : decode cX4_passTurn 1 = .ok (.getfield 10, 3) := by decide +kernel
theorem dX4_passTurn_4 : decode cX4_passTurn 4 = .ok (.getfield 117, 3) := by decide +kernel
theorem dX4_passTurn_7 : decode cX4_passTurn 7 = .ok (.ifCond .eq 7, 3) := by decide +kernel
theorem dX4_passTurn_10 : decode cX4_passTurn 10 = .ok (.iconst 1, 1) := by decide +kernel
theorem dX4_passTurn_11 : decode cX4_passTurn 11 = .ok (.goto 4, 3) := by decide +kernel
theorem dX4_passTurn_14 : decode cX4_passTurn 14 = .ok (.iconst 0, 1) := by decide +kernel
theorem dX4_passTurn_15 : decode cX4_passTurn 15 = .ok (.istore_n 1, 1) := by decide +kernel
theorem dX4_passTurn_16 : decode cX4_passTurn 16 = .ok (.iload_n 1, 1) := by decide +kernel
theorem dX4_passTurn_17 : decode cX4_passTurn 17 = .ok (.ifCond .ne 16, 3) := by decide +kernel
theorem dX4_passTurn_20 : decode cX4_passTurn 20 = .ok (.aload_n 0, 1) := by decide +kernel
theorem dX4_passTurn_21 : decode cX4_passTurn 21 = .ok (.getfield 10, 3) := by decide +kernel
theorem dX4_passTurn_24 : decode cX4_passTurn 24 = .ok (.iconst 0, 1) := by decide +kernel
theorem dX4_passTurn_25 : decode cX4_passTurn 25 = .ok (.iconst 0, 1) := by decide +kernel
theorem dX4_passTurn_26 : decode cX4_passTurn 26 = .ok (.aload_n 0, 1) := by decide +kernel
theorem dX4_passTurn_27 : decode cX4_passTurn 27 = .ok (.getfield 26, 3) := by decide +kernel
theorem dX4_passTurn_30 : decode cX4_passTurn 30 = .ok (.invokevirtual 209, 3) := by decide +kernel
theorem dX4_passTurn_33 : decode cX4_passTurn 33 = .ok (.aload_n 0, 1) := by decide +kernel
theorem dX4_passTurn_34 : decode cX4_passTurn 34 = .ok (.iload_n 1, 1) := by decide +kernel
theorem dX4_passTurn_35 : decode cX4_passTurn 35 = .ok (.invokevirtual 292, 3) := by decide +kernel
theorem dX4_passTurn_38 : decode cX4_passTurn 38 = .ok (.ireturn, 1) := by decide +kernel
theorem dX4_settle_0 : decode cX4_settle 0 = .ok (.iload_n 1, 1) := by decide +kernel
theorem dX4_settle_1 : decode cX4_settle 1 = .ok (.ifCond .lt 19, 3) := by decide +kernel
theorem dX4_settle_4 : decode cX4_settle 4 = .ok (.iload_n 1, 1) := by decide +kernel
theorem dX4_settle_5 : decode cX4_settle 5 = .ok (.bipush 8, 2) := by decide +kernel
theorem dX4_settle_7 : decode cX4_settle 7 = .ok (.if_icmp .gt 13, 3) := by decide +kernel
theorem dX4_settle_10 : decode cX4_settle 10 = .ok (.aload_n 0, 1) := by decide +kernel
theorem dX4_settle_11 : decode cX4_settle 11 = .ok (.getfield 44, 3) := by decide +kernel
theorem dX4_settle_14 : decode cX4_settle 14 = .ok (.iload_n 1, 1) := by decide +kernel
theorem dX4_settle_15 : decode cX4_settle 15 = .ok (.dup2, 1) := by decide +kernel
theorem dX4_settle_16 : decode cX4_settle 16 = .ok (.iaload, 1) := by decide +kernel
theorem dX4_settle_17 : decode cX4_settle 17 = .ok (.iconst 1, 1) := by decide +kernel
theorem dX4_settle_18 : decode cX4_settle 18 = .ok (.iadd, 1) := by decide +kernel
theorem dX4_settle_19 : decode cX4_settle 19 = .ok (.iastore, 1) := by decide +kernel
theorem dX4_settle_20 : decode cX4_settle 20 = .ok (.iload_n 1, 1) := by decide +kernel
theorem dX4_settle_21 : decode cX4_settle 21 = .ok (.ifCond .ne 22, 3) := by decide +kernel
theorem dX4_settle_24 : decode cX4_settle 24 = .ok (.aload_n 0, 1) := by decide +kernel
theorem dX4_settle_25 : decode cX4_settle 25 = .ok (.getfield 81, 3) := by decide +kernel
theorem dX4_settle_28 : decode cX4_settle 28 = .ok (.bipush 12, 2) := by decide +kernel
theorem dX4_settle_30 : decode cX4_settle 30 = .ok (.if_icmp .ge 13, 3) := by decide +kernel
theorem dX4_settle_33 : decode cX4_settle 33 = .ok (.aload_n 0, 1) := by decide +kernel
theorem dX4_settle_34 : decode cX4_settle 34 = .ok (.dup, 1) := by decide +kernel
theorem dX4_settle_35 : decode cX4_settle 35 = .ok (.getfield 81, 3) := by decide +kernel
theorem dX4_settle_38 : decode cX4_settle 38 = .ok (.iconst 1, 1) := by decide +kernel
theorem dX4_settle_39 : decode cX4_settle 39 = .ok (.iadd, 1) := by decide +kernel
theorem dX4_settle_40 : decode cX4_settle 40 = .ok (.putfield 81, 3) := by decide +kernel
theorem dX4_settle_43 : decode cX4_settle 43 = .ok (.iload_n 1, 1) := by decide +kernel
theorem dX4_settle_44 : decode cX4_settle 44 = .ok (.ireturn, 1) := by decide +kernel
theorem dX4_leadBehind_0 : decode cX4_leadBehind 0 = .ok (.aload_n 0, 1) := by decide +kernel
theorem dX4_leadBehind_1 : decode cX4_leadBehind 1 = .ok (.getfield 10, 3) := by decide +kernel
theorem dX4_leadBehind_4 : decode cX4_leadBehind 4 = .ok (.iload_n 2, 1) := by decide +kernel
theorem dX4_leadBehind_5 : decode cX4_leadBehind 5 = .ok (.invokevirtual 137, 3) := by decide +kernel
theorem dX4_leadBehind_8 : decode cX4_leadBehind 8 = .ok (.ifCond .ne 5, 3) := by decide +kernel
theorem dX4_leadBehind_11 : decode cX4_leadBehind 11 = .ok (.iconst 0, 1) := by decide +kernel
theorem dX4_leadBehind_12 : decode cX4_leadBehind 12 = .ok (.ireturn, 1) := by decide +kernel
theorem dX4_leadBehind_13 : decode cX4_leadBehind 13 = .ok (.aload_n 0, 1) := by decide +kernel
theorem dX4_leadBehind_14 : decode cX4_leadBehind 14 = .ok (.getfield 10, 3) := by decide +kernel
theorem dX4_leadBehind_17 : decode cX4_leadBehind 17 = .ok (.invokevirtual 121, 3) := by decide +kernel
theorem dX4_leadBehind_20 : decode cX4_leadBehind 20 = .ok (.istore_n 3, 1) := by decide +kernel
theorem dX4_leadBehind_21 : decode cX4_leadBehind 21 = .ok (.aload_n 0, 1) := by decide +kernel
theorem dX4_leadBehind_22 : decode cX4_leadBehind 22 = .ok (.getfield 16, 3) := by decide +kernel
theorem dX4_leadBehind_25 : decode cX4_leadBehind 25 = .ok (.getfield 147, 3) := by decide +kernel
theorem dX4_leadBehind_28 : decode cX4_leadBehind 28 = .ok (.iload_n 2, 1) := by decide +kernel
theorem dX4_leadBehind_29 : decode cX4_leadBehind 29 = .ok (.aload_n 0, 1) := by decide +kernel
theorem dX4_leadBehind_30 : decode cX4_leadBehind 30 = .ok (.getfield 10, 3) := by decide +kernel
theorem dX4_leadBehind_33 : decode cX4_leadBehind 33 = .ok (.getfield 147, 3) := by decide +kernel
theorem dX4_leadBehind_36 : decode cX4_leadBehind 36 = .ok (.iload_n 2, 1) := by decide +kernel
theorem dX4_leadBehind_37 : decode cX4_leadBehind 37 = .ok (.iaload, 1) := by decide +kernel
theorem dX4_leadBehind_38 : decode cX4_leadBehind 38 = .ok (.iload_n 1, 1) := by decide +kernel
theorem dX4_leadBehind_39 : decode cX4_leadBehind 39 = .ok (.iadd, 1) := by decide +kernel
theorem dX4_leadBehind_40 : decode cX4_leadBehind 40 = .ok (.iastore, 1) := by decide +kernel
theorem dX4_leadBehind_41 : decode cX4_leadBehind 41 = .ok (.aload_n 0, 1) := by decide +kernel
theorem dX4_leadBehind_42 : decode cX4_leadBehind 42 = .ok (.aload_n 0, 1) := by decide +kernel
theorem dX4_leadBehind_43 : decode cX4_leadBehind 43 = .ok (.getfield 16, 3) := by decide +kernel
theorem dX4_leadBehind_46 : decode cX4_leadBehind 46 = .ok (.getfield 147, 3) := by decide +kernel
theorem dX4_leadBehind_49 : decode cX4_leadBehind 49 = .ok (.invokevirtual 162, 3) := by decide +kernel
theorem dX4_leadBehind_52 : decode cX4_leadBehind 52 = .ok (.aload_n 0, 1) := by decide +kernel
theorem dX4_leadBehind_53 : decode cX4_leadBehind 53 = .ok (.getfield 16, 3) := by decide +kernel
theorem dX4_leadBehind_56 : decode cX4_leadBehind 56 = .ok (.aload_n 0, 1) := by decide +kernel
theorem dX4_leadBehind_57 : decode cX4_leadBehind 57 = .ok (.getfield 16, 3) := by decide +kernel
theorem dX4_leadBehind_60 : decode cX4_leadBehind 60 = .ok (.aload_n 0, 1) := by decide +kernel
theorem dX4_leadBehind_61 : decode cX4_leadBehind 61 = .ok (.getfield 26, 3) := by decide +kernel
theorem dX4_leadBehind_64 : decode cX4_leadBehind 64 = .ok (.invokevirtual 295, 3) := by decide +kernel
theorem dX4_leadBehind_67 : decode cX4_leadBehind 67 = .ok (.ifCond .eq 7, 3) := by decide +kernel
theorem dX4_leadBehind_70 : decode cX4_leadBehind 70 = .ok (.iload_n 3, 1) := by decide +kernel
theorem dX4_leadBehind_71 : decode cX4_leadBehind 71 = .ok (.goto 4, 3) := by decide +kernel
theorem dX4_leadBehind_74 : decode cX4_leadBehind 74 = .ok (.iconst (-1), 1) := by decide +kernel
theorem dX4_leadBehind_75 : decode cX4_leadBehind 75 = .ok (.putfield 134, 3) := by decide +kernel
theorem dX4_leadBehind_78 : decode cX4_leadBehind 78 = .ok (.aload_n 0, 1) := by decide +kernel
theorem dX4_leadBehind_79 : decode cX4_leadBehind 79 = .ok (.getfield 16, 3) := by decide +kernel
theorem dX4_leadBehind_82 : decode cX4_leadBehind 82 = .ok (.iload_n 3, 1) := by decide +kernel
theorem dX4_leadBehind_83 : decode cX4_leadBehind 83 = .ok (.aload_n 0, 1) := by decide +kernel
theorem dX4_leadBehind_84 : decode cX4_leadBehind 84 = .ok (.getfield 26, 3) := by decide +kernel
theorem dX4_leadBehind_87 : decode cX4_leadBehind 87 = .ok (.invokevirtual 174, 3) := by decide +kernel
theorem dX4_leadBehind_90 : decode cX4_leadBehind 90 = .ok (.aload_n 0, 1) := by decide +kernel
theorem dX4_leadBehind_91 : decode cX4_leadBehind 91 = .ok (.getfield 16, 3) := by decide +kernel
theorem dX4_leadBehind_94 : decode cX4_leadBehind 94 = .ok (.iconst 1, 1) := by decide +kernel
theorem dX4_leadBehind_95 : decode cX4_leadBehind 95 = .ok (.iload_n 3, 1) := by decide +kernel
theorem dX4_leadBehind_96 : decode cX4_leadBehind 96 = .ok (.isub, 1) := by decide +kernel
theorem dX4_leadBehind_97 : decode cX4_leadBehind 97 = .ok (.aload_n 0, 1) := by decide +kernel
theorem dX4_leadBehind_98 : decode cX4_leadBehind 98 = .ok (.getfield 26, 3) := by decide +kernel
theorem dX4_leadBehind_101 : decode cX4_leadBehind 101 = .ok (.invokevirtual 174, 3) := by decide +kernel
theorem dX4_leadBehind_104 : decode cX4_leadBehind 104 = .ok (.isub, 1) := by decide +kernel
theorem dX4_leadBehind_105 : decode cX4_leadBehind 105 = .ok (.istore 4, 2) := by decide +kernel
theorem dX4_leadBehind_107 : decode cX4_leadBehind 107 = .ok (.aload_n 0, 1) := by decide +kernel
theorem dX4_leadBehind_108 : decode cX4_leadBehind 108 = .ok (.getfield 16, 3) := by decide +kernel
theorem dX4_leadBehind_111 : decode cX4_leadBehind 111 = .ok (.getfield 147, 3) := by decide +kernel
theorem dX4_leadBehind_114 : decode cX4_leadBehind 114 = .ok (.iload_n 2, 1) := by decide +kernel
theorem dX4_leadBehind_115 : decode cX4_leadBehind 115 = .ok (.aload_n 0, 1) := by decide +kernel
theorem dX4_leadBehind_116 : decode cX4_leadBehind 116 = .ok (.getfield 10, 3) := by decide +kernel
theorem dX4_leadBehind_119 : decode cX4_leadBehind 119 = .ok (.getfield 147, 3) := by decide +kernel
theorem dX4_leadBehind_122 : decode cX4_leadBehind 122 = .ok (.iload_n 2, 1) := by decide +kernel
theorem dX4_leadBehind_123 : decode cX4_leadBehind 123 = .ok (.iaload, 1) := by decide +kernel
theorem dX4_leadBehind_124 : decode cX4_leadBehind 124 = .ok (.iastore, 1) := by decide +kernel
theorem dX4_leadBehind_125 : decode cX4_leadBehind 125 = .ok (.iload 4, 2) := by decide +kernel
theorem dX4_leadBehind_127 : decode cX4_leadBehind 127 = .ok (.ireturn, 1) := by decide +kernel
theorem dX4_shiftTo_0 : decode cX4_shiftTo 0 = .ok (.iconst 0, 1) := by decide +kernel
theorem dX4_shiftTo_1 : decode cX4_shiftTo 1 = .ok (.istore_n 2, 1) := by decide +kernel
theorem dX4_shiftTo_2 : decode cX4_shiftTo 2 = .ok (.iload_n 2, 1) := by decide +kernel
theorem dX4_shiftTo_3 : decode cX4_shiftTo 3 = .ok (.iconst 5, 1) := by decide +kernel
theorem dX4_shiftTo_4 : decode cX4_shiftTo 4 = .ok (.if_icmp .ge 25, 3) := by decide +kernel
theorem dX4_shiftTo_7 : decode cX4_shiftTo 7 = .ok (.aload_n 0, 1) := by decide +kernel
theorem dX4_shiftTo_8 : decode cX4_shiftTo 8 = .ok (.getfield 48, 3) := by decide +kernel
theorem dX4_shiftTo_11 : decode cX4_shiftTo 11 = .ok (.iload_n 2, 1) := by decide +kernel
theorem dX4_shiftTo_12 : decode cX4_shiftTo 12 = .ok (.aload_n 0, 1) := by decide +kernel
theorem dX4_shiftTo_13 : decode cX4_shiftTo 13 = .ok (.getfield 10, 3) := by decide +kernel
theorem dX4_shiftTo_16 : decode cX4_shiftTo 16 = .ok (.getfield 147, 3) := by decide +kernel
theorem dX4_shiftTo_19 : decode cX4_shiftTo 19 = .ok (.iload_n 2, 1) := by decide +kernel
theorem dX4_shiftTo_20 : decode cX4_shiftTo 20 = .ok (.iaload, 1) := by decide +kernel
theorem dX4_shiftTo_21 : decode cX4_shiftTo 21 = .ok (.i2l, 1) := by decide +kernel
theorem dX4_shiftTo_22 : decode cX4_shiftTo 22 = .ok (.lastore, 1) := by decide +kernel
theorem dX4_shiftTo_23 : decode cX4_shiftTo 23 = .ok (.iinc 2 1, 3) := by decide +kernel
theorem dX4_shiftTo_26 : decode cX4_shiftTo 26 = .ok (.goto (-24), 3) := by decide +kernel
theorem dX4_shiftTo_29 : decode cX4_shiftTo 29 = .ok (.iconst 0, 1) := by decide +kernel
theorem dX4_shiftTo_30 : decode cX4_shiftTo 30 = .ok (.istore_n 2, 1) := by decide +kernel
theorem dX4_shiftTo_31 : decode cX4_shiftTo 31 = .ok (.iload_n 2, 1) := by decide +kernel
theorem dX4_shiftTo_32 : decode cX4_shiftTo 32 = .ok (.iconst 5, 1) := by decide +kernel
theorem dX4_shiftTo_33 : decode cX4_shiftTo 33 = .ok (.if_icmp .ge 42, 3) := by decide +kernel
theorem dX4_shiftTo_36 : decode cX4_shiftTo 36 = .ok (.iconst 3, 1) := by decide +kernel
theorem dX4_shiftTo_37 : decode cX4_shiftTo 37 = .ok (.istore_n 3, 1) := by decide +kernel
theorem dX4_shiftTo_38 : decode cX4_shiftTo 38 = .ok (.iload_n 3, 1) := by decide +kernel
theorem dX4_shiftTo_39 : decode cX4_shiftTo 39 = .ok (.iload_n 2, 1) := by decide +kernel
theorem dX4_shiftTo_40 : decode cX4_shiftTo 40 = .ok (.if_icmp .lt 29, 3) := by decide +kernel
theorem dX4_shiftTo_43 : decode cX4_shiftTo 43 = .ok (.aload_n 0, 1) := by decide +kernel
theorem dX4_shiftTo_44 : decode cX4_shiftTo 44 = .ok (.getfield 48, 3) := by decide +kernel
theorem dX4_shiftTo_47 : decode cX4_shiftTo 47 = .ok (.iload_n 3, 1) := by decide +kernel
theorem dX4_shiftTo_48 : decode cX4_shiftTo 48 = .ok (.dup2, 1) := by decide +kernel
theorem dX4_shiftTo_49 : decode cX4_shiftTo 49 = .ok (.laload, 1) := by decide +kernel
theorem dX4_shiftTo_50 : decode cX4_shiftTo 50 = .ok (.iload_n 1, 1) := by decide +kernel
theorem dX4_shiftTo_51 : decode cX4_shiftTo 51 = .ok (.i2l, 1) := by decide +kernel
theorem dX4_shiftTo_52 : decode cX4_shiftTo 52 = .ok (.aload_n 0, 1) := by decide +kernel
theorem dX4_shiftTo_53 : decode cX4_shiftTo 53 = .ok (.getfield 48, 3) := by decide +kernel
theorem dX4_shiftTo_56 : decode cX4_shiftTo 56 = .ok (.iload_n 3, 1) := by decide +kernel
theorem dX4_shiftTo_57 : decode cX4_shiftTo 57 = .ok (.iconst 1, 1) := by decide +kernel
theorem dX4_shiftTo_58 : decode cX4_shiftTo 58 = .ok (.iadd, 1) := by decide +kernel
theorem dX4_shiftTo_59 : decode cX4_shiftTo 59 = .ok (.laload, 1) := by decide +kernel
theorem dX4_shiftTo_60 : decode cX4_shiftTo 60 = .ok (.lmul, 1) := by decide +kernel
theorem dX4_shiftTo_61 : decode cX4_shiftTo 61 = .ok (.ladd, 1) := by decide +kernel
theorem dX4_shiftTo_62 : decode cX4_shiftTo 62 = .ok (.lastore, 1) := by decide +kernel
theorem dX4_shiftTo_63 : decode cX4_shiftTo 63 = .ok (.iinc 3 (-1), 3) := by decide +kernel
theorem dX4_shiftTo_66 : decode cX4_shiftTo 66 = .ok (.goto (-28), 3) := by decide +kernel
theorem dX4_shiftTo_69 : decode cX4_shiftTo 69 = .ok (.iinc 2 1, 3) := by decide +kernel
theorem dX4_shiftTo_72 : decode cX4_shiftTo 72 = .ok (.goto (-41), 3) := by decide +kernel
theorem dX4_shiftTo_75 : decode cX4_shiftTo 75 = .ok (.return_, 1) := by decide +kernel
theorem dX4_derivativeChanges_0 : decode cX4_derivativeChanges 0 = .ok (.aload_n 0, 1) := by decide +kernel
theorem dX4_derivativeChanges_1 : decode cX4_derivativeChanges 1 = .ok (.iload_n 1, 1) := by decide +kernel
theorem dX4_derivativeChanges_2 : decode cX4_derivativeChanges 2 = .ok (.invokevirtual 229, 3) := by decide +kernel
theorem dX4_derivativeChanges_5 : decode cX4_derivativeChanges 5 = .ok (.iconst 0, 1) := by decide +kernel
theorem dX4_derivativeChanges_6 : decode cX4_derivativeChanges 6 = .ok (.istore_n 2, 1) := by decide +kernel
theorem dX4_derivativeChanges_7 : decode cX4_derivativeChanges 7 = .ok (.iconst 0, 1) := by decide +kernel
theorem dX4_derivativeChanges_8 : decode cX4_derivativeChanges 8 = .ok (.istore_n 3, 1) := by decide +kernel
theorem dX4_derivativeChanges_9 : decode cX4_derivativeChanges 9 = .ok (.iconst 0, 1) := by decide +kernel
theorem dX4_derivativeChanges_10 : decode cX4_derivativeChanges 10 = .ok (.istore 4, 2) := by decide +kernel
theorem dX4_derivativeChanges_12 : decode cX4_derivativeChanges 12 = .ok (.iload 4, 2) := by decide +kernel
theorem dX4_derivativeChanges_14 : decode cX4_derivativeChanges 14 = .ok (.iconst 5, 1) := by decide +kernel
theorem dX4_derivativeChanges_15 : decode cX4_derivativeChanges 15 = .ok (.if_icmp .ge 40, 3) := by decide +kernel
theorem dX4_derivativeChanges_18 : decode cX4_derivativeChanges 18 = .ok (.aload_n 0, 1) := by decide +kernel
theorem dX4_derivativeChanges_19 : decode cX4_derivativeChanges 19 = .ok (.getfield 48, 3) := by decide +kernel
theorem dX4_derivativeChanges_22 : decode cX4_derivativeChanges 22 = .ok (.iload 4, 2) := by decide +kernel
theorem dX4_derivativeChanges_24 : decode cX4_derivativeChanges 24 = .ok (.laload, 1) := by decide +kernel
theorem dX4_derivativeChanges_25 : decode cX4_derivativeChanges 25 = .ok (.lconst 0, 1) := by decide +kernel
theorem dX4_derivativeChanges_26 : decode cX4_derivativeChanges 26 = .ok (.invokestatic 299, 3) := by decide +kernel
theorem dX4_derivativeChanges_29 : decode cX4_derivativeChanges 29 = .ok (.istore 5, 2) := by decide +kernel
theorem dX4_derivativeChanges_31 : decode cX4_derivativeChanges 31 = .ok (.iload 5, 2) := by decide +kernel
theorem dX4_derivativeChanges_33 : decode cX4_derivativeChanges 33 = .ok (.ifCond .eq 16, 3) := by decide +kernel
theorem dX4_derivativeChanges_36 : decode cX4_derivativeChanges 36 = .ok (.iload_n 3, 1) := by decide +kernel
theorem dX4_derivativeChanges_37 : decode cX4_derivativeChanges 37 = .ok (.iload 5, 2) := by decide +kernel
theorem dX4_derivativeChanges_39 : decode cX4_derivativeChanges 39 = .ok (.ineg, 1) := by decide +kernel
theorem dX4_derivativeChanges_40 : decode cX4_derivativeChanges 40 = .ok (.if_icmp .ne 6, 3) := by decide +kernel
theorem dX4_derivativeChanges_43 : decode cX4_derivativeChanges 43 = .ok (.iinc 2 1, 3) := by decide +kernel
theorem dX4_derivativeChanges_46 : decode cX4_derivativeChanges 46 = .ok (.iload 5, 2) := by decide +kernel
theorem dX4_derivativeChanges_48 : decode cX4_derivativeChanges 48 = .ok (.istore_n 3, 1) := by decide +kernel
theorem dX4_derivativeChanges_49 : decode cX4_derivativeChanges 49 = .ok (.iinc 4 1, 3) := by decide +kernel
theorem dX4_derivativeChanges_52 : decode cX4_derivativeChanges 52 = .ok (.goto (-40), 3) := by decide +kernel
theorem dX4_derivativeChanges_55 : decode cX4_derivativeChanges 55 = .ok (.iload_n 2, 1) := by decide +kernel
theorem dX4_derivativeChanges_56 : decode cX4_derivativeChanges 56 = .ok (.ireturn, 1) := by decide +kernel
theorem dL_appendText_0 : decode cL_appendText 0 = .ok (.aload_n 2, 1) := by decide +kernel
theorem dL_appendText_1 : decode cL_appendText 1 = .ok (.iconst 0, 1) := by decide +kernel
theorem dL_appendText_2 : decode cL_appendText 2 = .ok (.aload_n 0, 1) := by decide +kernel
theorem dL_appendText_3 : decode cL_appendText 3 = .ok (.iload_n 1, 1) := by decide +kernel
theorem dL_appendText_4 : decode cL_appendText 4 = .ok (.invokevirtual 7, 3) := by decide +kernel
theorem dL_appendText_7 : decode cL_appendText 7 = .ok (.i2l, 1) := by decide +kernel
theorem dL_appendText_8 : decode cL_appendText 8 = .ok (.lastore, 1) := by decide +kernel
theorem dL_appendText_9 : decode cL_appendText 9 = .ok (.goto 6, 3) := by decide +kernel
theorem dL_appendText_12 : decode cL_appendText 12 = .ok (.astore_n 3, 1) := by decide +kernel
theorem dL_appendText_13 : decode cL_appendText 13 = .ok (.iconst 1, 1) := by decide +kernel
theorem dL_appendText_14 : decode cL_appendText 14 = .ok (.ireturn, 1) := by decide +kernel
theorem dL_appendText_15 : decode cL_appendText 15 = .ok (.iconst 0, 1) := by decide +kernel
theorem dL_appendText_16 : decode cL_appendText 16 = .ok (.ireturn, 1) := by decide +kernel
theorem dL_truncateText_0 : decode cL_truncateText 0 = .ok (.aload_n 2, 1) := by decide +kernel
theorem dL_truncateText_1 : decode cL_truncateText 1 = .ok (.iconst 0, 1) := by decide +kernel
theorem dL_truncateText_2 : decode cL_truncateText 2 = .ok (.aload_n 0, 1) := by decide +kernel
theorem dL_truncateText_3 : decode cL_truncateText 3 = .ok (.iload_n 1, 1) := by decide +kernel
theorem dL_truncateText_4 : decode cL_truncateText 4 = .ok (.invokevirtual 15, 3) := by decide +kernel
theorem dL_truncateText_7 : decode cL_truncateText 7 = .ok (.i2l, 1) := by decide +kernel
theorem dL_truncateText_8 : decode cL_truncateText 8 = .ok (.lastore, 1) := by decide +kernel
theorem dL_truncateText_9 : decode cL_truncateText 9 = .ok (.goto 6, 3) := by decide +kernel
theorem dL_truncateText_12 : decode cL_truncateText 12 = .ok (.astore_n 3, 1) := by decide +kernel
theorem dL_truncateText_13 : decode cL_truncateText 13 = .ok (.iconst 1, 1) := by decide +kernel
theorem dL_truncateText_14 : decode cL_truncateText 14 = .ok (.ireturn, 1) := by decide +kernel
theorem dL_truncateText_15 : decode cL_truncateText 15 = .ok (.iconst 0, 1) := by decide +kernel
theorem dL_truncateText_16 : decode cL_truncateText 16 = .ok (.ireturn, 1) := by decide +kernel
theorem dL_count_0 : decode cL_count 0 = .ok (.aload_n 2, 1) := by decide +kernel
theorem dL_count_1 : decode cL_count 1 = .ok (.iconst 0, 1) := by decide +kernel
theorem dL_count_2 : decode cL_count 2 = .ok (.aload_n 0, 1) := by decide +kernel
theorem dL_count_3 : decode cL_count 3 = .ok (.iload_n 1, 1) := by decide +kernel
theorem dL_count_4 : decode cL_count 4 = .ok (.invokevirtual 20, 3) := by decide +kernel
theorem dL_count_7 : decode cL_count 7 = .ok (.i2l, 1) := by decide +kernel
theorem dL_count_8 : decode cL_count 8 = .ok (.lastore, 1) := by decide +kernel
theorem dL_count_9 : decode cL_count 9 = .ok (.goto 6, 3) := by decide +kernel
theorem dL_count_12 : decode cL_count 12 = .ok (.astore_n 3, 1) := by decide +kernel
theorem dL_count_13 : decode cL_count 13 = .ok (.iconst 1, 1) := by decide +kernel
theorem dL_count_14 : decode cL_count 14 = .ok (.ireturn, 1) := by decide +kernel
theorem dL_count_15 : decode cL_count 15 = .ok (.iconst 0, 1) := by decide +kernel
theorem dL_count_16 : decode cL_count 16 = .ok (.ireturn, 1) := by decide +kernel
theorem dL_power_0 : decode cL_power 0 = .ok (.aload_n 3, 1) := by decide +kernel
theorem dL_power_1 : decode cL_power 1 = .ok (.iconst 0, 1) := by decide +kernel
theorem dL_power_2 : decode cL_power 2 = .ok (.aload_n 0, 1) := by decide +kernel
theorem dL_power_3 : decode cL_power 3 = .ok (.iload_n 1, 1) := by decide +kernel
theorem dL_power_4 : decode cL_power 4 = .ok (.iload_n 2, 1) := by decide +kernel
theorem dL_power_5 : decode cL_power 5 = .ok (.invokevirtual 23, 3) := by decide +kernel
theorem dL_power_8 : decode cL_power 8 = .ok (.i2l, 1) := by decide +kernel
theorem dL_power_9 : decode cL_power 9 = .ok (.lastore, 1) := by decide +kernel
theorem dL_power_10 : decode cL_power 10 = .ok (.goto 11, 3) := by decide +kernel
theorem dL_power_13 : decode cL_power 13 = .ok (.astore 4, 2) := by decide +kernel
theorem dL_power_15 : decode cL_power 15 = .ok (.iconst 1, 1) := by decide +kernel
theorem dL_power_16 : decode cL_power 16 = .ok (.ireturn, 1) := by decide +kernel
theorem dL_power_17 : decode cL_power 17 = .ok (.astore 4, 2) := by decide +kernel
theorem dL_power_19 : decode cL_power 19 = .ok (.iconst 2, 1) := by decide +kernel
theorem dL_power_20 : decode cL_power 20 = .ok (.ireturn, 1) := by decide +kernel
theorem dL_power_21 : decode cL_power 21 = .ok (.iconst 0, 1) := by decide +kernel
theorem dL_power_22 : decode cL_power 22 = .ok (.ireturn, 1) := by decide +kernel
theorem dL_claimOf_0 : decode cL_claimOf 0 = .ok (.aload 4, 2) := by decide +kernel
theorem dL_claimOf_2 : decode cL_claimOf 2 = .ok (.iconst 0, 1) := by decide +kernel
theorem dL_claimOf_3 : decode cL_claimOf 3 = .ok (.aload_n 0, 1) := by decide +kernel
theorem dL_claimOf_4 : decode cL_claimOf 4 = .ok (.iload_n 1, 1) := by decide +kernel
theorem dL_claimOf_5 : decode cL_claimOf 5 = .ok (.iload_n 2, 1) := by decide +kernel
theorem dL_claimOf_6 : decode cL_claimOf 6 = .ok (.iload_n 3, 1) := by decide +kernel
theorem dL_claimOf_7 : decode cL_claimOf 7 = .ok (.invokevirtual 29, 3) := by decide +kernel
theorem dL_claimOf_10 : decode cL_claimOf 10 = .ok (.i2l, 1) := by decide +kernel
theorem dL_claimOf_11 : decode cL_claimOf 11 = .ok (.lastore, 1) := by decide +kernel
theorem dL_claimOf_12 : decode cL_claimOf 12 = .ok (.goto 11, 3) := by decide +kernel
theorem dL_claimOf_15 : decode cL_claimOf 15 = .ok (.astore 5, 2) := by decide +kernel
theorem dL_claimOf_17 : decode cL_claimOf 17 = .ok (.iconst 1, 1) := by decide +kernel
theorem dL_claimOf_18 : decode cL_claimOf 18 = .ok (.ireturn, 1) := by decide +kernel
theorem dL_claimOf_19 : decode cL_claimOf 19 = .ok (.astore 5, 2) := by decide +kernel
theorem dL_claimOf_21 : decode cL_claimOf 21 = .ok (.iconst 2, 1) := by decide +kernel
theorem dL_claimOf_22 : decode cL_claimOf 22 = .ok (.ireturn, 1) := by decide +kernel
theorem dL_claimOf_23 : decode cL_claimOf 23 = .ok (.iconst 0, 1) := by decide +kernel
theorem dL_claimOf_24 : decode cL_claimOf 24 = .ok (.ireturn, 1) := by decide +kernel
theorem dL_player_0 : decode cL_player 0 = .ok (.aload_n 3, 1) := by decide +kernel
theorem dL_player_1 : decode cL_player 1 = .ok (.iconst 0, 1) := by decide +kernel
theorem dL_player_2 : decode cL_player 2 = .ok (.aload_n 0, 1) := by decide +kernel
theorem dL_player_3 : decode cL_player 3 = .ok (.iload_n 1, 1) := by decide +kernel
theorem dL_player_4 : decode cL_player 4 = .ok (.iload_n 2, 1) := by decide +kernel
theorem dL_player_5 : decode cL_player 5 = .ok (.invokevirtual 33, 3) := by decide +kernel
theorem dL_player_8 : decode cL_player 8 = .ok (.i2l, 1) := by decide +kernel
theorem dL_player_9 : decode cL_player 9 = .ok (.lastore, 1) := by decide +kernel
theorem dL_player_10 : decode cL_player 10 = .ok (.goto 11, 3) := by decide +kernel
theorem dL_player_13 : decode cL_player 13 = .ok (.astore 4, 2) := by decide +kernel
theorem dL_player_15 : decode cL_player 15 = .ok (.iconst 1, 1) := by decide +kernel
theorem dL_player_16 : decode cL_player 16 = .ok (.ireturn, 1) := by decide +kernel
theorem dL_player_17 : decode cL_player 17 = .ok (.astore 4, 2) := by decide +kernel
theorem dL_player_19 : decode cL_player 19 = .ok (.iconst 2, 1) := by decide +kernel
theorem dL_player_20 : decode cL_player 20 = .ok (.ireturn, 1) := by decide +kernel
theorem dL_player_21 : decode cL_player 21 = .ok (.iconst 0, 1) := by decide +kernel
theorem dL_player_22 : decode cL_player 22 = .ok (.ireturn, 1) := by decide +kernel
theorem dL_account_0 : decode cL_account 0 = .ok (.aload_n 2, 1) := by decide +kernel
theorem dL_account_1 : decode cL_account 1 = .ok (.iconst 0, 1) := by decide +kernel
theorem dL_account_2 : decode cL_account 2 = .ok (.aload_n 0, 1) := by decide +kernel
theorem dL_account_3 : decode cL_account 3 = .ok (.iload_n 1, 1) := by decide +kernel
theorem dL_account_4 : decode cL_account 4 = .ok (.invokevirtual 36, 3) := by decide +kernel
theorem dL_account_7 : decode cL_account 7 = .ok (.i2l, 1) := by decide +kernel
theorem dL_account_8 : decode cL_account 8 = .ok (.lastore, 1) := by decide +kernel
theorem dL_account_9 : decode cL_account 9 = .ok (.goto 6, 3) := by decide +kernel
theorem dL_account_12 : decode cL_account 12 = .ok (.astore_n 3, 1) := by decide +kernel
theorem dL_account_13 : decode cL_account 13 = .ok (.iconst 1, 1) := by decide +kernel
theorem dL_account_14 : decode cL_account 14 = .ok (.ireturn, 1) := by decide +kernel
theorem dL_account_15 : decode cL_account 15 = .ok (.iconst 0, 1) := by decide +kernel
theorem dL_account_16 : decode cL_account 16 = .ok (.ireturn, 1) := by decide +kernel
theorem dL_claim_0 : decode cL_claim 0 = .ok (.aload 6, 2) := by decide +kernel
theorem dL_claim_2 : decode cL_claim 2 = .ok (.iconst 0, 1) := by decide +kernel
theorem dL_claim_3 : decode cL_claim 3 = .ok (.aload_n 0, 1) := by decide +kernel
theorem dL_claim_4 : decode cL_claim 4 = .ok (.iload_n 1, 1) := by decide +kernel
theorem dL_claim_5 : decode cL_claim 5 = .ok (.iload_n 2, 1) := by decide +kernel
theorem dL_claim_6 : decode cL_claim 6 = .ok (.iload_n 3, 1) := by decide +kernel
theorem dL_claim_7 : decode cL_claim 7 = .ok (.iload 4, 2) := by decide +kernel
theorem dL_claim_9 : decode cL_claim 9 = .ok (.iload 5, 2) := by decide +kernel
theorem dL_claim_11 : decode cL_claim 11 = .ok (.invokevirtual 39, 3) := by decide +kernel
theorem dL_claim_14 : decode cL_claim 14 = .ok (.i2l, 1) := by decide +kernel
theorem dL_claim_15 : decode cL_claim 15 = .ok (.lastore, 1) := by decide +kernel
theorem dL_claim_16 : decode cL_claim 16 = .ok (.goto 7, 3) := by decide +kernel
theorem dL_claim_19 : decode cL_claim 19 = .ok (.astore 7, 2) := by decide +kernel
theorem dL_claim_21 : decode cL_claim 21 = .ok (.iconst 1, 1) := by decide +kernel
theorem dL_claim_22 : decode cL_claim 22 = .ok (.ireturn, 1) := by decide +kernel
theorem dL_claim_23 : decode cL_claim 23 = .ok (.iconst 0, 1) := by decide +kernel
theorem dL_claim_24 : decode cL_claim 24 = .ok (.ireturn, 1) := by decide +kernel
theorem dL_lay_0 : decode cL_lay 0 = .ok (.aload_n 3, 1) := by decide +kernel
theorem dL_lay_1 : decode cL_lay 1 = .ok (.iconst 0, 1) := by decide +kernel
theorem dL_lay_2 : decode cL_lay 2 = .ok (.aload_n 0, 1) := by decide +kernel
theorem dL_lay_3 : decode cL_lay 3 = .ok (.iload_n 1, 1) := by decide +kernel
theorem dL_lay_4 : decode cL_lay 4 = .ok (.iload_n 2, 1) := by decide +kernel
theorem dL_lay_5 : decode cL_lay 5 = .ok (.invokevirtual 43, 3) := by decide +kernel
theorem dL_lay_8 : decode cL_lay 8 = .ok (.i2l, 1) := by decide +kernel
theorem dL_lay_9 : decode cL_lay 9 = .ok (.lastore, 1) := by decide +kernel
theorem dL_lay_10 : decode cL_lay 10 = .ok (.goto 11, 3) := by decide +kernel
theorem dL_lay_13 : decode cL_lay 13 = .ok (.astore 4, 2) := by decide +kernel
theorem dL_lay_15 : decode cL_lay 15 = .ok (.iconst 1, 1) := by decide +kernel
theorem dL_lay_16 : decode cL_lay 16 = .ok (.ireturn, 1) := by decide +kernel
theorem dL_lay_17 : decode cL_lay 17 = .ok (.astore 4, 2) := by decide +kernel
theorem dL_lay_19 : decode cL_lay 19 = .ok (.iconst 2, 1) := by decide +kernel
theorem dL_lay_20 : decode cL_lay 20 = .ok (.ireturn, 1) := by decide +kernel
theorem dL_lay_21 : decode cL_lay 21 = .ok (.iconst 0, 1) := by decide +kernel
theorem dL_lay_22 : decode cL_lay 22 = .ok (.ireturn, 1) := by decide +kernel
theorem dL_why_0 : decode cL_why 0 = .ok (.aload_n 3, 1) := by decide +kernel
theorem dL_why_1 : decode cL_why 1 = .ok (.iconst 0, 1) := by decide +kernel
theorem dL_why_2 : decode cL_why 2 = .ok (.aload_n 0, 1) := by decide +kernel
theorem dL_why_3 : decode cL_why 3 = .ok (.iload_n 1, 1) := by decide +kernel
theorem dL_why_4 : decode cL_why 4 = .ok (.iload_n 2, 1) := by decide +kernel
theorem dL_why_5 : decode cL_why 5 = .ok (.invokevirtual 46, 3) := by decide +kernel
theorem dL_why_8 : decode cL_why 8 = .ok (.i2l, 1) := by decide +kernel
theorem dL_why_9 : decode cL_why 9 = .ok (.lastore, 1) := by decide +kernel
theorem dL_why_10 : decode cL_why 10 = .ok (.goto 11, 3) := by decide +kernel
theorem dL_why_13 : decode cL_why 13 = .ok (.astore 4, 2) := by decide +kernel
theorem dL_why_15 : decode cL_why 15 = .ok (.iconst 1, 1) := by decide +kernel
theorem dL_why_16 : decode cL_why 16 = .ok (.ireturn, 1) := by decide +kernel
theorem dL_why_17 : decode cL_why 17 = .ok (.astore 4, 2) := by decide +kernel
theorem dL_why_19 : decode cL_why 19 = .ok (.iconst 2, 1) := by decide +kernel
theorem dL_why_20 : decode cL_why 20 = .ok (.ireturn, 1) := by decide +kernel
theorem dL_why_21 : decode cL_why 21 = .ok (.iconst 0, 1) := by decide +kernel
theorem dL_why_22 : decode cL_why 22 = .ok (.ireturn, 1) := by decide +kernel
theorem dL_behind_0 : decode cL_behind 0 = .ok (.aload 4, 2) := by decide +kernel
theorem dL_behind_2 : decode cL_behind 2 = .ok (.iconst 0, 1) := by decide +kernel
theorem dL_behind_3 : decode cL_behind 3 = .ok (.aload_n 0, 1) := by decide +kernel
theorem dL_behind_4 : decode cL_behind 4 = .ok (.iload_n 1, 1) := by decide +kernel
theorem dL_behind_5 : decode cL_behind 5 = .ok (.iload_n 2, 1) := by decide +kernel
theorem dL_behind_6 : decode cL_behind 6 = .ok (.iload_n 3, 1) := by decide +kernel
theorem dL_behind_7 : decode cL_behind 7 = .ok (.invokevirtual 49, 3) := by decide +kernel
theorem dL_behind_10 : decode cL_behind 10 = .ok (.i2l, 1) := by decide +kernel
theorem dL_behind_11 : decode cL_behind 11 = .ok (.lastore, 1) := by decide +kernel
theorem dL_behind_12 : decode cL_behind 12 = .ok (.goto 15, 3) := by decide +kernel
theorem dL_behind_15 : decode cL_behind 15 = .ok (.astore 5, 2) := by decide +kernel
theorem dL_behind_17 : decode cL_behind 17 = .ok (.iconst 1, 1) := by decide +kernel
theorem dL_behind_18 : decode cL_behind 18 = .ok (.ireturn, 1) := by decide +kernel
theorem dL_behind_19 : decode cL_behind 19 = .ok (.astore 5, 2) := by decide +kernel
theorem dL_behind_21 : decode cL_behind 21 = .ok (.iconst 2, 1) := by decide +kernel
theorem dL_behind_22 : decode cL_behind 22 = .ok (.ireturn, 1) := by decide +kernel
theorem dL_behind_23 : decode cL_behind 23 = .ok (.astore 5, 2) := by decide +kernel
theorem dL_behind_25 : decode cL_behind 25 = .ok (.iconst 3, 1) := by decide +kernel
theorem dL_behind_26 : decode cL_behind 26 = .ok (.ireturn, 1) := by decide +kernel
theorem dL_behind_27 : decode cL_behind 27 = .ok (.iconst 0, 1) := by decide +kernel
theorem dL_behind_28 : decode cL_behind 28 = .ok (.ireturn, 1) := by decide +kernel
theorem dL_value_0 : decode cL_value 0 = .ok (.aload_n 2, 1) := by decide +kernel
theorem dL_value_1 : decode cL_value 1 = .ok (.iconst 0, 1) := by decide +kernel
theorem dL_value_2 : decode cL_value 2 = .ok (.aload_n 0, 1) := by decide +kernel
theorem dL_value_3 : decode cL_value 3 = .ok (.iload_n 1, 1) := by decide +kernel
theorem dL_value_4 : decode cL_value 4 = .ok (.invokevirtual 52, 3) := by decide +kernel
theorem dL_value_7 : decode cL_value 7 = .ok (.lastore, 1) := by decide +kernel
theorem dL_value_8 : decode cL_value 8 = .ok (.goto 6, 3) := by decide +kernel
theorem dL_value_11 : decode cL_value 11 = .ok (.astore_n 3, 1) := by decide +kernel
theorem dL_value_12 : decode cL_value 12 = .ok (.iconst 1, 1) := by decide +kernel
theorem dL_value_13 : decode cL_value 13 = .ok (.ireturn, 1) := by decide +kernel
theorem dL_value_14 : decode cL_value 14 = .ok (.iconst 0, 1) := by decide +kernel
theorem dL_value_15 : decode cL_value 15 = .ok (.ireturn, 1) := by decide +kernel
theorem dL_roots_0 : decode cL_roots 0 = .ok (.aload_n 3, 1) := by decide +kernel
theorem dL_roots_1 : decode cL_roots 1 = .ok (.iconst 0, 1) := by decide +kernel
theorem dL_roots_2 : decode cL_roots 2 = .ok (.aload_n 0, 1) := by decide +kernel
theorem dL_roots_3 : decode cL_roots 3 = .ok (.iload_n 1, 1) := by decide +kernel
theorem dL_roots_4 : decode cL_roots 4 = .ok (.iload_n 2, 1) := by decide +kernel
theorem dL_roots_5 : decode cL_roots 5 = .ok (.invokevirtual 56, 3) := by decide +kernel
theorem dL_roots_8 : decode cL_roots 8 = .ok (.i2l, 1) := by decide +kernel
theorem dL_roots_9 : decode cL_roots 9 = .ok (.lastore, 1) := by decide +kernel
theorem dL_roots_10 : decode cL_roots 10 = .ok (.goto 7, 3) := by decide +kernel
theorem dL_roots_13 : decode cL_roots 13 = .ok (.astore 4, 2) := by decide +kernel
theorem dL_roots_15 : decode cL_roots 15 = .ok (.iconst 1, 1) := by decide +kernel
theorem dL_roots_16 : decode cL_roots 16 = .ok (.ireturn, 1) := by decide +kernel
theorem dL_roots_17 : decode cL_roots 17 = .ok (.iconst 0, 1) := by decide +kernel
theorem dL_roots_18 : decode cL_roots 18 = .ok (.ireturn, 1) := by decide +kernel
theorem dL_rootsOfSign_0 : decode cL_rootsOfSign 0 = .ok (.aload_n 2, 1) := by decide +kernel
theorem dL_rootsOfSign_1 : decode cL_rootsOfSign 1 = .ok (.iconst 0, 1) := by decide +kernel
theorem dL_rootsOfSign_2 : decode cL_rootsOfSign 2 = .ok (.aload_n 0, 1) := by decide +kernel
theorem dL_rootsOfSign_3 : decode cL_rootsOfSign 3 = .ok (.iload_n 1, 1) := by decide +kernel
theorem dL_rootsOfSign_4 : decode cL_rootsOfSign 4 = .ok (.invokevirtual 59, 3) := by decide +kernel
theorem dL_rootsOfSign_7 : decode cL_rootsOfSign 7 = .ok (.i2l, 1) := by decide +kernel
theorem dL_rootsOfSign_8 : decode cL_rootsOfSign 8 = .ok (.lastore, 1) := by decide +kernel
theorem dL_rootsOfSign_9 : decode cL_rootsOfSign 9 = .ok (.goto 6, 3) := by decide +kernel
theorem dL_rootsOfSign_12 : decode cL_rootsOfSign 12 = .ok (.astore_n 3, 1) := by decide +kernel
theorem dL_rootsOfSign_13 : decode cL_rootsOfSign 13 = .ok (.iconst 1, 1) := by decide +kernel
theorem dL_rootsOfSign_14 : decode cL_rootsOfSign 14 = .ok (.ireturn, 1) := by decide +kernel
theorem dL_rootsOfSign_15 : decode cL_rootsOfSign 15 = .ok (.iconst 0, 1) := by decide +kernel
theorem dL_rootsOfSign_16 : decode cL_rootsOfSign 16 = .ok (.ireturn, 1) := by decide +kernel
theorem dL_multiplicity_0 : decode cL_multiplicity 0 = .ok (.aload_n 2, 1) := by decide +kernel
theorem dL_multiplicity_1 : decode cL_multiplicity 1 = .ok (.iconst 0, 1) := by decide +kernel
theorem dL_multiplicity_2 : decode cL_multiplicity 2 = .ok (.aload_n 0, 1) := by decide +kernel
theorem dL_multiplicity_3 : decode cL_multiplicity 3 = .ok (.iload_n 1, 1) := by decide +kernel
theorem dL_multiplicity_4 : decode cL_multiplicity 4 = .ok (.invokevirtual 62, 3) := by decide +kernel
theorem dL_multiplicity_7 : decode cL_multiplicity 7 = .ok (.i2l, 1) := by decide +kernel
theorem dL_multiplicity_8 : decode cL_multiplicity 8 = .ok (.lastore, 1) := by decide +kernel
theorem dL_multiplicity_9 : decode cL_multiplicity 9 = .ok (.goto 6, 3) := by decide +kernel
theorem dL_multiplicity_12 : decode cL_multiplicity 12 = .ok (.astore_n 3, 1) := by decide +kernel
theorem dL_multiplicity_13 : decode cL_multiplicity 13 = .ok (.iconst 1, 1) := by decide +kernel
theorem dL_multiplicity_14 : decode cL_multiplicity 14 = .ok (.ireturn, 1) := by decide +kernel
theorem dL_multiplicity_15 : decode cL_multiplicity 15 = .ok (.iconst 0, 1) := by decide +kernel
theorem dL_multiplicity_16 : decode cL_multiplicity 16 = .ok (.ireturn, 1) := by decide +kernel
theorem dL_near_0 : decode cL_near 0 = .ok (.aload_n 3, 1) := by decide +kernel
theorem dL_near_1 : decode cL_near 1 = .ok (.iconst 0, 1) := by decide +kernel
theorem dL_near_2 : decode cL_near 2 = .ok (.aload_n 0, 1) := by decide +kernel
theorem dL_near_3 : decode cL_near 3 = .ok (.iload_n 1, 1) := by decide +kernel
theorem dL_near_4 : decode cL_near 4 = .ok (.iload_n 2, 1) := by decide +kernel
theorem dL_near_5 : decode cL_near 5 = .ok (.invokevirtual 65, 3) := by decide +kernel
theorem dL_near_8 : decode cL_near 8 = .ok (.i2l, 1) := by decide +kernel
theorem dL_near_9 : decode cL_near 9 = .ok (.lastore, 1) := by decide +kernel
theorem dL_near_10 : decode cL_near 10 = .ok (.goto 11, 3) := by decide +kernel
theorem dL_near_13 : decode cL_near 13 = .ok (.astore 4, 2) := by decide +kernel
theorem dL_near_15 : decode cL_near 15 = .ok (.iconst 1, 1) := by decide +kernel
theorem dL_near_16 : decode cL_near 16 = .ok (.ireturn, 1) := by decide +kernel
theorem dL_near_17 : decode cL_near 17 = .ok (.astore 4, 2) := by decide +kernel
theorem dL_near_19 : decode cL_near 19 = .ok (.iconst 2, 1) := by decide +kernel
theorem dL_near_20 : decode cL_near 20 = .ok (.ireturn, 1) := by decide +kernel
theorem dL_near_21 : decode cL_near 21 = .ok (.iconst 0, 1) := by decide +kernel
theorem dL_near_22 : decode cL_near 22 = .ok (.ireturn, 1) := by decide +kernel
theorem dL_root_0 : decode cL_root 0 = .ok (.aload_n 2, 1) := by decide +kernel
theorem dL_root_1 : decode cL_root 1 = .ok (.iconst 0, 1) := by decide +kernel
theorem dL_root_2 : decode cL_root 2 = .ok (.aload_n 0, 1) := by decide +kernel
theorem dL_root_3 : decode cL_root 3 = .ok (.iload_n 1, 1) := by decide +kernel
theorem dL_root_4 : decode cL_root 4 = .ok (.invokevirtual 68, 3) := by decide +kernel
theorem dL_root_7 : decode cL_root 7 = .ok (.dastore, 1) := by decide +kernel
theorem dL_root_8 : decode cL_root 8 = .ok (.goto 6, 3) := by decide +kernel
theorem dL_root_11 : decode cL_root 11 = .ok (.astore_n 3, 1) := by decide +kernel
theorem dL_root_12 : decode cL_root 12 = .ok (.iconst 1, 1) := by decide +kernel
theorem dL_root_13 : decode cL_root 13 = .ok (.ireturn, 1) := by decide +kernel
theorem dL_root_14 : decode cL_root 14 = .ok (.iconst 0, 1) := by decide +kernel
theorem dL_root_15 : decode cL_root 15 = .ok (.ireturn, 1) := by decide +kernel
theorem dL_rowDegree_0 : decode cL_rowDegree 0 = .ok (.aload_n 2, 1) := by decide +kernel
theorem dL_rowDegree_1 : decode cL_rowDegree 1 = .ok (.iconst 0, 1) := by decide +kernel
theorem dL_rowDegree_2 : decode cL_rowDegree 2 = .ok (.aload_n 0, 1) := by decide +kernel
theorem dL_rowDegree_3 : decode cL_rowDegree 3 = .ok (.iload_n 1, 1) := by decide +kernel
theorem dL_rowDegree_4 : decode cL_rowDegree 4 = .ok (.invokevirtual 72, 3) := by decide +kernel
theorem dL_rowDegree_7 : decode cL_rowDegree 7 = .ok (.i2l, 1) := by decide +kernel
theorem dL_rowDegree_8 : decode cL_rowDegree 8 = .ok (.lastore, 1) := by decide +kernel
theorem dL_rowDegree_9 : decode cL_rowDegree 9 = .ok (.goto 6, 3) := by decide +kernel
theorem dL_rowDegree_12 : decode cL_rowDegree 12 = .ok (.astore_n 3, 1) := by decide +kernel
theorem dL_rowDegree_13 : decode cL_rowDegree 13 = .ok (.iconst 1, 1) := by decide +kernel
theorem dL_rowDegree_14 : decode cL_rowDegree 14 = .ok (.ireturn, 1) := by decide +kernel
theorem dL_rowDegree_15 : decode cL_rowDegree 15 = .ok (.iconst 0, 1) := by decide +kernel
theorem dL_rowDegree_16 : decode cL_rowDegree 16 = .ok (.ireturn, 1) := by decide +kernel
theorem dL_rowSign_0 : decode cL_rowSign 0 = .ok (.aload_n 3, 1) := by decide +kernel
theorem dL_rowSign_1 : decode cL_rowSign 1 = .ok (.iconst 0, 1) := by decide +kernel
theorem dL_rowSign_2 : decode cL_rowSign 2 = .ok (.aload_n 0, 1) := by decide +kernel
theorem dL_rowSign_3 : decode cL_rowSign 3 = .ok (.iload_n 1, 1) := by decide +kernel
theorem dL_rowSign_4 : decode cL_rowSign 4 = .ok (.iload_n 2, 1) := by decide +kernel
theorem dL_rowSign_5 : decode cL_rowSign 5 = .ok (.invokevirtual 75, 3) := by decide +kernel
theorem dL_rowSign_8 : decode cL_rowSign 8 = .ok (.i2l, 1) := by decide +kernel
theorem dL_rowSign_9 : decode cL_rowSign 9 = .ok (.lastore, 1) := by decide +kernel
theorem dL_rowSign_10 : decode cL_rowSign 10 = .ok (.goto 11, 3) := by decide +kernel
theorem dL_rowSign_13 : decode cL_rowSign 13 = .ok (.astore 4, 2) := by decide +kernel
theorem dL_rowSign_15 : decode cL_rowSign 15 = .ok (.iconst 1, 1) := by decide +kernel
theorem dL_rowSign_16 : decode cL_rowSign 16 = .ok (.ireturn, 1) := by decide +kernel
theorem dL_rowSign_17 : decode cL_rowSign 17 = .ok (.astore 4, 2) := by decide +kernel
theorem dL_rowSign_19 : decode cL_rowSign 19 = .ok (.iconst 2, 1) := by decide +kernel
theorem dL_rowSign_20 : decode cL_rowSign 20 = .ok (.ireturn, 1) := by decide +kernel
theorem dL_rowSign_21 : decode cL_rowSign 21 = .ok (.iconst 0, 1) := by decide +kernel
theorem dL_rowSign_22 : decode cL_rowSign 22 = .ok (.ireturn, 1) := by decide +kernel
theorem dL_changes_0 : decode cL_changes 0 = .ok (.aload_n 3, 1) := by decide +kernel
theorem dL_changes_1 : decode cL_changes 1 = .ok (.iconst 0, 1) := by decide +kernel
theorem dL_changes_2 : decode cL_changes 2 = .ok (.aload_n 0, 1) := by decide +kernel
theorem dL_changes_3 : decode cL_changes 3 = .ok (.iload_n 1, 1) := by decide +kernel
theorem dL_changes_4 : decode cL_changes 4 = .ok (.iload_n 2, 1) := by decide +kernel
theorem dL_changes_5 : decode cL_changes 5 = .ok (.invokevirtual 78, 3) := by decide +kernel
theorem dL_changes_8 : decode cL_changes 8 = .ok (.i2l, 1) := by decide +kernel
theorem dL_changes_9 : decode cL_changes 9 = .ok (.lastore, 1) := by decide +kernel
theorem dL_changes_10 : decode cL_changes 10 = .ok (.goto 7, 3) := by decide +kernel
theorem dL_changes_13 : decode cL_changes 13 = .ok (.astore 4, 2) := by decide +kernel
theorem dL_changes_15 : decode cL_changes 15 = .ok (.iconst 1, 1) := by decide +kernel
theorem dL_changes_16 : decode cL_changes 16 = .ok (.ireturn, 1) := by decide +kernel
theorem dL_changes_17 : decode cL_changes 17 = .ok (.iconst 0, 1) := by decide +kernel
theorem dL_changes_18 : decode cL_changes 18 = .ok (.ireturn, 1) := by decide +kernel
theorem dL_surplus_0 : decode cL_surplus 0 = .ok (.aload_n 3, 1) := by decide +kernel
theorem dL_surplus_1 : decode cL_surplus 1 = .ok (.iconst 0, 1) := by decide +kernel
theorem dL_surplus_2 : decode cL_surplus 2 = .ok (.aload_n 0, 1) := by decide +kernel
theorem dL_surplus_3 : decode cL_surplus 3 = .ok (.iload_n 1, 1) := by decide +kernel
theorem dL_surplus_4 : decode cL_surplus 4 = .ok (.iload_n 2, 1) := by decide +kernel
theorem dL_surplus_5 : decode cL_surplus 5 = .ok (.invokevirtual 81, 3) := by decide +kernel
theorem dL_surplus_8 : decode cL_surplus 8 = .ok (.i2l, 1) := by decide +kernel
theorem dL_surplus_9 : decode cL_surplus 9 = .ok (.lastore, 1) := by decide +kernel
theorem dL_surplus_10 : decode cL_surplus 10 = .ok (.goto 7, 3) := by decide +kernel
theorem dL_surplus_13 : decode cL_surplus 13 = .ok (.astore 4, 2) := by decide +kernel
theorem dL_surplus_15 : decode cL_surplus 15 = .ok (.iconst 1, 1) := by decide +kernel
theorem dL_surplus_16 : decode cL_surplus 16 = .ok (.ireturn, 1) := by decide +kernel
theorem dL_surplus_17 : decode cL_surplus 17 = .ok (.iconst 0, 1) := by decide +kernel
theorem dL_surplus_18 : decode cL_surplus 18 = .ok (.ireturn, 1) := by decide +kernel
theorem dL_save_0 : decode cL_save 0 = .ok (.aload_n 0, 1) := by decide +kernel
theorem dL_save_1 : decode cL_save 1 = .ok (.iload_n 1, 1) := by decide +kernel
theorem dL_save_2 : decode cL_save 2 = .ok (.invokevirtual 84, 3) := by decide +kernel
theorem dL_save_5 : decode cL_save 5 = .ok (.goto 6, 3) := by decide +kernel
theorem dL_save_8 : decode cL_save 8 = .ok (.astore_n 2, 1) := by decide +kernel
theorem dL_save_9 : decode cL_save 9 = .ok (.iconst 1, 1) := by decide +kernel
theorem dL_save_10 : decode cL_save 10 = .ok (.ireturn, 1) := by decide +kernel
theorem dL_save_11 : decode cL_save 11 = .ok (.iconst 0, 1) := by decide +kernel
theorem dL_save_12 : decode cL_save 12 = .ok (.ireturn, 1) := by decide +kernel
theorem dL_restore_0 : decode cL_restore 0 = .ok (.aload_n 0, 1) := by decide +kernel
theorem dL_restore_1 : decode cL_restore 1 = .ok (.iload_n 1, 1) := by decide +kernel
theorem dL_restore_2 : decode cL_restore 2 = .ok (.invokevirtual 88, 3) := by decide +kernel
theorem dL_restore_5 : decode cL_restore 5 = .ok (.goto 9, 3) := by decide +kernel
theorem dL_restore_8 : decode cL_restore 8 = .ok (.astore_n 2, 1) := by decide +kernel
theorem dL_restore_9 : decode cL_restore 9 = .ok (.iconst 1, 1) := by decide +kernel
theorem dL_restore_10 : decode cL_restore 10 = .ok (.ireturn, 1) := by decide +kernel
theorem dL_restore_11 : decode cL_restore 11 = .ok (.astore_n 2, 1) := by decide +kernel
theorem dL_restore_12 : decode cL_restore 12 = .ok (.iconst 2, 1) := by decide +kernel
theorem dL_restore_13 : decode cL_restore 13 = .ok (.ireturn, 1) := by decide +kernel
theorem dL_restore_14 : decode cL_restore 14 = .ok (.iconst 0, 1) := by decide +kernel
theorem dL_restore_15 : decode cL_restore 15 = .ok (.ireturn, 1) := by decide +kernel
theorem dL_law_0 : decode cL_law 0 = .ok (.new 8, 3) := by decide +kernel
theorem dL_law_3 : decode cL_law 3 = .ok (.dup, 1) := by decide +kernel
theorem dL_law_4 : decode cL_law 4 = .ok (.invokespecial 91, 3) := by decide +kernel
theorem dL_law_7 : decode cL_law 7 = .ok (.astore_n 1, 1) := by decide +kernel
theorem dL_law_8 : decode cL_law 8 = .ok (.new 92, 3) := by decide +kernel
theorem dL_law_11 : decode cL_law 11 = .ok (.dup, 1) := by decide +kernel
theorem dL_law_12 : decode cL_law 12 = .ok (.invokespecial 94, 3) := by decide +kernel
theorem dL_law_15 : decode cL_law 15 = .ok (.astore_n 2, 1) := by decide +kernel
theorem dL_law_16 : decode cL_law 16 = .ok (.iconst 1, 1) := by decide +kernel
theorem dL_law_17 : decode cL_law 17 = .ok (.newarray .long, 2) := by decide +kernel
theorem dL_law_19 : decode cL_law 19 = .ok (.astore_n 3, 1) := by decide +kernel
theorem dL_law_20 : decode cL_law 20 = .ok (.iconst 1, 1) := by decide +kernel
theorem dL_law_21 : decode cL_law 21 = .ok (.newarray .double, 2) := by decide +kernel
theorem dL_law_23 : decode cL_law 23 = .ok (.astore 4, 2) := by decide +kernel
theorem dL_law_25 : decode cL_law 25 = .ok (.iconst 0, 1) := by decide +kernel
theorem dL_law_26 : decode cL_law 26 = .ok (.istore 5, 2) := by decide +kernel
theorem dL_law_28 : decode cL_law 28 = .ok (.iload 5, 2) := by decide +kernel
theorem dL_law_30 : decode cL_law 30 = .ok (.aload_n 0, 1) := by decide +kernel
theorem dL_law_31 : decode cL_law 31 = .ok (.arraylength, 1) := by decide +kernel
theorem dL_law_32 : decode cL_law 32 = .ok (.bipush 6, 2) := by decide +kernel
theorem dL_law_34 : decode cL_law 34 = .ok (.isub, 1) := by decide +kernel
theorem dL_law_35 : decode cL_law 35 = .ok (.if_icmp .gt 1861, 3) := by decide +kernel
theorem dL_law_38 : decode cL_law 38 = .ok (.aload_n 0, 1) := by decide +kernel
theorem dL_law_39 : decode cL_law 39 = .ok (.iload 5, 2) := by decide +kernel
theorem dL_law_41 : decode cL_law 41 = .ok (.iaload, 1) := by decide +kernel
theorem dL_law_42 : decode cL_law 42 = .ok (.bipush 63, 2) := by decide +kernel
theorem dL_law_44 : decode cL_law 44 = .ok (.iand, 1) := by decide +kernel
theorem dL_law_45 : decode cL_law 45 = .ok (.tableswitch 1845 0 36 #[163, 219, 275, 288, 301, 314, 327, 383, 451, 531, 599, 612, 668, 788, 856, 869, 937, 950, 1030, 1043, 1098, 1166, 1179, 1235, 1291, 1359, 1436, 1449, 1505, 1573, 1641, 1709, 1722, 1735, 1760, 1773, 1809], 163) := by decide +kernel
theorem dL_law_208 : decode cL_law 208 = .ok (.aload_n 1, 1) := by decide +kernel
theorem dL_law_209 : decode cL_law 209 = .ok (.aload_n 0, 1) := by decide +kernel
theorem dL_law_210 : decode cL_law 210 = .ok (.iload 5, 2) := by decide +kernel
theorem dL_law_212 : decode cL_law 212 = .ok (.iconst 1, 1) := by decide +kernel
theorem dL_law_213 : decode cL_law 213 = .ok (.iadd, 1) := by decide +kernel
theorem dL_law_214 : decode cL_law 214 = .ok (.iaload, 1) := by decide +kernel
theorem dL_law_215 : decode cL_law 215 = .ok (.aload_n 3, 1) := by decide +kernel
theorem dL_law_216 : decode cL_law 216 = .ok (.invokestatic 95, 3) := by decide +kernel
theorem dL_law_219 : decode cL_law 219 = .ok (.istore 6, 2) := by decide +kernel
theorem dL_law_221 : decode cL_law 221 = .ok (.aload_n 2, 1) := by decide +kernel
theorem dL_law_222 : decode cL_law 222 = .ok (.aload_n 0, 1) := by decide +kernel
theorem dL_law_223 : decode cL_law 223 = .ok (.iload 5, 2) := by decide +kernel
theorem dL_law_225 : decode cL_law 225 = .ok (.iconst 1, 1) := by decide +kernel
theorem dL_law_226 : decode cL_law 226 = .ok (.iadd, 1) := by decide +kernel
theorem dL_law_227 : decode cL_law 227 = .ok (.iaload, 1) := by decide +kernel
theorem dL_law_228 : decode cL_law 228 = .ok (.invokevirtual 100, 3) := by decide +kernel
theorem dL_law_231 : decode cL_law 231 = .ok (.istore 7, 2) := by decide +kernel
theorem dL_law_233 : decode cL_law 233 = .ok (.aload_n 2, 1) := by decide +kernel
theorem dL_law_234 : decode cL_law 234 = .ok (.invokevirtual 101, 3) := by decide +kernel
theorem dL_law_237 : decode cL_law 237 = .ok (.iload 6, 2) := by decide +kernel
theorem dL_law_239 : decode cL_law 239 = .ok (.if_icmp .eq 5, 3) := by decide +kernel
theorem dL_law_242 : decode cL_law 242 = .ok (.iconst 0, 1) := by decide +kernel
theorem dL_law_243 : decode cL_law 243 = .ok (.ireturn, 1) := by decide +kernel
theorem dL_law_244 : decode cL_law 244 = .ok (.iload 6, 2) := by decide +kernel
theorem dL_law_246 : decode cL_law 246 = .ok (.ifCond .ne 15, 3) := by decide +kernel
theorem dL_law_249 : decode cL_law 249 = .ok (.aload_n 3, 1) := by decide +kernel
theorem dL_law_250 : decode cL_law 250 = .ok (.iconst 0, 1) := by decide +kernel
theorem dL_law_251 : decode cL_law 251 = .ok (.laload, 1) := by decide +kernel
theorem dL_law_252 : decode cL_law 252 = .ok (.iload 7, 2) := by decide +kernel
theorem dL_law_254 : decode cL_law 254 = .ok (.i2l, 1) := by decide +kernel
theorem dL_law_255 : decode cL_law 255 = .ok (.lcmp, 1) := by decide +kernel
theorem dL_law_256 : decode cL_law 256 = .ok (.ifCond .eq 5, 3) := by decide +kernel
theorem dL_law_259 : decode cL_law 259 = .ok (.iconst 0, 1) := by decide +kernel
theorem dL_law_260 : decode cL_law 260 = .ok (.ireturn, 1) := by decide +kernel
theorem dL_law_261 : decode cL_law 261 = .ok (.goto 1629, 3) := by decide +kernel
theorem dL_law_264 : decode cL_law 264 = .ok (.aload_n 1, 1) := by decide +kernel
theorem dL_law_265 : decode cL_law 265 = .ok (.aload_n 0, 1) := by decide +kernel
theorem dL_law_266 : decode cL_law 266 = .ok (.iload 5, 2) := by decide +kernel
theorem dL_law_268 : decode cL_law 268 = .ok (.iconst 1, 1) := by decide +kernel
theorem dL_law_269 : decode cL_law 269 = .ok (.iadd, 1) := by decide +kernel
theorem dL_law_270 : decode cL_law 270 = .ok (.iaload, 1) := by decide +kernel
theorem dL_law_271 : decode cL_law 271 = .ok (.aload_n 3, 1) := by decide +kernel
theorem dL_law_272 : decode cL_law 272 = .ok (.invokestatic 105, 3) := by decide +kernel
theorem dL_law_275 : decode cL_law 275 = .ok (.istore 6, 2) := by decide +kernel
theorem dL_law_277 : decode cL_law 277 = .ok (.aload_n 2, 1) := by decide +kernel
theorem dL_law_278 : decode cL_law 278 = .ok (.aload_n 0, 1) := by decide +kernel
theorem dL_law_279 : decode cL_law 279 = .ok (.iload 5, 2) := by decide +kernel
theorem dL_law_281 : decode cL_law 281 = .ok (.iconst 1, 1) := by decide +kernel
theorem dL_law_282 : decode cL_law 282 = .ok (.iadd, 1) := by decide +kernel
theorem dL_law_283 : decode cL_law 283 = .ok (.iaload, 1) := by decide +kernel
theorem dL_law_284 : decode cL_law 284 = .ok (.invokevirtual 107, 3) := by decide +kernel
theorem dL_law_287 : decode cL_law 287 = .ok (.istore 7, 2) := by decide +kernel
theorem dL_law_289 : decode cL_law 289 = .ok (.aload_n 2, 1) := by decide +kernel
theorem dL_law_290 : decode cL_law 290 = .ok (.invokevirtual 101, 3) := by decide +kernel
theorem dL_law_293 : decode cL_law 293 = .ok (.iload 6, 2) := by decide +kernel
theorem dL_law_295 : decode cL_law 295 = .ok (.if_icmp .eq 5, 3) := by decide +kernel
theorem dL_law_298 : decode cL_law 298 = .ok (.iconst 0, 1) := by decide +kernel
theorem dL_law_299 : decode cL_law 299 = .ok (.ireturn, 1) := by decide +kernel
theorem dL_law_300 : decode cL_law 300 = .ok (.iload 6, 2) := by decide +kernel
theorem dL_law_302 : decode cL_law 302 = .ok (.ifCond .ne 15, 3) := by decide +kernel
theorem dL_law_305 : decode cL_law 305 = .ok (.aload_n 3, 1) := by decide +kernel
theorem dL_law_306 : decode cL_law 306 = .ok (.iconst 0, 1) := by decide +kernel
theorem dL_law_307 : decode cL_law 307 = .ok (.laload, 1) := by decide +kernel
theorem dL_law_308 : decode cL_law 308 = .ok (.iload 7, 2) := by decide +kernel
theorem dL_law_310 : decode cL_law 310 = .ok (.i2l, 1) := by decide +kernel
theorem dL_law_311 : decode cL_law 311 = .ok (.lcmp, 1) := by decide +kernel
theorem dL_law_312 : decode cL_law 312 = .ok (.ifCond .eq 5, 3) := by decide +kernel
theorem dL_law_315 : decode cL_law 315 = .ok (.iconst 0, 1) := by decide +kernel
theorem dL_law_316 : decode cL_law 316 = .ok (.ireturn, 1) := by decide +kernel
theorem dL_law_317 : decode cL_law 317 = .ok (.goto 1573, 3) := by decide +kernel
theorem dL_law_320 : decode cL_law 320 = .ok (.aload_n 1, 1) := by decide +kernel
theorem dL_law_321 : decode cL_law 321 = .ok (.invokevirtual 108, 3) := by decide +kernel
theorem dL_law_324 : decode cL_law 324 = .ok (.aload_n 2, 1) := by decide +kernel
theorem dL_law_325 : decode cL_law 325 = .ok (.invokevirtual 111, 3) := by decide +kernel
theorem dL_law_328 : decode cL_law 328 = .ok (.if_icmp .eq 1562, 3) := by decide +kernel
theorem dL_law_331 : decode cL_law 331 = .ok (.iconst 0, 1) := by decide +kernel
theorem dL_law_332 : decode cL_law 332 = .ok (.ireturn, 1) := by decide +kernel
theorem dL_law_333 : decode cL_law 333 = .ok (.aload_n 1, 1) := by decide +kernel
theorem dL_law_334 : decode cL_law 334 = .ok (.invokevirtual 112, 3) := by decide +kernel
theorem dL_law_337 : decode cL_law 337 = .ok (.aload_n 2, 1) := by decide +kernel
theorem dL_law_338 : decode cL_law 338 = .ok (.invokevirtual 115, 3) := by decide +kernel
theorem dL_law_341 : decode cL_law 341 = .ok (.if_icmp .eq 1549, 3) := by decide +kernel
theorem dL_law_344 : decode cL_law 344 = .ok (.iconst 0, 1) := by decide +kernel
theorem dL_law_345 : decode cL_law 345 = .ok (.ireturn, 1) := by decide +kernel
theorem dL_law_346 : decode cL_law 346 = .ok (.aload_n 1, 1) := by decide +kernel
theorem dL_law_347 : decode cL_law 347 = .ok (.invokevirtual 116, 3) := by decide +kernel
theorem dL_law_350 : decode cL_law 350 = .ok (.aload_n 2, 1) := by decide +kernel
theorem dL_law_351 : decode cL_law 351 = .ok (.invokevirtual 119, 3) := by decide +kernel
theorem dL_law_354 : decode cL_law 354 = .ok (.if_icmp .eq 1536, 3) := by decide +kernel
theorem dL_law_357 : decode cL_law 357 = .ok (.iconst 0, 1) := by decide +kernel
theorem dL_law_358 : decode cL_law 358 = .ok (.ireturn, 1) := by decide +kernel
theorem dL_law_359 : decode cL_law 359 = .ok (.aload_n 1, 1) := by decide +kernel
theorem dL_law_360 : decode cL_law 360 = .ok (.invokevirtual 120, 3) := by decide +kernel
theorem dL_law_363 : decode cL_law 363 = .ok (.aload_n 2, 1) := by decide +kernel
theorem dL_law_364 : decode cL_law 364 = .ok (.invokevirtual 123, 3) := by decide +kernel
theorem dL_law_367 : decode cL_law 367 = .ok (.if_icmp .eq 1523, 3) := by decide +kernel
theorem dL_law_370 : decode cL_law 370 = .ok (.iconst 0, 1) := by decide +kernel
theorem dL_law_371 : decode cL_law 371 = .ok (.ireturn, 1) := by decide +kernel
theorem dL_law_372 : decode cL_law 372 = .ok (.aload_n 1, 1) := by decide +kernel
theorem dL_law_373 : decode cL_law 373 = .ok (.aload_n 0, 1) := by decide +kernel
theorem dL_law_374 : decode cL_law 374 = .ok (.iload 5, 2) := by decide +kernel
theorem dL_law_376 : decode cL_law 376 = .ok (.iconst 1, 1) := by decide +kernel
theorem dL_law_377 : decode cL_law 377 = .ok (.iadd, 1) := by decide +kernel
theorem dL_law_378 : decode cL_law 378 = .ok (.iaload, 1) := by decide +kernel
theorem dL_law_379 : decode cL_law 379 = .ok (.aload_n 3, 1) := by decide +kernel
theorem dL_law_380 : decode cL_law 380 = .ok (.invokestatic 124, 3) := by decide +kernel
theorem dL_law_383 : decode cL_law 383 = .ok (.istore 6, 2) := by decide +kernel
theorem dL_law_385 : decode cL_law 385 = .ok (.aload_n 2, 1) := by decide +kernel
theorem dL_law_386 : decode cL_law 386 = .ok (.aload_n 0, 1) := by decide +kernel
theorem dL_law_387 : decode cL_law 387 = .ok (.iload 5, 2) := by decide +kernel
theorem dL_law_389 : decode cL_law 389 = .ok (.iconst 1, 1) := by decide +kernel
theorem dL_law_390 : decode cL_law 390 = .ok (.iadd, 1) := by decide +kernel
theorem dL_law_391 : decode cL_law 391 = .ok (.iaload, 1) := by decide +kernel
theorem dL_law_392 : decode cL_law 392 = .ok (.invokevirtual 126, 3) := by decide +kernel
theorem dL_law_395 : decode cL_law 395 = .ok (.istore 7, 2) := by decide +kernel
theorem dL_law_397 : decode cL_law 397 = .ok (.aload_n 2, 1) := by decide +kernel
theorem dL_law_398 : decode cL_law 398 = .ok (.invokevirtual 101, 3) := by decide +kernel
theorem dL_law_401 : decode cL_law 401 = .ok (.iload 6, 2) := by decide +kernel
theorem dL_law_403 : decode cL_law 403 = .ok (.if_icmp .eq 5, 3) := by decide +kernel
theorem dL_law_406 : decode cL_law 406 = .ok (.iconst 0, 1) := by decide +kernel
theorem dL_law_407 : decode cL_law 407 = .ok (.ireturn, 1) := by decide +kernel
theorem dL_law_408 : decode cL_law 408 = .ok (.iload 6, 2) := by decide +kernel
theorem dL_law_410 : decode cL_law 410 = .ok (.ifCond .ne 15, 3) := by decide +kernel
theorem dL_law_413 : decode cL_law 413 = .ok (.aload_n 3, 1) := by decide +kernel
theorem dL_law_414 : decode cL_law 414 = .ok (.iconst 0, 1) := by decide +kernel
theorem dL_law_415 : decode cL_law 415 = .ok (.laload, 1) := by decide +kernel
theorem dL_law_416 : decode cL_law 416 = .ok (.iload 7, 2) := by decide +kernel
theorem dL_law_418 : decode cL_law 418 = .ok (.i2l, 1) := by decide +kernel
theorem dL_law_419 : decode cL_law 419 = .ok (.lcmp, 1) := by decide +kernel
theorem dL_law_420 : decode cL_law 420 = .ok (.ifCond .eq 5, 3) := by decide +kernel
theorem dL_law_423 : decode cL_law 423 = .ok (.iconst 0, 1) := by decide +kernel
theorem dL_law_424 : decode cL_law 424 = .ok (.ireturn, 1) := by decide +kernel
theorem dL_law_425 : decode cL_law 425 = .ok (.goto 1465, 3) := by decide +kernel
theorem dL_law_428 : decode cL_law 428 = .ok (.aload_n 1, 1) := by decide +kernel
theorem dL_law_429 : decode cL_law 429 = .ok (.aload_n 0, 1) := by decide +kernel
theorem dL_law_430 : decode cL_law 430 = .ok (.iload 5, 2) := by decide +kernel
theorem dL_law_432 : decode cL_law 432 = .ok (.iconst 1, 1) := by decide +kernel
theorem dL_law_433 : decode cL_law 433 = .ok (.iadd, 1) := by decide +kernel
theorem dL_law_434 : decode cL_law 434 = .ok (.iaload, 1) := by decide +kernel
theorem dL_law_435 : decode cL_law 435 = .ok (.aload_n 0, 1) := by decide +kernel
theorem dL_law_436 : decode cL_law 436 = .ok (.iload 5, 2) := by decide +kernel
theorem dL_law_438 : decode cL_law 438 = .ok (.iconst 2, 1) := by decide +kernel
theorem dL_law_439 : decode cL_law 439 = .ok (.iadd, 1) := by decide +kernel
theorem dL_law_440 : decode cL_law 440 = .ok (.iaload, 1) := by decide +kernel
theorem dL_law_441 : decode cL_law 441 = .ok (.aload_n 3, 1) := by decide +kernel
theorem dL_law_442 : decode cL_law 442 = .ok (.invokestatic 127, 3) := by decide +kernel
theorem dL_law_445 : decode cL_law 445 = .ok (.istore 6, 2) := by decide +kernel
theorem dL_law_447 : decode cL_law 447 = .ok (.aload_n 2, 1) := by decide +kernel
theorem dL_law_448 : decode cL_law 448 = .ok (.aload_n 0, 1) := by decide +kernel
theorem dL_law_449 : decode cL_law 449 = .ok (.iload 5, 2) := by decide +kernel
theorem dL_law_451 : decode cL_law 451 = .ok (.iconst 1, 1) := by decide +kernel
theorem dL_law_452 : decode cL_law 452 = .ok (.iadd, 1) := by decide +kernel
theorem dL_law_453 : decode cL_law 453 = .ok (.iaload, 1) := by decide +kernel
theorem dL_law_454 : decode cL_law 454 = .ok (.aload_n 0, 1) := by decide +kernel
theorem dL_law_455 : decode cL_law 455 = .ok (.iload 5, 2) := by decide +kernel
theorem dL_law_457 : decode cL_law 457 = .ok (.iconst 2, 1) := by decide +kernel
theorem dL_law_458 : decode cL_law 458 = .ok (.iadd, 1) := by decide +kernel
theorem dL_law_459 : decode cL_law 459 = .ok (.iaload, 1) := by decide +kernel
theorem dL_law_460 : decode cL_law 460 = .ok (.invokevirtual 130, 3) := by decide +kernel
theorem dL_law_463 : decode cL_law 463 = .ok (.istore 7, 2) := by decide +kernel
theorem dL_law_465 : decode cL_law 465 = .ok (.aload_n 2, 1) := by decide +kernel
theorem dL_law_466 : decode cL_law 466 = .ok (.invokevirtual 101, 3) := by decide +kernel
theorem dL_law_469 : decode cL_law 469 = .ok (.iload 6, 2) := by decide +kernel
theorem dL_law_471 : decode cL_law 471 = .ok (.if_icmp .eq 5, 3) := by decide +kernel
theorem dL_law_474 : decode cL_law 474 = .ok (.iconst 0, 1) := by decide +kernel
theorem dL_law_475 : decode cL_law 475 = .ok (.ireturn, 1) := by decide +kernel
theorem dL_law_476 : decode cL_law 476 = .ok (.iload 6, 2) := by decide +kernel
theorem dL_law_478 : decode cL_law 478 = .ok (.ifCond .ne 15, 3) := by decide +kernel
theorem dL_law_481 : decode cL_law 481 = .ok (.aload_n 3, 1) := by decide +kernel
theorem dL_law_482 : decode cL_law 482 = .ok (.iconst 0, 1) := by decide +kernel
theorem dL_law_483 : decode cL_law 483 = .ok (.laload, 1) := by decide +kernel
theorem dL_law_484 : decode cL_law 484 = .ok (.iload 7, 2) := by decide +kernel
theorem dL_law_486 : decode cL_law 486 = .ok (.i2l, 1) := by decide +kernel
theorem dL_law_487 : decode cL_law 487 = .ok (.lcmp, 1) := by decide +kernel
theorem dL_law_488 : decode cL_law 488 = .ok (.ifCond .eq 5, 3) := by decide +kernel
theorem dL_law_491 : decode cL_law 491 = .ok (.iconst 0, 1) := by decide +kernel
theorem dL_law_492 : decode cL_law 492 = .ok (.ireturn, 1) := by decide +kernel
theorem dL_law_493 : decode cL_law 493 = .ok (.goto 1397, 3) := by decide +kernel
theorem dL_law_496 : decode cL_law 496 = .ok (.aload_n 1, 1) := by decide +kernel
theorem dL_law_497 : decode cL_law 497 = .ok (.aload_n 0, 1) := by decide +kernel
theorem dL_law_498 : decode cL_law 498 = .ok (.iload 5, 2) := by decide +kernel
theorem dL_law_500 : decode cL_law 500 = .ok (.iconst 1, 1) := by decide +kernel
theorem dL_law_501 : decode cL_law 501 = .ok (.iadd, 1) := by decide +kernel
theorem dL_law_502 : decode cL_law 502 = .ok (.iaload, 1) := by decide +kernel
theorem dL_law_503 : decode cL_law 503 = .ok (.aload_n 0, 1) := by decide +kernel
theorem dL_law_504 : decode cL_law 504 = .ok (.iload 5, 2) := by decide +kernel
theorem dL_law_506 : decode cL_law 506 = .ok (.iconst 2, 1) := by decide +kernel
theorem dL_law_507 : decode cL_law 507 = .ok (.iadd, 1) := by decide +kernel
theorem dL_law_508 : decode cL_law 508 = .ok (.iaload, 1) := by decide +kernel
theorem dL_law_509 : decode cL_law 509 = .ok (.aload_n 0, 1) := by decide +kernel
theorem dL_law_510 : decode cL_law 510 = .ok (.iload 5, 2) := by decide +kernel
theorem dL_law_512 : decode cL_law 512 = .ok (.iconst 3, 1) := by decide +kernel
theorem dL_law_513 : decode cL_law 513 = .ok (.iadd, 1) := by decide +kernel
theorem dL_law_514 : decode cL_law 514 = .ok (.iaload, 1) := by decide +kernel
theorem dL_law_515 : decode cL_law 515 = .ok (.aload_n 3, 1) := by decide +kernel
theorem dL_law_516 : decode cL_law 516 = .ok (.invokestatic 131, 3) := by decide +kernel
theorem dL_law_519 : decode cL_law 519 = .ok (.istore 6, 2) := by decide +kernel
theorem dL_law_521 : decode cL_law 521 = .ok (.aload_n 2, 1) := by decide +kernel
theorem dL_law_522 : decode cL_law 522 = .ok (.aload_n 0, 1) := by decide +kernel
theorem dL_law_523 : decode cL_law 523 = .ok (.iload 5, 2) := by decide +kernel
theorem dL_law_525 : decode cL_law 525 = .ok (.iconst 1, 1) := by decide +kernel
theorem dL_law_526 : decode cL_law 526 = .ok (.iadd, 1) := by decide +kernel
theorem dL_law_527 : decode cL_law 527 = .ok (.iaload, 1) := by decide +kernel
theorem dL_law_528 : decode cL_law 528 = .ok (.aload_n 0, 1) := by decide +kernel
theorem dL_law_529 : decode cL_law 529 = .ok (.iload 5, 2) := by decide +kernel
theorem dL_law_531 : decode cL_law 531 = .ok (.iconst 2, 1) := by decide +kernel
theorem dL_law_532 : decode cL_law 532 = .ok (.iadd, 1) := by decide +kernel
theorem dL_law_533 : decode cL_law 533 = .ok (.iaload, 1) := by decide +kernel
theorem dL_law_534 : decode cL_law 534 = .ok (.aload_n 0, 1) := by decide +kernel
theorem dL_law_535 : decode cL_law 535 = .ok (.iload 5, 2) := by decide +kernel
theorem dL_law_537 : decode cL_law 537 = .ok (.iconst 3, 1) := by decide +kernel
theorem dL_law_538 : decode cL_law 538 = .ok (.iadd, 1) := by decide +kernel
theorem dL_law_539 : decode cL_law 539 = .ok (.iaload, 1) := by decide +kernel
theorem dL_law_540 : decode cL_law 540 = .ok (.invokevirtual 134, 3) := by decide +kernel
theorem dL_law_543 : decode cL_law 543 = .ok (.istore 7, 2) := by decide +kernel
theorem dL_law_545 : decode cL_law 545 = .ok (.aload_n 2, 1) := by decide +kernel
theorem dL_law_546 : decode cL_law 546 = .ok (.invokevirtual 101, 3) := by decide +kernel
theorem dL_law_549 : decode cL_law 549 = .ok (.iload 6, 2) := by decide +kernel
theorem dL_law_551 : decode cL_law 551 = .ok (.if_icmp .eq 5, 3) := by decide +kernel
theorem dL_law_554 : decode cL_law 554 = .ok (.iconst 0, 1) := by decide +kernel
theorem dL_law_555 : decode cL_law 555 = .ok (.ireturn, 1) := by decide +kernel
theorem dL_law_556 : decode cL_law 556 = .ok (.iload 6, 2) := by decide +kernel
theorem dL_law_558 : decode cL_law 558 = .ok (.ifCond .ne 15, 3) := by decide +kernel
theorem dL_law_561 : decode cL_law 561 = .ok (.aload_n 3, 1) := by decide +kernel
theorem dL_law_562 : decode cL_law 562 = .ok (.iconst 0, 1) := by decide +kernel
theorem dL_law_563 : decode cL_law 563 = .ok (.laload, 1) := by decide +kernel
theorem dL_law_564 : decode cL_law 564 = .ok (.iload 7, 2) := by decide +kernel
theorem dL_law_566 : decode cL_law 566 = .ok (.i2l, 1) := by decide +kernel
theorem dL_law_567 : decode cL_law 567 = .ok (.lcmp, 1) := by decide +kernel
theorem dL_law_568 : decode cL_law 568 = .ok (.ifCond .eq 5, 3) := by decide +kernel
theorem dL_law_571 : decode cL_law 571 = .ok (.iconst 0, 1) := by decide +kernel
theorem dL_law_572 : decode cL_law 572 = .ok (.ireturn, 1) := by decide +kernel
theorem dL_law_573 : decode cL_law 573 = .ok (.goto 1317, 3) := by decide +kernel
theorem dL_law_576 : decode cL_law 576 = .ok (.aload_n 1, 1) := by decide +kernel
theorem dL_law_577 : decode cL_law 577 = .ok (.aload_n 0, 1) := by decide +kernel
theorem dL_law_578 : decode cL_law 578 = .ok (.iload 5, 2) := by decide +kernel
theorem dL_law_580 : decode cL_law 580 = .ok (.iconst 1, 1) := by decide +kernel
theorem dL_law_581 : decode cL_law 581 = .ok (.iadd, 1) := by decide +kernel
theorem dL_law_582 : decode cL_law 582 = .ok (.iaload, 1) := by decide +kernel
theorem dL_law_583 : decode cL_law 583 = .ok (.aload_n 0, 1) := by decide +kernel
theorem dL_law_584 : decode cL_law 584 = .ok (.iload 5, 2) := by decide +kernel
theorem dL_law_586 : decode cL_law 586 = .ok (.iconst 2, 1) := by decide +kernel
theorem dL_law_587 : decode cL_law 587 = .ok (.iadd, 1) := by decide +kernel
theorem dL_law_588 : decode cL_law 588 = .ok (.iaload, 1) := by decide +kernel
theorem dL_law_589 : decode cL_law 589 = .ok (.aload_n 3, 1) := by decide +kernel
theorem dL_law_590 : decode cL_law 590 = .ok (.invokestatic 135, 3) := by decide +kernel
theorem dL_law_593 : decode cL_law 593 = .ok (.istore 6, 2) := by decide +kernel
theorem dL_law_595 : decode cL_law 595 = .ok (.aload_n 2, 1) := by decide +kernel
theorem dL_law_596 : decode cL_law 596 = .ok (.aload_n 0, 1) := by decide +kernel
theorem dL_law_597 : decode cL_law 597 = .ok (.iload 5, 2) := by decide +kernel
theorem dL_law_599 : decode cL_law 599 = .ok (.iconst 1, 1) := by decide +kernel
theorem dL_law_600 : decode cL_law 600 = .ok (.iadd, 1) := by decide +kernel
theorem dL_law_601 : decode cL_law 601 = .ok (.iaload, 1) := by decide +kernel
theorem dL_law_602 : decode cL_law 602 = .ok (.aload_n 0, 1) := by decide +kernel
theorem dL_law_603 : decode cL_law 603 = .ok (.iload 5, 2) := by decide +kernel
theorem dL_law_605 : decode cL_law 605 = .ok (.iconst 2, 1) := by decide +kernel
theorem dL_law_606 : decode cL_law 606 = .ok (.iadd, 1) := by decide +kernel
theorem dL_law_607 : decode cL_law 607 = .ok (.iaload, 1) := by decide +kernel
theorem dL_law_608 : decode cL_law 608 = .ok (.invokevirtual 137, 3) := by decide +kernel
theorem dL_law_611 : decode cL_law 611 = .ok (.istore 7, 2) := by decide +kernel
theorem dL_law_613 : decode cL_law 613 = .ok (.aload_n 2, 1) := by decide +kernel
theorem dL_law_614 : decode cL_law 614 = .ok (.invokevirtual 101, 3) := by decide +kernel
theorem dL_law_617 : decode cL_law 617 = .ok (.iload 6, 2) := by decide +kernel
theorem dL_law_619 : decode cL_law 619 = .ok (.if_icmp .eq 5, 3) := by decide +kernel
theorem dL_law_622 : decode cL_law 622 = .ok (.iconst 0, 1) := by decide +kernel
theorem dL_law_623 : decode cL_law 623 = .ok (.ireturn, 1) := by decide +kernel
theorem dL_law_624 : decode cL_law 624 = .ok (.iload 6, 2) := by decide +kernel
theorem dL_law_626 : decode cL_law 626 = .ok (.ifCond .ne 15, 3) := by decide +kernel
theorem dL_law_629 : decode cL_law 629 = .ok (.aload_n 3, 1) := by decide +kernel
theorem dL_law_630 : decode cL_law 630 = .ok (.iconst 0, 1) := by decide +kernel
theorem dL_law_631 : decode cL_law 631 = .ok (.laload, 1) := by decide +kernel
theorem dL_law_632 : decode cL_law 632 = .ok (.iload 7, 2) := by decide +kernel
theorem dL_law_634 : decode cL_law 634 = .ok (.i2l, 1) := by decide +kernel
theorem dL_law_635 : decode cL_law 635 = .ok (.lcmp, 1) := by decide +kernel
theorem dL_law_636 : decode cL_law 636 = .ok (.ifCond .eq 5, 3) := by decide +kernel
theorem dL_law_639 : decode cL_law 639 = .ok (.iconst 0, 1) := by decide +kernel
theorem dL_law_640 : decode cL_law 640 = .ok (.ireturn, 1) := by decide +kernel
theorem dL_law_641 : decode cL_law 641 = .ok (.goto 1249, 3) := by decide +kernel
theorem dL_law_644 : decode cL_law 644 = .ok (.aload_n 1, 1) := by decide +kernel
theorem dL_law_645 : decode cL_law 645 = .ok (.invokevirtual 138, 3) := by decide +kernel
theorem dL_law_648 : decode cL_law 648 = .ok (.aload_n 2, 1) := by decide +kernel
theorem dL_law_649 : decode cL_law 649 = .ok (.invokevirtual 141, 3) := by decide +kernel
theorem dL_law_652 : decode cL_law 652 = .ok (.if_icmp .eq 1238, 3) := by decide +kernel
theorem dL_law_655 : decode cL_law 655 = .ok (.iconst 0, 1) := by decide +kernel
theorem dL_law_656 : decode cL_law 656 = .ok (.ireturn, 1) := by decide +kernel
theorem dL_law_657 : decode cL_law 657 = .ok (.aload_n 1, 1) := by decide +kernel
theorem dL_law_658 : decode cL_law 658 = .ok (.aload_n 0, 1) := by decide +kernel
theorem dL_law_659 : decode cL_law 659 = .ok (.iload 5, 2) := by decide +kernel
theorem dL_law_661 : decode cL_law 661 = .ok (.iconst 1, 1) := by decide +kernel
theorem dL_law_662 : decode cL_law 662 = .ok (.iadd, 1) := by decide +kernel
theorem dL_law_663 : decode cL_law 663 = .ok (.iaload, 1) := by decide +kernel
theorem dL_law_664 : decode cL_law 664 = .ok (.aload_n 3, 1) := by decide +kernel
theorem dL_law_665 : decode cL_law 665 = .ok (.invokestatic 142, 3) := by decide +kernel
theorem dL_law_668 : decode cL_law 668 = .ok (.istore 6, 2) := by decide +kernel
theorem dL_law_670 : decode cL_law 670 = .ok (.aload_n 2, 1) := by decide +kernel
theorem dL_law_671 : decode cL_law 671 = .ok (.aload_n 0, 1) := by decide +kernel
theorem dL_law_672 : decode cL_law 672 = .ok (.iload 5, 2) := by decide +kernel
theorem dL_law_674 : decode cL_law 674 = .ok (.iconst 1, 1) := by decide +kernel
theorem dL_law_675 : decode cL_law 675 = .ok (.iadd, 1) := by decide +kernel
theorem dL_law_676 : decode cL_law 676 = .ok (.iaload, 1) := by decide +kernel
theorem dL_law_677 : decode cL_law 677 = .ok (.invokevirtual 144, 3) := by decide +kernel
theorem dL_law_680 : decode cL_law 680 = .ok (.istore 7, 2) := by decide +kernel
theorem dL_law_682 : decode cL_law 682 = .ok (.aload_n 2, 1) := by decide +kernel
theorem dL_law_683 : decode cL_law 683 = .ok (.invokevirtual 101, 3) := by decide +kernel
theorem dL_law_686 : decode cL_law 686 = .ok (.iload 6, 2) := by decide +kernel
theorem dL_law_688 : decode cL_law 688 = .ok (.if_icmp .eq 5, 3) := by decide +kernel
theorem dL_law_691 : decode cL_law 691 = .ok (.iconst 0, 1) := by decide +kernel
theorem dL_law_692 : decode cL_law 692 = .ok (.ireturn, 1) := by decide +kernel
theorem dL_law_693 : decode cL_law 693 = .ok (.iload 6, 2) := by decide +kernel
theorem dL_law_695 : decode cL_law 695 = .ok (.ifCond .ne 15, 3) := by decide +kernel
theorem dL_law_698 : decode cL_law 698 = .ok (.aload_n 3, 1) := by decide +kernel
theorem dL_law_699 : decode cL_law 699 = .ok (.iconst 0, 1) := by decide +kernel
theorem dL_law_700 : decode cL_law 700 = .ok (.laload, 1) := by decide +kernel
theorem dL_law_701 : decode cL_law 701 = .ok (.iload 7, 2) := by decide +kernel
theorem dL_law_703 : decode cL_law 703 = .ok (.i2l, 1) := by decide +kernel
theorem dL_law_704 : decode cL_law 704 = .ok (.lcmp, 1) := by decide +kernel
theorem dL_law_705 : decode cL_law 705 = .ok (.ifCond .eq 5, 3) := by decide +kernel
theorem dL_law_708 : decode cL_law 708 = .ok (.iconst 0, 1) := by decide +kernel
theorem dL_law_709 : decode cL_law 709 = .ok (.ireturn, 1) := by decide +kernel
theorem dL_law_710 : decode cL_law 710 = .ok (.goto 1180, 3) := by decide +kernel
theorem dL_law_713 : decode cL_law 713 = .ok (.aload_n 1, 1) := by decide +kernel
theorem dL_law_714 : decode cL_law 714 = .ok (.aload_n 0, 1) := by decide +kernel
theorem dL_law_715 : decode cL_law 715 = .ok (.iload 5, 2) := by decide +kernel
theorem dL_law_717 : decode cL_law 717 = .ok (.iconst 1, 1) := by decide +kernel
theorem dL_law_718 : decode cL_law 718 = .ok (.iadd, 1) := by decide +kernel
theorem dL_law_719 : decode cL_law 719 = .ok (.iaload, 1) := by decide +kernel
theorem dL_law_720 : decode cL_law 720 = .ok (.aload_n 0, 1) := by decide +kernel
theorem dL_law_721 : decode cL_law 721 = .ok (.iload 5, 2) := by decide +kernel
theorem dL_law_723 : decode cL_law 723 = .ok (.iconst 2, 1) := by decide +kernel
theorem dL_law_724 : decode cL_law 724 = .ok (.iadd, 1) := by decide +kernel
theorem dL_law_725 : decode cL_law 725 = .ok (.iaload, 1) := by decide +kernel
theorem dL_law_726 : decode cL_law 726 = .ok (.aload_n 0, 1) := by decide +kernel
theorem dL_law_727 : decode cL_law 727 = .ok (.iload 5, 2) := by decide +kernel
theorem dL_law_729 : decode cL_law 729 = .ok (.iconst 3, 1) := by decide +kernel
theorem dL_law_730 : decode cL_law 730 = .ok (.iadd, 1) := by decide +kernel
theorem dL_law_731 : decode cL_law 731 = .ok (.iaload, 1) := by decide +kernel
theorem dL_law_732 : decode cL_law 732 = .ok (.aload_n 0, 1) := by decide +kernel
theorem dL_law_733 : decode cL_law 733 = .ok (.iload 5, 2) := by decide +kernel
theorem dL_law_735 : decode cL_law 735 = .ok (.iconst 4, 1) := by decide +kernel
theorem dL_law_736 : decode cL_law 736 = .ok (.iadd, 1) := by decide +kernel
theorem dL_law_737 : decode cL_law 737 = .ok (.iaload, 1) := by decide +kernel
theorem dL_law_738 : decode cL_law 738 = .ok (.ifCond .eq 7, 3) := by decide +kernel
theorem dL_law_741 : decode cL_law 741 = .ok (.iconst 1, 1) := by decide +kernel
theorem dL_law_742 : decode cL_law 742 = .ok (.goto 4, 3) := by decide +kernel
theorem dL_law_745 : decode cL_law 745 = .ok (.iconst 0, 1) := by decide +kernel
theorem dL_law_746 : decode cL_law 746 = .ok (.aload_n 0, 1) := by decide +kernel
theorem dL_law_747 : decode cL_law 747 = .ok (.iload 5, 2) := by decide +kernel
theorem dL_law_749 : decode cL_law 749 = .ok (.iconst 5, 1) := by decide +kernel
theorem dL_law_750 : decode cL_law 750 = .ok (.iadd, 1) := by decide +kernel
theorem dL_law_751 : decode cL_law 751 = .ok (.iaload, 1) := by decide +kernel
theorem dL_law_752 : decode cL_law 752 = .ok (.aload_n 3, 1) := by decide +kernel
theorem dL_law_753 : decode cL_law 753 = .ok (.invokestatic 145, 3) := by decide +kernel
theorem dL_law_756 : decode cL_law 756 = .ok (.istore 6, 2) := by decide +kernel
theorem dL_law_758 : decode cL_law 758 = .ok (.aload_n 2, 1) := by decide +kernel
theorem dL_law_759 : decode cL_law 759 = .ok (.aload_n 0, 1) := by decide +kernel
theorem dL_law_760 : decode cL_law 760 = .ok (.iload 5, 2) := by decide +kernel
theorem dL_law_762 : decode cL_law 762 = .ok (.iconst 1, 1) := by decide +kernel
theorem dL_law_763 : decode cL_law 763 = .ok (.iadd, 1) := by decide +kernel
theorem dL_law_764 : decode cL_law 764 = .ok (.iaload, 1) := by decide +kernel
theorem dL_law_765 : decode cL_law 765 = .ok (.aload_n 0, 1) := by decide +kernel
theorem dL_law_766 : decode cL_law 766 = .ok (.iload 5, 2) := by decide +kernel
theorem dL_law_768 : decode cL_law 768 = .ok (.iconst 2, 1) := by decide +kernel
theorem dL_law_769 : decode cL_law 769 = .ok (.iadd, 1) := by decide +kernel
theorem dL_law_770 : decode cL_law 770 = .ok (.iaload, 1) := by decide +kernel
theorem dL_law_771 : decode cL_law 771 = .ok (.aload_n 0, 1) := by decide +kernel
theorem dL_law_772 : decode cL_law 772 = .ok (.iload 5, 2) := by decide +kernel
theorem dL_law_774 : decode cL_law 774 = .ok (.iconst 3, 1) := by decide +kernel
theorem dL_law_775 : decode cL_law 775 = .ok (.iadd, 1) := by decide +kernel
theorem dL_law_776 : decode cL_law 776 = .ok (.iaload, 1) := by decide +kernel
theorem dL_law_777 : decode cL_law 777 = .ok (.aload_n 0, 1) := by decide +kernel
theorem dL_law_778 : decode cL_law 778 = .ok (.iload 5, 2) := by decide +kernel
theorem dL_law_780 : decode cL_law 780 = .ok (.iconst 4, 1) := by decide +kernel
theorem dL_law_781 : decode cL_law 781 = .ok (.iadd, 1) := by decide +kernel
theorem dL_law_782 : decode cL_law 782 = .ok (.iaload, 1) := by decide +kernel
theorem dL_law_783 : decode cL_law 783 = .ok (.ifCond .eq 7, 3) := by decide +kernel
theorem dL_law_786 : decode cL_law 786 = .ok (.iconst 1, 1) := by decide +kernel
theorem dL_law_787 : decode cL_law 787 = .ok (.goto 4, 3) := by decide +kernel
theorem dL_law_790 : decode cL_law 790 = .ok (.iconst 0, 1) := by decide +kernel
theorem dL_law_791 : decode cL_law 791 = .ok (.aload_n 0, 1) := by decide +kernel
theorem dL_law_792 : decode cL_law 792 = .ok (.iload 5, 2) := by decide +kernel
theorem dL_law_794 : decode cL_law 794 = .ok (.iconst 5, 1) := by decide +kernel
theorem dL_law_795 : decode cL_law 795 = .ok (.iadd, 1) := by decide +kernel
theorem dL_law_796 : decode cL_law 796 = .ok (.iaload, 1) := by decide +kernel
theorem dL_law_797 : decode cL_law 797 = .ok (.invokevirtual 148, 3) := by decide +kernel
theorem dL_law_800 : decode cL_law 800 = .ok (.istore 7, 2) := by decide +kernel
theorem dL_law_802 : decode cL_law 802 = .ok (.aload_n 2, 1) := by decide +kernel
theorem dL_law_803 : decode cL_law 803 = .ok (.invokevirtual 101, 3) := by decide +kernel
theorem dL_law_806 : decode cL_law 806 = .ok (.iload 6, 2) := by decide +kernel
theorem dL_law_808 : decode cL_law 808 = .ok (.if_icmp .eq 5, 3) := by decide +kernel
theorem dL_law_811 : decode cL_law 811 = .ok (.iconst 0, 1) := by decide +kernel
theorem dL_law_812 : decode cL_law 812 = .ok (.ireturn, 1) := by decide +kernel
theorem dL_law_813 : decode cL_law 813 = .ok (.iload 6, 2) := by decide +kernel
theorem dL_law_815 : decode cL_law 815 = .ok (.ifCond .ne 15, 3) := by decide +kernel
theorem dL_law_818 : decode cL_law 818 = .ok (.aload_n 3, 1) := by decide +kernel
theorem dL_law_819 : decode cL_law 819 = .ok (.iconst 0, 1) := by decide +kernel
theorem dL_law_820 : decode cL_law 820 = .ok (.laload, 1) := by decide +kernel
theorem dL_law_821 : decode cL_law 821 = .ok (.iload 7, 2) := by decide +kernel
theorem dL_law_823 : decode cL_law 823 = .ok (.i2l, 1) := by decide +kernel
theorem dL_law_824 : decode cL_law 824 = .ok (.lcmp, 1) := by decide +kernel
theorem dL_law_825 : decode cL_law 825 = .ok (.ifCond .eq 5, 3) := by decide +kernel
theorem dL_law_828 : decode cL_law 828 = .ok (.iconst 0, 1) := by decide +kernel
theorem dL_law_829 : decode cL_law 829 = .ok (.ireturn, 1) := by decide +kernel
theorem dL_law_830 : decode cL_law 830 = .ok (.goto 1060, 3) := by decide +kernel
theorem dL_law_833 : decode cL_law 833 = .ok (.aload_n 1, 1) := by decide +kernel
theorem dL_law_834 : decode cL_law 834 = .ok (.aload_n 0, 1) := by decide +kernel
theorem dL_law_835 : decode cL_law 835 = .ok (.iload 5, 2) := by decide +kernel
theorem dL_law_837 : decode cL_law 837 = .ok (.iconst 1, 1) := by decide +kernel
theorem dL_law_838 : decode cL_law 838 = .ok (.iadd, 1) := by decide +kernel
theorem dL_law_839 : decode cL_law 839 = .ok (.iaload, 1) := by decide +kernel
theorem dL_law_840 : decode cL_law 840 = .ok (.aload_n 0, 1) := by decide +kernel
theorem dL_law_841 : decode cL_law 841 = .ok (.iload 5, 2) := by decide +kernel
theorem dL_law_843 : decode cL_law 843 = .ok (.iconst 2, 1) := by decide +kernel
theorem dL_law_844 : decode cL_law 844 = .ok (.iadd, 1) := by decide +kernel
theorem dL_law_845 : decode cL_law 845 = .ok (.iaload, 1) := by decide +kernel
theorem dL_law_846 : decode cL_law 846 = .ok (.aload_n 3, 1) := by decide +kernel
theorem dL_law_847 : decode cL_law 847 = .ok (.invokestatic 149, 3) := by decide +kernel
theorem dL_law_850 : decode cL_law 850 = .ok (.istore 6, 2) := by decide +kernel
theorem dL_law_852 : decode cL_law 852 = .ok (.aload_n 2, 1) := by decide +kernel
theorem dL_law_853 : decode cL_law 853 = .ok (.aload_n 0, 1) := by decide +kernel
theorem dL_law_854 : decode cL_law 854 = .ok (.iload 5, 2) := by decide +kernel
theorem dL_law_856 : decode cL_law 856 = .ok (.iconst 1, 1) := by decide +kernel
theorem dL_law_857 : decode cL_law 857 = .ok (.iadd, 1) := by decide +kernel
theorem dL_law_858 : decode cL_law 858 = .ok (.iaload, 1) := by decide +kernel
theorem dL_law_859 : decode cL_law 859 = .ok (.aload_n 0, 1) := by decide +kernel
theorem dL_law_860 : decode cL_law 860 = .ok (.iload 5, 2) := by decide +kernel
theorem dL_law_862 : decode cL_law 862 = .ok (.iconst 2, 1) := by decide +kernel
theorem dL_law_863 : decode cL_law 863 = .ok (.iadd, 1) := by decide +kernel
theorem dL_law_864 : decode cL_law 864 = .ok (.iaload, 1) := by decide +kernel
theorem dL_law_865 : decode cL_law 865 = .ok (.invokevirtual 151, 3) := by decide +kernel
theorem dL_law_868 : decode cL_law 868 = .ok (.istore 7, 2) := by decide +kernel
theorem dL_law_870 : decode cL_law 870 = .ok (.aload_n 2, 1) := by decide +kernel
theorem dL_law_871 : decode cL_law 871 = .ok (.invokevirtual 101, 3) := by decide +kernel
theorem dL_law_874 : decode cL_law 874 = .ok (.iload 6, 2) := by decide +kernel
theorem dL_law_876 : decode cL_law 876 = .ok (.if_icmp .eq 5, 3) := by decide +kernel
theorem dL_law_879 : decode cL_law 879 = .ok (.iconst 0, 1) := by decide +kernel
theorem dL_law_880 : decode cL_law 880 = .ok (.ireturn, 1) := by decide +kernel
theorem dL_law_881 : decode cL_law 881 = .ok (.iload 6, 2) := by decide +kernel
theorem dL_law_883 : decode cL_law 883 = .ok (.ifCond .ne 15, 3) := by decide +kernel
theorem dL_law_886 : decode cL_law 886 = .ok (.aload_n 3, 1) := by decide +kernel
theorem dL_law_887 : decode cL_law 887 = .ok (.iconst 0, 1) := by decide +kernel
theorem dL_law_888 : decode cL_law 888 = .ok (.laload, 1) := by decide +kernel
theorem dL_law_889 : decode cL_law 889 = .ok (.iload 7, 2) := by decide +kernel
theorem dL_law_891 : decode cL_law 891 = .ok (.i2l, 1) := by decide +kernel
theorem dL_law_892 : decode cL_law 892 = .ok (.lcmp, 1) := by decide +kernel
theorem dL_law_893 : decode cL_law 893 = .ok (.ifCond .eq 5, 3) := by decide +kernel
theorem dL_law_896 : decode cL_law 896 = .ok (.iconst 0, 1) := by decide +kernel
theorem dL_law_897 : decode cL_law 897 = .ok (.ireturn, 1) := by decide +kernel
theorem dL_law_898 : decode cL_law 898 = .ok (.goto 992, 3) := by decide +kernel
theorem dL_law_901 : decode cL_law 901 = .ok (.aload_n 1, 1) := by decide +kernel
theorem dL_law_902 : decode cL_law 902 = .ok (.invokevirtual 152, 3) := by decide +kernel
theorem dL_law_905 : decode cL_law 905 = .ok (.aload_n 2, 1) := by decide +kernel
theorem dL_law_906 : decode cL_law 906 = .ok (.invokevirtual 155, 3) := by decide +kernel
theorem dL_law_909 : decode cL_law 909 = .ok (.if_icmp .eq 981, 3) := by decide +kernel
theorem dL_law_912 : decode cL_law 912 = .ok (.iconst 0, 1) := by decide +kernel
theorem dL_law_913 : decode cL_law 913 = .ok (.ireturn, 1) := by decide +kernel
theorem dL_law_914 : decode cL_law 914 = .ok (.aload_n 1, 1) := by decide +kernel
theorem dL_law_915 : decode cL_law 915 = .ok (.aload_n 0, 1) := by decide +kernel
theorem dL_law_916 : decode cL_law 916 = .ok (.iload 5, 2) := by decide +kernel
theorem dL_law_918 : decode cL_law 918 = .ok (.iconst 1, 1) := by decide +kernel
theorem dL_law_919 : decode cL_law 919 = .ok (.iadd, 1) := by decide +kernel
theorem dL_law_920 : decode cL_law 920 = .ok (.iaload, 1) := by decide +kernel
theorem dL_law_921 : decode cL_law 921 = .ok (.aload_n 0, 1) := by decide +kernel
theorem dL_law_922 : decode cL_law 922 = .ok (.iload 5, 2) := by decide +kernel
theorem dL_law_924 : decode cL_law 924 = .ok (.iconst 2, 1) := by decide +kernel
theorem dL_law_925 : decode cL_law 925 = .ok (.iadd, 1) := by decide +kernel
theorem dL_law_926 : decode cL_law 926 = .ok (.iaload, 1) := by decide +kernel
theorem dL_law_927 : decode cL_law 927 = .ok (.aload_n 3, 1) := by decide +kernel
theorem dL_law_928 : decode cL_law 928 = .ok (.invokestatic 156, 3) := by decide +kernel
theorem dL_law_931 : decode cL_law 931 = .ok (.istore 6, 2) := by decide +kernel
theorem dL_law_933 : decode cL_law 933 = .ok (.aload_n 2, 1) := by decide +kernel
theorem dL_law_934 : decode cL_law 934 = .ok (.aload_n 0, 1) := by decide +kernel
theorem dL_law_935 : decode cL_law 935 = .ok (.iload 5, 2) := by decide +kernel
theorem dL_law_937 : decode cL_law 937 = .ok (.iconst 1, 1) := by decide +kernel
theorem dL_law_938 : decode cL_law 938 = .ok (.iadd, 1) := by decide +kernel
theorem dL_law_939 : decode cL_law 939 = .ok (.iaload, 1) := by decide +kernel
theorem dL_law_940 : decode cL_law 940 = .ok (.aload_n 0, 1) := by decide +kernel
theorem dL_law_941 : decode cL_law 941 = .ok (.iload 5, 2) := by decide +kernel
theorem dL_law_943 : decode cL_law 943 = .ok (.iconst 2, 1) := by decide +kernel
theorem dL_law_944 : decode cL_law 944 = .ok (.iadd, 1) := by decide +kernel
theorem dL_law_945 : decode cL_law 945 = .ok (.iaload, 1) := by decide +kernel
theorem dL_law_946 : decode cL_law 946 = .ok (.invokevirtual 158, 3) := by decide +kernel
theorem dL_law_949 : decode cL_law 949 = .ok (.istore 7, 2) := by decide +kernel
theorem dL_law_951 : decode cL_law 951 = .ok (.aload_n 2, 1) := by decide +kernel
theorem dL_law_952 : decode cL_law 952 = .ok (.invokevirtual 101, 3) := by decide +kernel
theorem dL_law_955 : decode cL_law 955 = .ok (.iload 6, 2) := by decide +kernel
theorem dL_law_957 : decode cL_law 957 = .ok (.if_icmp .eq 5, 3) := by decide +kernel
theorem dL_law_960 : decode cL_law 960 = .ok (.iconst 0, 1) := by decide +kernel
theorem dL_law_961 : decode cL_law 961 = .ok (.ireturn, 1) := by decide +kernel
theorem dL_law_962 : decode cL_law 962 = .ok (.iload 6, 2) := by decide +kernel
theorem dL_law_964 : decode cL_law 964 = .ok (.ifCond .ne 15, 3) := by decide +kernel
theorem dL_law_967 : decode cL_law 967 = .ok (.aload_n 3, 1) := by decide +kernel
theorem dL_law_968 : decode cL_law 968 = .ok (.iconst 0, 1) := by decide +kernel
theorem dL_law_969 : decode cL_law 969 = .ok (.laload, 1) := by decide +kernel
theorem dL_law_970 : decode cL_law 970 = .ok (.iload 7, 2) := by decide +kernel
theorem dL_law_972 : decode cL_law 972 = .ok (.i2l, 1) := by decide +kernel
theorem dL_law_973 : decode cL_law 973 = .ok (.lcmp, 1) := by decide +kernel
theorem dL_law_974 : decode cL_law 974 = .ok (.ifCond .eq 5, 3) := by decide +kernel
theorem dL_law_977 : decode cL_law 977 = .ok (.iconst 0, 1) := by decide +kernel
theorem dL_law_978 : decode cL_law 978 = .ok (.ireturn, 1) := by decide +kernel
theorem dL_law_979 : decode cL_law 979 = .ok (.goto 911, 3) := by decide +kernel
theorem dL_law_982 : decode cL_law 982 = .ok (.aload_n 1, 1) := by decide +kernel
theorem dL_law_983 : decode cL_law 983 = .ok (.invokevirtual 159, 3) := by decide +kernel
theorem dL_law_986 : decode cL_law 986 = .ok (.aload_n 2, 1) := by decide +kernel
theorem dL_law_987 : decode cL_law 987 = .ok (.invokevirtual 162, 3) := by decide +kernel
theorem dL_law_990 : decode cL_law 990 = .ok (.if_icmp .eq 900, 3) := by decide +kernel
theorem dL_law_993 : decode cL_law 993 = .ok (.iconst 0, 1) := by decide +kernel
theorem dL_law_994 : decode cL_law 994 = .ok (.ireturn, 1) := by decide +kernel
theorem dL_law_995 : decode cL_law 995 = .ok (.aload_n 1, 1) := by decide +kernel
theorem dL_law_996 : decode cL_law 996 = .ok (.aload_n 0, 1) := by decide +kernel
theorem dL_law_997 : decode cL_law 997 = .ok (.iload 5, 2) := by decide +kernel
theorem dL_law_999 : decode cL_law 999 = .ok (.iconst 1, 1) := by decide +kernel
theorem dL_law_1000 : decode cL_law 1000 = .ok (.iadd, 1) := by decide +kernel
theorem dL_law_1001 : decode cL_law 1001 = .ok (.iaload, 1) := by decide +kernel
theorem dL_law_1002 : decode cL_law 1002 = .ok (.aload_n 0, 1) := by decide +kernel
theorem dL_law_1003 : decode cL_law 1003 = .ok (.iload 5, 2) := by decide +kernel
theorem dL_law_1005 : decode cL_law 1005 = .ok (.iconst 2, 1) := by decide +kernel
theorem dL_law_1006 : decode cL_law 1006 = .ok (.iadd, 1) := by decide +kernel
theorem dL_law_1007 : decode cL_law 1007 = .ok (.iaload, 1) := by decide +kernel
theorem dL_law_1008 : decode cL_law 1008 = .ok (.aload_n 0, 1) := by decide +kernel
theorem dL_law_1009 : decode cL_law 1009 = .ok (.iload 5, 2) := by decide +kernel
theorem dL_law_1011 : decode cL_law 1011 = .ok (.iconst 3, 1) := by decide +kernel
theorem dL_law_1012 : decode cL_law 1012 = .ok (.iadd, 1) := by decide +kernel
theorem dL_law_1013 : decode cL_law 1013 = .ok (.iaload, 1) := by decide +kernel
theorem dL_law_1014 : decode cL_law 1014 = .ok (.aload_n 3, 1) := by decide +kernel
theorem dL_law_1015 : decode cL_law 1015 = .ok (.invokestatic 163, 3) := by decide +kernel
theorem dL_law_1018 : decode cL_law 1018 = .ok (.istore 6, 2) := by decide +kernel
theorem dL_law_1020 : decode cL_law 1020 = .ok (.aload_n 2, 1) := by decide +kernel
theorem dL_law_1021 : decode cL_law 1021 = .ok (.aload_n 0, 1) := by decide +kernel
theorem dL_law_1022 : decode cL_law 1022 = .ok (.iload 5, 2) := by decide +kernel
theorem dL_law_1024 : decode cL_law 1024 = .ok (.iconst 1, 1) := by decide +kernel
theorem dL_law_1025 : decode cL_law 1025 = .ok (.iadd, 1) := by decide +kernel
theorem dL_law_1026 : decode cL_law 1026 = .ok (.iaload, 1) := by decide +kernel
theorem dL_law_1027 : decode cL_law 1027 = .ok (.aload_n 0, 1) := by decide +kernel
theorem dL_law_1028 : decode cL_law 1028 = .ok (.iload 5, 2) := by decide +kernel
theorem dL_law_1030 : decode cL_law 1030 = .ok (.iconst 2, 1) := by decide +kernel
theorem dL_law_1031 : decode cL_law 1031 = .ok (.iadd, 1) := by decide +kernel
theorem dL_law_1032 : decode cL_law 1032 = .ok (.iaload, 1) := by decide +kernel
theorem dL_law_1033 : decode cL_law 1033 = .ok (.aload_n 0, 1) := by decide +kernel
theorem dL_law_1034 : decode cL_law 1034 = .ok (.iload 5, 2) := by decide +kernel
theorem dL_law_1036 : decode cL_law 1036 = .ok (.iconst 3, 1) := by decide +kernel
theorem dL_law_1037 : decode cL_law 1037 = .ok (.iadd, 1) := by decide +kernel
theorem dL_law_1038 : decode cL_law 1038 = .ok (.iaload, 1) := by decide +kernel
theorem dL_law_1039 : decode cL_law 1039 = .ok (.invokevirtual 165, 3) := by decide +kernel
theorem dL_law_1042 : decode cL_law 1042 = .ok (.istore 7, 2) := by decide +kernel
theorem dL_law_1044 : decode cL_law 1044 = .ok (.aload_n 2, 1) := by decide +kernel
theorem dL_law_1045 : decode cL_law 1045 = .ok (.invokevirtual 101, 3) := by decide +kernel
theorem dL_law_1048 : decode cL_law 1048 = .ok (.iload 6, 2) := by decide +kernel
theorem dL_law_1050 : decode cL_law 1050 = .ok (.if_icmp .eq 5, 3) := by decide +kernel
theorem dL_law_1053 : decode cL_law 1053 = .ok (.iconst 0, 1) := by decide +kernel
theorem dL_law_1054 : decode cL_law 1054 = .ok (.ireturn, 1) := by decide +kernel
theorem dL_law_1055 : decode cL_law 1055 = .ok (.iload 6, 2) := by decide +kernel
theorem dL_law_1057 : decode cL_law 1057 = .ok (.ifCond .ne 15, 3) := by decide +kernel
theorem dL_law_1060 : decode cL_law 1060 = .ok (.aload_n 3, 1) := by decide +kernel
theorem dL_law_1061 : decode cL_law 1061 = .ok (.iconst 0, 1) := by decide +kernel
theorem dL_law_1062 : decode cL_law 1062 = .ok (.laload, 1) := by decide +kernel
theorem dL_law_1063 : decode cL_law 1063 = .ok (.iload 7, 2) := by decide +kernel
theorem dL_law_1065 : decode cL_law 1065 = .ok (.i2l, 1) := by decide +kernel
theorem dL_law_1066 : decode cL_law 1066 = .ok (.lcmp, 1) := by decide +kernel
theorem dL_law_1067 : decode cL_law 1067 = .ok (.ifCond .eq 5, 3) := by decide +kernel
theorem dL_law_1070 : decode cL_law 1070 = .ok (.iconst 0, 1) := by decide +kernel
theorem dL_law_1071 : decode cL_law 1071 = .ok (.ireturn, 1) := by decide +kernel
theorem dL_law_1072 : decode cL_law 1072 = .ok (.goto 818, 3) := by decide +kernel
theorem dL_law_1075 : decode cL_law 1075 = .ok (.aload_n 1, 1) := by decide +kernel
theorem dL_law_1076 : decode cL_law 1076 = .ok (.invokevirtual 166, 3) := by decide +kernel
theorem dL_law_1079 : decode cL_law 1079 = .ok (.aload_n 2, 1) := by decide +kernel
theorem dL_law_1080 : decode cL_law 1080 = .ok (.invokevirtual 169, 3) := by decide +kernel
theorem dL_law_1083 : decode cL_law 1083 = .ok (.if_icmp .eq 807, 3) := by decide +kernel
theorem dL_law_1086 : decode cL_law 1086 = .ok (.iconst 0, 1) := by decide +kernel
theorem dL_law_1087 : decode cL_law 1087 = .ok (.ireturn, 1) := by decide +kernel
theorem dL_law_1088 : decode cL_law 1088 = .ok (.aload_n 1, 1) := by decide +kernel
theorem dL_law_1089 : decode cL_law 1089 = .ok (.aload_n 0, 1) := by decide +kernel
theorem dL_law_1090 : decode cL_law 1090 = .ok (.iload 5, 2) := by decide +kernel
theorem dL_law_1092 : decode cL_law 1092 = .ok (.iconst 1, 1) := by decide +kernel
theorem dL_law_1093 : decode cL_law 1093 = .ok (.iadd, 1) := by decide +kernel
theorem dL_law_1094 : decode cL_law 1094 = .ok (.iaload, 1) := by decide +kernel
theorem dL_law_1095 : decode cL_law 1095 = .ok (.aload_n 3, 1) := by decide +kernel
theorem dL_law_1096 : decode cL_law 1096 = .ok (.invokestatic 170, 3) := by decide +kernel
theorem dL_law_1099 : decode cL_law 1099 = .ok (.istore 6, 2) := by decide +kernel
theorem dL_law_1101 : decode cL_law 1101 = .ok (.aload_n 2, 1) := by decide +kernel
theorem dL_law_1102 : decode cL_law 1102 = .ok (.aload_n 0, 1) := by decide +kernel
theorem dL_law_1103 : decode cL_law 1103 = .ok (.iload 5, 2) := by decide +kernel
theorem dL_law_1105 : decode cL_law 1105 = .ok (.iconst 1, 1) := by decide +kernel
theorem dL_law_1106 : decode cL_law 1106 = .ok (.iadd, 1) := by decide +kernel
theorem dL_law_1107 : decode cL_law 1107 = .ok (.iaload, 1) := by decide +kernel
theorem dL_law_1108 : decode cL_law 1108 = .ok (.invokevirtual 172, 3) := by decide +kernel
theorem dL_law_1111 : decode cL_law 1111 = .ok (.lstore 7, 2) := by decide +kernel
theorem dL_law_1113 : decode cL_law 1113 = .ok (.aload_n 2, 1) := by decide +kernel
theorem dL_law_1114 : decode cL_law 1114 = .ok (.invokevirtual 101, 3) := by decide +kernel
theorem dL_law_1117 : decode cL_law 1117 = .ok (.iload 6, 2) := by decide +kernel
theorem dL_law_1119 : decode cL_law 1119 = .ok (.if_icmp .eq 5, 3) := by decide +kernel
theorem dL_law_1122 : decode cL_law 1122 = .ok (.iconst 0, 1) := by decide +kernel
theorem dL_law_1123 : decode cL_law 1123 = .ok (.ireturn, 1) := by decide +kernel
theorem dL_law_1124 : decode cL_law 1124 = .ok (.iload 6, 2) := by decide +kernel
theorem dL_law_1126 : decode cL_law 1126 = .ok (.ifCond .ne 14, 3) := by decide +kernel
theorem dL_law_1129 : decode cL_law 1129 = .ok (.aload_n 3, 1) := by decide +kernel
theorem dL_law_1130 : decode cL_law 1130 = .ok (.iconst 0, 1) := by decide +kernel
theorem dL_law_1131 : decode cL_law 1131 = .ok (.laload, 1) := by decide +kernel
theorem dL_law_1132 : decode cL_law 1132 = .ok (.lload 7, 2) := by decide +kernel
theorem dL_law_1134 : decode cL_law 1134 = .ok (.lcmp, 1) := by decide +kernel
theorem dL_law_1135 : decode cL_law 1135 = .ok (.ifCond .eq 5, 3) := by decide +kernel
theorem dL_law_1138 : decode cL_law 1138 = .ok (.iconst 0, 1) := by decide +kernel
theorem dL_law_1139 : decode cL_law 1139 = .ok (.ireturn, 1) := by decide +kernel
theorem dL_law_1140 : decode cL_law 1140 = .ok (.goto 750, 3) := by decide +kernel
theorem dL_law_1143 : decode cL_law 1143 = .ok (.aload_n 1, 1) := by decide +kernel
theorem dL_law_1144 : decode cL_law 1144 = .ok (.aload_n 0, 1) := by decide +kernel
theorem dL_law_1145 : decode cL_law 1145 = .ok (.iload 5, 2) := by decide +kernel
theorem dL_law_1147 : decode cL_law 1147 = .ok (.iconst 1, 1) := by decide +kernel
theorem dL_law_1148 : decode cL_law 1148 = .ok (.iadd, 1) := by decide +kernel
theorem dL_law_1149 : decode cL_law 1149 = .ok (.iaload, 1) := by decide +kernel
theorem dL_law_1150 : decode cL_law 1150 = .ok (.aload_n 0, 1) := by decide +kernel
theorem dL_law_1151 : decode cL_law 1151 = .ok (.iload 5, 2) := by decide +kernel
theorem dL_law_1153 : decode cL_law 1153 = .ok (.iconst 2, 1) := by decide +kernel
theorem dL_law_1154 : decode cL_law 1154 = .ok (.iadd, 1) := by decide +kernel
theorem dL_law_1155 : decode cL_law 1155 = .ok (.iaload, 1) := by decide +kernel
theorem dL_law_1156 : decode cL_law 1156 = .ok (.aload_n 3, 1) := by decide +kernel
theorem dL_law_1157 : decode cL_law 1157 = .ok (.invokestatic 173, 3) := by decide +kernel
theorem dL_law_1160 : decode cL_law 1160 = .ok (.istore 6, 2) := by decide +kernel
theorem dL_law_1162 : decode cL_law 1162 = .ok (.aload_n 2, 1) := by decide +kernel
theorem dL_law_1163 : decode cL_law 1163 = .ok (.aload_n 0, 1) := by decide +kernel
theorem dL_law_1164 : decode cL_law 1164 = .ok (.iload 5, 2) := by decide +kernel
theorem dL_law_1166 : decode cL_law 1166 = .ok (.iconst 1, 1) := by decide +kernel
theorem dL_law_1167 : decode cL_law 1167 = .ok (.iadd, 1) := by decide +kernel
theorem dL_law_1168 : decode cL_law 1168 = .ok (.iaload, 1) := by decide +kernel
theorem dL_law_1169 : decode cL_law 1169 = .ok (.aload_n 0, 1) := by decide +kernel
theorem dL_law_1170 : decode cL_law 1170 = .ok (.iload 5, 2) := by decide +kernel
theorem dL_law_1172 : decode cL_law 1172 = .ok (.iconst 2, 1) := by decide +kernel
theorem dL_law_1173 : decode cL_law 1173 = .ok (.iadd, 1) := by decide +kernel
theorem dL_law_1174 : decode cL_law 1174 = .ok (.iaload, 1) := by decide +kernel
theorem dL_law_1175 : decode cL_law 1175 = .ok (.invokevirtual 175, 3) := by decide +kernel
theorem dL_law_1178 : decode cL_law 1178 = .ok (.istore 7, 2) := by decide +kernel
theorem dL_law_1180 : decode cL_law 1180 = .ok (.aload_n 2, 1) := by decide +kernel
theorem dL_law_1181 : decode cL_law 1181 = .ok (.invokevirtual 101, 3) := by decide +kernel
theorem dL_law_1184 : decode cL_law 1184 = .ok (.iload 6, 2) := by decide +kernel
theorem dL_law_1186 : decode cL_law 1186 = .ok (.if_icmp .eq 5, 3) := by decide +kernel
theorem dL_law_1189 : decode cL_law 1189 = .ok (.iconst 0, 1) := by decide +kernel
theorem dL_law_1190 : decode cL_law 1190 = .ok (.ireturn, 1) := by decide +kernel
theorem dL_law_1191 : decode cL_law 1191 = .ok (.iload 6, 2) := by decide +kernel
theorem dL_law_1193 : decode cL_law 1193 = .ok (.ifCond .ne 15, 3) := by decide +kernel
theorem dL_law_1196 : decode cL_law 1196 = .ok (.aload_n 3, 1) := by decide +kernel
theorem dL_law_1197 : decode cL_law 1197 = .ok (.iconst 0, 1) := by decide +kernel
theorem dL_law_1198 : decode cL_law 1198 = .ok (.laload, 1) := by decide +kernel
theorem dL_law_1199 : decode cL_law 1199 = .ok (.iload 7, 2) := by decide +kernel
theorem dL_law_1201 : decode cL_law 1201 = .ok (.i2l, 1) := by decide +kernel
theorem dL_law_1202 : decode cL_law 1202 = .ok (.lcmp, 1) := by decide +kernel
theorem dL_law_1203 : decode cL_law 1203 = .ok (.ifCond .eq 5, 3) := by decide +kernel
theorem dL_law_1206 : decode cL_law 1206 = .ok (.iconst 0, 1) := by decide +kernel
theorem dL_law_1207 : decode cL_law 1207 = .ok (.ireturn, 1) := by decide +kernel
theorem dL_law_1208 : decode cL_law 1208 = .ok (.goto 682, 3) := by decide +kernel
theorem dL_law_1211 : decode cL_law 1211 = .ok (.aload_n 1, 1) := by decide +kernel
theorem dL_law_1212 : decode cL_law 1212 = .ok (.invokevirtual 176, 3) := by decide +kernel
theorem dL_law_1215 : decode cL_law 1215 = .ok (.aload_n 2, 1) := by decide +kernel
theorem dL_law_1216 : decode cL_law 1216 = .ok (.invokevirtual 179, 3) := by decide +kernel
theorem dL_law_1219 : decode cL_law 1219 = .ok (.if_icmp .eq 671, 3) := by decide +kernel
theorem dL_law_1222 : decode cL_law 1222 = .ok (.iconst 0, 1) := by decide +kernel
theorem dL_law_1223 : decode cL_law 1223 = .ok (.ireturn, 1) := by decide +kernel
theorem dL_law_1224 : decode cL_law 1224 = .ok (.aload_n 1, 1) := by decide +kernel
theorem dL_law_1225 : decode cL_law 1225 = .ok (.aload_n 0, 1) := by decide +kernel
theorem dL_law_1226 : decode cL_law 1226 = .ok (.iload 5, 2) := by decide +kernel
theorem dL_law_1228 : decode cL_law 1228 = .ok (.iconst 1, 1) := by decide +kernel
theorem dL_law_1229 : decode cL_law 1229 = .ok (.iadd, 1) := by decide +kernel
theorem dL_law_1230 : decode cL_law 1230 = .ok (.iaload, 1) := by decide +kernel
theorem dL_law_1231 : decode cL_law 1231 = .ok (.aload_n 3, 1) := by decide +kernel
theorem dL_law_1232 : decode cL_law 1232 = .ok (.invokestatic 180, 3) := by decide +kernel
theorem dL_law_1235 : decode cL_law 1235 = .ok (.istore 6, 2) := by decide +kernel
theorem dL_law_1237 : decode cL_law 1237 = .ok (.aload_n 2, 1) := by decide +kernel
theorem dL_law_1238 : decode cL_law 1238 = .ok (.aload_n 0, 1) := by decide +kernel
theorem dL_law_1239 : decode cL_law 1239 = .ok (.iload 5, 2) := by decide +kernel
theorem dL_law_1241 : decode cL_law 1241 = .ok (.iconst 1, 1) := by decide +kernel
theorem dL_law_1242 : decode cL_law 1242 = .ok (.iadd, 1) := by decide +kernel
theorem dL_law_1243 : decode cL_law 1243 = .ok (.iaload, 1) := by decide +kernel
theorem dL_law_1244 : decode cL_law 1244 = .ok (.invokevirtual 182, 3) := by decide +kernel
theorem dL_law_1247 : decode cL_law 1247 = .ok (.istore 7, 2) := by decide +kernel
theorem dL_law_1249 : decode cL_law 1249 = .ok (.aload_n 2, 1) := by decide +kernel
theorem dL_law_1250 : decode cL_law 1250 = .ok (.invokevirtual 101, 3) := by decide +kernel
theorem dL_law_1253 : decode cL_law 1253 = .ok (.iload 6, 2) := by decide +kernel
theorem dL_law_1255 : decode cL_law 1255 = .ok (.if_icmp .eq 5, 3) := by decide +kernel
theorem dL_law_1258 : decode cL_law 1258 = .ok (.iconst 0, 1) := by decide +kernel
theorem dL_law_1259 : decode cL_law 1259 = .ok (.ireturn, 1) := by decide +kernel
theorem dL_law_1260 : decode cL_law 1260 = .ok (.iload 6, 2) := by decide +kernel
theorem dL_law_1262 : decode cL_law 1262 = .ok (.ifCond .ne 15, 3) := by decide +kernel
theorem dL_law_1265 : decode cL_law 1265 = .ok (.aload_n 3, 1) := by decide +kernel
theorem dL_law_1266 : decode cL_law 1266 = .ok (.iconst 0, 1) := by decide +kernel
theorem dL_law_1267 : decode cL_law 1267 = .ok (.laload, 1) := by decide +kernel
theorem dL_law_1268 : decode cL_law 1268 = .ok (.iload 7, 2) := by decide +kernel
theorem dL_law_1270 : decode cL_law 1270 = .ok (.i2l, 1) := by decide +kernel
theorem dL_law_1271 : decode cL_law 1271 = .ok (.lcmp, 1) := by decide +kernel
theorem dL_law_1272 : decode cL_law 1272 = .ok (.ifCond .eq 5, 3) := by decide +kernel
theorem dL_law_1275 : decode cL_law 1275 = .ok (.iconst 0, 1) := by decide +kernel
theorem dL_law_1276 : decode cL_law 1276 = .ok (.ireturn, 1) := by decide +kernel
theorem dL_law_1277 : decode cL_law 1277 = .ok (.goto 613, 3) := by decide +kernel
theorem dL_law_1280 : decode cL_law 1280 = .ok (.aload_n 1, 1) := by decide +kernel
theorem dL_law_1281 : decode cL_law 1281 = .ok (.aload_n 0, 1) := by decide +kernel
theorem dL_law_1282 : decode cL_law 1282 = .ok (.iload 5, 2) := by decide +kernel
theorem dL_law_1284 : decode cL_law 1284 = .ok (.iconst 1, 1) := by decide +kernel
theorem dL_law_1285 : decode cL_law 1285 = .ok (.iadd, 1) := by decide +kernel
theorem dL_law_1286 : decode cL_law 1286 = .ok (.iaload, 1) := by decide +kernel
theorem dL_law_1287 : decode cL_law 1287 = .ok (.aload_n 3, 1) := by decide +kernel
theorem dL_law_1288 : decode cL_law 1288 = .ok (.invokestatic 183, 3) := by decide +kernel
theorem dL_law_1291 : decode cL_law 1291 = .ok (.istore 6, 2) := by decide +kernel
theorem dL_law_1293 : decode cL_law 1293 = .ok (.aload_n 2, 1) := by decide +kernel
theorem dL_law_1294 : decode cL_law 1294 = .ok (.aload_n 0, 1) := by decide +kernel
theorem dL_law_1295 : decode cL_law 1295 = .ok (.iload 5, 2) := by decide +kernel
theorem dL_law_1297 : decode cL_law 1297 = .ok (.iconst 1, 1) := by decide +kernel
theorem dL_law_1298 : decode cL_law 1298 = .ok (.iadd, 1) := by decide +kernel
theorem dL_law_1299 : decode cL_law 1299 = .ok (.iaload, 1) := by decide +kernel
theorem dL_law_1300 : decode cL_law 1300 = .ok (.invokevirtual 185, 3) := by decide +kernel
theorem dL_law_1303 : decode cL_law 1303 = .ok (.istore 7, 2) := by decide +kernel
theorem dL_law_1305 : decode cL_law 1305 = .ok (.aload_n 2, 1) := by decide +kernel
theorem dL_law_1306 : decode cL_law 1306 = .ok (.invokevirtual 101, 3) := by decide +kernel
theorem dL_law_1309 : decode cL_law 1309 = .ok (.iload 6, 2) := by decide +kernel
theorem dL_law_1311 : decode cL_law 1311 = .ok (.if_icmp .eq 5, 3) := by decide +kernel
theorem dL_law_1314 : decode cL_law 1314 = .ok (.iconst 0, 1) := by decide +kernel
theorem dL_law_1315 : decode cL_law 1315 = .ok (.ireturn, 1) := by decide +kernel
theorem dL_law_1316 : decode cL_law 1316 = .ok (.iload 6, 2) := by decide +kernel
theorem dL_law_1318 : decode cL_law 1318 = .ok (.ifCond .ne 15, 3) := by decide +kernel
theorem dL_law_1321 : decode cL_law 1321 = .ok (.aload_n 3, 1) := by decide +kernel
theorem dL_law_1322 : decode cL_law 1322 = .ok (.iconst 0, 1) := by decide +kernel
theorem dL_law_1323 : decode cL_law 1323 = .ok (.laload, 1) := by decide +kernel
theorem dL_law_1324 : decode cL_law 1324 = .ok (.iload 7, 2) := by decide +kernel
theorem dL_law_1326 : decode cL_law 1326 = .ok (.i2l, 1) := by decide +kernel
theorem dL_law_1327 : decode cL_law 1327 = .ok (.lcmp, 1) := by decide +kernel
theorem dL_law_1328 : decode cL_law 1328 = .ok (.ifCond .eq 5, 3) := by decide +kernel
theorem dL_law_1331 : decode cL_law 1331 = .ok (.iconst 0, 1) := by decide +kernel
theorem dL_law_1332 : decode cL_law 1332 = .ok (.ireturn, 1) := by decide +kernel
theorem dL_law_1333 : decode cL_law 1333 = .ok (.goto 557, 3) := by decide +kernel
theorem dL_law_1336 : decode cL_law 1336 = .ok (.aload_n 1, 1) := by decide +kernel
theorem dL_law_1337 : decode cL_law 1337 = .ok (.aload_n 0, 1) := by decide +kernel
theorem dL_law_1338 : decode cL_law 1338 = .ok (.iload 5, 2) := by decide +kernel
theorem dL_law_1340 : decode cL_law 1340 = .ok (.iconst 1, 1) := by decide +kernel
theorem dL_law_1341 : decode cL_law 1341 = .ok (.iadd, 1) := by decide +kernel
theorem dL_law_1342 : decode cL_law 1342 = .ok (.iaload, 1) := by decide +kernel
theorem dL_law_1343 : decode cL_law 1343 = .ok (.aload_n 0, 1) := by decide +kernel
theorem dL_law_1344 : decode cL_law 1344 = .ok (.iload 5, 2) := by decide +kernel
theorem dL_law_1346 : decode cL_law 1346 = .ok (.iconst 2, 1) := by decide +kernel
theorem dL_law_1347 : decode cL_law 1347 = .ok (.iadd, 1) := by decide +kernel
theorem dL_law_1348 : decode cL_law 1348 = .ok (.iaload, 1) := by decide +kernel
theorem dL_law_1349 : decode cL_law 1349 = .ok (.aload_n 3, 1) := by decide +kernel
theorem dL_law_1350 : decode cL_law 1350 = .ok (.invokestatic 186, 3) := by decide +kernel
theorem dL_law_1353 : decode cL_law 1353 = .ok (.istore 6, 2) := by decide +kernel
theorem dL_law_1355 : decode cL_law 1355 = .ok (.aload_n 2, 1) := by decide +kernel
theorem dL_law_1356 : decode cL_law 1356 = .ok (.aload_n 0, 1) := by decide +kernel
theorem dL_law_1357 : decode cL_law 1357 = .ok (.iload 5, 2) := by decide +kernel
theorem dL_law_1359 : decode cL_law 1359 = .ok (.iconst 1, 1) := by decide +kernel
theorem dL_law_1360 : decode cL_law 1360 = .ok (.iadd, 1) := by decide +kernel
theorem dL_law_1361 : decode cL_law 1361 = .ok (.iaload, 1) := by decide +kernel
theorem dL_law_1362 : decode cL_law 1362 = .ok (.aload_n 0, 1) := by decide +kernel
theorem dL_law_1363 : decode cL_law 1363 = .ok (.iload 5, 2) := by decide +kernel
theorem dL_law_1365 : decode cL_law 1365 = .ok (.iconst 2, 1) := by decide +kernel
theorem dL_law_1366 : decode cL_law 1366 = .ok (.iadd, 1) := by decide +kernel
theorem dL_law_1367 : decode cL_law 1367 = .ok (.iaload, 1) := by decide +kernel
theorem dL_law_1368 : decode cL_law 1368 = .ok (.invokevirtual 188, 3) := by decide +kernel
theorem dL_law_1371 : decode cL_law 1371 = .ok (.istore 7, 2) := by decide +kernel
theorem dL_law_1373 : decode cL_law 1373 = .ok (.aload_n 2, 1) := by decide +kernel
theorem dL_law_1374 : decode cL_law 1374 = .ok (.invokevirtual 101, 3) := by decide +kernel
theorem dL_law_1377 : decode cL_law 1377 = .ok (.iload 6, 2) := by decide +kernel
theorem dL_law_1379 : decode cL_law 1379 = .ok (.if_icmp .eq 5, 3) := by decide +kernel
theorem dL_law_1382 : decode cL_law 1382 = .ok (.iconst 0, 1) := by decide +kernel
theorem dL_law_1383 : decode cL_law 1383 = .ok (.ireturn, 1) := by decide +kernel
theorem dL_law_1384 : decode cL_law 1384 = .ok (.iload 6, 2) := by decide +kernel
theorem dL_law_1386 : decode cL_law 1386 = .ok (.ifCond .ne 15, 3) := by decide +kernel
theorem dL_law_1389 : decode cL_law 1389 = .ok (.aload_n 3, 1) := by decide +kernel
theorem dL_law_1390 : decode cL_law 1390 = .ok (.iconst 0, 1) := by decide +kernel
theorem dL_law_1391 : decode cL_law 1391 = .ok (.laload, 1) := by decide +kernel
theorem dL_law_1392 : decode cL_law 1392 = .ok (.iload 7, 2) := by decide +kernel
theorem dL_law_1394 : decode cL_law 1394 = .ok (.i2l, 1) := by decide +kernel
theorem dL_law_1395 : decode cL_law 1395 = .ok (.lcmp, 1) := by decide +kernel
theorem dL_law_1396 : decode cL_law 1396 = .ok (.ifCond .eq 5, 3) := by decide +kernel
theorem dL_law_1399 : decode cL_law 1399 = .ok (.iconst 0, 1) := by decide +kernel
theorem dL_law_1400 : decode cL_law 1400 = .ok (.ireturn, 1) := by decide +kernel
theorem dL_law_1401 : decode cL_law 1401 = .ok (.goto 489, 3) := by decide +kernel
theorem dL_law_1404 : decode cL_law 1404 = .ok (.aload_n 1, 1) := by decide +kernel
theorem dL_law_1405 : decode cL_law 1405 = .ok (.aload_n 0, 1) := by decide +kernel
theorem dL_law_1406 : decode cL_law 1406 = .ok (.iload 5, 2) := by decide +kernel
theorem dL_law_1408 : decode cL_law 1408 = .ok (.iconst 1, 1) := by decide +kernel
theorem dL_law_1409 : decode cL_law 1409 = .ok (.iadd, 1) := by decide +kernel
theorem dL_law_1410 : decode cL_law 1410 = .ok (.iaload, 1) := by decide +kernel
theorem dL_law_1411 : decode cL_law 1411 = .ok (.aload 4, 2) := by decide +kernel
theorem dL_law_1413 : decode cL_law 1413 = .ok (.invokestatic 189, 3) := by decide +kernel
theorem dL_law_1416 : decode cL_law 1416 = .ok (.istore 6, 2) := by decide +kernel
theorem dL_law_1418 : decode cL_law 1418 = .ok (.aload_n 2, 1) := by decide +kernel
theorem dL_law_1419 : decode cL_law 1419 = .ok (.aload_n 0, 1) := by decide +kernel
theorem dL_law_1420 : decode cL_law 1420 = .ok (.iload 5, 2) := by decide +kernel
theorem dL_law_1422 : decode cL_law 1422 = .ok (.iconst 1, 1) := by decide +kernel
theorem dL_law_1423 : decode cL_law 1423 = .ok (.iadd, 1) := by decide +kernel
theorem dL_law_1424 : decode cL_law 1424 = .ok (.iaload, 1) := by decide +kernel
theorem dL_law_1425 : decode cL_law 1425 = .ok (.invokevirtual 192, 3) := by decide +kernel
theorem dL_law_1428 : decode cL_law 1428 = .ok (.dstore 7, 2) := by decide +kernel
theorem dL_law_1430 : decode cL_law 1430 = .ok (.aload_n 2, 1) := by decide +kernel
theorem dL_law_1431 : decode cL_law 1431 = .ok (.invokevirtual 101, 3) := by decide +kernel
theorem dL_law_1434 : decode cL_law 1434 = .ok (.iload 6, 2) := by decide +kernel
theorem dL_law_1436 : decode cL_law 1436 = .ok (.if_icmp .eq 5, 3) := by decide +kernel
theorem dL_law_1439 : decode cL_law 1439 = .ok (.iconst 0, 1) := by decide +kernel
theorem dL_law_1440 : decode cL_law 1440 = .ok (.ireturn, 1) := by decide +kernel
theorem dL_law_1441 : decode cL_law 1441 = .ok (.iload 6, 2) := by decide +kernel
theorem dL_law_1443 : decode cL_law 1443 = .ok (.ifCond .ne 35, 3) := by decide +kernel
theorem dL_law_1446 : decode cL_law 1446 = .ok (.aload 4, 2) := by decide +kernel
theorem dL_law_1448 : decode cL_law 1448 = .ok (.iconst 0, 1) := by decide +kernel
theorem dL_law_1449 : decode cL_law 1449 = .ok (.daload, 1) := by decide +kernel
theorem dL_law_1450 : decode cL_law 1450 = .ok (.dload 7, 2) := by decide +kernel
theorem dL_law_1452 : decode cL_law 1452 = .ok (.dcmp .l, 1) := by decide +kernel
theorem dL_law_1453 : decode cL_law 1453 = .ok (.ifCond .eq 25, 3) := by decide +kernel
theorem dL_law_1456 : decode cL_law 1456 = .ok (.aload 4, 2) := by decide +kernel
theorem dL_law_1458 : decode cL_law 1458 = .ok (.iconst 0, 1) := by decide +kernel
theorem dL_law_1459 : decode cL_law 1459 = .ok (.daload, 1) := by decide +kernel
theorem dL_law_1460 : decode cL_law 1460 = .ok (.aload 4, 2) := by decide +kernel
theorem dL_law_1462 : decode cL_law 1462 = .ok (.iconst 0, 1) := by decide +kernel
theorem dL_law_1463 : decode cL_law 1463 = .ok (.daload, 1) := by decide +kernel
theorem dL_law_1464 : decode cL_law 1464 = .ok (.dcmp .l, 1) := by decide +kernel
theorem dL_law_1465 : decode cL_law 1465 = .ok (.ifCond .eq 11, 3) := by decide +kernel
theorem dL_law_1468 : decode cL_law 1468 = .ok (.dload 7, 2) := by decide +kernel
theorem dL_law_1470 : decode cL_law 1470 = .ok (.dload 7, 2) := by decide +kernel
theorem dL_law_1472 : decode cL_law 1472 = .ok (.dcmp .l, 1) := by decide +kernel
theorem dL_law_1473 : decode cL_law 1473 = .ok (.ifCond .ne 5, 3) := by decide +kernel
theorem dL_law_1476 : decode cL_law 1476 = .ok (.iconst 0, 1) := by decide +kernel
theorem dL_law_1477 : decode cL_law 1477 = .ok (.ireturn, 1) := by decide +kernel
theorem dL_law_1478 : decode cL_law 1478 = .ok (.goto 412, 3) := by decide +kernel
theorem dL_law_1481 : decode cL_law 1481 = .ok (.aload_n 1, 1) := by decide +kernel
theorem dL_law_1482 : decode cL_law 1482 = .ok (.invokevirtual 193, 3) := by decide +kernel
theorem dL_law_1485 : decode cL_law 1485 = .ok (.aload_n 2, 1) := by decide +kernel
theorem dL_law_1486 : decode cL_law 1486 = .ok (.invokevirtual 196, 3) := by decide +kernel
theorem dL_law_1489 : decode cL_law 1489 = .ok (.if_icmp .eq 401, 3) := by decide +kernel
theorem dL_law_1492 : decode cL_law 1492 = .ok (.iconst 0, 1) := by decide +kernel
theorem dL_law_1493 : decode cL_law 1493 = .ok (.ireturn, 1) := by decide +kernel
theorem dL_law_1494 : decode cL_law 1494 = .ok (.aload_n 1, 1) := by decide +kernel
theorem dL_law_1495 : decode cL_law 1495 = .ok (.aload_n 0, 1) := by decide +kernel
theorem dL_law_1496 : decode cL_law 1496 = .ok (.iload 5, 2) := by decide +kernel
theorem dL_law_1498 : decode cL_law 1498 = .ok (.iconst 1, 1) := by decide +kernel
theorem dL_law_1499 : decode cL_law 1499 = .ok (.iadd, 1) := by decide +kernel
theorem dL_law_1500 : decode cL_law 1500 = .ok (.iaload, 1) := by decide +kernel
theorem dL_law_1501 : decode cL_law 1501 = .ok (.aload_n 3, 1) := by decide +kernel
theorem dL_law_1502 : decode cL_law 1502 = .ok (.invokestatic 197, 3) := by decide +kernel
theorem dL_law_1505 : decode cL_law 1505 = .ok (.istore 6, 2) := by decide +kernel
theorem dL_law_1507 : decode cL_law 1507 = .ok (.aload_n 2, 1) := by decide +kernel
theorem dL_law_1508 : decode cL_law 1508 = .ok (.aload_n 0, 1) := by decide +kernel
theorem dL_law_1509 : decode cL_law 1509 = .ok (.iload 5, 2) := by decide +kernel
theorem dL_law_1511 : decode cL_law 1511 = .ok (.iconst 1, 1) := by decide +kernel
theorem dL_law_1512 : decode cL_law 1512 = .ok (.iadd, 1) := by decide +kernel
theorem dL_law_1513 : decode cL_law 1513 = .ok (.iaload, 1) := by decide +kernel
theorem dL_law_1514 : decode cL_law 1514 = .ok (.invokevirtual 199, 3) := by decide +kernel
theorem dL_law_1517 : decode cL_law 1517 = .ok (.istore 7, 2) := by decide +kernel
theorem dL_law_1519 : decode cL_law 1519 = .ok (.aload_n 2, 1) := by decide +kernel
theorem dL_law_1520 : decode cL_law 1520 = .ok (.invokevirtual 101, 3) := by decide +kernel
theorem dL_law_1523 : decode cL_law 1523 = .ok (.iload 6, 2) := by decide +kernel
theorem dL_law_1525 : decode cL_law 1525 = .ok (.if_icmp .eq 5, 3) := by decide +kernel
theorem dL_law_1528 : decode cL_law 1528 = .ok (.iconst 0, 1) := by decide +kernel
theorem dL_law_1529 : decode cL_law 1529 = .ok (.ireturn, 1) := by decide +kernel
theorem dL_law_1530 : decode cL_law 1530 = .ok (.iload 6, 2) := by decide +kernel
theorem dL_law_1532 : decode cL_law 1532 = .ok (.ifCond .ne 15, 3) := by decide +kernel
theorem dL_law_1535 : decode cL_law 1535 = .ok (.aload_n 3, 1) := by decide +kernel
theorem dL_law_1536 : decode cL_law 1536 = .ok (.iconst 0, 1) := by decide +kernel
theorem dL_law_1537 : decode cL_law 1537 = .ok (.laload, 1) := by decide +kernel
theorem dL_law_1538 : decode cL_law 1538 = .ok (.iload 7, 2) := by decide +kernel
theorem dL_law_1540 : decode cL_law 1540 = .ok (.i2l, 1) := by decide +kernel
theorem dL_law_1541 : decode cL_law 1541 = .ok (.lcmp, 1) := by decide +kernel
theorem dL_law_1542 : decode cL_law 1542 = .ok (.ifCond .eq 5, 3) := by decide +kernel
theorem dL_law_1545 : decode cL_law 1545 = .ok (.iconst 0, 1) := by decide +kernel
theorem dL_law_1546 : decode cL_law 1546 = .ok (.ireturn, 1) := by decide +kernel
theorem dL_law_1547 : decode cL_law 1547 = .ok (.goto 343, 3) := by decide +kernel
theorem dL_law_1550 : decode cL_law 1550 = .ok (.aload_n 1, 1) := by decide +kernel
theorem dL_law_1551 : decode cL_law 1551 = .ok (.aload_n 0, 1) := by decide +kernel
theorem dL_law_1552 : decode cL_law 1552 = .ok (.iload 5, 2) := by decide +kernel
theorem dL_law_1554 : decode cL_law 1554 = .ok (.iconst 1, 1) := by decide +kernel
theorem dL_law_1555 : decode cL_law 1555 = .ok (.iadd, 1) := by decide +kernel
theorem dL_law_1556 : decode cL_law 1556 = .ok (.iaload, 1) := by decide +kernel
theorem dL_law_1557 : decode cL_law 1557 = .ok (.aload_n 0, 1) := by decide +kernel
theorem dL_law_1558 : decode cL_law 1558 = .ok (.iload 5, 2) := by decide +kernel
theorem dL_law_1560 : decode cL_law 1560 = .ok (.iconst 2, 1) := by decide +kernel
theorem dL_law_1561 : decode cL_law 1561 = .ok (.iadd, 1) := by decide +kernel
theorem dL_law_1562 : decode cL_law 1562 = .ok (.iaload, 1) := by decide +kernel
theorem dL_law_1563 : decode cL_law 1563 = .ok (.aload_n 3, 1) := by decide +kernel
theorem dL_law_1564 : decode cL_law 1564 = .ok (.invokestatic 200, 3) := by decide +kernel
theorem dL_law_1567 : decode cL_law 1567 = .ok (.istore 6, 2) := by decide +kernel
theorem dL_law_1569 : decode cL_law 1569 = .ok (.aload_n 2, 1) := by decide +kernel
theorem dL_law_1570 : decode cL_law 1570 = .ok (.aload_n 0, 1) := by decide +kernel
theorem dL_law_1571 : decode cL_law 1571 = .ok (.iload 5, 2) := by decide +kernel
theorem dL_law_1573 : decode cL_law 1573 = .ok (.iconst 1, 1) := by decide +kernel
theorem dL_law_1574 : decode cL_law 1574 = .ok (.iadd, 1) := by decide +kernel
theorem dL_law_1575 : decode cL_law 1575 = .ok (.iaload, 1) := by decide +kernel
theorem dL_law_1576 : decode cL_law 1576 = .ok (.aload_n 0, 1) := by decide +kernel
theorem dL_law_1577 : decode cL_law 1577 = .ok (.iload 5, 2) := by decide +kernel
theorem dL_law_1579 : decode cL_law 1579 = .ok (.iconst 2, 1) := by decide +kernel
theorem dL_law_1580 : decode cL_law 1580 = .ok (.iadd, 1) := by decide +kernel
theorem dL_law_1581 : decode cL_law 1581 = .ok (.iaload, 1) := by decide +kernel
theorem dL_law_1582 : decode cL_law 1582 = .ok (.invokevirtual 202, 3) := by decide +kernel
theorem dL_law_1585 : decode cL_law 1585 = .ok (.istore 7, 2) := by decide +kernel
theorem dL_law_1587 : decode cL_law 1587 = .ok (.aload_n 2, 1) := by decide +kernel
theorem dL_law_1588 : decode cL_law 1588 = .ok (.invokevirtual 101, 3) := by decide +kernel
theorem dL_law_1591 : decode cL_law 1591 = .ok (.iload 6, 2) := by decide +kernel
theorem dL_law_1593 : decode cL_law 1593 = .ok (.if_icmp .eq 5, 3) := by decide +kernel
theorem dL_law_1596 : decode cL_law 1596 = .ok (.iconst 0, 1) := by decide +kernel
theorem dL_law_1597 : decode cL_law 1597 = .ok (.ireturn, 1) := by decide +kernel
theorem dL_law_1598 : decode cL_law 1598 = .ok (.iload 6, 2) := by decide +kernel
theorem dL_law_1600 : decode cL_law 1600 = .ok (.ifCond .ne 15, 3) := by decide +kernel
theorem dL_law_1603 : decode cL_law 1603 = .ok (.aload_n 3, 1) := by decide +kernel
theorem dL_law_1604 : decode cL_law 1604 = .ok (.iconst 0, 1) := by decide +kernel
theorem dL_law_1605 : decode cL_law 1605 = .ok (.laload, 1) := by decide +kernel
theorem dL_law_1606 : decode cL_law 1606 = .ok (.iload 7, 2) := by decide +kernel
theorem dL_law_1608 : decode cL_law 1608 = .ok (.i2l, 1) := by decide +kernel
theorem dL_law_1609 : decode cL_law 1609 = .ok (.lcmp, 1) := by decide +kernel
theorem dL_law_1610 : decode cL_law 1610 = .ok (.ifCond .eq 5, 3) := by decide +kernel
theorem dL_law_1613 : decode cL_law 1613 = .ok (.iconst 0, 1) := by decide +kernel
theorem dL_law_1614 : decode cL_law 1614 = .ok (.ireturn, 1) := by decide +kernel
theorem dL_law_1615 : decode cL_law 1615 = .ok (.goto 275, 3) := by decide +kernel
theorem dL_law_1618 : decode cL_law 1618 = .ok (.aload_n 1, 1) := by decide +kernel
theorem dL_law_1619 : decode cL_law 1619 = .ok (.aload_n 0, 1) := by decide +kernel
theorem dL_law_1620 : decode cL_law 1620 = .ok (.iload 5, 2) := by decide +kernel
theorem dL_law_1622 : decode cL_law 1622 = .ok (.iconst 1, 1) := by decide +kernel
theorem dL_law_1623 : decode cL_law 1623 = .ok (.iadd, 1) := by decide +kernel
theorem dL_law_1624 : decode cL_law 1624 = .ok (.iaload, 1) := by decide +kernel
theorem dL_law_1625 : decode cL_law 1625 = .ok (.aload_n 0, 1) := by decide +kernel
theorem dL_law_1626 : decode cL_law 1626 = .ok (.iload 5, 2) := by decide +kernel
theorem dL_law_1628 : decode cL_law 1628 = .ok (.iconst 2, 1) := by decide +kernel
theorem dL_law_1629 : decode cL_law 1629 = .ok (.iadd, 1) := by decide +kernel
theorem dL_law_1630 : decode cL_law 1630 = .ok (.iaload, 1) := by decide +kernel
theorem dL_law_1631 : decode cL_law 1631 = .ok (.aload_n 3, 1) := by decide +kernel
theorem dL_law_1632 : decode cL_law 1632 = .ok (.invokestatic 203, 3) := by decide +kernel
theorem dL_law_1635 : decode cL_law 1635 = .ok (.istore 6, 2) := by decide +kernel
theorem dL_law_1637 : decode cL_law 1637 = .ok (.aload_n 2, 1) := by decide +kernel
theorem dL_law_1638 : decode cL_law 1638 = .ok (.aload_n 0, 1) := by decide +kernel
theorem dL_law_1639 : decode cL_law 1639 = .ok (.iload 5, 2) := by decide +kernel
theorem dL_law_1641 : decode cL_law 1641 = .ok (.iconst 1, 1) := by decide +kernel
theorem dL_law_1642 : decode cL_law 1642 = .ok (.iadd, 1) := by decide +kernel
theorem dL_law_1643 : decode cL_law 1643 = .ok (.iaload, 1) := by decide +kernel
theorem dL_law_1644 : decode cL_law 1644 = .ok (.aload_n 0, 1) := by decide +kernel
theorem dL_law_1645 : decode cL_law 1645 = .ok (.iload 5, 2) := by decide +kernel
theorem dL_law_1647 : decode cL_law 1647 = .ok (.iconst 2, 1) := by decide +kernel
theorem dL_law_1648 : decode cL_law 1648 = .ok (.iadd, 1) := by decide +kernel
theorem dL_law_1649 : decode cL_law 1649 = .ok (.iaload, 1) := by decide +kernel
theorem dL_law_1650 : decode cL_law 1650 = .ok (.invokevirtual 205, 3) := by decide +kernel
theorem dL_law_1653 : decode cL_law 1653 = .ok (.istore 7, 2) := by decide +kernel
theorem dL_law_1655 : decode cL_law 1655 = .ok (.aload_n 2, 1) := by decide +kernel
theorem dL_law_1656 : decode cL_law 1656 = .ok (.invokevirtual 101, 3) := by decide +kernel
theorem dL_law_1659 : decode cL_law 1659 = .ok (.iload 6, 2) := by decide +kernel
theorem dL_law_1661 : decode cL_law 1661 = .ok (.if_icmp .eq 5, 3) := by decide +kernel
theorem dL_law_1664 : decode cL_law 1664 = .ok (.iconst 0, 1) := by decide +kernel
theorem dL_law_1665 : decode cL_law 1665 = .ok (.ireturn, 1) := by decide +kernel
theorem dL_law_1666 : decode cL_law 1666 = .ok (.iload 6, 2) := by decide +kernel
theorem dL_law_1668 : decode cL_law 1668 = .ok (.ifCond .ne 15, 3) := by decide +kernel
theorem dL_law_1671 : decode cL_law 1671 = .ok (.aload_n 3, 1) := by decide +kernel
theorem dL_law_1672 : decode cL_law 1672 = .ok (.iconst 0, 1) := by decide +kernel
theorem dL_law_1673 : decode cL_law 1673 = .ok (.laload, 1) := by decide +kernel
theorem dL_law_1674 : decode cL_law 1674 = .ok (.iload 7, 2) := by decide +kernel
theorem dL_law_1676 : decode cL_law 1676 = .ok (.i2l, 1) := by decide +kernel
theorem dL_law_1677 : decode cL_law 1677 = .ok (.lcmp, 1) := by decide +kernel
theorem dL_law_1678 : decode cL_law 1678 = .ok (.ifCond .eq 5, 3) := by decide +kernel
theorem dL_law_1681 : decode cL_law 1681 = .ok (.iconst 0, 1) := by decide +kernel
theorem dL_law_1682 : decode cL_law 1682 = .ok (.ireturn, 1) := by decide +kernel
theorem dL_law_1683 : decode cL_law 1683 = .ok (.goto 207, 3) := by decide +kernel
theorem dL_law_1686 : decode cL_law 1686 = .ok (.aload_n 1, 1) := by decide +kernel
theorem dL_law_1687 : decode cL_law 1687 = .ok (.aload_n 0, 1) := by decide +kernel
theorem dL_law_1688 : decode cL_law 1688 = .ok (.iload 5, 2) := by decide +kernel
theorem dL_law_1690 : decode cL_law 1690 = .ok (.iconst 1, 1) := by decide +kernel
theorem dL_law_1691 : decode cL_law 1691 = .ok (.iadd, 1) := by decide +kernel
theorem dL_law_1692 : decode cL_law 1692 = .ok (.iaload, 1) := by decide +kernel
theorem dL_law_1693 : decode cL_law 1693 = .ok (.aload_n 0, 1) := by decide +kernel
theorem dL_law_1694 : decode cL_law 1694 = .ok (.iload 5, 2) := by decide +kernel
theorem dL_law_1696 : decode cL_law 1696 = .ok (.iconst 2, 1) := by decide +kernel
theorem dL_law_1697 : decode cL_law 1697 = .ok (.iadd, 1) := by decide +kernel
theorem dL_law_1698 : decode cL_law 1698 = .ok (.iaload, 1) := by decide +kernel
theorem dL_law_1699 : decode cL_law 1699 = .ok (.aload_n 3, 1) := by decide +kernel
theorem dL_law_1700 : decode cL_law 1700 = .ok (.invokestatic 206, 3) := by decide +kernel
theorem dL_law_1703 : decode cL_law 1703 = .ok (.istore 6, 2) := by decide +kernel
theorem dL_law_1705 : decode cL_law 1705 = .ok (.aload_n 2, 1) := by decide +kernel
theorem dL_law_1706 : decode cL_law 1706 = .ok (.aload_n 0, 1) := by decide +kernel
theorem dL_law_1707 : decode cL_law 1707 = .ok (.iload 5, 2) := by decide +kernel
theorem dL_law_1709 : decode cL_law 1709 = .ok (.iconst 1, 1) := by decide +kernel
theorem dL_law_1710 : decode cL_law 1710 = .ok (.iadd, 1) := by decide +kernel
theorem dL_law_1711 : decode cL_law 1711 = .ok (.iaload, 1) := by decide +kernel
theorem dL_law_1712 : decode cL_law 1712 = .ok (.aload_n 0, 1) := by decide +kernel
theorem dL_law_1713 : decode cL_law 1713 = .ok (.iload 5, 2) := by decide +kernel
theorem dL_law_1715 : decode cL_law 1715 = .ok (.iconst 2, 1) := by decide +kernel
theorem dL_law_1716 : decode cL_law 1716 = .ok (.iadd, 1) := by decide +kernel
theorem dL_law_1717 : decode cL_law 1717 = .ok (.iaload, 1) := by decide +kernel
theorem dL_law_1718 : decode cL_law 1718 = .ok (.invokevirtual 208, 3) := by decide +kernel
theorem dL_law_1721 : decode cL_law 1721 = .ok (.istore 7, 2) := by decide +kernel
theorem dL_law_1723 : decode cL_law 1723 = .ok (.aload_n 2, 1) := by decide +kernel
theorem dL_law_1724 : decode cL_law 1724 = .ok (.invokevirtual 101, 3) := by decide +kernel
theorem dL_law_1727 : decode cL_law 1727 = .ok (.iload 6, 2) := by decide +kernel
theorem dL_law_1729 : decode cL_law 1729 = .ok (.if_icmp .eq 5, 3) := by decide +kernel
theorem dL_law_1732 : decode cL_law 1732 = .ok (.iconst 0, 1) := by decide +kernel
theorem dL_law_1733 : decode cL_law 1733 = .ok (.ireturn, 1) := by decide +kernel
theorem dL_law_1734 : decode cL_law 1734 = .ok (.iload 6, 2) := by decide +kernel
theorem dL_law_1736 : decode cL_law 1736 = .ok (.ifCond .ne 15, 3) := by decide +kernel
theorem dL_law_1739 : decode cL_law 1739 = .ok (.aload_n 3, 1) := by decide +kernel
theorem dL_law_1740 : decode cL_law 1740 = .ok (.iconst 0, 1) := by decide +kernel
theorem dL_law_1741 : decode cL_law 1741 = .ok (.laload, 1) := by decide +kernel
theorem dL_law_1742 : decode cL_law 1742 = .ok (.iload 7, 2) := by decide +kernel
theorem dL_law_1744 : decode cL_law 1744 = .ok (.i2l, 1) := by decide +kernel
theorem dL_law_1745 : decode cL_law 1745 = .ok (.lcmp, 1) := by decide +kernel
theorem dL_law_1746 : decode cL_law 1746 = .ok (.ifCond .eq 5, 3) := by decide +kernel
theorem dL_law_1749 : decode cL_law 1749 = .ok (.iconst 0, 1) := by decide +kernel
theorem dL_law_1750 : decode cL_law 1750 = .ok (.ireturn, 1) := by decide +kernel
theorem dL_law_1751 : decode cL_law 1751 = .ok (.goto 139, 3) := by decide +kernel
theorem dL_law_1754 : decode cL_law 1754 = .ok (.aload_n 1, 1) := by decide +kernel
theorem dL_law_1755 : decode cL_law 1755 = .ok (.invokevirtual 209, 3) := by decide +kernel
theorem dL_law_1758 : decode cL_law 1758 = .ok (.aload_n 2, 1) := by decide +kernel
theorem dL_law_1759 : decode cL_law 1759 = .ok (.invokevirtual 212, 3) := by decide +kernel
theorem dL_law_1762 : decode cL_law 1762 = .ok (.if_icmp .eq 128, 3) := by decide +kernel
theorem dL_law_1765 : decode cL_law 1765 = .ok (.iconst 0, 1) := by decide +kernel
theorem dL_law_1766 : decode cL_law 1766 = .ok (.ireturn, 1) := by decide +kernel
theorem dL_law_1767 : decode cL_law 1767 = .ok (.aload_n 1, 1) := by decide +kernel
theorem dL_law_1768 : decode cL_law 1768 = .ok (.invokevirtual 213, 3) := by decide +kernel
theorem dL_law_1771 : decode cL_law 1771 = .ok (.aload_n 2, 1) := by decide +kernel
theorem dL_law_1772 : decode cL_law 1772 = .ok (.invokevirtual 216, 3) := by decide +kernel
theorem dL_law_1775 : decode cL_law 1775 = .ok (.if_icmp .eq 115, 3) := by decide +kernel
theorem dL_law_1778 : decode cL_law 1778 = .ok (.iconst 0, 1) := by decide +kernel
theorem dL_law_1779 : decode cL_law 1779 = .ok (.ireturn, 1) := by decide +kernel
theorem dL_law_1780 : decode cL_law 1780 = .ok (.aload_n 1, 1) := by decide +kernel
theorem dL_law_1781 : decode cL_law 1781 = .ok (.aload_n 0, 1) := by decide +kernel
theorem dL_law_1782 : decode cL_law 1782 = .ok (.iload 5, 2) := by decide +kernel
theorem dL_law_1784 : decode cL_law 1784 = .ok (.iconst 1, 1) := by decide +kernel
theorem dL_law_1785 : decode cL_law 1785 = .ok (.iadd, 1) := by decide +kernel
theorem dL_law_1786 : decode cL_law 1786 = .ok (.iaload, 1) := by decide +kernel
theorem dL_law_1787 : decode cL_law 1787 = .ok (.invokevirtual 217, 3) := by decide +kernel
theorem dL_law_1790 : decode cL_law 1790 = .ok (.aload_n 2, 1) := by decide +kernel
theorem dL_law_1791 : decode cL_law 1791 = .ok (.aload_n 0, 1) := by decide +kernel
theorem dL_law_1792 : decode cL_law 1792 = .ok (.iload 5, 2) := by decide +kernel
theorem dL_law_1794 : decode cL_law 1794 = .ok (.iconst 1, 1) := by decide +kernel
theorem dL_law_1795 : decode cL_law 1795 = .ok (.iadd, 1) := by decide +kernel
theorem dL_law_1796 : decode cL_law 1796 = .ok (.iaload, 1) := by decide +kernel
theorem dL_law_1797 : decode cL_law 1797 = .ok (.invokevirtual 220, 3) := by decide +kernel
theorem dL_law_1800 : decode cL_law 1800 = .ok (.if_icmp .eq 90, 3) := by decide +kernel
theorem dL_law_1803 : decode cL_law 1803 = .ok (.iconst 0, 1) := by decide +kernel
theorem dL_law_1804 : decode cL_law 1804 = .ok (.ireturn, 1) := by decide +kernel
theorem dL_law_1805 : decode cL_law 1805 = .ok (.aload_n 1, 1) := by decide +kernel
theorem dL_law_1806 : decode cL_law 1806 = .ok (.invokevirtual 221, 3) := by decide +kernel
theorem dL_law_1809 : decode cL_law 1809 = .ok (.aload_n 2, 1) := by decide +kernel
theorem dL_law_1810 : decode cL_law 1810 = .ok (.invokevirtual 224, 3) := by decide +kernel
theorem dL_law_1813 : decode cL_law 1813 = .ok (.if_icmp .eq 77, 3) := by decide +kernel
theorem dL_law_1816 : decode cL_law 1816 = .ok (.iconst 0, 1) := by decide +kernel
theorem dL_law_1817 : decode cL_law 1817 = .ok (.ireturn, 1) := by decide +kernel
theorem dL_law_1818 : decode cL_law 1818 = .ok (.aload_n 1, 1) := by decide +kernel
theorem dL_law_1819 : decode cL_law 1819 = .ok (.aload_n 0, 1) := by decide +kernel
theorem dL_law_1820 : decode cL_law 1820 = .ok (.iload 5, 2) := by decide +kernel
theorem dL_law_1822 : decode cL_law 1822 = .ok (.iconst 1, 1) := by decide +kernel
theorem dL_law_1823 : decode cL_law 1823 = .ok (.iadd, 1) := by decide +kernel
theorem dL_law_1824 : decode cL_law 1824 = .ok (.iaload, 1) := by decide +kernel
theorem dL_law_1825 : decode cL_law 1825 = .ok (.invokestatic 225, 3) := by decide +kernel
theorem dL_law_1828 : decode cL_law 1828 = .ok (.istore 6, 2) := by decide +kernel
theorem dL_law_1830 : decode cL_law 1830 = .ok (.aload_n 2, 1) := by decide +kernel
theorem dL_law_1831 : decode cL_law 1831 = .ok (.aload_n 0, 1) := by decide +kernel
theorem dL_law_1832 : decode cL_law 1832 = .ok (.iload 5, 2) := by decide +kernel
theorem dL_law_1834 : decode cL_law 1834 = .ok (.iconst 1, 1) := by decide +kernel
theorem dL_law_1835 : decode cL_law 1835 = .ok (.iadd, 1) := by decide +kernel
theorem dL_law_1836 : decode cL_law 1836 = .ok (.iaload, 1) := by decide +kernel
theorem dL_law_1837 : decode cL_law 1837 = .ok (.invokevirtual 228, 3) := by decide +kernel
theorem dL_law_1840 : decode cL_law 1840 = .ok (.aload_n 2, 1) := by decide +kernel
theorem dL_law_1841 : decode cL_law 1841 = .ok (.invokevirtual 101, 3) := by decide +kernel
theorem dL_law_1844 : decode cL_law 1844 = .ok (.iload 6, 2) := by decide +kernel
theorem dL_law_1846 : decode cL_law 1846 = .ok (.if_icmp .eq 5, 3) := by decide +kernel
theorem dL_law_1849 : decode cL_law 1849 = .ok (.iconst 0, 1) := by decide +kernel
theorem dL_law_1850 : decode cL_law 1850 = .ok (.ireturn, 1) := by decide +kernel
theorem dL_law_1851 : decode cL_law 1851 = .ok (.goto 39, 3) := by decide +kernel
theorem dL_law_1854 : decode cL_law 1854 = .ok (.aload_n 1, 1) := by decide +kernel
theorem dL_law_1855 : decode cL_law 1855 = .ok (.aload_n 0, 1) := by decide +kernel
theorem dL_law_1856 : decode cL_law 1856 = .ok (.iload 5, 2) := by decide +kernel
theorem dL_law_1858 : decode cL_law 1858 = .ok (.iconst 1, 1) := by decide +kernel
theorem dL_law_1859 : decode cL_law 1859 = .ok (.iadd, 1) := by decide +kernel
theorem dL_law_1860 : decode cL_law 1860 = .ok (.iaload, 1) := by decide +kernel
theorem dL_law_1861 : decode cL_law 1861 = .ok (.invokestatic 229, 3) := by decide +kernel
theorem dL_law_1864 : decode cL_law 1864 = .ok (.istore 6, 2) := by decide +kernel
theorem dL_law_1866 : decode cL_law 1866 = .ok (.aload_n 2, 1) := by decide +kernel
theorem dL_law_1867 : decode cL_law 1867 = .ok (.aload_n 0, 1) := by decide +kernel
theorem dL_law_1868 : decode cL_law 1868 = .ok (.iload 5, 2) := by decide +kernel
theorem dL_law_1870 : decode cL_law 1870 = .ok (.iconst 1, 1) := by decide +kernel
theorem dL_law_1871 : decode cL_law 1871 = .ok (.iadd, 1) := by decide +kernel
theorem dL_law_1872 : decode cL_law 1872 = .ok (.iaload, 1) := by decide +kernel
theorem dL_law_1873 : decode cL_law 1873 = .ok (.invokevirtual 231, 3) := by decide +kernel
theorem dL_law_1876 : decode cL_law 1876 = .ok (.aload_n 2, 1) := by decide +kernel
theorem dL_law_1877 : decode cL_law 1877 = .ok (.invokevirtual 101, 3) := by decide +kernel
theorem dL_law_1880 : decode cL_law 1880 = .ok (.iload 6, 2) := by decide +kernel
theorem dL_law_1882 : decode cL_law 1882 = .ok (.if_icmp .eq 5, 3) := by decide +kernel
theorem dL_law_1885 : decode cL_law 1885 = .ok (.iconst 0, 1) := by decide +kernel
theorem dL_law_1886 : decode cL_law 1886 = .ok (.ireturn, 1) := by decide +kernel
theorem dL_law_1887 : decode cL_law 1887 = .ok (.goto 3, 3) := by decide +kernel
theorem dL_law_1890 : decode cL_law 1890 = .ok (.iinc 5 6, 3) := by decide +kernel
theorem dL_law_1893 : decode cL_law 1893 = .ok (.goto (-1865), 3) := by decide +kernel
theorem dL_law_1896 : decode cL_law 1896 = .ok (.iconst 1, 1) := by decide +kernel
theorem dL_law_1897 : decode cL_law 1897 = .ok (.ireturn, 1) := by decide +kernel
