theorem dX4_init_0 : decode cX4_init 0 = .ok (.aload_n 0, 1) := by decide +kernel
theorem dX4_init_1 : decode cX4_init 1 = .ok (.invokespecial 1, 3) := by decide +kernel
theorem dX4_init_4 : decode cX4_init 4 = .ok (.aload_n 0, 1) := by decide +kernel
theorem dX4_init_5 : decode cX4_init 5 = .ok (.new 7, 3) := by decide +kernel
theorem dX4_init_8 : decode cX4_init 8 = .ok (.dup, 1) := by decide +kernel
theorem dX4_init_9 : decode cX4_init 9 = .ok (.invokespecial 9, 3) := by decide +kernel
theorem dX4_init_12 : decode cX4_init 12 = .ok (.putfield 10, 3) := by decide +kernel
theorem dX4_init_15 : decode cX4_init 15 = .ok (.aload_n 0, 1) := by decide +kernel
theorem dX4_init_16 : decode cX4_init 16 = .ok (.new 7, 3) := by decide +kernel
theorem dX4_init_19 : decode cX4_init 19 = .ok (.dup, 1) := by decide +kernel
theorem dX4_init_20 : decode cX4_init 20 = .ok (.invokespecial 9, 3) := by decide +kernel
theorem dX4_init_23 : decode cX4_init 23 = .ok (.putfield 16, 3) := by decide +kernel
theorem dX4_init_26 : decode cX4_init 26 = .ok (.aload_n 0, 1) := by decide +kernel
theorem dX4_init_27 : decode cX4_init 27 = .ok (.iconst 2, 1) := by decide +kernel
theorem dX4_init_28 : decode cX4_init 28 = .ok (.anewarray 7, 3) := by decide +kernel
theorem dX4_init_31 : decode cX4_init 31 = .ok (.putfield 19, 3) := by decide +kernel
theorem dX4_init_34 : decode cX4_init 34 = .ok (.aload_n 0, 1) := by decide +kernel
theorem dX4_init_35 : decode cX4_init 35 = .ok (.new 23, 3) := by decide +kernel
theorem dX4_init_38 : decode cX4_init 38 = .ok (.dup, 1) := by decide +kernel
theorem dX4_init_39 : decode cX4_init 39 = .ok (.invokespecial 25, 3) := by decide +kernel
theorem dX4_init_42 : decode cX4_init 42 = .ok (.putfield 26, 3) := by decide +kernel
theorem dX4_init_45 : decode cX4_init 45 = .ok (.aload_n 0, 1) := by decide +kernel
theorem dX4_init_46 : decode cX4_init 46 = .ok (.new 30, 3) := by decide +kernel
theorem dX4_init_49 : decode cX4_init 49 = .ok (.dup, 1) := by decide +kernel
theorem dX4_init_50 : decode cX4_init 50 = .ok (.invokespecial 32, 3) := by decide +kernel
theorem dX4_init_53 : decode cX4_init 53 = .ok (.putfield 33, 3) := by decide +kernel
theorem dX4_init_56 : decode cX4_init 56 = .ok (.aload_n 0, 1) := by decide +kernel
theorem dX4_init_57 : decode cX4_init 57 = .ok (.new 37, 3) := by decide +kernel
theorem dX4_init_60 : decode cX4_init 60 = .ok (.dup, 1) := by decide +kernel
theorem dX4_init_61 : decode cX4_init 61 = .ok (.invokespecial 39, 3) := by decide +kernel
theorem dX4_init_64 : decode cX4_init 64 = .ok (.putfield 40, 3) := by decide +kernel
theorem dX4_init_67 : decode cX4_init 67 = .ok (.aload_n 0, 1) := by decide +kernel
theorem dX4_init_68 : decode cX4_init 68 = .ok (.bipush 9, 2) := by decide +kernel
theorem dX4_init_70 : decode cX4_init 70 = .ok (.newarray .int, 2) := by decide +kernel
theorem dX4_init_72 : decode cX4_init 72 = .ok (.putfield 44, 3) := by decide +kernel
theorem dX4_init_75 : decode cX4_init 75 = .ok (.aload_n 0, 1) := by decide +kernel
theorem dX4_init_76 : decode cX4_init 76 = .ok (.iconst 5, 1) := by decide +kernel
theorem dX4_init_77 : decode cX4_init 77 = .ok (.newarray .long, 2) := by decide +kernel
theorem dX4_init_79 : decode cX4_init 79 = .ok (.putfield 48, 3) := by decide +kernel
theorem dX4_init_82 : decode cX4_init 82 = .ok (.return_, 1) := by decide +kernel
theorem dX4_appendText_0 : decode cX4_appendText 0 = .ok (.aload_n 0, 1) := by decide +kernel
theorem dX4_appendText_1 : decode cX4_appendText 1 = .ok (.getfield 33, 3) := by decide +kernel
theorem dX4_appendText_4 : decode cX4_appendText 4 = .ok (.iconst 4, 1) := by decide +kernel
theorem dX4_appendText_5 : decode cX4_appendText 5 = .ok (.invokevirtual 52, 3) := by decide +kernel
theorem dX4_appendText_8 : decode cX4_appendText 8 = .ok (.ifCond .ne 11, 3) := by decide +kernel
theorem dX4_appendText_11 : decode cX4_appendText 11 = .ok (.new 56, 3) := by decide +kernel
theorem dX4_appendText_14 : decode cX4_appendText 14 = .ok (.dup, 1) := by decide +kernel
theorem dX4_appendText_15 : decode cX4_appendText 15 = .ok (.invokespecial 58, 3) := by decide +kernel
theorem dX4_appendText_18 : decode cX4_appendText 18 = .ok (.athrow, 1) := by decide +kernel
theorem dX4_appendText_19 : decode cX4_appendText 19 = .ok (.bipush 24, 2) := by decide +kernel
theorem dX4_appendText_21 : decode cX4_appendText 21 = .ok (.istore_n 2, 1) := by decide +kernel
theorem dX4_appendText_22 : decode cX4_appendText 22 = .ok (.iload_n 2, 1) := by decide +kernel
theorem dX4_appendText_23 : decode cX4_appendText 23 = .ok (.ifCond .lt 20, 3) := by decide +kernel
theorem dX4_appendText_26 : decode cX4_appendText 26 = .ok (.aload_n 0, 1) := by decide +kernel
theorem dX4_appendText_27 : decode cX4_appendText 27 = .ok (.getfield 33, 3) := by decide +kernel
theorem dX4_appendText_30 : decode cX4_appendText 30 = .ok (.iload_n 1, 1) := by decide +kernel
theorem dX4_appendText_31 : decode cX4_appendText 31 = .ok (.iload_n 2, 1) := by decide +kernel
theorem dX4_appendText_32 : decode cX4_appendText 32 = .ok (.ishr, 1) := by decide +kernel
theorem dX4_appendText_33 : decode cX4_appendText 33 = .ok (.i2b, 1) := by decide +kernel
theorem dX4_appendText_34 : decode cX4_appendText 34 = .ok (.invokevirtual 59, 3) := by decide +kernel
theorem dX4_appendText_37 : decode cX4_appendText 37 = .ok (.iinc 2 (-8), 3) := by decide +kernel
theorem dX4_appendText_40 : decode cX4_appendText 40 = .ok (.goto (-18), 3) := by decide +kernel
theorem dX4_appendText_43 : decode cX4_appendText 43 = .ok (.aload_n 0, 1) := by decide +kernel
theorem dX4_appendText_44 : decode cX4_appendText 44 = .ok (.getfield 33, 3) := by decide +kernel
theorem dX4_appendText_47 : decode cX4_appendText 47 = .ok (.getfield 63, 3) := by decide +kernel
theorem dX4_appendText_50 : decode cX4_appendText 50 = .ok (.ireturn, 1) := by decide +kernel
theorem dX4_truncateText_0 : decode cX4_truncateText 0 = .ok (.iload_n 1, 1) := by decide +kernel
theorem dX4_truncateText_1 : decode cX4_truncateText 1 = .ok (.ifCond .lt 14, 3) := by decide +kernel
theorem dX4_truncateText_4 : decode cX4_truncateText 4 = .ok (.iload_n 1, 1) := by decide +kernel
theorem dX4_truncateText_5 : decode cX4_truncateText 5 = .ok (.aload_n 0, 1) := by decide +kernel
theorem dX4_truncateText_6 : decode cX4_truncateText 6 = .ok (.getfield 33, 3) := by decide +kernel
theorem dX4_truncateText_9 : decode cX4_truncateText 9 = .ok (.getfield 63, 3) := by decide +kernel
theorem dX4_truncateText_12 : decode cX4_truncateText 12 = .ok (.if_icmp .le 11, 3) := by decide +kernel
theorem dX4_truncateText_15 : decode cX4_truncateText 15 = .ok (.new 67, 3) := by decide +kernel
theorem dX4_truncateText_18 : decode cX4_truncateText 18 = .ok (.dup, 1) := by decide +kernel
theorem dX4_truncateText_19 : decode cX4_truncateText 19 = .ok (.invokespecial 69, 3) := by decide +kernel
theorem dX4_truncateText_22 : decode cX4_truncateText 22 = .ok (.athrow, 1) := by decide +kernel
theorem dX4_truncateText_23 : decode cX4_truncateText 23 = .ok (.aload_n 0, 1) := by decide +kernel
theorem dX4_truncateText_24 : decode cX4_truncateText 24 = .ok (.getfield 33, 3) := by decide +kernel
theorem dX4_truncateText_27 : decode cX4_truncateText 27 = .ok (.iload_n 1, 1) := by decide +kernel
theorem dX4_truncateText_28 : decode cX4_truncateText 28 = .ok (.putfield 63, 3) := by decide +kernel
theorem dX4_truncateText_31 : decode cX4_truncateText 31 = .ok (.iload_n 1, 1) := by decide +kernel
theorem dX4_truncateText_32 : decode cX4_truncateText 32 = .ok (.ireturn, 1) := by decide +kernel
theorem dX4_load_0 : decode cX4_load 0 = .ok (.aload_n 0, 1) := by decide +kernel
theorem dX4_load_1 : decode cX4_load 1 = .ok (.getfield 16, 3) := by decide +kernel
theorem dX4_load_4 : decode cX4_load 4 = .ok (.invokevirtual 70, 3) := by decide +kernel
theorem dX4_load_7 : decode cX4_load 7 = .ok (.aload_n 0, 1) := by decide +kernel
theorem dX4_load_8 : decode cX4_load 8 = .ok (.getfield 33, 3) := by decide +kernel
theorem dX4_load_11 : decode cX4_load 11 = .ok (.aload_n 0, 1) := by decide +kernel
theorem dX4_load_12 : decode cX4_load 12 = .ok (.getfield 16, 3) := by decide +kernel
theorem dX4_load_15 : decode cX4_load 15 = .ok (.invokevirtual 73, 3) := by decide +kernel
theorem dX4_load_18 : decode cX4_load 18 = .ok (.istore_n 1, 1) := by decide +kernel
theorem dX4_load_19 : decode cX4_load 19 = .ok (.aload_n 0, 1) := by decide +kernel
theorem dX4_load_20 : decode cX4_load 20 = .ok (.getfield 33, 3) := by decide +kernel
theorem dX4_load_23 : decode cX4_load 23 = .ok (.iconst 0, 1) := by decide +kernel
theorem dX4_load_24 : decode cX4_load 24 = .ok (.putfield 63, 3) := by decide +kernel
theorem dX4_load_27 : decode cX4_load 27 = .ok (.iload_n 1, 1) := by decide +kernel
theorem dX4_load_28 : decode cX4_load 28 = .ok (.ifCond .ne 5, 3) := by decide +kernel
theorem dX4_load_31 : decode cX4_load 31 = .ok (.iconst (-1), 1) := by decide +kernel
theorem dX4_load_32 : decode cX4_load 32 = .ok (.ireturn, 1) := by decide +kernel
theorem dX4_load_33 : decode cX4_load 33 = .ok (.aload_n 0, 1) := by decide +kernel
theorem dX4_load_34 : decode cX4_load 34 = .ok (.getfield 10, 3) := by decide +kernel
theorem dX4_load_37 : decode cX4_load 37 = .ok (.aload_n 0, 1) := by decide +kernel
theorem dX4_load_38 : decode cX4_load 38 = .ok (.getfield 16, 3) := by decide +kernel
theorem dX4_load_41 : decode cX4_load 41 = .ok (.invokevirtual 77, 3) := by decide +kernel
theorem dX4_load_44 : decode cX4_load 44 = .ok (.aload_n 0, 1) := by decide +kernel
theorem dX4_load_45 : decode cX4_load 45 = .ok (.iconst 0, 1) := by decide +kernel
theorem dX4_load_46 : decode cX4_load 46 = .ok (.putfield 81, 3) := by decide +kernel
theorem dX4_load_49 : decode cX4_load 49 = .ok (.aload_n 0, 1) := by decide +kernel
theorem dX4_load_50 : decode cX4_load 50 = .ok (.getfield 33, 3) := by decide +kernel
theorem dX4_load_53 : decode cX4_load 53 = .ok (.getfield 84, 3) := by decide +kernel
theorem dX4_load_56 : decode cX4_load 56 = .ok (.ireturn, 1) := by decide +kernel
theorem dX4_play_0 : decode cX4_play 0 = .ok (.aload_n 0, 1) := by decide +kernel
theorem dX4_play_1 : decode cX4_play 1 = .ok (.getfield 33, 3) := by decide +kernel
theorem dX4_play_4 : decode cX4_play 4 = .ok (.aload_n 0, 1) := by decide +kernel
theorem dX4_play_5 : decode cX4_play 5 = .ok (.getfield 10, 3) := by decide +kernel
theorem dX4_play_8 : decode cX4_play 8 = .ok (.getfield 87, 3) := by decide +kernel
theorem dX4_play_11 : decode cX4_play 11 = .ok (.iconst 0, 1) := by decide +kernel
theorem dX4_play_12 : decode cX4_play 12 = .ok (.iaload, 1) := by decide +kernel
theorem dX4_play_13 : decode cX4_play 13 = .ok (.invokevirtual 90, 3) := by decide +kernel
theorem dX4_play_16 : decode cX4_play 16 = .ok (.istore_n 1, 1) := by decide +kernel
theorem dX4_play_17 : decode cX4_play 17 = .ok (.aload_n 0, 1) := by decide +kernel
theorem dX4_play_18 : decode cX4_play 18 = .ok (.getfield 33, 3) := by decide +kernel
theorem dX4_play_21 : decode cX4_play 21 = .ok (.iconst 0, 1) := by decide +kernel
theorem dX4_play_22 : decode cX4_play 22 = .ok (.putfield 63, 3) := by decide +kernel
theorem dX4_play_25 : decode cX4_play 25 = .ok (.iload_n 1, 1) := by decide +kernel
theorem dX4_play_26 : decode cX4_play 26 = .ok (.ifCond .ne 5, 3) := by decide +kernel
theorem dX4_play_29 : decode cX4_play 29 = .ok (.iconst (-1), 1) := by decide +kernel
theorem dX4_play_30 : decode cX4_play 30 = .ok (.ireturn, 1) := by decide +kernel
theorem dX4_play_31 : decode cX4_play 31 = .ok (.iconst 0, 1) := by decide +kernel
theorem dX4_play_32 : decode cX4_play 32 = .ok (.istore_n 2, 1) := by decide +kernel
theorem dX4_play_33 : decode cX4_play 33 = .ok (.iload_n 2, 1) := by decide +kernel
theorem dX4_play_34 : decode cX4_play 34 = .ok (.aload_n 0, 1) := by decide +kernel
theorem dX4_play_35 : decode cX4_play 35 = .ok (.getfield 33, 3) := by decide +kernel
theorem dX4_play_38 : decode cX4_play 38 = .ok (.getfield 84, 3) := by decide +kernel
theorem dX4_play_41 : decode cX4_play 41 = .ok (.if_icmp .ge 129, 3) := by decide +kernel
theorem dX4_play_44 : decode cX4_play 44 = .ok (.aload_n 0, 1) := by decide +kernel
theorem dX4_play_45 : decode cX4_play 45 = .ok (.getfield 33, 3) := by decide +kernel
theorem dX4_play_48 : decode cX4_play 48 = .ok (.iload_n 2, 1) := by decide +kernel
theorem dX4_play_49 : decode cX4_play 49 = .ok (.iconst 1, 1) := by decide +kernel
theorem dX4_play_50 : decode cX4_play 50 = .ok (.invokevirtual 93, 3) := by decide +kernel
theorem dX4_play_53 : decode cX4_play 53 = .ok (.istore_n 3, 1) := by decide +kernel
theorem dX4_play_54 : decode cX4_play 54 = .ok (.aload_n 0, 1) := by decide +kernel
theorem dX4_play_55 : decode cX4_play 55 = .ok (.getfield 33, 3) := by decide +kernel
theorem dX4_play_58 : decode cX4_play 58 = .ok (.iload_n 2, 1) := by decide +kernel
theorem dX4_play_59 : decode cX4_play 59 = .ok (.iconst 2, 1) := by decide +kernel
theorem dX4_play_60 : decode cX4_play 60 = .ok (.invokevirtual 93, 3) := by decide +kernel
theorem dX4_play_63 : decode cX4_play 63 = .ok (.istore 4, 2) := by decide +kernel
theorem dX4_play_65 : decode cX4_play 65 = .ok (.aload_n 0, 1) := by decide +kernel
theorem dX4_play_66 : decode cX4_play 66 = .ok (.getfield 33, 3) := by decide +kernel
theorem dX4_play_69 : decode cX4_play 69 = .ok (.iload_n 2, 1) := by decide +kernel
theorem dX4_play_70 : decode cX4_play 70 = .ok (.iconst 0, 1) := by decide +kernel
theorem dX4_play_71 : decode cX4_play 71 = .ok (.invokevirtual 93, 3) := by decide +kernel
theorem dX4_play_74 : decode cX4_play 74 = .ok (.lookupswitch 77 #[(0, 26), (1, 38)], 26) := by decide +kernel
theorem dX4_play_100 : decode cX4_play 100 = .ok (.aload_n 0, 1) := by decide +kernel
theorem dX4_play_101 : decode cX4_play 101 = .ok (.iload_n 3, 1) := by decide +kernel
theorem dX4_play_102 : decode cX4_play 102 = .ok (.iload 4, 2) := by decide +kernel
theorem dX4_play_104 : decode cX4_play 104 = .ok (.invokevirtual 97, 3) := by decide +kernel
theorem dX4_play_107 : decode cX4_play 107 = .ok (.istore 5, 2) := by decide +kernel
theorem dX4_play_109 : decode cX4_play 109 = .ok (.goto 48, 3) := by decide +kernel
theorem dX4_play_112 : decode cX4_play 112 = .ok (.aload_n 0, 1) := by decide +kernel
theorem dX4_play_113 : decode cX4_play 113 = .ok (.iload_n 3, 1) := by decide +kernel
theorem dX4_play_114 : decode cX4_play 114 = .ok (.iload 4, 2) := by decide +kernel
theorem dX4_play_116 : decode cX4_play 116 = .ok (.aload_n 0, 1) := by decide +kernel
theorem dX4_play_117 : decode cX4_play 117 = .ok (.getfield 33, 3) := by decide +kernel
theorem dX4_play_120 : decode cX4_play 120 = .ok (.iload_n 2, 1) := by decide +kernel
theorem dX4_play_121 : decode cX4_play 121 = .ok (.iconst 3, 1) := by decide +kernel
theorem dX4_play_122 : decode cX4_play 122 = .ok (.invokevirtual 93, 3) := by decide +kernel
theorem dX4_play_125 : decode cX4_play 125 = .ok (.aload_n 0, 1) := by decide +kernel
theorem dX4_play_126 : decode cX4_play 126 = .ok (.getfield 33, 3) := by decide +kernel
theorem dX4_play_129 : decode cX4_play 129 = .ok (.iload_n 2, 1) := by decide +kernel
theorem dX4_play_130 : decode cX4_play 130 = .ok (.iconst 4, 1) := by decide +kernel
theorem dX4_play_131 : decode cX4_play 131 = .ok (.invokevirtual 93, 3) := by decide +kernel
theorem dX4_play_134 : decode cX4_play 134 = .ok (.aload_n 0, 1) := by decide +kernel
theorem dX4_play_135 : decode cX4_play 135 = .ok (.getfield 33, 3) := by decide +kernel
theorem dX4_play_138 : decode cX4_play 138 = .ok (.iload_n 2, 1) := by decide +kernel
theorem dX4_play_139 : decode cX4_play 139 = .ok (.iconst 5, 1) := by decide +kernel
theorem dX4_play_140 : decode cX4_play 140 = .ok (.invokevirtual 93, 3) := by decide +kernel
theorem dX4_play_143 : decode cX4_play 143 = .ok (.invokevirtual 100, 3) := by decide +kernel
theorem dX4_play_146 : decode cX4_play 146 = .ok (.istore 5, 2) := by decide +kernel
theorem dX4_play_148 : decode cX4_play 148 = .ok (.goto 9, 3) := by decide +kernel
theorem dX4_play_151 : decode cX4_play 151 = .ok (.aload_n 0, 1) := by decide +kernel
theorem dX4_play_152 : decode cX4_play 152 = .ok (.invokevirtual 104, 3) := by decide +kernel
theorem dX4_play_155 : decode cX4_play 155 = .ok (.istore 5, 2) := by decide +kernel
theorem dX4_play_157 : decode cX4_play 157 = .ok (.iload 5, 2) := by decide +kernel
theorem dX4_play_159 : decode cX4_play 159 = .ok (.ifCond .eq 5, 3) := by decide +kernel
theorem dX4_play_162 : decode cX4_play 162 = .ok (.iload_n 2, 1) := by decide +kernel
theorem dX4_play_163 : decode cX4_play 163 = .ok (.ireturn, 1) := by decide +kernel
theorem dX4_play_164 : decode cX4_play 164 = .ok (.iinc 2 1, 3) := by decide +kernel
theorem dX4_play_167 : decode cX4_play 167 = .ok (.goto (-134), 3) := by decide +kernel
theorem dX4_play_170 : decode cX4_play 170 = .ok (.aload_n 0, 1) := by decide +kernel
theorem dX4_play_171 : decode cX4_play 171 = .ok (.getfield 33, 3) := by decide +kernel
theorem dX4_play_174 : decode cX4_play 174 = .ok (.getfield 84, 3) := by decide +kernel
theorem dX4_play_177 : decode cX4_play 177 = .ok (.ireturn, 1) := by decide +kernel
theorem dX4_count_0 : decode cX4_count 0 = .ok (.iload_n 1, 1) := by decide +kernel
theorem dX4_count_1 : decode cX4_count 1 = .ok (.ifCond .lt 9, 3) := by decide +kernel
theorem dX4_count_4 : decode cX4_count 4 = .ok (.iload_n 1, 1) := by decide +kernel
theorem dX4_count_5 : decode cX4_count 5 = .ok (.bipush 15, 2) := by decide +kernel
theorem dX4_count_7 : decode cX4_count 7 = .ok (.if_icmp .le 11, 3) := by decide +kernel
theorem dX4_count_10 : decode cX4_count 10 = .ok (.new 67, 3) := by decide +kernel
theorem dX4_count_13 : decode cX4_count 13 = .ok (.dup, 1) := by decide +kernel
theorem dX4_count_14 : decode cX4_count 14 = .ok (.invokespecial 69, 3) := by decide +kernel
theorem dX4_count_17 : decode cX4_count 17 = .ok (.athrow, 1) := by decide +kernel
theorem dX4_count_18 : decode cX4_count 18 = .ok (.iload_n 1, 1) := by decide +kernel
theorem dX4_count_19 : decode cX4_count 19 = .ok (.bipush 7, 2) := by decide +kernel
theorem dX4_count_21 : decode cX4_count 21 = .ok (.if_icmp .ge 13, 3) := by decide +kernel
theorem dX4_count_24 : decode cX4_count 24 = .ok (.aload_n 0, 1) := by decide +kernel
theorem dX4_count_25 : decode cX4_count 25 = .ok (.getfield 10, 3) := by decide +kernel
theorem dX4_count_28 : decode cX4_count 28 = .ok (.getfield 87, 3) := by decide +kernel
theorem dX4_count_31 : decode cX4_count 31 = .ok (.iload_n 1, 1) := by decide +kernel
theorem dX4_count_32 : decode cX4_count 32 = .ok (.iaload, 1) := by decide +kernel
theorem dX4_count_33 : decode cX4_count 33 = .ok (.ireturn, 1) := by decide +kernel
theorem dX4_count_34 : decode cX4_count 34 = .ok (.iload_n 1, 1) := by decide +kernel
theorem dX4_count_35 : decode cX4_count 35 = .ok (.tableswitch 144 7 14 #[45, 53, 75, 91, 99, 107, 123, 128], 45) := by decide +kernel
theorem dX4_count_80 : decode cX4_count 80 = .ok (.aload_n 0, 1) := by decide +kernel
theorem dX4_count_81 : decode cX4_count 81 = .ok (.getfield 10, 3) := by decide +kernel
theorem dX4_count_84 : decode cX4_count 84 = .ok (.getfield 114, 3) := by decide +kernel
theorem dX4_count_87 : decode cX4_count 87 = .ok (.ireturn, 1) := by decide +kernel
theorem dX4_count_88 : decode cX4_count 88 = .ok (.aload_n 0, 1) := by decide +kernel
theorem dX4_count_89 : decode cX4_count 89 = .ok (.getfield 10, 3) := by decide +kernel
theorem dX4_count_92 : decode cX4_count 92 = .ok (.getfield 117, 3) := by decide +kernel
theorem dX4_count_95 : decode cX4_count 95 = .ok (.ifCond .eq 7, 3) := by decide +kernel
theorem dX4_count_98 : decode cX4_count 98 = .ok (.iconst (-1), 1) := by decide +kernel
theorem dX4_count_99 : decode cX4_count 99 = .ok (.goto 10, 3) := by decide +kernel
theorem dX4_count_102 : decode cX4_count 102 = .ok (.aload_n 0, 1) := by decide +kernel
theorem dX4_count_103 : decode cX4_count 103 = .ok (.getfield 10, 3) := by decide +kernel
theorem dX4_count_106 : decode cX4_count 106 = .ok (.invokevirtual 121, 3) := by decide +kernel
theorem dX4_count_109 : decode cX4_count 109 = .ok (.ireturn, 1) := by decide +kernel
theorem dX4_count_110 : decode cX4_count 110 = .ok (.aload_n 0, 1) := by decide +kernel
theorem dX4_count_111 : decode cX4_count 111 = .ok (.getfield 10, 3) := by decide +kernel
theorem dX4_count_114 : decode cX4_count 114 = .ok (.getfield 117, 3) := by decide +kernel
theorem dX4_count_117 : decode cX4_count 117 = .ok (.ifCond .eq 7, 3) := by decide +kernel
theorem dX4_count_120 : decode cX4_count 120 = .ok (.iconst 1, 1) := by decide +kernel
theorem dX4_count_121 : decode cX4_count 121 = .ok (.goto 4, 3) := by decide +kernel
theorem dX4_count_124 : decode cX4_count 124 = .ok (.iconst 0, 1) := by decide +kernel
theorem dX4_count_125 : decode cX4_count 125 = .ok (.ireturn, 1) := by decide +kernel
theorem dX4_count_126 : decode cX4_count 126 = .ok (.aload_n 0, 1) := by decide +kernel
theorem dX4_count_127 : decode cX4_count 127 = .ok (.getfield 10, 3) := by decide +kernel
theorem dX4_count_130 : decode cX4_count 130 = .ok (.invokevirtual 124, 3) := by decide +kernel
theorem dX4_count_133 : decode cX4_count 133 = .ok (.ireturn, 1) := by decide +kernel
theorem dX4_count_134 : decode cX4_count 134 = .ok (.aload_n 0, 1) := by decide +kernel
theorem dX4_count_135 : decode cX4_count 135 = .ok (.getfield 10, 3) := by decide +kernel
theorem dX4_count_138 : decode cX4_count 138 = .ok (.invokevirtual 127, 3) := by decide +kernel
theorem dX4_count_141 : decode cX4_count 141 = .ok (.ireturn, 1) := by decide +kernel
theorem dX4_count_142 : decode cX4_count 142 = .ok (.aload_n 0, 1) := by decide +kernel
theorem dX4_count_143 : decode cX4_count 143 = .ok (.getfield 10, 3) := by decide +kernel
theorem dX4_count_146 : decode cX4_count 146 = .ok (.getfield 114, 3) := by decide +kernel
theorem dX4_count_149 : decode cX4_count 149 = .ok (.aload_n 0, 1) := by decide +kernel
theorem dX4_count_150 : decode cX4_count 150 = .ok (.getfield 10, 3) := by decide +kernel
theorem dX4_count_153 : decode cX4_count 153 = .ok (.invokevirtual 127, 3) := by decide +kernel
theorem dX4_count_156 : decode cX4_count 156 = .ok (.isub, 1) := by decide +kernel
theorem dX4_count_157 : decode cX4_count 157 = .ok (.ireturn, 1) := by decide +kernel
theorem dX4_count_158 : decode cX4_count 158 = .ok (.aload_n 0, 1) := by decide +kernel
theorem dX4_count_159 : decode cX4_count 159 = .ok (.getfield 81, 3) := by decide +kernel
theorem dX4_count_162 : decode cX4_count 162 = .ok (.ireturn, 1) := by decide +kernel
theorem dX4_count_163 : decode cX4_count 163 = .ok (.aload_n 0, 1) := by decide +kernel
theorem dX4_count_164 : decode cX4_count 164 = .ok (.getfield 10, 3) := by decide +kernel
theorem dX4_count_167 : decode cX4_count 167 = .ok (.invokevirtual 130, 3) := by decide +kernel
theorem dX4_count_170 : decode cX4_count 170 = .ok (.ifCond .eq 7, 3) := by decide +kernel
theorem dX4_count_173 : decode cX4_count 173 = .ok (.iconst 1, 1) := by decide +kernel
theorem dX4_count_174 : decode cX4_count 174 = .ok (.goto 4, 3) := by decide +kernel
theorem dX4_count_177 : decode cX4_count 177 = .ok (.iconst 0, 1) := by decide +kernel
theorem dX4_count_178 : decode cX4_count 178 = .ok (.ireturn, 1) := by decide +kernel
theorem dX4_count_179 : decode cX4_count 179 = .ok (.aload_n 0, 1) := by decide +kernel
theorem dX4_count_180 : decode cX4_count 180 = .ok (.getfield 10, 3) := by decide +kernel
theorem dX4_count_183 : decode cX4_count 183 = .ok (.getfield 134, 3) := by decide +kernel
theorem dX4_count_186 : decode cX4_count 186 = .ok (.ireturn, 1) := by decide +kernel
theorem dX4_power_0 : decode cX4_power 0 = .ok (.aload_n 0, 1) := by decide +kernel
theorem dX4_power_1 : decode cX4_power 1 = .ok (.getfield 10, 3) := by decide +kernel
theorem dX4_power_4 : decode cX4_power 4 = .ok (.iload_n 1, 1) := by decide +kernel
theorem dX4_power_5 : decode cX4_power 5 = .ok (.invokevirtual 137, 3) := by decide +kernel
theorem dX4_power_8 : decode cX4_power 8 = .ok (.ifCond .ne 11, 3) := by decide +kernel
theorem dX4_power_11 : decode cX4_power 11 = .ok (.new 140, 3) := by decide +kernel
theorem dX4_power_14 : decode cX4_power 14 = .ok (.dup, 1) := by decide +kernel
theorem dX4_power_15 : decode cX4_power 15 = .ok (.invokespecial 142, 3) := by decide +kernel
theorem dX4_power_18 : decode cX4_power 18 = .ok (.athrow, 1) := by decide +kernel
theorem dX4_power_19 : decode cX4_power 19 = .ok (.iload_n 2, 1) := by decide +kernel
theorem dX4_power_20 : decode cX4_power 20 = .ok (.ifCond .lt 8, 3) := by decide +kernel
theorem dX4_power_23 : decode cX4_power 23 = .ok (.iload_n 2, 1) := by decide +kernel
theorem dX4_power_24 : decode cX4_power 24 = .ok (.iconst 4, 1) := by decide +kernel
theorem dX4_power_25 : decode cX4_power 25 = .ok (.if_icmp .le 11, 3) := by decide +kernel
theorem dX4_power_28 : decode cX4_power 28 = .ok (.new 67, 3) := by decide +kernel
theorem dX4_power_31 : decode cX4_power 31 = .ok (.dup, 1) := by decide +kernel
theorem dX4_power_32 : decode cX4_power 32 = .ok (.invokespecial 69, 3) := by decide +kernel
theorem dX4_power_35 : decode cX4_power 35 = .ok (.athrow, 1) := by decide +kernel
theorem dX4_power_36 : decode cX4_power 36 = .ok (.aload_n 0, 1) := by decide +kernel
theorem dX4_power_37 : decode cX4_power 37 = .ok (.getfield 10, 3) := by decide +kernel
theorem dX4_power_40 : decode cX4_power 40 = .ok (.iload_n 1, 1) := by decide +kernel
theorem dX4_power_41 : decode cX4_power 41 = .ok (.invokevirtual 143, 3) := by decide +kernel
theorem dX4_power_44 : decode cX4_power 44 = .ok (.istore_n 3, 1) := by decide +kernel
theorem dX4_power_45 : decode cX4_power 45 = .ok (.iload_n 2, 1) := by decide +kernel
theorem dX4_power_46 : decode cX4_power 46 = .ok (.tableswitch 68 0 3 #[30, 40, 57, 66], 30) := by decide +kernel
theorem dX4_power_76 : decode cX4_power 76 = .ok (.aload_n 0, 1) := by decide +kernel
theorem dX4_power_77 : decode cX4_power 77 = .ok (.getfield 10, 3) := by decide +kernel
theorem dX4_power_80 : decode cX4_power 80 = .ok (.getfield 147, 3) := by decide +kernel
theorem dX4_power_83 : decode cX4_power 83 = .ok (.iload_n 1, 1) := by decide +kernel
theorem dX4_power_84 : decode cX4_power 84 = .ok (.iaload, 1) := by decide +kernel
theorem dX4_power_85 : decode cX4_power 85 = .ok (.ireturn, 1) := by decide +kernel
theorem dX4_power_86 : decode cX4_power 86 = .ok (.aload_n 0, 1) := by decide +kernel
theorem dX4_power_87 : decode cX4_power 87 = .ok (.getfield 10, 3) := by decide +kernel
theorem dX4_power_90 : decode cX4_power 90 = .ok (.iload_n 1, 1) := by decide +kernel
theorem dX4_power_91 : decode cX4_power 91 = .ok (.invokevirtual 150, 3) := by decide +kernel
theorem dX4_power_94 : decode cX4_power 94 = .ok (.ifCond .eq 7, 3) := by decide +kernel
theorem dX4_power_97 : decode cX4_power 97 = .ok (.iconst 1, 1) := by decide +kernel
theorem dX4_power_98 : decode cX4_power 98 = .ok (.goto 4, 3) := by decide +kernel
theorem dX4_power_101 : decode cX4_power 101 = .ok (.iconst 0, 1) := by decide +kernel
theorem dX4_power_102 : decode cX4_power 102 = .ok (.ireturn, 1) := by decide +kernel
theorem dX4_power_103 : decode cX4_power 103 = .ok (.aload_n 0, 1) := by decide +kernel
theorem dX4_power_104 : decode cX4_power 104 = .ok (.getfield 10, 3) := by decide +kernel
theorem dX4_power_107 : decode cX4_power 107 = .ok (.iload_n 1, 1) := by decide +kernel
theorem dX4_power_108 : decode cX4_power 108 = .ok (.invokevirtual 153, 3) := by decide +kernel
theorem dX4_power_111 : decode cX4_power 111 = .ok (.ireturn, 1) := by decide +kernel
theorem dX4_power_112 : decode cX4_power 112 = .ok (.iload_n 3, 1) := by decide +kernel
theorem dX4_power_113 : decode cX4_power 113 = .ok (.ireturn, 1) := by decide +kernel
theorem dX4_power_114 : decode cX4_power 114 = .ok (.iload_n 3, 1) := by decide +kernel
theorem dX4_power_115 : decode cX4_power 115 = .ok (.iconst (-1), 1) := by decide +kernel
theorem dX4_power_116 : decode cX4_power 116 = .ok (.if_icmp .ne 7, 3) := by decide +kernel
theorem dX4_power_119 : decode cX4_power 119 = .ok (.iconst (-1), 1) := by decide +kernel
theorem dX4_power_120 : decode cX4_power 120 = .ok (.goto 6, 3) := by decide +kernel
theorem dX4_power_123 : decode cX4_power 123 = .ok (.iload_n 3, 1) := by decide +kernel
theorem dX4_power_124 : decode cX4_power 124 = .ok (.iconst 2, 1) := by decide +kernel
theorem dX4_power_125 : decode cX4_power 125 = .ok (.irem, 1) := by decide +kernel
theorem dX4_power_126 : decode cX4_power 126 = .ok (.ireturn, 1) := by decide +kernel
theorem dX4_player_0 : decode cX4_player 0 = .ok (.iload_n 1, 1) := by decide +kernel
theorem dX4_player_1 : decode cX4_player 1 = .ok (.invokestatic 156, 3) := by decide +kernel
theorem dX4_player_4 : decode cX4_player 4 = .ok (.ifCond .ne 11, 3) := by decide +kernel
theorem dX4_player_7 : decode cX4_player 7 = .ok (.new 140, 3) := by decide +kernel
theorem dX4_player_10 : decode cX4_player 10 = .ok (.dup, 1) := by decide +kernel
theorem dX4_player_11 : decode cX4_player 11 = .ok (.invokespecial 142, 3) := by decide +kernel
theorem dX4_player_14 : decode cX4_player 14 = .ok (.athrow, 1) := by decide +kernel
theorem dX4_player_15 : decode cX4_player 15 = .ok (.iload_n 2, 1) := by decide +kernel
theorem dX4_player_16 : decode cX4_player 16 = .ok (.ifCond .lt 9, 3) := by decide +kernel
theorem dX4_player_19 : decode cX4_player 19 = .ok (.iload_n 2, 1) := by decide +kernel
theorem dX4_player_20 : decode cX4_player 20 = .ok (.bipush 7, 2) := by decide +kernel
theorem dX4_player_22 : decode cX4_player 22 = .ok (.if_icmp .le 11, 3) := by decide +kernel
theorem dX4_player_25 : decode cX4_player 25 = .ok (.new 67, 3) := by decide +kernel
theorem dX4_player_28 : decode cX4_player 28 = .ok (.dup, 1) := by decide +kernel
theorem dX4_player_29 : decode cX4_player 29 = .ok (.invokespecial 69, 3) := by decide +kernel
theorem dX4_player_32 : decode cX4_player 32 = .ok (.athrow, 1) := by decide +kernel
theorem dX4_player_33 : decode cX4_player 33 = .ok (.aload_n 0, 1) := by decide +kernel
theorem dX4_player_34 : decode cX4_player 34 = .ok (.aload_n 0, 1) := by decide +kernel
theorem dX4_player_35 : decode cX4_player 35 = .ok (.getfield 10, 3) := by decide +kernel
theorem dX4_player_38 : decode cX4_player 38 = .ok (.getfield 147, 3) := by decide +kernel
theorem dX4_player_41 : decode cX4_player 41 = .ok (.invokevirtual 162, 3) := by decide +kernel
theorem dX4_player_44 : decode cX4_player 44 = .ok (.iload_n 2, 1) := by decide +kernel
theorem dX4_player_45 : decode cX4_player 45 = .ok (.tableswitch 118 0 6 #[43, 56, 65, 78, 87, 96, 105], 43) := by decide +kernel
theorem dX4_player_88 : decode cX4_player 88 = .ok (.aload_n 0, 1) := by decide +kernel
theorem dX4_player_89 : decode cX4_player 89 = .ok (.getfield 10, 3) := by decide +kernel
theorem dX4_player_92 : decode cX4_player 92 = .ok (.iload_n 1, 1) := by decide +kernel
theorem dX4_player_93 : decode cX4_player 93 = .ok (.aload_n 0, 1) := by decide +kernel
theorem dX4_player_94 : decode cX4_player 94 = .ok (.getfield 26, 3) := by decide +kernel
theorem dX4_player_97 : decode cX4_player 97 = .ok (.invokevirtual 174, 3) := by decide +kernel
theorem dX4_player_100 : decode cX4_player 100 = .ok (.ireturn, 1) := by decide +kernel
theorem dX4_player_101 : decode cX4_player 101 = .ok (.aload_n 0, 1) := by decide +kernel
theorem dX4_player_102 : decode cX4_player 102 = .ok (.getfield 10, 3) := by decide +kernel
theorem dX4_player_105 : decode cX4_player 105 = .ok (.iload_n 1, 1) := by decide +kernel
theorem dX4_player_106 : decode cX4_player 106 = .ok (.invokevirtual 178, 3) := by decide +kernel
theorem dX4_player_109 : decode cX4_player 109 = .ok (.ireturn, 1) := by decide +kernel
theorem dX4_player_110 : decode cX4_player 110 = .ok (.aload_n 0, 1) := by decide +kernel
theorem dX4_player_111 : decode cX4_player 111 = .ok (.getfield 10, 3) := by decide +kernel
theorem dX4_player_114 : decode cX4_player 114 = .ok (.iload_n 1, 1) := by decide +kernel
theorem dX4_player_115 : decode cX4_player 115 = .ok (.aload_n 0, 1) := by decide +kernel
theorem dX4_player_116 : decode cX4_player 116 = .ok (.getfield 26, 3) := by decide +kernel
theorem dX4_player_119 : decode cX4_player 119 = .ok (.invokevirtual 181, 3) := by decide +kernel
theorem dX4_player_122 : decode cX4_player 122 = .ok (.ireturn, 1) := by decide +kernel
theorem dX4_player_123 : decode cX4_player 123 = .ok (.aload_n 0, 1) := by decide +kernel
theorem dX4_player_124 : decode cX4_player 124 = .ok (.getfield 10, 3) := by decide +kernel
theorem dX4_player_127 : decode cX4_player 127 = .ok (.iload_n 1, 1) := by decide +kernel
theorem dX4_player_128 : decode cX4_player 128 = .ok (.invokevirtual 184, 3) := by decide +kernel
theorem dX4_player_131 : decode cX4_player 131 = .ok (.ireturn, 1) := by decide +kernel
theorem dX4_player_132 : decode cX4_player 132 = .ok (.aload_n 0, 1) := by decide +kernel
theorem dX4_player_133 : decode cX4_player 133 = .ok (.getfield 10, 3) := by decide +kernel
theorem dX4_player_136 : decode cX4_player 136 = .ok (.iload_n 1, 1) := by decide +kernel
theorem dX4_player_137 : decode cX4_player 137 = .ok (.invokevirtual 159, 3) := by decide +kernel
theorem dX4_player_140 : decode cX4_player 140 = .ok (.ireturn, 1) := by decide +kernel
theorem dX4_player_141 : decode cX4_player 141 = .ok (.aload_n 0, 1) := by decide +kernel
theorem dX4_player_142 : decode cX4_player 142 = .ok (.getfield 10, 3) := by decide +kernel
theorem dX4_player_145 : decode cX4_player 145 = .ok (.iload_n 1, 1) := by decide +kernel
theorem dX4_player_146 : decode cX4_player 146 = .ok (.invokevirtual 187, 3) := by decide +kernel
theorem dX4_player_149 : decode cX4_player 149 = .ok (.ireturn, 1) := by decide +kernel
theorem dX4_player_150 : decode cX4_player 150 = .ok (.aload_n 0, 1) := by decide +kernel
theorem dX4_player_151 : decode cX4_player 151 = .ok (.getfield 10, 3) := by decide +kernel
theorem dX4_player_154 : decode cX4_player 154 = .ok (.iload_n 1, 1) := by decide +kernel
theorem dX4_player_155 : decode cX4_player 155 = .ok (.aload_n 0, 1) := by decide +kernel
theorem dX4_player_156 : decode cX4_player 156 = .ok (.getfield 26, 3) := by decide +kernel
theorem dX4_player_159 : decode cX4_player 159 = .ok (.invokevirtual 190, 3) := by decide +kernel
theorem dX4_player_162 : decode cX4_player 162 = .ok (.ireturn, 1) := by decide +kernel
theorem dX4_player_163 : decode cX4_player 163 = .ok (.aload_n 0, 1) := by decide +kernel
theorem dX4_player_164 : decode cX4_player 164 = .ok (.getfield 10, 3) := by decide +kernel
theorem dX4_player_167 : decode cX4_player 167 = .ok (.iload_n 1, 1) := by decide +kernel
theorem dX4_player_168 : decode cX4_player 168 = .ok (.invokevirtual 193, 3) := by decide +kernel
theorem dX4_player_171 : decode cX4_player 171 = .ok (.ireturn, 1) := by decide +kernel
theorem dX4_winner_0 : decode cX4_winner 0 = .ok (.aload_n 0, 1) := by decide +kernel
theorem dX4_winner_1 : decode cX4_winner 1 = .ok (.getfield 10, 3) := by decide +kernel
theorem dX4_winner_4 : decode cX4_winner 4 = .ok (.getfield 117, 3) := by decide +kernel
theorem dX4_winner_7 : decode cX4_winner 7 = .ok (.ifCond .ne 5, 3) := by decide +kernel
theorem dX4_winner_10 : decode cX4_winner 10 = .ok (.iconst (-1), 1) := by decide +kernel
theorem dX4_winner_11 : decode cX4_winner 11 = .ok (.ireturn, 1) := by decide +kernel
theorem dX4_winner_12 : decode cX4_winner 12 = .ok (.aload_n 0, 1) := by decide +kernel
theorem dX4_winner_13 : decode cX4_winner 13 = .ok (.aload_n 0, 1) := by decide +kernel
theorem dX4_winner_14 : decode cX4_winner 14 = .ok (.getfield 10, 3) := by decide +kernel
theorem dX4_winner_17 : decode cX4_winner 17 = .ok (.getfield 147, 3) := by decide +kernel
theorem dX4_winner_20 : decode cX4_winner 20 = .ok (.invokevirtual 162, 3) := by decide +kernel
theorem dX4_winner_23 : decode cX4_winner 23 = .ok (.aload_n 0, 1) := by decide +kernel
theorem dX4_winner_24 : decode cX4_winner 24 = .ok (.getfield 10, 3) := by decide +kernel
theorem dX4_winner_27 : decode cX4_winner 27 = .ok (.iconst 0, 1) := by decide +kernel
theorem dX4_winner_28 : decode cX4_winner 28 = .ok (.aload_n 0, 1) := by decide +kernel
theorem dX4_winner_29 : decode cX4_winner 29 = .ok (.getfield 26, 3) := by decide +kernel
theorem dX4_winner_32 : decode cX4_winner 32 = .ok (.invokevirtual 174, 3) := by decide +kernel
theorem dX4_winner_35 : decode cX4_winner 35 = .ok (.istore_n 1, 1) := by decide +kernel
theorem dX4_winner_36 : decode cX4_winner 36 = .ok (.aload_n 0, 1) := by decide +kernel
theorem dX4_winner_37 : decode cX4_winner 37 = .ok (.getfield 10, 3) := by decide +kernel
theorem dX4_winner_40 : decode cX4_winner 40 = .ok (.iconst 1, 1) := by decide +kernel
theorem dX4_winner_41 : decode cX4_winner 41 = .ok (.aload_n 0, 1) := by decide +kernel
theorem dX4_winner_42 : decode cX4_winner 42 = .ok (.getfield 26, 3) := by decide +kernel
theorem dX4_winner_45 : decode cX4_winner 45 = .ok (.invokevirtual 174, 3) := by decide +kernel
theorem dX4_winner_48 : decode cX4_winner 48 = .ok (.istore_n 2, 1) := by decide +kernel
theorem dX4_winner_49 : decode cX4_winner 49 = .ok (.iload_n 1, 1) := by decide +kernel
theorem dX4_winner_50 : decode cX4_winner 50 = .ok (.iload_n 2, 1) := by decide +kernel
theorem dX4_winner_51 : decode cX4_winner 51 = .ok (.if_icmp .ne 5, 3) := by decide +kernel
theorem dX4_winner_54 : decode cX4_winner 54 = .ok (.iconst 2, 1) := by decide +kernel
theorem dX4_winner_55 : decode cX4_winner 55 = .ok (.ireturn, 1) := by decide +kernel
theorem dX4_winner_56 : decode cX4_winner 56 = .ok (.iload_n 1, 1) := by decide +kernel
theorem dX4_winner_57 : decode cX4_winner 57 = .ok (.iload_n 2, 1) := by decide +kernel
theorem dX4_winner_58 : decode cX4_winner 58 = .ok (.if_icmp .le 7, 3) := by decide +kernel
theorem dX4_winner_61 : decode cX4_winner 61 = .ok (.iconst 0, 1) := by decide +kernel
theorem dX4_winner_62 : decode cX4_winner 62 = .ok (.goto 4, 3) := by decide +kernel
theorem dX4_winner_65 : decode cX4_winner 65 = .ok (.iconst 1, 1) := by decide +kernel
theorem dX4_winner_66 : decode cX4_winner 66 = .ok (.ireturn, 1) := by decide +kernel
theorem dX4_claim_0 : decode cX4_claim 0 = .ok (.iload_n 1, 1) := by decide +kernel
theorem dX4_claim_1 : decode cX4_claim 1 = .ok (.iload_n 2, 1) := by decide +kernel
theorem dX4_claim_2 : decode cX4_claim 2 = .ok (.invokestatic 196, 3) := by decide +kernel
theorem dX4_claim_5 : decode cX4_claim 5 = .ok (.ifCond .eq 25, 3) := by decide +kernel
theorem dX4_claim_8 : decode cX4_claim 8 = .ok (.iload_n 3, 1) := by decide +kernel
theorem dX4_claim_9 : decode cX4_claim 9 = .ok (.ifCond .lt 21, 3) := by decide +kernel
theorem dX4_claim_12 : decode cX4_claim 12 = .ok (.iload_n 3, 1) := by decide +kernel
theorem dX4_claim_13 : decode cX4_claim 13 = .ok (.iconst 4, 1) := by decide +kernel
theorem dX4_claim_14 : decode cX4_claim 14 = .ok (.if_icmp .gt 16, 3) := by decide +kernel
theorem dX4_claim_17 : decode cX4_claim 17 = .ok (.iload 5, 2) := by decide +kernel
theorem dX4_claim_19 : decode cX4_claim 19 = .ok (.iconst 1, 1) := by decide +kernel
theorem dX4_claim_20 : decode cX4_claim 20 = .ok (.if_icmp .lt 10, 3) := by decide +kernel
theorem dX4_claim_23 : decode cX4_claim 23 = .ok (.iload 5, 2) := by decide +kernel
theorem dX4_claim_25 : decode cX4_claim 25 = .ok (.bipush 9, 2) := by decide +kernel
theorem dX4_claim_27 : decode cX4_claim 27 = .ok (.if_icmp .le 11, 3) := by decide +kernel
theorem dX4_claim_30 : decode cX4_claim 30 = .ok (.new 67, 3) := by decide +kernel
theorem dX4_claim_33 : decode cX4_claim 33 = .ok (.dup, 1) := by decide +kernel
theorem dX4_claim_34 : decode cX4_claim 34 = .ok (.invokespecial 69, 3) := by decide +kernel
theorem dX4_claim_37 : decode cX4_claim 37 = .ok (.athrow, 1) := by decide +kernel
theorem dX4_claim_38 : decode cX4_claim 38 = .ok (.aload_n 0, 1) := by decide +kernel
theorem dX4_claim_39 : decode cX4_claim 39 = .ok (.iload_n 1, 1) := by decide +kernel
theorem dX4_claim_40 : decode cX4_claim 40 = .ok (.iload_n 2, 1) := by decide +kernel
theorem dX4_claim_41 : decode cX4_claim 41 = .ok (.iload_n 3, 1) := by decide +kernel
theorem dX4_claim_42 : decode cX4_claim 42 = .ok (.iload 4, 2) := by decide +kernel
theorem dX4_claim_44 : decode cX4_claim 44 = .ok (.ifCond .eq 7, 3) := by decide +kernel
theorem dX4_claim_47 : decode cX4_claim 47 = .ok (.iconst 1, 1) := by decide +kernel
theorem dX4_claim_48 : decode cX4_claim 48 = .ok (.goto 4, 3) := by decide +kernel
theorem dX4_claim_51 : decode cX4_claim 51 = .ok (.iconst 0, 1) := by decide +kernel
theorem dX4_claim_52 : decode cX4_claim 52 = .ok (.iload 5, 2) := by decide +kernel
theorem dX4_claim_54 : decode cX4_claim 54 = .ok (.invokevirtual 100, 3) := by decide +kernel
theorem dX4_claim_57 : decode cX4_claim 57 = .ok (.ireturn, 1) := by decide +kernel
theorem dX4_lay_0 : decode cX4_lay 0 = .ok (.aload_n 0, 1) := by decide +kernel
theorem dX4_lay_1 : decode cX4_lay 1 = .ok (.getfield 10, 3) := by decide +kernel
theorem dX4_lay_4 : decode cX4_lay 4 = .ok (.iload_n 2, 1) := by decide +kernel
theorem dX4_lay_5 : decode cX4_lay 5 = .ok (.invokevirtual 137, 3) := by decide +kernel
theorem dX4_lay_8 : decode cX4_lay 8 = .ok (.ifCond .ne 11, 3) := by decide +kernel
theorem dX4_lay_11 : decode cX4_lay 11 = .ok (.new 140, 3) := by decide +kernel
theorem dX4_lay_14 : decode cX4_lay 14 = .ok (.dup, 1) := by decide +kernel
theorem dX4_lay_15 : decode cX4_lay 15 = .ok (.invokespecial 142, 3) := by decide +kernel
theorem dX4_lay_18 : decode cX4_lay 18 = .ok (.athrow, 1) := by decide +kernel
theorem dX4_lay_19 : decode cX4_lay 19 = .ok (.iload_n 1, 1) := by decide +kernel
theorem dX4_lay_20 : decode cX4_lay 20 = .ok (.invokestatic 200, 3) := by decide +kernel
theorem dX4_lay_23 : decode cX4_lay 23 = .ok (.ifCond .ne 11, 3) := by decide +kernel
theorem dX4_lay_26 : decode cX4_lay 26 = .ok (.new 67, 3) := by decide +kernel
theorem dX4_lay_29 : decode cX4_lay 29 = .ok (.dup, 1) := by decide +kernel
theorem dX4_lay_30 : decode cX4_lay 30 = .ok (.invokespecial 69, 3) := by decide +kernel
theorem dX4_lay_33 : decode cX4_lay 33 = .ok (.athrow, 1) := by decide +kernel
theorem dX4_lay_34 : decode cX4_lay 34 = .ok (.aload_n 0, 1) := by decide +kernel
theorem dX4_lay_35 : decode cX4_lay 35 = .ok (.iload_n 1, 1) := by decide +kernel
theorem dX4_lay_36 : decode cX4_lay 36 = .ok (.iload_n 2, 1) := by decide +kernel
theorem dX4_lay_37 : decode cX4_lay 37 = .ok (.invokevirtual 97, 3) := by decide +kernel
theorem dX4_lay_40 : decode cX4_lay 40 = .ok (.ireturn, 1) := by decide +kernel
theorem dX4_pass_0 : decode cX4_pass 0 = .ok (.aload_n 0, 1) := by decide +kernel
theorem dX4_pass_1 : decode cX4_pass 1 = .ok (.invokevirtual 104, 3) := by decide +kernel
theorem dX4_pass_4 : decode cX4_pass 4 = .ok (.ireturn, 1) := by decide +kernel
theorem dX4_why_0 : decode cX4_why 0 = .ok (.aload_n 0, 1) := by decide +kernel
theorem dX4_why_1 : decode cX4_why 1 = .ok (.getfield 10, 3) := by decide +kernel
theorem dX4_why_4 : decode cX4_why 4 = .ok (.iload_n 2, 1) := by decide +kernel
theorem dX4_why_5 : decode cX4_why 5 = .ok (.invokevirtual 137, 3) := by decide +kernel
theorem dX4_why_8 : decode cX4_why 8 = .ok (.ifCond .ne 11, 3) := by decide +kernel
theorem dX4_why_11 : decode cX4_why 11 = .ok (.new 140, 3) := by decide +kernel
theorem dX4_why_14 : decode cX4_why 14 = .ok (.dup, 1) := by decide +kernel
theorem dX4_why_15 : decode cX4_why 15 = .ok (.invokespecial 142, 3) := by decide +kernel
theorem dX4_why_18 : decode cX4_why 18 = .ok (.athrow, 1) := by decide +kernel
theorem dX4_why_19 : decode cX4_why 19 = .ok (.iload_n 1, 1) := by decide +kernel
theorem dX4_why_20 : decode cX4_why 20 = .ok (.invokestatic 200, 3) := by decide +kernel
theorem dX4_why_23 : decode cX4_why 23 = .ok (.ifCond .ne 11, 3) := by decide +kernel
theorem dX4_why_26 : decode cX4_why 26 = .ok (.new 67, 3) := by decide +kernel
theorem dX4_why_29 : decode cX4_why 29 = .ok (.dup, 1) := by decide +kernel
theorem dX4_why_30 : decode cX4_why 30 = .ok (.invokespecial 69, 3) := by decide +kernel
theorem dX4_why_33 : decode cX4_why 33 = .ok (.athrow, 1) := by decide +kernel
theorem dX4_why_34 : decode cX4_why 34 = .ok (.aload_n 0, 1) := by decide +kernel
theorem dX4_why_35 : decode cX4_why 35 = .ok (.getfield 10, 3) := by decide +kernel
theorem dX4_why_38 : decode cX4_why 38 = .ok (.iload_n 1, 1) := by decide +kernel
theorem dX4_why_39 : decode cX4_why 39 = .ok (.iload_n 2, 1) := by decide +kernel
theorem dX4_why_40 : decode cX4_why 40 = .ok (.invokevirtual 203, 3) := by decide +kernel
theorem dX4_why_43 : decode cX4_why 43 = .ok (.ireturn, 1) := by decide +kernel
theorem dX4_best_0 : decode cX4_best 0 = .ok (.iconst (-1), 1) := by decide +kernel
theorem dX4_best_1 : decode cX4_best 1 = .ok (.istore_n 1, 1) := by decide +kernel
theorem dX4_best_2 : decode cX4_best 2 = .ok (.iconst 0, 1) := by decide +kernel
theorem dX4_best_3 : decode cX4_best 3 = .ok (.istore_n 2, 1) := by decide +kernel
theorem dX4_best_4 : decode cX4_best 4 = .ok (.aload_n 0, 1) := by decide +kernel
theorem dX4_best_5 : decode cX4_best 5 = .ok (.getfield 16, 3) := by decide +kernel
theorem dX4_best_8 : decode cX4_best 8 = .ok (.aload_n 0, 1) := by decide +kernel
theorem dX4_best_9 : decode cX4_best 9 = .ok (.getfield 10, 3) := by decide +kernel
theorem dX4_best_12 : decode cX4_best 12 = .ok (.invokevirtual 77, 3) := by decide +kernel
theorem dX4_best_15 : decode cX4_best 15 = .ok (.iconst 0, 1) := by decide +kernel
theorem dX4_best_16 : decode cX4_best 16 = .ok (.istore_n 3, 1) := by decide +kernel
theorem dX4_best_17 : decode cX4_best 17 = .ok (.iload_n 3, 1) := by decide +kernel
theorem dX4_best_18 : decode cX4_best 18 = .ok (.aload_n 0, 1) := by decide +kernel
theorem dX4_best_19 : decode cX4_best 19 = .ok (.getfield 10, 3) := by decide +kernel
theorem dX4_best_22 : decode cX4_best 22 = .ok (.getfield 87, 3) := by decide +kernel
theorem dX4_best_25 : decode cX4_best 25 = .ok (.iconst 0, 1) := by decide +kernel
theorem dX4_best_26 : decode cX4_best 26 = .ok (.iaload, 1) := by decide +kernel
theorem dX4_best_27 : decode cX4_best 27 = .ok (.if_icmp .ge 81, 3) := by decide +kernel
theorem dX4_best_30 : decode cX4_best 30 = .ok (.bipush (-9), 2) := by decide +kernel
theorem dX4_best_32 : decode cX4_best 32 = .ok (.istore 4, 2) := by decide +kernel
theorem dX4_best_34 : decode cX4_best 34 = .ok (.iload 4, 2) := by decide +kernel
theorem dX4_best_36 : decode cX4_best 36 = .ok (.bipush 9, 2) := by decide +kernel
theorem dX4_best_38 : decode cX4_best 38 = .ok (.if_icmp .gt 64, 3) := by decide +kernel
theorem dX4_best_41 : decode cX4_best 41 = .ok (.iload 4, 2) := by decide +kernel
theorem dX4_best_43 : decode cX4_best 43 = .ok (.ifCond .eq 53, 3) := by decide +kernel
theorem dX4_best_46 : decode cX4_best 46 = .ok (.aload_n 0, 1) := by decide +kernel
theorem dX4_best_47 : decode cX4_best 47 = .ok (.getfield 10, 3) := by decide +kernel
theorem dX4_best_50 : decode cX4_best 50 = .ok (.iload 4, 2) := by decide +kernel
theorem dX4_best_52 : decode cX4_best 52 = .ok (.iload_n 3, 1) := by decide +kernel
theorem dX4_best_53 : decode cX4_best 53 = .ok (.invokevirtual 203, 3) := by decide +kernel
theorem dX4_best_56 : decode cX4_best 56 = .ok (.ifCond .eq 6, 3) := by decide +kernel
theorem dX4_best_59 : decode cX4_best 59 = .ok (.goto 37, 3) := by decide +kernel
theorem dX4_best_62 : decode cX4_best 62 = .ok (.aload_n 0, 1) := by decide +kernel
theorem dX4_best_63 : decode cX4_best 63 = .ok (.iload 4, 2) := by decide +kernel
theorem dX4_best_65 : decode cX4_best 65 = .ok (.iload_n 3, 1) := by decide +kernel
theorem dX4_best_66 : decode cX4_best 66 = .ok (.invokevirtual 206, 3) := by decide +kernel
theorem dX4_best_69 : decode cX4_best 69 = .ok (.istore 5, 2) := by decide +kernel
theorem dX4_best_71 : decode cX4_best 71 = .ok (.iload_n 1, 1) := by decide +kernel
theorem dX4_best_72 : decode cX4_best 72 = .ok (.iconst (-1), 1) := by decide +kernel
theorem dX4_best_73 : decode cX4_best 73 = .ok (.if_icmp .eq 9, 3) := by decide +kernel
theorem dX4_best_76 : decode cX4_best 76 = .ok (.iload 5, 2) := by decide +kernel
theorem dX4_best_78 : decode cX4_best 78 = .ok (.iload_n 2, 1) := by decide +kernel
theorem dX4_best_79 : decode cX4_best 79 = .ok (.if_icmp .le 17, 3) := by decide +kernel
theorem dX4_best_82 : decode cX4_best 82 = .ok (.bipush 20, 2) := by decide +kernel
theorem dX4_best_84 : decode cX4_best 84 = .ok (.iload_n 3, 1) := by decide +kernel
theorem dX4_best_85 : decode cX4_best 85 = .ok (.imul, 1) := by decide +kernel
theorem dX4_best_86 : decode cX4_best 86 = .ok (.iload 4, 2) := by decide +kernel
theorem dX4_best_88 : decode cX4_best 88 = .ok (.iadd, 1) := by decide +kernel
theorem dX4_best_89 : decode cX4_best 89 = .ok (.bipush 10, 2) := by decide +kernel
theorem dX4_best_91 : decode cX4_best 91 = .ok (.iadd, 1) := by decide +kernel
theorem dX4_best_92 : decode cX4_best 92 = .ok (.istore_n 1, 1) := by decide +kernel
theorem dX4_best_93 : decode cX4_best 93 = .ok (.iload 5, 2) := by decide +kernel
theorem dX4_best_95 : decode cX4_best 95 = .ok (.istore_n 2, 1) := by decide +kernel
theorem dX4_best_96 : decode cX4_best 96 = .ok (.iinc 4 1, 3) := by decide +kernel
theorem dX4_best_99 : decode cX4_best 99 = .ok (.goto (-65), 3) := by decide +kernel
theorem dX4_best_102 : decode cX4_best 102 = .ok (.iinc 3 1, 3) := by decide +kernel
theorem dX4_best_105 : decode cX4_best 105 = .ok (.goto (-88), 3) := by decide +kernel
theorem dX4_best_108 : decode cX4_best 108 = .ok (.iload_n 1, 1) := by decide +kernel
theorem dX4_best_109 : decode cX4_best 109 = .ok (.ireturn, 1) := by decide +kernel
theorem dX4_behind_0 : decode cX4_behind 0 = .ok (.aload_n 0, 1) := by decide +kernel
theorem dX4_behind_1 : decode cX4_behind 1 = .ok (.getfield 10, 3) := by decide +kernel
theorem dX4_behind_4 : decode cX4_behind 4 = .ok (.iload_n 2, 1) := by decide +kernel
theorem dX4_behind_5 : decode cX4_behind 5 = .ok (.invokevirtual 137, 3) := by decide +kernel
theorem dX4_behind_8 : decode cX4_behind 8 = .ok (.ifCond .ne 11, 3) := by decide +kernel
theorem dX4_behind_11 : decode cX4_behind 11 = .ok (.new 140, 3) := by decide +kernel
theorem dX4_behind_14 : decode cX4_behind 14 = .ok (.dup, 1) := by decide +kernel
theorem dX4_behind_15 : decode cX4_behind 15 = .ok (.invokespecial 142, 3) := by decide +kernel
theorem dX4_behind_18 : decode cX4_behind 18 = .ok (.athrow, 1) := by decide +kernel
theorem dX4_behind_19 : decode cX4_behind 19 = .ok (.iload_n 1, 1) := by decide +kernel
theorem dX4_behind_20 : decode cX4_behind 20 = .ok (.invokestatic 200, 3) := by decide +kernel
theorem dX4_behind_23 : decode cX4_behind 23 = .ok (.ifCond .eq 12, 3) := by decide +kernel
theorem dX4_behind_26 : decode cX4_behind 26 = .ok (.iload_n 3, 1) := by decide +kernel
theorem dX4_behind_27 : decode cX4_behind 27 = .ok (.ifCond .lt 8, 3) := by decide +kernel
theorem dX4_behind_30 : decode cX4_behind 30 = .ok (.iload_n 3, 1) := by decide +kernel
theorem dX4_behind_31 : decode cX4_behind 31 = .ok (.iconst 3, 1) := by decide +kernel
theorem dX4_behind_32 : decode cX4_behind 32 = .ok (.if_icmp .le 11, 3) := by decide +kernel
theorem dX4_behind_35 : decode cX4_behind 35 = .ok (.new 67, 3) := by decide +kernel
theorem dX4_behind_38 : decode cX4_behind 38 = .ok (.dup, 1) := by decide +kernel
theorem dX4_behind_39 : decode cX4_behind 39 = .ok (.invokespecial 69, 3) := by decide +kernel
theorem dX4_behind_42 : decode cX4_behind 42 = .ok (.athrow, 1) := by decide +kernel
theorem dX4_behind_43 : decode cX4_behind 43 = .ok (.aload_n 0, 1) := by decide +kernel
theorem dX4_behind_44 : decode cX4_behind 44 = .ok (.getfield 10, 3) := by decide +kernel
theorem dX4_behind_47 : decode cX4_behind 47 = .ok (.iload_n 1, 1) := by decide +kernel
theorem dX4_behind_48 : decode cX4_behind 48 = .ok (.iload_n 2, 1) := by decide +kernel
theorem dX4_behind_49 : decode cX4_behind 49 = .ok (.invokevirtual 203, 3) := by decide +kernel
theorem dX4_behind_52 : decode cX4_behind 52 = .ok (.ifCond .eq 11, 3) := by decide +kernel
theorem dX4_behind_55 : decode cX4_behind 55 = .ok (.new 56, 3) := by decide +kernel
theorem dX4_behind_58 : decode cX4_behind 58 = .ok (.dup, 1) := by decide +kernel
theorem dX4_behind_59 : decode cX4_behind 59 = .ok (.invokespecial 58, 3) := by decide +kernel
theorem dX4_behind_62 : decode cX4_behind 62 = .ok (.athrow, 1) := by decide +kernel
theorem dX4_behind_63 : decode cX4_behind 63 = .ok (.aload_n 0, 1) := by decide +kernel
theorem dX4_behind_64 : decode cX4_behind 64 = .ok (.getfield 16, 3) := by decide +kernel
theorem dX4_behind_67 : decode cX4_behind 67 = .ok (.aload_n 0, 1) := by decide +kernel
theorem dX4_behind_68 : decode cX4_behind 68 = .ok (.getfield 10, 3) := by decide +kernel
theorem dX4_behind_71 : decode cX4_behind 71 = .ok (.invokevirtual 77, 3) := by decide +kernel
theorem dX4_behind_74 : decode cX4_behind 74 = .ok (.aload_n 0, 1) := by decide +kernel
theorem dX4_behind_75 : decode cX4_behind 75 = .ok (.getfield 16, 3) := by decide +kernel
theorem dX4_behind_78 : decode cX4_behind 78 = .ok (.iload_n 1, 1) := by decide +kernel
theorem dX4_behind_79 : decode cX4_behind 79 = .ok (.iload_n 2, 1) := by decide +kernel
theorem dX4_behind_80 : decode cX4_behind 80 = .ok (.aload_n 0, 1) := by decide +kernel
theorem dX4_behind_81 : decode cX4_behind 81 = .ok (.getfield 26, 3) := by decide +kernel
theorem dX4_behind_84 : decode cX4_behind 84 = .ok (.invokevirtual 209, 3) := by decide +kernel
theorem dX4_behind_87 : decode cX4_behind 87 = .ok (.aload_n 0, 1) := by decide +kernel
theorem dX4_behind_88 : decode cX4_behind 88 = .ok (.aload_n 0, 1) := by decide +kernel
theorem dX4_behind_89 : decode cX4_behind 89 = .ok (.getfield 16, 3) := by decide +kernel
theorem dX4_behind_92 : decode cX4_behind 92 = .ok (.getfield 147, 3) := by decide +kernel
theorem dX4_behind_95 : decode cX4_behind 95 = .ok (.invokevirtual 162, 3) := by decide +kernel
theorem dX4_behind_98 : decode cX4_behind 98 = .ok (.iload_n 3, 1) := by decide +kernel
theorem dX4_behind_99 : decode cX4_behind 99 = .ok (.tableswitch 59 0 2 #[25, 33, 46], 25) := by decide +kernel
theorem dX4_behind_124 : decode cX4_behind 124 = .ok (.aload_n 0, 1) := by decide +kernel
theorem dX4_behind_125 : decode cX4_behind 125 = .ok (.getfield 26, 3) := by decide +kernel
theorem dX4_behind_128 : decode cX4_behind 128 = .ok (.invokevirtual 213, 3) := by decide +kernel
theorem dX4_behind_131 : decode cX4_behind 131 = .ok (.ireturn, 1) := by decide +kernel
theorem dX4_behind_132 : decode cX4_behind 132 = .ok (.aload_n 0, 1) := by decide +kernel
theorem dX4_behind_133 : decode cX4_behind 133 = .ok (.getfield 16, 3) := by decide +kernel
theorem dX4_behind_136 : decode cX4_behind 136 = .ok (.iconst 0, 1) := by decide +kernel
theorem dX4_behind_137 : decode cX4_behind 137 = .ok (.aload_n 0, 1) := by decide +kernel
theorem dX4_behind_138 : decode cX4_behind 138 = .ok (.getfield 26, 3) := by decide +kernel
theorem dX4_behind_141 : decode cX4_behind 141 = .ok (.invokevirtual 174, 3) := by decide +kernel
theorem dX4_behind_144 : decode cX4_behind 144 = .ok (.ireturn, 1) := by decide +kernel
theorem dX4_behind_145 : decode cX4_behind 145 = .ok (.aload_n 0, 1) := by decide +kernel
theorem dX4_behind_146 : decode cX4_behind 146 = .ok (.getfield 16, 3) := by decide +kernel
theorem dX4_behind_149 : decode cX4_behind 149 = .ok (.iconst 1, 1) := by decide +kernel
theorem dX4_behind_150 : decode cX4_behind 150 = .ok (.aload_n 0, 1) := by decide +kernel
theorem dX4_behind_151 : decode cX4_behind 151 = .ok (.getfield 26, 3) := by decide +kernel
theorem dX4_behind_154 : decode cX4_behind 154 = .ok (.invokevirtual 174, 3) := by decide +kernel
theorem dX4_behind_157 : decode cX4_behind 157 = .ok (.ireturn, 1) := by decide +kernel
theorem dX4_behind_158 : decode cX4_behind 158 = .ok (.aload_n 0, 1) := by decide +kernel
theorem dX4_behind_159 : decode cX4_behind 159 = .ok (.getfield 16, 3) := by decide +kernel
theorem dX4_behind_162 : decode cX4_behind 162 = .ok (.getfield 117, 3) := by decide +kernel
theorem dX4_behind_165 : decode cX4_behind 165 = .ok (.ifCond .eq 7, 3) := by decide +kernel
theorem dX4_behind_168 : decode cX4_behind 168 = .ok (.iconst 1, 1) := by decide +kernel
theorem dX4_behind_169 : decode cX4_behind 169 = .ok (.goto 4, 3) := by decide +kernel
theorem dX4_behind_172 : decode cX4_behind 172 = .ok (.iconst 0, 1) := by decide +kernel
theorem dX4_behind_173 : decode cX4_behind 173 = .ok (.ireturn, 1) := by decide +kernel
theorem dX4_degree_0 : decode cX4_degree 0 = .ok (.iconst 4, 1) := by decide +kernel
theorem dX4_degree_1 : decode cX4_degree 1 = .ok (.istore_n 1, 1) := by decide +kernel
theorem dX4_degree_2 : decode cX4_degree 2 = .ok (.iload_n 1, 1) := by decide +kernel
theorem dX4_degree_3 : decode cX4_degree 3 = .ok (.ifCond .lt 23, 3) := by decide +kernel
theorem dX4_degree_6 : decode cX4_degree 6 = .ok (.aload_n 0, 1) := by decide +kernel
theorem dX4_degree_7 : decode cX4_degree 7 = .ok (.getfield 10, 3) := by decide +kernel
theorem dX4_degree_10 : decode cX4_degree 10 = .ok (.getfield 147, 3) := by decide +kernel
theorem dX4_degree_13 : decode cX4_degree 13 = .ok (.iload_n 1, 1) := by decide +kernel
theorem dX4_degree_14 : decode cX4_degree 14 = .ok (.iaload, 1) := by decide +kernel
theorem dX4_degree_15 : decode cX4_degree 15 = .ok (.ifCond .eq 5, 3) := by decide +kernel
theorem dX4_degree_18 : decode cX4_degree 18 = .ok (.iload_n 1, 1) := by decide +kernel
theorem dX4_degree_19 : decode cX4_degree 19 = .ok (.ireturn, 1) := by decide +kernel
theorem dX4_degree_20 : decode cX4_degree 20 = .ok (.iinc 1 (-1), 3) := by decide +kernel
theorem dX4_degree_23 : decode cX4_degree 23 = .ok (.goto (-21), 3) := by decide +kernel
theorem dX4_degree_26 : decode cX4_degree 26 = .ok (.iconst (-1), 1) := by decide +kernel
theorem dX4_degree_27 : decode cX4_degree 27 = .ok (.ireturn, 1) := by decide +kernel
theorem dX4_value_0 : decode cX4_value 0 = .ok (.iload_n 1, 1) := by decide +kernel
theorem dX4_value_1 : decode cX4_value 1 = .ok (.invokestatic 216, 3) := by decide +kernel
theorem dX4_value_4 : decode cX4_value 4 = .ok (.ifCond .ne 11, 3) := by decide +kernel
theorem dX4_value_7 : decode cX4_value 7 = .ok (.new 67, 3) := by decide +kernel
theorem dX4_value_10 : decode cX4_value 10 = .ok (.dup, 1) := by decide +kernel
theorem dX4_value_11 : decode cX4_value 11 = .ok (.invokespecial 69, 3) := by decide +kernel
theorem dX4_value_14 : decode cX4_value 14 = .ok (.athrow, 1) := by decide +kernel
theorem dX4_value_15 : decode cX4_value 15 = .ok (.aload_n 0, 1) := by decide +kernel
theorem dX4_value_16 : decode cX4_value 16 = .ok (.getfield 10, 3) := by decide +kernel
theorem dX4_value_19 : decode cX4_value 19 = .ok (.iload_n 1, 1) := by decide +kernel
theorem dX4_value_20 : decode cX4_value 20 = .ok (.invokevirtual 219, 3) := by decide +kernel
theorem dX4_value_23 : decode cX4_value 23 = .ok (.lreturn, 1) := by decide +kernel
theorem dX4_roots_0 : decode cX4_roots 0 = .ok (.iload_n 1, 1) := by decide +kernel
theorem dX4_roots_1 : decode cX4_roots 1 = .ok (.iload_n 2, 1) := by decide +kernel
theorem dX4_roots_2 : decode cX4_roots 2 = .ok (.invokestatic 196, 3) := by decide +kernel
theorem dX4_roots_5 : decode cX4_roots 5 = .ok (.ifCond .ne 11, 3) := by decide +kernel
theorem dX4_roots_8 : decode cX4_roots 8 = .ok (.new 67, 3) := by decide +kernel
theorem dX4_roots_11 : decode cX4_roots 11 = .ok (.dup, 1) := by decide +kernel
theorem dX4_roots_12 : decode cX4_roots 12 = .ok (.invokespecial 69, 3) := by decide +kernel
theorem dX4_roots_15 : decode cX4_roots 15 = .ok (.athrow, 1) := by decide +kernel
theorem dX4_roots_16 : decode cX4_roots 16 = .ok (.aload_n 0, 1) := by decide +kernel
theorem dX4_roots_17 : decode cX4_roots 17 = .ok (.aload_n 0, 1) := by decide +kernel
theorem dX4_roots_18 : decode cX4_roots 18 = .ok (.getfield 10, 3) := by decide +kernel
theorem dX4_roots_21 : decode cX4_roots 21 = .ok (.getfield 147, 3) := by decide +kernel
theorem dX4_roots_24 : decode cX4_roots 24 = .ok (.invokevirtual 162, 3) := by decide +kernel
theorem dX4_roots_27 : decode cX4_roots 27 = .ok (.aload_n 0, 1) := by decide +kernel
theorem dX4_roots_28 : decode cX4_roots 28 = .ok (.getfield 26, 3) := by decide +kernel
theorem dX4_roots_31 : decode cX4_roots 31 = .ok (.iload_n 1, 1) := by decide +kernel
theorem dX4_roots_32 : decode cX4_roots 32 = .ok (.iload_n 2, 1) := by decide +kernel
theorem dX4_roots_33 : decode cX4_roots 33 = .ok (.invokevirtual 223, 3) := by decide +kernel
theorem dX4_roots_36 : decode cX4_roots 36 = .ok (.ireturn, 1) := by decide +kernel
theorem dX4_allRoots_0 : decode cX4_allRoots 0 = .ok (.aload_n 0, 1) := by decide +kernel
theorem dX4_allRoots_1 : decode cX4_allRoots 1 = .ok (.aload_n 0, 1) := by decide +kernel
theorem dX4_allRoots_2 : decode cX4_allRoots 2 = .ok (.getfield 10, 3) := by decide +kernel
theorem dX4_allRoots_5 : decode cX4_allRoots 5 = .ok (.getfield 147, 3) := by decide +kernel
theorem dX4_allRoots_8 : decode cX4_allRoots 8 = .ok (.invokevirtual 162, 3) := by decide +kernel
theorem dX4_allRoots_11 : decode cX4_allRoots 11 = .ok (.aload_n 0, 1) := by decide +kernel
theorem dX4_allRoots_12 : decode cX4_allRoots 12 = .ok (.getfield 26, 3) := by decide +kernel
theorem dX4_allRoots_15 : decode cX4_allRoots 15 = .ok (.invokevirtual 213, 3) := by decide +kernel
theorem dX4_allRoots_18 : decode cX4_allRoots 18 = .ok (.ireturn, 1) := by decide +kernel
theorem dX4_rootsOfSign_0 : decode cX4_rootsOfSign 0 = .ok (.iload_n 1, 1) := by decide +kernel
theorem dX4_rootsOfSign_1 : decode cX4_rootsOfSign 1 = .ok (.iconst (-1), 1) := by decide +kernel
theorem dX4_rootsOfSign_2 : decode cX4_rootsOfSign 2 = .ok (.if_icmp .lt 8, 3) := by decide +kernel
theorem dX4_rootsOfSign_5 : decode cX4_rootsOfSign 5 = .ok (.iload_n 1, 1) := by decide +kernel
theorem dX4_rootsOfSign_6 : decode cX4_rootsOfSign 6 = .ok (.iconst 1, 1) := by decide +kernel
theorem dX4_rootsOfSign_7 : decode cX4_rootsOfSign 7 = .ok (.if_icmp .le 11, 3) := by decide +kernel
theorem dX4_rootsOfSign_10 : decode cX4_rootsOfSign 10 = .ok (.new 67, 3) := by decide +kernel
theorem dX4_rootsOfSign_13 : decode cX4_rootsOfSign 13 = .ok (.dup, 1) := by decide +kernel
theorem dX4_rootsOfSign_14 : decode cX4_rootsOfSign 14 = .ok (.invokespecial 69, 3) := by decide +kernel
theorem dX4_rootsOfSign_17 : decode cX4_rootsOfSign 17 = .ok (.athrow, 1) := by decide +kernel
theorem dX4_rootsOfSign_18 : decode cX4_rootsOfSign 18 = .ok (.aload_n 0, 1) := by decide +kernel
theorem dX4_rootsOfSign_19 : decode cX4_rootsOfSign 19 = .ok (.aload_n 0, 1) := by decide +kernel
theorem dX4_rootsOfSign_20 : decode cX4_rootsOfSign 20 = .ok (.getfield 10, 3) := by decide +kernel
theorem dX4_rootsOfSign_23 : decode cX4_rootsOfSign 23 = .ok (.getfield 147, 3) := by decide +kernel
theorem dX4_rootsOfSign_26 : decode cX4_rootsOfSign 26 = .ok (.invokevirtual 162, 3) := by decide +kernel
theorem dX4_rootsOfSign_29 : decode cX4_rootsOfSign 29 = .ok (.aload_n 0, 1) := by decide +kernel
theorem dX4_rootsOfSign_30 : decode cX4_rootsOfSign 30 = .ok (.getfield 26, 3) := by decide +kernel
theorem dX4_rootsOfSign_33 : decode cX4_rootsOfSign 33 = .ok (.getfield 226, 3) := by decide +kernel
theorem dX4_rootsOfSign_36 : decode cX4_rootsOfSign 36 = .ok (.ifCond .ne 5, 3) := by decide +kernel
theorem dX4_rootsOfSign_39 : decode cX4_rootsOfSign 39 = .ok (.iconst (-1), 1) := by decide +kernel
theorem dX4_rootsOfSign_40 : decode cX4_rootsOfSign 40 = .ok (.ireturn, 1) := by decide +kernel
theorem dX4_rootsOfSign_41 : decode cX4_rootsOfSign 41 = .ok (.aload_n 0, 1) := by decide +kernel
theorem dX4_rootsOfSign_42 : decode cX4_rootsOfSign 42 = .ok (.getfield 10, 3) := by decide +kernel
theorem dX4_rootsOfSign_45 : decode cX4_rootsOfSign 45 = .ok (.getfield 147, 3) := by decide +kernel
theorem dX4_rootsOfSign_48 : decode cX4_rootsOfSign 48 = .ok (.iconst 0, 1) := by decide +kernel
theorem dX4_rootsOfSign_49 : decode cX4_rootsOfSign 49 = .ok (.iaload, 1) := by decide +kernel
theorem dX4_rootsOfSign_50 : decode cX4_rootsOfSign 50 = .ok (.ifCond .ne 7, 3) := by decide +kernel
theorem dX4_rootsOfSign_53 : decode cX4_rootsOfSign 53 = .ok (.iconst 1, 1) := by decide +kernel
theorem dX4_rootsOfSign_54 : decode cX4_rootsOfSign 54 = .ok (.goto 4, 3) := by decide +kernel
theorem dX4_rootsOfSign_57 : decode cX4_rootsOfSign 57 = .ok (.iconst 0, 1) := by decide +kernel
theorem dX4_rootsOfSign_58 : decode cX4_rootsOfSign 58 = .ok (.istore_n 2, 1) := by decide +kernel
theorem dX4_rootsOfSign_59 : decode cX4_rootsOfSign 59 = .ok (.iload_n 1, 1) := by decide +kernel
theorem dX4_rootsOfSign_60 : decode cX4_rootsOfSign 60 = .ok (.ifCond .ne 5, 3) := by decide +kernel
theorem dX4_rootsOfSign_63 : decode cX4_rootsOfSign 63 = .ok (.iload_n 2, 1) := by decide +kernel
theorem dX4_rootsOfSign_64 : decode cX4_rootsOfSign 64 = .ok (.ireturn, 1) := by decide +kernel
theorem dX4_rootsOfSign_65 : decode cX4_rootsOfSign 65 = .ok (.iload_n 1, 1) := by decide +kernel
theorem dX4_rootsOfSign_66 : decode cX4_rootsOfSign 66 = .ok (.ifCond .le 14, 3) := by decide +kernel
theorem dX4_rootsOfSign_69 : decode cX4_rootsOfSign 69 = .ok (.aload_n 0, 1) := by decide +kernel
theorem dX4_rootsOfSign_70 : decode cX4_rootsOfSign 70 = .ok (.getfield 26, 3) := by decide +kernel
theorem dX4_rootsOfSign_73 : decode cX4_rootsOfSign 73 = .ok (.iconst 0, 1) := by decide +kernel
theorem dX4_rootsOfSign_74 : decode cX4_rootsOfSign 74 = .ok (.bipush 31, 2) := by decide +kernel
theorem dX4_rootsOfSign_76 : decode cX4_rootsOfSign 76 = .ok (.invokevirtual 223, 3) := by decide +kernel
theorem dX4_rootsOfSign_79 : decode cX4_rootsOfSign 79 = .ok (.ireturn, 1) := by decide +kernel
theorem dX4_rootsOfSign_80 : decode cX4_rootsOfSign 80 = .ok (.aload_n 0, 1) := by decide +kernel
theorem dX4_rootsOfSign_81 : decode cX4_rootsOfSign 81 = .ok (.getfield 26, 3) := by decide +kernel
theorem dX4_rootsOfSign_84 : decode cX4_rootsOfSign 84 = .ok (.bipush (-31), 2) := by decide +kernel
theorem dX4_rootsOfSign_86 : decode cX4_rootsOfSign 86 = .ok (.iconst 0, 1) := by decide +kernel
theorem dX4_rootsOfSign_87 : decode cX4_rootsOfSign 87 = .ok (.invokevirtual 223, 3) := by decide +kernel
theorem dX4_rootsOfSign_90 : decode cX4_rootsOfSign 90 = .ok (.iload_n 2, 1) := by decide +kernel
theorem dX4_rootsOfSign_91 : decode cX4_rootsOfSign 91 = .ok (.isub, 1) := by decide +kernel
theorem dX4_rootsOfSign_92 : decode cX4_rootsOfSign 92 = .ok (.ireturn, 1) := by decide +kernel
theorem dX4_multiplicity_0 : decode cX4_multiplicity 0 = .ok (.iload_n 1, 1) := by decide +kernel
theorem dX4_multiplicity_1 : decode cX4_multiplicity 1 = .ok (.invokestatic 216, 3) := by decide +kernel
theorem dX4_multiplicity_4 : decode cX4_multiplicity 4 = .ok (.ifCond .ne 11, 3) := by decide +kernel
theorem dX4_multiplicity_7 : decode cX4_multiplicity 7 = .ok (.new 67, 3) := by decide +kernel
theorem dX4_multiplicity_10 : decode cX4_multiplicity 10 = .ok (.dup, 1) := by decide +kernel
theorem dX4_multiplicity_11 : decode cX4_multiplicity 11 = .ok (.invokespecial 69, 3) := by decide +kernel
theorem dX4_multiplicity_14 : decode cX4_multiplicity 14 = .ok (.athrow, 1) := by decide +kernel
theorem dX4_multiplicity_15 : decode cX4_multiplicity 15 = .ok (.aload_n 0, 1) := by decide +kernel
theorem dX4_multiplicity_16 : decode cX4_multiplicity 16 = .ok (.iload_n 1, 1) := by decide +kernel
theorem dX4_multiplicity_17 : decode cX4_multiplicity 17 = .ok (.invokevirtual 229, 3) := by decide +kernel
theorem dX4_multiplicity_20 : decode cX4_multiplicity 20 = .ok (.iconst 0, 1) := by decide +kernel
theorem dX4_multiplicity_21 : decode cX4_multiplicity 21 = .ok (.istore_n 2, 1) := by decide +kernel
theorem dX4_multiplicity_22 : decode cX4_multiplicity 22 = .ok (.iload_n 2, 1) := by decide +kernel
theorem dX4_multiplicity_23 : decode cX4_multiplicity 23 = .ok (.iconst 5, 1) := by decide +kernel
theorem dX4_multiplicity_24 : decode cX4_multiplicity 24 = .ok (.if_icmp .ge 22, 3) := by decide +kernel
theorem dX4_multiplicity_27 : decode cX4_multiplicity 27 = .ok (.aload_n 0, 1) := by decide +kernel
theorem dX4_multiplicity_28 : decode cX4_multiplicity 28 = .ok (.getfield 48, 3) := by decide +kernel
theorem dX4_multiplicity_31 : decode cX4_multiplicity 31 = .ok (.iload_n 2, 1) := by decide +kernel
theorem dX4_multiplicity_32 : decode cX4_multiplicity 32 = .ok (.laload, 1) := by decide +kernel
theorem dX4_multiplicity_33 : decode cX4_multiplicity 33 = .ok (.lconst 0, 1) := by decide +kernel
theorem dX4_multiplicity_34 : decode cX4_multiplicity 34 = .ok (.lcmp, 1) := by decide +kernel
theorem dX4_multiplicity_35 : decode cX4_multiplicity 35 = .ok (.ifCond .eq 5, 3) := by decide +kernel
theorem dX4_multiplicity_38 : decode cX4_multiplicity 38 = .ok (.iload_n 2, 1) := by decide +kernel
theorem dX4_multiplicity_39 : decode cX4_multiplicity 39 = .ok (.ireturn, 1) := by decide +kernel
theorem dX4_multiplicity_40 : decode cX4_multiplicity 40 = .ok (.iinc 2 1, 3) := by decide +kernel
theorem dX4_multiplicity_43 : decode cX4_multiplicity 43 = .ok (.goto (-21), 3) := by decide +kernel
theorem dX4_multiplicity_46 : decode cX4_multiplicity 46 = .ok (.iconst (-1), 1) := by decide +kernel
theorem dX4_multiplicity_47 : decode cX4_multiplicity 47 = .ok (.ireturn, 1) := by decide +kernel
theorem dX4_near_0 : decode cX4_near 0 = .ok (.aload_n 0, 1) := by decide +kernel
theorem dX4_near_1 : decode cX4_near 1 = .ok (.aload_n 0, 1) := by decide +kernel
theorem dX4_near_2 : decode cX4_near 2 = .ok (.getfield 10, 3) := by decide +kernel
theorem dX4_near_5 : decode cX4_near 5 = .ok (.getfield 147, 3) := by decide +kernel
theorem dX4_near_8 : decode cX4_near 8 = .ok (.invokevirtual 162, 3) := by decide +kernel
theorem dX4_near_11 : decode cX4_near 11 = .ok (.iload_n 1, 1) := by decide +kernel
theorem dX4_near_12 : decode cX4_near 12 = .ok (.ifCond .lt 14, 3) := by decide +kernel
theorem dX4_near_15 : decode cX4_near 15 = .ok (.iload_n 1, 1) := by decide +kernel
theorem dX4_near_16 : decode cX4_near 16 = .ok (.aload_n 0, 1) := by decide +kernel
theorem dX4_near_17 : decode cX4_near 17 = .ok (.getfield 26, 3) := by decide +kernel
theorem dX4_near_20 : decode cX4_near 20 = .ok (.invokevirtual 213, 3) := by decide +kernel
theorem dX4_near_23 : decode cX4_near 23 = .ok (.if_icmp .lt 11, 3) := by decide +kernel
theorem dX4_near_26 : decode cX4_near 26 = .ok (.new 140, 3) := by decide +kernel
theorem dX4_near_29 : decode cX4_near 29 = .ok (.dup, 1) := by decide +kernel
theorem dX4_near_30 : decode cX4_near 30 = .ok (.invokespecial 142, 3) := by decide +kernel
theorem dX4_near_33 : decode cX4_near 33 = .ok (.athrow, 1) := by decide +kernel
theorem dX4_near_34 : decode cX4_near 34 = .ok (.iload_n 2, 1) := by decide +kernel
theorem dX4_near_35 : decode cX4_near 35 = .ok (.ifCond .lt 9, 3) := by decide +kernel
theorem dX4_near_38 : decode cX4_near 38 = .ok (.iload_n 2, 1) := by decide +kernel
theorem dX4_near_39 : decode cX4_near 39 = .ok (.bipush 6, 2) := by decide +kernel
theorem dX4_near_41 : decode cX4_near 41 = .ok (.if_icmp .le 11, 3) := by decide +kernel
theorem dX4_near_44 : decode cX4_near 44 = .ok (.new 67, 3) := by decide +kernel
theorem dX4_near_47 : decode cX4_near 47 = .ok (.dup, 1) := by decide +kernel
theorem dX4_near_48 : decode cX4_near 48 = .ok (.invokespecial 69, 3) := by decide +kernel
theorem dX4_near_51 : decode cX4_near 51 = .ok (.athrow, 1) := by decide +kernel
theorem dX4_near_52 : decode cX4_near 52 = .ok (.aload_n 0, 1) := by decide +kernel
theorem dX4_near_53 : decode cX4_near 53 = .ok (.getfield 26, 3) := by decide +kernel
theorem dX4_near_56 : decode cX4_near 56 = .ok (.iload_n 1, 1) := by decide +kernel
theorem dX4_near_57 : decode cX4_near 57 = .ok (.iload_n 2, 1) := by decide +kernel
theorem dX4_near_58 : decode cX4_near 58 = .ok (.invokevirtual 233, 3) := by decide +kernel
theorem dX4_near_61 : decode cX4_near 61 = .ok (.ireturn, 1) := by decide +kernel
theorem dX4_root_0 : decode cX4_root 0 = .ok (.aload_n 0, 1) := by decide +kernel
theorem dX4_root_1 : decode cX4_root 1 = .ok (.aload_n 0, 1) := by decide +kernel
theorem dX4_root_2 : decode cX4_root 2 = .ok (.getfield 10, 3) := by decide +kernel
theorem dX4_root_5 : decode cX4_root 5 = .ok (.getfield 147, 3) := by decide +kernel
theorem dX4_root_8 : decode cX4_root 8 = .ok (.invokevirtual 162, 3) := by decide +kernel
theorem dX4_root_11 : decode cX4_root 11 = .ok (.iload_n 1, 1) := by decide +kernel
theorem dX4_root_12 : decode cX4_root 12 = .ok (.ifCond .lt 14, 3) := by decide +kernel
theorem dX4_root_15 : decode cX4_root 15 = .ok (.iload_n 1, 1) := by decide +kernel
theorem dX4_root_16 : decode cX4_root 16 = .ok (.aload_n 0, 1) := by decide +kernel
theorem dX4_root_17 : decode cX4_root 17 = .ok (.getfield 26, 3) := by decide +kernel
theorem dX4_root_20 : decode cX4_root 20 = .ok (.invokevirtual 213, 3) := by decide +kernel
theorem dX4_root_23 : decode cX4_root 23 = .ok (.if_icmp .lt 11, 3) := by decide +kernel
theorem dX4_root_26 : decode cX4_root 26 = .ok (.new 140, 3) := by decide +kernel
theorem dX4_root_29 : decode cX4_root 29 = .ok (.dup, 1) := by decide +kernel
theorem dX4_root_30 : decode cX4_root 30 = .ok (.invokespecial 142, 3) := by decide +kernel
theorem dX4_root_33 : decode cX4_root 33 = .ok (.athrow, 1) := by decide +kernel
theorem dX4_root_34 : decode cX4_root 34 = .ok (.aload_n 0, 1) := by decide +kernel
theorem dX4_root_35 : decode cX4_root 35 = .ok (.getfield 26, 3) := by decide +kernel
theorem dX4_root_38 : decode cX4_root 38 = .ok (.iload_n 1, 1) := by decide +kernel
theorem dX4_root_39 : decode cX4_root 39 = .ok (.bipush 6, 2) := by decide +kernel
theorem dX4_root_41 : decode cX4_root 41 = .ok (.invokevirtual 233, 3) := by decide +kernel
theorem dX4_root_44 : decode cX4_root 44 = .ok (.istore_n 2, 1) := by decide +kernel
theorem dX4_root_45 : decode cX4_root 45 = .ok (.iconst 2, 1) := by decide +kernel
theorem dX4_root_46 : decode cX4_root 46 = .ok (.iload_n 2, 1) := by decide +kernel
theorem dX4_root_47 : decode cX4_root 47 = .ok (.imul, 1) := by decide +kernel
theorem dX4_root_48 : decode cX4_root 48 = .ok (.iconst 1, 1) := by decide +kernel
theorem dX4_root_49 : decode cX4_root 49 = .ok (.iadd, 1) := by decide +kernel
theorem dX4_root_50 : decode cX4_root 50 = .ok (.i2d, 1) := by decide +kernel
theorem dX4_root_51 : decode cX4_root 51 = .ok (.ldc2_w 236, 3) := by decide +kernel
theorem dX4_root_54 : decode cX4_root 54 = .ok (.ddiv, 1) := by decide +kernel
theorem dX4_root_55 : decode cX4_root 55 = .ok (.dreturn, 1) := by decide +kernel
theorem dX4_rows_0 : decode cX4_rows 0 = .ok (.aload_n 0, 1) := by decide +kernel
theorem dX4_rows_1 : decode cX4_rows 1 = .ok (.aload_n 0, 1) := by decide +kernel
theorem dX4_rows_2 : decode cX4_rows 2 = .ok (.getfield 10, 3) := by decide +kernel
theorem dX4_rows_5 : decode cX4_rows 5 = .ok (.getfield 147, 3) := by decide +kernel
theorem dX4_rows_8 : decode cX4_rows 8 = .ok (.invokevirtual 162, 3) := by decide +kernel
theorem dX4_rows_11 : decode cX4_rows 11 = .ok (.aload_n 0, 1) := by decide +kernel
theorem dX4_rows_12 : decode cX4_rows 12 = .ok (.getfield 26, 3) := by decide +kernel
theorem dX4_rows_15 : decode cX4_rows 15 = .ok (.getfield 226, 3) := by decide +kernel
theorem dX4_rows_18 : decode cX4_rows 18 = .ok (.ireturn, 1) := by decide +kernel
theorem dX4_changes_0 : decode cX4_changes 0 = .ok (.iload_n 1, 1) := by decide +kernel
theorem dX4_changes_1 : decode cX4_changes 1 = .ok (.iconst 1, 1) := by decide +kernel
theorem dX4_changes_2 : decode cX4_changes 2 = .ok (.if_icmp .lt 15, 3) := by decide +kernel
theorem dX4_changes_5 : decode cX4_changes 5 = .ok (.iload_n 1, 1) := by decide +kernel
theorem dX4_changes_6 : decode cX4_changes 6 = .ok (.iconst 2, 1) := by decide +kernel
theorem dX4_changes_7 : decode cX4_changes 7 = .ok (.if_icmp .gt 10, 3) := by decide +kernel
theorem dX4_changes_10 : decode cX4_changes 10 = .ok (.iload_n 2, 1) := by decide +kernel
theorem dX4_changes_11 : decode cX4_changes 11 = .ok (.invokestatic 216, 3) := by decide +kernel
theorem dX4_changes_14 : decode cX4_changes 14 = .ok (.ifCond .ne 11, 3) := by decide +kernel
theorem dX4_changes_17 : decode cX4_changes 17 = .ok (.new 67, 3) := by decide +kernel
theorem dX4_changes_20 : decode cX4_changes 20 = .ok (.dup, 1) := by decide +kernel
theorem dX4_changes_21 : decode cX4_changes 21 = .ok (.invokespecial 69, 3) := by decide +kernel
theorem dX4_changes_24 : decode cX4_changes 24 = .ok (.athrow, 1) := by decide +kernel
theorem dX4_changes_25 : decode cX4_changes 25 = .ok (.iload_n 1, 1) := by decide +kernel
theorem dX4_changes_26 : decode cX4_changes 26 = .ok (.iconst 2, 1) := by decide +kernel
theorem dX4_changes_27 : decode cX4_changes 27 = .ok (.if_icmp .ne 9, 3) := by decide +kernel
theorem dX4_changes_30 : decode cX4_changes 30 = .ok (.aload_n 0, 1) := by decide +kernel
theorem dX4_changes_31 : decode cX4_changes 31 = .ok (.iload_n 2, 1) := by decide +kernel
theorem dX4_changes_32 : decode cX4_changes 32 = .ok (.invokevirtual 244, 3) := by decide +kernel
theorem dX4_changes_35 : decode cX4_changes 35 = .ok (.ireturn, 1) := by decide +kernel
theorem dX4_changes_36 : decode cX4_changes 36 = .ok (.aload_n 0, 1) := by decide +kernel
theorem dX4_changes_37 : decode cX4_changes 37 = .ok (.aload_n 0, 1) := by decide +kernel
theorem dX4_changes_38 : decode cX4_changes 38 = .ok (.getfield 10, 3) := by decide +kernel
theorem dX4_changes_41 : decode cX4_changes 41 = .ok (.getfield 147, 3) := by decide +kernel
theorem dX4_changes_44 : decode cX4_changes 44 = .ok (.invokevirtual 162, 3) := by decide +kernel
theorem dX4_changes_47 : decode cX4_changes 47 = .ok (.aload_n 0, 1) := by decide +kernel
theorem dX4_changes_48 : decode cX4_changes 48 = .ok (.getfield 26, 3) := by decide +kernel
theorem dX4_changes_51 : decode cX4_changes 51 = .ok (.iload_n 2, 1) := by decide +kernel
theorem dX4_changes_52 : decode cX4_changes 52 = .ok (.invokevirtual 247, 3) := by decide +kernel
theorem dX4_changes_55 : decode cX4_changes 55 = .ok (.ireturn, 1) := by decide +kernel
theorem dX4_surplus_0 : decode cX4_surplus 0 = .ok (.iload_n 1, 1) := by decide +kernel
theorem dX4_surplus_1 : decode cX4_surplus 1 = .ok (.iload_n 2, 1) := by decide +kernel
theorem dX4_surplus_2 : decode cX4_surplus 2 = .ok (.invokestatic 196, 3) := by decide +kernel
theorem dX4_surplus_5 : decode cX4_surplus 5 = .ok (.ifCond .ne 11, 3) := by decide +kernel
theorem dX4_surplus_8 : decode cX4_surplus 8 = .ok (.new 67, 3) := by decide +kernel
theorem dX4_surplus_11 : decode cX4_surplus 11 = .ok (.dup, 1) := by decide +kernel
theorem dX4_surplus_12 : decode cX4_surplus 12 = .ok (.invokespecial 69, 3) := by decide +kernel
theorem dX4_surplus_15 : decode cX4_surplus 15 = .ok (.athrow, 1) := by decide +kernel
theorem dX4_surplus_16 : decode cX4_surplus 16 = .ok (.aload_n 0, 1) := by decide +kernel
theorem dX4_surplus_17 : decode cX4_surplus 17 = .ok (.aload_n 0, 1) := by decide +kernel
theorem dX4_surplus_18 : decode cX4_surplus 18 = .ok (.getfield 10, 3) := by decide +kernel
theorem dX4_surplus_21 : decode cX4_surplus 21 = .ok (.getfield 147, 3) := by decide +kernel
theorem dX4_surplus_24 : decode cX4_surplus 24 = .ok (.invokevirtual 162, 3) := by decide +kernel
theorem dX4_surplus_27 : decode cX4_surplus 27 = .ok (.aload_n 0, 1) := by decide +kernel
theorem dX4_surplus_28 : decode cX4_surplus 28 = .ok (.getfield 26, 3) := by decide +kernel
theorem dX4_surplus_31 : decode cX4_surplus 31 = .ok (.getfield 226, 3) := by decide +kernel
theorem dX4_surplus_34 : decode cX4_surplus 34 = .ok (.ifCond .ne 5, 3) := by decide +kernel
theorem dX4_surplus_37 : decode cX4_surplus 37 = .ok (.iconst (-1), 1) := by decide +kernel
theorem dX4_surplus_38 : decode cX4_surplus 38 = .ok (.ireturn, 1) := by decide +kernel
theorem dX4_surplus_39 : decode cX4_surplus 39 = .ok (.aload_n 0, 1) := by decide +kernel
theorem dX4_surplus_40 : decode cX4_surplus 40 = .ok (.iload_n 1, 1) := by decide +kernel
theorem dX4_surplus_41 : decode cX4_surplus 41 = .ok (.invokevirtual 244, 3) := by decide +kernel
theorem dX4_surplus_44 : decode cX4_surplus 44 = .ok (.aload_n 0, 1) := by decide +kernel
theorem dX4_surplus_45 : decode cX4_surplus 45 = .ok (.iload_n 2, 1) := by decide +kernel
theorem dX4_surplus_46 : decode cX4_surplus 46 = .ok (.invokevirtual 244, 3) := by decide +kernel
theorem dX4_surplus_49 : decode cX4_surplus 49 = .ok (.isub, 1) := by decide +kernel
theorem dX4_surplus_50 : decode cX4_surplus 50 = .ok (.aload_n 0, 1) := by decide +kernel
theorem dX4_surplus_51 : decode cX4_surplus 51 = .ok (.getfield 26, 3) := by decide +kernel
theorem dX4_surplus_54 : decode cX4_surplus 54 = .ok (.iload_n 1, 1) := by decide +kernel
theorem dX4_surplus_55 : decode cX4_surplus 55 = .ok (.iload_n 2, 1) := by decide +kernel
theorem dX4_surplus_56 : decode cX4_surplus 56 = .ok (.invokevirtual 250, 3) := by decide +kernel
theorem dX4_surplus_59 : decode cX4_surplus 59 = .ok (.isub, 1) := by decide +kernel
theorem dX4_surplus_60 : decode cX4_surplus 60 = .ok (.ireturn, 1) := by decide +kernel
theorem dX4_writeTurns_0 : decode cX4_writeTurns 0 = .ok (.aload_n 0, 1) := by decide +kernel
theorem dX4_writeTurns_1 : decode cX4_writeTurns 1 = .ok (.getfield 40, 3) := by decide +kernel
theorem dX4_writeTurns_4 : decode cX4_writeTurns 4 = .ok (.invokevirtual 253, 3) := by decide +kernel
theorem dX4_writeTurns_7 : decode cX4_writeTurns 7 = .ok (.iconst 0, 1) := by decide +kernel
theorem dX4_writeTurns_8 : decode cX4_writeTurns 8 = .ok (.istore_n 1, 1) := by decide +kernel
theorem dX4_writeTurns_9 : decode cX4_writeTurns 9 = .ok (.iload_n 1, 1) := by decide +kernel
theorem dX4_writeTurns_10 : decode cX4_writeTurns 10 = .ok (.aload_n 0, 1) := by decide +kernel
theorem dX4_writeTurns_11 : decode cX4_writeTurns 11 = .ok (.getfield 10, 3) := by decide +kernel
theorem dX4_writeTurns_14 : decode cX4_writeTurns 14 = .ok (.getfield 114, 3) := by decide +kernel
theorem dX4_writeTurns_17 : decode cX4_writeTurns 17 = .ok (.if_icmp .ge 52, 3) := by decide +kernel
theorem dX4_writeTurns_20 : decode cX4_writeTurns 20 = .ok (.iload_n 1, 1) := by decide +kernel
theorem dX4_writeTurns_21 : decode cX4_writeTurns 21 = .ok (.bipush 60, 2) := by decide +kernel
theorem dX4_writeTurns_23 : decode cX4_writeTurns 23 = .ok (.if_icmp .ge 46, 3) := by decide +kernel
theorem dX4_writeTurns_26 : decode cX4_writeTurns 26 = .ok (.aload_n 0, 1) := by decide +kernel
theorem dX4_writeTurns_27 : decode cX4_writeTurns 27 = .ok (.getfield 40, 3) := by decide +kernel
theorem dX4_writeTurns_30 : decode cX4_writeTurns 30 = .ok (.aload_n 0, 1) := by decide +kernel
theorem dX4_writeTurns_31 : decode cX4_writeTurns 31 = .ok (.getfield 10, 3) := by decide +kernel
theorem dX4_writeTurns_34 : decode cX4_writeTurns 34 = .ok (.iload_n 1, 1) := by decide +kernel
theorem dX4_writeTurns_35 : decode cX4_writeTurns 35 = .ok (.invokevirtual 258, 3) := by decide +kernel
theorem dX4_writeTurns_38 : decode cX4_writeTurns 38 = .ok (.aload_n 0, 1) := by decide +kernel
theorem dX4_writeTurns_39 : decode cX4_writeTurns 39 = .ok (.getfield 40, 3) := by decide +kernel
theorem dX4_writeTurns_42 : decode cX4_writeTurns 42 = .ok (.aload_n 0, 1) := by decide +kernel
theorem dX4_writeTurns_43 : decode cX4_writeTurns 43 = .ok (.getfield 10, 3) := by decide +kernel
theorem dX4_writeTurns_46 : decode cX4_writeTurns 46 = .ok (.getfield 262, 3) := by decide +kernel
theorem dX4_writeTurns_49 : decode cX4_writeTurns 49 = .ok (.iload_n 1, 1) := by decide +kernel
theorem dX4_writeTurns_50 : decode cX4_writeTurns 50 = .ok (.iaload, 1) := by decide +kernel
theorem dX4_writeTurns_51 : decode cX4_writeTurns 51 = .ok (.aload_n 0, 1) := by decide +kernel
theorem dX4_writeTurns_52 : decode cX4_writeTurns 52 = .ok (.getfield 10, 3) := by decide +kernel
theorem dX4_writeTurns_55 : decode cX4_writeTurns 55 = .ok (.getfield 265, 3) := by decide +kernel
theorem dX4_writeTurns_58 : decode cX4_writeTurns 58 = .ok (.iload_n 1, 1) := by decide +kernel
theorem dX4_writeTurns_59 : decode cX4_writeTurns 59 = .ok (.iaload, 1) := by decide +kernel
theorem dX4_writeTurns_60 : decode cX4_writeTurns 60 = .ok (.invokevirtual 268, 3) := by decide +kernel
theorem dX4_writeTurns_63 : decode cX4_writeTurns 63 = .ok (.iinc 1 1, 3) := by decide +kernel
theorem dX4_writeTurns_66 : decode cX4_writeTurns 66 = .ok (.goto (-57), 3) := by decide +kernel
theorem dX4_writeTurns_69 : decode cX4_writeTurns 69 = .ok (.aload_n 0, 1) := by decide +kernel
theorem dX4_writeTurns_70 : decode cX4_writeTurns 70 = .ok (.getfield 40, 3) := by decide +kernel
theorem dX4_writeTurns_73 : decode cX4_writeTurns 73 = .ok (.aload_n 0, 1) := by decide +kernel
theorem dX4_writeTurns_74 : decode cX4_writeTurns 74 = .ok (.getfield 10, 3) := by decide +kernel
theorem dX4_writeTurns_77 : decode cX4_writeTurns 77 = .ok (.aload_n 0, 1) := by decide +kernel
theorem dX4_writeTurns_78 : decode cX4_writeTurns 78 = .ok (.getfield 10, 3) := by decide +kernel
theorem dX4_writeTurns_81 : decode cX4_writeTurns 81 = .ok (.getfield 114, 3) := by decide +kernel
theorem dX4_writeTurns_84 : decode cX4_writeTurns 84 = .ok (.invokevirtual 258, 3) := by decide +kernel
theorem dX4_writeTurns_87 : decode cX4_writeTurns 87 = .ok (.aload_n 0, 1) := by decide +kernel
theorem dX4_writeTurns_88 : decode cX4_writeTurns 88 = .ok (.getfield 40, 3) := by decide +kernel
theorem dX4_writeTurns_91 : decode cX4_writeTurns 91 = .ok (.getfield 257, 3) := by decide +kernel
theorem dX4_writeTurns_94 : decode cX4_writeTurns 94 = .ok (.ireturn, 1) := by decide +kernel
theorem dX4_output_0 : decode cX4_output 0 = .ok (.iload_n 1, 1) := by decide +kernel
theorem dX4_output_1 : decode cX4_output 1 = .ok (.ifCond .lt 38, 3) := by decide +kernel
theorem dX4_output_4 : decode cX4_output 4 = .ok (.iload_n 1, 1) := by decide +kernel
theorem dX4_output_5 : decode cX4_output 5 = .ok (.aload_n 0, 1) := by decide +kernel
theorem dX4_output_6 : decode cX4_output 6 = .ok (.getfield 40, 3) := by decide +kernel
theorem dX4_output_9 : decode cX4_output 9 = .ok (.getfield 257, 3) := by decide +kernel
theorem dX4_output_12 : decode cX4_output 12 = .ok (.if_icmp .ge 27, 3) := by decide +kernel
theorem dX4_output_15 : decode cX4_output 15 = .ok (.iload_n 1, 1) := by decide +kernel
theorem dX4_output_16 : decode cX4_output 16 = .ok (.aload_n 0, 1) := by decide +kernel
theorem dX4_output_17 : decode cX4_output 17 = .ok (.getfield 40, 3) := by decide +kernel
theorem dX4_output_20 : decode cX4_output 20 = .ok (.getfield 272, 3) := by decide +kernel
theorem dX4_output_23 : decode cX4_output 23 = .ok (.arraylength, 1) := by decide +kernel
theorem dX4_output_24 : decode cX4_output 24 = .ok (.if_icmp .ge 15, 3) := by decide +kernel
theorem dX4_output_27 : decode cX4_output 27 = .ok (.aload_n 0, 1) := by decide +kernel
theorem dX4_output_28 : decode cX4_output 28 = .ok (.getfield 40, 3) := by decide +kernel
theorem dX4_output_31 : decode cX4_output 31 = .ok (.getfield 272, 3) := by decide +kernel
theorem dX4_output_34 : decode cX4_output 34 = .ok (.iload_n 1, 1) := by decide +kernel
theorem dX4_output_35 : decode cX4_output 35 = .ok (.baload, 1) := by decide +kernel
theorem dX4_output_36 : decode cX4_output 36 = .ok (.goto 4, 3) := by decide +kernel
theorem dX4_output_39 : decode cX4_output 39 = .ok (.iconst (-1), 1) := by decide +kernel
theorem dX4_output_40 : decode cX4_output 40 = .ok (.ireturn, 1) := by decide +kernel
theorem dX4_isPlayer_0 : decode cX4_isPlayer 0 = .ok (.iload_n 0, 1) := by decide +kernel
theorem dX4_isPlayer_1 : decode cX4_isPlayer 1 = .ok (.ifCond .eq 8, 3) := by decide +kernel
theorem dX4_isPlayer_4 : decode cX4_isPlayer 4 = .ok (.iload_n 0, 1) := by decide +kernel
theorem dX4_isPlayer_5 : decode cX4_isPlayer 5 = .ok (.iconst 1, 1) := by decide +kernel
theorem dX4_isPlayer_6 : decode cX4_isPlayer 6 = .ok (.if_icmp .ne 7, 3) := by decide +kernel
theorem dX4_isPlayer_9 : decode cX4_isPlayer 9 = .ok (.iconst 1, 1) := by decide +kernel
theorem dX4_isPlayer_10 : decode cX4_isPlayer 10 = .ok (.goto 4, 3) := by decide +kernel
theorem dX4_isPlayer_13 : decode cX4_isPlayer 13 = .ok (.iconst 0, 1) := by decide +kernel
theorem dX4_isPlayer_14 : decode cX4_isPlayer 14 = .ok (.ireturn, 1) := by decide +kernel
theorem dX4_isPlace_0 : decode cX4_isPlace 0 = .ok (.iload_n 0, 1) := by decide +kernel
theorem dX4_isPlace_1 : decode cX4_isPlace 1 = .ok (.bipush (-20), 2) := by decide +kernel
theorem dX4_isPlace_3 : decode cX4_isPlace 3 = .ok (.if_icmp .lt 13, 3) := by decide +kernel
theorem dX4_isPlace_6 : decode cX4_isPlace 6 = .ok (.iload_n 0, 1) := by decide +kernel
theorem dX4_isPlace_7 : decode cX4_isPlace 7 = .ok (.bipush 20, 2) := by decide +kernel
theorem dX4_isPlace_9 : decode cX4_isPlace 9 = .ok (.if_icmp .gt 7, 3) := by decide +kernel
theorem dX4_isPlace_12 : decode cX4_isPlace 12 = .ok (.iconst 1, 1) := by decide +kernel
theorem dX4_isPlace_13 : decode cX4_isPlace 13 = .ok (.goto 4, 3) := by decide +kernel
theorem dX4_isPlace_16 : decode cX4_isPlace 16 = .ok (.iconst 0, 1) := by decide +kernel
theorem dX4_isPlace_17 : decode cX4_isPlace 17 = .ok (.ireturn, 1) := by decide +kernel
theorem dX4_isInterval_0 : decode cX4_isInterval 0 = .ok (.iload_n 0, 1) := by decide +kernel
theorem dX4_isInterval_1 : decode cX4_isInterval 1 = .ok (.invokestatic 216, 3) := by decide +kernel
theorem dX4_isInterval_4 : decode cX4_isInterval 4 = .ok (.ifCond .eq 19, 3) := by decide +kernel
theorem dX4_isInterval_7 : decode cX4_isInterval 7 = .ok (.iload_n 1, 1) := by decide +kernel
theorem dX4_isInterval_8 : decode cX4_isInterval 8 = .ok (.invokestatic 216, 3) := by decide +kernel
theorem dX4_isInterval_11 : decode cX4_isInterval 11 = .ok (.ifCond .eq 12, 3) := by decide +kernel
theorem dX4_isInterval_14 : decode cX4_isInterval 14 = .ok (.iload_n 0, 1) := by decide +kernel
theorem dX4_isInterval_15 : decode cX4_isInterval 15 = .ok (.iload_n 1, 1) := by decide +kernel
theorem dX4_isInterval_16 : decode cX4_isInterval 16 = .ok (.if_icmp .ge 7, 3) := by decide +kernel
theorem dX4_isInterval_19 : decode cX4_isInterval 19 = .ok (.iconst 1, 1) := by decide +kernel
theorem dX4_isInterval_20 : decode cX4_isInterval 20 = .ok (.goto 4, 3) := by decide +kernel
theorem dX4_isInterval_23 : decode cX4_isInterval 23 = .ok (.iconst 0, 1) := by decide +kernel
theorem dX4_isInterval_24 : decode cX4_isInterval 24 = .ok (.ireturn, 1) := by decide +kernel
theorem dX4_isLayable_0 : decode cX4_isLayable 0 = .ok (.iload_n 0, 1) := by decide +kernel
theorem dX4_isLayable_1 : decode cX4_isLayable 1 = .ok (.ifCond .eq 19, 3) := by decide +kernel
theorem dX4_isLayable_4 : decode cX4_isLayable 4 = .ok (.iload_n 0, 1) := by decide +kernel
theorem dX4_isLayable_5 : decode cX4_isLayable 5 = .ok (.bipush (-9), 2) := by decide +kernel
theorem dX4_isLayable_7 : decode cX4_isLayable 7 = .ok (.if_icmp .lt 13, 3) := by decide +kernel
theorem dX4_isLayable_10 : decode cX4_isLayable 10 = .ok (.iload_n 0, 1) := by decide +kernel
theorem dX4_isLayable_11 : decode cX4_isLayable 11 = .ok (.bipush 9, 2) := by decide +kernel
theorem dX4_isLayable_13 : decode cX4_isLayable 13 = .ok (.if_icmp .gt 7, 3) := by decide +kernel
theorem dX4_isLayable_16 : decode cX4_isLayable 16 = .ok (.iconst 1, 1) := by decide +kernel
theorem dX4_isLayable_17 : decode cX4_isLayable 17 = .ok (.goto 4, 3) := by decide +kernel
theorem dX4_isLayable_20 : decode cX4_isLayable 20 = .ok (.iconst 0, 1) := by decide +kernel
theorem dX4_isLayable_21 : decode cX4_isLayable 21 = .ok (.ireturn, 1) := by decide +kernel
theorem dX4_buildRows_0 : decode cX4_buildRows 0 = .ok (.aload_n 0, 1) := by decide +kernel
theorem dX4_buildRows_1 : decode cX4_buildRows 1 = .ok (.getfield 26, 3) := by decide +kernel
theorem dX4_buildRows_4 : decode cX4_buildRows 4 = .ok (.aload_n 1, 1) := by decide +kernel
theorem dX4_buildRows_5 : decode cX4_buildRows 5 = .ok (.invokevirtual 279, 3) := by decide +kernel
theorem dX4_buildRows_8 : decode cX4_buildRows 8 = .ok (.aload_n 0, 1) := by decide +kernel
theorem dX4_buildRows_9 : decode cX4_buildRows 9 = .ok (.getfield 26, 3) := by decide +kernel
theorem dX4_buildRows_12 : decode cX4_buildRows 12 = .ok (.invokevirtual 282, 3) := by decide +kernel
theorem dX4_buildRows_15 : decode cX4_buildRows 15 = .ok (.return_, 1) := by decide +kernel
theorem dX4_makeClaim_0 : decode cX4_makeClaim 0 = .ok (.aload_n 0, 1) := by decide +kernel
theorem dX4_makeClaim_1 : decode cX4_makeClaim 1 = .ok (.getfield 10, 3) := by decide +kernel
theorem dX4_makeClaim_4 : decode cX4_makeClaim 4 = .ok (.iload_n 1, 1) := by decide +kernel
theorem dX4_makeClaim_5 : decode cX4_makeClaim 5 = .ok (.iload_n 2, 1) := by decide +kernel
theorem dX4_makeClaim_6 : decode cX4_makeClaim 6 = .ok (.iload 5, 2) := by decide +kernel
theorem dX4_makeClaim_8 : decode cX4_makeClaim 8 = .ok (.invokevirtual 285, 3) := by decide +kernel
theorem dX4_makeClaim_11 : decode cX4_makeClaim 11 = .ok (.istore 6, 2) := by decide +kernel
theorem dX4_makeClaim_13 : decode cX4_makeClaim 13 = .ok (.iload 6, 2) := by decide +kernel
theorem dX4_makeClaim_15 : decode cX4_makeClaim 15 = .ok (.ifCond .ne 17, 3) := by decide +kernel
theorem dX4_makeClaim_18 : decode cX4_makeClaim 18 = .ok (.aload_n 0, 1) := by decide +kernel
theorem dX4_makeClaim_19 : decode cX4_makeClaim 19 = .ok (.getfield 10, 3) := by decide +kernel
theorem dX4_makeClaim_22 : decode cX4_makeClaim 22 = .ok (.iload_n 1, 1) := by decide +kernel
theorem dX4_makeClaim_23 : decode cX4_makeClaim 23 = .ok (.iload_n 2, 1) := by decide +kernel
theorem dX4_makeClaim_24 : decode cX4_makeClaim 24 = .ok (.iload_n 3, 1) := by decide +kernel
theorem dX4_makeClaim_25 : decode cX4_makeClaim 25 = .ok (.iload 4, 2) := by decide +kernel
theorem dX4_makeClaim_27 : decode cX4_makeClaim 27 = .ok (.iload 5, 2) := by decide +kernel
theorem dX4_makeClaim_29 : decode cX4_makeClaim 29 = .ok (.invokevirtual 288, 3) := by decide +kernel
theorem dX4_makeClaim_32 : decode cX4_makeClaim 32 = .ok (.aload_n 0, 1) := by decide +kernel
theorem dX4_makeClaim_33 : decode cX4_makeClaim 33 = .ok (.iload 6, 2) := by decide +kernel
theorem dX4_makeClaim_35 : decode cX4_makeClaim 35 = .ok (.invokevirtual 292, 3) := by decide +kernel
theorem dX4_makeClaim_38 : decode cX4_makeClaim 38 = .ok (.ireturn, 1) := by decide +kernel
theorem dX4_layTerm_0 : decode cX4_layTerm 0 = .ok (.aload_n 0, 1) := by decide +kernel
theorem dX4_layTerm_1 : decode cX4_layTerm 1 = .ok (.getfield 10, 3) := by decide +kernel
theorem dX4_layTerm_4 : decode cX4_layTerm 4 = .ok (.iload_n 1, 1) := by decide +kernel
theorem dX4_layTerm_5 : decode cX4_layTerm 5 = .ok (.iload_n 2, 1) := by decide +kernel
theorem dX4_layTerm_6 : decode cX4_layTerm 6 = .ok (.invokevirtual 203, 3) := by decide +kernel
theorem dX4_layTerm_9 : decode cX4_layTerm 9 = .ok (.istore_n 3, 1) := by decide +kernel
theorem dX4_layTerm_10 : decode cX4_layTerm 10 = .ok (.iload_n 3, 1) := by decide +kernel
theorem dX4_layTerm_11 : decode cX4_layTerm 11 = .ok (.ifCond .ne 16, 3) := by decide +kernel
theorem dX4_layTerm_14 : decode cX4_layTerm 14 = .ok (.aload_n 0, 1) := by decide +kernel
theorem dX4_layTerm_15 : decode cX4_layTerm 15 = .ok (.getfield 10, 3) := by decide +kernel
theorem dX4_layTerm_18 : decode cX4_layTerm 18 = .ok (.iload_n 1, 1) := by decide +kernel
theorem dX4_layTerm_19 : decode cX4_layTerm 19 = .ok (.iload_n 2, 1) := by decide +kernel
theorem dX4_layTerm_20 : decode cX4_layTerm 20 = .ok (.aload_n 0, 1) := by decide +kernel
theorem dX4_layTerm_21 : decode cX4_layTerm 21 = .ok (.getfield 26, 3) := by decide +kernel
theorem dX4_layTerm_24 : decode cX4_layTerm 24 = .ok (.invokevirtual 209, 3) := by decide +kernel
theorem dX4_layTerm_27 : decode cX4_layTerm 27 = .ok (.aload_n 0, 1) := by decide +kernel
theorem dX4_layTerm_28 : decode cX4_layTerm 28 = .ok (.iload_n 3, 1) := by decide +kernel
theorem dX4_layTerm_29 : decode cX4_layTerm 29 = .ok (.invokevirtual 292, 3) := by decide +kernel
theorem dX4_layTerm_32 : decode cX4_layTerm 32 = .ok (.ireturn, 1) := by decide +kernel
theorem dX4_passTurn_0 : decode cX4_passTurn 0 = .ok (.aload_n 0, 1) := by decide +kernel
theorem dX4_passTurn_1 : decode cX4_passTurn 1 = .ok (.getfield 10, 3) := by decide +kernel
theorem dX4_passTurn_4 : decode cX4_passTurn 4 = .ok (.getfield 117, 3) := by decide +kernel
theorem dX4_passTurn_7 : decode cX4_passTurn 7 = .ok (.ifCond .eq 7, 3) := by decide +kernel
theorem dX4_passTurn_10 : decode cX4_passTurn 10 = .ok (.iconst 1, 1) := by decide +kernel
theorem dX4_passTurn_11 : decode cX4_passTurn 11 = .ok (.goto 4, 3) := by decide +kernel
theorem dX4_passTurn_14 : decode cX4_passTurn 14 = .ok (.iconst 0, 1) := by decide +kernel
theorem dX4_passTurn_15 : decode cX4_passTurn 15 = .ok (.istore_n 1, 1) := by decide +kernel
theorem dX4_passTurn_16 : decode cX4_passTurn 16 = .ok (.iload_n 1, 1) := by decide +kernel
theorem dX4_passTurn_17 : decode cX4_passTurn 17 = .ok (.ifCond .ne 16, 3) := by decide +kernel
theorem dX4_passTurn_20 : decode cX4_passTurn 20 = .ok (.aload_n 0, 1) := by decide +kernel
theorem dX4_passTurn_21 : decode cX4_passTurn 21 = .ok (.getfield 10, 3) := by decide +kernel
theorem dX4_passTurn_24 : decode cX4_passTurn 24 = .ok (.iconst 0, 1) := by decide +kernel
theorem dX4_passTurn_25 : decode cX4_passTurn 25 = .ok (.iconst 0, 1) := by decide +kernel
theorem dX4_passTurn_26 : decode cX4_passTurn 26 = .ok (.aload_n 0, 1) := by decide +kernel
theorem dX4_passTurn_27 : decode cX4_passTurn 27 = .ok (.getfield 26, 3) := by decide +kernel
theorem dX4_passTurn_30 : decode cX4_passTurn 30 = .ok (.invokevirtual 209, 3) := by decide +kernel
theorem dX4_passTurn_33 : decode cX4_passTurn 33 = .ok (.aload_n 0, 1) := by decide +kernel
theorem dX4_passTurn_34 : decode cX4_passTurn 34 = .ok (.iload_n 1, 1) := by decide +kernel
theorem dX4_passTurn_35 : decode cX4_passTurn 35 = .ok (.invokevirtual 292, 3) := by decide +kernel
theorem dX4_passTurn_38 : decode cX4_passTurn 38 = .ok (.ireturn, 1) := by decide +kernel
theorem dX4_settle_0 : decode cX4_settle 0 = .ok (.iload_n 1, 1) := by decide +kernel
theorem dX4_settle_1 : decode cX4_settle 1 = .ok (.ifCond .lt 19, 3) := by decide +kernel
theorem dX4_settle_4 : decode cX4_settle 4 = .ok (.iload_n 1, 1) := by decide +kernel
theorem dX4_settle_5 : decode cX4_settle 5 = .ok (.bipush 8, 2) := by decide +kernel
theorem dX4_settle_7 : decode cX4_settle 7 = .ok (.if_icmp .gt 13, 3) := by decide +kernel
theorem dX4_settle_10 : decode cX4_settle 10 = .ok (.aload_n 0, 1) := by decide +kernel
theorem dX4_settle_11 : decode cX4_settle 11 = .ok (.getfield 44, 3) := by decide +kernel
theorem dX4_settle_14 : decode cX4_settle 14 = .ok (.iload_n 1, 1) := by decide +kernel
theorem dX4_settle_15 : decode cX4_settle 15 = .ok (.dup2, 1) := by decide +kernel
theorem dX4_settle_16 : decode cX4_settle 16 = .ok (.iaload, 1) := by decide +kernel
theorem dX4_settle_17 : decode cX4_settle 17 = .ok (.iconst 1, 1) := by decide +kernel
theorem dX4_settle_18 : decode cX4_settle 18 = .ok (.iadd, 1) := by decide +kernel
theorem dX4_settle_19 : decode cX4_settle 19 = .ok (.iastore, 1) := by decide +kernel
theorem dX4_settle_20 : decode cX4_settle 20 = .ok (.iload_n 1, 1) := by decide +kernel
theorem dX4_settle_21 : decode cX4_settle 21 = .ok (.ifCond .ne 22, 3) := by decide +kernel
theorem dX4_settle_24 : decode cX4_settle 24 = .ok (.aload_n 0, 1) := by decide +kernel
theorem dX4_settle_25 : decode cX4_settle 25 = .ok (.getfield 81, 3) := by decide +kernel
theorem dX4_settle_28 : decode cX4_settle 28 = .ok (.bipush 12, 2) := by decide +kernel
theorem dX4_settle_30 : decode cX4_settle 30 = .ok (.if_icmp .ge 13, 3) := by decide +kernel
theorem dX4_settle_33 : decode cX4_settle 33 = .ok (.aload_n 0, 1) := by decide +kernel
theorem dX4_settle_34 : decode cX4_settle 34 = .ok (.dup, 1) := by decide +kernel
theorem dX4_settle_35 : decode cX4_settle 35 = .ok (.getfield 81, 3) := by decide +kernel
theorem dX4_settle_38 : decode cX4_settle 38 = .ok (.iconst 1, 1) := by decide +kernel
theorem dX4_settle_39 : decode cX4_settle 39 = .ok (.iadd, 1) := by decide +kernel
theorem dX4_settle_40 : decode cX4_settle 40 = .ok (.putfield 81, 3) := by decide +kernel
theorem dX4_settle_43 : decode cX4_settle 43 = .ok (.iload_n 1, 1) := by decide +kernel
theorem dX4_settle_44 : decode cX4_settle 44 = .ok (.ireturn, 1) := by decide +kernel
theorem dX4_leadBehind_0 : decode cX4_leadBehind 0 = .ok (.aload_n 0, 1) := by decide +kernel
theorem dX4_leadBehind_1 : decode cX4_leadBehind 1 = .ok (.getfield 10, 3) := by decide +kernel
theorem dX4_leadBehind_4 : decode cX4_leadBehind 4 = .ok (.iload_n 2, 1) := by decide +kernel
theorem dX4_leadBehind_5 : decode cX4_leadBehind 5 = .ok (.invokevirtual 137, 3) := by decide +kernel
theorem dX4_leadBehind_8 : decode cX4_leadBehind 8 = .ok (.ifCond .ne 5, 3) := by decide +kernel
theorem dX4_leadBehind_11 : decode cX4_leadBehind 11 = .ok (.iconst 0, 1) := by decide +kernel
theorem dX4_leadBehind_12 : decode cX4_leadBehind 12 = .ok (.ireturn, 1) := by decide +kernel
theorem dX4_leadBehind_13 : decode cX4_leadBehind 13 = .ok (.aload_n 0, 1) := by decide +kernel
theorem dX4_leadBehind_14 : decode cX4_leadBehind 14 = .ok (.getfield 10, 3) := by decide +kernel
theorem dX4_leadBehind_17 : decode cX4_leadBehind 17 = .ok (.invokevirtual 121, 3) := by decide +kernel
theorem dX4_leadBehind_20 : decode cX4_leadBehind 20 = .ok (.istore_n 3, 1) := by decide +kernel
theorem dX4_leadBehind_21 : decode cX4_leadBehind 21 = .ok (.aload_n 0, 1) := by decide +kernel
theorem dX4_leadBehind_22 : decode cX4_leadBehind 22 = .ok (.getfield 16, 3) := by decide +kernel
theorem dX4_leadBehind_25 : decode cX4_leadBehind 25 = .ok (.getfield 147, 3) := by decide +kernel
theorem dX4_leadBehind_28 : decode cX4_leadBehind 28 = .ok (.iload_n 2, 1) := by decide +kernel
theorem dX4_leadBehind_29 : decode cX4_leadBehind 29 = .ok (.aload_n 0, 1) := by decide +kernel
theorem dX4_leadBehind_30 : decode cX4_leadBehind 30 = .ok (.getfield 10, 3) := by decide +kernel
theorem dX4_leadBehind_33 : decode cX4_leadBehind 33 = .ok (.getfield 147, 3) := by decide +kernel
theorem dX4_leadBehind_36 : decode cX4_leadBehind 36 = .ok (.iload_n 2, 1) := by decide +kernel
theorem dX4_leadBehind_37 : decode cX4_leadBehind 37 = .ok (.iaload, 1) := by decide +kernel
theorem dX4_leadBehind_38 : decode cX4_leadBehind 38 = .ok (.iload_n 1, 1) := by decide +kernel
theorem dX4_leadBehind_39 : decode cX4_leadBehind 39 = .ok (.iadd, 1) := by decide +kernel
theorem dX4_leadBehind_40 : decode cX4_leadBehind 40 = .ok (.iastore, 1) := by decide +kernel
theorem dX4_leadBehind_41 : decode cX4_leadBehind 41 = .ok (.aload_n 0, 1) := by decide +kernel
theorem dX4_leadBehind_42 : decode cX4_leadBehind 42 = .ok (.aload_n 0, 1) := by decide +kernel
theorem dX4_leadBehind_43 : decode cX4_leadBehind 43 = .ok (.getfield 16, 3) := by decide +kernel
theorem dX4_leadBehind_46 : decode cX4_leadBehind 46 = .ok (.getfield 147, 3) := by decide +kernel
theorem dX4_leadBehind_49 : decode cX4_leadBehind 49 = .ok (.invokevirtual 162, 3) := by decide +kernel
theorem dX4_leadBehind_52 : decode cX4_leadBehind 52 = .ok (.aload_n 0, 1) := by decide +kernel
theorem dX4_leadBehind_53 : decode cX4_leadBehind 53 = .ok (.getfield 16, 3) := by decide +kernel
theorem dX4_leadBehind_56 : decode cX4_leadBehind 56 = .ok (.aload_n 0, 1) := by decide +kernel
theorem dX4_leadBehind_57 : decode cX4_leadBehind 57 = .ok (.getfield 16, 3) := by decide +kernel
theorem dX4_leadBehind_60 : decode cX4_leadBehind 60 = .ok (.aload_n 0, 1) := by decide +kernel
theorem dX4_leadBehind_61 : decode cX4_leadBehind 61 = .ok (.getfield 26, 3) := by decide +kernel
theorem dX4_leadBehind_64 : decode cX4_leadBehind 64 = .ok (.invokevirtual 295, 3) := by decide +kernel
theorem dX4_leadBehind_67 : decode cX4_leadBehind 67 = .ok (.ifCond .eq 7, 3) := by decide +kernel
theorem dX4_leadBehind_70 : decode cX4_leadBehind 70 = .ok (.iload_n 3, 1) := by decide +kernel
theorem dX4_leadBehind_71 : decode cX4_leadBehind 71 = .ok (.goto 4, 3) := by decide +kernel
theorem dX4_leadBehind_74 : decode cX4_leadBehind 74 = .ok (.iconst (-1), 1) := by decide +kernel
theorem dX4_leadBehind_75 : decode cX4_leadBehind 75 = .ok (.putfield 134, 3) := by decide +kernel
theorem dX4_leadBehind_78 : decode cX4_leadBehind 78 = .ok (.aload_n 0, 1) := by decide +kernel
theorem dX4_leadBehind_79 : decode cX4_leadBehind 79 = .ok (.getfield 16, 3) := by decide +kernel
theorem dX4_leadBehind_82 : decode cX4_leadBehind 82 = .ok (.iload_n 3, 1) := by decide +kernel
theorem dX4_leadBehind_83 : decode cX4_leadBehind 83 = .ok (.aload_n 0, 1) := by decide +kernel
theorem dX4_leadBehind_84 : decode cX4_leadBehind 84 = .ok (.getfield 26, 3) := by decide +kernel
theorem dX4_leadBehind_87 : decode cX4_leadBehind 87 = .ok (.invokevirtual 174, 3) := by decide +kernel
theorem dX4_leadBehind_90 : decode cX4_leadBehind 90 = .ok (.aload_n 0, 1) := by decide +kernel
theorem dX4_leadBehind_91 : decode cX4_leadBehind 91 = .ok (.getfield 16, 3) := by decide +kernel
theorem dX4_leadBehind_94 : decode cX4_leadBehind 94 = .ok (.iconst 1, 1) := by decide +kernel
theorem dX4_leadBehind_95 : decode cX4_leadBehind 95 = .ok (.iload_n 3, 1) := by decide +kernel
theorem dX4_leadBehind_96 : decode cX4_leadBehind 96 = .ok (.isub, 1) := by decide +kernel
theorem dX4_leadBehind_97 : decode cX4_leadBehind 97 = .ok (.aload_n 0, 1) := by decide +kernel
theorem dX4_leadBehind_98 : decode cX4_leadBehind 98 = .ok (.getfield 26, 3) := by decide +kernel
theorem dX4_leadBehind_101 : decode cX4_leadBehind 101 = .ok (.invokevirtual 174, 3) := by decide +kernel
theorem dX4_leadBehind_104 : decode cX4_leadBehind 104 = .ok (.isub, 1) := by decide +kernel
theorem dX4_leadBehind_105 : decode cX4_leadBehind 105 = .ok (.istore 4, 2) := by decide +kernel
theorem dX4_leadBehind_107 : decode cX4_leadBehind 107 = .ok (.aload_n 0, 1) := by decide +kernel
theorem dX4_leadBehind_108 : decode cX4_leadBehind 108 = .ok (.getfield 16, 3) := by decide +kernel
theorem dX4_leadBehind_111 : decode cX4_leadBehind 111 = .ok (.getfield 147, 3) := by decide +kernel
theorem dX4_leadBehind_114 : decode cX4_leadBehind 114 = .ok (.iload_n 2, 1) := by decide +kernel
theorem dX4_leadBehind_115 : decode cX4_leadBehind 115 = .ok (.aload_n 0, 1) := by decide +kernel
theorem dX4_leadBehind_116 : decode cX4_leadBehind 116 = .ok (.getfield 10, 3) := by decide +kernel
theorem dX4_leadBehind_119 : decode cX4_leadBehind 119 = .ok (.getfield 147, 3) := by decide +kernel
theorem dX4_leadBehind_122 : decode cX4_leadBehind 122 = .ok (.iload_n 2, 1) := by decide +kernel
theorem dX4_leadBehind_123 : decode cX4_leadBehind 123 = .ok (.iaload, 1) := by decide +kernel
theorem dX4_leadBehind_124 : decode cX4_leadBehind 124 = .ok (.iastore, 1) := by decide +kernel
theorem dX4_leadBehind_125 : decode cX4_leadBehind 125 = .ok (.iload 4, 2) := by decide +kernel
theorem dX4_leadBehind_127 : decode cX4_leadBehind 127 = .ok (.ireturn, 1) := by decide +kernel
theorem dX4_shiftTo_0 : decode cX4_shiftTo 0 = .ok (.iconst 0, 1) := by decide +kernel
theorem dX4_shiftTo_1 : decode cX4_shiftTo 1 = .ok (.istore_n 2, 1) := by decide +kernel
theorem dX4_shiftTo_2 : decode cX4_shiftTo 2 = .ok (.iload_n 2, 1) := by decide +kernel
theorem dX4_shiftTo_3 : decode cX4_shiftTo 3 = .ok (.iconst 5, 1) := by decide +kernel
theorem dX4_shiftTo_4 : decode cX4_shiftTo 4 = .ok (.if_icmp .ge 25, 3) := by decide +kernel
theorem dX4_shiftTo_7 : decode cX4_shiftTo 7 = .ok (.aload_n 0, 1) := by decide +kernel
theorem dX4_shiftTo_8 : decode cX4_shiftTo 8 = .ok (.getfield 48, 3) := by decide +kernel
theorem dX4_shiftTo_11 : decode cX4_shiftTo 11 = .ok (.iload_n 2, 1) := by decide +kernel
theorem dX4_shiftTo_12 : decode cX4_shiftTo 12 = .ok (.aload_n 0, 1) := by decide +kernel
theorem dX4_shiftTo_13 : decode cX4_shiftTo 13 = .ok (.getfield 10, 3) := by decide +kernel
theorem dX4_shiftTo_16 : decode cX4_shiftTo 16 = .ok (.getfield 147, 3) := by decide +kernel
theorem dX4_shiftTo_19 : decode cX4_shiftTo 19 = .ok (.iload_n 2, 1) := by decide +kernel
theorem dX4_shiftTo_20 : decode cX4_shiftTo 20 = .ok (.iaload, 1) := by decide +kernel
theorem dX4_shiftTo_21 : decode cX4_shiftTo 21 = .ok (.i2l, 1) := by decide +kernel
theorem dX4_shiftTo_22 : decode cX4_shiftTo 22 = .ok (.lastore, 1) := by decide +kernel
theorem dX4_shiftTo_23 : decode cX4_shiftTo 23 = .ok (.iinc 2 1, 3) := by decide +kernel
theorem dX4_shiftTo_26 : decode cX4_shiftTo 26 = .ok (.goto (-24), 3) := by decide +kernel
theorem dX4_shiftTo_29 : decode cX4_shiftTo 29 = .ok (.iconst 0, 1) := by decide +kernel
theorem dX4_shiftTo_30 : decode cX4_shiftTo 30 = .ok (.istore_n 2, 1) := by decide +kernel
theorem dX4_shiftTo_31 : decode cX4_shiftTo 31 = .ok (.iload_n 2, 1) := by decide +kernel
theorem dX4_shiftTo_32 : decode cX4_shiftTo 32 = .ok (.iconst 5, 1) := by decide +kernel
theorem dX4_shiftTo_33 : decode cX4_shiftTo 33 = .ok (.if_icmp .ge 42, 3) := by decide +kernel
theorem dX4_shiftTo_36 : decode cX4_shiftTo 36 = .ok (.iconst 3, 1) := by decide +kernel
theorem dX4_shiftTo_37 : decode cX4_shiftTo 37 = .ok (.istore_n 3, 1) := by decide +kernel
theorem dX4_shiftTo_38 : decode cX4_shiftTo 38 = .ok (.iload_n 3, 1) := by decide +kernel
theorem dX4_shiftTo_39 : decode cX4_shiftTo 39 = .ok (.iload_n 2, 1) := by decide +kernel
theorem dX4_shiftTo_40 : decode cX4_shiftTo 40 = .ok (.if_icmp .lt 29, 3) := by decide +kernel
theorem dX4_shiftTo_43 : decode cX4_shiftTo 43 = .ok (.aload_n 0, 1) := by decide +kernel
theorem dX4_shiftTo_44 : decode cX4_shiftTo 44 = .ok (.getfield 48, 3) := by decide +kernel
theorem dX4_shiftTo_47 : decode cX4_shiftTo 47 = .ok (.iload_n 3, 1) := by decide +kernel
theorem dX4_shiftTo_48 : decode cX4_shiftTo 48 = .ok (.dup2, 1) := by decide +kernel
theorem dX4_shiftTo_49 : decode cX4_shiftTo 49 = .ok (.laload, 1) := by decide +kernel
theorem dX4_shiftTo_50 : decode cX4_shiftTo 50 = .ok (.iload_n 1, 1) := by decide +kernel
theorem dX4_shiftTo_51 : decode cX4_shiftTo 51 = .ok (.i2l, 1) := by decide +kernel
theorem dX4_shiftTo_52 : decode cX4_shiftTo 52 = .ok (.aload_n 0, 1) := by decide +kernel
theorem dX4_shiftTo_53 : decode cX4_shiftTo 53 = .ok (.getfield 48, 3) := by decide +kernel
theorem dX4_shiftTo_56 : decode cX4_shiftTo 56 = .ok (.iload_n 3, 1) := by decide +kernel
theorem dX4_shiftTo_57 : decode cX4_shiftTo 57 = .ok (.iconst 1, 1) := by decide +kernel
theorem dX4_shiftTo_58 : decode cX4_shiftTo 58 = .ok (.iadd, 1) := by decide +kernel
theorem dX4_shiftTo_59 : decode cX4_shiftTo 59 = .ok (.laload, 1) := by decide +kernel
theorem dX4_shiftTo_60 : decode cX4_shiftTo 60 = .ok (.lmul, 1) := by decide +kernel
theorem dX4_shiftTo_61 : decode cX4_shiftTo 61 = .ok (.ladd, 1) := by decide +kernel
theorem dX4_shiftTo_62 : decode cX4_shiftTo 62 = .ok (.lastore, 1) := by decide +kernel
theorem dX4_shiftTo_63 : decode cX4_shiftTo 63 = .ok (.iinc 3 (-1), 3) := by decide +kernel
theorem dX4_shiftTo_66 : decode cX4_shiftTo 66 = .ok (.goto (-28), 3) := by decide +kernel
theorem dX4_shiftTo_69 : decode cX4_shiftTo 69 = .ok (.iinc 2 1, 3) := by decide +kernel
theorem dX4_shiftTo_72 : decode cX4_shiftTo 72 = .ok (.goto (-41), 3) := by decide +kernel
theorem dX4_shiftTo_75 : decode cX4_shiftTo 75 = .ok (.return_, 1) := by decide +kernel
theorem dX4_derivativeChanges_0 : decode cX4_derivativeChanges 0 = .ok (.aload_n 0, 1) := by decide +kernel
theorem dX4_derivativeChanges_1 : decode cX4_derivativeChanges 1 = .ok (.iload_n 1, 1) := by decide +kernel
theorem dX4_derivativeChanges_2 : decode cX4_derivativeChanges 2 = .ok (.invokevirtual 229, 3) := by decide +kernel
theorem dX4_derivativeChanges_5 : decode cX4_derivativeChanges 5 = .ok (.iconst 0, 1) := by decide +kernel
theorem dX4_derivativeChanges_6 : decode cX4_derivativeChanges 6 = .ok (.istore_n 2, 1) := by decide +kernel
theorem dX4_derivativeChanges_7 : decode cX4_derivativeChanges 7 = .ok (.iconst 0, 1) := by decide +kernel
theorem dX4_derivativeChanges_8 : decode cX4_derivativeChanges 8 = .ok (.istore_n 3, 1) := by decide +kernel
theorem dX4_derivativeChanges_9 : decode cX4_derivativeChanges 9 = .ok (.iconst 0, 1) := by decide +kernel
theorem dX4_derivativeChanges_10 : decode cX4_derivativeChanges 10 = .ok (.istore 4, 2) := by decide +kernel
theorem dX4_derivativeChanges_12 : decode cX4_derivativeChanges 12 = .ok (.iload 4, 2) := by decide +kernel
theorem dX4_derivativeChanges_14 : decode cX4_derivativeChanges 14 = .ok (.iconst 5, 1) := by decide +kernel
theorem dX4_derivativeChanges_15 : decode cX4_derivativeChanges 15 = .ok (.if_icmp .ge 40, 3) := by decide +kernel
theorem dX4_derivativeChanges_18 : decode cX4_derivativeChanges 18 = .ok (.aload_n 0, 1) := by decide +kernel
theorem dX4_derivativeChanges_19 : decode cX4_derivativeChanges 19 = .ok (.getfield 48, 3) := by decide +kernel
theorem dX4_derivativeChanges_22 : decode cX4_derivativeChanges 22 = .ok (.iload 4, 2) := by decide +kernel
theorem dX4_derivativeChanges_24 : decode cX4_derivativeChanges 24 = .ok (.laload, 1) := by decide +kernel
theorem dX4_derivativeChanges_25 : decode cX4_derivativeChanges 25 = .ok (.lconst 0, 1) := by decide +kernel
theorem dX4_derivativeChanges_26 : decode cX4_derivativeChanges 26 = .ok (.invokestatic 299, 3) := by decide +kernel
theorem dX4_derivativeChanges_29 : decode cX4_derivativeChanges 29 = .ok (.istore 5, 2) := by decide +kernel
theorem dX4_derivativeChanges_31 : decode cX4_derivativeChanges 31 = .ok (.iload 5, 2) := by decide +kernel
theorem dX4_derivativeChanges_33 : decode cX4_derivativeChanges 33 = .ok (.ifCond .eq 16, 3) := by decide +kernel
theorem dX4_derivativeChanges_36 : decode cX4_derivativeChanges 36 = .ok (.iload_n 3, 1) := by decide +kernel
theorem dX4_derivativeChanges_37 : decode cX4_derivativeChanges 37 = .ok (.iload 5, 2) := by decide +kernel
theorem dX4_derivativeChanges_39 : decode cX4_derivativeChanges 39 = .ok (.ineg, 1) := by decide +kernel
theorem dX4_derivativeChanges_40 : decode cX4_derivativeChanges 40 = .ok (.if_icmp .ne 6, 3) := by decide +kernel
theorem dX4_derivativeChanges_43 : decode cX4_derivativeChanges 43 = .ok (.iinc 2 1, 3) := by decide +kernel
theorem dX4_derivativeChanges_46 : decode cX4_derivativeChanges 46 = .ok (.iload 5, 2) := by decide +kernel
theorem dX4_derivativeChanges_48 : decode cX4_derivativeChanges 48 = .ok (.istore_n 3, 1) := by decide +kernel
theorem dX4_derivativeChanges_49 : decode cX4_derivativeChanges 49 = .ok (.iinc 4 1, 3) := by decide +kernel
theorem dX4_derivativeChanges_52 : decode cX4_derivativeChanges 52 = .ok (.goto (-40), 3) := by decide +kernel
theorem dX4_derivativeChanges_55 : decode cX4_derivativeChanges 55 = .ok (.iload_n 2, 1) := by decide +kernel
theorem dX4_derivativeChanges_56 : decode cX4_derivativeChanges 56 = .ok (.ireturn, 1) := by decide +kernel
theorem dX5_init_0 : decode cX5_init 0 = .ok (.aload_n 0, 1) := by decide +kernel
theorem dX5_init_1 : decode cX5_init 1 = .ok (.invokespecial 1, 3) := by decide +kernel
theorem dX5_init_4 : decode cX5_init 4 = .ok (.aload_n 0, 1) := by decide +kernel
theorem dX5_init_5 : decode cX5_init 5 = .ok (.iload_n 1, 1) := by decide +kernel
theorem dX5_init_6 : decode cX5_init 6 = .ok (.putfield 7, 3) := by decide +kernel
theorem dX5_init_9 : decode cX5_init 9 = .ok (.aload_n 0, 1) := by decide +kernel
theorem dX5_init_10 : decode cX5_init 10 = .ok (.iload_n 2, 1) := by decide +kernel
theorem dX5_init_11 : decode cX5_init 11 = .ok (.putfield 13, 3) := by decide +kernel
theorem dX5_init_14 : decode cX5_init 14 = .ok (.aload_n 0, 1) := by decide +kernel
theorem dX5_init_15 : decode cX5_init 15 = .ok (.iload_n 3, 1) := by decide +kernel
theorem dX5_init_16 : decode cX5_init 16 = .ok (.putfield 16, 3) := by decide +kernel
theorem dX5_init_19 : decode cX5_init 19 = .ok (.aload_n 0, 1) := by decide +kernel
theorem dX5_init_20 : decode cX5_init 20 = .ok (.iload 4, 2) := by decide +kernel
theorem dX5_init_22 : decode cX5_init 22 = .ok (.putfield 19, 3) := by decide +kernel
theorem dX5_init_25 : decode cX5_init 25 = .ok (.aload_n 0, 1) := by decide +kernel
theorem dX5_init_26 : decode cX5_init 26 = .ok (.iload 5, 2) := by decide +kernel
theorem dX5_init_28 : decode cX5_init 28 = .ok (.putfield 23, 3) := by decide +kernel
theorem dX5_init_31 : decode cX5_init 31 = .ok (.return_, 1) := by decide +kernel
theorem dX6_init_0 : decode cX6_init 0 = .ok (.aload_n 0, 1) := by decide +kernel
theorem dX6_init_1 : decode cX6_init 1 = .ok (.invokespecial 1, 3) := by decide +kernel
theorem dX6_init_4 : decode cX6_init 4 = .ok (.aload_n 0, 1) := by decide +kernel
theorem dX6_init_5 : decode cX6_init 5 = .ok (.new 7, 3) := by decide +kernel
theorem dX6_init_8 : decode cX6_init 8 = .ok (.dup, 1) := by decide +kernel
theorem dX6_init_9 : decode cX6_init 9 = .ok (.invokespecial 9, 3) := by decide +kernel
theorem dX6_init_12 : decode cX6_init 12 = .ok (.putfield 10, 3) := by decide +kernel
theorem dX6_init_15 : decode cX6_init 15 = .ok (.aload_n 0, 1) := by decide +kernel
theorem dX6_init_16 : decode cX6_init 16 = .ok (.iconst (-1), 1) := by decide +kernel
theorem dX6_init_17 : decode cX6_init 17 = .ok (.putfield 16, 3) := by decide +kernel
theorem dX6_init_20 : decode cX6_init 20 = .ok (.aload_n 0, 1) := by decide +kernel
theorem dX6_init_21 : decode cX6_init 21 = .ok (.aload_n 1, 1) := by decide +kernel
theorem dX6_init_22 : decode cX6_init 22 = .ok (.iconst 0, 1) := by decide +kernel
theorem dX6_init_23 : decode cX6_init 23 = .ok (.iaload, 1) := by decide +kernel
theorem dX6_init_24 : decode cX6_init 24 = .ok (.newarray .int, 2) := by decide +kernel
theorem dX6_init_26 : decode cX6_init 26 = .ok (.putfield 20, 3) := by decide +kernel
theorem dX6_init_29 : decode cX6_init 29 = .ok (.aload_n 0, 1) := by decide +kernel
theorem dX6_init_30 : decode cX6_init 30 = .ok (.aload_n 1, 1) := by decide +kernel
theorem dX6_init_31 : decode cX6_init 31 = .ok (.iconst 0, 1) := by decide +kernel
theorem dX6_init_32 : decode cX6_init 32 = .ok (.iaload, 1) := by decide +kernel
theorem dX6_init_33 : decode cX6_init 33 = .ok (.newarray .int, 2) := by decide +kernel
theorem dX6_init_35 : decode cX6_init 35 = .ok (.putfield 24, 3) := by decide +kernel
theorem dX6_init_38 : decode cX6_init 38 = .ok (.iconst 0, 1) := by decide +kernel
theorem dX6_init_39 : decode cX6_init 39 = .ok (.istore_n 2, 1) := by decide +kernel
theorem dX6_init_40 : decode cX6_init 40 = .ok (.iload_n 2, 1) := by decide +kernel
theorem dX6_init_41 : decode cX6_init 41 = .ok (.aload_n 1, 1) := by decide +kernel
theorem dX6_init_42 : decode cX6_init 42 = .ok (.iconst 0, 1) := by decide +kernel
theorem dX6_init_43 : decode cX6_init 43 = .ok (.iaload, 1) := by decide +kernel
theorem dX6_init_44 : decode cX6_init 44 = .ok (.if_icmp .ge 17, 3) := by decide +kernel
theorem dX6_init_47 : decode cX6_init 47 = .ok (.aload_n 0, 1) := by decide +kernel
theorem dX6_init_48 : decode cX6_init 48 = .ok (.getfield 24, 3) := by decide +kernel
theorem dX6_init_51 : decode cX6_init 51 = .ok (.iload_n 2, 1) := by decide +kernel
theorem dX6_init_52 : decode cX6_init 52 = .ok (.bipush (-100), 2) := by decide +kernel
theorem dX6_init_54 : decode cX6_init 54 = .ok (.iastore, 1) := by decide +kernel
theorem dX6_init_55 : decode cX6_init 55 = .ok (.iinc 2 1, 3) := by decide +kernel
theorem dX6_init_58 : decode cX6_init 58 = .ok (.goto (-18), 3) := by decide +kernel
theorem dX6_init_61 : decode cX6_init 61 = .ok (.aload_n 0, 1) := by decide +kernel
theorem dX6_init_62 : decode cX6_init 62 = .ok (.aload_n 1, 1) := by decide +kernel
theorem dX6_init_63 : decode cX6_init 63 = .ok (.iconst 1, 1) := by decide +kernel
theorem dX6_init_64 : decode cX6_init 64 = .ok (.iaload, 1) := by decide +kernel
theorem dX6_init_65 : decode cX6_init 65 = .ok (.putfield 27, 3) := by decide +kernel
theorem dX6_init_68 : decode cX6_init 68 = .ok (.aload_n 0, 1) := by decide +kernel
theorem dX6_init_69 : decode cX6_init 69 = .ok (.aload_n 1, 1) := by decide +kernel
theorem dX6_init_70 : decode cX6_init 70 = .ok (.iconst 2, 1) := by decide +kernel
theorem dX6_init_71 : decode cX6_init 71 = .ok (.iaload, 1) := by decide +kernel
theorem dX6_init_72 : decode cX6_init 72 = .ok (.putfield 30, 3) := by decide +kernel
theorem dX6_init_75 : decode cX6_init 75 = .ok (.aload_n 0, 1) := by decide +kernel
theorem dX6_init_76 : decode cX6_init 76 = .ok (.aload_n 1, 1) := by decide +kernel
theorem dX6_init_77 : decode cX6_init 77 = .ok (.iconst 3, 1) := by decide +kernel
theorem dX6_init_78 : decode cX6_init 78 = .ok (.iaload, 1) := by decide +kernel
theorem dX6_init_79 : decode cX6_init 79 = .ok (.putfield 33, 3) := by decide +kernel
theorem dX6_init_82 : decode cX6_init 82 = .ok (.aload_n 0, 1) := by decide +kernel
theorem dX6_init_83 : decode cX6_init 83 = .ok (.aload_n 1, 1) := by decide +kernel
theorem dX6_init_84 : decode cX6_init 84 = .ok (.iconst 4, 1) := by decide +kernel
theorem dX6_init_85 : decode cX6_init 85 = .ok (.iaload, 1) := by decide +kernel
theorem dX6_init_86 : decode cX6_init 86 = .ok (.putfield 36, 3) := by decide +kernel
theorem dX6_init_89 : decode cX6_init 89 = .ok (.aload_n 0, 1) := by decide +kernel
theorem dX6_init_90 : decode cX6_init 90 = .ok (.aload_n 1, 1) := by decide +kernel
theorem dX6_init_91 : decode cX6_init 91 = .ok (.iconst 5, 1) := by decide +kernel
theorem dX6_init_92 : decode cX6_init 92 = .ok (.iaload, 1) := by decide +kernel
theorem dX6_init_93 : decode cX6_init 93 = .ok (.putfield 39, 3) := by decide +kernel
theorem dX6_init_96 : decode cX6_init 96 = .ok (.aload_n 0, 1) := by decide +kernel
theorem dX6_init_97 : decode cX6_init 97 = .ok (.aload_n 1, 1) := by decide +kernel
theorem dX6_init_98 : decode cX6_init 98 = .ok (.bipush 6, 2) := by decide +kernel
theorem dX6_init_100 : decode cX6_init 100 = .ok (.iaload, 1) := by decide +kernel
theorem dX6_init_101 : decode cX6_init 101 = .ok (.putfield 42, 3) := by decide +kernel
theorem dX6_init_104 : decode cX6_init 104 = .ok (.aload_n 0, 1) := by decide +kernel
theorem dX6_init_105 : decode cX6_init 105 = .ok (.getfield 10, 3) := by decide +kernel
theorem dX6_init_108 : decode cX6_init 108 = .ok (.new 7, 3) := by decide +kernel
theorem dX6_init_111 : decode cX6_init 111 = .ok (.dup, 1) := by decide +kernel
theorem dX6_init_112 : decode cX6_init 112 = .ok (.invokespecial 9, 3) := by decide +kernel
theorem dX6_init_115 : decode cX6_init 115 = .ok (.invokevirtual 45, 3) := by decide +kernel
theorem dX6_init_118 : decode cX6_init 118 = .ok (.pop, 1) := by decide +kernel
theorem dX6_init_119 : decode cX6_init 119 = .ok (.aload_n 0, 1) := by decide +kernel
theorem dX6_init_120 : decode cX6_init 120 = .ok (.getfield 10, 3) := by decide +kernel
theorem dX6_init_123 : decode cX6_init 123 = .ok (.new 7, 3) := by decide +kernel
theorem dX6_init_126 : decode cX6_init 126 = .ok (.dup, 1) := by decide +kernel
theorem dX6_init_127 : decode cX6_init 127 = .ok (.invokespecial 9, 3) := by decide +kernel
theorem dX6_init_130 : decode cX6_init 130 = .ok (.invokevirtual 45, 3) := by decide +kernel
theorem dX6_init_133 : decode cX6_init 133 = .ok (.pop, 1) := by decide +kernel
theorem dX6_init_134 : decode cX6_init 134 = .ok (.return_, 1) := by decide +kernel
theorem dX6_whose_0 : decode cX6_whose 0 = .ok (.aload_n 0, 1) := by decide +kernel
theorem dX6_whose_1 : decode cX6_whose 1 = .ok (.getfield 49, 3) := by decide +kernel
theorem dX6_whose_4 : decode cX6_whose 4 = .ok (.iconst 2, 1) := by decide +kernel
theorem dX6_whose_5 : decode cX6_whose 5 = .ok (.irem, 1) := by decide +kernel
theorem dX6_whose_6 : decode cX6_whose 6 = .ok (.ireturn, 1) := by decide +kernel
theorem dX6_isBarred_0 : decode cX6_isBarred 0 = .ok (.aload_n 0, 1) := by decide +kernel
theorem dX6_isBarred_1 : decode cX6_isBarred 1 = .ok (.getfield 24, 3) := by decide +kernel
theorem dX6_isBarred_4 : decode cX6_isBarred 4 = .ok (.iload_n 1, 1) := by decide +kernel
theorem dX6_isBarred_5 : decode cX6_isBarred 5 = .ok (.iaload, 1) := by decide +kernel
theorem dX6_isBarred_6 : decode cX6_isBarred 6 = .ok (.ifCond .lt 32, 3) := by decide +kernel
theorem dX6_isBarred_9 : decode cX6_isBarred 9 = .ok (.aload_n 0, 1) := by decide +kernel
theorem dX6_isBarred_10 : decode cX6_isBarred 10 = .ok (.getfield 27, 3) := by decide +kernel
theorem dX6_isBarred_13 : decode cX6_isBarred 13 = .ok (.ifCond .eq 21, 3) := by decide +kernel
theorem dX6_isBarred_16 : decode cX6_isBarred 16 = .ok (.aload_n 0, 1) := by decide +kernel
theorem dX6_isBarred_17 : decode cX6_isBarred 17 = .ok (.getfield 49, 3) := by decide +kernel
theorem dX6_isBarred_20 : decode cX6_isBarred 20 = .ok (.aload_n 0, 1) := by decide +kernel
theorem dX6_isBarred_21 : decode cX6_isBarred 21 = .ok (.getfield 24, 3) := by decide +kernel
theorem dX6_isBarred_24 : decode cX6_isBarred 24 = .ok (.iload_n 1, 1) := by decide +kernel
theorem dX6_isBarred_25 : decode cX6_isBarred 25 = .ok (.iaload, 1) := by decide +kernel
theorem dX6_isBarred_26 : decode cX6_isBarred 26 = .ok (.isub, 1) := by decide +kernel
theorem dX6_isBarred_27 : decode cX6_isBarred 27 = .ok (.aload_n 0, 1) := by decide +kernel
theorem dX6_isBarred_28 : decode cX6_isBarred 28 = .ok (.getfield 27, 3) := by decide +kernel
theorem dX6_isBarred_31 : decode cX6_isBarred 31 = .ok (.if_icmp .gt 7, 3) := by decide +kernel
theorem dX6_isBarred_34 : decode cX6_isBarred 34 = .ok (.iconst 1, 1) := by decide +kernel
theorem dX6_isBarred_35 : decode cX6_isBarred 35 = .ok (.goto 4, 3) := by decide +kernel
theorem dX6_isBarred_38 : decode cX6_isBarred 38 = .ok (.iconst 0, 1) := by decide +kernel
theorem dX6_isBarred_39 : decode cX6_isBarred 39 = .ok (.ireturn, 1) := by decide +kernel
theorem dX6_isZero_0 : decode cX6_isZero 0 = .ok (.iconst 0, 1) := by decide +kernel
theorem dX6_isZero_1 : decode cX6_isZero 1 = .ok (.istore_n 2, 1) := by decide +kernel
theorem dX6_isZero_2 : decode cX6_isZero 2 = .ok (.iload_n 2, 1) := by decide +kernel
theorem dX6_isZero_3 : decode cX6_isZero 3 = .ok (.aload_n 0, 1) := by decide +kernel
theorem dX6_isZero_4 : decode cX6_isZero 4 = .ok (.getfield 20, 3) := by decide +kernel
theorem dX6_isZero_7 : decode cX6_isZero 7 = .ok (.arraylength, 1) := by decide +kernel
theorem dX6_isZero_8 : decode cX6_isZero 8 = .ok (.if_icmp .ge 25, 3) := by decide +kernel
theorem dX6_isZero_11 : decode cX6_isZero 11 = .ok (.iload_n 2, 1) := by decide +kernel
theorem dX6_isZero_12 : decode cX6_isZero 12 = .ok (.iload_n 1, 1) := by decide +kernel
theorem dX6_isZero_13 : decode cX6_isZero 13 = .ok (.if_icmp .eq 14, 3) := by decide +kernel
theorem dX6_isZero_16 : decode cX6_isZero 16 = .ok (.aload_n 0, 1) := by decide +kernel
theorem dX6_isZero_17 : decode cX6_isZero 17 = .ok (.getfield 20, 3) := by decide +kernel
theorem dX6_isZero_20 : decode cX6_isZero 20 = .ok (.iload_n 2, 1) := by decide +kernel
theorem dX6_isZero_21 : decode cX6_isZero 21 = .ok (.iaload, 1) := by decide +kernel
theorem dX6_isZero_22 : decode cX6_isZero 22 = .ok (.ifCond .eq 5, 3) := by decide +kernel
theorem dX6_isZero_25 : decode cX6_isZero 25 = .ok (.iconst 0, 1) := by decide +kernel
theorem dX6_isZero_26 : decode cX6_isZero 26 = .ok (.ireturn, 1) := by decide +kernel
theorem dX6_isZero_27 : decode cX6_isZero 27 = .ok (.iinc 2 1, 3) := by decide +kernel
theorem dX6_isZero_30 : decode cX6_isZero 30 = .ok (.goto (-28), 3) := by decide +kernel
theorem dX6_isZero_33 : decode cX6_isZero 33 = .ok (.iconst 1, 1) := by decide +kernel
theorem dX6_isZero_34 : decode cX6_isZero 34 = .ok (.ireturn, 1) := by decide +kernel
theorem dX6_whyLay_0 : decode cX6_whyLay 0 = .ok (.aload_n 0, 1) := by decide +kernel
theorem dX6_whyLay_1 : decode cX6_whyLay 1 = .ok (.getfield 52, 3) := by decide +kernel
theorem dX6_whyLay_4 : decode cX6_whyLay 4 = .ok (.ifCond .eq 7, 3) := by decide +kernel
theorem dX6_whyLay_7 : decode cX6_whyLay 7 = .ok (.iconst 1, 1) := by decide +kernel
theorem dX6_whyLay_8 : decode cX6_whyLay 8 = .ok (.goto 62, 3) := by decide +kernel
theorem dX6_whyLay_11 : decode cX6_whyLay 11 = .ok (.aload_n 0, 1) := by decide +kernel
theorem dX6_whyLay_12 : decode cX6_whyLay 12 = .ok (.iload_n 2, 1) := by decide +kernel
theorem dX6_whyLay_13 : decode cX6_whyLay 13 = .ok (.invokevirtual 56, 3) := by decide +kernel
theorem dX6_whyLay_16 : decode cX6_whyLay 16 = .ok (.ifCond .eq 8, 3) := by decide +kernel
theorem dX6_whyLay_19 : decode cX6_whyLay 19 = .ok (.bipush 6, 2) := by decide +kernel
theorem dX6_whyLay_21 : decode cX6_whyLay 21 = .ok (.goto 49, 3) := by decide +kernel
theorem dX6_whyLay_24 : decode cX6_whyLay 24 = .ok (.aload_n 0, 1) := by decide +kernel
theorem dX6_whyLay_25 : decode cX6_whyLay 25 = .ok (.getfield 20, 3) := by decide +kernel
theorem dX6_whyLay_28 : decode cX6_whyLay 28 = .ok (.iload_n 2, 1) := by decide +kernel
theorem dX6_whyLay_29 : decode cX6_whyLay 29 = .ok (.iaload, 1) := by decide +kernel
theorem dX6_whyLay_30 : decode cX6_whyLay 30 = .ok (.iload_n 1, 1) := by decide +kernel
theorem dX6_whyLay_31 : decode cX6_whyLay 31 = .ok (.iadd, 1) := by decide +kernel
theorem dX6_whyLay_32 : decode cX6_whyLay 32 = .ok (.invokestatic 60, 3) := by decide +kernel
theorem dX6_whyLay_35 : decode cX6_whyLay 35 = .ok (.bipush 30, 2) := by decide +kernel
theorem dX6_whyLay_37 : decode cX6_whyLay 37 = .ok (.if_icmp .le 8, 3) := by decide +kernel
theorem dX6_whyLay_40 : decode cX6_whyLay 40 = .ok (.bipush 7, 2) := by decide +kernel
theorem dX6_whyLay_42 : decode cX6_whyLay 42 = .ok (.goto 28, 3) := by decide +kernel
theorem dX6_whyLay_45 : decode cX6_whyLay 45 = .ok (.aload_n 0, 1) := by decide +kernel
theorem dX6_whyLay_46 : decode cX6_whyLay 46 = .ok (.getfield 20, 3) := by decide +kernel
theorem dX6_whyLay_49 : decode cX6_whyLay 49 = .ok (.iload_n 2, 1) := by decide +kernel
theorem dX6_whyLay_50 : decode cX6_whyLay 50 = .ok (.iaload, 1) := by decide +kernel
theorem dX6_whyLay_51 : decode cX6_whyLay 51 = .ok (.iload_n 1, 1) := by decide +kernel
theorem dX6_whyLay_52 : decode cX6_whyLay 52 = .ok (.iadd, 1) := by decide +kernel
theorem dX6_whyLay_53 : decode cX6_whyLay 53 = .ok (.ifCond .ne 16, 3) := by decide +kernel
theorem dX6_whyLay_56 : decode cX6_whyLay 56 = .ok (.aload_n 0, 1) := by decide +kernel
theorem dX6_whyLay_57 : decode cX6_whyLay 57 = .ok (.iload_n 2, 1) := by decide +kernel
theorem dX6_whyLay_58 : decode cX6_whyLay 58 = .ok (.invokevirtual 66, 3) := by decide +kernel
theorem dX6_whyLay_61 : decode cX6_whyLay 61 = .ok (.ifCond .eq 8, 3) := by decide +kernel
theorem dX6_whyLay_64 : decode cX6_whyLay 64 = .ok (.bipush 8, 2) := by decide +kernel
theorem dX6_whyLay_66 : decode cX6_whyLay 66 = .ok (.goto 4, 3) := by decide +kernel
theorem dX6_whyLay_69 : decode cX6_whyLay 69 = .ok (.iconst 0, 1) := by decide +kernel
theorem dX6_whyLay_70 : decode cX6_whyLay 70 = .ok (.ireturn, 1) := by decide +kernel
theorem dX6_whyClaim_0 : decode cX6_whyClaim 0 = .ok (.aload_n 0, 1) := by decide +kernel
theorem dX6_whyClaim_1 : decode cX6_whyClaim 1 = .ok (.getfield 10, 3) := by decide +kernel
theorem dX6_whyClaim_4 : decode cX6_whyClaim 4 = .ok (.aload_n 0, 1) := by decide +kernel
theorem dX6_whyClaim_5 : decode cX6_whyClaim 5 = .ok (.invokevirtual 69, 3) := by decide +kernel
theorem dX6_whyClaim_8 : decode cX6_whyClaim 8 = .ok (.invokevirtual 73, 3) := by decide +kernel
theorem dX6_whyClaim_11 : decode cX6_whyClaim 11 = .ok (.checkcast 7, 3) := by decide +kernel
theorem dX6_whyClaim_14 : decode cX6_whyClaim 14 = .ok (.astore_n 2, 1) := by decide +kernel
theorem dX6_whyClaim_15 : decode cX6_whyClaim 15 = .ok (.aload_n 1, 1) := by decide +kernel
theorem dX6_whyClaim_16 : decode cX6_whyClaim 16 = .ok (.getfield 77, 3) := by decide +kernel
theorem dX6_whyClaim_19 : decode cX6_whyClaim 19 = .ok (.istore_n 3, 1) := by decide +kernel
theorem dX6_whyClaim_20 : decode cX6_whyClaim 20 = .ok (.iconst 0, 1) := by decide +kernel
theorem dX6_whyClaim_21 : decode cX6_whyClaim 21 = .ok (.istore 4, 2) := by decide +kernel
theorem dX6_whyClaim_23 : decode cX6_whyClaim 23 = .ok (.aload_n 2, 1) := by decide +kernel
theorem dX6_whyClaim_24 : decode cX6_whyClaim 24 = .ok (.invokevirtual 82, 3) := by decide +kernel
theorem dX6_whyClaim_27 : decode cX6_whyClaim 27 = .ok (.astore 5, 2) := by decide +kernel
theorem dX6_whyClaim_29 : decode cX6_whyClaim 29 = .ok (.aload 5, 2) := by decide +kernel
theorem dX6_whyClaim_31 : decode cX6_whyClaim 31 = .ok (.invokeinterface 86 1, 5) := by decide +kernel
theorem dX6_whyClaim_36 : decode cX6_whyClaim 36 = .ok (.ifCond .eq 63, 3) := by decide +kernel
theorem dX6_whyClaim_39 : decode cX6_whyClaim 39 = .ok (.aload 5, 2) := by decide +kernel
theorem dX6_whyClaim_41 : decode cX6_whyClaim 41 = .ok (.invokeinterface 92 1, 5) := by decide +kernel
theorem dX6_whyClaim_46 : decode cX6_whyClaim 46 = .ok (.checkcast 78, 3) := by decide +kernel
theorem dX6_whyClaim_49 : decode cX6_whyClaim 49 = .ok (.astore 6, 2) := by decide +kernel
theorem dX6_whyClaim_51 : decode cX6_whyClaim 51 = .ok (.iload_n 3, 1) := by decide +kernel
theorem dX6_whyClaim_52 : decode cX6_whyClaim 52 = .ok (.aload 6, 2) := by decide +kernel
theorem dX6_whyClaim_54 : decode cX6_whyClaim 54 = .ok (.getfield 77, 3) := by decide +kernel
theorem dX6_whyClaim_57 : decode cX6_whyClaim 57 = .ok (.iadd, 1) := by decide +kernel
theorem dX6_whyClaim_58 : decode cX6_whyClaim 58 = .ok (.istore_n 3, 1) := by decide +kernel
theorem dX6_whyClaim_59 : decode cX6_whyClaim 59 = .ok (.iload 4, 2) := by decide +kernel
theorem dX6_whyClaim_61 : decode cX6_whyClaim 61 = .ok (.aload 6, 2) := by decide +kernel
theorem dX6_whyClaim_63 : decode cX6_whyClaim 63 = .ok (.getfield 96, 3) := by decide +kernel
theorem dX6_whyClaim_66 : decode cX6_whyClaim 66 = .ok (.aload_n 1, 1) := by decide +kernel
theorem dX6_whyClaim_67 : decode cX6_whyClaim 67 = .ok (.getfield 96, 3) := by decide +kernel
theorem dX6_whyClaim_70 : decode cX6_whyClaim 70 = .ok (.invokestatic 99, 3) := by decide +kernel
theorem dX6_whyClaim_73 : decode cX6_whyClaim 73 = .ok (.aload 6, 2) := by decide +kernel
theorem dX6_whyClaim_75 : decode cX6_whyClaim 75 = .ok (.getfield 103, 3) := by decide +kernel
theorem dX6_whyClaim_78 : decode cX6_whyClaim 78 = .ok (.aload_n 1, 1) := by decide +kernel
theorem dX6_whyClaim_79 : decode cX6_whyClaim 79 = .ok (.getfield 103, 3) := by decide +kernel
theorem dX6_whyClaim_82 : decode cX6_whyClaim 82 = .ok (.invokestatic 106, 3) := by decide +kernel
theorem dX6_whyClaim_85 : decode cX6_whyClaim 85 = .ok (.if_icmp .ge 7, 3) := by decide +kernel
theorem dX6_whyClaim_88 : decode cX6_whyClaim 88 = .ok (.iconst 1, 1) := by decide +kernel
theorem dX6_whyClaim_89 : decode cX6_whyClaim 89 = .ok (.goto 4, 3) := by decide +kernel
theorem dX6_whyClaim_92 : decode cX6_whyClaim 92 = .ok (.iconst 0, 1) := by decide +kernel
theorem dX6_whyClaim_93 : decode cX6_whyClaim 93 = .ok (.ior, 1) := by decide +kernel
theorem dX6_whyClaim_94 : decode cX6_whyClaim 94 = .ok (.istore 4, 2) := by decide +kernel
theorem dX6_whyClaim_96 : decode cX6_whyClaim 96 = .ok (.goto (-67), 3) := by decide +kernel
theorem dX6_whyClaim_99 : decode cX6_whyClaim 99 = .ok (.aload_n 0, 1) := by decide +kernel
theorem dX6_whyClaim_100 : decode cX6_whyClaim 100 = .ok (.getfield 52, 3) := by decide +kernel
theorem dX6_whyClaim_103 : decode cX6_whyClaim 103 = .ok (.ifCond .eq 7, 3) := by decide +kernel
theorem dX6_whyClaim_106 : decode cX6_whyClaim 106 = .ok (.iconst 1, 1) := by decide +kernel
theorem dX6_whyClaim_107 : decode cX6_whyClaim 107 = .ok (.goto 48, 3) := by decide +kernel
theorem dX6_whyClaim_110 : decode cX6_whyClaim 110 = .ok (.aload_n 0, 1) := by decide +kernel
theorem dX6_whyClaim_111 : decode cX6_whyClaim 111 = .ok (.getfield 109, 3) := by decide +kernel
theorem dX6_whyClaim_114 : decode cX6_whyClaim 114 = .ok (.ifCond .eq 7, 3) := by decide +kernel
theorem dX6_whyClaim_117 : decode cX6_whyClaim 117 = .ok (.iconst 2, 1) := by decide +kernel
theorem dX6_whyClaim_118 : decode cX6_whyClaim 118 = .ok (.goto 37, 3) := by decide +kernel
theorem dX6_whyClaim_121 : decode cX6_whyClaim 121 = .ok (.aload_n 2, 1) := by decide +kernel
theorem dX6_whyClaim_122 : decode cX6_whyClaim 122 = .ok (.invokevirtual 112, 3) := by decide +kernel
theorem dX6_whyClaim_125 : decode cX6_whyClaim 125 = .ok (.iconst 4, 1) := by decide +kernel
theorem dX6_whyClaim_126 : decode cX6_whyClaim 126 = .ok (.if_icmp .ne 7, 3) := by decide +kernel
theorem dX6_whyClaim_129 : decode cX6_whyClaim 129 = .ok (.iconst 3, 1) := by decide +kernel
theorem dX6_whyClaim_130 : decode cX6_whyClaim 130 = .ok (.goto 25, 3) := by decide +kernel
theorem dX6_whyClaim_133 : decode cX6_whyClaim 133 = .ok (.iload 4, 2) := by decide +kernel
theorem dX6_whyClaim_135 : decode cX6_whyClaim 135 = .ok (.ifCond .eq 7, 3) := by decide +kernel
theorem dX6_whyClaim_138 : decode cX6_whyClaim 138 = .ok (.iconst 4, 1) := by decide +kernel
theorem dX6_whyClaim_139 : decode cX6_whyClaim 139 = .ok (.goto 16, 3) := by decide +kernel
theorem dX6_whyClaim_142 : decode cX6_whyClaim 142 = .ok (.iload_n 3, 1) := by decide +kernel
theorem dX6_whyClaim_143 : decode cX6_whyClaim 143 = .ok (.aload_n 0, 1) := by decide +kernel
theorem dX6_whyClaim_144 : decode cX6_whyClaim 144 = .ok (.getfield 42, 3) := by decide +kernel
theorem dX6_whyClaim_147 : decode cX6_whyClaim 147 = .ok (.if_icmp .le 7, 3) := by decide +kernel
theorem dX6_whyClaim_150 : decode cX6_whyClaim 150 = .ok (.iconst 5, 1) := by decide +kernel
theorem dX6_whyClaim_151 : decode cX6_whyClaim 151 = .ok (.goto 4, 3) := by decide +kernel
theorem dX6_whyClaim_154 : decode cX6_whyClaim 154 = .ok (.iconst 0, 1) := by decide +kernel
theorem dX6_whyClaim_155 : decode cX6_whyClaim 155 = .ok (.ireturn, 1) := by decide +kernel
theorem dX6_ends_0 : decode cX6_ends 0 = .ok (.aload_n 0, 1) := by decide +kernel
theorem dX6_ends_1 : decode cX6_ends 1 = .ok (.aload_n 0, 1) := by decide +kernel
theorem dX6_ends_2 : decode cX6_ends 2 = .ok (.getfield 49, 3) := by decide +kernel
theorem dX6_ends_5 : decode cX6_ends 5 = .ok (.iconst 1, 1) := by decide +kernel
theorem dX6_ends_6 : decode cX6_ends 6 = .ok (.iadd, 1) := by decide +kernel
theorem dX6_ends_7 : decode cX6_ends 7 = .ok (.aload_n 0, 1) := by decide +kernel
theorem dX6_ends_8 : decode cX6_ends 8 = .ok (.getfield 30, 3) := by decide +kernel
theorem dX6_ends_11 : decode cX6_ends 11 = .ok (.if_icmp .eq 14, 3) := by decide +kernel
theorem dX6_ends_14 : decode cX6_ends 14 = .ok (.iload_n 1, 1) := by decide +kernel
theorem dX6_ends_15 : decode cX6_ends 15 = .ok (.ifCond .eq 14, 3) := by decide +kernel
theorem dX6_ends_18 : decode cX6_ends 18 = .ok (.aload_n 0, 1) := by decide +kernel
theorem dX6_ends_19 : decode cX6_ends 19 = .ok (.getfield 115, 3) := by decide +kernel
theorem dX6_ends_22 : decode cX6_ends 22 = .ok (.ifCond .eq 7, 3) := by decide +kernel
theorem dX6_ends_25 : decode cX6_ends 25 = .ok (.iconst 1, 1) := by decide +kernel
theorem dX6_ends_26 : decode cX6_ends 26 = .ok (.goto 4, 3) := by decide +kernel
theorem dX6_ends_29 : decode cX6_ends 29 = .ok (.iconst 0, 1) := by decide +kernel
theorem dX6_ends_30 : decode cX6_ends 30 = .ok (.putfield 52, 3) := by decide +kernel
theorem dX6_ends_33 : decode cX6_ends 33 = .ok (.aload_n 0, 1) := by decide +kernel
theorem dX6_ends_34 : decode cX6_ends 34 = .ok (.dup, 1) := by decide +kernel
theorem dX6_ends_35 : decode cX6_ends 35 = .ok (.getfield 49, 3) := by decide +kernel
theorem dX6_ends_38 : decode cX6_ends 38 = .ok (.iconst 1, 1) := by decide +kernel
theorem dX6_ends_39 : decode cX6_ends 39 = .ok (.iadd, 1) := by decide +kernel
theorem dX6_ends_40 : decode cX6_ends 40 = .ok (.putfield 49, 3) := by decide +kernel
theorem dX6_ends_43 : decode cX6_ends 43 = .ok (.aload_n 0, 1) := by decide +kernel
theorem dX6_ends_44 : decode cX6_ends 44 = .ok (.iload_n 1, 1) := by decide +kernel
theorem dX6_ends_45 : decode cX6_ends 45 = .ok (.putfield 115, 3) := by decide +kernel
theorem dX6_ends_48 : decode cX6_ends 48 = .ok (.aload_n 0, 1) := by decide +kernel
theorem dX6_ends_49 : decode cX6_ends 49 = .ok (.iconst 0, 1) := by decide +kernel
theorem dX6_ends_50 : decode cX6_ends 50 = .ok (.putfield 109, 3) := by decide +kernel
theorem dX6_ends_53 : decode cX6_ends 53 = .ok (.iconst 1, 1) := by decide +kernel
theorem dX6_ends_54 : decode cX6_ends 54 = .ok (.istore_n 2, 1) := by decide +kernel
theorem dX6_ends_55 : decode cX6_ends 55 = .ok (.iconst 0, 1) := by decide +kernel
theorem dX6_ends_56 : decode cX6_ends 56 = .ok (.istore_n 3, 1) := by decide +kernel
theorem dX6_ends_57 : decode cX6_ends 57 = .ok (.iload_n 3, 1) := by decide +kernel
theorem dX6_ends_58 : decode cX6_ends 58 = .ok (.aload_n 0, 1) := by decide +kernel
theorem dX6_ends_59 : decode cX6_ends 59 = .ok (.getfield 20, 3) := by decide +kernel
theorem dX6_ends_62 : decode cX6_ends 62 = .ok (.arraylength, 1) := by decide +kernel
theorem dX6_ends_63 : decode cX6_ends 63 = .ok (.if_icmp .ge 17, 3) := by decide +kernel
theorem dX6_ends_66 : decode cX6_ends 66 = .ok (.iload_n 2, 1) := by decide +kernel
theorem dX6_ends_67 : decode cX6_ends 67 = .ok (.aload_n 0, 1) := by decide +kernel
theorem dX6_ends_68 : decode cX6_ends 68 = .ok (.iload_n 3, 1) := by decide +kernel
theorem dX6_ends_69 : decode cX6_ends 69 = .ok (.invokevirtual 56, 3) := by decide +kernel
theorem dX6_ends_72 : decode cX6_ends 72 = .ok (.iand, 1) := by decide +kernel
theorem dX6_ends_73 : decode cX6_ends 73 = .ok (.istore_n 2, 1) := by decide +kernel
theorem dX6_ends_74 : decode cX6_ends 74 = .ok (.iinc 3 1, 3) := by decide +kernel
theorem dX6_ends_77 : decode cX6_ends 77 = .ok (.goto (-20), 3) := by decide +kernel
theorem dX6_ends_80 : decode cX6_ends 80 = .ok (.aload_n 0, 1) := by decide +kernel
theorem dX6_ends_81 : decode cX6_ends 81 = .ok (.dup, 1) := by decide +kernel
theorem dX6_ends_82 : decode cX6_ends 82 = .ok (.getfield 52, 3) := by decide +kernel
theorem dX6_ends_85 : decode cX6_ends 85 = .ok (.iload_n 2, 1) := by decide +kernel
theorem dX6_ends_86 : decode cX6_ends 86 = .ok (.ior, 1) := by decide +kernel
theorem dX6_ends_87 : decode cX6_ends 87 = .ok (.putfield 52, 3) := by decide +kernel
theorem dX6_ends_90 : decode cX6_ends 90 = .ok (.return_, 1) := by decide +kernel
theorem dX6_value_0 : decode cX6_value 0 = .ok (.lconst 0, 1) := by decide +kernel
theorem dX6_value_1 : decode cX6_value 1 = .ok (.lstore_n 2, 1) := by decide +kernel
theorem dX6_value_2 : decode cX6_value 2 = .ok (.lconst 1, 1) := by decide +kernel
theorem dX6_value_3 : decode cX6_value 3 = .ok (.lstore 4, 2) := by decide +kernel
theorem dX6_value_5 : decode cX6_value 5 = .ok (.iconst 0, 1) := by decide +kernel
theorem dX6_value_6 : decode cX6_value 6 = .ok (.istore 6, 2) := by decide +kernel
theorem dX6_value_8 : decode cX6_value 8 = .ok (.iload 6, 2) := by decide +kernel
theorem dX6_value_10 : decode cX6_value 10 = .ok (.aload_n 0, 1) := by decide +kernel
theorem dX6_value_11 : decode cX6_value 11 = .ok (.getfield 20, 3) := by decide +kernel
theorem dX6_value_14 : decode cX6_value 14 = .ok (.arraylength, 1) := by decide +kernel
theorem dX6_value_15 : decode cX6_value 15 = .ok (.if_icmp .ge 30, 3) := by decide +kernel
theorem dX6_value_18 : decode cX6_value 18 = .ok (.lload_n 2, 1) := by decide +kernel
theorem dX6_value_19 : decode cX6_value 19 = .ok (.aload_n 0, 1) := by decide +kernel
theorem dX6_value_20 : decode cX6_value 20 = .ok (.getfield 20, 3) := by decide +kernel
theorem dX6_value_23 : decode cX6_value 23 = .ok (.iload 6, 2) := by decide +kernel
theorem dX6_value_25 : decode cX6_value 25 = .ok (.iaload, 1) := by decide +kernel
theorem dX6_value_26 : decode cX6_value 26 = .ok (.i2l, 1) := by decide +kernel
theorem dX6_value_27 : decode cX6_value 27 = .ok (.lload 4, 2) := by decide +kernel
theorem dX6_value_29 : decode cX6_value 29 = .ok (.lmul, 1) := by decide +kernel
theorem dX6_value_30 : decode cX6_value 30 = .ok (.ladd, 1) := by decide +kernel
theorem dX6_value_31 : decode cX6_value 31 = .ok (.lstore_n 2, 1) := by decide +kernel
theorem dX6_value_32 : decode cX6_value 32 = .ok (.lload 4, 2) := by decide +kernel
theorem dX6_value_34 : decode cX6_value 34 = .ok (.iload_n 1, 1) := by decide +kernel
theorem dX6_value_35 : decode cX6_value 35 = .ok (.i2l, 1) := by decide +kernel
theorem dX6_value_36 : decode cX6_value 36 = .ok (.lmul, 1) := by decide +kernel
theorem dX6_value_37 : decode cX6_value 37 = .ok (.lstore 4, 2) := by decide +kernel
theorem dX6_value_39 : decode cX6_value 39 = .ok (.iinc 6 1, 3) := by decide +kernel
theorem dX6_value_42 : decode cX6_value 42 = .ok (.goto (-34), 3) := by decide +kernel
theorem dX6_value_45 : decode cX6_value 45 = .ok (.lload_n 2, 1) := by decide +kernel
theorem dX6_value_46 : decode cX6_value 46 = .ok (.lreturn, 1) := by decide +kernel
theorem dX6_score_0 : decode cX6_score 0 = .ok (.aload_n 0, 1) := by decide +kernel
theorem dX6_score_1 : decode cX6_score 1 = .ok (.getfield 16, 3) := by decide +kernel
theorem dX6_score_4 : decode cX6_score 4 = .ok (.iload_n 2, 1) := by decide +kernel
theorem dX6_score_5 : decode cX6_score 5 = .ok (.if_icmp .ne 10, 3) := by decide +kernel
theorem dX6_score_8 : decode cX6_score 8 = .ok (.aload_n 0, 1) := by decide +kernel
theorem dX6_score_9 : decode cX6_score 9 = .ok (.getfield 39, 3) := by decide +kernel
theorem dX6_score_12 : decode cX6_score 12 = .ok (.goto 4, 3) := by decide +kernel
theorem dX6_score_15 : decode cX6_score 15 = .ok (.iconst 0, 1) := by decide +kernel
theorem dX6_score_16 : decode cX6_score 16 = .ok (.istore_n 3, 1) := by decide +kernel
theorem dX6_score_17 : decode cX6_score 17 = .ok (.aload_n 0, 1) := by decide +kernel
theorem dX6_score_18 : decode cX6_score 18 = .ok (.getfield 33, 3) := by decide +kernel
theorem dX6_score_21 : decode cX6_score 21 = .ok (.ineg, 1) := by decide +kernel
theorem dX6_score_22 : decode cX6_score 22 = .ok (.istore 4, 2) := by decide +kernel
theorem dX6_score_24 : decode cX6_score 24 = .ok (.iload 4, 2) := by decide +kernel
theorem dX6_score_26 : decode cX6_score 26 = .ok (.aload_n 0, 1) := by decide +kernel
theorem dX6_score_27 : decode cX6_score 27 = .ok (.getfield 33, 3) := by decide +kernel
theorem dX6_score_30 : decode cX6_score 30 = .ok (.if_icmp .gt 48, 3) := by decide +kernel
theorem dX6_score_33 : decode cX6_score 33 = .ok (.iload_n 3, 1) := by decide +kernel
theorem dX6_score_34 : decode cX6_score 34 = .ok (.iload_n 2, 1) := by decide +kernel
theorem dX6_score_35 : decode cX6_score 35 = .ok (.ifCond .ne 14, 3) := by decide +kernel
theorem dX6_score_38 : decode cX6_score 38 = .ok (.aload_n 0, 1) := by decide +kernel
theorem dX6_score_39 : decode cX6_score 39 = .ok (.iload 4, 2) := by decide +kernel
theorem dX6_score_41 : decode cX6_score 41 = .ok (.invokevirtual 118, 3) := by decide +kernel
theorem dX6_score_44 : decode cX6_score 44 = .ok (.lconst 0, 1) := by decide +kernel
theorem dX6_score_45 : decode cX6_score 45 = .ok (.lcmp, 1) := by decide +kernel
theorem dX6_score_46 : decode cX6_score 46 = .ok (.ifCond .gt 19, 3) := by decide +kernel
theorem dX6_score_49 : decode cX6_score 49 = .ok (.iload_n 2, 1) := by decide +kernel
theorem dX6_score_50 : decode cX6_score 50 = .ok (.iconst 1, 1) := by decide +kernel
theorem dX6_score_51 : decode cX6_score 51 = .ok (.if_icmp .ne 18, 3) := by decide +kernel
theorem dX6_score_54 : decode cX6_score 54 = .ok (.aload_n 0, 1) := by decide +kernel
theorem dX6_score_55 : decode cX6_score 55 = .ok (.iload 4, 2) := by decide +kernel
theorem dX6_score_57 : decode cX6_score 57 = .ok (.invokevirtual 118, 3) := by decide +kernel
theorem dX6_score_60 : decode cX6_score 60 = .ok (.lconst 0, 1) := by decide +kernel
theorem dX6_score_61 : decode cX6_score 61 = .ok (.lcmp, 1) := by decide +kernel
theorem dX6_score_62 : decode cX6_score 62 = .ok (.ifCond .ge 7, 3) := by decide +kernel
theorem dX6_score_65 : decode cX6_score 65 = .ok (.iconst 1, 1) := by decide +kernel
theorem dX6_score_66 : decode cX6_score 66 = .ok (.goto 4, 3) := by decide +kernel
theorem dX6_score_69 : decode cX6_score 69 = .ok (.iconst 0, 1) := by decide +kernel
theorem dX6_score_70 : decode cX6_score 70 = .ok (.iadd, 1) := by decide +kernel
theorem dX6_score_71 : decode cX6_score 71 = .ok (.istore_n 3, 1) := by decide +kernel
theorem dX6_score_72 : decode cX6_score 72 = .ok (.iinc 4 1, 3) := by decide +kernel
theorem dX6_score_75 : decode cX6_score 75 = .ok (.goto (-51), 3) := by decide +kernel
theorem dX6_score_78 : decode cX6_score 78 = .ok (.aload_n 0, 1) := by decide +kernel
theorem dX6_score_79 : decode cX6_score 79 = .ok (.getfield 10, 3) := by decide +kernel
theorem dX6_score_82 : decode cX6_score 82 = .ok (.iload_n 2, 1) := by decide +kernel
theorem dX6_score_83 : decode cX6_score 83 = .ok (.invokevirtual 73, 3) := by decide +kernel
theorem dX6_score_86 : decode cX6_score 86 = .ok (.checkcast 7, 3) := by decide +kernel
theorem dX6_score_89 : decode cX6_score 89 = .ok (.invokevirtual 82, 3) := by decide +kernel
theorem dX6_score_92 : decode cX6_score 92 = .ok (.astore 4, 2) := by decide +kernel
theorem dX6_score_94 : decode cX6_score 94 = .ok (.aload 4, 2) := by decide +kernel
theorem dX6_score_96 : decode cX6_score 96 = .ok (.invokeinterface 86 1, 5) := by decide +kernel
theorem dX6_score_101 : decode cX6_score 101 = .ok (.ifCond .eq 99, 3) := by decide +kernel
theorem dX6_score_104 : decode cX6_score 104 = .ok (.aload 4, 2) := by decide +kernel
theorem dX6_score_106 : decode cX6_score 106 = .ok (.invokeinterface 92 1, 5) := by decide +kernel
theorem dX6_score_111 : decode cX6_score 111 = .ok (.checkcast 78, 3) := by decide +kernel
theorem dX6_score_114 : decode cX6_score 114 = .ok (.astore 5, 2) := by decide +kernel
theorem dX6_score_116 : decode cX6_score 116 = .ok (.aload_n 1, 1) := by decide +kernel
theorem dX6_score_117 : decode cX6_score 117 = .ok (.aload 5, 2) := by decide +kernel
theorem dX6_score_119 : decode cX6_score 119 = .ok (.getfield 96, 3) := by decide +kernel
theorem dX6_score_122 : decode cX6_score 122 = .ok (.aload 5, 2) := by decide +kernel
theorem dX6_score_124 : decode cX6_score 124 = .ok (.getfield 103, 3) := by decide +kernel
theorem dX6_score_127 : decode cX6_score 127 = .ok (.invokevirtual 122, 3) := by decide +kernel
theorem dX6_score_130 : decode cX6_score 130 = .ok (.istore 6, 2) := by decide +kernel
theorem dX6_score_132 : decode cX6_score 132 = .ok (.iload 6, 2) := by decide +kernel
theorem dX6_score_134 : decode cX6_score 134 = .ok (.ifCond .lt 38, 3) := by decide +kernel
theorem dX6_score_137 : decode cX6_score 137 = .ok (.aload 5, 2) := by decide +kernel
theorem dX6_score_139 : decode cX6_score 139 = .ok (.getfield 127, 3) := by decide +kernel
theorem dX6_score_142 : decode cX6_score 142 = .ok (.ifCond .eq 16, 3) := by decide +kernel
theorem dX6_score_145 : decode cX6_score 145 = .ok (.iload 6, 2) := by decide +kernel
theorem dX6_score_147 : decode cX6_score 147 = .ok (.aload 5, 2) := by decide +kernel
theorem dX6_score_149 : decode cX6_score 149 = .ok (.getfield 130, 3) := by decide +kernel
theorem dX6_score_152 : decode cX6_score 152 = .ok (.if_icmp .lt 20, 3) := by decide +kernel
theorem dX6_score_155 : decode cX6_score 155 = .ok (.goto 13, 3) := by decide +kernel
theorem dX6_score_158 : decode cX6_score 158 = .ok (.iload 6, 2) := by decide +kernel
theorem dX6_score_160 : decode cX6_score 160 = .ok (.aload 5, 2) := by decide +kernel
theorem dX6_score_162 : decode cX6_score 162 = .ok (.getfield 130, 3) := by decide +kernel
theorem dX6_score_165 : decode cX6_score 165 = .ok (.if_icmp .ne 7, 3) := by decide +kernel
theorem dX6_score_168 : decode cX6_score 168 = .ok (.iconst 1, 1) := by decide +kernel
theorem dX6_score_169 : decode cX6_score 169 = .ok (.goto 4, 3) := by decide +kernel
theorem dX6_score_172 : decode cX6_score 172 = .ok (.iconst 0, 1) := by decide +kernel
theorem dX6_score_173 : decode cX6_score 173 = .ok (.istore 7, 2) := by decide +kernel
theorem dX6_score_175 : decode cX6_score 175 = .ok (.iload_n 3, 1) := by decide +kernel
theorem dX6_score_176 : decode cX6_score 176 = .ok (.iload 7, 2) := by decide +kernel
theorem dX6_score_178 : decode cX6_score 178 = .ok (.ifCond .eq 11, 3) := by decide +kernel
theorem dX6_score_181 : decode cX6_score 181 = .ok (.aload 5, 2) := by decide +kernel
theorem dX6_score_183 : decode cX6_score 183 = .ok (.getfield 77, 3) := by decide +kernel
theorem dX6_score_186 : decode cX6_score 186 = .ok (.goto 9, 3) := by decide +kernel
theorem dX6_score_189 : decode cX6_score 189 = .ok (.aload 5, 2) := by decide +kernel
theorem dX6_score_191 : decode cX6_score 191 = .ok (.getfield 77, 3) := by decide +kernel
theorem dX6_score_194 : decode cX6_score 194 = .ok (.ineg, 1) := by decide +kernel
theorem dX6_score_195 : decode cX6_score 195 = .ok (.iadd, 1) := by decide +kernel
theorem dX6_score_196 : decode cX6_score 196 = .ok (.istore_n 3, 1) := by decide +kernel
theorem dX6_score_197 : decode cX6_score 197 = .ok (.goto (-103), 3) := by decide +kernel
theorem dX6_score_200 : decode cX6_score 200 = .ok (.iload_n 3, 1) := by decide +kernel
theorem dX6_score_201 : decode cX6_score 201 = .ok (.ireturn, 1) := by decide +kernel
theorem dX7_init_0 : decode cX7_init 0 = .ok (.aload_n 0, 1) := by decide +kernel
theorem dX7_init_1 : decode cX7_init 1 = .ok (.invokespecial 1, 3) := by decide +kernel
theorem dX7_init_4 : decode cX7_init 4 = .ok (.aload_n 0, 1) := by decide +kernel
theorem dX7_init_5 : decode cX7_init 5 = .ok (.aload_n 1, 1) := by decide +kernel
theorem dX7_init_6 : decode cX7_init 6 = .ok (.putfield 7, 3) := by decide +kernel
theorem dX7_init_9 : decode cX7_init 9 = .ok (.return_, 1) := by decide +kernel
theorem dX7_next_0 : decode cX7_next 0 = .ok (.aload_n 0, 1) := by decide +kernel
theorem dX7_next_1 : decode cX7_next 1 = .ok (.dup, 1) := by decide +kernel
theorem dX7_next_2 : decode cX7_next 2 = .ok (.getfield 13, 3) := by decide +kernel
theorem dX7_next_5 : decode cX7_next 5 = .ok (.iconst 1, 1) := by decide +kernel
theorem dX7_next_6 : decode cX7_next 6 = .ok (.iadd, 1) := by decide +kernel
theorem dX7_next_7 : decode cX7_next 7 = .ok (.putfield 13, 3) := by decide +kernel
theorem dX7_next_10 : decode cX7_next 10 = .ok (.aload_n 0, 1) := by decide +kernel
theorem dX7_next_11 : decode cX7_next 11 = .ok (.getfield 7, 3) := by decide +kernel
theorem dX7_next_14 : decode cX7_next 14 = .ok (.aload_n 0, 1) := by decide +kernel
theorem dX7_next_15 : decode cX7_next 15 = .ok (.getfield 13, 3) := by decide +kernel
theorem dX7_next_18 : decode cX7_next 18 = .ok (.invokestatic 17, 3) := by decide +kernel
theorem dX7_next_21 : decode cX7_next 21 = .ok (.iload_n 1, 1) := by decide +kernel
theorem dX7_next_22 : decode cX7_next 22 = .ok (.irem, 1) := by decide +kernel
theorem dX7_next_23 : decode cX7_next 23 = .ok (.ireturn, 1) := by decide +kernel
