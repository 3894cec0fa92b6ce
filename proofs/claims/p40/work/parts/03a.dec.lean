theorem dX0_init_0 : decode cX0_init 0 = .ok (.aload_n 0, 1) := by decide +kernel
theorem dX0_init_1 : decode cX0_init 1 = .ok (.invokespecial 3, 3) := by decide +kernel
theorem dX0_init_4 : decode cX0_init 4 = .ok (.aload_n 0, 1) := by decide +kernel
theorem dX0_init_5 : decode cX0_init 5 = .ok (.bipush 7, 2) := by decide +kernel
theorem dX0_init_7 : decode cX0_init 7 = .ok (.newarray .int, 2) := by decide +kernel
theorem dX0_init_9 : decode cX0_init 9 = .ok (.putfield 9, 3) := by decide +kernel
theorem dX0_init_12 : decode cX0_init 12 = .ok (.aload_n 0, 1) := by decide +kernel
theorem dX0_init_13 : decode cX0_init 13 = .ok (.iconst 5, 1) := by decide +kernel
theorem dX0_init_14 : decode cX0_init 14 = .ok (.newarray .int, 2) := by decide +kernel
theorem dX0_init_16 : decode cX0_init 16 = .ok (.putfield 15, 3) := by decide +kernel
theorem dX0_init_19 : decode cX0_init 19 = .ok (.aload_n 0, 1) := by decide +kernel
theorem dX0_init_20 : decode cX0_init 20 = .ok (.bipush 60, 2) := by decide +kernel
theorem dX0_init_22 : decode cX0_init 22 = .ok (.newarray .int, 2) := by decide +kernel
theorem dX0_init_24 : decode cX0_init 24 = .ok (.putfield 18, 3) := by decide +kernel
theorem dX0_init_27 : decode cX0_init 27 = .ok (.aload_n 0, 1) := by decide +kernel
theorem dX0_init_28 : decode cX0_init 28 = .ok (.bipush 60, 2) := by decide +kernel
theorem dX0_init_30 : decode cX0_init 30 = .ok (.newarray .int, 2) := by decide +kernel
theorem dX0_init_32 : decode cX0_init 32 = .ok (.putfield 21, 3) := by decide +kernel
theorem dX0_init_35 : decode cX0_init 35 = .ok (.aload_n 0, 1) := by decide +kernel
theorem dX0_init_36 : decode cX0_init 36 = .ok (.bipush 48, 2) := by decide +kernel
theorem dX0_init_38 : decode cX0_init 38 = .ok (.newarray .int, 2) := by decide +kernel
theorem dX0_init_40 : decode cX0_init 40 = .ok (.putfield 24, 3) := by decide +kernel
theorem dX0_init_43 : decode cX0_init 43 = .ok (.aload_n 0, 1) := by decide +kernel
theorem dX0_init_44 : decode cX0_init 44 = .ok (.iconst 2, 1) := by decide +kernel
theorem dX0_init_45 : decode cX0_init 45 = .ok (.newarray .int, 2) := by decide +kernel
theorem dX0_init_47 : decode cX0_init 47 = .ok (.putfield 27, 3) := by decide +kernel
theorem dX0_init_50 : decode cX0_init 50 = .ok (.aload_n 0, 1) := by decide +kernel
theorem dX0_init_51 : decode cX0_init 51 = .ok (.invokevirtual 30, 3) := by decide +kernel
theorem dX0_init_54 : decode cX0_init 54 = .ok (.return_, 1) := by decide +kernel
theorem dX0_begin_0 : decode cX0_begin 0 = .ok (.getstatic 33, 3) := by decide +kernel
theorem dX0_begin_3 : decode cX0_begin 3 = .ok (.iconst 0, 1) := by decide +kernel
theorem dX0_begin_4 : decode cX0_begin 4 = .ok (.aload_n 0, 1) := by decide +kernel
theorem dX0_begin_5 : decode cX0_begin 5 = .ok (.getfield 9, 3) := by decide +kernel
theorem dX0_begin_8 : decode cX0_begin 8 = .ok (.iconst 0, 1) := by decide +kernel
theorem dX0_begin_9 : decode cX0_begin 9 = .ok (.bipush 7, 2) := by decide +kernel
theorem dX0_begin_11 : decode cX0_begin 11 = .ok (.invokestatic 36, 3) := by decide +kernel
theorem dX0_begin_14 : decode cX0_begin 14 = .ok (.iconst 0, 1) := by decide +kernel
theorem dX0_begin_15 : decode cX0_begin 15 = .ok (.istore_n 1, 1) := by decide +kernel
theorem dX0_begin_16 : decode cX0_begin 16 = .ok (.iload_n 1, 1) := by decide +kernel
theorem dX0_begin_17 : decode cX0_begin 17 = .ok (.iconst 5, 1) := by decide +kernel
theorem dX0_begin_18 : decode cX0_begin 18 = .ok (.if_icmp .ge 16, 3) := by decide +kernel
theorem dX0_begin_21 : decode cX0_begin 21 = .ok (.aload_n 0, 1) := by decide +kernel
theorem dX0_begin_22 : decode cX0_begin 22 = .ok (.getfield 15, 3) := by decide +kernel
theorem dX0_begin_25 : decode cX0_begin 25 = .ok (.iload_n 1, 1) := by decide +kernel
theorem dX0_begin_26 : decode cX0_begin 26 = .ok (.iconst 0, 1) := by decide +kernel
theorem dX0_begin_27 : decode cX0_begin 27 = .ok (.iastore, 1) := by decide +kernel
theorem dX0_begin_28 : decode cX0_begin 28 = .ok (.iinc 1 1, 3) := by decide +kernel
theorem dX0_begin_31 : decode cX0_begin 31 = .ok (.goto (-15), 3) := by decide +kernel
theorem dX0_begin_34 : decode cX0_begin 34 = .ok (.aload_n 0, 1) := by decide +kernel
theorem dX0_begin_35 : decode cX0_begin 35 = .ok (.getfield 27, 3) := by decide +kernel
theorem dX0_begin_38 : decode cX0_begin 38 = .ok (.iconst 0, 1) := by decide +kernel
theorem dX0_begin_39 : decode cX0_begin 39 = .ok (.iconst 0, 1) := by decide +kernel
theorem dX0_begin_40 : decode cX0_begin 40 = .ok (.iastore, 1) := by decide +kernel
theorem dX0_begin_41 : decode cX0_begin 41 = .ok (.aload_n 0, 1) := by decide +kernel
theorem dX0_begin_42 : decode cX0_begin 42 = .ok (.getfield 27, 3) := by decide +kernel
theorem dX0_begin_45 : decode cX0_begin 45 = .ok (.iconst 1, 1) := by decide +kernel
theorem dX0_begin_46 : decode cX0_begin 46 = .ok (.iconst 0, 1) := by decide +kernel
theorem dX0_begin_47 : decode cX0_begin 47 = .ok (.iastore, 1) := by decide +kernel
theorem dX0_begin_48 : decode cX0_begin 48 = .ok (.aload_n 0, 1) := by decide +kernel
theorem dX0_begin_49 : decode cX0_begin 49 = .ok (.iconst 0, 1) := by decide +kernel
theorem dX0_begin_50 : decode cX0_begin 50 = .ok (.putfield 42, 3) := by decide +kernel
theorem dX0_begin_53 : decode cX0_begin 53 = .ok (.aload_n 0, 1) := by decide +kernel
theorem dX0_begin_54 : decode cX0_begin 54 = .ok (.iconst 0, 1) := by decide +kernel
theorem dX0_begin_55 : decode cX0_begin 55 = .ok (.putfield 46, 3) := by decide +kernel
theorem dX0_begin_58 : decode cX0_begin 58 = .ok (.aload_n 0, 1) := by decide +kernel
theorem dX0_begin_59 : decode cX0_begin 59 = .ok (.iconst (-1), 1) := by decide +kernel
theorem dX0_begin_60 : decode cX0_begin 60 = .ok (.putfield 50, 3) := by decide +kernel
theorem dX0_begin_63 : decode cX0_begin 63 = .ok (.return_, 1) := by decide +kernel
theorem dX0_copyFrom_0 : decode cX0_copyFrom 0 = .ok (.aload_n 1, 1) := by decide +kernel
theorem dX0_copyFrom_1 : decode cX0_copyFrom 1 = .ok (.ifnonnull 4, 3) := by decide +kernel
theorem dX0_copyFrom_4 : decode cX0_copyFrom 4 = .ok (.return_, 1) := by decide +kernel
theorem dX0_copyFrom_5 : decode cX0_copyFrom 5 = .ok (.aload_n 1, 1) := by decide +kernel
theorem dX0_copyFrom_6 : decode cX0_copyFrom 6 = .ok (.getfield 9, 3) := by decide +kernel
theorem dX0_copyFrom_9 : decode cX0_copyFrom 9 = .ok (.iconst 0, 1) := by decide +kernel
theorem dX0_copyFrom_10 : decode cX0_copyFrom 10 = .ok (.aload_n 0, 1) := by decide +kernel
theorem dX0_copyFrom_11 : decode cX0_copyFrom 11 = .ok (.getfield 9, 3) := by decide +kernel
theorem dX0_copyFrom_14 : decode cX0_copyFrom 14 = .ok (.iconst 0, 1) := by decide +kernel
theorem dX0_copyFrom_15 : decode cX0_copyFrom 15 = .ok (.bipush 7, 2) := by decide +kernel
theorem dX0_copyFrom_17 : decode cX0_copyFrom 17 = .ok (.invokestatic 36, 3) := by decide +kernel
theorem dX0_copyFrom_20 : decode cX0_copyFrom 20 = .ok (.aload_n 1, 1) := by decide +kernel
theorem dX0_copyFrom_21 : decode cX0_copyFrom 21 = .ok (.getfield 15, 3) := by decide +kernel
theorem dX0_copyFrom_24 : decode cX0_copyFrom 24 = .ok (.iconst 0, 1) := by decide +kernel
theorem dX0_copyFrom_25 : decode cX0_copyFrom 25 = .ok (.aload_n 0, 1) := by decide +kernel
theorem dX0_copyFrom_26 : decode cX0_copyFrom 26 = .ok (.getfield 15, 3) := by decide +kernel
theorem dX0_copyFrom_29 : decode cX0_copyFrom 29 = .ok (.iconst 0, 1) := by decide +kernel
theorem dX0_copyFrom_30 : decode cX0_copyFrom 30 = .ok (.iconst 5, 1) := by decide +kernel
theorem dX0_copyFrom_31 : decode cX0_copyFrom 31 = .ok (.invokestatic 36, 3) := by decide +kernel
theorem dX0_copyFrom_34 : decode cX0_copyFrom 34 = .ok (.aload_n 1, 1) := by decide +kernel
theorem dX0_copyFrom_35 : decode cX0_copyFrom 35 = .ok (.getfield 18, 3) := by decide +kernel
theorem dX0_copyFrom_38 : decode cX0_copyFrom 38 = .ok (.iconst 0, 1) := by decide +kernel
theorem dX0_copyFrom_39 : decode cX0_copyFrom 39 = .ok (.aload_n 0, 1) := by decide +kernel
theorem dX0_copyFrom_40 : decode cX0_copyFrom 40 = .ok (.getfield 18, 3) := by decide +kernel
theorem dX0_copyFrom_43 : decode cX0_copyFrom 43 = .ok (.iconst 0, 1) := by decide +kernel
theorem dX0_copyFrom_44 : decode cX0_copyFrom 44 = .ok (.bipush 60, 2) := by decide +kernel
theorem dX0_copyFrom_46 : decode cX0_copyFrom 46 = .ok (.invokestatic 36, 3) := by decide +kernel
theorem dX0_copyFrom_49 : decode cX0_copyFrom 49 = .ok (.aload_n 1, 1) := by decide +kernel
theorem dX0_copyFrom_50 : decode cX0_copyFrom 50 = .ok (.getfield 21, 3) := by decide +kernel
theorem dX0_copyFrom_53 : decode cX0_copyFrom 53 = .ok (.iconst 0, 1) := by decide +kernel
theorem dX0_copyFrom_54 : decode cX0_copyFrom 54 = .ok (.aload_n 0, 1) := by decide +kernel
theorem dX0_copyFrom_55 : decode cX0_copyFrom 55 = .ok (.getfield 21, 3) := by decide +kernel
theorem dX0_copyFrom_58 : decode cX0_copyFrom 58 = .ok (.iconst 0, 1) := by decide +kernel
theorem dX0_copyFrom_59 : decode cX0_copyFrom 59 = .ok (.bipush 60, 2) := by decide +kernel
theorem dX0_copyFrom_61 : decode cX0_copyFrom 61 = .ok (.invokestatic 36, 3) := by decide +kernel
theorem dX0_copyFrom_64 : decode cX0_copyFrom 64 = .ok (.aload_n 1, 1) := by decide +kernel
theorem dX0_copyFrom_65 : decode cX0_copyFrom 65 = .ok (.getfield 24, 3) := by decide +kernel
theorem dX0_copyFrom_68 : decode cX0_copyFrom 68 = .ok (.iconst 0, 1) := by decide +kernel
theorem dX0_copyFrom_69 : decode cX0_copyFrom 69 = .ok (.aload_n 0, 1) := by decide +kernel
theorem dX0_copyFrom_70 : decode cX0_copyFrom 70 = .ok (.getfield 24, 3) := by decide +kernel
theorem dX0_copyFrom_73 : decode cX0_copyFrom 73 = .ok (.iconst 0, 1) := by decide +kernel
theorem dX0_copyFrom_74 : decode cX0_copyFrom 74 = .ok (.bipush 48, 2) := by decide +kernel
theorem dX0_copyFrom_76 : decode cX0_copyFrom 76 = .ok (.invokestatic 36, 3) := by decide +kernel
theorem dX0_copyFrom_79 : decode cX0_copyFrom 79 = .ok (.aload_n 1, 1) := by decide +kernel
theorem dX0_copyFrom_80 : decode cX0_copyFrom 80 = .ok (.getfield 27, 3) := by decide +kernel
theorem dX0_copyFrom_83 : decode cX0_copyFrom 83 = .ok (.iconst 0, 1) := by decide +kernel
theorem dX0_copyFrom_84 : decode cX0_copyFrom 84 = .ok (.aload_n 0, 1) := by decide +kernel
theorem dX0_copyFrom_85 : decode cX0_copyFrom 85 = .ok (.getfield 27, 3) := by decide +kernel
theorem dX0_copyFrom_88 : decode cX0_copyFrom 88 = .ok (.iconst 0, 1) := by decide +kernel
theorem dX0_copyFrom_89 : decode cX0_copyFrom 89 = .ok (.iconst 2, 1) := by decide +kernel
theorem dX0_copyFrom_90 : decode cX0_copyFrom 90 = .ok (.invokestatic 36, 3) := by decide +kernel
theorem dX0_copyFrom_93 : decode cX0_copyFrom 93 = .ok (.aload_n 0, 1) := by decide +kernel
theorem dX0_copyFrom_94 : decode cX0_copyFrom 94 = .ok (.aload_n 1, 1) := by decide +kernel
theorem dX0_copyFrom_95 : decode cX0_copyFrom 95 = .ok (.getfield 42, 3) := by decide +kernel
theorem dX0_copyFrom_98 : decode cX0_copyFrom 98 = .ok (.putfield 42, 3) := by decide +kernel
theorem dX0_copyFrom_101 : decode cX0_copyFrom 101 = .ok (.aload_n 0, 1) := by decide +kernel
theorem dX0_copyFrom_102 : decode cX0_copyFrom 102 = .ok (.aload_n 1, 1) := by decide +kernel
theorem dX0_copyFrom_103 : decode cX0_copyFrom 103 = .ok (.getfield 46, 3) := by decide +kernel
theorem dX0_copyFrom_106 : decode cX0_copyFrom 106 = .ok (.putfield 46, 3) := by decide +kernel
theorem dX0_copyFrom_109 : decode cX0_copyFrom 109 = .ok (.aload_n 0, 1) := by decide +kernel
theorem dX0_copyFrom_110 : decode cX0_copyFrom 110 = .ok (.aload_n 1, 1) := by decide +kernel
theorem dX0_copyFrom_111 : decode cX0_copyFrom 111 = .ok (.getfield 50, 3) := by decide +kernel
theorem dX0_copyFrom_114 : decode cX0_copyFrom 114 = .ok (.putfield 50, 3) := by decide +kernel
theorem dX0_copyFrom_117 : decode cX0_copyFrom 117 = .ok (.return_, 1) := by decide +kernel
theorem dX0_mover_0 : decode cX0_mover 0 = .ok (.aload_n 0, 1) := by decide +kernel
theorem dX0_mover_1 : decode cX0_mover 1 = .ok (.getfield 42, 3) := by decide +kernel
theorem dX0_mover_4 : decode cX0_mover 4 = .ok (.iconst 2, 1) := by decide +kernel
theorem dX0_mover_5 : decode cX0_mover 5 = .ok (.irem, 1) := by decide +kernel
theorem dX0_mover_6 : decode cX0_mover 6 = .ok (.ireturn, 1) := by decide +kernel
theorem dX0_hasPower_0 : decode cX0_hasPower 0 = .ok (.iload_n 1, 1) := by decide +kernel
theorem dX0_hasPower_1 : decode cX0_hasPower 1 = .ok (.ifCond .lt 22, 3) := by decide +kernel
theorem dX0_hasPower_4 : decode cX0_hasPower 4 = .ok (.iload_n 1, 1) := by decide +kernel
theorem dX0_hasPower_5 : decode cX0_hasPower 5 = .ok (.aload_n 0, 1) := by decide +kernel
theorem dX0_hasPower_6 : decode cX0_hasPower 6 = .ok (.getfield 9, 3) := by decide +kernel
theorem dX0_hasPower_9 : decode cX0_hasPower 9 = .ok (.iconst 0, 1) := by decide +kernel
theorem dX0_hasPower_10 : decode cX0_hasPower 10 = .ok (.iaload, 1) := by decide +kernel
theorem dX0_hasPower_11 : decode cX0_hasPower 11 = .ok (.if_icmp .ge 12, 3) := by decide +kernel
theorem dX0_hasPower_14 : decode cX0_hasPower 14 = .ok (.iload_n 1, 1) := by decide +kernel
theorem dX0_hasPower_15 : decode cX0_hasPower 15 = .ok (.iconst 5, 1) := by decide +kernel
theorem dX0_hasPower_16 : decode cX0_hasPower 16 = .ok (.if_icmp .ge 7, 3) := by decide +kernel
theorem dX0_hasPower_19 : decode cX0_hasPower 19 = .ok (.iconst 1, 1) := by decide +kernel
theorem dX0_hasPower_20 : decode cX0_hasPower 20 = .ok (.goto 4, 3) := by decide +kernel
theorem dX0_hasPower_23 : decode cX0_hasPower 23 = .ok (.iconst 0, 1) := by decide +kernel
theorem dX0_hasPower_24 : decode cX0_hasPower 24 = .ok (.ireturn, 1) := by decide +kernel
theorem dX0_lastTurnOn_0 : decode cX0_lastTurnOn 0 = .ok (.aload_n 0, 1) := by decide +kernel
theorem dX0_lastTurnOn_1 : decode cX0_lastTurnOn 1 = .ok (.getfield 42, 3) := by decide +kernel
theorem dX0_lastTurnOn_4 : decode cX0_lastTurnOn 4 = .ok (.bipush 60, 2) := by decide +kernel
theorem dX0_lastTurnOn_6 : decode cX0_lastTurnOn 6 = .ok (.invokestatic 53, 3) := by decide +kernel
theorem dX0_lastTurnOn_9 : decode cX0_lastTurnOn 9 = .ok (.iconst 1, 1) := by decide +kernel
theorem dX0_lastTurnOn_10 : decode cX0_lastTurnOn 10 = .ok (.isub, 1) := by decide +kernel
theorem dX0_lastTurnOn_11 : decode cX0_lastTurnOn 11 = .ok (.istore_n 2, 1) := by decide +kernel
theorem dX0_lastTurnOn_12 : decode cX0_lastTurnOn 12 = .ok (.iload_n 2, 1) := by decide +kernel
theorem dX0_lastTurnOn_13 : decode cX0_lastTurnOn 13 = .ok (.ifCond .lt 30, 3) := by decide +kernel
theorem dX0_lastTurnOn_16 : decode cX0_lastTurnOn 16 = .ok (.aload_n 0, 1) := by decide +kernel
theorem dX0_lastTurnOn_17 : decode cX0_lastTurnOn 17 = .ok (.getfield 18, 3) := by decide +kernel
theorem dX0_lastTurnOn_20 : decode cX0_lastTurnOn 20 = .ok (.iload_n 2, 1) := by decide +kernel
theorem dX0_lastTurnOn_21 : decode cX0_lastTurnOn 21 = .ok (.iaload, 1) := by decide +kernel
theorem dX0_lastTurnOn_22 : decode cX0_lastTurnOn 22 = .ok (.ifCond .eq 15, 3) := by decide +kernel
theorem dX0_lastTurnOn_25 : decode cX0_lastTurnOn 25 = .ok (.aload_n 0, 1) := by decide +kernel
theorem dX0_lastTurnOn_26 : decode cX0_lastTurnOn 26 = .ok (.getfield 21, 3) := by decide +kernel
theorem dX0_lastTurnOn_29 : decode cX0_lastTurnOn 29 = .ok (.iload_n 2, 1) := by decide +kernel
theorem dX0_lastTurnOn_30 : decode cX0_lastTurnOn 30 = .ok (.iaload, 1) := by decide +kernel
theorem dX0_lastTurnOn_31 : decode cX0_lastTurnOn 31 = .ok (.iload_n 1, 1) := by decide +kernel
theorem dX0_lastTurnOn_32 : decode cX0_lastTurnOn 32 = .ok (.if_icmp .ne 5, 3) := by decide +kernel
theorem dX0_lastTurnOn_35 : decode cX0_lastTurnOn 35 = .ok (.iload_n 2, 1) := by decide +kernel
theorem dX0_lastTurnOn_36 : decode cX0_lastTurnOn 36 = .ok (.ireturn, 1) := by decide +kernel
theorem dX0_lastTurnOn_37 : decode cX0_lastTurnOn 37 = .ok (.iinc 2 (-1), 3) := by decide +kernel
theorem dX0_lastTurnOn_40 : decode cX0_lastTurnOn 40 = .ok (.goto (-28), 3) := by decide +kernel
theorem dX0_lastTurnOn_43 : decode cX0_lastTurnOn 43 = .ok (.iconst (-1), 1) := by decide +kernel
theorem dX0_lastTurnOn_44 : decode cX0_lastTurnOn 44 = .ok (.ireturn, 1) := by decide +kernel
theorem dX0_termsOn_0 : decode cX0_termsOn 0 = .ok (.iconst 0, 1) := by decide +kernel
theorem dX0_termsOn_1 : decode cX0_termsOn 1 = .ok (.istore_n 2, 1) := by decide +kernel
theorem dX0_termsOn_2 : decode cX0_termsOn 2 = .ok (.iconst 0, 1) := by decide +kernel
theorem dX0_termsOn_3 : decode cX0_termsOn 3 = .ok (.istore_n 3, 1) := by decide +kernel
theorem dX0_termsOn_4 : decode cX0_termsOn 4 = .ok (.iload_n 3, 1) := by decide +kernel
theorem dX0_termsOn_5 : decode cX0_termsOn 5 = .ok (.aload_n 0, 1) := by decide +kernel
theorem dX0_termsOn_6 : decode cX0_termsOn 6 = .ok (.getfield 42, 3) := by decide +kernel
theorem dX0_termsOn_9 : decode cX0_termsOn 9 = .ok (.if_icmp .ge 37, 3) := by decide +kernel
theorem dX0_termsOn_12 : decode cX0_termsOn 12 = .ok (.iload_n 3, 1) := by decide +kernel
theorem dX0_termsOn_13 : decode cX0_termsOn 13 = .ok (.bipush 60, 2) := by decide +kernel
theorem dX0_termsOn_15 : decode cX0_termsOn 15 = .ok (.if_icmp .ge 31, 3) := by decide +kernel
theorem dX0_termsOn_18 : decode cX0_termsOn 18 = .ok (.aload_n 0, 1) := by decide +kernel
theorem dX0_termsOn_19 : decode cX0_termsOn 19 = .ok (.getfield 18, 3) := by decide +kernel
theorem dX0_termsOn_22 : decode cX0_termsOn 22 = .ok (.iload_n 3, 1) := by decide +kernel
theorem dX0_termsOn_23 : decode cX0_termsOn 23 = .ok (.iaload, 1) := by decide +kernel
theorem dX0_termsOn_24 : decode cX0_termsOn 24 = .ok (.ifCond .eq 16, 3) := by decide +kernel
theorem dX0_termsOn_27 : decode cX0_termsOn 27 = .ok (.aload_n 0, 1) := by decide +kernel
theorem dX0_termsOn_28 : decode cX0_termsOn 28 = .ok (.getfield 21, 3) := by decide +kernel
theorem dX0_termsOn_31 : decode cX0_termsOn 31 = .ok (.iload_n 3, 1) := by decide +kernel
theorem dX0_termsOn_32 : decode cX0_termsOn 32 = .ok (.iaload, 1) := by decide +kernel
theorem dX0_termsOn_33 : decode cX0_termsOn 33 = .ok (.iload_n 1, 1) := by decide +kernel
theorem dX0_termsOn_34 : decode cX0_termsOn 34 = .ok (.if_icmp .ne 6, 3) := by decide +kernel
theorem dX0_termsOn_37 : decode cX0_termsOn 37 = .ok (.iinc 2 1, 3) := by decide +kernel
theorem dX0_termsOn_40 : decode cX0_termsOn 40 = .ok (.iinc 3 1, 3) := by decide +kernel
theorem dX0_termsOn_43 : decode cX0_termsOn 43 = .ok (.goto (-39), 3) := by decide +kernel
theorem dX0_termsOn_46 : decode cX0_termsOn 46 = .ok (.iload_n 2, 1) := by decide +kernel
theorem dX0_termsOn_47 : decode cX0_termsOn 47 = .ok (.ireturn, 1) := by decide +kernel
theorem dX0_termsOf_0 : decode cX0_termsOf 0 = .ok (.iconst 0, 1) := by decide +kernel
theorem dX0_termsOf_1 : decode cX0_termsOf 1 = .ok (.istore_n 2, 1) := by decide +kernel
theorem dX0_termsOf_2 : decode cX0_termsOf 2 = .ok (.iconst 0, 1) := by decide +kernel
theorem dX0_termsOf_3 : decode cX0_termsOf 3 = .ok (.istore_n 3, 1) := by decide +kernel
theorem dX0_termsOf_4 : decode cX0_termsOf 4 = .ok (.iload_n 3, 1) := by decide +kernel
theorem dX0_termsOf_5 : decode cX0_termsOf 5 = .ok (.aload_n 0, 1) := by decide +kernel
theorem dX0_termsOf_6 : decode cX0_termsOf 6 = .ok (.getfield 42, 3) := by decide +kernel
theorem dX0_termsOf_9 : decode cX0_termsOf 9 = .ok (.if_icmp .ge 34, 3) := by decide +kernel
theorem dX0_termsOf_12 : decode cX0_termsOf 12 = .ok (.iload_n 3, 1) := by decide +kernel
theorem dX0_termsOf_13 : decode cX0_termsOf 13 = .ok (.bipush 60, 2) := by decide +kernel
theorem dX0_termsOf_15 : decode cX0_termsOf 15 = .ok (.if_icmp .ge 28, 3) := by decide +kernel
theorem dX0_termsOf_18 : decode cX0_termsOf 18 = .ok (.aload_n 0, 1) := by decide +kernel
theorem dX0_termsOf_19 : decode cX0_termsOf 19 = .ok (.getfield 18, 3) := by decide +kernel
theorem dX0_termsOf_22 : decode cX0_termsOf 22 = .ok (.iload_n 3, 1) := by decide +kernel
theorem dX0_termsOf_23 : decode cX0_termsOf 23 = .ok (.iaload, 1) := by decide +kernel
theorem dX0_termsOf_24 : decode cX0_termsOf 24 = .ok (.ifCond .eq 13, 3) := by decide +kernel
theorem dX0_termsOf_27 : decode cX0_termsOf 27 = .ok (.iload_n 3, 1) := by decide +kernel
theorem dX0_termsOf_28 : decode cX0_termsOf 28 = .ok (.iconst 2, 1) := by decide +kernel
theorem dX0_termsOf_29 : decode cX0_termsOf 29 = .ok (.irem, 1) := by decide +kernel
theorem dX0_termsOf_30 : decode cX0_termsOf 30 = .ok (.iload_n 1, 1) := by decide +kernel
theorem dX0_termsOf_31 : decode cX0_termsOf 31 = .ok (.if_icmp .ne 6, 3) := by decide +kernel
theorem dX0_termsOf_34 : decode cX0_termsOf 34 = .ok (.iinc 2 1, 3) := by decide +kernel
theorem dX0_termsOf_37 : decode cX0_termsOf 37 = .ok (.iinc 3 1, 3) := by decide +kernel
theorem dX0_termsOf_40 : decode cX0_termsOf 40 = .ok (.goto (-36), 3) := by decide +kernel
theorem dX0_termsOf_43 : decode cX0_termsOf 43 = .ok (.iload_n 2, 1) := by decide +kernel
theorem dX0_termsOf_44 : decode cX0_termsOf 44 = .ok (.ireturn, 1) := by decide +kernel
theorem dX0_termsLaid_0 : decode cX0_termsLaid 0 = .ok (.aload_n 0, 1) := by decide +kernel
theorem dX0_termsLaid_1 : decode cX0_termsLaid 1 = .ok (.iconst 0, 1) := by decide +kernel
theorem dX0_termsLaid_2 : decode cX0_termsLaid 2 = .ok (.invokevirtual 59, 3) := by decide +kernel
theorem dX0_termsLaid_5 : decode cX0_termsLaid 5 = .ok (.aload_n 0, 1) := by decide +kernel
theorem dX0_termsLaid_6 : decode cX0_termsLaid 6 = .ok (.iconst 1, 1) := by decide +kernel
theorem dX0_termsLaid_7 : decode cX0_termsLaid 7 = .ok (.invokevirtual 59, 3) := by decide +kernel
theorem dX0_termsLaid_10 : decode cX0_termsLaid 10 = .ok (.iadd, 1) := by decide +kernel
theorem dX0_termsLaid_11 : decode cX0_termsLaid 11 = .ok (.ireturn, 1) := by decide +kernel
theorem dX0_isBarred_0 : decode cX0_isBarred 0 = .ok (.aload_n 0, 1) := by decide +kernel
theorem dX0_isBarred_1 : decode cX0_isBarred 1 = .ok (.iload_n 1, 1) := by decide +kernel
theorem dX0_isBarred_2 : decode cX0_isBarred 2 = .ok (.invokevirtual 63, 3) := by decide +kernel
theorem dX0_isBarred_5 : decode cX0_isBarred 5 = .ok (.istore_n 2, 1) := by decide +kernel
theorem dX0_isBarred_6 : decode cX0_isBarred 6 = .ok (.iload_n 2, 1) := by decide +kernel
theorem dX0_isBarred_7 : decode cX0_isBarred 7 = .ok (.iconst (-1), 1) := by decide +kernel
theorem dX0_isBarred_8 : decode cX0_isBarred 8 = .ok (.if_icmp .eq 31, 3) := by decide +kernel
theorem dX0_isBarred_11 : decode cX0_isBarred 11 = .ok (.aload_n 0, 1) := by decide +kernel
theorem dX0_isBarred_12 : decode cX0_isBarred 12 = .ok (.getfield 9, 3) := by decide +kernel
theorem dX0_isBarred_15 : decode cX0_isBarred 15 = .ok (.iconst 1, 1) := by decide +kernel
theorem dX0_isBarred_16 : decode cX0_isBarred 16 = .ok (.iaload, 1) := by decide +kernel
theorem dX0_isBarred_17 : decode cX0_isBarred 17 = .ok (.ifCond .eq 18, 3) := by decide +kernel
theorem dX0_isBarred_20 : decode cX0_isBarred 20 = .ok (.aload_n 0, 1) := by decide +kernel
theorem dX0_isBarred_21 : decode cX0_isBarred 21 = .ok (.getfield 42, 3) := by decide +kernel
theorem dX0_isBarred_24 : decode cX0_isBarred 24 = .ok (.iload_n 2, 1) := by decide +kernel
theorem dX0_isBarred_25 : decode cX0_isBarred 25 = .ok (.aload_n 0, 1) := by decide +kernel
theorem dX0_isBarred_26 : decode cX0_isBarred 26 = .ok (.getfield 9, 3) := by decide +kernel
theorem dX0_isBarred_29 : decode cX0_isBarred 29 = .ok (.iconst 1, 1) := by decide +kernel
theorem dX0_isBarred_30 : decode cX0_isBarred 30 = .ok (.iaload, 1) := by decide +kernel
theorem dX0_isBarred_31 : decode cX0_isBarred 31 = .ok (.iadd, 1) := by decide +kernel
theorem dX0_isBarred_32 : decode cX0_isBarred 32 = .ok (.if_icmp .gt 7, 3) := by decide +kernel
theorem dX0_isBarred_35 : decode cX0_isBarred 35 = .ok (.iconst 1, 1) := by decide +kernel
theorem dX0_isBarred_36 : decode cX0_isBarred 36 = .ok (.goto 4, 3) := by decide +kernel
theorem dX0_isBarred_39 : decode cX0_isBarred 39 = .ok (.iconst 0, 1) := by decide +kernel
theorem dX0_isBarred_40 : decode cX0_isBarred 40 = .ok (.ireturn, 1) := by decide +kernel
theorem dX0_barredPowers_0 : decode cX0_barredPowers 0 = .ok (.iconst 0, 1) := by decide +kernel
theorem dX0_barredPowers_1 : decode cX0_barredPowers 1 = .ok (.istore_n 1, 1) := by decide +kernel
theorem dX0_barredPowers_2 : decode cX0_barredPowers 2 = .ok (.iconst 0, 1) := by decide +kernel
theorem dX0_barredPowers_3 : decode cX0_barredPowers 3 = .ok (.istore_n 2, 1) := by decide +kernel
theorem dX0_barredPowers_4 : decode cX0_barredPowers 4 = .ok (.iload_n 2, 1) := by decide +kernel
theorem dX0_barredPowers_5 : decode cX0_barredPowers 5 = .ok (.aload_n 0, 1) := by decide +kernel
theorem dX0_barredPowers_6 : decode cX0_barredPowers 6 = .ok (.getfield 9, 3) := by decide +kernel
theorem dX0_barredPowers_9 : decode cX0_barredPowers 9 = .ok (.iconst 0, 1) := by decide +kernel
theorem dX0_barredPowers_10 : decode cX0_barredPowers 10 = .ok (.iaload, 1) := by decide +kernel
theorem dX0_barredPowers_11 : decode cX0_barredPowers 11 = .ok (.if_icmp .ge 20, 3) := by decide +kernel
theorem dX0_barredPowers_14 : decode cX0_barredPowers 14 = .ok (.aload_n 0, 1) := by decide +kernel
theorem dX0_barredPowers_15 : decode cX0_barredPowers 15 = .ok (.iload_n 2, 1) := by decide +kernel
theorem dX0_barredPowers_16 : decode cX0_barredPowers 16 = .ok (.invokevirtual 66, 3) := by decide +kernel
theorem dX0_barredPowers_19 : decode cX0_barredPowers 19 = .ok (.ifCond .eq 6, 3) := by decide +kernel
theorem dX0_barredPowers_22 : decode cX0_barredPowers 22 = .ok (.iinc 1 1, 3) := by decide +kernel
theorem dX0_barredPowers_25 : decode cX0_barredPowers 25 = .ok (.iinc 2 1, 3) := by decide +kernel
theorem dX0_barredPowers_28 : decode cX0_barredPowers 28 = .ok (.goto (-24), 3) := by decide +kernel
theorem dX0_barredPowers_31 : decode cX0_barredPowers 31 = .ok (.iload_n 1, 1) := by decide +kernel
theorem dX0_barredPowers_32 : decode cX0_barredPowers 32 = .ok (.ireturn, 1) := by decide +kernel
theorem dX0_refusalOfTerm_0 : decode cX0_refusalOfTerm 0 = .ok (.aload_n 0, 1) := by decide +kernel
theorem dX0_refusalOfTerm_1 : decode cX0_refusalOfTerm 1 = .ok (.getfield 46, 3) := by decide +kernel
theorem dX0_refusalOfTerm_4 : decode cX0_refusalOfTerm 4 = .ok (.ifCond .eq 5, 3) := by decide +kernel
theorem dX0_refusalOfTerm_7 : decode cX0_refusalOfTerm 7 = .ok (.iconst 1, 1) := by decide +kernel
theorem dX0_refusalOfTerm_8 : decode cX0_refusalOfTerm 8 = .ok (.ireturn, 1) := by decide +kernel
theorem dX0_refusalOfTerm_9 : decode cX0_refusalOfTerm 9 = .ok (.aload_n 0, 1) := by decide +kernel
theorem dX0_refusalOfTerm_10 : decode cX0_refusalOfTerm 10 = .ok (.iload_n 2, 1) := by decide +kernel
theorem dX0_refusalOfTerm_11 : decode cX0_refusalOfTerm 11 = .ok (.invokevirtual 66, 3) := by decide +kernel
theorem dX0_refusalOfTerm_14 : decode cX0_refusalOfTerm 14 = .ok (.ifCond .eq 6, 3) := by decide +kernel
theorem dX0_refusalOfTerm_17 : decode cX0_refusalOfTerm 17 = .ok (.bipush 6, 2) := by decide +kernel
theorem dX0_refusalOfTerm_19 : decode cX0_refusalOfTerm 19 = .ok (.ireturn, 1) := by decide +kernel
theorem dX0_refusalOfTerm_20 : decode cX0_refusalOfTerm 20 = .ok (.aload_n 0, 1) := by decide +kernel
theorem dX0_refusalOfTerm_21 : decode cX0_refusalOfTerm 21 = .ok (.iload_n 2, 1) := by decide +kernel
theorem dX0_refusalOfTerm_22 : decode cX0_refusalOfTerm 22 = .ok (.invokevirtual 70, 3) := by decide +kernel
theorem dX0_refusalOfTerm_25 : decode cX0_refusalOfTerm 25 = .ok (.iload_n 1, 1) := by decide +kernel
theorem dX0_refusalOfTerm_26 : decode cX0_refusalOfTerm 26 = .ok (.iadd, 1) := by decide +kernel
theorem dX0_refusalOfTerm_27 : decode cX0_refusalOfTerm 27 = .ok (.istore_n 3, 1) := by decide +kernel
theorem dX0_refusalOfTerm_28 : decode cX0_refusalOfTerm 28 = .ok (.iload_n 3, 1) := by decide +kernel
theorem dX0_refusalOfTerm_29 : decode cX0_refusalOfTerm 29 = .ok (.bipush (-30), 2) := by decide +kernel
theorem dX0_refusalOfTerm_31 : decode cX0_refusalOfTerm 31 = .ok (.if_icmp .lt 9, 3) := by decide +kernel
theorem dX0_refusalOfTerm_34 : decode cX0_refusalOfTerm 34 = .ok (.iload_n 3, 1) := by decide +kernel
theorem dX0_refusalOfTerm_35 : decode cX0_refusalOfTerm 35 = .ok (.bipush 30, 2) := by decide +kernel
theorem dX0_refusalOfTerm_37 : decode cX0_refusalOfTerm 37 = .ok (.if_icmp .le 6, 3) := by decide +kernel
theorem dX0_refusalOfTerm_40 : decode cX0_refusalOfTerm 40 = .ok (.bipush 7, 2) := by decide +kernel
theorem dX0_refusalOfTerm_42 : decode cX0_refusalOfTerm 42 = .ok (.ireturn, 1) := by decide +kernel
theorem dX0_refusalOfTerm_43 : decode cX0_refusalOfTerm 43 = .ok (.iload_n 3, 1) := by decide +kernel
theorem dX0_refusalOfTerm_44 : decode cX0_refusalOfTerm 44 = .ok (.ifCond .ne 16, 3) := by decide +kernel
theorem dX0_refusalOfTerm_47 : decode cX0_refusalOfTerm 47 = .ok (.aload_n 0, 1) := by decide +kernel
theorem dX0_refusalOfTerm_48 : decode cX0_refusalOfTerm 48 = .ok (.iload_n 2, 1) := by decide +kernel
theorem dX0_refusalOfTerm_49 : decode cX0_refusalOfTerm 49 = .ok (.invokevirtual 73, 3) := by decide +kernel
theorem dX0_refusalOfTerm_52 : decode cX0_refusalOfTerm 52 = .ok (.ifCond .eq 8, 3) := by decide +kernel
theorem dX0_refusalOfTerm_55 : decode cX0_refusalOfTerm 55 = .ok (.bipush 8, 2) := by decide +kernel
theorem dX0_refusalOfTerm_57 : decode cX0_refusalOfTerm 57 = .ok (.goto 4, 3) := by decide +kernel
theorem dX0_refusalOfTerm_60 : decode cX0_refusalOfTerm 60 = .ok (.iconst 0, 1) := by decide +kernel
theorem dX0_refusalOfTerm_61 : decode cX0_refusalOfTerm 61 = .ok (.ireturn, 1) := by decide +kernel
theorem dX0_coefficientOf_0 : decode cX0_coefficientOf 0 = .ok (.iload_n 1, 1) := by decide +kernel
theorem dX0_coefficientOf_1 : decode cX0_coefficientOf 1 = .ok (.ifCond .lt 17, 3) := by decide +kernel
theorem dX0_coefficientOf_4 : decode cX0_coefficientOf 4 = .ok (.iload_n 1, 1) := by decide +kernel
theorem dX0_coefficientOf_5 : decode cX0_coefficientOf 5 = .ok (.iconst 5, 1) := by decide +kernel
theorem dX0_coefficientOf_6 : decode cX0_coefficientOf 6 = .ok (.if_icmp .ge 12, 3) := by decide +kernel
theorem dX0_coefficientOf_9 : decode cX0_coefficientOf 9 = .ok (.aload_n 0, 1) := by decide +kernel
theorem dX0_coefficientOf_10 : decode cX0_coefficientOf 10 = .ok (.getfield 15, 3) := by decide +kernel
theorem dX0_coefficientOf_13 : decode cX0_coefficientOf 13 = .ok (.iload_n 1, 1) := by decide +kernel
theorem dX0_coefficientOf_14 : decode cX0_coefficientOf 14 = .ok (.iaload, 1) := by decide +kernel
theorem dX0_coefficientOf_15 : decode cX0_coefficientOf 15 = .ok (.goto 4, 3) := by decide +kernel
theorem dX0_coefficientOf_18 : decode cX0_coefficientOf 18 = .ok (.iconst 0, 1) := by decide +kernel
theorem dX0_coefficientOf_19 : decode cX0_coefficientOf 19 = .ok (.ireturn, 1) := by decide +kernel
theorem dX0_isZeroBut_0 : decode cX0_isZeroBut 0 = .ok (.iconst 0, 1) := by decide +kernel
theorem dX0_isZeroBut_1 : decode cX0_isZeroBut 1 = .ok (.istore_n 2, 1) := by decide +kernel
theorem dX0_isZeroBut_2 : decode cX0_isZeroBut 2 = .ok (.iload_n 2, 1) := by decide +kernel
theorem dX0_isZeroBut_3 : decode cX0_isZeroBut 3 = .ok (.iconst 5, 1) := by decide +kernel
theorem dX0_isZeroBut_4 : decode cX0_isZeroBut 4 = .ok (.if_icmp .ge 25, 3) := by decide +kernel
theorem dX0_isZeroBut_7 : decode cX0_isZeroBut 7 = .ok (.iload_n 2, 1) := by decide +kernel
theorem dX0_isZeroBut_8 : decode cX0_isZeroBut 8 = .ok (.iload_n 1, 1) := by decide +kernel
theorem dX0_isZeroBut_9 : decode cX0_isZeroBut 9 = .ok (.if_icmp .eq 14, 3) := by decide +kernel
theorem dX0_isZeroBut_12 : decode cX0_isZeroBut 12 = .ok (.aload_n 0, 1) := by decide +kernel
theorem dX0_isZeroBut_13 : decode cX0_isZeroBut 13 = .ok (.getfield 15, 3) := by decide +kernel
theorem dX0_isZeroBut_16 : decode cX0_isZeroBut 16 = .ok (.iload_n 2, 1) := by decide +kernel
theorem dX0_isZeroBut_17 : decode cX0_isZeroBut 17 = .ok (.iaload, 1) := by decide +kernel
theorem dX0_isZeroBut_18 : decode cX0_isZeroBut 18 = .ok (.ifCond .eq 5, 3) := by decide +kernel
theorem dX0_isZeroBut_21 : decode cX0_isZeroBut 21 = .ok (.iconst 0, 1) := by decide +kernel
theorem dX0_isZeroBut_22 : decode cX0_isZeroBut 22 = .ok (.ireturn, 1) := by decide +kernel
theorem dX0_isZeroBut_23 : decode cX0_isZeroBut 23 = .ok (.iinc 2 1, 3) := by decide +kernel
theorem dX0_isZeroBut_26 : decode cX0_isZeroBut 26 = .ok (.goto (-24), 3) := by decide +kernel
theorem dX0_isZeroBut_29 : decode cX0_isZeroBut 29 = .ok (.iconst 1, 1) := by decide +kernel
theorem dX0_isZeroBut_30 : decode cX0_isZeroBut 30 = .ok (.ireturn, 1) := by decide +kernel
theorem dX0_endTurn_0 : decode cX0_endTurn 0 = .ok (.iload_n 2, 1) := by decide +kernel
theorem dX0_endTurn_1 : decode cX0_endTurn 1 = .ok (.ifCond .lt 24, 3) := by decide +kernel
theorem dX0_endTurn_4 : decode cX0_endTurn 4 = .ok (.iload_n 2, 1) := by decide +kernel
theorem dX0_endTurn_5 : decode cX0_endTurn 5 = .ok (.iconst 5, 1) := by decide +kernel
theorem dX0_endTurn_6 : decode cX0_endTurn 6 = .ok (.if_icmp .ge 19, 3) := by decide +kernel
theorem dX0_endTurn_9 : decode cX0_endTurn 9 = .ok (.aload_n 0, 1) := by decide +kernel
theorem dX0_endTurn_10 : decode cX0_endTurn 10 = .ok (.getfield 42, 3) := by decide +kernel
theorem dX0_endTurn_13 : decode cX0_endTurn 13 = .ok (.ifCond .lt 12, 3) := by decide +kernel
theorem dX0_endTurn_16 : decode cX0_endTurn 16 = .ok (.aload_n 0, 1) := by decide +kernel
theorem dX0_endTurn_17 : decode cX0_endTurn 17 = .ok (.getfield 42, 3) := by decide +kernel
theorem dX0_endTurn_20 : decode cX0_endTurn 20 = .ok (.bipush 60, 2) := by decide +kernel
theorem dX0_endTurn_22 : decode cX0_endTurn 22 = .ok (.if_icmp .lt 4, 3) := by decide +kernel
theorem dX0_endTurn_25 : decode cX0_endTurn 25 = .ok (.return_, 1) := by decide +kernel
theorem dX0_endTurn_26 : decode cX0_endTurn 26 = .ok (.aload_n 0, 1) := by decide +kernel
theorem dX0_endTurn_27 : decode cX0_endTurn 27 = .ok (.invokevirtual 76, 3) := by decide +kernel
theorem dX0_endTurn_30 : decode cX0_endTurn 30 = .ok (.istore 4, 2) := by decide +kernel
theorem dX0_endTurn_32 : decode cX0_endTurn 32 = .ok (.aload_n 0, 1) := by decide +kernel
theorem dX0_endTurn_33 : decode cX0_endTurn 33 = .ok (.getfield 18, 3) := by decide +kernel
theorem dX0_endTurn_36 : decode cX0_endTurn 36 = .ok (.aload_n 0, 1) := by decide +kernel
theorem dX0_endTurn_37 : decode cX0_endTurn 37 = .ok (.getfield 42, 3) := by decide +kernel
theorem dX0_endTurn_40 : decode cX0_endTurn 40 = .ok (.iload_n 1, 1) := by decide +kernel
theorem dX0_endTurn_41 : decode cX0_endTurn 41 = .ok (.iastore, 1) := by decide +kernel
theorem dX0_endTurn_42 : decode cX0_endTurn 42 = .ok (.aload_n 0, 1) := by decide +kernel
theorem dX0_endTurn_43 : decode cX0_endTurn 43 = .ok (.getfield 21, 3) := by decide +kernel
theorem dX0_endTurn_46 : decode cX0_endTurn 46 = .ok (.aload_n 0, 1) := by decide +kernel
theorem dX0_endTurn_47 : decode cX0_endTurn 47 = .ok (.getfield 42, 3) := by decide +kernel
theorem dX0_endTurn_50 : decode cX0_endTurn 50 = .ok (.iload_n 2, 1) := by decide +kernel
theorem dX0_endTurn_51 : decode cX0_endTurn 51 = .ok (.iastore, 1) := by decide +kernel
theorem dX0_endTurn_52 : decode cX0_endTurn 52 = .ok (.aload_n 0, 1) := by decide +kernel
theorem dX0_endTurn_53 : decode cX0_endTurn 53 = .ok (.getfield 15, 3) := by decide +kernel
theorem dX0_endTurn_56 : decode cX0_endTurn 56 = .ok (.iload_n 2, 1) := by decide +kernel
theorem dX0_endTurn_57 : decode cX0_endTurn 57 = .ok (.dup2, 1) := by decide +kernel
theorem dX0_endTurn_58 : decode cX0_endTurn 58 = .ok (.iaload, 1) := by decide +kernel
theorem dX0_endTurn_59 : decode cX0_endTurn 59 = .ok (.iload_n 1, 1) := by decide +kernel
theorem dX0_endTurn_60 : decode cX0_endTurn 60 = .ok (.iadd, 1) := by decide +kernel
theorem dX0_endTurn_61 : decode cX0_endTurn 61 = .ok (.iastore, 1) := by decide +kernel
theorem dX0_endTurn_62 : decode cX0_endTurn 62 = .ok (.aload_n 0, 1) := by decide +kernel
theorem dX0_endTurn_63 : decode cX0_endTurn 63 = .ok (.dup, 1) := by decide +kernel
theorem dX0_endTurn_64 : decode cX0_endTurn 64 = .ok (.getfield 42, 3) := by decide +kernel
theorem dX0_endTurn_67 : decode cX0_endTurn 67 = .ok (.iconst 1, 1) := by decide +kernel
theorem dX0_endTurn_68 : decode cX0_endTurn 68 = .ok (.iadd, 1) := by decide +kernel
theorem dX0_endTurn_69 : decode cX0_endTurn 69 = .ok (.putfield 42, 3) := by decide +kernel
theorem dX0_endTurn_72 : decode cX0_endTurn 72 = .ok (.iconst 0, 1) := by decide +kernel
theorem dX0_endTurn_73 : decode cX0_endTurn 73 = .ok (.istore 5, 2) := by decide +kernel
theorem dX0_endTurn_75 : decode cX0_endTurn 75 = .ok (.iload_n 1, 1) := by decide +kernel
theorem dX0_endTurn_76 : decode cX0_endTurn 76 = .ok (.ifCond .eq 31, 3) := by decide +kernel
theorem dX0_endTurn_79 : decode cX0_endTurn 79 = .ok (.aload_n 0, 1) := by decide +kernel
theorem dX0_endTurn_80 : decode cX0_endTurn 80 = .ok (.getfield 9, 3) := by decide +kernel
theorem dX0_endTurn_83 : decode cX0_endTurn 83 = .ok (.iconst 4, 1) := by decide +kernel
theorem dX0_endTurn_84 : decode cX0_endTurn 84 = .ok (.iaload, 1) := by decide +kernel
theorem dX0_endTurn_85 : decode cX0_endTurn 85 = .ok (.ifCond .le 22, 3) := by decide +kernel
theorem dX0_endTurn_88 : decode cX0_endTurn 88 = .ok (.aload_n 3, 1) := by decide +kernel
theorem dX0_endTurn_89 : decode cX0_endTurn 89 = .ok (.aload_n 0, 1) := by decide +kernel
theorem dX0_endTurn_90 : decode cX0_endTurn 90 = .ok (.getfield 15, 3) := by decide +kernel
theorem dX0_endTurn_93 : decode cX0_endTurn 93 = .ok (.invokevirtual 80, 3) := by decide +kernel
theorem dX0_endTurn_96 : decode cX0_endTurn 96 = .ok (.aload_n 3, 1) := by decide +kernel
theorem dX0_endTurn_97 : decode cX0_endTurn 97 = .ok (.invokevirtual 86, 3) := by decide +kernel
theorem dX0_endTurn_100 : decode cX0_endTurn 100 = .ok (.aload_n 0, 1) := by decide +kernel
theorem dX0_endTurn_101 : decode cX0_endTurn 101 = .ok (.aload_n 3, 1) := by decide +kernel
theorem dX0_endTurn_102 : decode cX0_endTurn 102 = .ok (.invokevirtual 89, 3) := by decide +kernel
theorem dX0_endTurn_105 : decode cX0_endTurn 105 = .ok (.istore 5, 2) := by decide +kernel
theorem dX0_endTurn_107 : decode cX0_endTurn 107 = .ok (.iload 5, 2) := by decide +kernel
theorem dX0_endTurn_109 : decode cX0_endTurn 109 = .ok (.ifCond .eq 9, 3) := by decide +kernel
theorem dX0_endTurn_112 : decode cX0_endTurn 112 = .ok (.aload_n 0, 1) := by decide +kernel
theorem dX0_endTurn_113 : decode cX0_endTurn 113 = .ok (.iload 4, 2) := by decide +kernel
theorem dX0_endTurn_115 : decode cX0_endTurn 115 = .ok (.putfield 50, 3) := by decide +kernel
theorem dX0_endTurn_118 : decode cX0_endTurn 118 = .ok (.aload_n 0, 1) := by decide +kernel
theorem dX0_endTurn_119 : decode cX0_endTurn 119 = .ok (.iload 5, 2) := by decide +kernel
theorem dX0_endTurn_121 : decode cX0_endTurn 121 = .ok (.ifCond .ne 36, 3) := by decide +kernel
theorem dX0_endTurn_124 : decode cX0_endTurn 124 = .ok (.aload_n 0, 1) := by decide +kernel
theorem dX0_endTurn_125 : decode cX0_endTurn 125 = .ok (.getfield 42, 3) := by decide +kernel
theorem dX0_endTurn_128 : decode cX0_endTurn 128 = .ok (.aload_n 0, 1) := by decide +kernel
theorem dX0_endTurn_129 : decode cX0_endTurn 129 = .ok (.getfield 9, 3) := by decide +kernel
theorem dX0_endTurn_132 : decode cX0_endTurn 132 = .ok (.iconst 2, 1) := by decide +kernel
theorem dX0_endTurn_133 : decode cX0_endTurn 133 = .ok (.iaload, 1) := by decide +kernel
theorem dX0_endTurn_134 : decode cX0_endTurn 134 = .ok (.if_icmp .ge 23, 3) := by decide +kernel
theorem dX0_endTurn_137 : decode cX0_endTurn 137 = .ok (.aload_n 0, 1) := by decide +kernel
theorem dX0_endTurn_138 : decode cX0_endTurn 138 = .ok (.invokevirtual 93, 3) := by decide +kernel
theorem dX0_endTurn_141 : decode cX0_endTurn 141 = .ok (.ifCond .ne 16, 3) := by decide +kernel
theorem dX0_endTurn_144 : decode cX0_endTurn 144 = .ok (.aload_n 0, 1) := by decide +kernel
theorem dX0_endTurn_145 : decode cX0_endTurn 145 = .ok (.invokevirtual 97, 3) := by decide +kernel
theorem dX0_endTurn_148 : decode cX0_endTurn 148 = .ok (.aload_n 0, 1) := by decide +kernel
theorem dX0_endTurn_149 : decode cX0_endTurn 149 = .ok (.getfield 9, 3) := by decide +kernel
theorem dX0_endTurn_152 : decode cX0_endTurn 152 = .ok (.iconst 0, 1) := by decide +kernel
theorem dX0_endTurn_153 : decode cX0_endTurn 153 = .ok (.iaload, 1) := by decide +kernel
theorem dX0_endTurn_154 : decode cX0_endTurn 154 = .ok (.if_icmp .ne 7, 3) := by decide +kernel
theorem dX0_endTurn_157 : decode cX0_endTurn 157 = .ok (.iconst 1, 1) := by decide +kernel
theorem dX0_endTurn_158 : decode cX0_endTurn 158 = .ok (.goto 4, 3) := by decide +kernel
theorem dX0_endTurn_161 : decode cX0_endTurn 161 = .ok (.iconst 0, 1) := by decide +kernel
theorem dX0_endTurn_162 : decode cX0_endTurn 162 = .ok (.putfield 46, 3) := by decide +kernel
theorem dX0_endTurn_165 : decode cX0_endTurn 165 = .ok (.return_, 1) := by decide +kernel
theorem dX0_isGoalReached_0 : decode cX0_isGoalReached 0 = .ok (.aload_n 0, 1) := by decide +kernel
theorem dX0_isGoalReached_1 : decode cX0_isGoalReached 1 = .ok (.getfield 9, 3) := by decide +kernel
theorem dX0_isGoalReached_4 : decode cX0_isGoalReached 4 = .ok (.iconst 4, 1) := by decide +kernel
theorem dX0_isGoalReached_5 : decode cX0_isGoalReached 5 = .ok (.iaload, 1) := by decide +kernel
theorem dX0_isGoalReached_6 : decode cX0_isGoalReached 6 = .ok (.ifCond .le 20, 3) := by decide +kernel
theorem dX0_isGoalReached_9 : decode cX0_isGoalReached 9 = .ok (.aload_n 1, 1) := by decide +kernel
theorem dX0_isGoalReached_10 : decode cX0_isGoalReached 10 = .ok (.invokevirtual 100, 3) := by decide +kernel
theorem dX0_isGoalReached_13 : decode cX0_isGoalReached 13 = .ok (.aload_n 0, 1) := by decide +kernel
theorem dX0_isGoalReached_14 : decode cX0_isGoalReached 14 = .ok (.getfield 9, 3) := by decide +kernel
theorem dX0_isGoalReached_17 : decode cX0_isGoalReached 17 = .ok (.iconst 4, 1) := by decide +kernel
theorem dX0_isGoalReached_18 : decode cX0_isGoalReached 18 = .ok (.iaload, 1) := by decide +kernel
theorem dX0_isGoalReached_19 : decode cX0_isGoalReached 19 = .ok (.if_icmp .lt 7, 3) := by decide +kernel
theorem dX0_isGoalReached_22 : decode cX0_isGoalReached 22 = .ok (.iconst 1, 1) := by decide +kernel
theorem dX0_isGoalReached_23 : decode cX0_isGoalReached 23 = .ok (.goto 4, 3) := by decide +kernel
theorem dX0_isGoalReached_26 : decode cX0_isGoalReached 26 = .ok (.iconst 0, 1) := by decide +kernel
theorem dX0_isGoalReached_27 : decode cX0_isGoalReached 27 = .ok (.ireturn, 1) := by decide +kernel
theorem dX0_endsWithTwoPasses_0 : decode cX0_endsWithTwoPasses 0 = .ok (.aload_n 0, 1) := by decide +kernel
theorem dX0_endsWithTwoPasses_1 : decode cX0_endsWithTwoPasses 1 = .ok (.getfield 42, 3) := by decide +kernel
theorem dX0_endsWithTwoPasses_4 : decode cX0_endsWithTwoPasses 4 = .ok (.iconst 2, 1) := by decide +kernel
theorem dX0_endsWithTwoPasses_5 : decode cX0_endsWithTwoPasses 5 = .ok (.if_icmp .lt 44, 3) := by decide +kernel
theorem dX0_endsWithTwoPasses_8 : decode cX0_endsWithTwoPasses 8 = .ok (.aload_n 0, 1) := by decide +kernel
theorem dX0_endsWithTwoPasses_9 : decode cX0_endsWithTwoPasses 9 = .ok (.getfield 42, 3) := by decide +kernel
theorem dX0_endsWithTwoPasses_12 : decode cX0_endsWithTwoPasses 12 = .ok (.bipush 60, 2) := by decide +kernel
theorem dX0_endsWithTwoPasses_14 : decode cX0_endsWithTwoPasses 14 = .ok (.if_icmp .gt 35, 3) := by decide +kernel
theorem dX0_endsWithTwoPasses_17 : decode cX0_endsWithTwoPasses 17 = .ok (.aload_n 0, 1) := by decide +kernel
theorem dX0_endsWithTwoPasses_18 : decode cX0_endsWithTwoPasses 18 = .ok (.getfield 18, 3) := by decide +kernel
theorem dX0_endsWithTwoPasses_21 : decode cX0_endsWithTwoPasses 21 = .ok (.aload_n 0, 1) := by decide +kernel
theorem dX0_endsWithTwoPasses_22 : decode cX0_endsWithTwoPasses 22 = .ok (.getfield 42, 3) := by decide +kernel
theorem dX0_endsWithTwoPasses_25 : decode cX0_endsWithTwoPasses 25 = .ok (.iconst 1, 1) := by decide +kernel
theorem dX0_endsWithTwoPasses_26 : decode cX0_endsWithTwoPasses 26 = .ok (.isub, 1) := by decide +kernel
theorem dX0_endsWithTwoPasses_27 : decode cX0_endsWithTwoPasses 27 = .ok (.iaload, 1) := by decide +kernel
theorem dX0_endsWithTwoPasses_28 : decode cX0_endsWithTwoPasses 28 = .ok (.ifCond .ne 21, 3) := by decide +kernel
theorem dX0_endsWithTwoPasses_31 : decode cX0_endsWithTwoPasses 31 = .ok (.aload_n 0, 1) := by decide +kernel
theorem dX0_endsWithTwoPasses_32 : decode cX0_endsWithTwoPasses 32 = .ok (.getfield 18, 3) := by decide +kernel
theorem dX0_endsWithTwoPasses_35 : decode cX0_endsWithTwoPasses 35 = .ok (.aload_n 0, 1) := by decide +kernel
theorem dX0_endsWithTwoPasses_36 : decode cX0_endsWithTwoPasses 36 = .ok (.getfield 42, 3) := by decide +kernel
theorem dX0_endsWithTwoPasses_39 : decode cX0_endsWithTwoPasses 39 = .ok (.iconst 2, 1) := by decide +kernel
theorem dX0_endsWithTwoPasses_40 : decode cX0_endsWithTwoPasses 40 = .ok (.isub, 1) := by decide +kernel
theorem dX0_endsWithTwoPasses_41 : decode cX0_endsWithTwoPasses 41 = .ok (.iaload, 1) := by decide +kernel
theorem dX0_endsWithTwoPasses_42 : decode cX0_endsWithTwoPasses 42 = .ok (.ifCond .ne 7, 3) := by decide +kernel
theorem dX0_endsWithTwoPasses_45 : decode cX0_endsWithTwoPasses 45 = .ok (.iconst 1, 1) := by decide +kernel
theorem dX0_endsWithTwoPasses_46 : decode cX0_endsWithTwoPasses 46 = .ok (.goto 4, 3) := by decide +kernel
theorem dX0_endsWithTwoPasses_49 : decode cX0_endsWithTwoPasses 49 = .ok (.iconst 0, 1) := by decide +kernel
theorem dX0_endsWithTwoPasses_50 : decode cX0_endsWithTwoPasses 50 = .ok (.ireturn, 1) := by decide +kernel
theorem dX0_claimField_0 : decode cX0_claimField 0 = .ok (.iload_n 1, 1) := by decide +kernel
theorem dX0_claimField_1 : decode cX0_claimField 1 = .ok (.iconst 4, 1) := by decide +kernel
theorem dX0_claimField_2 : decode cX0_claimField 2 = .ok (.imul, 1) := by decide +kernel
theorem dX0_claimField_3 : decode cX0_claimField 3 = .ok (.iload_n 2, 1) := by decide +kernel
theorem dX0_claimField_4 : decode cX0_claimField 4 = .ok (.iadd, 1) := by decide +kernel
theorem dX0_claimField_5 : decode cX0_claimField 5 = .ok (.bipush 6, 2) := by decide +kernel
theorem dX0_claimField_7 : decode cX0_claimField 7 = .ok (.imul, 1) := by decide +kernel
theorem dX0_claimField_8 : decode cX0_claimField 8 = .ok (.iload_n 3, 1) := by decide +kernel
theorem dX0_claimField_9 : decode cX0_claimField 9 = .ok (.iadd, 1) := by decide +kernel
theorem dX0_claimField_10 : decode cX0_claimField 10 = .ok (.istore 4, 2) := by decide +kernel
theorem dX0_claimField_12 : decode cX0_claimField 12 = .ok (.iload 4, 2) := by decide +kernel
theorem dX0_claimField_14 : decode cX0_claimField 14 = .ok (.ifCond .lt 23, 3) := by decide +kernel
theorem dX0_claimField_17 : decode cX0_claimField 17 = .ok (.iload 4, 2) := by decide +kernel
theorem dX0_claimField_19 : decode cX0_claimField 19 = .ok (.aload_n 0, 1) := by decide +kernel
theorem dX0_claimField_20 : decode cX0_claimField 20 = .ok (.getfield 24, 3) := by decide +kernel
theorem dX0_claimField_23 : decode cX0_claimField 23 = .ok (.arraylength, 1) := by decide +kernel
theorem dX0_claimField_24 : decode cX0_claimField 24 = .ok (.if_icmp .ge 13, 3) := by decide +kernel
theorem dX0_claimField_27 : decode cX0_claimField 27 = .ok (.aload_n 0, 1) := by decide +kernel
theorem dX0_claimField_28 : decode cX0_claimField 28 = .ok (.getfield 24, 3) := by decide +kernel
theorem dX0_claimField_31 : decode cX0_claimField 31 = .ok (.iload 4, 2) := by decide +kernel
theorem dX0_claimField_33 : decode cX0_claimField 33 = .ok (.iaload, 1) := by decide +kernel
theorem dX0_claimField_34 : decode cX0_claimField 34 = .ok (.goto 4, 3) := by decide +kernel
theorem dX0_claimField_37 : decode cX0_claimField 37 = .ok (.iconst (-1), 1) := by decide +kernel
theorem dX0_claimField_38 : decode cX0_claimField 38 = .ok (.ireturn, 1) := by decide +kernel
theorem dX0_claimsOf_0 : decode cX0_claimsOf 0 = .ok (.iload_n 1, 1) := by decide +kernel
theorem dX0_claimsOf_1 : decode cX0_claimsOf 1 = .ok (.invokestatic 103, 3) := by decide +kernel
theorem dX0_claimsOf_4 : decode cX0_claimsOf 4 = .ok (.ifCond .eq 12, 3) := by decide +kernel
theorem dX0_claimsOf_7 : decode cX0_claimsOf 7 = .ok (.aload_n 0, 1) := by decide +kernel
theorem dX0_claimsOf_8 : decode cX0_claimsOf 8 = .ok (.getfield 27, 3) := by decide +kernel
theorem dX0_claimsOf_11 : decode cX0_claimsOf 11 = .ok (.iload_n 1, 1) := by decide +kernel
theorem dX0_claimsOf_12 : decode cX0_claimsOf 12 = .ok (.iaload, 1) := by decide +kernel
theorem dX0_claimsOf_13 : decode cX0_claimsOf 13 = .ok (.goto 4, 3) := by decide +kernel
theorem dX0_claimsOf_16 : decode cX0_claimsOf 16 = .ok (.iconst 0, 1) := by decide +kernel
theorem dX0_claimsOf_17 : decode cX0_claimsOf 17 = .ok (.ireturn, 1) := by decide +kernel
theorem dX0_hasClaimNow_0 : decode cX0_hasClaimNow 0 = .ok (.aload_n 0, 1) := by decide +kernel
theorem dX0_hasClaimNow_1 : decode cX0_hasClaimNow 1 = .ok (.invokevirtual 76, 3) := by decide +kernel
theorem dX0_hasClaimNow_4 : decode cX0_hasClaimNow 4 = .ok (.istore_n 1, 1) := by decide +kernel
theorem dX0_hasClaimNow_5 : decode cX0_hasClaimNow 5 = .ok (.aload_n 0, 1) := by decide +kernel
theorem dX0_hasClaimNow_6 : decode cX0_hasClaimNow 6 = .ok (.iload_n 1, 1) := by decide +kernel
theorem dX0_hasClaimNow_7 : decode cX0_hasClaimNow 7 = .ok (.invokevirtual 109, 3) := by decide +kernel
theorem dX0_hasClaimNow_10 : decode cX0_hasClaimNow 10 = .ok (.istore_n 2, 1) := by decide +kernel
theorem dX0_hasClaimNow_11 : decode cX0_hasClaimNow 11 = .ok (.iload_n 2, 1) := by decide +kernel
theorem dX0_hasClaimNow_12 : decode cX0_hasClaimNow 12 = .ok (.ifCond .le 23, 3) := by decide +kernel
theorem dX0_hasClaimNow_15 : decode cX0_hasClaimNow 15 = .ok (.aload_n 0, 1) := by decide +kernel
theorem dX0_hasClaimNow_16 : decode cX0_hasClaimNow 16 = .ok (.iload_n 1, 1) := by decide +kernel
theorem dX0_hasClaimNow_17 : decode cX0_hasClaimNow 17 = .ok (.iload_n 2, 1) := by decide +kernel
theorem dX0_hasClaimNow_18 : decode cX0_hasClaimNow 18 = .ok (.iconst 1, 1) := by decide +kernel
theorem dX0_hasClaimNow_19 : decode cX0_hasClaimNow 19 = .ok (.isub, 1) := by decide +kernel
theorem dX0_hasClaimNow_20 : decode cX0_hasClaimNow 20 = .ok (.iconst 5, 1) := by decide +kernel
theorem dX0_hasClaimNow_21 : decode cX0_hasClaimNow 21 = .ok (.invokevirtual 112, 3) := by decide +kernel
theorem dX0_hasClaimNow_24 : decode cX0_hasClaimNow 24 = .ok (.aload_n 0, 1) := by decide +kernel
theorem dX0_hasClaimNow_25 : decode cX0_hasClaimNow 25 = .ok (.getfield 42, 3) := by decide +kernel
theorem dX0_hasClaimNow_28 : decode cX0_hasClaimNow 28 = .ok (.if_icmp .ne 7, 3) := by decide +kernel
theorem dX0_hasClaimNow_31 : decode cX0_hasClaimNow 31 = .ok (.iconst 1, 1) := by decide +kernel
theorem dX0_hasClaimNow_32 : decode cX0_hasClaimNow 32 = .ok (.goto 4, 3) := by decide +kernel
theorem dX0_hasClaimNow_35 : decode cX0_hasClaimNow 35 = .ok (.iconst 0, 1) := by decide +kernel
theorem dX0_hasClaimNow_36 : decode cX0_hasClaimNow 36 = .ok (.ireturn, 1) := by decide +kernel
theorem dX0_stakes_0 : decode cX0_stakes 0 = .ok (.iconst 0, 1) := by decide +kernel
theorem dX0_stakes_1 : decode cX0_stakes 1 = .ok (.istore_n 2, 1) := by decide +kernel
theorem dX0_stakes_2 : decode cX0_stakes 2 = .ok (.iconst 0, 1) := by decide +kernel
theorem dX0_stakes_3 : decode cX0_stakes 3 = .ok (.istore_n 3, 1) := by decide +kernel
theorem dX0_stakes_4 : decode cX0_stakes 4 = .ok (.iload_n 3, 1) := by decide +kernel
theorem dX0_stakes_5 : decode cX0_stakes 5 = .ok (.aload_n 0, 1) := by decide +kernel
theorem dX0_stakes_6 : decode cX0_stakes 6 = .ok (.iload_n 1, 1) := by decide +kernel
theorem dX0_stakes_7 : decode cX0_stakes 7 = .ok (.invokevirtual 109, 3) := by decide +kernel
theorem dX0_stakes_10 : decode cX0_stakes 10 = .ok (.if_icmp .ge 19, 3) := by decide +kernel
theorem dX0_stakes_13 : decode cX0_stakes 13 = .ok (.iload_n 2, 1) := by decide +kernel
theorem dX0_stakes_14 : decode cX0_stakes 14 = .ok (.aload_n 0, 1) := by decide +kernel
theorem dX0_stakes_15 : decode cX0_stakes 15 = .ok (.iload_n 1, 1) := by decide +kernel
theorem dX0_stakes_16 : decode cX0_stakes 16 = .ok (.iload_n 3, 1) := by decide +kernel
theorem dX0_stakes_17 : decode cX0_stakes 17 = .ok (.iconst 4, 1) := by decide +kernel
theorem dX0_stakes_18 : decode cX0_stakes 18 = .ok (.invokevirtual 112, 3) := by decide +kernel
theorem dX0_stakes_21 : decode cX0_stakes 21 = .ok (.iadd, 1) := by decide +kernel
theorem dX0_stakes_22 : decode cX0_stakes 22 = .ok (.istore_n 2, 1) := by decide +kernel
theorem dX0_stakes_23 : decode cX0_stakes 23 = .ok (.iinc 3 1, 3) := by decide +kernel
theorem dX0_stakes_26 : decode cX0_stakes 26 = .ok (.goto (-22), 3) := by decide +kernel
theorem dX0_stakes_29 : decode cX0_stakes 29 = .ok (.iload_n 2, 1) := by decide +kernel
theorem dX0_stakes_30 : decode cX0_stakes 30 = .ok (.ireturn, 1) := by decide +kernel
theorem dX0_refusalOfClaim_0 : decode cX0_refusalOfClaim 0 = .ok (.aload_n 0, 1) := by decide +kernel
theorem dX0_refusalOfClaim_1 : decode cX0_refusalOfClaim 1 = .ok (.invokevirtual 76, 3) := by decide +kernel
theorem dX0_refusalOfClaim_4 : decode cX0_refusalOfClaim 4 = .ok (.istore 4, 2) := by decide +kernel
theorem dX0_refusalOfClaim_6 : decode cX0_refusalOfClaim 6 = .ok (.aload_n 0, 1) := by decide +kernel
theorem dX0_refusalOfClaim_7 : decode cX0_refusalOfClaim 7 = .ok (.getfield 46, 3) := by decide +kernel
theorem dX0_refusalOfClaim_10 : decode cX0_refusalOfClaim 10 = .ok (.ifCond .eq 5, 3) := by decide +kernel
theorem dX0_refusalOfClaim_13 : decode cX0_refusalOfClaim 13 = .ok (.iconst 1, 1) := by decide +kernel
theorem dX0_refusalOfClaim_14 : decode cX0_refusalOfClaim 14 = .ok (.ireturn, 1) := by decide +kernel
theorem dX0_refusalOfClaim_15 : decode cX0_refusalOfClaim 15 = .ok (.aload_n 0, 1) := by decide +kernel
theorem dX0_refusalOfClaim_16 : decode cX0_refusalOfClaim 16 = .ok (.invokevirtual 106, 3) := by decide +kernel
theorem dX0_refusalOfClaim_19 : decode cX0_refusalOfClaim 19 = .ok (.ifCond .eq 5, 3) := by decide +kernel
theorem dX0_refusalOfClaim_22 : decode cX0_refusalOfClaim 22 = .ok (.iconst 2, 1) := by decide +kernel
theorem dX0_refusalOfClaim_23 : decode cX0_refusalOfClaim 23 = .ok (.ireturn, 1) := by decide +kernel
theorem dX0_refusalOfClaim_24 : decode cX0_refusalOfClaim 24 = .ok (.aload_n 0, 1) := by decide +kernel
theorem dX0_refusalOfClaim_25 : decode cX0_refusalOfClaim 25 = .ok (.iload 4, 2) := by decide +kernel
theorem dX0_refusalOfClaim_27 : decode cX0_refusalOfClaim 27 = .ok (.invokevirtual 109, 3) := by decide +kernel
theorem dX0_refusalOfClaim_30 : decode cX0_refusalOfClaim 30 = .ok (.iconst 4, 1) := by decide +kernel
theorem dX0_refusalOfClaim_31 : decode cX0_refusalOfClaim 31 = .ok (.if_icmp .lt 5, 3) := by decide +kernel
theorem dX0_refusalOfClaim_34 : decode cX0_refusalOfClaim 34 = .ok (.iconst 3, 1) := by decide +kernel
theorem dX0_refusalOfClaim_35 : decode cX0_refusalOfClaim 35 = .ok (.ireturn, 1) := by decide +kernel
theorem dX0_refusalOfClaim_36 : decode cX0_refusalOfClaim 36 = .ok (.aload_n 0, 1) := by decide +kernel
theorem dX0_refusalOfClaim_37 : decode cX0_refusalOfClaim 37 = .ok (.iload 4, 2) := by decide +kernel
theorem dX0_refusalOfClaim_39 : decode cX0_refusalOfClaim 39 = .ok (.iload_n 1, 1) := by decide +kernel
theorem dX0_refusalOfClaim_40 : decode cX0_refusalOfClaim 40 = .ok (.iload_n 2, 1) := by decide +kernel
theorem dX0_refusalOfClaim_41 : decode cX0_refusalOfClaim 41 = .ok (.invokevirtual 116, 3) := by decide +kernel
theorem dX0_refusalOfClaim_44 : decode cX0_refusalOfClaim 44 = .ok (.ifCond .eq 5, 3) := by decide +kernel
theorem dX0_refusalOfClaim_47 : decode cX0_refusalOfClaim 47 = .ok (.iconst 4, 1) := by decide +kernel
theorem dX0_refusalOfClaim_48 : decode cX0_refusalOfClaim 48 = .ok (.ireturn, 1) := by decide +kernel
theorem dX0_refusalOfClaim_49 : decode cX0_refusalOfClaim 49 = .ok (.aload_n 0, 1) := by decide +kernel
theorem dX0_refusalOfClaim_50 : decode cX0_refusalOfClaim 50 = .ok (.iload 4, 2) := by decide +kernel
theorem dX0_refusalOfClaim_52 : decode cX0_refusalOfClaim 52 = .ok (.invokevirtual 120, 3) := by decide +kernel
theorem dX0_refusalOfClaim_55 : decode cX0_refusalOfClaim 55 = .ok (.iload_n 3, 1) := by decide +kernel
theorem dX0_refusalOfClaim_56 : decode cX0_refusalOfClaim 56 = .ok (.iadd, 1) := by decide +kernel
theorem dX0_refusalOfClaim_57 : decode cX0_refusalOfClaim 57 = .ok (.aload_n 0, 1) := by decide +kernel
theorem dX0_refusalOfClaim_58 : decode cX0_refusalOfClaim 58 = .ok (.getfield 9, 3) := by decide +kernel
theorem dX0_refusalOfClaim_61 : decode cX0_refusalOfClaim 61 = .ok (.bipush 6, 2) := by decide +kernel
theorem dX0_refusalOfClaim_63 : decode cX0_refusalOfClaim 63 = .ok (.iaload, 1) := by decide +kernel
theorem dX0_refusalOfClaim_64 : decode cX0_refusalOfClaim 64 = .ok (.if_icmp .le 7, 3) := by decide +kernel
theorem dX0_refusalOfClaim_67 : decode cX0_refusalOfClaim 67 = .ok (.iconst 5, 1) := by decide +kernel
theorem dX0_refusalOfClaim_68 : decode cX0_refusalOfClaim 68 = .ok (.goto 4, 3) := by decide +kernel
theorem dX0_refusalOfClaim_71 : decode cX0_refusalOfClaim 71 = .ok (.iconst 0, 1) := by decide +kernel
theorem dX0_refusalOfClaim_72 : decode cX0_refusalOfClaim 72 = .ok (.ireturn, 1) := by decide +kernel
theorem dX0_overlaps_0 : decode cX0_overlaps 0 = .ok (.iconst 0, 1) := by decide +kernel
theorem dX0_overlaps_1 : decode cX0_overlaps 1 = .ok (.istore 4, 2) := by decide +kernel
theorem dX0_overlaps_3 : decode cX0_overlaps 3 = .ok (.iload 4, 2) := by decide +kernel
theorem dX0_overlaps_5 : decode cX0_overlaps 5 = .ok (.aload_n 0, 1) := by decide +kernel
theorem dX0_overlaps_6 : decode cX0_overlaps 6 = .ok (.iload_n 1, 1) := by decide +kernel
theorem dX0_overlaps_7 : decode cX0_overlaps 7 = .ok (.invokevirtual 109, 3) := by decide +kernel
theorem dX0_overlaps_10 : decode cX0_overlaps 10 = .ok (.if_icmp .ge 46, 3) := by decide +kernel
theorem dX0_overlaps_13 : decode cX0_overlaps 13 = .ok (.iload_n 2, 1) := by decide +kernel
theorem dX0_overlaps_14 : decode cX0_overlaps 14 = .ok (.aload_n 0, 1) := by decide +kernel
theorem dX0_overlaps_15 : decode cX0_overlaps 15 = .ok (.iload_n 1, 1) := by decide +kernel
theorem dX0_overlaps_16 : decode cX0_overlaps 16 = .ok (.iload 4, 2) := by decide +kernel
theorem dX0_overlaps_18 : decode cX0_overlaps 18 = .ok (.iconst 0, 1) := by decide +kernel
theorem dX0_overlaps_19 : decode cX0_overlaps 19 = .ok (.invokevirtual 112, 3) := by decide +kernel
theorem dX0_overlaps_22 : decode cX0_overlaps 22 = .ok (.invokestatic 123, 3) := by decide +kernel
theorem dX0_overlaps_25 : decode cX0_overlaps 25 = .ok (.istore 5, 2) := by decide +kernel
theorem dX0_overlaps_27 : decode cX0_overlaps 27 = .ok (.iload_n 3, 1) := by decide +kernel
theorem dX0_overlaps_28 : decode cX0_overlaps 28 = .ok (.aload_n 0, 1) := by decide +kernel
theorem dX0_overlaps_29 : decode cX0_overlaps 29 = .ok (.iload_n 1, 1) := by decide +kernel
theorem dX0_overlaps_30 : decode cX0_overlaps 30 = .ok (.iload 4, 2) := by decide +kernel
theorem dX0_overlaps_32 : decode cX0_overlaps 32 = .ok (.iconst 1, 1) := by decide +kernel
theorem dX0_overlaps_33 : decode cX0_overlaps 33 = .ok (.invokevirtual 112, 3) := by decide +kernel
theorem dX0_overlaps_36 : decode cX0_overlaps 36 = .ok (.invokestatic 53, 3) := by decide +kernel
theorem dX0_overlaps_39 : decode cX0_overlaps 39 = .ok (.istore 6, 2) := by decide +kernel
theorem dX0_overlaps_41 : decode cX0_overlaps 41 = .ok (.iload 5, 2) := by decide +kernel
theorem dX0_overlaps_43 : decode cX0_overlaps 43 = .ok (.iload 6, 2) := by decide +kernel
theorem dX0_overlaps_45 : decode cX0_overlaps 45 = .ok (.if_icmp .ge 5, 3) := by decide +kernel
theorem dX0_overlaps_48 : decode cX0_overlaps 48 = .ok (.iconst 1, 1) := by decide +kernel
theorem dX0_overlaps_49 : decode cX0_overlaps 49 = .ok (.ireturn, 1) := by decide +kernel
theorem dX0_overlaps_50 : decode cX0_overlaps 50 = .ok (.iinc 4 1, 3) := by decide +kernel
theorem dX0_overlaps_53 : decode cX0_overlaps 53 = .ok (.goto (-50), 3) := by decide +kernel
theorem dX0_overlaps_56 : decode cX0_overlaps 56 = .ok (.iconst 0, 1) := by decide +kernel
theorem dX0_overlaps_57 : decode cX0_overlaps 57 = .ok (.ireturn, 1) := by decide +kernel
theorem dX0_addClaim_0 : decode cX0_addClaim 0 = .ok (.aload_n 0, 1) := by decide +kernel
theorem dX0_addClaim_1 : decode cX0_addClaim 1 = .ok (.invokevirtual 76, 3) := by decide +kernel
theorem dX0_addClaim_4 : decode cX0_addClaim 4 = .ok (.istore 6, 2) := by decide +kernel
theorem dX0_addClaim_6 : decode cX0_addClaim 6 = .ok (.iload 6, 2) := by decide +kernel
theorem dX0_addClaim_8 : decode cX0_addClaim 8 = .ok (.iconst 4, 1) := by decide +kernel
theorem dX0_addClaim_9 : decode cX0_addClaim 9 = .ok (.imul, 1) := by decide +kernel
theorem dX0_addClaim_10 : decode cX0_addClaim 10 = .ok (.aload_n 0, 1) := by decide +kernel
theorem dX0_addClaim_11 : decode cX0_addClaim 11 = .ok (.iload 6, 2) := by decide +kernel
theorem dX0_addClaim_13 : decode cX0_addClaim 13 = .ok (.invokevirtual 109, 3) := by decide +kernel
theorem dX0_addClaim_16 : decode cX0_addClaim 16 = .ok (.iadd, 1) := by decide +kernel
theorem dX0_addClaim_17 : decode cX0_addClaim 17 = .ok (.bipush 6, 2) := by decide +kernel
theorem dX0_addClaim_19 : decode cX0_addClaim 19 = .ok (.imul, 1) := by decide +kernel
theorem dX0_addClaim_20 : decode cX0_addClaim 20 = .ok (.istore 7, 2) := by decide +kernel
theorem dX0_addClaim_22 : decode cX0_addClaim 22 = .ok (.iload 6, 2) := by decide +kernel
theorem dX0_addClaim_24 : decode cX0_addClaim 24 = .ok (.invokestatic 103, 3) := by decide +kernel
theorem dX0_addClaim_27 : decode cX0_addClaim 27 = .ok (.ifCond .eq 21, 3) := by decide +kernel
theorem dX0_addClaim_30 : decode cX0_addClaim 30 = .ok (.iload 7, 2) := by decide +kernel
theorem dX0_addClaim_32 : decode cX0_addClaim 32 = .ok (.ifCond .lt 16, 3) := by decide +kernel
theorem dX0_addClaim_35 : decode cX0_addClaim 35 = .ok (.iload 7, 2) := by decide +kernel
theorem dX0_addClaim_37 : decode cX0_addClaim 37 = .ok (.bipush 6, 2) := by decide +kernel
theorem dX0_addClaim_39 : decode cX0_addClaim 39 = .ok (.iadd, 1) := by decide +kernel
theorem dX0_addClaim_40 : decode cX0_addClaim 40 = .ok (.aload_n 0, 1) := by decide +kernel
theorem dX0_addClaim_41 : decode cX0_addClaim 41 = .ok (.getfield 24, 3) := by decide +kernel
theorem dX0_addClaim_44 : decode cX0_addClaim 44 = .ok (.arraylength, 1) := by decide +kernel
theorem dX0_addClaim_45 : decode cX0_addClaim 45 = .ok (.if_icmp .le 4, 3) := by decide +kernel
theorem dX0_addClaim_48 : decode cX0_addClaim 48 = .ok (.return_, 1) := by decide +kernel
theorem dX0_addClaim_49 : decode cX0_addClaim 49 = .ok (.aload_n 0, 1) := by decide +kernel
theorem dX0_addClaim_50 : decode cX0_addClaim 50 = .ok (.getfield 24, 3) := by decide +kernel
theorem dX0_addClaim_53 : decode cX0_addClaim 53 = .ok (.iload 7, 2) := by decide +kernel
theorem dX0_addClaim_55 : decode cX0_addClaim 55 = .ok (.iconst 0, 1) := by decide +kernel
theorem dX0_addClaim_56 : decode cX0_addClaim 56 = .ok (.iadd, 1) := by decide +kernel
theorem dX0_addClaim_57 : decode cX0_addClaim 57 = .ok (.iload_n 1, 1) := by decide +kernel
theorem dX0_addClaim_58 : decode cX0_addClaim 58 = .ok (.iastore, 1) := by decide +kernel
theorem dX0_addClaim_59 : decode cX0_addClaim 59 = .ok (.aload_n 0, 1) := by decide +kernel
theorem dX0_addClaim_60 : decode cX0_addClaim 60 = .ok (.getfield 24, 3) := by decide +kernel
theorem dX0_addClaim_63 : decode cX0_addClaim 63 = .ok (.iload 7, 2) := by decide +kernel
theorem dX0_addClaim_65 : decode cX0_addClaim 65 = .ok (.iconst 1, 1) := by decide +kernel
theorem dX0_addClaim_66 : decode cX0_addClaim 66 = .ok (.iadd, 1) := by decide +kernel
theorem dX0_addClaim_67 : decode cX0_addClaim 67 = .ok (.iload_n 2, 1) := by decide +kernel
theorem dX0_addClaim_68 : decode cX0_addClaim 68 = .ok (.iastore, 1) := by decide +kernel
theorem dX0_addClaim_69 : decode cX0_addClaim 69 = .ok (.aload_n 0, 1) := by decide +kernel
theorem dX0_addClaim_70 : decode cX0_addClaim 70 = .ok (.getfield 24, 3) := by decide +kernel
theorem dX0_addClaim_73 : decode cX0_addClaim 73 = .ok (.iload 7, 2) := by decide +kernel
theorem dX0_addClaim_75 : decode cX0_addClaim 75 = .ok (.iconst 2, 1) := by decide +kernel
theorem dX0_addClaim_76 : decode cX0_addClaim 76 = .ok (.iadd, 1) := by decide +kernel
theorem dX0_addClaim_77 : decode cX0_addClaim 77 = .ok (.iload_n 3, 1) := by decide +kernel
theorem dX0_addClaim_78 : decode cX0_addClaim 78 = .ok (.iastore, 1) := by decide +kernel
theorem dX0_addClaim_79 : decode cX0_addClaim 79 = .ok (.aload_n 0, 1) := by decide +kernel
theorem dX0_addClaim_80 : decode cX0_addClaim 80 = .ok (.getfield 24, 3) := by decide +kernel
theorem dX0_addClaim_83 : decode cX0_addClaim 83 = .ok (.iload 7, 2) := by decide +kernel
theorem dX0_addClaim_85 : decode cX0_addClaim 85 = .ok (.iconst 3, 1) := by decide +kernel
theorem dX0_addClaim_86 : decode cX0_addClaim 86 = .ok (.iadd, 1) := by decide +kernel
theorem dX0_addClaim_87 : decode cX0_addClaim 87 = .ok (.iload 4, 2) := by decide +kernel
theorem dX0_addClaim_89 : decode cX0_addClaim 89 = .ok (.iastore, 1) := by decide +kernel
theorem dX0_addClaim_90 : decode cX0_addClaim 90 = .ok (.aload_n 0, 1) := by decide +kernel
theorem dX0_addClaim_91 : decode cX0_addClaim 91 = .ok (.getfield 24, 3) := by decide +kernel
theorem dX0_addClaim_94 : decode cX0_addClaim 94 = .ok (.iload 7, 2) := by decide +kernel
theorem dX0_addClaim_96 : decode cX0_addClaim 96 = .ok (.iconst 4, 1) := by decide +kernel
theorem dX0_addClaim_97 : decode cX0_addClaim 97 = .ok (.iadd, 1) := by decide +kernel
theorem dX0_addClaim_98 : decode cX0_addClaim 98 = .ok (.iload 5, 2) := by decide +kernel
theorem dX0_addClaim_100 : decode cX0_addClaim 100 = .ok (.iastore, 1) := by decide +kernel
theorem dX0_addClaim_101 : decode cX0_addClaim 101 = .ok (.aload_n 0, 1) := by decide +kernel
theorem dX0_addClaim_102 : decode cX0_addClaim 102 = .ok (.getfield 24, 3) := by decide +kernel
theorem dX0_addClaim_105 : decode cX0_addClaim 105 = .ok (.iload 7, 2) := by decide +kernel
theorem dX0_addClaim_107 : decode cX0_addClaim 107 = .ok (.iconst 5, 1) := by decide +kernel
theorem dX0_addClaim_108 : decode cX0_addClaim 108 = .ok (.iadd, 1) := by decide +kernel
theorem dX0_addClaim_109 : decode cX0_addClaim 109 = .ok (.aload_n 0, 1) := by decide +kernel
theorem dX0_addClaim_110 : decode cX0_addClaim 110 = .ok (.getfield 42, 3) := by decide +kernel
theorem dX0_addClaim_113 : decode cX0_addClaim 113 = .ok (.iastore, 1) := by decide +kernel
theorem dX0_addClaim_114 : decode cX0_addClaim 114 = .ok (.aload_n 0, 1) := by decide +kernel
theorem dX0_addClaim_115 : decode cX0_addClaim 115 = .ok (.getfield 27, 3) := by decide +kernel
theorem dX0_addClaim_118 : decode cX0_addClaim 118 = .ok (.iload 6, 2) := by decide +kernel
theorem dX0_addClaim_120 : decode cX0_addClaim 120 = .ok (.dup2, 1) := by decide +kernel
theorem dX0_addClaim_121 : decode cX0_addClaim 121 = .ok (.iaload, 1) := by decide +kernel
theorem dX0_addClaim_122 : decode cX0_addClaim 122 = .ok (.iconst 1, 1) := by decide +kernel
theorem dX0_addClaim_123 : decode cX0_addClaim 123 = .ok (.iadd, 1) := by decide +kernel
theorem dX0_addClaim_124 : decode cX0_addClaim 124 = .ok (.iastore, 1) := by decide +kernel
theorem dX0_addClaim_125 : decode cX0_addClaim 125 = .ok (.return_, 1) := by decide +kernel
theorem dX0_isRight_0 : decode cX0_isRight 0 = .ok (.aload_n 3, 1) := by decide +kernel
theorem dX0_isRight_1 : decode cX0_isRight 1 = .ok (.getfield 126, 3) := by decide +kernel
theorem dX0_isRight_4 : decode cX0_isRight 4 = .ok (.ifCond .ne 5, 3) := by decide +kernel
theorem dX0_isRight_7 : decode cX0_isRight 7 = .ok (.iconst 0, 1) := by decide +kernel
theorem dX0_isRight_8 : decode cX0_isRight 8 = .ok (.ireturn, 1) := by decide +kernel
theorem dX0_isRight_9 : decode cX0_isRight 9 = .ok (.aload_n 0, 1) := by decide +kernel
theorem dX0_isRight_10 : decode cX0_isRight 10 = .ok (.iload_n 1, 1) := by decide +kernel
theorem dX0_isRight_11 : decode cX0_isRight 11 = .ok (.iload_n 2, 1) := by decide +kernel
theorem dX0_isRight_12 : decode cX0_isRight 12 = .ok (.iconst 2, 1) := by decide +kernel
theorem dX0_isRight_13 : decode cX0_isRight 13 = .ok (.invokevirtual 112, 3) := by decide +kernel
theorem dX0_isRight_16 : decode cX0_isRight 16 = .ok (.istore 4, 2) := by decide +kernel
theorem dX0_isRight_18 : decode cX0_isRight 18 = .ok (.aload_n 0, 1) := by decide +kernel
theorem dX0_isRight_19 : decode cX0_isRight 19 = .ok (.iload_n 1, 1) := by decide +kernel
theorem dX0_isRight_20 : decode cX0_isRight 20 = .ok (.iload_n 2, 1) := by decide +kernel
theorem dX0_isRight_21 : decode cX0_isRight 21 = .ok (.iconst 0, 1) := by decide +kernel
theorem dX0_isRight_22 : decode cX0_isRight 22 = .ok (.invokevirtual 112, 3) := by decide +kernel
theorem dX0_isRight_25 : decode cX0_isRight 25 = .ok (.istore 5, 2) := by decide +kernel
theorem dX0_isRight_27 : decode cX0_isRight 27 = .ok (.aload_n 0, 1) := by decide +kernel
theorem dX0_isRight_28 : decode cX0_isRight 28 = .ok (.iload_n 1, 1) := by decide +kernel
theorem dX0_isRight_29 : decode cX0_isRight 29 = .ok (.iload_n 2, 1) := by decide +kernel
theorem dX0_isRight_30 : decode cX0_isRight 30 = .ok (.iconst 1, 1) := by decide +kernel
theorem dX0_isRight_31 : decode cX0_isRight 31 = .ok (.invokevirtual 112, 3) := by decide +kernel
theorem dX0_isRight_34 : decode cX0_isRight 34 = .ok (.istore 6, 2) := by decide +kernel
theorem dX0_isRight_36 : decode cX0_isRight 36 = .ok (.aload_n 3, 1) := by decide +kernel
theorem dX0_isRight_37 : decode cX0_isRight 37 = .ok (.iload 5, 2) := by decide +kernel
theorem dX0_isRight_39 : decode cX0_isRight 39 = .ok (.iconst 0, 1) := by decide +kernel
theorem dX0_isRight_40 : decode cX0_isRight 40 = .ok (.invokevirtual 129, 3) := by decide +kernel
theorem dX0_isRight_43 : decode cX0_isRight 43 = .ok (.aload_n 3, 1) := by decide +kernel
theorem dX0_isRight_44 : decode cX0_isRight 44 = .ok (.iload 6, 2) := by decide +kernel
theorem dX0_isRight_46 : decode cX0_isRight 46 = .ok (.iconst 0, 1) := by decide +kernel
theorem dX0_isRight_47 : decode cX0_isRight 47 = .ok (.invokevirtual 129, 3) := by decide +kernel
theorem dX0_isRight_50 : decode cX0_isRight 50 = .ok (.isub, 1) := by decide +kernel
theorem dX0_isRight_51 : decode cX0_isRight 51 = .ok (.istore 7, 2) := by decide +kernel
theorem dX0_isRight_53 : decode cX0_isRight 53 = .ok (.iload 7, 2) := by decide +kernel
theorem dX0_isRight_55 : decode cX0_isRight 55 = .ok (.iload 4, 2) := by decide +kernel
theorem dX0_isRight_57 : decode cX0_isRight 57 = .ok (.if_icmp .eq 21, 3) := by decide +kernel
theorem dX0_isRight_60 : decode cX0_isRight 60 = .ok (.iload 7, 2) := by decide +kernel
theorem dX0_isRight_62 : decode cX0_isRight 62 = .ok (.iload 4, 2) := by decide +kernel
theorem dX0_isRight_64 : decode cX0_isRight 64 = .ok (.if_icmp .le 18, 3) := by decide +kernel
theorem dX0_isRight_67 : decode cX0_isRight 67 = .ok (.aload_n 0, 1) := by decide +kernel
theorem dX0_isRight_68 : decode cX0_isRight 68 = .ok (.iload_n 1, 1) := by decide +kernel
theorem dX0_isRight_69 : decode cX0_isRight 69 = .ok (.iload_n 2, 1) := by decide +kernel
theorem dX0_isRight_70 : decode cX0_isRight 70 = .ok (.iconst 3, 1) := by decide +kernel
theorem dX0_isRight_71 : decode cX0_isRight 71 = .ok (.invokevirtual 112, 3) := by decide +kernel
theorem dX0_isRight_74 : decode cX0_isRight 74 = .ok (.iconst 1, 1) := by decide +kernel
theorem dX0_isRight_75 : decode cX0_isRight 75 = .ok (.if_icmp .ne 7, 3) := by decide +kernel
theorem dX0_isRight_78 : decode cX0_isRight 78 = .ok (.iconst 1, 1) := by decide +kernel
theorem dX0_isRight_79 : decode cX0_isRight 79 = .ok (.goto 4, 3) := by decide +kernel
theorem dX0_isRight_82 : decode cX0_isRight 82 = .ok (.iconst 0, 1) := by decide +kernel
theorem dX0_isRight_83 : decode cX0_isRight 83 = .ok (.ireturn, 1) := by decide +kernel
theorem dX0_rightClaims_0 : decode cX0_rightClaims 0 = .ok (.iconst 0, 1) := by decide +kernel
theorem dX0_rightClaims_1 : decode cX0_rightClaims 1 = .ok (.istore_n 3, 1) := by decide +kernel
theorem dX0_rightClaims_2 : decode cX0_rightClaims 2 = .ok (.iconst 0, 1) := by decide +kernel
theorem dX0_rightClaims_3 : decode cX0_rightClaims 3 = .ok (.istore 4, 2) := by decide +kernel
theorem dX0_rightClaims_5 : decode cX0_rightClaims 5 = .ok (.iload 4, 2) := by decide +kernel
theorem dX0_rightClaims_7 : decode cX0_rightClaims 7 = .ok (.aload_n 0, 1) := by decide +kernel
theorem dX0_rightClaims_8 : decode cX0_rightClaims 8 = .ok (.iload_n 1, 1) := by decide +kernel
theorem dX0_rightClaims_9 : decode cX0_rightClaims 9 = .ok (.invokevirtual 109, 3) := by decide +kernel
theorem dX0_rightClaims_12 : decode cX0_rightClaims 12 = .ok (.if_icmp .ge 23, 3) := by decide +kernel
theorem dX0_rightClaims_15 : decode cX0_rightClaims 15 = .ok (.aload_n 0, 1) := by decide +kernel
theorem dX0_rightClaims_16 : decode cX0_rightClaims 16 = .ok (.iload_n 1, 1) := by decide +kernel
theorem dX0_rightClaims_17 : decode cX0_rightClaims 17 = .ok (.iload 4, 2) := by decide +kernel
theorem dX0_rightClaims_19 : decode cX0_rightClaims 19 = .ok (.aload_n 2, 1) := by decide +kernel
theorem dX0_rightClaims_20 : decode cX0_rightClaims 20 = .ok (.invokevirtual 132, 3) := by decide +kernel
theorem dX0_rightClaims_23 : decode cX0_rightClaims 23 = .ok (.ifCond .eq 6, 3) := by decide +kernel
theorem dX0_rightClaims_26 : decode cX0_rightClaims 26 = .ok (.iinc 3 1, 3) := by decide +kernel
theorem dX0_rightClaims_29 : decode cX0_rightClaims 29 = .ok (.iinc 4 1, 3) := by decide +kernel
theorem dX0_rightClaims_32 : decode cX0_rightClaims 32 = .ok (.goto (-27), 3) := by decide +kernel
theorem dX0_rightClaims_35 : decode cX0_rightClaims 35 = .ok (.iload_n 3, 1) := by decide +kernel
theorem dX0_rightClaims_36 : decode cX0_rightClaims 36 = .ok (.ireturn, 1) := by decide +kernel
theorem dX0_claimPoints_0 : decode cX0_claimPoints 0 = .ok (.iconst 0, 1) := by decide +kernel
theorem dX0_claimPoints_1 : decode cX0_claimPoints 1 = .ok (.istore_n 3, 1) := by decide +kernel
theorem dX0_claimPoints_2 : decode cX0_claimPoints 2 = .ok (.iconst 0, 1) := by decide +kernel
theorem dX0_claimPoints_3 : decode cX0_claimPoints 3 = .ok (.istore 4, 2) := by decide +kernel
theorem dX0_claimPoints_5 : decode cX0_claimPoints 5 = .ok (.iload 4, 2) := by decide +kernel
theorem dX0_claimPoints_7 : decode cX0_claimPoints 7 = .ok (.aload_n 0, 1) := by decide +kernel
theorem dX0_claimPoints_8 : decode cX0_claimPoints 8 = .ok (.iload_n 1, 1) := by decide +kernel
theorem dX0_claimPoints_9 : decode cX0_claimPoints 9 = .ok (.invokevirtual 109, 3) := by decide +kernel
theorem dX0_claimPoints_12 : decode cX0_claimPoints 12 = .ok (.if_icmp .ge 41, 3) := by decide +kernel
theorem dX0_claimPoints_15 : decode cX0_claimPoints 15 = .ok (.aload_n 0, 1) := by decide +kernel
theorem dX0_claimPoints_16 : decode cX0_claimPoints 16 = .ok (.iload_n 1, 1) := by decide +kernel
theorem dX0_claimPoints_17 : decode cX0_claimPoints 17 = .ok (.iload 4, 2) := by decide +kernel
theorem dX0_claimPoints_19 : decode cX0_claimPoints 19 = .ok (.iconst 4, 1) := by decide +kernel
theorem dX0_claimPoints_20 : decode cX0_claimPoints 20 = .ok (.invokevirtual 112, 3) := by decide +kernel
theorem dX0_claimPoints_23 : decode cX0_claimPoints 23 = .ok (.istore 5, 2) := by decide +kernel
theorem dX0_claimPoints_25 : decode cX0_claimPoints 25 = .ok (.iload_n 3, 1) := by decide +kernel
theorem dX0_claimPoints_26 : decode cX0_claimPoints 26 = .ok (.aload_n 0, 1) := by decide +kernel
theorem dX0_claimPoints_27 : decode cX0_claimPoints 27 = .ok (.iload_n 1, 1) := by decide +kernel
theorem dX0_claimPoints_28 : decode cX0_claimPoints 28 = .ok (.iload 4, 2) := by decide +kernel
theorem dX0_claimPoints_30 : decode cX0_claimPoints 30 = .ok (.aload_n 2, 1) := by decide +kernel
theorem dX0_claimPoints_31 : decode cX0_claimPoints 31 = .ok (.invokevirtual 132, 3) := by decide +kernel
theorem dX0_claimPoints_34 : decode cX0_claimPoints 34 = .ok (.ifCond .eq 8, 3) := by decide +kernel
theorem dX0_claimPoints_37 : decode cX0_claimPoints 37 = .ok (.iload 5, 2) := by decide +kernel
theorem dX0_claimPoints_39 : decode cX0_claimPoints 39 = .ok (.goto 6, 3) := by decide +kernel
theorem dX0_claimPoints_42 : decode cX0_claimPoints 42 = .ok (.iload 5, 2) := by decide +kernel
theorem dX0_claimPoints_44 : decode cX0_claimPoints 44 = .ok (.ineg, 1) := by decide +kernel
theorem dX0_claimPoints_45 : decode cX0_claimPoints 45 = .ok (.iadd, 1) := by decide +kernel
theorem dX0_claimPoints_46 : decode cX0_claimPoints 46 = .ok (.istore_n 3, 1) := by decide +kernel
theorem dX0_claimPoints_47 : decode cX0_claimPoints 47 = .ok (.iinc 4 1, 3) := by decide +kernel
theorem dX0_claimPoints_50 : decode cX0_claimPoints 50 = .ok (.goto (-45), 3) := by decide +kernel
theorem dX0_claimPoints_53 : decode cX0_claimPoints 53 = .ok (.iload_n 3, 1) := by decide +kernel
theorem dX0_claimPoints_54 : decode cX0_claimPoints 54 = .ok (.ireturn, 1) := by decide +kernel
theorem dX0_signPoints_0 : decode cX0_signPoints 0 = .ok (.iconst 0, 1) := by decide +kernel
theorem dX0_signPoints_1 : decode cX0_signPoints 1 = .ok (.istore_n 2, 1) := by decide +kernel
theorem dX0_signPoints_2 : decode cX0_signPoints 2 = .ok (.iload_n 1, 1) := by decide +kernel
theorem dX0_signPoints_3 : decode cX0_signPoints 3 = .ok (.ifCond .ne 7, 3) := by decide +kernel
theorem dX0_signPoints_6 : decode cX0_signPoints 6 = .ok (.iconst 1, 1) := by decide +kernel
theorem dX0_signPoints_7 : decode cX0_signPoints 7 = .ok (.goto 4, 3) := by decide +kernel
theorem dX0_signPoints_10 : decode cX0_signPoints 10 = .ok (.iconst (-1), 1) := by decide +kernel
theorem dX0_signPoints_11 : decode cX0_signPoints 11 = .ok (.istore_n 3, 1) := by decide +kernel
theorem dX0_signPoints_12 : decode cX0_signPoints 12 = .ok (.aload_n 0, 1) := by decide +kernel
theorem dX0_signPoints_13 : decode cX0_signPoints 13 = .ok (.getfield 9, 3) := by decide +kernel
theorem dX0_signPoints_16 : decode cX0_signPoints 16 = .ok (.iconst 3, 1) := by decide +kernel
theorem dX0_signPoints_17 : decode cX0_signPoints 17 = .ok (.iaload, 1) := by decide +kernel
theorem dX0_signPoints_18 : decode cX0_signPoints 18 = .ok (.ineg, 1) := by decide +kernel
theorem dX0_signPoints_19 : decode cX0_signPoints 19 = .ok (.istore 4, 2) := by decide +kernel
theorem dX0_signPoints_21 : decode cX0_signPoints 21 = .ok (.iload 4, 2) := by decide +kernel
theorem dX0_signPoints_23 : decode cX0_signPoints 23 = .ok (.aload_n 0, 1) := by decide +kernel
theorem dX0_signPoints_24 : decode cX0_signPoints 24 = .ok (.getfield 9, 3) := by decide +kernel
theorem dX0_signPoints_27 : decode cX0_signPoints 27 = .ok (.iconst 3, 1) := by decide +kernel
theorem dX0_signPoints_28 : decode cX0_signPoints 28 = .ok (.iaload, 1) := by decide +kernel
theorem dX0_signPoints_29 : decode cX0_signPoints 29 = .ok (.if_icmp .gt 26, 3) := by decide +kernel
theorem dX0_signPoints_32 : decode cX0_signPoints 32 = .ok (.aload_n 0, 1) := by decide +kernel
theorem dX0_signPoints_33 : decode cX0_signPoints 33 = .ok (.iload 4, 2) := by decide +kernel
theorem dX0_signPoints_35 : decode cX0_signPoints 35 = .ok (.invokevirtual 136, 3) := by decide +kernel
theorem dX0_signPoints_38 : decode cX0_signPoints 38 = .ok (.lconst 0, 1) := by decide +kernel
theorem dX0_signPoints_39 : decode cX0_signPoints 39 = .ok (.invokestatic 140, 3) := by decide +kernel
theorem dX0_signPoints_42 : decode cX0_signPoints 42 = .ok (.iload_n 3, 1) := by decide +kernel
theorem dX0_signPoints_43 : decode cX0_signPoints 43 = .ok (.if_icmp .ne 6, 3) := by decide +kernel
theorem dX0_signPoints_46 : decode cX0_signPoints 46 = .ok (.iinc 2 1, 3) := by decide +kernel
theorem dX0_signPoints_49 : decode cX0_signPoints 49 = .ok (.iinc 4 1, 3) := by decide +kernel
theorem dX0_signPoints_52 : decode cX0_signPoints 52 = .ok (.goto (-31), 3) := by decide +kernel
theorem dX0_signPoints_55 : decode cX0_signPoints 55 = .ok (.iload_n 2, 1) := by decide +kernel
theorem dX0_signPoints_56 : decode cX0_signPoints 56 = .ok (.ireturn, 1) := by decide +kernel
theorem dX0_bonusPoints_0 : decode cX0_bonusPoints 0 = .ok (.aload_n 0, 1) := by decide +kernel
theorem dX0_bonusPoints_1 : decode cX0_bonusPoints 1 = .ok (.getfield 50, 3) := by decide +kernel
theorem dX0_bonusPoints_4 : decode cX0_bonusPoints 4 = .ok (.iload_n 1, 1) := by decide +kernel
theorem dX0_bonusPoints_5 : decode cX0_bonusPoints 5 = .ok (.if_icmp .ne 12, 3) := by decide +kernel
theorem dX0_bonusPoints_8 : decode cX0_bonusPoints 8 = .ok (.aload_n 0, 1) := by decide +kernel
theorem dX0_bonusPoints_9 : decode cX0_bonusPoints 9 = .ok (.getfield 9, 3) := by decide +kernel
theorem dX0_bonusPoints_12 : decode cX0_bonusPoints 12 = .ok (.iconst 5, 1) := by decide +kernel
theorem dX0_bonusPoints_13 : decode cX0_bonusPoints 13 = .ok (.iaload, 1) := by decide +kernel
theorem dX0_bonusPoints_14 : decode cX0_bonusPoints 14 = .ok (.goto 4, 3) := by decide +kernel
theorem dX0_bonusPoints_17 : decode cX0_bonusPoints 17 = .ok (.iconst 0, 1) := by decide +kernel
theorem dX0_bonusPoints_18 : decode cX0_bonusPoints 18 = .ok (.ireturn, 1) := by decide +kernel
theorem dX0_score_0 : decode cX0_score 0 = .ok (.aload_n 0, 1) := by decide +kernel
theorem dX0_score_1 : decode cX0_score 1 = .ok (.iload_n 1, 1) := by decide +kernel
theorem dX0_score_2 : decode cX0_score 2 = .ok (.invokevirtual 146, 3) := by decide +kernel
theorem dX0_score_5 : decode cX0_score 5 = .ok (.aload_n 0, 1) := by decide +kernel
theorem dX0_score_6 : decode cX0_score 6 = .ok (.iload_n 1, 1) := by decide +kernel
theorem dX0_score_7 : decode cX0_score 7 = .ok (.aload_n 2, 1) := by decide +kernel
theorem dX0_score_8 : decode cX0_score 8 = .ok (.invokevirtual 149, 3) := by decide +kernel
theorem dX0_score_11 : decode cX0_score 11 = .ok (.iadd, 1) := by decide +kernel
theorem dX0_score_12 : decode cX0_score 12 = .ok (.aload_n 0, 1) := by decide +kernel
theorem dX0_score_13 : decode cX0_score 13 = .ok (.iload_n 1, 1) := by decide +kernel
theorem dX0_score_14 : decode cX0_score 14 = .ok (.invokevirtual 153, 3) := by decide +kernel
theorem dX0_score_17 : decode cX0_score 17 = .ok (.iadd, 1) := by decide +kernel
theorem dX0_score_18 : decode cX0_score 18 = .ok (.ireturn, 1) := by decide +kernel
theorem dX0_valueAt_0 : decode cX0_valueAt 0 = .ok (.lconst 0, 1) := by decide +kernel
theorem dX0_valueAt_1 : decode cX0_valueAt 1 = .ok (.lstore_n 2, 1) := by decide +kernel
theorem dX0_valueAt_2 : decode cX0_valueAt 2 = .ok (.iconst 4, 1) := by decide +kernel
theorem dX0_valueAt_3 : decode cX0_valueAt 3 = .ok (.istore 4, 2) := by decide +kernel
theorem dX0_valueAt_5 : decode cX0_valueAt 5 = .ok (.iload 4, 2) := by decide +kernel
theorem dX0_valueAt_7 : decode cX0_valueAt 7 = .ok (.ifCond .lt 23, 3) := by decide +kernel
theorem dX0_valueAt_10 : decode cX0_valueAt 10 = .ok (.lload_n 2, 1) := by decide +kernel
theorem dX0_valueAt_11 : decode cX0_valueAt 11 = .ok (.iload_n 1, 1) := by decide +kernel
theorem dX0_valueAt_12 : decode cX0_valueAt 12 = .ok (.i2l, 1) := by decide +kernel
theorem dX0_valueAt_13 : decode cX0_valueAt 13 = .ok (.lmul, 1) := by decide +kernel
theorem dX0_valueAt_14 : decode cX0_valueAt 14 = .ok (.aload_n 0, 1) := by decide +kernel
theorem dX0_valueAt_15 : decode cX0_valueAt 15 = .ok (.getfield 15, 3) := by decide +kernel
theorem dX0_valueAt_18 : decode cX0_valueAt 18 = .ok (.iload 4, 2) := by decide +kernel
theorem dX0_valueAt_20 : decode cX0_valueAt 20 = .ok (.iaload, 1) := by decide +kernel
theorem dX0_valueAt_21 : decode cX0_valueAt 21 = .ok (.i2l, 1) := by decide +kernel
theorem dX0_valueAt_22 : decode cX0_valueAt 22 = .ok (.ladd, 1) := by decide +kernel
theorem dX0_valueAt_23 : decode cX0_valueAt 23 = .ok (.lstore_n 2, 1) := by decide +kernel
theorem dX0_valueAt_24 : decode cX0_valueAt 24 = .ok (.iinc 4 (-1), 3) := by decide +kernel
theorem dX0_valueAt_27 : decode cX0_valueAt 27 = .ok (.goto (-22), 3) := by decide +kernel
theorem dX0_valueAt_30 : decode cX0_valueAt 30 = .ok (.lload_n 2, 1) := by decide +kernel
theorem dX0_valueAt_31 : decode cX0_valueAt 31 = .ok (.lreturn, 1) := by decide +kernel
theorem dX1_init_0 : decode cX1_init 0 = .ok (.aload_n 0, 1) := by decide +kernel
theorem dX1_init_1 : decode cX1_init 1 = .ok (.invokespecial 3, 3) := by decide +kernel
theorem dX1_init_4 : decode cX1_init 4 = .ok (.aload_n 0, 1) := by decide +kernel
theorem dX1_init_5 : decode cX1_init 5 = .ok (.sipush 1024, 3) := by decide +kernel
theorem dX1_init_8 : decode cX1_init 8 = .ok (.newarray .byte, 2) := by decide +kernel
theorem dX1_init_10 : decode cX1_init 10 = .ok (.putfield 9, 3) := by decide +kernel
theorem dX1_init_13 : decode cX1_init 13 = .ok (.return_, 1) := by decide +kernel
theorem dX1_begin_0 : decode cX1_begin 0 = .ok (.aload_n 0, 1) := by decide +kernel
theorem dX1_begin_1 : decode cX1_begin 1 = .ok (.iconst 0, 1) := by decide +kernel
theorem dX1_begin_2 : decode cX1_begin 2 = .ok (.putfield 15, 3) := by decide +kernel
theorem dX1_begin_5 : decode cX1_begin 5 = .ok (.return_, 1) := by decide +kernel
theorem dX1_putSign_0 : decode cX1_putSign 0 = .ok (.aload_n 0, 1) := by decide +kernel
theorem dX1_putSign_1 : decode cX1_putSign 1 = .ok (.getfield 15, 3) := by decide +kernel
theorem dX1_putSign_4 : decode cX1_putSign 4 = .ok (.ifCond .lt 36, 3) := by decide +kernel
theorem dX1_putSign_7 : decode cX1_putSign 7 = .ok (.aload_n 0, 1) := by decide +kernel
theorem dX1_putSign_8 : decode cX1_putSign 8 = .ok (.getfield 15, 3) := by decide +kernel
theorem dX1_putSign_11 : decode cX1_putSign 11 = .ok (.aload_n 0, 1) := by decide +kernel
theorem dX1_putSign_12 : decode cX1_putSign 12 = .ok (.getfield 9, 3) := by decide +kernel
theorem dX1_putSign_15 : decode cX1_putSign 15 = .ok (.arraylength, 1) := by decide +kernel
theorem dX1_putSign_16 : decode cX1_putSign 16 = .ok (.if_icmp .ge 24, 3) := by decide +kernel
theorem dX1_putSign_19 : decode cX1_putSign 19 = .ok (.aload_n 0, 1) := by decide +kernel
theorem dX1_putSign_20 : decode cX1_putSign 20 = .ok (.getfield 9, 3) := by decide +kernel
theorem dX1_putSign_23 : decode cX1_putSign 23 = .ok (.aload_n 0, 1) := by decide +kernel
theorem dX1_putSign_24 : decode cX1_putSign 24 = .ok (.getfield 15, 3) := by decide +kernel
theorem dX1_putSign_27 : decode cX1_putSign 27 = .ok (.iload_n 1, 1) := by decide +kernel
theorem dX1_putSign_28 : decode cX1_putSign 28 = .ok (.i2b, 1) := by decide +kernel
theorem dX1_putSign_29 : decode cX1_putSign 29 = .ok (.bastore, 1) := by decide +kernel
theorem dX1_putSign_30 : decode cX1_putSign 30 = .ok (.aload_n 0, 1) := by decide +kernel
theorem dX1_putSign_31 : decode cX1_putSign 31 = .ok (.dup, 1) := by decide +kernel
theorem dX1_putSign_32 : decode cX1_putSign 32 = .ok (.getfield 15, 3) := by decide +kernel
theorem dX1_putSign_35 : decode cX1_putSign 35 = .ok (.iconst 1, 1) := by decide +kernel
theorem dX1_putSign_36 : decode cX1_putSign 36 = .ok (.iadd, 1) := by decide +kernel
theorem dX1_putSign_37 : decode cX1_putSign 37 = .ok (.putfield 15, 3) := by decide +kernel
theorem dX1_putSign_40 : decode cX1_putSign 40 = .ok (.return_, 1) := by decide +kernel
theorem dX1_putText_0 : decode cX1_putText 0 = .ok (.iconst 0, 1) := by decide +kernel
theorem dX1_putText_1 : decode cX1_putText 1 = .ok (.istore_n 2, 1) := by decide +kernel
theorem dX1_putText_2 : decode cX1_putText 2 = .ok (.iload_n 2, 1) := by decide +kernel
theorem dX1_putText_3 : decode cX1_putText 3 = .ok (.aload_n 1, 1) := by decide +kernel
theorem dX1_putText_4 : decode cX1_putText 4 = .ok (.invokevirtual 19, 3) := by decide +kernel
theorem dX1_putText_7 : decode cX1_putText 7 = .ok (.if_icmp .ge 18, 3) := by decide +kernel
theorem dX1_putText_10 : decode cX1_putText 10 = .ok (.aload_n 0, 1) := by decide +kernel
theorem dX1_putText_11 : decode cX1_putText 11 = .ok (.aload_n 1, 1) := by decide +kernel
theorem dX1_putText_12 : decode cX1_putText 12 = .ok (.iload_n 2, 1) := by decide +kernel
theorem dX1_putText_13 : decode cX1_putText 13 = .ok (.invokevirtual 24, 3) := by decide +kernel
theorem dX1_putText_16 : decode cX1_putText 16 = .ok (.invokevirtual 28, 3) := by decide +kernel
theorem dX1_putText_19 : decode cX1_putText 19 = .ok (.iinc 2 1, 3) := by decide +kernel
theorem dX1_putText_22 : decode cX1_putText 22 = .ok (.goto (-20), 3) := by decide +kernel
theorem dX1_putText_25 : decode cX1_putText 25 = .ok (.return_, 1) := by decide +kernel
theorem dX1_putNumber_0 : decode cX1_putNumber 0 = .ok (.iload_n 1, 1) := by decide +kernel
theorem dX1_putNumber_1 : decode cX1_putNumber 1 = .ok (.ifCond .ge 9, 3) := by decide +kernel
theorem dX1_putNumber_4 : decode cX1_putNumber 4 = .ok (.aload_n 0, 1) := by decide +kernel
theorem dX1_putNumber_5 : decode cX1_putNumber 5 = .ok (.bipush 45, 2) := by decide +kernel
theorem dX1_putNumber_7 : decode cX1_putNumber 7 = .ok (.invokevirtual 28, 3) := by decide +kernel
theorem dX1_putNumber_10 : decode cX1_putNumber 10 = .ok (.iload_n 1, 1) := by decide +kernel
theorem dX1_putNumber_11 : decode cX1_putNumber 11 = .ok (.invokestatic 32, 3) := by decide +kernel
theorem dX1_putNumber_14 : decode cX1_putNumber 14 = .ok (.istore_n 2, 1) := by decide +kernel
theorem dX1_putNumber_15 : decode cX1_putNumber 15 = .ok (.iload_n 2, 1) := by decide +kernel
theorem dX1_putNumber_16 : decode cX1_putNumber 16 = .ok (.bipush 10, 2) := by decide +kernel
theorem dX1_putNumber_18 : decode cX1_putNumber 18 = .ok (.if_icmp .lt 15, 3) := by decide +kernel
theorem dX1_putNumber_21 : decode cX1_putNumber 21 = .ok (.aload_n 0, 1) := by decide +kernel
theorem dX1_putNumber_22 : decode cX1_putNumber 22 = .ok (.bipush 48, 2) := by decide +kernel
theorem dX1_putNumber_24 : decode cX1_putNumber 24 = .ok (.iload_n 2, 1) := by decide +kernel
theorem dX1_putNumber_25 : decode cX1_putNumber 25 = .ok (.bipush 10, 2) := by decide +kernel
theorem dX1_putNumber_27 : decode cX1_putNumber 27 = .ok (.idiv, 1) := by decide +kernel
theorem dX1_putNumber_28 : decode cX1_putNumber 28 = .ok (.iadd, 1) := by decide +kernel
theorem dX1_putNumber_29 : decode cX1_putNumber 29 = .ok (.i2c, 1) := by decide +kernel
theorem dX1_putNumber_30 : decode cX1_putNumber 30 = .ok (.invokevirtual 28, 3) := by decide +kernel
theorem dX1_putNumber_33 : decode cX1_putNumber 33 = .ok (.aload_n 0, 1) := by decide +kernel
theorem dX1_putNumber_34 : decode cX1_putNumber 34 = .ok (.bipush 48, 2) := by decide +kernel
theorem dX1_putNumber_36 : decode cX1_putNumber 36 = .ok (.iload_n 2, 1) := by decide +kernel
theorem dX1_putNumber_37 : decode cX1_putNumber 37 = .ok (.bipush 10, 2) := by decide +kernel
theorem dX1_putNumber_39 : decode cX1_putNumber 39 = .ok (.irem, 1) := by decide +kernel
theorem dX1_putNumber_40 : decode cX1_putNumber 40 = .ok (.iadd, 1) := by decide +kernel
theorem dX1_putNumber_41 : decode cX1_putNumber 41 = .ok (.i2c, 1) := by decide +kernel
theorem dX1_putNumber_42 : decode cX1_putNumber 42 = .ok (.invokevirtual 28, 3) := by decide +kernel
theorem dX1_putNumber_45 : decode cX1_putNumber 45 = .ok (.return_, 1) := by decide +kernel
theorem dX1_putSpaced_0 : decode cX1_putSpaced 0 = .ok (.aload_n 0, 1) := by decide +kernel
theorem dX1_putSpaced_1 : decode cX1_putSpaced 1 = .ok (.bipush 32, 2) := by decide +kernel
theorem dX1_putSpaced_3 : decode cX1_putSpaced 3 = .ok (.invokevirtual 28, 3) := by decide +kernel
theorem dX1_putSpaced_6 : decode cX1_putSpaced 6 = .ok (.aload_n 0, 1) := by decide +kernel
theorem dX1_putSpaced_7 : decode cX1_putSpaced 7 = .ok (.iload_n 1, 1) := by decide +kernel
theorem dX1_putSpaced_8 : decode cX1_putSpaced 8 = .ok (.invokevirtual 38, 3) := by decide +kernel
theorem dX1_putSpaced_11 : decode cX1_putSpaced 11 = .ok (.return_, 1) := by decide +kernel
theorem dX1_putTerm_0 : decode cX1_putTerm 0 = .ok (.iload_n 1, 1) := by decide +kernel
theorem dX1_putTerm_1 : decode cX1_putTerm 1 = .ok (.ifCond .ne 10, 3) := by decide +kernel
theorem dX1_putTerm_4 : decode cX1_putTerm 4 = .ok (.aload_n 0, 1) := by decide +kernel
theorem dX1_putTerm_5 : decode cX1_putTerm 5 = .ok (.ldc 46, 2) := by decide +kernel
theorem dX1_putTerm_7 : decode cX1_putTerm 7 = .ok (.invokevirtual 48, 3) := by decide +kernel
theorem dX1_putTerm_10 : decode cX1_putTerm 10 = .ok (.return_, 1) := by decide +kernel
theorem dX1_putTerm_11 : decode cX1_putTerm 11 = .ok (.aload_n 0, 1) := by decide +kernel
theorem dX1_putTerm_12 : decode cX1_putTerm 12 = .ok (.ldc 52, 2) := by decide +kernel
theorem dX1_putTerm_14 : decode cX1_putTerm 14 = .ok (.invokevirtual 48, 3) := by decide +kernel
theorem dX1_putTerm_17 : decode cX1_putTerm 17 = .ok (.aload_n 0, 1) := by decide +kernel
theorem dX1_putTerm_18 : decode cX1_putTerm 18 = .ok (.iload_n 1, 1) := by decide +kernel
theorem dX1_putTerm_19 : decode cX1_putTerm 19 = .ok (.invokevirtual 54, 3) := by decide +kernel
theorem dX1_putTerm_22 : decode cX1_putTerm 22 = .ok (.aload_n 0, 1) := by decide +kernel
theorem dX1_putTerm_23 : decode cX1_putTerm 23 = .ok (.iload_n 2, 1) := by decide +kernel
theorem dX1_putTerm_24 : decode cX1_putTerm 24 = .ok (.invokevirtual 54, 3) := by decide +kernel
theorem dX1_putTerm_27 : decode cX1_putTerm 27 = .ok (.aload_n 0, 1) := by decide +kernel
theorem dX1_putTerm_28 : decode cX1_putTerm 28 = .ok (.bipush 59, 2) := by decide +kernel
theorem dX1_putTerm_30 : decode cX1_putTerm 30 = .ok (.invokevirtual 28, 3) := by decide +kernel
theorem dX1_putTerm_33 : decode cX1_putTerm 33 = .ok (.return_, 1) := by decide +kernel
theorem dX1_putClaims_0 : decode cX1_putClaims 0 = .ok (.iload_n 2, 1) := by decide +kernel
theorem dX1_putClaims_1 : decode cX1_putClaims 1 = .ok (.iconst 2, 1) := by decide +kernel
theorem dX1_putClaims_2 : decode cX1_putClaims 2 = .ok (.irem, 1) := by decide +kernel
theorem dX1_putClaims_3 : decode cX1_putClaims 3 = .ok (.istore_n 3, 1) := by decide +kernel
theorem dX1_putClaims_4 : decode cX1_putClaims 4 = .ok (.iconst 0, 1) := by decide +kernel
theorem dX1_putClaims_5 : decode cX1_putClaims 5 = .ok (.istore 4, 2) := by decide +kernel
theorem dX1_putClaims_7 : decode cX1_putClaims 7 = .ok (.iload 4, 2) := by decide +kernel
theorem dX1_putClaims_9 : decode cX1_putClaims 9 = .ok (.aload_n 1, 1) := by decide +kernel
theorem dX1_putClaims_10 : decode cX1_putClaims 10 = .ok (.iload_n 3, 1) := by decide +kernel
theorem dX1_putClaims_11 : decode cX1_putClaims 11 = .ok (.invokevirtual 57, 3) := by decide +kernel
theorem dX1_putClaims_14 : decode cX1_putClaims 14 = .ok (.if_icmp .ge 29, 3) := by decide +kernel
theorem dX1_putClaims_17 : decode cX1_putClaims 17 = .ok (.aload_n 1, 1) := by decide +kernel
theorem dX1_putClaims_18 : decode cX1_putClaims 18 = .ok (.iload_n 3, 1) := by decide +kernel
theorem dX1_putClaims_19 : decode cX1_putClaims 19 = .ok (.iload 4, 2) := by decide +kernel
theorem dX1_putClaims_21 : decode cX1_putClaims 21 = .ok (.iconst 5, 1) := by decide +kernel
theorem dX1_putClaims_22 : decode cX1_putClaims 22 = .ok (.invokevirtual 62, 3) := by decide +kernel
theorem dX1_putClaims_25 : decode cX1_putClaims 25 = .ok (.iload_n 2, 1) := by decide +kernel
theorem dX1_putClaims_26 : decode cX1_putClaims 26 = .ok (.if_icmp .ne 11, 3) := by decide +kernel
theorem dX1_putClaims_29 : decode cX1_putClaims 29 = .ok (.aload_n 0, 1) := by decide +kernel
theorem dX1_putClaims_30 : decode cX1_putClaims 30 = .ok (.aload_n 1, 1) := by decide +kernel
theorem dX1_putClaims_31 : decode cX1_putClaims 31 = .ok (.iload_n 3, 1) := by decide +kernel
theorem dX1_putClaims_32 : decode cX1_putClaims 32 = .ok (.iload 4, 2) := by decide +kernel
theorem dX1_putClaims_34 : decode cX1_putClaims 34 = .ok (.invokevirtual 66, 3) := by decide +kernel
theorem dX1_putClaims_37 : decode cX1_putClaims 37 = .ok (.iinc 4 1, 3) := by decide +kernel
theorem dX1_putClaims_40 : decode cX1_putClaims 40 = .ok (.goto (-33), 3) := by decide +kernel
theorem dX1_putClaims_43 : decode cX1_putClaims 43 = .ok (.return_, 1) := by decide +kernel
theorem dX1_putClaim_0 : decode cX1_putClaim 0 = .ok (.aload_n 0, 1) := by decide +kernel
theorem dX1_putClaim_1 : decode cX1_putClaim 1 = .ok (.aload_n 1, 1) := by decide +kernel
theorem dX1_putClaim_2 : decode cX1_putClaim 2 = .ok (.iload_n 2, 1) := by decide +kernel
theorem dX1_putClaim_3 : decode cX1_putClaim 3 = .ok (.iload_n 3, 1) := by decide +kernel
theorem dX1_putClaim_4 : decode cX1_putClaim 4 = .ok (.iconst 3, 1) := by decide +kernel
theorem dX1_putClaim_5 : decode cX1_putClaim 5 = .ok (.invokevirtual 62, 3) := by decide +kernel
theorem dX1_putClaim_8 : decode cX1_putClaim 8 = .ok (.iconst 1, 1) := by decide +kernel
theorem dX1_putClaim_9 : decode cX1_putClaim 9 = .ok (.if_icmp .ne 8, 3) := by decide +kernel
theorem dX1_putClaim_12 : decode cX1_putClaim 12 = .ok (.ldc 70, 2) := by decide +kernel
theorem dX1_putClaim_14 : decode cX1_putClaim 14 = .ok (.goto 5, 3) := by decide +kernel
theorem dX1_putClaim_17 : decode cX1_putClaim 17 = .ok (.ldc 72, 2) := by decide +kernel
theorem dX1_putClaim_19 : decode cX1_putClaim 19 = .ok (.invokevirtual 48, 3) := by decide +kernel
theorem dX1_putClaim_22 : decode cX1_putClaim 22 = .ok (.aload_n 0, 1) := by decide +kernel
theorem dX1_putClaim_23 : decode cX1_putClaim 23 = .ok (.aload_n 1, 1) := by decide +kernel
theorem dX1_putClaim_24 : decode cX1_putClaim 24 = .ok (.iload_n 2, 1) := by decide +kernel
theorem dX1_putClaim_25 : decode cX1_putClaim 25 = .ok (.iload_n 3, 1) := by decide +kernel
theorem dX1_putClaim_26 : decode cX1_putClaim 26 = .ok (.iconst 0, 1) := by decide +kernel
theorem dX1_putClaim_27 : decode cX1_putClaim 27 = .ok (.invokevirtual 62, 3) := by decide +kernel
theorem dX1_putClaim_30 : decode cX1_putClaim 30 = .ok (.invokevirtual 54, 3) := by decide +kernel
theorem dX1_putClaim_33 : decode cX1_putClaim 33 = .ok (.aload_n 0, 1) := by decide +kernel
theorem dX1_putClaim_34 : decode cX1_putClaim 34 = .ok (.aload_n 1, 1) := by decide +kernel
theorem dX1_putClaim_35 : decode cX1_putClaim 35 = .ok (.iload_n 2, 1) := by decide +kernel
theorem dX1_putClaim_36 : decode cX1_putClaim 36 = .ok (.iload_n 3, 1) := by decide +kernel
theorem dX1_putClaim_37 : decode cX1_putClaim 37 = .ok (.iconst 1, 1) := by decide +kernel
theorem dX1_putClaim_38 : decode cX1_putClaim 38 = .ok (.invokevirtual 62, 3) := by decide +kernel
theorem dX1_putClaim_41 : decode cX1_putClaim 41 = .ok (.invokevirtual 54, 3) := by decide +kernel
theorem dX1_putClaim_44 : decode cX1_putClaim 44 = .ok (.aload_n 0, 1) := by decide +kernel
theorem dX1_putClaim_45 : decode cX1_putClaim 45 = .ok (.aload_n 1, 1) := by decide +kernel
theorem dX1_putClaim_46 : decode cX1_putClaim 46 = .ok (.iload_n 2, 1) := by decide +kernel
theorem dX1_putClaim_47 : decode cX1_putClaim 47 = .ok (.iload_n 3, 1) := by decide +kernel
theorem dX1_putClaim_48 : decode cX1_putClaim 48 = .ok (.iconst 2, 1) := by decide +kernel
theorem dX1_putClaim_49 : decode cX1_putClaim 49 = .ok (.invokevirtual 62, 3) := by decide +kernel
theorem dX1_putClaim_52 : decode cX1_putClaim 52 = .ok (.invokevirtual 54, 3) := by decide +kernel
theorem dX1_putClaim_55 : decode cX1_putClaim 55 = .ok (.aload_n 0, 1) := by decide +kernel
theorem dX1_putClaim_56 : decode cX1_putClaim 56 = .ok (.aload_n 1, 1) := by decide +kernel
theorem dX1_putClaim_57 : decode cX1_putClaim 57 = .ok (.iload_n 2, 1) := by decide +kernel
theorem dX1_putClaim_58 : decode cX1_putClaim 58 = .ok (.iload_n 3, 1) := by decide +kernel
theorem dX1_putClaim_59 : decode cX1_putClaim 59 = .ok (.iconst 4, 1) := by decide +kernel
theorem dX1_putClaim_60 : decode cX1_putClaim 60 = .ok (.invokevirtual 62, 3) := by decide +kernel
theorem dX1_putClaim_63 : decode cX1_putClaim 63 = .ok (.invokevirtual 54, 3) := by decide +kernel
theorem dX1_putClaim_66 : decode cX1_putClaim 66 = .ok (.aload_n 0, 1) := by decide +kernel
theorem dX1_putClaim_67 : decode cX1_putClaim 67 = .ok (.bipush 59, 2) := by decide +kernel
theorem dX1_putClaim_69 : decode cX1_putClaim 69 = .ok (.invokevirtual 28, 3) := by decide +kernel
theorem dX1_putClaim_72 : decode cX1_putClaim 72 = .ok (.return_, 1) := by decide +kernel
theorem dX2_init_0 : decode cX2_init 0 = .ok (.aload_n 0, 1) := by decide +kernel
theorem dX2_init_1 : decode cX2_init 1 = .ok (.invokespecial 3, 3) := by decide +kernel
theorem dX2_init_4 : decode cX2_init 4 = .ok (.aload_n 0, 1) := by decide +kernel
theorem dX2_init_5 : decode cX2_init 5 = .ok (.sipush 600, 3) := by decide +kernel
theorem dX2_init_8 : decode cX2_init 8 = .ok (.newarray .byte, 2) := by decide +kernel
theorem dX2_init_10 : decode cX2_init 10 = .ok (.putfield 9, 3) := by decide +kernel
theorem dX2_init_13 : decode cX2_init 13 = .ok (.aload_n 0, 1) := by decide +kernel
theorem dX2_init_14 : decode cX2_init 14 = .ok (.sipush 240, 3) := by decide +kernel
theorem dX2_init_17 : decode cX2_init 17 = .ok (.newarray .int, 2) := by decide +kernel
theorem dX2_init_19 : decode cX2_init 19 = .ok (.putfield 15, 3) := by decide +kernel
theorem dX2_init_22 : decode cX2_init 22 = .ok (.aload_n 0, 1) := by decide +kernel
theorem dX2_init_23 : decode cX2_init 23 = .ok (.iconst (-1), 1) := by decide +kernel
theorem dX2_init_24 : decode cX2_init 24 = .ok (.putfield 19, 3) := by decide +kernel
theorem dX2_init_27 : decode cX2_init 27 = .ok (.return_, 1) := by decide +kernel
theorem dX2_hasRoom_0 : decode cX2_hasRoom 0 = .ok (.aload_n 0, 1) := by decide +kernel
theorem dX2_hasRoom_1 : decode cX2_hasRoom 1 = .ok (.getfield 23, 3) := by decide +kernel
theorem dX2_hasRoom_4 : decode cX2_hasRoom 4 = .ok (.iload_n 1, 1) := by decide +kernel
theorem dX2_hasRoom_5 : decode cX2_hasRoom 5 = .ok (.iadd, 1) := by decide +kernel
theorem dX2_hasRoom_6 : decode cX2_hasRoom 6 = .ok (.sipush 600, 3) := by decide +kernel
theorem dX2_hasRoom_9 : decode cX2_hasRoom 9 = .ok (.if_icmp .gt 7, 3) := by decide +kernel
theorem dX2_hasRoom_12 : decode cX2_hasRoom 12 = .ok (.iconst 1, 1) := by decide +kernel
theorem dX2_hasRoom_13 : decode cX2_hasRoom 13 = .ok (.goto 4, 3) := by decide +kernel
theorem dX2_hasRoom_16 : decode cX2_hasRoom 16 = .ok (.iconst 0, 1) := by decide +kernel
theorem dX2_hasRoom_17 : decode cX2_hasRoom 17 = .ok (.ireturn, 1) := by decide +kernel
theorem dX2_append_0 : decode cX2_append 0 = .ok (.aload_n 0, 1) := by decide +kernel
theorem dX2_append_1 : decode cX2_append 1 = .ok (.getfield 23, 3) := by decide +kernel
theorem dX2_append_4 : decode cX2_append 4 = .ok (.ifCond .lt 35, 3) := by decide +kernel
theorem dX2_append_7 : decode cX2_append 7 = .ok (.aload_n 0, 1) := by decide +kernel
theorem dX2_append_8 : decode cX2_append 8 = .ok (.getfield 23, 3) := by decide +kernel
theorem dX2_append_11 : decode cX2_append 11 = .ok (.aload_n 0, 1) := by decide +kernel
theorem dX2_append_12 : decode cX2_append 12 = .ok (.getfield 9, 3) := by decide +kernel
theorem dX2_append_15 : decode cX2_append 15 = .ok (.arraylength, 1) := by decide +kernel
theorem dX2_append_16 : decode cX2_append 16 = .ok (.if_icmp .ge 23, 3) := by decide +kernel
theorem dX2_append_19 : decode cX2_append 19 = .ok (.aload_n 0, 1) := by decide +kernel
theorem dX2_append_20 : decode cX2_append 20 = .ok (.getfield 9, 3) := by decide +kernel
theorem dX2_append_23 : decode cX2_append 23 = .ok (.aload_n 0, 1) := by decide +kernel
theorem dX2_append_24 : decode cX2_append 24 = .ok (.getfield 23, 3) := by decide +kernel
theorem dX2_append_27 : decode cX2_append 27 = .ok (.iload_n 1, 1) := by decide +kernel
theorem dX2_append_28 : decode cX2_append 28 = .ok (.bastore, 1) := by decide +kernel
theorem dX2_append_29 : decode cX2_append 29 = .ok (.aload_n 0, 1) := by decide +kernel
theorem dX2_append_30 : decode cX2_append 30 = .ok (.dup, 1) := by decide +kernel
theorem dX2_append_31 : decode cX2_append 31 = .ok (.getfield 23, 3) := by decide +kernel
theorem dX2_append_34 : decode cX2_append 34 = .ok (.iconst 1, 1) := by decide +kernel
theorem dX2_append_35 : decode cX2_append 35 = .ok (.iadd, 1) := by decide +kernel
theorem dX2_append_36 : decode cX2_append 36 = .ok (.putfield 23, 3) := by decide +kernel
theorem dX2_append_39 : decode cX2_append 39 = .ok (.return_, 1) := by decide +kernel
theorem dX2_kindAt_0 : decode cX2_kindAt 0 = .ok (.iload_n 1, 1) := by decide +kernel
theorem dX2_kindAt_1 : decode cX2_kindAt 1 = .ok (.ifCond .lt 20, 3) := by decide +kernel
theorem dX2_kindAt_4 : decode cX2_kindAt 4 = .ok (.iload_n 1, 1) := by decide +kernel
theorem dX2_kindAt_5 : decode cX2_kindAt 5 = .ok (.aload_n 0, 1) := by decide +kernel
theorem dX2_kindAt_6 : decode cX2_kindAt 6 = .ok (.getfield 23, 3) := by decide +kernel
theorem dX2_kindAt_9 : decode cX2_kindAt 9 = .ok (.if_icmp .ge 12, 3) := by decide +kernel
theorem dX2_kindAt_12 : decode cX2_kindAt 12 = .ok (.iload_n 1, 1) := by decide +kernel
theorem dX2_kindAt_13 : decode cX2_kindAt 13 = .ok (.aload_n 0, 1) := by decide +kernel
theorem dX2_kindAt_14 : decode cX2_kindAt 14 = .ok (.getfield 9, 3) := by decide +kernel
theorem dX2_kindAt_17 : decode cX2_kindAt 17 = .ok (.arraylength, 1) := by decide +kernel
theorem dX2_kindAt_18 : decode cX2_kindAt 18 = .ok (.if_icmp .lt 5, 3) := by decide +kernel
theorem dX2_kindAt_21 : decode cX2_kindAt 21 = .ok (.iconst 0, 1) := by decide +kernel
theorem dX2_kindAt_22 : decode cX2_kindAt 22 = .ok (.ireturn, 1) := by decide +kernel
theorem dX2_kindAt_23 : decode cX2_kindAt 23 = .ok (.aload_n 0, 1) := by decide +kernel
theorem dX2_kindAt_24 : decode cX2_kindAt 24 = .ok (.getfield 9, 3) := by decide +kernel
theorem dX2_kindAt_27 : decode cX2_kindAt 27 = .ok (.iload_n 1, 1) := by decide +kernel
theorem dX2_kindAt_28 : decode cX2_kindAt 28 = .ok (.baload, 1) := by decide +kernel
theorem dX2_kindAt_29 : decode cX2_kindAt 29 = .ok (.istore_n 2, 1) := by decide +kernel
theorem dX2_kindAt_30 : decode cX2_kindAt 30 = .ok (.iload_n 2, 1) := by decide +kernel
theorem dX2_kindAt_31 : decode cX2_kindAt 31 = .ok (.bipush 97, 2) := by decide +kernel
theorem dX2_kindAt_33 : decode cX2_kindAt 33 = .ok (.if_icmp .lt 11, 3) := by decide +kernel
theorem dX2_kindAt_36 : decode cX2_kindAt 36 = .ok (.iload_n 2, 1) := by decide +kernel
theorem dX2_kindAt_37 : decode cX2_kindAt 37 = .ok (.bipush 122, 2) := by decide +kernel
theorem dX2_kindAt_39 : decode cX2_kindAt 39 = .ok (.if_icmp .gt 5, 3) := by decide +kernel
theorem dX2_kindAt_42 : decode cX2_kindAt 42 = .ok (.iconst 1, 1) := by decide +kernel
theorem dX2_kindAt_43 : decode cX2_kindAt 43 = .ok (.ireturn, 1) := by decide +kernel
theorem dX2_kindAt_44 : decode cX2_kindAt 44 = .ok (.iload_n 2, 1) := by decide +kernel
theorem dX2_kindAt_45 : decode cX2_kindAt 45 = .ok (.bipush 48, 2) := by decide +kernel
theorem dX2_kindAt_47 : decode cX2_kindAt 47 = .ok (.if_icmp .lt 11, 3) := by decide +kernel
theorem dX2_kindAt_50 : decode cX2_kindAt 50 = .ok (.iload_n 2, 1) := by decide +kernel
theorem dX2_kindAt_51 : decode cX2_kindAt 51 = .ok (.bipush 57, 2) := by decide +kernel
theorem dX2_kindAt_53 : decode cX2_kindAt 53 = .ok (.if_icmp .gt 5, 3) := by decide +kernel
theorem dX2_kindAt_56 : decode cX2_kindAt 56 = .ok (.iconst 2, 1) := by decide +kernel
theorem dX2_kindAt_57 : decode cX2_kindAt 57 = .ok (.ireturn, 1) := by decide +kernel
theorem dX2_kindAt_58 : decode cX2_kindAt 58 = .ok (.iload_n 2, 1) := by decide +kernel
theorem dX2_kindAt_59 : decode cX2_kindAt 59 = .ok (.lookupswitch 48 #[(10, 41), (32, 41), (45, 44), (59, 46)], 41) := by decide +kernel
theorem dX2_kindAt_100 : decode cX2_kindAt 100 = .ok (.bipush 6, 2) := by decide +kernel
theorem dX2_kindAt_102 : decode cX2_kindAt 102 = .ok (.ireturn, 1) := by decide +kernel
theorem dX2_kindAt_103 : decode cX2_kindAt 103 = .ok (.iconst 3, 1) := by decide +kernel
theorem dX2_kindAt_104 : decode cX2_kindAt 104 = .ok (.ireturn, 1) := by decide +kernel
theorem dX2_kindAt_105 : decode cX2_kindAt 105 = .ok (.iconst 4, 1) := by decide +kernel
theorem dX2_kindAt_106 : decode cX2_kindAt 106 = .ok (.ireturn, 1) := by decide +kernel
theorem dX2_kindAt_107 : decode cX2_kindAt 107 = .ok (.iconst 5, 1) := by decide +kernel
theorem dX2_kindAt_108 : decode cX2_kindAt 108 = .ok (.ireturn, 1) := by decide +kernel
theorem dX2_nextToken_0 : decode cX2_nextToken 0 = .ok (.aload_n 0, 1) := by decide +kernel
theorem dX2_nextToken_1 : decode cX2_nextToken 1 = .ok (.aload_n 0, 1) := by decide +kernel
theorem dX2_nextToken_2 : decode cX2_nextToken 2 = .ok (.getfield 26, 3) := by decide +kernel
theorem dX2_nextToken_5 : decode cX2_nextToken 5 = .ok (.putfield 29, 3) := by decide +kernel
theorem dX2_nextToken_8 : decode cX2_nextToken 8 = .ok (.aload_n 0, 1) := by decide +kernel
theorem dX2_nextToken_9 : decode cX2_nextToken 9 = .ok (.getfield 29, 3) := by decide +kernel
theorem dX2_nextToken_12 : decode cX2_nextToken 12 = .ok (.aload_n 0, 1) := by decide +kernel
theorem dX2_nextToken_13 : decode cX2_nextToken 13 = .ok (.getfield 23, 3) := by decide +kernel
theorem dX2_nextToken_16 : decode cX2_nextToken 16 = .ok (.if_icmp .ge 29, 3) := by decide +kernel
theorem dX2_nextToken_19 : decode cX2_nextToken 19 = .ok (.aload_n 0, 1) := by decide +kernel
theorem dX2_nextToken_20 : decode cX2_nextToken 20 = .ok (.aload_n 0, 1) := by decide +kernel
theorem dX2_nextToken_21 : decode cX2_nextToken 21 = .ok (.getfield 29, 3) := by decide +kernel
theorem dX2_nextToken_24 : decode cX2_nextToken 24 = .ok (.invokevirtual 32, 3) := by decide +kernel
theorem dX2_nextToken_27 : decode cX2_nextToken 27 = .ok (.bipush 6, 2) := by decide +kernel
theorem dX2_nextToken_29 : decode cX2_nextToken 29 = .ok (.if_icmp .ne 16, 3) := by decide +kernel
theorem dX2_nextToken_32 : decode cX2_nextToken 32 = .ok (.aload_n 0, 1) := by decide +kernel
theorem dX2_nextToken_33 : decode cX2_nextToken 33 = .ok (.dup, 1) := by decide +kernel
theorem dX2_nextToken_34 : decode cX2_nextToken 34 = .ok (.getfield 29, 3) := by decide +kernel
theorem dX2_nextToken_37 : decode cX2_nextToken 37 = .ok (.iconst 1, 1) := by decide +kernel
theorem dX2_nextToken_38 : decode cX2_nextToken 38 = .ok (.iadd, 1) := by decide +kernel
theorem dX2_nextToken_39 : decode cX2_nextToken 39 = .ok (.putfield 29, 3) := by decide +kernel
theorem dX2_nextToken_42 : decode cX2_nextToken 42 = .ok (.goto (-34), 3) := by decide +kernel
theorem dX2_nextToken_45 : decode cX2_nextToken 45 = .ok (.aload_n 0, 1) := by decide +kernel
theorem dX2_nextToken_46 : decode cX2_nextToken 46 = .ok (.aload_n 0, 1) := by decide +kernel
theorem dX2_nextToken_47 : decode cX2_nextToken 47 = .ok (.aload_n 0, 1) := by decide +kernel
theorem dX2_nextToken_48 : decode cX2_nextToken 48 = .ok (.getfield 29, 3) := by decide +kernel
theorem dX2_nextToken_51 : decode cX2_nextToken 51 = .ok (.invokevirtual 32, 3) := by decide +kernel
theorem dX2_nextToken_54 : decode cX2_nextToken 54 = .ok (.putfield 36, 3) := by decide +kernel
theorem dX2_nextToken_57 : decode cX2_nextToken 57 = .ok (.aload_n 0, 1) := by decide +kernel
theorem dX2_nextToken_58 : decode cX2_nextToken 58 = .ok (.iconst 0, 1) := by decide +kernel
theorem dX2_nextToken_59 : decode cX2_nextToken 59 = .ok (.putfield 39, 3) := by decide +kernel
theorem dX2_nextToken_62 : decode cX2_nextToken 62 = .ok (.aload_n 0, 1) := by decide +kernel
theorem dX2_nextToken_63 : decode cX2_nextToken 63 = .ok (.aload_n 0, 1) := by decide +kernel
theorem dX2_nextToken_64 : decode cX2_nextToken 64 = .ok (.getfield 29, 3) := by decide +kernel
theorem dX2_nextToken_67 : decode cX2_nextToken 67 = .ok (.putfield 26, 3) := by decide +kernel
theorem dX2_nextToken_70 : decode cX2_nextToken 70 = .ok (.aload_n 0, 1) := by decide +kernel
theorem dX2_nextToken_71 : decode cX2_nextToken 71 = .ok (.getfield 36, 3) := by decide +kernel
theorem dX2_nextToken_74 : decode cX2_nextToken 74 = .ok (.iconst 1, 1) := by decide +kernel
theorem dX2_nextToken_75 : decode cX2_nextToken 75 = .ok (.if_icmp .eq 11, 3) := by decide +kernel
theorem dX2_nextToken_78 : decode cX2_nextToken 78 = .ok (.aload_n 0, 1) := by decide +kernel
theorem dX2_nextToken_79 : decode cX2_nextToken 79 = .ok (.getfield 36, 3) := by decide +kernel
theorem dX2_nextToken_82 : decode cX2_nextToken 82 = .ok (.iconst 2, 1) := by decide +kernel
theorem dX2_nextToken_83 : decode cX2_nextToken 83 = .ok (.if_icmp .ne 96, 3) := by decide +kernel
theorem dX2_nextToken_86 : decode cX2_nextToken 86 = .ok (.aload_n 0, 1) := by decide +kernel
theorem dX2_nextToken_87 : decode cX2_nextToken 87 = .ok (.getfield 26, 3) := by decide +kernel
theorem dX2_nextToken_90 : decode cX2_nextToken 90 = .ok (.aload_n 0, 1) := by decide +kernel
theorem dX2_nextToken_91 : decode cX2_nextToken 91 = .ok (.getfield 23, 3) := by decide +kernel
theorem dX2_nextToken_94 : decode cX2_nextToken 94 = .ok (.if_icmp .ge 102, 3) := by decide +kernel
theorem dX2_nextToken_97 : decode cX2_nextToken 97 = .ok (.aload_n 0, 1) := by decide +kernel
theorem dX2_nextToken_98 : decode cX2_nextToken 98 = .ok (.getfield 26, 3) := by decide +kernel
theorem dX2_nextToken_101 : decode cX2_nextToken 101 = .ok (.aload_n 0, 1) := by decide +kernel
theorem dX2_nextToken_102 : decode cX2_nextToken 102 = .ok (.getfield 9, 3) := by decide +kernel
theorem dX2_nextToken_105 : decode cX2_nextToken 105 = .ok (.arraylength, 1) := by decide +kernel
theorem dX2_nextToken_106 : decode cX2_nextToken 106 = .ok (.if_icmp .ge 90, 3) := by decide +kernel
theorem dX2_nextToken_109 : decode cX2_nextToken 109 = .ok (.aload_n 0, 1) := by decide +kernel
theorem dX2_nextToken_110 : decode cX2_nextToken 110 = .ok (.aload_n 0, 1) := by decide +kernel
theorem dX2_nextToken_111 : decode cX2_nextToken 111 = .ok (.getfield 26, 3) := by decide +kernel
theorem dX2_nextToken_114 : decode cX2_nextToken 114 = .ok (.invokevirtual 32, 3) := by decide +kernel
theorem dX2_nextToken_117 : decode cX2_nextToken 117 = .ok (.aload_n 0, 1) := by decide +kernel
theorem dX2_nextToken_118 : decode cX2_nextToken 118 = .ok (.getfield 36, 3) := by decide +kernel
theorem dX2_nextToken_121 : decode cX2_nextToken 121 = .ok (.if_icmp .ne 75, 3) := by decide +kernel
theorem dX2_nextToken_124 : decode cX2_nextToken 124 = .ok (.aload_n 0, 1) := by decide +kernel
theorem dX2_nextToken_125 : decode cX2_nextToken 125 = .ok (.aload_n 0, 1) := by decide +kernel
theorem dX2_nextToken_126 : decode cX2_nextToken 126 = .ok (.getfield 36, 3) := by decide +kernel
theorem dX2_nextToken_129 : decode cX2_nextToken 129 = .ok (.iconst 2, 1) := by decide +kernel
theorem dX2_nextToken_130 : decode cX2_nextToken 130 = .ok (.if_icmp .ne 32, 3) := by decide +kernel
theorem dX2_nextToken_133 : decode cX2_nextToken 133 = .ok (.sipush 1000, 3) := by decide +kernel
theorem dX2_nextToken_136 : decode cX2_nextToken 136 = .ok (.aload_n 0, 1) := by decide +kernel
theorem dX2_nextToken_137 : decode cX2_nextToken 137 = .ok (.getfield 39, 3) := by decide +kernel
theorem dX2_nextToken_140 : decode cX2_nextToken 140 = .ok (.bipush 10, 2) := by decide +kernel
theorem dX2_nextToken_142 : decode cX2_nextToken 142 = .ok (.imul, 1) := by decide +kernel
theorem dX2_nextToken_143 : decode cX2_nextToken 143 = .ok (.aload_n 0, 1) := by decide +kernel
theorem dX2_nextToken_144 : decode cX2_nextToken 144 = .ok (.getfield 9, 3) := by decide +kernel
theorem dX2_nextToken_147 : decode cX2_nextToken 147 = .ok (.aload_n 0, 1) := by decide +kernel
theorem dX2_nextToken_148 : decode cX2_nextToken 148 = .ok (.getfield 26, 3) := by decide +kernel
theorem dX2_nextToken_151 : decode cX2_nextToken 151 = .ok (.baload, 1) := by decide +kernel
theorem dX2_nextToken_152 : decode cX2_nextToken 152 = .ok (.iadd, 1) := by decide +kernel
theorem dX2_nextToken_153 : decode cX2_nextToken 153 = .ok (.bipush 48, 2) := by decide +kernel
theorem dX2_nextToken_155 : decode cX2_nextToken 155 = .ok (.isub, 1) := by decide +kernel
theorem dX2_nextToken_156 : decode cX2_nextToken 156 = .ok (.invokestatic 42, 3) := by decide +kernel
theorem dX2_nextToken_159 : decode cX2_nextToken 159 = .ok (.goto 4, 3) := by decide +kernel
theorem dX2_nextToken_162 : decode cX2_nextToken 162 = .ok (.iconst 0, 1) := by decide +kernel
theorem dX2_nextToken_163 : decode cX2_nextToken 163 = .ok (.putfield 39, 3) := by decide +kernel
theorem dX2_nextToken_166 : decode cX2_nextToken 166 = .ok (.aload_n 0, 1) := by decide +kernel
theorem dX2_nextToken_167 : decode cX2_nextToken 167 = .ok (.dup, 1) := by decide +kernel
theorem dX2_nextToken_168 : decode cX2_nextToken 168 = .ok (.getfield 26, 3) := by decide +kernel
theorem dX2_nextToken_171 : decode cX2_nextToken 171 = .ok (.iconst 1, 1) := by decide +kernel
theorem dX2_nextToken_172 : decode cX2_nextToken 172 = .ok (.iadd, 1) := by decide +kernel
theorem dX2_nextToken_173 : decode cX2_nextToken 173 = .ok (.putfield 26, 3) := by decide +kernel
theorem dX2_nextToken_176 : decode cX2_nextToken 176 = .ok (.goto (-90), 3) := by decide +kernel
theorem dX2_nextToken_179 : decode cX2_nextToken 179 = .ok (.aload_n 0, 1) := by decide +kernel
theorem dX2_nextToken_180 : decode cX2_nextToken 180 = .ok (.getfield 36, 3) := by decide +kernel
theorem dX2_nextToken_183 : decode cX2_nextToken 183 = .ok (.ifCond .eq 13, 3) := by decide +kernel
theorem dX2_nextToken_186 : decode cX2_nextToken 186 = .ok (.aload_n 0, 1) := by decide +kernel
theorem dX2_nextToken_187 : decode cX2_nextToken 187 = .ok (.dup, 1) := by decide +kernel
theorem dX2_nextToken_188 : decode cX2_nextToken 188 = .ok (.getfield 26, 3) := by decide +kernel
theorem dX2_nextToken_191 : decode cX2_nextToken 191 = .ok (.iconst 1, 1) := by decide +kernel
theorem dX2_nextToken_192 : decode cX2_nextToken 192 = .ok (.iadd, 1) := by decide +kernel
theorem dX2_nextToken_193 : decode cX2_nextToken 193 = .ok (.putfield 26, 3) := by decide +kernel
theorem dX2_nextToken_196 : decode cX2_nextToken 196 = .ok (.return_, 1) := by decide +kernel
theorem dX2_isWord_0 : decode cX2_isWord 0 = .ok (.aload_n 0, 1) := by decide +kernel
theorem dX2_isWord_1 : decode cX2_isWord 1 = .ok (.getfield 36, 3) := by decide +kernel
theorem dX2_isWord_4 : decode cX2_isWord 4 = .ok (.iconst 1, 1) := by decide +kernel
theorem dX2_isWord_5 : decode cX2_isWord 5 = .ok (.if_icmp .ne 19, 3) := by decide +kernel
theorem dX2_isWord_8 : decode cX2_isWord 8 = .ok (.aload_n 0, 1) := by decide +kernel
theorem dX2_isWord_9 : decode cX2_isWord 9 = .ok (.getfield 26, 3) := by decide +kernel
theorem dX2_isWord_12 : decode cX2_isWord 12 = .ok (.aload_n 0, 1) := by decide +kernel
theorem dX2_isWord_13 : decode cX2_isWord 13 = .ok (.getfield 29, 3) := by decide +kernel
theorem dX2_isWord_16 : decode cX2_isWord 16 = .ok (.isub, 1) := by decide +kernel
theorem dX2_isWord_17 : decode cX2_isWord 17 = .ok (.aload_n 1, 1) := by decide +kernel
theorem dX2_isWord_18 : decode cX2_isWord 18 = .ok (.invokevirtual 48, 3) := by decide +kernel
theorem dX2_isWord_21 : decode cX2_isWord 21 = .ok (.if_icmp .eq 5, 3) := by decide +kernel
theorem dX2_isWord_24 : decode cX2_isWord 24 = .ok (.iconst 0, 1) := by decide +kernel
theorem dX2_isWord_25 : decode cX2_isWord 25 = .ok (.ireturn, 1) := by decide +kernel
theorem dX2_isWord_26 : decode cX2_isWord 26 = .ok (.iconst 0, 1) := by decide +kernel
theorem dX2_isWord_27 : decode cX2_isWord 27 = .ok (.istore_n 2, 1) := by decide +kernel
theorem dX2_isWord_28 : decode cX2_isWord 28 = .ok (.iload_n 2, 1) := by decide +kernel
theorem dX2_isWord_29 : decode cX2_isWord 29 = .ok (.aload_n 1, 1) := by decide +kernel
theorem dX2_isWord_30 : decode cX2_isWord 30 = .ok (.invokevirtual 48, 3) := by decide +kernel
theorem dX2_isWord_33 : decode cX2_isWord 33 = .ok (.if_icmp .ge 45, 3) := by decide +kernel
theorem dX2_isWord_36 : decode cX2_isWord 36 = .ok (.aload_n 0, 1) := by decide +kernel
theorem dX2_isWord_37 : decode cX2_isWord 37 = .ok (.getfield 29, 3) := by decide +kernel
theorem dX2_isWord_40 : decode cX2_isWord 40 = .ok (.iload_n 2, 1) := by decide +kernel
theorem dX2_isWord_41 : decode cX2_isWord 41 = .ok (.iadd, 1) := by decide +kernel
theorem dX2_isWord_42 : decode cX2_isWord 42 = .ok (.istore_n 3, 1) := by decide +kernel
theorem dX2_isWord_43 : decode cX2_isWord 43 = .ok (.iload_n 3, 1) := by decide +kernel
theorem dX2_isWord_44 : decode cX2_isWord 44 = .ok (.ifCond .lt 26, 3) := by decide +kernel
theorem dX2_isWord_47 : decode cX2_isWord 47 = .ok (.iload_n 3, 1) := by decide +kernel
theorem dX2_isWord_48 : decode cX2_isWord 48 = .ok (.aload_n 0, 1) := by decide +kernel
theorem dX2_isWord_49 : decode cX2_isWord 49 = .ok (.getfield 9, 3) := by decide +kernel
theorem dX2_isWord_52 : decode cX2_isWord 52 = .ok (.arraylength, 1) := by decide +kernel
theorem dX2_isWord_53 : decode cX2_isWord 53 = .ok (.if_icmp .ge 17, 3) := by decide +kernel
theorem dX2_isWord_56 : decode cX2_isWord 56 = .ok (.aload_n 0, 1) := by decide +kernel
theorem dX2_isWord_57 : decode cX2_isWord 57 = .ok (.getfield 9, 3) := by decide +kernel
theorem dX2_isWord_60 : decode cX2_isWord 60 = .ok (.iload_n 3, 1) := by decide +kernel
theorem dX2_isWord_61 : decode cX2_isWord 61 = .ok (.baload, 1) := by decide +kernel
theorem dX2_isWord_62 : decode cX2_isWord 62 = .ok (.aload_n 1, 1) := by decide +kernel
theorem dX2_isWord_63 : decode cX2_isWord 63 = .ok (.iload_n 2, 1) := by decide +kernel
theorem dX2_isWord_64 : decode cX2_isWord 64 = .ok (.invokevirtual 53, 3) := by decide +kernel
theorem dX2_isWord_67 : decode cX2_isWord 67 = .ok (.if_icmp .eq 5, 3) := by decide +kernel
theorem dX2_isWord_70 : decode cX2_isWord 70 = .ok (.iconst 0, 1) := by decide +kernel
theorem dX2_isWord_71 : decode cX2_isWord 71 = .ok (.ireturn, 1) := by decide +kernel
theorem dX2_isWord_72 : decode cX2_isWord 72 = .ok (.iinc 2 1, 3) := by decide +kernel
theorem dX2_isWord_75 : decode cX2_isWord 75 = .ok (.goto (-47), 3) := by decide +kernel
theorem dX2_isWord_78 : decode cX2_isWord 78 = .ok (.iconst 1, 1) := by decide +kernel
theorem dX2_isWord_79 : decode cX2_isWord 79 = .ok (.ireturn, 1) := by decide +kernel
theorem dX2_beginText_0 : decode cX2_beginText 0 = .ok (.aload_n 0, 1) := by decide +kernel
theorem dX2_beginText_1 : decode cX2_beginText 1 = .ok (.iconst 0, 1) := by decide +kernel
theorem dX2_beginText_2 : decode cX2_beginText 2 = .ok (.putfield 57, 3) := by decide +kernel
theorem dX2_beginText_5 : decode cX2_beginText 5 = .ok (.aload_n 0, 1) := by decide +kernel
theorem dX2_beginText_6 : decode cX2_beginText 6 = .ok (.iconst (-1), 1) := by decide +kernel
theorem dX2_beginText_7 : decode cX2_beginText 7 = .ok (.putfield 19, 3) := by decide +kernel
theorem dX2_beginText_10 : decode cX2_beginText 10 = .ok (.aload_n 0, 1) := by decide +kernel
theorem dX2_beginText_11 : decode cX2_beginText 11 = .ok (.iconst 0, 1) := by decide +kernel
theorem dX2_beginText_12 : decode cX2_beginText 12 = .ok (.putfield 26, 3) := by decide +kernel
theorem dX2_beginText_15 : decode cX2_beginText 15 = .ok (.aload_n 0, 1) := by decide +kernel
theorem dX2_beginText_16 : decode cX2_beginText 16 = .ok (.iconst 0, 1) := by decide +kernel
theorem dX2_beginText_17 : decode cX2_beginText 17 = .ok (.putfield 60, 3) := by decide +kernel
theorem dX2_beginText_20 : decode cX2_beginText 20 = .ok (.aload_n 0, 1) := by decide +kernel
theorem dX2_beginText_21 : decode cX2_beginText 21 = .ok (.iconst 0, 1) := by decide +kernel
theorem dX2_beginText_22 : decode cX2_beginText 22 = .ok (.putfield 63, 3) := by decide +kernel
theorem dX2_beginText_25 : decode cX2_beginText 25 = .ok (.aload_n 0, 1) := by decide +kernel
theorem dX2_beginText_26 : decode cX2_beginText 26 = .ok (.iconst 0, 1) := by decide +kernel
theorem dX2_beginText_27 : decode cX2_beginText 27 = .ok (.putfield 66, 3) := by decide +kernel
theorem dX2_beginText_30 : decode cX2_beginText 30 = .ok (.aload_n 0, 1) := by decide +kernel
theorem dX2_beginText_31 : decode cX2_beginText 31 = .ok (.invokevirtual 69, 3) := by decide +kernel
theorem dX2_beginText_34 : decode cX2_beginText 34 = .ok (.return_, 1) := by decide +kernel
theorem dX2_fail_0 : decode cX2_fail 0 = .ok (.aload_n 0, 1) := by decide +kernel
theorem dX2_fail_1 : decode cX2_fail 1 = .ok (.iload_n 1, 1) := by decide +kernel
theorem dX2_fail_2 : decode cX2_fail 2 = .ok (.putfield 57, 3) := by decide +kernel
theorem dX2_fail_5 : decode cX2_fail 5 = .ok (.aload_n 0, 1) := by decide +kernel
theorem dX2_fail_6 : decode cX2_fail 6 = .ok (.aload_n 0, 1) := by decide +kernel
theorem dX2_fail_7 : decode cX2_fail 7 = .ok (.getfield 29, 3) := by decide +kernel
theorem dX2_fail_10 : decode cX2_fail 10 = .ok (.putfield 19, 3) := by decide +kernel
theorem dX2_fail_13 : decode cX2_fail 13 = .ok (.iconst 0, 1) := by decide +kernel
theorem dX2_fail_14 : decode cX2_fail 14 = .ok (.ireturn, 1) := by decide +kernel
theorem dX2_readSemicolon_0 : decode cX2_readSemicolon 0 = .ok (.aload_n 0, 1) := by decide +kernel
theorem dX2_readSemicolon_1 : decode cX2_readSemicolon 1 = .ok (.getfield 36, 3) := by decide +kernel
theorem dX2_readSemicolon_4 : decode cX2_readSemicolon 4 = .ok (.iconst 4, 1) := by decide +kernel
theorem dX2_readSemicolon_5 : decode cX2_readSemicolon 5 = .ok (.if_icmp .eq 9, 3) := by decide +kernel
theorem dX2_readSemicolon_8 : decode cX2_readSemicolon 8 = .ok (.aload_n 0, 1) := by decide +kernel
theorem dX2_readSemicolon_9 : decode cX2_readSemicolon 9 = .ok (.iconst 1, 1) := by decide +kernel
theorem dX2_readSemicolon_10 : decode cX2_readSemicolon 10 = .ok (.invokevirtual 72, 3) := by decide +kernel
theorem dX2_readSemicolon_13 : decode cX2_readSemicolon 13 = .ok (.ireturn, 1) := by decide +kernel
theorem dX2_readSemicolon_14 : decode cX2_readSemicolon 14 = .ok (.aload_n 0, 1) := by decide +kernel
theorem dX2_readSemicolon_15 : decode cX2_readSemicolon 15 = .ok (.invokevirtual 69, 3) := by decide +kernel
theorem dX2_readSemicolon_18 : decode cX2_readSemicolon 18 = .ok (.iconst 1, 1) := by decide +kernel
theorem dX2_readSemicolon_19 : decode cX2_readSemicolon 19 = .ok (.ireturn, 1) := by decide +kernel
theorem dX2_readNumber_0 : decode cX2_readNumber 0 = .ok (.aload_n 0, 1) := by decide +kernel
theorem dX2_readNumber_1 : decode cX2_readNumber 1 = .ok (.getfield 36, 3) := by decide +kernel
theorem dX2_readNumber_4 : decode cX2_readNumber 4 = .ok (.iconst 2, 1) := by decide +kernel
theorem dX2_readNumber_5 : decode cX2_readNumber 5 = .ok (.if_icmp .eq 9, 3) := by decide +kernel
theorem dX2_readNumber_8 : decode cX2_readNumber 8 = .ok (.aload_n 0, 1) := by decide +kernel
theorem dX2_readNumber_9 : decode cX2_readNumber 9 = .ok (.iconst 1, 1) := by decide +kernel
theorem dX2_readNumber_10 : decode cX2_readNumber 10 = .ok (.invokevirtual 72, 3) := by decide +kernel
theorem dX2_readNumber_13 : decode cX2_readNumber 13 = .ok (.ireturn, 1) := by decide +kernel
theorem dX2_readNumber_14 : decode cX2_readNumber 14 = .ok (.aload_n 0, 1) := by decide +kernel
theorem dX2_readNumber_15 : decode cX2_readNumber 15 = .ok (.getfield 39, 3) := by decide +kernel
theorem dX2_readNumber_18 : decode cX2_readNumber 18 = .ok (.iload_n 1, 1) := by decide +kernel
theorem dX2_readNumber_19 : decode cX2_readNumber 19 = .ok (.if_icmp .lt 11, 3) := by decide +kernel
theorem dX2_readNumber_22 : decode cX2_readNumber 22 = .ok (.aload_n 0, 1) := by decide +kernel
theorem dX2_readNumber_23 : decode cX2_readNumber 23 = .ok (.getfield 39, 3) := by decide +kernel
theorem dX2_readNumber_26 : decode cX2_readNumber 26 = .ok (.iload_n 2, 1) := by decide +kernel
theorem dX2_readNumber_27 : decode cX2_readNumber 27 = .ok (.if_icmp .le 9, 3) := by decide +kernel
theorem dX2_readNumber_30 : decode cX2_readNumber 30 = .ok (.aload_n 0, 1) := by decide +kernel
theorem dX2_readNumber_31 : decode cX2_readNumber 31 = .ok (.iconst 2, 1) := by decide +kernel
theorem dX2_readNumber_32 : decode cX2_readNumber 32 = .ok (.invokevirtual 72, 3) := by decide +kernel
theorem dX2_readNumber_35 : decode cX2_readNumber 35 = .ok (.ireturn, 1) := by decide +kernel
theorem dX2_readNumber_36 : decode cX2_readNumber 36 = .ok (.aload_n 0, 1) := by decide +kernel
theorem dX2_readNumber_37 : decode cX2_readNumber 37 = .ok (.aload_n 0, 1) := by decide +kernel
theorem dX2_readNumber_38 : decode cX2_readNumber 38 = .ok (.getfield 39, 3) := by decide +kernel
theorem dX2_readNumber_41 : decode cX2_readNumber 41 = .ok (.putfield 76, 3) := by decide +kernel
theorem dX2_readNumber_44 : decode cX2_readNumber 44 = .ok (.aload_n 0, 1) := by decide +kernel
theorem dX2_readNumber_45 : decode cX2_readNumber 45 = .ok (.invokevirtual 69, 3) := by decide +kernel
theorem dX2_readNumber_48 : decode cX2_readNumber 48 = .ok (.iconst 1, 1) := by decide +kernel
theorem dX2_readNumber_49 : decode cX2_readNumber 49 = .ok (.ireturn, 1) := by decide +kernel
theorem dX2_readInteger_0 : decode cX2_readInteger 0 = .ok (.aload_n 0, 1) := by decide +kernel
theorem dX2_readInteger_1 : decode cX2_readInteger 1 = .ok (.getfield 36, 3) := by decide +kernel
theorem dX2_readInteger_4 : decode cX2_readInteger 4 = .ok (.iconst 3, 1) := by decide +kernel
theorem dX2_readInteger_5 : decode cX2_readInteger 5 = .ok (.if_icmp .ne 7, 3) := by decide +kernel
theorem dX2_readInteger_8 : decode cX2_readInteger 8 = .ok (.iconst 1, 1) := by decide +kernel
theorem dX2_readInteger_9 : decode cX2_readInteger 9 = .ok (.goto 4, 3) := by decide +kernel
theorem dX2_readInteger_12 : decode cX2_readInteger 12 = .ok (.iconst 0, 1) := by decide +kernel
theorem dX2_readInteger_13 : decode cX2_readInteger 13 = .ok (.istore_n 3, 1) := by decide +kernel
theorem dX2_readInteger_14 : decode cX2_readInteger 14 = .ok (.iload_n 3, 1) := by decide +kernel
theorem dX2_readInteger_15 : decode cX2_readInteger 15 = .ok (.ifCond .eq 7, 3) := by decide +kernel
theorem dX2_readInteger_18 : decode cX2_readInteger 18 = .ok (.aload_n 0, 1) := by decide +kernel
theorem dX2_readInteger_19 : decode cX2_readInteger 19 = .ok (.invokevirtual 69, 3) := by decide +kernel
theorem dX2_readInteger_22 : decode cX2_readInteger 22 = .ok (.aload_n 0, 1) := by decide +kernel
theorem dX2_readInteger_23 : decode cX2_readInteger 23 = .ok (.getfield 36, 3) := by decide +kernel
theorem dX2_readInteger_26 : decode cX2_readInteger 26 = .ok (.iconst 2, 1) := by decide +kernel
theorem dX2_readInteger_27 : decode cX2_readInteger 27 = .ok (.if_icmp .eq 9, 3) := by decide +kernel
theorem dX2_readInteger_30 : decode cX2_readInteger 30 = .ok (.aload_n 0, 1) := by decide +kernel
theorem dX2_readInteger_31 : decode cX2_readInteger 31 = .ok (.iconst 1, 1) := by decide +kernel
theorem dX2_readInteger_32 : decode cX2_readInteger 32 = .ok (.invokevirtual 72, 3) := by decide +kernel
theorem dX2_readInteger_35 : decode cX2_readInteger 35 = .ok (.ireturn, 1) := by decide +kernel
theorem dX2_readInteger_36 : decode cX2_readInteger 36 = .ok (.iload_n 3, 1) := by decide +kernel
theorem dX2_readInteger_37 : decode cX2_readInteger 37 = .ok (.ifCond .eq 11, 3) := by decide +kernel
theorem dX2_readInteger_40 : decode cX2_readInteger 40 = .ok (.aload_n 0, 1) := by decide +kernel
theorem dX2_readInteger_41 : decode cX2_readInteger 41 = .ok (.getfield 39, 3) := by decide +kernel
theorem dX2_readInteger_44 : decode cX2_readInteger 44 = .ok (.ineg, 1) := by decide +kernel
theorem dX2_readInteger_45 : decode cX2_readInteger 45 = .ok (.goto 7, 3) := by decide +kernel
theorem dX2_readInteger_48 : decode cX2_readInteger 48 = .ok (.aload_n 0, 1) := by decide +kernel
theorem dX2_readInteger_49 : decode cX2_readInteger 49 = .ok (.getfield 39, 3) := by decide +kernel
theorem dX2_readInteger_52 : decode cX2_readInteger 52 = .ok (.istore 4, 2) := by decide +kernel
theorem dX2_readInteger_54 : decode cX2_readInteger 54 = .ok (.iload 4, 2) := by decide +kernel
theorem dX2_readInteger_56 : decode cX2_readInteger 56 = .ok (.iload_n 1, 1) := by decide +kernel
theorem dX2_readInteger_57 : decode cX2_readInteger 57 = .ok (.if_icmp .lt 9, 3) := by decide +kernel
theorem dX2_readInteger_60 : decode cX2_readInteger 60 = .ok (.iload 4, 2) := by decide +kernel
theorem dX2_readInteger_62 : decode cX2_readInteger 62 = .ok (.iload_n 2, 1) := by decide +kernel
theorem dX2_readInteger_63 : decode cX2_readInteger 63 = .ok (.if_icmp .le 9, 3) := by decide +kernel
theorem dX2_readInteger_66 : decode cX2_readInteger 66 = .ok (.aload_n 0, 1) := by decide +kernel
theorem dX2_readInteger_67 : decode cX2_readInteger 67 = .ok (.iconst 2, 1) := by decide +kernel
theorem dX2_readInteger_68 : decode cX2_readInteger 68 = .ok (.invokevirtual 72, 3) := by decide +kernel
theorem dX2_readInteger_71 : decode cX2_readInteger 71 = .ok (.ireturn, 1) := by decide +kernel
theorem dX2_readInteger_72 : decode cX2_readInteger 72 = .ok (.aload_n 0, 1) := by decide +kernel
theorem dX2_readInteger_73 : decode cX2_readInteger 73 = .ok (.iload 4, 2) := by decide +kernel
theorem dX2_readInteger_75 : decode cX2_readInteger 75 = .ok (.putfield 76, 3) := by decide +kernel
theorem dX2_readInteger_78 : decode cX2_readInteger 78 = .ok (.aload_n 0, 1) := by decide +kernel
theorem dX2_readInteger_79 : decode cX2_readInteger 79 = .ok (.invokevirtual 69, 3) := by decide +kernel
theorem dX2_readInteger_82 : decode cX2_readInteger 82 = .ok (.iconst 1, 1) := by decide +kernel
theorem dX2_readInteger_83 : decode cX2_readInteger 83 = .ok (.ireturn, 1) := by decide +kernel
theorem dX2_readSetup_0 : decode cX2_readSetup 0 = .ok (.aload_n 0, 1) := by decide +kernel
theorem dX2_readSetup_1 : decode cX2_readSetup 1 = .ok (.invokevirtual 79, 3) := by decide +kernel
theorem dX2_readSetup_4 : decode cX2_readSetup 4 = .ok (.aload_n 0, 1) := by decide +kernel
theorem dX2_readSetup_5 : decode cX2_readSetup 5 = .ok (.getfield 36, 3) := by decide +kernel
theorem dX2_readSetup_8 : decode cX2_readSetup 8 = .ok (.ifCond .eq 43, 3) := by decide +kernel
theorem dX2_readSetup_11 : decode cX2_readSetup 11 = .ok (.aload_n 0, 1) := by decide +kernel
theorem dX2_readSetup_12 : decode cX2_readSetup 12 = .ok (.getfield 60, 3) := by decide +kernel
theorem dX2_readSetup_15 : decode cX2_readSetup 15 = .ok (.sipush 600, 3) := by decide +kernel
theorem dX2_readSetup_18 : decode cX2_readSetup 18 = .ok (.if_icmp .ge 33, 3) := by decide +kernel
theorem dX2_readSetup_21 : decode cX2_readSetup 21 = .ok (.aload_n 0, 1) := by decide +kernel
theorem dX2_readSetup_22 : decode cX2_readSetup 22 = .ok (.aload_n 1, 1) := by decide +kernel
theorem dX2_readSetup_23 : decode cX2_readSetup 23 = .ok (.invokevirtual 82, 3) := by decide +kernel
theorem dX2_readSetup_26 : decode cX2_readSetup 26 = .ok (.ifCond .eq 10, 3) := by decide +kernel
theorem dX2_readSetup_29 : decode cX2_readSetup 29 = .ok (.aload_n 0, 1) := by decide +kernel
theorem dX2_readSetup_30 : decode cX2_readSetup 30 = .ok (.invokevirtual 86, 3) := by decide +kernel
theorem dX2_readSetup_33 : decode cX2_readSetup 33 = .ok (.ifCond .ne 5, 3) := by decide +kernel
theorem dX2_readSetup_36 : decode cX2_readSetup 36 = .ok (.iconst 0, 1) := by decide +kernel
theorem dX2_readSetup_37 : decode cX2_readSetup 37 = .ok (.ireturn, 1) := by decide +kernel
theorem dX2_readSetup_38 : decode cX2_readSetup 38 = .ok (.aload_n 0, 1) := by decide +kernel
theorem dX2_readSetup_39 : decode cX2_readSetup 39 = .ok (.dup, 1) := by decide +kernel
theorem dX2_readSetup_40 : decode cX2_readSetup 40 = .ok (.getfield 60, 3) := by decide +kernel
theorem dX2_readSetup_43 : decode cX2_readSetup 43 = .ok (.iconst 1, 1) := by decide +kernel
theorem dX2_readSetup_44 : decode cX2_readSetup 44 = .ok (.iadd, 1) := by decide +kernel
theorem dX2_readSetup_45 : decode cX2_readSetup 45 = .ok (.putfield 60, 3) := by decide +kernel
theorem dX2_readSetup_48 : decode cX2_readSetup 48 = .ok (.goto (-44), 3) := by decide +kernel
theorem dX2_readSetup_51 : decode cX2_readSetup 51 = .ok (.iconst 1, 1) := by decide +kernel
theorem dX2_readSetup_52 : decode cX2_readSetup 52 = .ok (.ireturn, 1) := by decide +kernel
theorem dX2_readStatement_0 : decode cX2_readStatement 0 = .ok (.aload_n 0, 1) := by decide +kernel
theorem dX2_readStatement_1 : decode cX2_readStatement 1 = .ok (.ldc 90, 2) := by decide +kernel
theorem dX2_readStatement_3 : decode cX2_readStatement 3 = .ok (.invokevirtual 91, 3) := by decide +kernel
theorem dX2_readStatement_6 : decode cX2_readStatement 6 = .ok (.ifCond .eq 9, 3) := by decide +kernel
theorem dX2_readStatement_9 : decode cX2_readStatement 9 = .ok (.aload_n 0, 1) := by decide +kernel
theorem dX2_readStatement_10 : decode cX2_readStatement 10 = .ok (.aload_n 1, 1) := by decide +kernel
theorem dX2_readStatement_11 : decode cX2_readStatement 11 = .ok (.invokevirtual 95, 3) := by decide +kernel
theorem dX2_readStatement_14 : decode cX2_readStatement 14 = .ok (.ireturn, 1) := by decide +kernel
theorem dX2_readStatement_15 : decode cX2_readStatement 15 = .ok (.aload_n 0, 1) := by decide +kernel
theorem dX2_readStatement_16 : decode cX2_readStatement 16 = .ok (.invokevirtual 98, 3) := by decide +kernel
theorem dX2_readStatement_19 : decode cX2_readStatement 19 = .ok (.istore_n 2, 1) := by decide +kernel
theorem dX2_readStatement_20 : decode cX2_readStatement 20 = .ok (.iload_n 2, 1) := by decide +kernel
theorem dX2_readStatement_21 : decode cX2_readStatement 21 = .ok (.ifCond .lt 9, 3) := by decide +kernel
theorem dX2_readStatement_24 : decode cX2_readStatement 24 = .ok (.iload_n 2, 1) := by decide +kernel
theorem dX2_readStatement_25 : decode cX2_readStatement 25 = .ok (.bipush 7, 2) := by decide +kernel
theorem dX2_readStatement_27 : decode cX2_readStatement 27 = .ok (.if_icmp .lt 9, 3) := by decide +kernel
theorem dX2_readStatement_30 : decode cX2_readStatement 30 = .ok (.aload_n 0, 1) := by decide +kernel
theorem dX2_readStatement_31 : decode cX2_readStatement 31 = .ok (.iconst 1, 1) := by decide +kernel
theorem dX2_readStatement_32 : decode cX2_readStatement 32 = .ok (.invokevirtual 72, 3) := by decide +kernel
theorem dX2_readStatement_35 : decode cX2_readStatement 35 = .ok (.ireturn, 1) := by decide +kernel
theorem dX2_readStatement_36 : decode cX2_readStatement 36 = .ok (.iload_n 2, 1) := by decide +kernel
theorem dX2_readStatement_37 : decode cX2_readStatement 37 = .ok (.ifCond .ne 14, 3) := by decide +kernel
theorem dX2_readStatement_40 : decode cX2_readStatement 40 = .ok (.aload_n 0, 1) := by decide +kernel
theorem dX2_readStatement_41 : decode cX2_readStatement 41 = .ok (.getfield 66, 3) := by decide +kernel
theorem dX2_readStatement_44 : decode cX2_readStatement 44 = .ok (.ifCond .eq 7, 3) := by decide +kernel
theorem dX2_readStatement_47 : decode cX2_readStatement 47 = .ok (.iconst 1, 1) := by decide +kernel
theorem dX2_readStatement_48 : decode cX2_readStatement 48 = .ok (.goto 4, 3) := by decide +kernel
theorem dX2_readStatement_51 : decode cX2_readStatement 51 = .ok (.iconst 0, 1) := by decide +kernel
theorem dX2_readStatement_52 : decode cX2_readStatement 52 = .ok (.istore_n 3, 1) := by decide +kernel
theorem dX2_readStatement_53 : decode cX2_readStatement 53 = .ok (.iload_n 3, 1) := by decide +kernel
theorem dX2_readStatement_54 : decode cX2_readStatement 54 = .ok (.ifCond .ne 15, 3) := by decide +kernel
theorem dX2_readStatement_57 : decode cX2_readStatement 57 = .ok (.aload_n 0, 1) := by decide +kernel
theorem dX2_readStatement_58 : decode cX2_readStatement 58 = .ok (.getfield 63, 3) := by decide +kernel
theorem dX2_readStatement_61 : decode cX2_readStatement 61 = .ok (.iload_n 2, 1) := by decide +kernel
theorem dX2_readStatement_62 : decode cX2_readStatement 62 = .ok (.ishr, 1) := by decide +kernel
theorem dX2_readStatement_63 : decode cX2_readStatement 63 = .ok (.iconst 1, 1) := by decide +kernel
theorem dX2_readStatement_64 : decode cX2_readStatement 64 = .ok (.iand, 1) := by decide +kernel
theorem dX2_readStatement_65 : decode cX2_readStatement 65 = .ok (.iconst 1, 1) := by decide +kernel
theorem dX2_readStatement_66 : decode cX2_readStatement 66 = .ok (.if_icmp .ne 9, 3) := by decide +kernel
theorem dX2_readStatement_69 : decode cX2_readStatement 69 = .ok (.aload_n 0, 1) := by decide +kernel
theorem dX2_readStatement_70 : decode cX2_readStatement 70 = .ok (.iconst 3, 1) := by decide +kernel
theorem dX2_readStatement_71 : decode cX2_readStatement 71 = .ok (.invokevirtual 72, 3) := by decide +kernel
theorem dX2_readStatement_74 : decode cX2_readStatement 74 = .ok (.ireturn, 1) := by decide +kernel
theorem dX2_readStatement_75 : decode cX2_readStatement 75 = .ok (.aload_n 0, 1) := by decide +kernel
theorem dX2_readStatement_76 : decode cX2_readStatement 76 = .ok (.dup, 1) := by decide +kernel
theorem dX2_readStatement_77 : decode cX2_readStatement 77 = .ok (.getfield 63, 3) := by decide +kernel
theorem dX2_readStatement_80 : decode cX2_readStatement 80 = .ok (.iconst 1, 1) := by decide +kernel
theorem dX2_readStatement_81 : decode cX2_readStatement 81 = .ok (.iload_n 2, 1) := by decide +kernel
theorem dX2_readStatement_82 : decode cX2_readStatement 82 = .ok (.ishl, 1) := by decide +kernel
theorem dX2_readStatement_83 : decode cX2_readStatement 83 = .ok (.ior, 1) := by decide +kernel
theorem dX2_readStatement_84 : decode cX2_readStatement 84 = .ok (.putfield 63, 3) := by decide +kernel
theorem dX2_readStatement_87 : decode cX2_readStatement 87 = .ok (.aload_n 0, 1) := by decide +kernel
theorem dX2_readStatement_88 : decode cX2_readStatement 88 = .ok (.invokevirtual 69, 3) := by decide +kernel
theorem dX2_readStatement_91 : decode cX2_readStatement 91 = .ok (.aload_n 0, 1) := by decide +kernel
theorem dX2_readStatement_92 : decode cX2_readStatement 92 = .ok (.aload_n 1, 1) := by decide +kernel
theorem dX2_readStatement_93 : decode cX2_readStatement 93 = .ok (.iload_n 2, 1) := by decide +kernel
theorem dX2_readStatement_94 : decode cX2_readStatement 94 = .ok (.invokevirtual 101, 3) := by decide +kernel
theorem dX2_readStatement_97 : decode cX2_readStatement 97 = .ok (.ifCond .ne 5, 3) := by decide +kernel
theorem dX2_readStatement_100 : decode cX2_readStatement 100 = .ok (.iconst 0, 1) := by decide +kernel
theorem dX2_readStatement_101 : decode cX2_readStatement 101 = .ok (.ireturn, 1) := by decide +kernel
theorem dX2_readStatement_102 : decode cX2_readStatement 102 = .ok (.iload_n 2, 1) := by decide +kernel
theorem dX2_readStatement_103 : decode cX2_readStatement 103 = .ok (.iconst 4, 1) := by decide +kernel
theorem dX2_readStatement_104 : decode cX2_readStatement 104 = .ok (.if_icmp .ne 12, 3) := by decide +kernel
theorem dX2_readStatement_107 : decode cX2_readStatement 107 = .ok (.aload_n 0, 1) := by decide +kernel
theorem dX2_readStatement_108 : decode cX2_readStatement 108 = .ok (.aload_n 1, 1) := by decide +kernel
theorem dX2_readStatement_109 : decode cX2_readStatement 109 = .ok (.iconst 5, 1) := by decide +kernel
theorem dX2_readStatement_110 : decode cX2_readStatement 110 = .ok (.invokevirtual 101, 3) := by decide +kernel
theorem dX2_readStatement_113 : decode cX2_readStatement 113 = .ok (.ifCond .eq 7, 3) := by decide +kernel
theorem dX2_readStatement_116 : decode cX2_readStatement 116 = .ok (.iconst 1, 1) := by decide +kernel
theorem dX2_readStatement_117 : decode cX2_readStatement 117 = .ok (.goto 4, 3) := by decide +kernel
theorem dX2_readStatement_120 : decode cX2_readStatement 120 = .ok (.iconst 0, 1) := by decide +kernel
theorem dX2_readStatement_121 : decode cX2_readStatement 121 = .ok (.ireturn, 1) := by decide +kernel
theorem dX2_settingOfWord_0 : decode cX2_settingOfWord 0 = .ok (.aload_n 0, 1) := by decide +kernel
theorem dX2_settingOfWord_1 : decode cX2_settingOfWord 1 = .ok (.ldc 105, 2) := by decide +kernel
theorem dX2_settingOfWord_3 : decode cX2_settingOfWord 3 = .ok (.invokevirtual 91, 3) := by decide +kernel
theorem dX2_settingOfWord_6 : decode cX2_settingOfWord 6 = .ok (.ifCond .eq 5, 3) := by decide +kernel
theorem dX2_settingOfWord_9 : decode cX2_settingOfWord 9 = .ok (.iconst 0, 1) := by decide +kernel
theorem dX2_settingOfWord_10 : decode cX2_settingOfWord 10 = .ok (.ireturn, 1) := by decide +kernel
theorem dX2_settingOfWord_11 : decode cX2_settingOfWord 11 = .ok (.aload_n 0, 1) := by decide +kernel
theorem dX2_settingOfWord_12 : decode cX2_settingOfWord 12 = .ok (.ldc 107, 2) := by decide +kernel
theorem dX2_settingOfWord_14 : decode cX2_settingOfWord 14 = .ok (.invokevirtual 91, 3) := by decide +kernel
theorem dX2_settingOfWord_17 : decode cX2_settingOfWord 17 = .ok (.ifCond .eq 5, 3) := by decide +kernel
theorem dX2_settingOfWord_20 : decode cX2_settingOfWord 20 = .ok (.iconst 1, 1) := by decide +kernel
theorem dX2_settingOfWord_21 : decode cX2_settingOfWord 21 = .ok (.ireturn, 1) := by decide +kernel
theorem dX2_settingOfWord_22 : decode cX2_settingOfWord 22 = .ok (.aload_n 0, 1) := by decide +kernel
theorem dX2_settingOfWord_23 : decode cX2_settingOfWord 23 = .ok (.ldc 109, 2) := by decide +kernel
theorem dX2_settingOfWord_25 : decode cX2_settingOfWord 25 = .ok (.invokevirtual 91, 3) := by decide +kernel
theorem dX2_settingOfWord_28 : decode cX2_settingOfWord 28 = .ok (.ifCond .eq 5, 3) := by decide +kernel
theorem dX2_settingOfWord_31 : decode cX2_settingOfWord 31 = .ok (.iconst 2, 1) := by decide +kernel
theorem dX2_settingOfWord_32 : decode cX2_settingOfWord 32 = .ok (.ireturn, 1) := by decide +kernel
theorem dX2_settingOfWord_33 : decode cX2_settingOfWord 33 = .ok (.aload_n 0, 1) := by decide +kernel
theorem dX2_settingOfWord_34 : decode cX2_settingOfWord 34 = .ok (.ldc 111, 2) := by decide +kernel
theorem dX2_settingOfWord_36 : decode cX2_settingOfWord 36 = .ok (.invokevirtual 91, 3) := by decide +kernel
theorem dX2_settingOfWord_39 : decode cX2_settingOfWord 39 = .ok (.ifCond .eq 5, 3) := by decide +kernel
theorem dX2_settingOfWord_42 : decode cX2_settingOfWord 42 = .ok (.iconst 3, 1) := by decide +kernel
theorem dX2_settingOfWord_43 : decode cX2_settingOfWord 43 = .ok (.ireturn, 1) := by decide +kernel
theorem dX2_settingOfWord_44 : decode cX2_settingOfWord 44 = .ok (.aload_n 0, 1) := by decide +kernel
theorem dX2_settingOfWord_45 : decode cX2_settingOfWord 45 = .ok (.ldc 113, 2) := by decide +kernel
theorem dX2_settingOfWord_47 : decode cX2_settingOfWord 47 = .ok (.invokevirtual 91, 3) := by decide +kernel
theorem dX2_settingOfWord_50 : decode cX2_settingOfWord 50 = .ok (.ifCond .eq 5, 3) := by decide +kernel
theorem dX2_settingOfWord_53 : decode cX2_settingOfWord 53 = .ok (.iconst 4, 1) := by decide +kernel
theorem dX2_settingOfWord_54 : decode cX2_settingOfWord 54 = .ok (.ireturn, 1) := by decide +kernel
theorem dX2_settingOfWord_55 : decode cX2_settingOfWord 55 = .ok (.aload_n 0, 1) := by decide +kernel
theorem dX2_settingOfWord_56 : decode cX2_settingOfWord 56 = .ok (.ldc 115, 2) := by decide +kernel
theorem dX2_settingOfWord_58 : decode cX2_settingOfWord 58 = .ok (.invokevirtual 91, 3) := by decide +kernel
theorem dX2_settingOfWord_61 : decode cX2_settingOfWord 61 = .ok (.ifCond .eq 8, 3) := by decide +kernel
theorem dX2_settingOfWord_64 : decode cX2_settingOfWord 64 = .ok (.bipush 6, 2) := by decide +kernel
theorem dX2_settingOfWord_66 : decode cX2_settingOfWord 66 = .ok (.goto 4, 3) := by decide +kernel
theorem dX2_settingOfWord_69 : decode cX2_settingOfWord 69 = .ok (.iconst (-1), 1) := by decide +kernel
theorem dX2_settingOfWord_70 : decode cX2_settingOfWord 70 = .ok (.ireturn, 1) := by decide +kernel
theorem dX2_readSetting_0 : decode cX2_readSetting 0 = .ok (.iload_n 2, 1) := by decide +kernel
theorem dX2_readSetting_1 : decode cX2_readSetting 1 = .ok (.ifCond .lt 9, 3) := by decide +kernel
theorem dX2_readSetting_4 : decode cX2_readSetting 4 = .ok (.iload_n 2, 1) := by decide +kernel
theorem dX2_readSetting_5 : decode cX2_readSetting 5 = .ok (.bipush 7, 2) := by decide +kernel
theorem dX2_readSetting_7 : decode cX2_readSetting 7 = .ok (.if_icmp .lt 9, 3) := by decide +kernel
theorem dX2_readSetting_10 : decode cX2_readSetting 10 = .ok (.aload_n 0, 1) := by decide +kernel
theorem dX2_readSetting_11 : decode cX2_readSetting 11 = .ok (.iconst 1, 1) := by decide +kernel
theorem dX2_readSetting_12 : decode cX2_readSetting 12 = .ok (.invokevirtual 72, 3) := by decide +kernel
theorem dX2_readSetting_15 : decode cX2_readSetting 15 = .ok (.ireturn, 1) := by decide +kernel
theorem dX2_readSetting_16 : decode cX2_readSetting 16 = .ok (.aload_n 0, 1) := by decide +kernel
theorem dX2_readSetting_17 : decode cX2_readSetting 17 = .ok (.getstatic 117, 3) := by decide +kernel
theorem dX2_readSetting_20 : decode cX2_readSetting 20 = .ok (.iload_n 2, 1) := by decide +kernel
theorem dX2_readSetting_21 : decode cX2_readSetting 21 = .ok (.iaload, 1) := by decide +kernel
theorem dX2_readSetting_22 : decode cX2_readSetting 22 = .ok (.getstatic 120, 3) := by decide +kernel
theorem dX2_readSetting_25 : decode cX2_readSetting 25 = .ok (.iload_n 2, 1) := by decide +kernel
theorem dX2_readSetting_26 : decode cX2_readSetting 26 = .ok (.iaload, 1) := by decide +kernel
theorem dX2_readSetting_27 : decode cX2_readSetting 27 = .ok (.invokevirtual 123, 3) := by decide +kernel
theorem dX2_readSetting_30 : decode cX2_readSetting 30 = .ok (.ifCond .ne 5, 3) := by decide +kernel
theorem dX2_readSetting_33 : decode cX2_readSetting 33 = .ok (.iconst 0, 1) := by decide +kernel
theorem dX2_readSetting_34 : decode cX2_readSetting 34 = .ok (.ireturn, 1) := by decide +kernel
theorem dX2_readSetting_35 : decode cX2_readSetting 35 = .ok (.aload_n 1, 1) := by decide +kernel
theorem dX2_readSetting_36 : decode cX2_readSetting 36 = .ok (.getfield 127, 3) := by decide +kernel
theorem dX2_readSetting_39 : decode cX2_readSetting 39 = .ok (.iload_n 2, 1) := by decide +kernel
theorem dX2_readSetting_40 : decode cX2_readSetting 40 = .ok (.aload_n 0, 1) := by decide +kernel
theorem dX2_readSetting_41 : decode cX2_readSetting 41 = .ok (.getfield 76, 3) := by decide +kernel
theorem dX2_readSetting_44 : decode cX2_readSetting 44 = .ok (.iastore, 1) := by decide +kernel
theorem dX2_readSetting_45 : decode cX2_readSetting 45 = .ok (.iconst 1, 1) := by decide +kernel
theorem dX2_readSetting_46 : decode cX2_readSetting 46 = .ok (.ireturn, 1) := by decide +kernel
theorem dX2_readStart_0 : decode cX2_readStart 0 = .ok (.aload_n 0, 1) := by decide +kernel
theorem dX2_readStart_1 : decode cX2_readStart 1 = .ok (.invokevirtual 69, 3) := by decide +kernel
theorem dX2_readStart_4 : decode cX2_readStart 4 = .ok (.aload_n 0, 1) := by decide +kernel
theorem dX2_readStart_5 : decode cX2_readStart 5 = .ok (.bipush (-30), 2) := by decide +kernel
theorem dX2_readStart_7 : decode cX2_readStart 7 = .ok (.bipush 30, 2) := by decide +kernel
theorem dX2_readStart_9 : decode cX2_readStart 9 = .ok (.invokevirtual 132, 3) := by decide +kernel
theorem dX2_readStart_12 : decode cX2_readStart 12 = .ok (.ifCond .ne 5, 3) := by decide +kernel
theorem dX2_readStart_15 : decode cX2_readStart 15 = .ok (.iconst 0, 1) := by decide +kernel
theorem dX2_readStart_16 : decode cX2_readStart 16 = .ok (.ireturn, 1) := by decide +kernel
theorem dX2_readStart_17 : decode cX2_readStart 17 = .ok (.aload_n 0, 1) := by decide +kernel
theorem dX2_readStart_18 : decode cX2_readStart 18 = .ok (.getfield 76, 3) := by decide +kernel
theorem dX2_readStart_21 : decode cX2_readStart 21 = .ok (.istore_n 2, 1) := by decide +kernel
theorem dX2_readStart_22 : decode cX2_readStart 22 = .ok (.aload_n 1, 1) := by decide +kernel
theorem dX2_readStart_23 : decode cX2_readStart 23 = .ok (.getfield 127, 3) := by decide +kernel
theorem dX2_readStart_26 : decode cX2_readStart 26 = .ok (.iconst 0, 1) := by decide +kernel
theorem dX2_readStart_27 : decode cX2_readStart 27 = .ok (.iaload, 1) := by decide +kernel
theorem dX2_readStart_28 : decode cX2_readStart 28 = .ok (.istore_n 3, 1) := by decide +kernel
theorem dX2_readStart_29 : decode cX2_readStart 29 = .ok (.aload_n 0, 1) := by decide +kernel
theorem dX2_readStart_30 : decode cX2_readStart 30 = .ok (.getfield 36, 3) := by decide +kernel
theorem dX2_readStart_33 : decode cX2_readStart 33 = .ok (.iconst 2, 1) := by decide +kernel
theorem dX2_readStart_34 : decode cX2_readStart 34 = .ok (.if_icmp .ne 32, 3) := by decide +kernel
theorem dX2_readStart_37 : decode cX2_readStart 37 = .ok (.aload_n 0, 1) := by decide +kernel
theorem dX2_readStart_38 : decode cX2_readStart 38 = .ok (.getfield 39, 3) := by decide +kernel
theorem dX2_readStart_41 : decode cX2_readStart 41 = .ok (.iload_n 3, 1) := by decide +kernel
theorem dX2_readStart_42 : decode cX2_readStart 42 = .ok (.if_icmp .ge 24, 3) := by decide +kernel
theorem dX2_readStart_45 : decode cX2_readStart 45 = .ok (.aload_n 0, 1) := by decide +kernel
theorem dX2_readStart_46 : decode cX2_readStart 46 = .ok (.getfield 66, 3) := by decide +kernel
theorem dX2_readStart_49 : decode cX2_readStart 49 = .ok (.aload_n 0, 1) := by decide +kernel
theorem dX2_readStart_50 : decode cX2_readStart 50 = .ok (.getfield 39, 3) := by decide +kernel
theorem dX2_readStart_53 : decode cX2_readStart 53 = .ok (.ishr, 1) := by decide +kernel
theorem dX2_readStart_54 : decode cX2_readStart 54 = .ok (.iconst 1, 1) := by decide +kernel
theorem dX2_readStart_55 : decode cX2_readStart 55 = .ok (.iand, 1) := by decide +kernel
theorem dX2_readStart_56 : decode cX2_readStart 56 = .ok (.iconst 1, 1) := by decide +kernel
theorem dX2_readStart_57 : decode cX2_readStart 57 = .ok (.if_icmp .ne 9, 3) := by decide +kernel
theorem dX2_readStart_60 : decode cX2_readStart 60 = .ok (.aload_n 0, 1) := by decide +kernel
theorem dX2_readStart_61 : decode cX2_readStart 61 = .ok (.iconst 4, 1) := by decide +kernel
theorem dX2_readStart_62 : decode cX2_readStart 62 = .ok (.invokevirtual 72, 3) := by decide +kernel
theorem dX2_readStart_65 : decode cX2_readStart 65 = .ok (.ireturn, 1) := by decide +kernel
theorem dX2_readStart_66 : decode cX2_readStart 66 = .ok (.aload_n 0, 1) := by decide +kernel
theorem dX2_readStart_67 : decode cX2_readStart 67 = .ok (.iconst 0, 1) := by decide +kernel
theorem dX2_readStart_68 : decode cX2_readStart 68 = .ok (.iload_n 3, 1) := by decide +kernel
theorem dX2_readStart_69 : decode cX2_readStart 69 = .ok (.iconst 1, 1) := by decide +kernel
theorem dX2_readStart_70 : decode cX2_readStart 70 = .ok (.isub, 1) := by decide +kernel
theorem dX2_readStart_71 : decode cX2_readStart 71 = .ok (.invokevirtual 123, 3) := by decide +kernel
theorem dX2_readStart_74 : decode cX2_readStart 74 = .ok (.ifCond .eq 18, 3) := by decide +kernel
theorem dX2_readStart_77 : decode cX2_readStart 77 = .ok (.aload_n 0, 1) := by decide +kernel
theorem dX2_readStart_78 : decode cX2_readStart 78 = .ok (.getfield 76, 3) := by decide +kernel
theorem dX2_readStart_81 : decode cX2_readStart 81 = .ok (.ifCond .lt 11, 3) := by decide +kernel
theorem dX2_readStart_84 : decode cX2_readStart 84 = .ok (.aload_n 0, 1) := by decide +kernel
theorem dX2_readStart_85 : decode cX2_readStart 85 = .ok (.getfield 76, 3) := by decide +kernel
theorem dX2_readStart_88 : decode cX2_readStart 88 = .ok (.iconst 5, 1) := by decide +kernel
theorem dX2_readStart_89 : decode cX2_readStart 89 = .ok (.if_icmp .lt 5, 3) := by decide +kernel
theorem dX2_readStart_92 : decode cX2_readStart 92 = .ok (.iconst 0, 1) := by decide +kernel
theorem dX2_readStart_93 : decode cX2_readStart 93 = .ok (.ireturn, 1) := by decide +kernel
theorem dX2_readStart_94 : decode cX2_readStart 94 = .ok (.aload_n 0, 1) := by decide +kernel
theorem dX2_readStart_95 : decode cX2_readStart 95 = .ok (.dup, 1) := by decide +kernel
theorem dX2_readStart_96 : decode cX2_readStart 96 = .ok (.getfield 66, 3) := by decide +kernel
theorem dX2_readStart_99 : decode cX2_readStart 99 = .ok (.iconst 1, 1) := by decide +kernel
theorem dX2_readStart_100 : decode cX2_readStart 100 = .ok (.aload_n 0, 1) := by decide +kernel
theorem dX2_readStart_101 : decode cX2_readStart 101 = .ok (.getfield 76, 3) := by decide +kernel
theorem dX2_readStart_104 : decode cX2_readStart 104 = .ok (.ishl, 1) := by decide +kernel
theorem dX2_readStart_105 : decode cX2_readStart 105 = .ok (.ior, 1) := by decide +kernel
theorem dX2_readStart_106 : decode cX2_readStart 106 = .ok (.putfield 66, 3) := by decide +kernel
theorem dX2_readStart_109 : decode cX2_readStart 109 = .ok (.aload_n 1, 1) := by decide +kernel
theorem dX2_readStart_110 : decode cX2_readStart 110 = .ok (.getfield 135, 3) := by decide +kernel
theorem dX2_readStart_113 : decode cX2_readStart 113 = .ok (.aload_n 0, 1) := by decide +kernel
theorem dX2_readStart_114 : decode cX2_readStart 114 = .ok (.getfield 76, 3) := by decide +kernel
theorem dX2_readStart_117 : decode cX2_readStart 117 = .ok (.iload_n 2, 1) := by decide +kernel
theorem dX2_readStart_118 : decode cX2_readStart 118 = .ok (.iastore, 1) := by decide +kernel
theorem dX2_readStart_119 : decode cX2_readStart 119 = .ok (.iconst 1, 1) := by decide +kernel
theorem dX2_readStart_120 : decode cX2_readStart 120 = .ok (.ireturn, 1) := by decide +kernel
theorem dX2_argument_0 : decode cX2_argument 0 = .ok (.iload_n 1, 1) := by decide +kernel
theorem dX2_argument_1 : decode cX2_argument 1 = .ok (.bipush 6, 2) := by decide +kernel
theorem dX2_argument_3 : decode cX2_argument 3 = .ok (.imul, 1) := by decide +kernel
theorem dX2_argument_4 : decode cX2_argument 4 = .ok (.iload_n 2, 1) := by decide +kernel
theorem dX2_argument_5 : decode cX2_argument 5 = .ok (.iadd, 1) := by decide +kernel
theorem dX2_argument_6 : decode cX2_argument 6 = .ok (.istore_n 3, 1) := by decide +kernel
theorem dX2_argument_7 : decode cX2_argument 7 = .ok (.iload_n 3, 1) := by decide +kernel
theorem dX2_argument_8 : decode cX2_argument 8 = .ok (.ifCond .lt 21, 3) := by decide +kernel
theorem dX2_argument_11 : decode cX2_argument 11 = .ok (.iload_n 3, 1) := by decide +kernel
theorem dX2_argument_12 : decode cX2_argument 12 = .ok (.aload_n 0, 1) := by decide +kernel
theorem dX2_argument_13 : decode cX2_argument 13 = .ok (.getfield 15, 3) := by decide +kernel
theorem dX2_argument_16 : decode cX2_argument 16 = .ok (.arraylength, 1) := by decide +kernel
theorem dX2_argument_17 : decode cX2_argument 17 = .ok (.if_icmp .ge 12, 3) := by decide +kernel
theorem dX2_argument_20 : decode cX2_argument 20 = .ok (.aload_n 0, 1) := by decide +kernel
theorem dX2_argument_21 : decode cX2_argument 21 = .ok (.getfield 15, 3) := by decide +kernel
theorem dX2_argument_24 : decode cX2_argument 24 = .ok (.iload_n 3, 1) := by decide +kernel
theorem dX2_argument_25 : decode cX2_argument 25 = .ok (.iaload, 1) := by decide +kernel
theorem dX2_argument_26 : decode cX2_argument 26 = .ok (.goto 4, 3) := by decide +kernel
theorem dX2_argument_29 : decode cX2_argument 29 = .ok (.iconst 0, 1) := by decide +kernel
theorem dX2_argument_30 : decode cX2_argument 30 = .ok (.ireturn, 1) := by decide +kernel
theorem dX2_keep_0 : decode cX2_keep 0 = .ok (.aload_n 0, 1) := by decide +kernel
theorem dX2_keep_1 : decode cX2_keep 1 = .ok (.getfield 60, 3) := by decide +kernel
theorem dX2_keep_4 : decode cX2_keep 4 = .ok (.bipush 6, 2) := by decide +kernel
theorem dX2_keep_6 : decode cX2_keep 6 = .ok (.imul, 1) := by decide +kernel
theorem dX2_keep_7 : decode cX2_keep 7 = .ok (.iload_n 1, 1) := by decide +kernel
theorem dX2_keep_8 : decode cX2_keep 8 = .ok (.iadd, 1) := by decide +kernel
theorem dX2_keep_9 : decode cX2_keep 9 = .ok (.istore_n 3, 1) := by decide +kernel
theorem dX2_keep_10 : decode cX2_keep 10 = .ok (.iload_n 3, 1) := by decide +kernel
theorem dX2_keep_11 : decode cX2_keep 11 = .ok (.ifCond .lt 19, 3) := by decide +kernel
theorem dX2_keep_14 : decode cX2_keep 14 = .ok (.iload_n 3, 1) := by decide +kernel
theorem dX2_keep_15 : decode cX2_keep 15 = .ok (.aload_n 0, 1) := by decide +kernel
theorem dX2_keep_16 : decode cX2_keep 16 = .ok (.getfield 15, 3) := by decide +kernel
theorem dX2_keep_19 : decode cX2_keep 19 = .ok (.arraylength, 1) := by decide +kernel
theorem dX2_keep_20 : decode cX2_keep 20 = .ok (.if_icmp .ge 10, 3) := by decide +kernel
theorem dX2_keep_23 : decode cX2_keep 23 = .ok (.aload_n 0, 1) := by decide +kernel
theorem dX2_keep_24 : decode cX2_keep 24 = .ok (.getfield 15, 3) := by decide +kernel
theorem dX2_keep_27 : decode cX2_keep 27 = .ok (.iload_n 3, 1) := by decide +kernel
theorem dX2_keep_28 : decode cX2_keep 28 = .ok (.iload_n 2, 1) := by decide +kernel
theorem dX2_keep_29 : decode cX2_keep 29 = .ok (.iastore, 1) := by decide +kernel
theorem dX2_keep_30 : decode cX2_keep 30 = .ok (.iconst 1, 1) := by decide +kernel
theorem dX2_keep_31 : decode cX2_keep 31 = .ok (.ireturn, 1) := by decide +kernel
theorem dX2_readScript_0 : decode cX2_readScript 0 = .ok (.aload_n 0, 1) := by decide +kernel
theorem dX2_readScript_1 : decode cX2_readScript 1 = .ok (.invokevirtual 79, 3) := by decide +kernel
theorem dX2_readScript_4 : decode cX2_readScript 4 = .ok (.aload_n 0, 1) := by decide +kernel
theorem dX2_readScript_5 : decode cX2_readScript 5 = .ok (.getfield 36, 3) := by decide +kernel
theorem dX2_readScript_8 : decode cX2_readScript 8 = .ok (.ifCond .eq 42, 3) := by decide +kernel
theorem dX2_readScript_11 : decode cX2_readScript 11 = .ok (.aload_n 0, 1) := by decide +kernel
theorem dX2_readScript_12 : decode cX2_readScript 12 = .ok (.getfield 60, 3) := by decide +kernel
theorem dX2_readScript_15 : decode cX2_readScript 15 = .ok (.bipush 40, 2) := by decide +kernel
theorem dX2_readScript_17 : decode cX2_readScript 17 = .ok (.if_icmp .gt 33, 3) := by decide +kernel
theorem dX2_readScript_20 : decode cX2_readScript 20 = .ok (.aload_n 0, 1) := by decide +kernel
theorem dX2_readScript_21 : decode cX2_readScript 21 = .ok (.iload_n 1, 1) := by decide +kernel
theorem dX2_readScript_22 : decode cX2_readScript 22 = .ok (.invokevirtual 138, 3) := by decide +kernel
theorem dX2_readScript_25 : decode cX2_readScript 25 = .ok (.ifCond .eq 10, 3) := by decide +kernel
theorem dX2_readScript_28 : decode cX2_readScript 28 = .ok (.aload_n 0, 1) := by decide +kernel
theorem dX2_readScript_29 : decode cX2_readScript 29 = .ok (.invokevirtual 86, 3) := by decide +kernel
theorem dX2_readScript_32 : decode cX2_readScript 32 = .ok (.ifCond .ne 5, 3) := by decide +kernel
theorem dX2_readScript_35 : decode cX2_readScript 35 = .ok (.iconst 0, 1) := by decide +kernel
theorem dX2_readScript_36 : decode cX2_readScript 36 = .ok (.ireturn, 1) := by decide +kernel
theorem dX2_readScript_37 : decode cX2_readScript 37 = .ok (.aload_n 0, 1) := by decide +kernel
theorem dX2_readScript_38 : decode cX2_readScript 38 = .ok (.dup, 1) := by decide +kernel
theorem dX2_readScript_39 : decode cX2_readScript 39 = .ok (.getfield 60, 3) := by decide +kernel
theorem dX2_readScript_42 : decode cX2_readScript 42 = .ok (.iconst 1, 1) := by decide +kernel
theorem dX2_readScript_43 : decode cX2_readScript 43 = .ok (.iadd, 1) := by decide +kernel
theorem dX2_readScript_44 : decode cX2_readScript 44 = .ok (.putfield 60, 3) := by decide +kernel
theorem dX2_readScript_47 : decode cX2_readScript 47 = .ok (.goto (-43), 3) := by decide +kernel
theorem dX2_readScript_50 : decode cX2_readScript 50 = .ok (.iconst 1, 1) := by decide +kernel
theorem dX2_readScript_51 : decode cX2_readScript 51 = .ok (.ireturn, 1) := by decide +kernel
theorem dX2_readCommand_0 : decode cX2_readCommand 0 = .ok (.aload_n 0, 1) := by decide +kernel
theorem dX2_readCommand_1 : decode cX2_readCommand 1 = .ok (.invokevirtual 141, 3) := by decide +kernel
theorem dX2_readCommand_4 : decode cX2_readCommand 4 = .ok (.istore_n 2, 1) := by decide +kernel
theorem dX2_readCommand_5 : decode cX2_readCommand 5 = .ok (.iload_n 2, 1) := by decide +kernel
theorem dX2_readCommand_6 : decode cX2_readCommand 6 = .ok (.iconst (-1), 1) := by decide +kernel
theorem dX2_readCommand_7 : decode cX2_readCommand 7 = .ok (.if_icmp .ne 9, 3) := by decide +kernel
theorem dX2_readCommand_10 : decode cX2_readCommand 10 = .ok (.aload_n 0, 1) := by decide +kernel
theorem dX2_readCommand_11 : decode cX2_readCommand 11 = .ok (.iconst 1, 1) := by decide +kernel
theorem dX2_readCommand_12 : decode cX2_readCommand 12 = .ok (.invokevirtual 72, 3) := by decide +kernel
theorem dX2_readCommand_15 : decode cX2_readCommand 15 = .ok (.ireturn, 1) := by decide +kernel
theorem dX2_readCommand_16 : decode cX2_readCommand 16 = .ok (.aload_n 0, 1) := by decide +kernel
theorem dX2_readCommand_17 : decode cX2_readCommand 17 = .ok (.getfield 60, 3) := by decide +kernel
theorem dX2_readCommand_20 : decode cX2_readCommand 20 = .ok (.bipush 40, 2) := by decide +kernel
theorem dX2_readCommand_22 : decode cX2_readCommand 22 = .ok (.if_icmp .lt 9, 3) := by decide +kernel
theorem dX2_readCommand_25 : decode cX2_readCommand 25 = .ok (.aload_n 0, 1) := by decide +kernel
theorem dX2_readCommand_26 : decode cX2_readCommand 26 = .ok (.iconst 5, 1) := by decide +kernel
theorem dX2_readCommand_27 : decode cX2_readCommand 27 = .ok (.invokevirtual 72, 3) := by decide +kernel
theorem dX2_readCommand_30 : decode cX2_readCommand 30 = .ok (.ireturn, 1) := by decide +kernel
theorem dX2_readCommand_31 : decode cX2_readCommand 31 = .ok (.aload_n 0, 1) := by decide +kernel
theorem dX2_readCommand_32 : decode cX2_readCommand 32 = .ok (.iconst 0, 1) := by decide +kernel
theorem dX2_readCommand_33 : decode cX2_readCommand 33 = .ok (.iload_n 2, 1) := by decide +kernel
theorem dX2_readCommand_34 : decode cX2_readCommand 34 = .ok (.invokevirtual 144, 3) := by decide +kernel
theorem dX2_readCommand_37 : decode cX2_readCommand 37 = .ok (.pop, 1) := by decide +kernel
theorem dX2_readCommand_38 : decode cX2_readCommand 38 = .ok (.aload_n 0, 1) := by decide +kernel
theorem dX2_readCommand_39 : decode cX2_readCommand 39 = .ok (.invokevirtual 69, 3) := by decide +kernel
theorem dX2_readCommand_42 : decode cX2_readCommand 42 = .ok (.iload_n 2, 1) := by decide +kernel
theorem dX2_readCommand_43 : decode cX2_readCommand 43 = .ok (.ifCond .ne 9, 3) := by decide +kernel
theorem dX2_readCommand_46 : decode cX2_readCommand 46 = .ok (.aload_n 0, 1) := by decide +kernel
theorem dX2_readCommand_47 : decode cX2_readCommand 47 = .ok (.iload_n 1, 1) := by decide +kernel
theorem dX2_readCommand_48 : decode cX2_readCommand 48 = .ok (.invokevirtual 147, 3) := by decide +kernel
theorem dX2_readCommand_51 : decode cX2_readCommand 51 = .ok (.ireturn, 1) := by decide +kernel
theorem dX2_readCommand_52 : decode cX2_readCommand 52 = .ok (.iload_n 2, 1) := by decide +kernel
theorem dX2_readCommand_53 : decode cX2_readCommand 53 = .ok (.iconst 2, 1) := by decide +kernel
theorem dX2_readCommand_54 : decode cX2_readCommand 54 = .ok (.if_icmp .eq 10, 3) := by decide +kernel
theorem dX2_readCommand_57 : decode cX2_readCommand 57 = .ok (.aload_n 0, 1) := by decide +kernel
theorem dX2_readCommand_58 : decode cX2_readCommand 58 = .ok (.invokevirtual 150, 3) := by decide +kernel
theorem dX2_readCommand_61 : decode cX2_readCommand 61 = .ok (.ifCond .eq 7, 3) := by decide +kernel
theorem dX2_readCommand_64 : decode cX2_readCommand 64 = .ok (.iconst 1, 1) := by decide +kernel
theorem dX2_readCommand_65 : decode cX2_readCommand 65 = .ok (.goto 4, 3) := by decide +kernel
theorem dX2_readCommand_68 : decode cX2_readCommand 68 = .ok (.iconst 0, 1) := by decide +kernel
theorem dX2_readCommand_69 : decode cX2_readCommand 69 = .ok (.ireturn, 1) := by decide +kernel
theorem dX2_actOfWord_0 : decode cX2_actOfWord 0 = .ok (.aload_n 0, 1) := by decide +kernel
theorem dX2_actOfWord_1 : decode cX2_actOfWord 1 = .ok (.ldc 153, 2) := by decide +kernel
theorem dX2_actOfWord_3 : decode cX2_actOfWord 3 = .ok (.invokevirtual 91, 3) := by decide +kernel
theorem dX2_actOfWord_6 : decode cX2_actOfWord 6 = .ok (.ifCond .eq 5, 3) := by decide +kernel
theorem dX2_actOfWord_9 : decode cX2_actOfWord 9 = .ok (.iconst 0, 1) := by decide +kernel
theorem dX2_actOfWord_10 : decode cX2_actOfWord 10 = .ok (.ireturn, 1) := by decide +kernel
theorem dX2_actOfWord_11 : decode cX2_actOfWord 11 = .ok (.aload_n 0, 1) := by decide +kernel
theorem dX2_actOfWord_12 : decode cX2_actOfWord 12 = .ok (.ldc 155, 2) := by decide +kernel
theorem dX2_actOfWord_14 : decode cX2_actOfWord 14 = .ok (.invokevirtual 91, 3) := by decide +kernel
theorem dX2_actOfWord_17 : decode cX2_actOfWord 17 = .ok (.ifCond .eq 5, 3) := by decide +kernel
theorem dX2_actOfWord_20 : decode cX2_actOfWord 20 = .ok (.iconst 1, 1) := by decide +kernel
theorem dX2_actOfWord_21 : decode cX2_actOfWord 21 = .ok (.ireturn, 1) := by decide +kernel
theorem dX2_actOfWord_22 : decode cX2_actOfWord 22 = .ok (.aload_n 0, 1) := by decide +kernel
theorem dX2_actOfWord_23 : decode cX2_actOfWord 23 = .ok (.ldc 157, 2) := by decide +kernel
theorem dX2_actOfWord_25 : decode cX2_actOfWord 25 = .ok (.invokevirtual 91, 3) := by decide +kernel
theorem dX2_actOfWord_28 : decode cX2_actOfWord 28 = .ok (.ifCond .eq 7, 3) := by decide +kernel
theorem dX2_actOfWord_31 : decode cX2_actOfWord 31 = .ok (.iconst 2, 1) := by decide +kernel
theorem dX2_actOfWord_32 : decode cX2_actOfWord 32 = .ok (.goto 4, 3) := by decide +kernel
theorem dX2_actOfWord_35 : decode cX2_actOfWord 35 = .ok (.iconst (-1), 1) := by decide +kernel
theorem dX2_actOfWord_36 : decode cX2_actOfWord 36 = .ok (.ireturn, 1) := by decide +kernel
theorem dX2_readTerm_0 : decode cX2_readTerm 0 = .ok (.aload_n 0, 1) := by decide +kernel
theorem dX2_readTerm_1 : decode cX2_readTerm 1 = .ok (.getfield 36, 3) := by decide +kernel
theorem dX2_readTerm_4 : decode cX2_readTerm 4 = .ok (.iconst 3, 1) := by decide +kernel
theorem dX2_readTerm_5 : decode cX2_readTerm 5 = .ok (.if_icmp .ne 8, 3) := by decide +kernel
theorem dX2_readTerm_8 : decode cX2_readTerm 8 = .ok (.bipush (-9), 2) := by decide +kernel
theorem dX2_readTerm_10 : decode cX2_readTerm 10 = .ok (.goto 4, 3) := by decide +kernel
theorem dX2_readTerm_13 : decode cX2_readTerm 13 = .ok (.iconst 1, 1) := by decide +kernel
theorem dX2_readTerm_14 : decode cX2_readTerm 14 = .ok (.istore_n 2, 1) := by decide +kernel
theorem dX2_readTerm_15 : decode cX2_readTerm 15 = .ok (.aload_n 0, 1) := by decide +kernel
theorem dX2_readTerm_16 : decode cX2_readTerm 16 = .ok (.getfield 36, 3) := by decide +kernel
theorem dX2_readTerm_19 : decode cX2_readTerm 19 = .ok (.iconst 3, 1) := by decide +kernel
theorem dX2_readTerm_20 : decode cX2_readTerm 20 = .ok (.if_icmp .ne 7, 3) := by decide +kernel
theorem dX2_readTerm_23 : decode cX2_readTerm 23 = .ok (.iconst (-1), 1) := by decide +kernel
theorem dX2_readTerm_24 : decode cX2_readTerm 24 = .ok (.goto 5, 3) := by decide +kernel
theorem dX2_readTerm_27 : decode cX2_readTerm 27 = .ok (.bipush 9, 2) := by decide +kernel
theorem dX2_readTerm_29 : decode cX2_readTerm 29 = .ok (.istore_n 3, 1) := by decide +kernel
theorem dX2_readTerm_30 : decode cX2_readTerm 30 = .ok (.aload_n 0, 1) := by decide +kernel
theorem dX2_readTerm_31 : decode cX2_readTerm 31 = .ok (.iload_n 2, 1) := by decide +kernel
theorem dX2_readTerm_32 : decode cX2_readTerm 32 = .ok (.iload_n 3, 1) := by decide +kernel
theorem dX2_readTerm_33 : decode cX2_readTerm 33 = .ok (.invokevirtual 132, 3) := by decide +kernel
theorem dX2_readTerm_36 : decode cX2_readTerm 36 = .ok (.ifCond .eq 42, 3) := by decide +kernel
theorem dX2_readTerm_39 : decode cX2_readTerm 39 = .ok (.aload_n 0, 1) := by decide +kernel
theorem dX2_readTerm_40 : decode cX2_readTerm 40 = .ok (.iconst 1, 1) := by decide +kernel
theorem dX2_readTerm_41 : decode cX2_readTerm 41 = .ok (.aload_n 0, 1) := by decide +kernel
theorem dX2_readTerm_42 : decode cX2_readTerm 42 = .ok (.getfield 76, 3) := by decide +kernel
theorem dX2_readTerm_45 : decode cX2_readTerm 45 = .ok (.invokevirtual 144, 3) := by decide +kernel
theorem dX2_readTerm_48 : decode cX2_readTerm 48 = .ok (.ifCond .eq 30, 3) := by decide +kernel
theorem dX2_readTerm_51 : decode cX2_readTerm 51 = .ok (.aload_n 0, 1) := by decide +kernel
theorem dX2_readTerm_52 : decode cX2_readTerm 52 = .ok (.iconst 0, 1) := by decide +kernel
theorem dX2_readTerm_53 : decode cX2_readTerm 53 = .ok (.iload_n 1, 1) := by decide +kernel
theorem dX2_readTerm_54 : decode cX2_readTerm 54 = .ok (.iconst 1, 1) := by decide +kernel
theorem dX2_readTerm_55 : decode cX2_readTerm 55 = .ok (.isub, 1) := by decide +kernel
theorem dX2_readTerm_56 : decode cX2_readTerm 56 = .ok (.invokevirtual 123, 3) := by decide +kernel
theorem dX2_readTerm_59 : decode cX2_readTerm 59 = .ok (.ifCond .eq 19, 3) := by decide +kernel
theorem dX2_readTerm_62 : decode cX2_readTerm 62 = .ok (.aload_n 0, 1) := by decide +kernel
theorem dX2_readTerm_63 : decode cX2_readTerm 63 = .ok (.iconst 2, 1) := by decide +kernel
theorem dX2_readTerm_64 : decode cX2_readTerm 64 = .ok (.aload_n 0, 1) := by decide +kernel
theorem dX2_readTerm_65 : decode cX2_readTerm 65 = .ok (.getfield 76, 3) := by decide +kernel
theorem dX2_readTerm_68 : decode cX2_readTerm 68 = .ok (.invokevirtual 144, 3) := by decide +kernel
theorem dX2_readTerm_71 : decode cX2_readTerm 71 = .ok (.ifCond .eq 7, 3) := by decide +kernel
theorem dX2_readTerm_74 : decode cX2_readTerm 74 = .ok (.iconst 1, 1) := by decide +kernel
theorem dX2_readTerm_75 : decode cX2_readTerm 75 = .ok (.goto 4, 3) := by decide +kernel
theorem dX2_readTerm_78 : decode cX2_readTerm 78 = .ok (.iconst 0, 1) := by decide +kernel
theorem dX2_readTerm_79 : decode cX2_readTerm 79 = .ok (.ireturn, 1) := by decide +kernel
theorem dX2_readClaim_0 : decode cX2_readClaim 0 = .ok (.aload_n 0, 1) := by decide +kernel
theorem dX2_readClaim_1 : decode cX2_readClaim 1 = .ok (.ldc 159, 2) := by decide +kernel
theorem dX2_readClaim_3 : decode cX2_readClaim 3 = .ok (.invokevirtual 91, 3) := by decide +kernel
theorem dX2_readClaim_6 : decode cX2_readClaim 6 = .ok (.istore_n 1, 1) := by decide +kernel
theorem dX2_readClaim_7 : decode cX2_readClaim 7 = .ok (.iload_n 1, 1) := by decide +kernel
theorem dX2_readClaim_8 : decode cX2_readClaim 8 = .ok (.ifCond .ne 18, 3) := by decide +kernel
theorem dX2_readClaim_11 : decode cX2_readClaim 11 = .ok (.aload_n 0, 1) := by decide +kernel
theorem dX2_readClaim_12 : decode cX2_readClaim 12 = .ok (.ldc 161, 2) := by decide +kernel
theorem dX2_readClaim_14 : decode cX2_readClaim 14 = .ok (.invokevirtual 91, 3) := by decide +kernel
theorem dX2_readClaim_17 : decode cX2_readClaim 17 = .ok (.ifCond .ne 9, 3) := by decide +kernel
theorem dX2_readClaim_20 : decode cX2_readClaim 20 = .ok (.aload_n 0, 1) := by decide +kernel
theorem dX2_readClaim_21 : decode cX2_readClaim 21 = .ok (.iconst 1, 1) := by decide +kernel
theorem dX2_readClaim_22 : decode cX2_readClaim 22 = .ok (.invokevirtual 72, 3) := by decide +kernel
theorem dX2_readClaim_25 : decode cX2_readClaim 25 = .ok (.ireturn, 1) := by decide +kernel
theorem dX2_readClaim_26 : decode cX2_readClaim 26 = .ok (.aload_n 0, 1) := by decide +kernel
theorem dX2_readClaim_27 : decode cX2_readClaim 27 = .ok (.iconst 4, 1) := by decide +kernel
theorem dX2_readClaim_28 : decode cX2_readClaim 28 = .ok (.iload_n 1, 1) := by decide +kernel
theorem dX2_readClaim_29 : decode cX2_readClaim 29 = .ok (.ifCond .eq 7, 3) := by decide +kernel
theorem dX2_readClaim_32 : decode cX2_readClaim 32 = .ok (.iconst 1, 1) := by decide +kernel
theorem dX2_readClaim_33 : decode cX2_readClaim 33 = .ok (.goto 4, 3) := by decide +kernel
theorem dX2_readClaim_36 : decode cX2_readClaim 36 = .ok (.iconst 0, 1) := by decide +kernel
theorem dX2_readClaim_37 : decode cX2_readClaim 37 = .ok (.invokevirtual 144, 3) := by decide +kernel
theorem dX2_readClaim_40 : decode cX2_readClaim 40 = .ok (.pop, 1) := by decide +kernel
theorem dX2_readClaim_41 : decode cX2_readClaim 41 = .ok (.aload_n 0, 1) := by decide +kernel
theorem dX2_readClaim_42 : decode cX2_readClaim 42 = .ok (.invokevirtual 69, 3) := by decide +kernel
theorem dX2_readClaim_45 : decode cX2_readClaim 45 = .ok (.aload_n 0, 1) := by decide +kernel
theorem dX2_readClaim_46 : decode cX2_readClaim 46 = .ok (.bipush (-20), 2) := by decide +kernel
theorem dX2_readClaim_48 : decode cX2_readClaim 48 = .ok (.bipush 19, 2) := by decide +kernel
theorem dX2_readClaim_50 : decode cX2_readClaim 50 = .ok (.invokevirtual 132, 3) := by decide +kernel
theorem dX2_readClaim_53 : decode cX2_readClaim 53 = .ok (.ifCond .ne 5, 3) := by decide +kernel
theorem dX2_readClaim_56 : decode cX2_readClaim 56 = .ok (.iconst 0, 1) := by decide +kernel
theorem dX2_readClaim_57 : decode cX2_readClaim 57 = .ok (.ireturn, 1) := by decide +kernel
theorem dX2_readClaim_58 : decode cX2_readClaim 58 = .ok (.aload_n 0, 1) := by decide +kernel
theorem dX2_readClaim_59 : decode cX2_readClaim 59 = .ok (.getfield 76, 3) := by decide +kernel
theorem dX2_readClaim_62 : decode cX2_readClaim 62 = .ok (.istore_n 2, 1) := by decide +kernel
theorem dX2_readClaim_63 : decode cX2_readClaim 63 = .ok (.aload_n 0, 1) := by decide +kernel
theorem dX2_readClaim_64 : decode cX2_readClaim 64 = .ok (.iconst 1, 1) := by decide +kernel
theorem dX2_readClaim_65 : decode cX2_readClaim 65 = .ok (.iload_n 2, 1) := by decide +kernel
theorem dX2_readClaim_66 : decode cX2_readClaim 66 = .ok (.invokevirtual 144, 3) := by decide +kernel
theorem dX2_readClaim_69 : decode cX2_readClaim 69 = .ok (.pop, 1) := by decide +kernel
theorem dX2_readClaim_70 : decode cX2_readClaim 70 = .ok (.aload_n 0, 1) := by decide +kernel
theorem dX2_readClaim_71 : decode cX2_readClaim 71 = .ok (.iload_n 2, 1) := by decide +kernel
theorem dX2_readClaim_72 : decode cX2_readClaim 72 = .ok (.iconst 1, 1) := by decide +kernel
theorem dX2_readClaim_73 : decode cX2_readClaim 73 = .ok (.iadd, 1) := by decide +kernel
theorem dX2_readClaim_74 : decode cX2_readClaim 74 = .ok (.bipush 20, 2) := by decide +kernel
theorem dX2_readClaim_76 : decode cX2_readClaim 76 = .ok (.invokevirtual 132, 3) := by decide +kernel
theorem dX2_readClaim_79 : decode cX2_readClaim 79 = .ok (.ifCond .eq 62, 3) := by decide +kernel
theorem dX2_readClaim_82 : decode cX2_readClaim 82 = .ok (.aload_n 0, 1) := by decide +kernel
theorem dX2_readClaim_83 : decode cX2_readClaim 83 = .ok (.iconst 2, 1) := by decide +kernel
theorem dX2_readClaim_84 : decode cX2_readClaim 84 = .ok (.aload_n 0, 1) := by decide +kernel
theorem dX2_readClaim_85 : decode cX2_readClaim 85 = .ok (.getfield 76, 3) := by decide +kernel
theorem dX2_readClaim_88 : decode cX2_readClaim 88 = .ok (.invokevirtual 144, 3) := by decide +kernel
theorem dX2_readClaim_91 : decode cX2_readClaim 91 = .ok (.ifCond .eq 50, 3) := by decide +kernel
theorem dX2_readClaim_94 : decode cX2_readClaim 94 = .ok (.aload_n 0, 1) := by decide +kernel
theorem dX2_readClaim_95 : decode cX2_readClaim 95 = .ok (.iconst 0, 1) := by decide +kernel
theorem dX2_readClaim_96 : decode cX2_readClaim 96 = .ok (.iconst 4, 1) := by decide +kernel
theorem dX2_readClaim_97 : decode cX2_readClaim 97 = .ok (.invokevirtual 123, 3) := by decide +kernel
theorem dX2_readClaim_100 : decode cX2_readClaim 100 = .ok (.ifCond .eq 41, 3) := by decide +kernel
theorem dX2_readClaim_103 : decode cX2_readClaim 103 = .ok (.aload_n 0, 1) := by decide +kernel
theorem dX2_readClaim_104 : decode cX2_readClaim 104 = .ok (.iconst 3, 1) := by decide +kernel
theorem dX2_readClaim_105 : decode cX2_readClaim 105 = .ok (.aload_n 0, 1) := by decide +kernel
theorem dX2_readClaim_106 : decode cX2_readClaim 106 = .ok (.getfield 76, 3) := by decide +kernel
theorem dX2_readClaim_109 : decode cX2_readClaim 109 = .ok (.invokevirtual 144, 3) := by decide +kernel
theorem dX2_readClaim_112 : decode cX2_readClaim 112 = .ok (.ifCond .eq 29, 3) := by decide +kernel
theorem dX2_readClaim_115 : decode cX2_readClaim 115 = .ok (.aload_n 0, 1) := by decide +kernel
theorem dX2_readClaim_116 : decode cX2_readClaim 116 = .ok (.iconst 1, 1) := by decide +kernel
theorem dX2_readClaim_117 : decode cX2_readClaim 117 = .ok (.bipush 9, 2) := by decide +kernel
theorem dX2_readClaim_119 : decode cX2_readClaim 119 = .ok (.invokevirtual 123, 3) := by decide +kernel
theorem dX2_readClaim_122 : decode cX2_readClaim 122 = .ok (.ifCond .eq 19, 3) := by decide +kernel
theorem dX2_readClaim_125 : decode cX2_readClaim 125 = .ok (.aload_n 0, 1) := by decide +kernel
theorem dX2_readClaim_126 : decode cX2_readClaim 126 = .ok (.iconst 5, 1) := by decide +kernel
theorem dX2_readClaim_127 : decode cX2_readClaim 127 = .ok (.aload_n 0, 1) := by decide +kernel
theorem dX2_readClaim_128 : decode cX2_readClaim 128 = .ok (.getfield 76, 3) := by decide +kernel
theorem dX2_readClaim_131 : decode cX2_readClaim 131 = .ok (.invokevirtual 144, 3) := by decide +kernel
theorem dX2_readClaim_134 : decode cX2_readClaim 134 = .ok (.ifCond .eq 7, 3) := by decide +kernel
theorem dX2_readClaim_137 : decode cX2_readClaim 137 = .ok (.iconst 1, 1) := by decide +kernel
theorem dX2_readClaim_138 : decode cX2_readClaim 138 = .ok (.goto 4, 3) := by decide +kernel
theorem dX2_readClaim_141 : decode cX2_readClaim 141 = .ok (.iconst 0, 1) := by decide +kernel
theorem dX2_readClaim_142 : decode cX2_readClaim 142 = .ok (.ireturn, 1) := by decide +kernel
theorem dX3_init_0 : decode cX3_init 0 = .ok (.aload_n 0, 1) := by decide +kernel
theorem dX3_init_1 : decode cX3_init 1 = .ok (.invokespecial 3, 3) := by decide +kernel
theorem dX3_init_4 : decode cX3_init 4 = .ok (.aload_n 0, 1) := by decide +kernel
theorem dX3_init_5 : decode cX3_init 5 = .ok (.iconst 5, 1) := by decide +kernel
theorem dX3_init_6 : decode cX3_init 6 = .ok (.iconst 5, 1) := by decide +kernel
theorem dX3_init_7 : decode cX3_init 7 = .ok (.multianewarray 9 2, 4) := by decide +kernel
theorem dX3_init_11 : decode cX3_init 11 = .ok (.putfield 11, 3) := by decide +kernel
theorem dX3_init_14 : decode cX3_init 14 = .ok (.aload_n 0, 1) := by decide +kernel
theorem dX3_init_15 : decode cX3_init 15 = .ok (.iconst 5, 1) := by decide +kernel
theorem dX3_init_16 : decode cX3_init 16 = .ok (.newarray .int, 2) := by decide +kernel
theorem dX3_init_18 : decode cX3_init 18 = .ok (.putfield 16, 3) := by decide +kernel
theorem dX3_init_21 : decode cX3_init 21 = .ok (.aload_n 0, 1) := by decide +kernel
theorem dX3_init_22 : decode cX3_init 22 = .ok (.iconst 5, 1) := by decide +kernel
theorem dX3_init_23 : decode cX3_init 23 = .ok (.newarray .long, 2) := by decide +kernel
theorem dX3_init_25 : decode cX3_init 25 = .ok (.putfield 20, 3) := by decide +kernel
theorem dX3_init_28 : decode cX3_init 28 = .ok (.return_, 1) := by decide +kernel
theorem dX3_take_0 : decode cX3_take 0 = .ok (.iconst 0, 1) := by decide +kernel
theorem dX3_take_1 : decode cX3_take 1 = .ok (.istore_n 2, 1) := by decide +kernel
theorem dX3_take_2 : decode cX3_take 2 = .ok (.iload_n 2, 1) := by decide +kernel
theorem dX3_take_3 : decode cX3_take 3 = .ok (.iconst 5, 1) := by decide +kernel
theorem dX3_take_4 : decode cX3_take 4 = .ok (.if_icmp .ge 25, 3) := by decide +kernel
theorem dX3_take_7 : decode cX3_take 7 = .ok (.iload_n 2, 1) := by decide +kernel
theorem dX3_take_8 : decode cX3_take 8 = .ok (.aload_n 1, 1) := by decide +kernel
theorem dX3_take_9 : decode cX3_take 9 = .ok (.arraylength, 1) := by decide +kernel
theorem dX3_take_10 : decode cX3_take 10 = .ok (.if_icmp .ge 19, 3) := by decide +kernel
theorem dX3_take_13 : decode cX3_take 13 = .ok (.aload_n 0, 1) := by decide +kernel
theorem dX3_take_14 : decode cX3_take 14 = .ok (.getfield 20, 3) := by decide +kernel
theorem dX3_take_17 : decode cX3_take 17 = .ok (.iload_n 2, 1) := by decide +kernel
theorem dX3_take_18 : decode cX3_take 18 = .ok (.aload_n 1, 1) := by decide +kernel
theorem dX3_take_19 : decode cX3_take 19 = .ok (.iload_n 2, 1) := by decide +kernel
theorem dX3_take_20 : decode cX3_take 20 = .ok (.iaload, 1) := by decide +kernel
theorem dX3_take_21 : decode cX3_take 21 = .ok (.i2l, 1) := by decide +kernel
theorem dX3_take_22 : decode cX3_take 22 = .ok (.lastore, 1) := by decide +kernel
theorem dX3_take_23 : decode cX3_take 23 = .ok (.iinc 2 1, 3) := by decide +kernel
theorem dX3_take_26 : decode cX3_take 26 = .ok (.goto (-24), 3) := by decide +kernel
theorem dX3_take_29 : decode cX3_take 29 = .ok (.return_, 1) := by decide +kernel
theorem dX3_descend_0 : decode cX3_descend 0 = .ok (.aload_n 0, 1) := by decide +kernel
theorem dX3_descend_1 : decode cX3_descend 1 = .ok (.getfield 24, 3) := by decide +kernel
theorem dX3_descend_4 : decode cX3_descend 4 = .ok (.ifCond .le 36, 3) := by decide +kernel
theorem dX3_descend_7 : decode cX3_descend 7 = .ok (.aload_n 0, 1) := by decide +kernel
theorem dX3_descend_8 : decode cX3_descend 8 = .ok (.getfield 24, 3) := by decide +kernel
theorem dX3_descend_11 : decode cX3_descend 11 = .ok (.iconst 5, 1) := by decide +kernel
theorem dX3_descend_12 : decode cX3_descend 12 = .ok (.if_icmp .gt 28, 3) := by decide +kernel
theorem dX3_descend_15 : decode cX3_descend 15 = .ok (.aload_n 0, 1) := by decide +kernel
theorem dX3_descend_16 : decode cX3_descend 16 = .ok (.getfield 11, 3) := by decide +kernel
theorem dX3_descend_19 : decode cX3_descend 19 = .ok (.aload_n 0, 1) := by decide +kernel
theorem dX3_descend_20 : decode cX3_descend 20 = .ok (.getfield 24, 3) := by decide +kernel
theorem dX3_descend_23 : decode cX3_descend 23 = .ok (.iconst 1, 1) := by decide +kernel
theorem dX3_descend_24 : decode cX3_descend 24 = .ok (.isub, 1) := by decide +kernel
theorem dX3_descend_25 : decode cX3_descend 25 = .ok (.aaload, 1) := by decide +kernel
theorem dX3_descend_26 : decode cX3_descend 26 = .ok (.iconst 0, 1) := by decide +kernel
theorem dX3_descend_27 : decode cX3_descend 27 = .ok (.aload_n 0, 1) := by decide +kernel
theorem dX3_descend_28 : decode cX3_descend 28 = .ok (.getfield 20, 3) := by decide +kernel
theorem dX3_descend_31 : decode cX3_descend 31 = .ok (.iconst 0, 1) := by decide +kernel
theorem dX3_descend_32 : decode cX3_descend 32 = .ok (.iconst 5, 1) := by decide +kernel
theorem dX3_descend_33 : decode cX3_descend 33 = .ok (.invokestatic 28, 3) := by decide +kernel
theorem dX3_descend_36 : decode cX3_descend 36 = .ok (.aload_n 0, 1) := by decide +kernel
theorem dX3_descend_37 : decode cX3_descend 37 = .ok (.invokevirtual 34, 3) := by decide +kernel
theorem dX3_descend_40 : decode cX3_descend 40 = .ok (.return_, 1) := by decide +kernel
theorem dX3_build_0 : decode cX3_build 0 = .ok (.aload_n 0, 1) := by decide +kernel
theorem dX3_build_1 : decode cX3_build 1 = .ok (.iconst 0, 1) := by decide +kernel
theorem dX3_build_2 : decode cX3_build 2 = .ok (.putfield 24, 3) := by decide +kernel
theorem dX3_build_5 : decode cX3_build 5 = .ok (.aload_n 0, 1) := by decide +kernel
theorem dX3_build_6 : decode cX3_build 6 = .ok (.invokevirtual 37, 3) := by decide +kernel
theorem dX3_build_9 : decode cX3_build 9 = .ok (.istore_n 1, 1) := by decide +kernel
theorem dX3_build_10 : decode cX3_build 10 = .ok (.iload_n 1, 1) := by decide +kernel
theorem dX3_build_11 : decode cX3_build 11 = .ok (.ifCond .eq 12, 3) := by decide +kernel
theorem dX3_build_14 : decode cX3_build 14 = .ok (.aload_n 0, 1) := by decide +kernel
theorem dX3_build_15 : decode cX3_build 15 = .ok (.invokevirtual 41, 3) := by decide +kernel
theorem dX3_build_18 : decode cX3_build 18 = .ok (.aload_n 0, 1) := by decide +kernel
theorem dX3_build_19 : decode cX3_build 19 = .ok (.invokevirtual 37, 3) := by decide +kernel
theorem dX3_build_22 : decode cX3_build 22 = .ok (.istore_n 1, 1) := by decide +kernel
theorem dX3_build_23 : decode cX3_build 23 = .ok (.iconst 2, 1) := by decide +kernel
theorem dX3_build_24 : decode cX3_build 24 = .ok (.istore_n 2, 1) := by decide +kernel
theorem dX3_build_25 : decode cX3_build 25 = .ok (.iload_n 1, 1) := by decide +kernel
theorem dX3_build_26 : decode cX3_build 26 = .ok (.ifCond .eq 23, 3) := by decide +kernel
theorem dX3_build_29 : decode cX3_build 29 = .ok (.iload_n 2, 1) := by decide +kernel
theorem dX3_build_30 : decode cX3_build 30 = .ok (.iconst 5, 1) := by decide +kernel
theorem dX3_build_31 : decode cX3_build 31 = .ok (.if_icmp .ge 18, 3) := by decide +kernel
theorem dX3_build_34 : decode cX3_build 34 = .ok (.aload_n 0, 1) := by decide +kernel
theorem dX3_build_35 : decode cX3_build 35 = .ok (.invokevirtual 44, 3) := by decide +kernel
theorem dX3_build_38 : decode cX3_build 38 = .ok (.aload_n 0, 1) := by decide +kernel
theorem dX3_build_39 : decode cX3_build 39 = .ok (.invokevirtual 37, 3) := by decide +kernel
theorem dX3_build_42 : decode cX3_build 42 = .ok (.istore_n 1, 1) := by decide +kernel
theorem dX3_build_43 : decode cX3_build 43 = .ok (.iinc 2 1, 3) := by decide +kernel
theorem dX3_build_46 : decode cX3_build 46 = .ok (.goto (-21), 3) := by decide +kernel
theorem dX3_build_49 : decode cX3_build 49 = .ok (.return_, 1) := by decide +kernel
theorem dX3_addWork_0 : decode cX3_addWork 0 = .ok (.iconst 4, 1) := by decide +kernel
theorem dX3_addWork_1 : decode cX3_addWork 1 = .ok (.istore_n 1, 1) := by decide +kernel
theorem dX3_addWork_2 : decode cX3_addWork 2 = .ok (.iload_n 1, 1) := by decide +kernel
theorem dX3_addWork_3 : decode cX3_addWork 3 = .ok (.ifCond .lt 20, 3) := by decide +kernel
theorem dX3_addWork_6 : decode cX3_addWork 6 = .ok (.aload_n 0, 1) := by decide +kernel
theorem dX3_addWork_7 : decode cX3_addWork 7 = .ok (.getfield 20, 3) := by decide +kernel
theorem dX3_addWork_10 : decode cX3_addWork 10 = .ok (.iload_n 1, 1) := by decide +kernel
theorem dX3_addWork_11 : decode cX3_addWork 11 = .ok (.laload, 1) := by decide +kernel
theorem dX3_addWork_12 : decode cX3_addWork 12 = .ok (.lconst 0, 1) := by decide +kernel
theorem dX3_addWork_13 : decode cX3_addWork 13 = .ok (.lcmp, 1) := by decide +kernel
theorem dX3_addWork_14 : decode cX3_addWork 14 = .ok (.ifCond .ne 9, 3) := by decide +kernel
theorem dX3_addWork_17 : decode cX3_addWork 17 = .ok (.iinc 1 (-1), 3) := by decide +kernel
theorem dX3_addWork_20 : decode cX3_addWork 20 = .ok (.goto (-18), 3) := by decide +kernel
theorem dX3_addWork_23 : decode cX3_addWork 23 = .ok (.iload_n 1, 1) := by decide +kernel
theorem dX3_addWork_24 : decode cX3_addWork 24 = .ok (.ifCond .lt 11, 3) := by decide +kernel
theorem dX3_addWork_27 : decode cX3_addWork 27 = .ok (.aload_n 0, 1) := by decide +kernel
theorem dX3_addWork_28 : decode cX3_addWork 28 = .ok (.getfield 24, 3) := by decide +kernel
theorem dX3_addWork_31 : decode cX3_addWork 31 = .ok (.iconst 5, 1) := by decide +kernel
theorem dX3_addWork_32 : decode cX3_addWork 32 = .ok (.if_icmp .lt 5, 3) := by decide +kernel
theorem dX3_addWork_35 : decode cX3_addWork 35 = .ok (.iconst 0, 1) := by decide +kernel
theorem dX3_addWork_36 : decode cX3_addWork 36 = .ok (.ireturn, 1) := by decide +kernel
theorem dX3_addWork_37 : decode cX3_addWork 37 = .ok (.aload_n 0, 1) := by decide +kernel
theorem dX3_addWork_38 : decode cX3_addWork 38 = .ok (.invokevirtual 47, 3) := by decide +kernel
theorem dX3_addWork_41 : decode cX3_addWork 41 = .ok (.aload_n 0, 1) := by decide +kernel
theorem dX3_addWork_42 : decode cX3_addWork 42 = .ok (.getfield 20, 3) := by decide +kernel
theorem dX3_addWork_45 : decode cX3_addWork 45 = .ok (.iconst 0, 1) := by decide +kernel
theorem dX3_addWork_46 : decode cX3_addWork 46 = .ok (.aload_n 0, 1) := by decide +kernel
theorem dX3_addWork_47 : decode cX3_addWork 47 = .ok (.getfield 11, 3) := by decide +kernel
theorem dX3_addWork_50 : decode cX3_addWork 50 = .ok (.aload_n 0, 1) := by decide +kernel
theorem dX3_addWork_51 : decode cX3_addWork 51 = .ok (.getfield 24, 3) := by decide +kernel
theorem dX3_addWork_54 : decode cX3_addWork 54 = .ok (.aaload, 1) := by decide +kernel
theorem dX3_addWork_55 : decode cX3_addWork 55 = .ok (.iconst 0, 1) := by decide +kernel
theorem dX3_addWork_56 : decode cX3_addWork 56 = .ok (.iconst 5, 1) := by decide +kernel
theorem dX3_addWork_57 : decode cX3_addWork 57 = .ok (.invokestatic 28, 3) := by decide +kernel
theorem dX3_addWork_60 : decode cX3_addWork 60 = .ok (.aload_n 0, 1) := by decide +kernel
theorem dX3_addWork_61 : decode cX3_addWork 61 = .ok (.getfield 16, 3) := by decide +kernel
theorem dX3_addWork_64 : decode cX3_addWork 64 = .ok (.aload_n 0, 1) := by decide +kernel
theorem dX3_addWork_65 : decode cX3_addWork 65 = .ok (.getfield 24, 3) := by decide +kernel
theorem dX3_addWork_68 : decode cX3_addWork 68 = .ok (.iload_n 1, 1) := by decide +kernel
theorem dX3_addWork_69 : decode cX3_addWork 69 = .ok (.iastore, 1) := by decide +kernel
theorem dX3_addWork_70 : decode cX3_addWork 70 = .ok (.aload_n 0, 1) := by decide +kernel
theorem dX3_addWork_71 : decode cX3_addWork 71 = .ok (.dup, 1) := by decide +kernel
theorem dX3_addWork_72 : decode cX3_addWork 72 = .ok (.getfield 24, 3) := by decide +kernel
theorem dX3_addWork_75 : decode cX3_addWork 75 = .ok (.iconst 1, 1) := by decide +kernel
theorem dX3_addWork_76 : decode cX3_addWork 76 = .ok (.iadd, 1) := by decide +kernel
theorem dX3_addWork_77 : decode cX3_addWork 77 = .ok (.putfield 24, 3) := by decide +kernel
theorem dX3_addWork_80 : decode cX3_addWork 80 = .ok (.iconst 1, 1) := by decide +kernel
theorem dX3_addWork_81 : decode cX3_addWork 81 = .ok (.ireturn, 1) := by decide +kernel
theorem dX3_derive_0 : decode cX3_derive 0 = .ok (.iconst 1, 1) := by decide +kernel
theorem dX3_derive_1 : decode cX3_derive 1 = .ok (.istore_n 1, 1) := by decide +kernel
theorem dX3_derive_2 : decode cX3_derive 2 = .ok (.iload_n 1, 1) := by decide +kernel
theorem dX3_derive_3 : decode cX3_derive 3 = .ok (.iconst 5, 1) := by decide +kernel
theorem dX3_derive_4 : decode cX3_derive 4 = .ok (.if_icmp .ge 28, 3) := by decide +kernel
theorem dX3_derive_7 : decode cX3_derive 7 = .ok (.aload_n 0, 1) := by decide +kernel
theorem dX3_derive_8 : decode cX3_derive 8 = .ok (.getfield 20, 3) := by decide +kernel
theorem dX3_derive_11 : decode cX3_derive 11 = .ok (.iload_n 1, 1) := by decide +kernel
theorem dX3_derive_12 : decode cX3_derive 12 = .ok (.iconst 1, 1) := by decide +kernel
theorem dX3_derive_13 : decode cX3_derive 13 = .ok (.isub, 1) := by decide +kernel
theorem dX3_derive_14 : decode cX3_derive 14 = .ok (.iload_n 1, 1) := by decide +kernel
theorem dX3_derive_15 : decode cX3_derive 15 = .ok (.i2l, 1) := by decide +kernel
theorem dX3_derive_16 : decode cX3_derive 16 = .ok (.aload_n 0, 1) := by decide +kernel
theorem dX3_derive_17 : decode cX3_derive 17 = .ok (.getfield 11, 3) := by decide +kernel
theorem dX3_derive_20 : decode cX3_derive 20 = .ok (.iconst 0, 1) := by decide +kernel
theorem dX3_derive_21 : decode cX3_derive 21 = .ok (.aaload, 1) := by decide +kernel
theorem dX3_derive_22 : decode cX3_derive 22 = .ok (.iload_n 1, 1) := by decide +kernel
theorem dX3_derive_23 : decode cX3_derive 23 = .ok (.laload, 1) := by decide +kernel
theorem dX3_derive_24 : decode cX3_derive 24 = .ok (.lmul, 1) := by decide +kernel
theorem dX3_derive_25 : decode cX3_derive 25 = .ok (.lastore, 1) := by decide +kernel
theorem dX3_derive_26 : decode cX3_derive 26 = .ok (.iinc 1 1, 3) := by decide +kernel
theorem dX3_derive_29 : decode cX3_derive 29 = .ok (.goto (-27), 3) := by decide +kernel
theorem dX3_derive_32 : decode cX3_derive 32 = .ok (.aload_n 0, 1) := by decide +kernel
theorem dX3_derive_33 : decode cX3_derive 33 = .ok (.getfield 20, 3) := by decide +kernel
theorem dX3_derive_36 : decode cX3_derive 36 = .ok (.iconst 4, 1) := by decide +kernel
theorem dX3_derive_37 : decode cX3_derive 37 = .ok (.lconst 0, 1) := by decide +kernel
theorem dX3_derive_38 : decode cX3_derive 38 = .ok (.lastore, 1) := by decide +kernel
theorem dX3_derive_39 : decode cX3_derive 39 = .ok (.return_, 1) := by decide +kernel
theorem dX3_divide_0 : decode cX3_divide 0 = .ok (.aload_n 0, 1) := by decide +kernel
theorem dX3_divide_1 : decode cX3_divide 1 = .ok (.getfield 24, 3) := by decide +kernel
theorem dX3_divide_4 : decode cX3_divide 4 = .ok (.iconst 2, 1) := by decide +kernel
theorem dX3_divide_5 : decode cX3_divide 5 = .ok (.if_icmp .lt 11, 3) := by decide +kernel
theorem dX3_divide_8 : decode cX3_divide 8 = .ok (.aload_n 0, 1) := by decide +kernel
theorem dX3_divide_9 : decode cX3_divide 9 = .ok (.getfield 24, 3) := by decide +kernel
theorem dX3_divide_12 : decode cX3_divide 12 = .ok (.iconst 5, 1) := by decide +kernel
theorem dX3_divide_13 : decode cX3_divide 13 = .ok (.if_icmp .le 4, 3) := by decide +kernel
theorem dX3_divide_16 : decode cX3_divide 16 = .ok (.return_, 1) := by decide +kernel
theorem dX3_divide_17 : decode cX3_divide 17 = .ok (.aload_n 0, 1) := by decide +kernel
theorem dX3_divide_18 : decode cX3_divide 18 = .ok (.getfield 11, 3) := by decide +kernel
theorem dX3_divide_21 : decode cX3_divide 21 = .ok (.aload_n 0, 1) := by decide +kernel
theorem dX3_divide_22 : decode cX3_divide 22 = .ok (.getfield 24, 3) := by decide +kernel
theorem dX3_divide_25 : decode cX3_divide 25 = .ok (.iconst 1, 1) := by decide +kernel
theorem dX3_divide_26 : decode cX3_divide 26 = .ok (.isub, 1) := by decide +kernel
theorem dX3_divide_27 : decode cX3_divide 27 = .ok (.aaload, 1) := by decide +kernel
theorem dX3_divide_28 : decode cX3_divide 28 = .ok (.astore_n 1, 1) := by decide +kernel
theorem dX3_divide_29 : decode cX3_divide 29 = .ok (.aload_n 0, 1) := by decide +kernel
theorem dX3_divide_30 : decode cX3_divide 30 = .ok (.getfield 16, 3) := by decide +kernel
theorem dX3_divide_33 : decode cX3_divide 33 = .ok (.aload_n 0, 1) := by decide +kernel
theorem dX3_divide_34 : decode cX3_divide 34 = .ok (.getfield 24, 3) := by decide +kernel
theorem dX3_divide_37 : decode cX3_divide 37 = .ok (.iconst 1, 1) := by decide +kernel
theorem dX3_divide_38 : decode cX3_divide 38 = .ok (.isub, 1) := by decide +kernel
theorem dX3_divide_39 : decode cX3_divide 39 = .ok (.iaload, 1) := by decide +kernel
theorem dX3_divide_40 : decode cX3_divide 40 = .ok (.istore_n 2, 1) := by decide +kernel
theorem dX3_divide_41 : decode cX3_divide 41 = .ok (.aload_n 0, 1) := by decide +kernel
theorem dX3_divide_42 : decode cX3_divide 42 = .ok (.getfield 11, 3) := by decide +kernel
theorem dX3_divide_45 : decode cX3_divide 45 = .ok (.aload_n 0, 1) := by decide +kernel
theorem dX3_divide_46 : decode cX3_divide 46 = .ok (.getfield 24, 3) := by decide +kernel
theorem dX3_divide_49 : decode cX3_divide 49 = .ok (.iconst 2, 1) := by decide +kernel
theorem dX3_divide_50 : decode cX3_divide 50 = .ok (.isub, 1) := by decide +kernel
theorem dX3_divide_51 : decode cX3_divide 51 = .ok (.aaload, 1) := by decide +kernel
theorem dX3_divide_52 : decode cX3_divide 52 = .ok (.iconst 0, 1) := by decide +kernel
theorem dX3_divide_53 : decode cX3_divide 53 = .ok (.aload_n 0, 1) := by decide +kernel
theorem dX3_divide_54 : decode cX3_divide 54 = .ok (.getfield 20, 3) := by decide +kernel
theorem dX3_divide_57 : decode cX3_divide 57 = .ok (.iconst 0, 1) := by decide +kernel
theorem dX3_divide_58 : decode cX3_divide 58 = .ok (.iconst 5, 1) := by decide +kernel
theorem dX3_divide_59 : decode cX3_divide 59 = .ok (.invokestatic 28, 3) := by decide +kernel
theorem dX3_divide_62 : decode cX3_divide 62 = .ok (.aload_n 0, 1) := by decide +kernel
theorem dX3_divide_63 : decode cX3_divide 63 = .ok (.getfield 16, 3) := by decide +kernel
theorem dX3_divide_66 : decode cX3_divide 66 = .ok (.aload_n 0, 1) := by decide +kernel
theorem dX3_divide_67 : decode cX3_divide 67 = .ok (.getfield 24, 3) := by decide +kernel
theorem dX3_divide_70 : decode cX3_divide 70 = .ok (.iconst 2, 1) := by decide +kernel
theorem dX3_divide_71 : decode cX3_divide 71 = .ok (.isub, 1) := by decide +kernel
theorem dX3_divide_72 : decode cX3_divide 72 = .ok (.iaload, 1) := by decide +kernel
theorem dX3_divide_73 : decode cX3_divide 73 = .ok (.istore_n 3, 1) := by decide +kernel
theorem dX3_divide_74 : decode cX3_divide 74 = .ok (.iload_n 3, 1) := by decide +kernel
theorem dX3_divide_75 : decode cX3_divide 75 = .ok (.iload_n 2, 1) := by decide +kernel
theorem dX3_divide_76 : decode cX3_divide 76 = .ok (.if_icmp .lt 16, 3) := by decide +kernel
theorem dX3_divide_79 : decode cX3_divide 79 = .ok (.aload_n 0, 1) := by decide +kernel
theorem dX3_divide_80 : decode cX3_divide 80 = .ok (.iload_n 3, 1) := by decide +kernel
theorem dX3_divide_81 : decode cX3_divide 81 = .ok (.aload_n 1, 1) := by decide +kernel
theorem dX3_divide_82 : decode cX3_divide 82 = .ok (.iload_n 2, 1) := by decide +kernel
theorem dX3_divide_83 : decode cX3_divide 83 = .ok (.invokevirtual 50, 3) := by decide +kernel
theorem dX3_divide_86 : decode cX3_divide 86 = .ok (.iinc 3 (-1), 3) := by decide +kernel
theorem dX3_divide_89 : decode cX3_divide 89 = .ok (.goto (-15), 3) := by decide +kernel
theorem dX3_divide_92 : decode cX3_divide 92 = .ok (.iconst 0, 1) := by decide +kernel
theorem dX3_divide_93 : decode cX3_divide 93 = .ok (.istore_n 3, 1) := by decide +kernel
theorem dX3_divide_94 : decode cX3_divide 94 = .ok (.iload_n 3, 1) := by decide +kernel
theorem dX3_divide_95 : decode cX3_divide 95 = .ok (.iconst 5, 1) := by decide +kernel
theorem dX3_divide_96 : decode cX3_divide 96 = .ok (.if_icmp .ge 22, 3) := by decide +kernel
theorem dX3_divide_99 : decode cX3_divide 99 = .ok (.aload_n 0, 1) := by decide +kernel
theorem dX3_divide_100 : decode cX3_divide 100 = .ok (.getfield 20, 3) := by decide +kernel
theorem dX3_divide_103 : decode cX3_divide 103 = .ok (.iload_n 3, 1) := by decide +kernel
theorem dX3_divide_104 : decode cX3_divide 104 = .ok (.aload_n 0, 1) := by decide +kernel
theorem dX3_divide_105 : decode cX3_divide 105 = .ok (.getfield 20, 3) := by decide +kernel
theorem dX3_divide_108 : decode cX3_divide 108 = .ok (.iload_n 3, 1) := by decide +kernel
theorem dX3_divide_109 : decode cX3_divide 109 = .ok (.laload, 1) := by decide +kernel
theorem dX3_divide_110 : decode cX3_divide 110 = .ok (.lneg, 1) := by decide +kernel
theorem dX3_divide_111 : decode cX3_divide 111 = .ok (.lastore, 1) := by decide +kernel
theorem dX3_divide_112 : decode cX3_divide 112 = .ok (.iinc 3 1, 3) := by decide +kernel
theorem dX3_divide_115 : decode cX3_divide 115 = .ok (.goto (-21), 3) := by decide +kernel
theorem dX3_divide_118 : decode cX3_divide 118 = .ok (.return_, 1) := by decide +kernel
theorem dX3_cancel_0 : decode cX3_cancel 0 = .ok (.iload_n 3, 1) := by decide +kernel
theorem dX3_cancel_1 : decode cX3_cancel 1 = .ok (.ifCond .lt 19, 3) := by decide +kernel
theorem dX3_cancel_4 : decode cX3_cancel 4 = .ok (.iload_n 3, 1) := by decide +kernel
theorem dX3_cancel_5 : decode cX3_cancel 5 = .ok (.iload_n 1, 1) := by decide +kernel
theorem dX3_cancel_6 : decode cX3_cancel 6 = .ok (.if_icmp .gt 14, 3) := by decide +kernel
theorem dX3_cancel_9 : decode cX3_cancel 9 = .ok (.iload_n 1, 1) := by decide +kernel
theorem dX3_cancel_10 : decode cX3_cancel 10 = .ok (.iconst 5, 1) := by decide +kernel
theorem dX3_cancel_11 : decode cX3_cancel 11 = .ok (.if_icmp .ge 9, 3) := by decide +kernel
theorem dX3_cancel_14 : decode cX3_cancel 14 = .ok (.iload_n 1, 1) := by decide +kernel
theorem dX3_cancel_15 : decode cX3_cancel 15 = .ok (.aload_n 2, 1) := by decide +kernel
theorem dX3_cancel_16 : decode cX3_cancel 16 = .ok (.arraylength, 1) := by decide +kernel
theorem dX3_cancel_17 : decode cX3_cancel 17 = .ok (.if_icmp .lt 4, 3) := by decide +kernel
theorem dX3_cancel_20 : decode cX3_cancel 20 = .ok (.return_, 1) := by decide +kernel
theorem dX3_cancel_21 : decode cX3_cancel 21 = .ok (.aload_n 2, 1) := by decide +kernel
theorem dX3_cancel_22 : decode cX3_cancel 22 = .ok (.iload_n 3, 1) := by decide +kernel
theorem dX3_cancel_23 : decode cX3_cancel 23 = .ok (.laload, 1) := by decide +kernel
theorem dX3_cancel_24 : decode cX3_cancel 24 = .ok (.invokestatic 54, 3) := by decide +kernel
theorem dX3_cancel_27 : decode cX3_cancel 27 = .ok (.lstore 4, 2) := by decide +kernel
theorem dX3_cancel_29 : decode cX3_cancel 29 = .ok (.aload_n 2, 1) := by decide +kernel
theorem dX3_cancel_30 : decode cX3_cancel 30 = .ok (.iload_n 3, 1) := by decide +kernel
theorem dX3_cancel_31 : decode cX3_cancel 31 = .ok (.laload, 1) := by decide +kernel
theorem dX3_cancel_32 : decode cX3_cancel 32 = .ok (.lconst 0, 1) := by decide +kernel
theorem dX3_cancel_33 : decode cX3_cancel 33 = .ok (.lcmp, 1) := by decide +kernel
theorem dX3_cancel_34 : decode cX3_cancel 34 = .ok (.ifCond .le 12, 3) := by decide +kernel
theorem dX3_cancel_37 : decode cX3_cancel 37 = .ok (.aload_n 0, 1) := by decide +kernel
theorem dX3_cancel_38 : decode cX3_cancel 38 = .ok (.getfield 20, 3) := by decide +kernel
theorem dX3_cancel_41 : decode cX3_cancel 41 = .ok (.iload_n 1, 1) := by decide +kernel
theorem dX3_cancel_42 : decode cX3_cancel 42 = .ok (.laload, 1) := by decide +kernel
theorem dX3_cancel_43 : decode cX3_cancel 43 = .ok (.goto 10, 3) := by decide +kernel
theorem dX3_cancel_46 : decode cX3_cancel 46 = .ok (.aload_n 0, 1) := by decide +kernel
theorem dX3_cancel_47 : decode cX3_cancel 47 = .ok (.getfield 20, 3) := by decide +kernel
theorem dX3_cancel_50 : decode cX3_cancel 50 = .ok (.iload_n 1, 1) := by decide +kernel
theorem dX3_cancel_51 : decode cX3_cancel 51 = .ok (.laload, 1) := by decide +kernel
theorem dX3_cancel_52 : decode cX3_cancel 52 = .ok (.lneg, 1) := by decide +kernel
theorem dX3_cancel_53 : decode cX3_cancel 53 = .ok (.lstore 6, 2) := by decide +kernel
theorem dX3_cancel_55 : decode cX3_cancel 55 = .ok (.aload_n 0, 1) := by decide +kernel
theorem dX3_cancel_56 : decode cX3_cancel 56 = .ok (.getfield 20, 3) := by decide +kernel
theorem dX3_cancel_59 : decode cX3_cancel 59 = .ok (.iload_n 1, 1) := by decide +kernel
theorem dX3_cancel_60 : decode cX3_cancel 60 = .ok (.lconst 0, 1) := by decide +kernel
theorem dX3_cancel_61 : decode cX3_cancel 61 = .ok (.lastore, 1) := by decide +kernel
theorem dX3_cancel_62 : decode cX3_cancel 62 = .ok (.iload_n 3, 1) := by decide +kernel
theorem dX3_cancel_63 : decode cX3_cancel 63 = .ok (.iconst 1, 1) := by decide +kernel
theorem dX3_cancel_64 : decode cX3_cancel 64 = .ok (.if_icmp .ne 33, 3) := by decide +kernel
theorem dX3_cancel_67 : decode cX3_cancel 67 = .ok (.iload_n 1, 1) := by decide +kernel
theorem dX3_cancel_68 : decode cX3_cancel 68 = .ok (.iconst 1, 1) := by decide +kernel
theorem dX3_cancel_69 : decode cX3_cancel 69 = .ok (.if_icmp .ne 28, 3) := by decide +kernel
theorem dX3_cancel_72 : decode cX3_cancel 72 = .ok (.aload_n 0, 1) := by decide +kernel
theorem dX3_cancel_73 : decode cX3_cancel 73 = .ok (.getfield 20, 3) := by decide +kernel
theorem dX3_cancel_76 : decode cX3_cancel 76 = .ok (.iconst 0, 1) := by decide +kernel
theorem dX3_cancel_77 : decode cX3_cancel 77 = .ok (.lload 4, 2) := by decide +kernel
theorem dX3_cancel_79 : decode cX3_cancel 79 = .ok (.aload_n 0, 1) := by decide +kernel
theorem dX3_cancel_80 : decode cX3_cancel 80 = .ok (.getfield 20, 3) := by decide +kernel
theorem dX3_cancel_83 : decode cX3_cancel 83 = .ok (.iconst 0, 1) := by decide +kernel
theorem dX3_cancel_84 : decode cX3_cancel 84 = .ok (.laload, 1) := by decide +kernel
theorem dX3_cancel_85 : decode cX3_cancel 85 = .ok (.aload_n 2, 1) := by decide +kernel
theorem dX3_cancel_86 : decode cX3_cancel 86 = .ok (.iconst 0, 1) := by decide +kernel
theorem dX3_cancel_87 : decode cX3_cancel 87 = .ok (.laload, 1) := by decide +kernel
theorem dX3_cancel_88 : decode cX3_cancel 88 = .ok (.lneg, 1) := by decide +kernel
theorem dX3_cancel_89 : decode cX3_cancel 89 = .ok (.lload 6, 2) := by decide +kernel
theorem dX3_cancel_91 : decode cX3_cancel 91 = .ok (.invokestatic 60, 3) := by decide +kernel
theorem dX3_cancel_94 : decode cX3_cancel 94 = .ok (.i2l, 1) := by decide +kernel
theorem dX3_cancel_95 : decode cX3_cancel 95 = .ok (.lastore, 1) := by decide +kernel
theorem dX3_cancel_96 : decode cX3_cancel 96 = .ok (.return_, 1) := by decide +kernel
theorem dX3_cancel_97 : decode cX3_cancel 97 = .ok (.iconst 0, 1) := by decide +kernel
theorem dX3_cancel_98 : decode cX3_cancel 98 = .ok (.istore 8, 2) := by decide +kernel
theorem dX3_cancel_100 : decode cX3_cancel 100 = .ok (.iload 8, 2) := by decide +kernel
theorem dX3_cancel_102 : decode cX3_cancel 102 = .ok (.iload_n 1, 1) := by decide +kernel
theorem dX3_cancel_103 : decode cX3_cancel 103 = .ok (.if_icmp .ge 21, 3) := by decide +kernel
theorem dX3_cancel_106 : decode cX3_cancel 106 = .ok (.aload_n 0, 1) := by decide +kernel
theorem dX3_cancel_107 : decode cX3_cancel 107 = .ok (.getfield 20, 3) := by decide +kernel
theorem dX3_cancel_110 : decode cX3_cancel 110 = .ok (.iload 8, 2) := by decide +kernel
theorem dX3_cancel_112 : decode cX3_cancel 112 = .ok (.dup2, 1) := by decide +kernel
theorem dX3_cancel_113 : decode cX3_cancel 113 = .ok (.laload, 1) := by decide +kernel
theorem dX3_cancel_114 : decode cX3_cancel 114 = .ok (.lload 4, 2) := by decide +kernel
theorem dX3_cancel_116 : decode cX3_cancel 116 = .ok (.lmul, 1) := by decide +kernel
theorem dX3_cancel_117 : decode cX3_cancel 117 = .ok (.lastore, 1) := by decide +kernel
theorem dX3_cancel_118 : decode cX3_cancel 118 = .ok (.iinc 8 1, 3) := by decide +kernel
theorem dX3_cancel_121 : decode cX3_cancel 121 = .ok (.goto (-21), 3) := by decide +kernel
theorem dX3_cancel_124 : decode cX3_cancel 124 = .ok (.iconst 0, 1) := by decide +kernel
theorem dX3_cancel_125 : decode cX3_cancel 125 = .ok (.istore 8, 2) := by decide +kernel
theorem dX3_cancel_127 : decode cX3_cancel 127 = .ok (.iload 8, 2) := by decide +kernel
theorem dX3_cancel_129 : decode cX3_cancel 129 = .ok (.iload_n 3, 1) := by decide +kernel
theorem dX3_cancel_130 : decode cX3_cancel 130 = .ok (.if_icmp .ge 30, 3) := by decide +kernel
theorem dX3_cancel_133 : decode cX3_cancel 133 = .ok (.aload_n 0, 1) := by decide +kernel
theorem dX3_cancel_134 : decode cX3_cancel 134 = .ok (.getfield 20, 3) := by decide +kernel
theorem dX3_cancel_137 : decode cX3_cancel 137 = .ok (.iload_n 1, 1) := by decide +kernel
theorem dX3_cancel_138 : decode cX3_cancel 138 = .ok (.iload_n 3, 1) := by decide +kernel
theorem dX3_cancel_139 : decode cX3_cancel 139 = .ok (.isub, 1) := by decide +kernel
theorem dX3_cancel_140 : decode cX3_cancel 140 = .ok (.iload 8, 2) := by decide +kernel
theorem dX3_cancel_142 : decode cX3_cancel 142 = .ok (.iadd, 1) := by decide +kernel
theorem dX3_cancel_143 : decode cX3_cancel 143 = .ok (.dup2, 1) := by decide +kernel
theorem dX3_cancel_144 : decode cX3_cancel 144 = .ok (.laload, 1) := by decide +kernel
theorem dX3_cancel_145 : decode cX3_cancel 145 = .ok (.lload 6, 2) := by decide +kernel
theorem dX3_cancel_147 : decode cX3_cancel 147 = .ok (.aload_n 2, 1) := by decide +kernel
theorem dX3_cancel_148 : decode cX3_cancel 148 = .ok (.iload 8, 2) := by decide +kernel
theorem dX3_cancel_150 : decode cX3_cancel 150 = .ok (.laload, 1) := by decide +kernel
theorem dX3_cancel_151 : decode cX3_cancel 151 = .ok (.lmul, 1) := by decide +kernel
theorem dX3_cancel_152 : decode cX3_cancel 152 = .ok (.lsub, 1) := by decide +kernel
theorem dX3_cancel_153 : decode cX3_cancel 153 = .ok (.lastore, 1) := by decide +kernel
theorem dX3_cancel_154 : decode cX3_cancel 154 = .ok (.iinc 8 1, 3) := by decide +kernel
theorem dX3_cancel_157 : decode cX3_cancel 157 = .ok (.goto (-30), 3) := by decide +kernel
theorem dX3_cancel_160 : decode cX3_cancel 160 = .ok (.return_, 1) := by decide +kernel
theorem dX3_signOfSum_0 : decode cX3_signOfSum 0 = .ok (.ldc2_w 64, 3) := by decide +kernel
theorem dX3_signOfSum_3 : decode cX3_signOfSum 3 = .ok (.lstore 8, 2) := by decide +kernel
theorem dX3_signOfSum_5 : decode cX3_signOfSum 5 = .ok (.lload_n 0, 1) := by decide +kernel
theorem dX3_signOfSum_6 : decode cX3_signOfSum 6 = .ok (.lload_n 2, 1) := by decide +kernel
theorem dX3_signOfSum_7 : decode cX3_signOfSum 7 = .ok (.lload 8, 2) := by decide +kernel
theorem dX3_signOfSum_9 : decode cX3_signOfSum 9 = .ok (.land, 1) := by decide +kernel
theorem dX3_signOfSum_10 : decode cX3_signOfSum 10 = .ok (.lmul, 1) := by decide +kernel
theorem dX3_signOfSum_11 : decode cX3_signOfSum 11 = .ok (.lload 4, 2) := by decide +kernel
theorem dX3_signOfSum_13 : decode cX3_signOfSum 13 = .ok (.lload 6, 2) := by decide +kernel
theorem dX3_signOfSum_15 : decode cX3_signOfSum 15 = .ok (.lload 8, 2) := by decide +kernel
theorem dX3_signOfSum_17 : decode cX3_signOfSum 17 = .ok (.land, 1) := by decide +kernel
theorem dX3_signOfSum_18 : decode cX3_signOfSum 18 = .ok (.lmul, 1) := by decide +kernel
theorem dX3_signOfSum_19 : decode cX3_signOfSum 19 = .ok (.ladd, 1) := by decide +kernel
theorem dX3_signOfSum_20 : decode cX3_signOfSum 20 = .ok (.lstore 10, 2) := by decide +kernel
theorem dX3_signOfSum_22 : decode cX3_signOfSum 22 = .ok (.lload_n 0, 1) := by decide +kernel
theorem dX3_signOfSum_23 : decode cX3_signOfSum 23 = .ok (.lload_n 2, 1) := by decide +kernel
theorem dX3_signOfSum_24 : decode cX3_signOfSum 24 = .ok (.bipush 26, 2) := by decide +kernel
theorem dX3_signOfSum_26 : decode cX3_signOfSum 26 = .ok (.lshr, 1) := by decide +kernel
theorem dX3_signOfSum_27 : decode cX3_signOfSum 27 = .ok (.lmul, 1) := by decide +kernel
theorem dX3_signOfSum_28 : decode cX3_signOfSum 28 = .ok (.lload 4, 2) := by decide +kernel
theorem dX3_signOfSum_30 : decode cX3_signOfSum 30 = .ok (.lload 6, 2) := by decide +kernel
theorem dX3_signOfSum_32 : decode cX3_signOfSum 32 = .ok (.bipush 26, 2) := by decide +kernel
theorem dX3_signOfSum_34 : decode cX3_signOfSum 34 = .ok (.lshr, 1) := by decide +kernel
theorem dX3_signOfSum_35 : decode cX3_signOfSum 35 = .ok (.lmul, 1) := by decide +kernel
theorem dX3_signOfSum_36 : decode cX3_signOfSum 36 = .ok (.ladd, 1) := by decide +kernel
theorem dX3_signOfSum_37 : decode cX3_signOfSum 37 = .ok (.lload 10, 2) := by decide +kernel
theorem dX3_signOfSum_39 : decode cX3_signOfSum 39 = .ok (.bipush 26, 2) := by decide +kernel
theorem dX3_signOfSum_41 : decode cX3_signOfSum 41 = .ok (.lshr, 1) := by decide +kernel
theorem dX3_signOfSum_42 : decode cX3_signOfSum 42 = .ok (.ladd, 1) := by decide +kernel
theorem dX3_signOfSum_43 : decode cX3_signOfSum 43 = .ok (.lstore 12, 2) := by decide +kernel
theorem dX3_signOfSum_45 : decode cX3_signOfSum 45 = .ok (.lload 12, 2) := by decide +kernel
theorem dX3_signOfSum_47 : decode cX3_signOfSum 47 = .ok (.lconst 0, 1) := by decide +kernel
theorem dX3_signOfSum_48 : decode cX3_signOfSum 48 = .ok (.lcmp, 1) := by decide +kernel
theorem dX3_signOfSum_49 : decode cX3_signOfSum 49 = .ok (.ifCond .eq 16, 3) := by decide +kernel
theorem dX3_signOfSum_52 : decode cX3_signOfSum 52 = .ok (.lload 12, 2) := by decide +kernel
theorem dX3_signOfSum_54 : decode cX3_signOfSum 54 = .ok (.lconst 0, 1) := by decide +kernel
theorem dX3_signOfSum_55 : decode cX3_signOfSum 55 = .ok (.lcmp, 1) := by decide +kernel
theorem dX3_signOfSum_56 : decode cX3_signOfSum 56 = .ok (.ifCond .le 7, 3) := by decide +kernel
theorem dX3_signOfSum_59 : decode cX3_signOfSum 59 = .ok (.iconst 1, 1) := by decide +kernel
theorem dX3_signOfSum_60 : decode cX3_signOfSum 60 = .ok (.goto 4, 3) := by decide +kernel
theorem dX3_signOfSum_63 : decode cX3_signOfSum 63 = .ok (.iconst (-1), 1) := by decide +kernel
theorem dX3_signOfSum_64 : decode cX3_signOfSum 64 = .ok (.ireturn, 1) := by decide +kernel
theorem dX3_signOfSum_65 : decode cX3_signOfSum 65 = .ok (.lload 10, 2) := by decide +kernel
theorem dX3_signOfSum_67 : decode cX3_signOfSum 67 = .ok (.lload 8, 2) := by decide +kernel
theorem dX3_signOfSum_69 : decode cX3_signOfSum 69 = .ok (.land, 1) := by decide +kernel
theorem dX3_signOfSum_70 : decode cX3_signOfSum 70 = .ok (.lconst 0, 1) := by decide +kernel
theorem dX3_signOfSum_71 : decode cX3_signOfSum 71 = .ok (.lcmp, 1) := by decide +kernel
theorem dX3_signOfSum_72 : decode cX3_signOfSum 72 = .ok (.ifCond .eq 7, 3) := by decide +kernel
theorem dX3_signOfSum_75 : decode cX3_signOfSum 75 = .ok (.iconst 1, 1) := by decide +kernel
theorem dX3_signOfSum_76 : decode cX3_signOfSum 76 = .ok (.goto 4, 3) := by decide +kernel
theorem dX3_signOfSum_79 : decode cX3_signOfSum 79 = .ok (.iconst 0, 1) := by decide +kernel
theorem dX3_signOfSum_80 : decode cX3_signOfSum 80 = .ok (.ireturn, 1) := by decide +kernel
theorem dX3_reduce_0 : decode cX3_reduce 0 = .ok (.lconst 0, 1) := by decide +kernel
theorem dX3_reduce_1 : decode cX3_reduce 1 = .ok (.lstore_n 1, 1) := by decide +kernel
theorem dX3_reduce_2 : decode cX3_reduce 2 = .ok (.iconst 0, 1) := by decide +kernel
theorem dX3_reduce_3 : decode cX3_reduce 3 = .ok (.istore_n 3, 1) := by decide +kernel
theorem dX3_reduce_4 : decode cX3_reduce 4 = .ok (.iload_n 3, 1) := by decide +kernel
theorem dX3_reduce_5 : decode cX3_reduce 5 = .ok (.iconst 5, 1) := by decide +kernel
theorem dX3_reduce_6 : decode cX3_reduce 6 = .ok (.if_icmp .ge 57, 3) := by decide +kernel
theorem dX3_reduce_9 : decode cX3_reduce 9 = .ok (.aload_n 0, 1) := by decide +kernel
theorem dX3_reduce_10 : decode cX3_reduce 10 = .ok (.getfield 20, 3) := by decide +kernel
theorem dX3_reduce_13 : decode cX3_reduce 13 = .ok (.iload_n 3, 1) := by decide +kernel
theorem dX3_reduce_14 : decode cX3_reduce 14 = .ok (.laload, 1) := by decide +kernel
theorem dX3_reduce_15 : decode cX3_reduce 15 = .ok (.invokestatic 54, 3) := by decide +kernel
theorem dX3_reduce_18 : decode cX3_reduce 18 = .ok (.lstore 4, 2) := by decide +kernel
theorem dX3_reduce_20 : decode cX3_reduce 20 = .ok (.iconst 0, 1) := by decide +kernel
theorem dX3_reduce_21 : decode cX3_reduce 21 = .ok (.istore 6, 2) := by decide +kernel
theorem dX3_reduce_23 : decode cX3_reduce 23 = .ok (.iload 6, 2) := by decide +kernel
theorem dX3_reduce_25 : decode cX3_reduce 25 = .ok (.sipush 200, 3) := by decide +kernel
theorem dX3_reduce_28 : decode cX3_reduce 28 = .ok (.if_icmp .ge 29, 3) := by decide +kernel
theorem dX3_reduce_31 : decode cX3_reduce 31 = .ok (.lload 4, 2) := by decide +kernel
theorem dX3_reduce_33 : decode cX3_reduce 33 = .ok (.lconst 0, 1) := by decide +kernel
theorem dX3_reduce_34 : decode cX3_reduce 34 = .ok (.lcmp, 1) := by decide +kernel
theorem dX3_reduce_35 : decode cX3_reduce 35 = .ok (.ifCond .eq 22, 3) := by decide +kernel
theorem dX3_reduce_38 : decode cX3_reduce 38 = .ok (.lload_n 1, 1) := by decide +kernel
theorem dX3_reduce_39 : decode cX3_reduce 39 = .ok (.lload 4, 2) := by decide +kernel
theorem dX3_reduce_41 : decode cX3_reduce 41 = .ok (.lrem, 1) := by decide +kernel
theorem dX3_reduce_42 : decode cX3_reduce 42 = .ok (.lstore 7, 2) := by decide +kernel
theorem dX3_reduce_44 : decode cX3_reduce 44 = .ok (.lload 4, 2) := by decide +kernel
theorem dX3_reduce_46 : decode cX3_reduce 46 = .ok (.lstore_n 1, 1) := by decide +kernel
theorem dX3_reduce_47 : decode cX3_reduce 47 = .ok (.lload 7, 2) := by decide +kernel
theorem dX3_reduce_49 : decode cX3_reduce 49 = .ok (.lstore 4, 2) := by decide +kernel
theorem dX3_reduce_51 : decode cX3_reduce 51 = .ok (.iinc 6 1, 3) := by decide +kernel
theorem dX3_reduce_54 : decode cX3_reduce 54 = .ok (.goto (-31), 3) := by decide +kernel
theorem dX3_reduce_57 : decode cX3_reduce 57 = .ok (.iinc 3 1, 3) := by decide +kernel
theorem dX3_reduce_60 : decode cX3_reduce 60 = .ok (.goto (-56), 3) := by decide +kernel
theorem dX3_reduce_63 : decode cX3_reduce 63 = .ok (.lload_n 1, 1) := by decide +kernel
theorem dX3_reduce_64 : decode cX3_reduce 64 = .ok (.lconst 1, 1) := by decide +kernel
theorem dX3_reduce_65 : decode cX3_reduce 65 = .ok (.lcmp, 1) := by decide +kernel
theorem dX3_reduce_66 : decode cX3_reduce 66 = .ok (.ifCond .le 26, 3) := by decide +kernel
theorem dX3_reduce_69 : decode cX3_reduce 69 = .ok (.iconst 0, 1) := by decide +kernel
theorem dX3_reduce_70 : decode cX3_reduce 70 = .ok (.istore_n 3, 1) := by decide +kernel
theorem dX3_reduce_71 : decode cX3_reduce 71 = .ok (.iload_n 3, 1) := by decide +kernel
theorem dX3_reduce_72 : decode cX3_reduce 72 = .ok (.iconst 5, 1) := by decide +kernel
theorem dX3_reduce_73 : decode cX3_reduce 73 = .ok (.if_icmp .ge 19, 3) := by decide +kernel
theorem dX3_reduce_76 : decode cX3_reduce 76 = .ok (.aload_n 0, 1) := by decide +kernel
theorem dX3_reduce_77 : decode cX3_reduce 77 = .ok (.getfield 20, 3) := by decide +kernel
theorem dX3_reduce_80 : decode cX3_reduce 80 = .ok (.iload_n 3, 1) := by decide +kernel
theorem dX3_reduce_81 : decode cX3_reduce 81 = .ok (.dup2, 1) := by decide +kernel
theorem dX3_reduce_82 : decode cX3_reduce 82 = .ok (.laload, 1) := by decide +kernel
theorem dX3_reduce_83 : decode cX3_reduce 83 = .ok (.lload_n 1, 1) := by decide +kernel
theorem dX3_reduce_84 : decode cX3_reduce 84 = .ok (.ldiv, 1) := by decide +kernel
theorem dX3_reduce_85 : decode cX3_reduce 85 = .ok (.lastore, 1) := by decide +kernel
theorem dX3_reduce_86 : decode cX3_reduce 86 = .ok (.iinc 3 1, 3) := by decide +kernel
theorem dX3_reduce_89 : decode cX3_reduce 89 = .ok (.goto (-18), 3) := by decide +kernel
theorem dX3_reduce_92 : decode cX3_reduce 92 = .ok (.return_, 1) := by decide +kernel
theorem dX3_signAt_0 : decode cX3_signAt 0 = .ok (.iload_n 1, 1) := by decide +kernel
theorem dX3_signAt_1 : decode cX3_signAt 1 = .ok (.ifCond .lt 8, 3) := by decide +kernel
theorem dX3_signAt_4 : decode cX3_signAt 4 = .ok (.iload_n 1, 1) := by decide +kernel
theorem dX3_signAt_5 : decode cX3_signAt 5 = .ok (.iconst 5, 1) := by decide +kernel
theorem dX3_signAt_6 : decode cX3_signAt 6 = .ok (.if_icmp .lt 5, 3) := by decide +kernel
theorem dX3_signAt_9 : decode cX3_signAt 9 = .ok (.iconst 0, 1) := by decide +kernel
theorem dX3_signAt_10 : decode cX3_signAt 10 = .ok (.ireturn, 1) := by decide +kernel
theorem dX3_signAt_11 : decode cX3_signAt 11 = .ok (.lconst 0, 1) := by decide +kernel
theorem dX3_signAt_12 : decode cX3_signAt 12 = .ok (.lstore_n 3, 1) := by decide +kernel
theorem dX3_signAt_13 : decode cX3_signAt 13 = .ok (.iconst 4, 1) := by decide +kernel
theorem dX3_signAt_14 : decode cX3_signAt 14 = .ok (.istore 5, 2) := by decide +kernel
theorem dX3_signAt_16 : decode cX3_signAt 16 = .ok (.iload 5, 2) := by decide +kernel
theorem dX3_signAt_18 : decode cX3_signAt 18 = .ok (.ifCond .lt 24, 3) := by decide +kernel
theorem dX3_signAt_21 : decode cX3_signAt 21 = .ok (.lload_n 3, 1) := by decide +kernel
theorem dX3_signAt_22 : decode cX3_signAt 22 = .ok (.iload_n 2, 1) := by decide +kernel
theorem dX3_signAt_23 : decode cX3_signAt 23 = .ok (.i2l, 1) := by decide +kernel
theorem dX3_signAt_24 : decode cX3_signAt 24 = .ok (.lmul, 1) := by decide +kernel
theorem dX3_signAt_25 : decode cX3_signAt 25 = .ok (.aload_n 0, 1) := by decide +kernel
theorem dX3_signAt_26 : decode cX3_signAt 26 = .ok (.getfield 11, 3) := by decide +kernel
theorem dX3_signAt_29 : decode cX3_signAt 29 = .ok (.iload_n 1, 1) := by decide +kernel
theorem dX3_signAt_30 : decode cX3_signAt 30 = .ok (.aaload, 1) := by decide +kernel
theorem dX3_signAt_31 : decode cX3_signAt 31 = .ok (.iload 5, 2) := by decide +kernel
theorem dX3_signAt_33 : decode cX3_signAt 33 = .ok (.laload, 1) := by decide +kernel
theorem dX3_signAt_34 : decode cX3_signAt 34 = .ok (.ladd, 1) := by decide +kernel
theorem dX3_signAt_35 : decode cX3_signAt 35 = .ok (.lstore_n 3, 1) := by decide +kernel
theorem dX3_signAt_36 : decode cX3_signAt 36 = .ok (.iinc 5 (-1), 3) := by decide +kernel
theorem dX3_signAt_39 : decode cX3_signAt 39 = .ok (.goto (-23), 3) := by decide +kernel
theorem dX3_signAt_42 : decode cX3_signAt 42 = .ok (.lload_n 3, 1) := by decide +kernel
theorem dX3_signAt_43 : decode cX3_signAt 43 = .ok (.lconst 0, 1) := by decide +kernel
theorem dX3_signAt_44 : decode cX3_signAt 44 = .ok (.invokestatic 66, 3) := by decide +kernel
theorem dX3_signAt_47 : decode cX3_signAt 47 = .ok (.ireturn, 1) := by decide +kernel
theorem dX3_changesAt_0 : decode cX3_changesAt 0 = .ok (.iconst 0, 1) := by decide +kernel
theorem dX3_changesAt_1 : decode cX3_changesAt 1 = .ok (.istore_n 2, 1) := by decide +kernel
theorem dX3_changesAt_2 : decode cX3_changesAt 2 = .ok (.iconst 0, 1) := by decide +kernel
theorem dX3_changesAt_3 : decode cX3_changesAt 3 = .ok (.istore_n 3, 1) := by decide +kernel
theorem dX3_changesAt_4 : decode cX3_changesAt 4 = .ok (.iconst 0, 1) := by decide +kernel
theorem dX3_changesAt_5 : decode cX3_changesAt 5 = .ok (.istore 4, 2) := by decide +kernel
theorem dX3_changesAt_7 : decode cX3_changesAt 7 = .ok (.iload 4, 2) := by decide +kernel
theorem dX3_changesAt_9 : decode cX3_changesAt 9 = .ok (.aload_n 0, 1) := by decide +kernel
theorem dX3_changesAt_10 : decode cX3_changesAt 10 = .ok (.getfield 24, 3) := by decide +kernel
theorem dX3_changesAt_13 : decode cX3_changesAt 13 = .ok (.if_icmp .ge 36, 3) := by decide +kernel
theorem dX3_changesAt_16 : decode cX3_changesAt 16 = .ok (.aload_n 0, 1) := by decide +kernel
theorem dX3_changesAt_17 : decode cX3_changesAt 17 = .ok (.iload 4, 2) := by decide +kernel
theorem dX3_changesAt_19 : decode cX3_changesAt 19 = .ok (.iload_n 1, 1) := by decide +kernel
theorem dX3_changesAt_20 : decode cX3_changesAt 20 = .ok (.invokevirtual 72, 3) := by decide +kernel
theorem dX3_changesAt_23 : decode cX3_changesAt 23 = .ok (.istore 5, 2) := by decide +kernel
theorem dX3_changesAt_25 : decode cX3_changesAt 25 = .ok (.iload 5, 2) := by decide +kernel
theorem dX3_changesAt_27 : decode cX3_changesAt 27 = .ok (.ifCond .eq 16, 3) := by decide +kernel
theorem dX3_changesAt_30 : decode cX3_changesAt 30 = .ok (.iload_n 3, 1) := by decide +kernel
theorem dX3_changesAt_31 : decode cX3_changesAt 31 = .ok (.iload 5, 2) := by decide +kernel
theorem dX3_changesAt_33 : decode cX3_changesAt 33 = .ok (.ineg, 1) := by decide +kernel
theorem dX3_changesAt_34 : decode cX3_changesAt 34 = .ok (.if_icmp .ne 6, 3) := by decide +kernel
theorem dX3_changesAt_37 : decode cX3_changesAt 37 = .ok (.iinc 2 1, 3) := by decide +kernel
theorem dX3_changesAt_40 : decode cX3_changesAt 40 = .ok (.iload 5, 2) := by decide +kernel
theorem dX3_changesAt_42 : decode cX3_changesAt 42 = .ok (.istore_n 3, 1) := by decide +kernel
theorem dX3_changesAt_43 : decode cX3_changesAt 43 = .ok (.iinc 4 1, 3) := by decide +kernel
theorem dX3_changesAt_46 : decode cX3_changesAt 46 = .ok (.goto (-39), 3) := by decide +kernel
theorem dX3_changesAt_49 : decode cX3_changesAt 49 = .ok (.iload_n 2, 1) := by decide +kernel
theorem dX3_changesAt_50 : decode cX3_changesAt 50 = .ok (.ireturn, 1) := by decide +kernel
theorem dX3_changesAbove_0 : decode cX3_changesAbove 0 = .ok (.iconst 0, 1) := by decide +kernel
theorem dX3_changesAbove_1 : decode cX3_changesAbove 1 = .ok (.istore_n 3, 1) := by decide +kernel
theorem dX3_changesAbove_2 : decode cX3_changesAbove 2 = .ok (.iconst 0, 1) := by decide +kernel
theorem dX3_changesAbove_3 : decode cX3_changesAbove 3 = .ok (.istore 4, 2) := by decide +kernel
theorem dX3_changesAbove_5 : decode cX3_changesAbove 5 = .ok (.iconst 0, 1) := by decide +kernel
theorem dX3_changesAbove_6 : decode cX3_changesAbove 6 = .ok (.istore 5, 2) := by decide +kernel
theorem dX3_changesAbove_8 : decode cX3_changesAbove 8 = .ok (.iload 5, 2) := by decide +kernel
theorem dX3_changesAbove_10 : decode cX3_changesAbove 10 = .ok (.aload_n 0, 1) := by decide +kernel
theorem dX3_changesAbove_11 : decode cX3_changesAbove 11 = .ok (.getfield 24, 3) := by decide +kernel
theorem dX3_changesAbove_14 : decode cX3_changesAbove 14 = .ok (.if_icmp .ge 34, 3) := by decide +kernel
theorem dX3_changesAbove_17 : decode cX3_changesAbove 17 = .ok (.aload_n 0, 1) := by decide +kernel
theorem dX3_changesAbove_18 : decode cX3_changesAbove 18 = .ok (.iload 5, 2) := by decide +kernel
theorem dX3_changesAbove_20 : decode cX3_changesAbove 20 = .ok (.iload_n 1, 1) := by decide +kernel
theorem dX3_changesAbove_21 : decode cX3_changesAbove 21 = .ok (.iload_n 2, 1) := by decide +kernel
theorem dX3_changesAbove_22 : decode cX3_changesAbove 22 = .ok (.invokevirtual 76, 3) := by decide +kernel
theorem dX3_changesAbove_25 : decode cX3_changesAbove 25 = .ok (.istore 6, 2) := by decide +kernel
theorem dX3_changesAbove_27 : decode cX3_changesAbove 27 = .ok (.iload 4, 2) := by decide +kernel
theorem dX3_changesAbove_29 : decode cX3_changesAbove 29 = .ok (.iload 6, 2) := by decide +kernel
theorem dX3_changesAbove_31 : decode cX3_changesAbove 31 = .ok (.ineg, 1) := by decide +kernel
theorem dX3_changesAbove_32 : decode cX3_changesAbove 32 = .ok (.if_icmp .ne 6, 3) := by decide +kernel
theorem dX3_changesAbove_35 : decode cX3_changesAbove 35 = .ok (.iinc 3 1, 3) := by decide +kernel
theorem dX3_changesAbove_38 : decode cX3_changesAbove 38 = .ok (.iload 6, 2) := by decide +kernel
theorem dX3_changesAbove_40 : decode cX3_changesAbove 40 = .ok (.istore 4, 2) := by decide +kernel
theorem dX3_changesAbove_42 : decode cX3_changesAbove 42 = .ok (.iinc 5 1, 3) := by decide +kernel
theorem dX3_changesAbove_45 : decode cX3_changesAbove 45 = .ok (.goto (-37), 3) := by decide +kernel
theorem dX3_changesAbove_48 : decode cX3_changesAbove 48 = .ok (.iload_n 3, 1) := by decide +kernel
theorem dX3_changesAbove_49 : decode cX3_changesAbove 49 = .ok (.ireturn, 1) := by decide +kernel
theorem dX3_signAbove_0 : decode cX3_signAbove 0 = .ok (.iload_n 1, 1) := by decide +kernel
theorem dX3_signAbove_1 : decode cX3_signAbove 1 = .ok (.ifCond .lt 27, 3) := by decide +kernel
theorem dX3_signAbove_4 : decode cX3_signAbove 4 = .ok (.iload_n 1, 1) := by decide +kernel
theorem dX3_signAbove_5 : decode cX3_signAbove 5 = .ok (.iconst 5, 1) := by decide +kernel
theorem dX3_signAbove_6 : decode cX3_signAbove 6 = .ok (.if_icmp .ge 22, 3) := by decide +kernel
theorem dX3_signAbove_9 : decode cX3_signAbove 9 = .ok (.aload_n 0, 1) := by decide +kernel
theorem dX3_signAbove_10 : decode cX3_signAbove 10 = .ok (.getfield 16, 3) := by decide +kernel
theorem dX3_signAbove_13 : decode cX3_signAbove 13 = .ok (.iload_n 1, 1) := by decide +kernel
theorem dX3_signAbove_14 : decode cX3_signAbove 14 = .ok (.iaload, 1) := by decide +kernel
theorem dX3_signAbove_15 : decode cX3_signAbove 15 = .ok (.ifCond .lt 13, 3) := by decide +kernel
theorem dX3_signAbove_18 : decode cX3_signAbove 18 = .ok (.aload_n 0, 1) := by decide +kernel
theorem dX3_signAbove_19 : decode cX3_signAbove 19 = .ok (.getfield 16, 3) := by decide +kernel
theorem dX3_signAbove_22 : decode cX3_signAbove 22 = .ok (.iload_n 1, 1) := by decide +kernel
theorem dX3_signAbove_23 : decode cX3_signAbove 23 = .ok (.iaload, 1) := by decide +kernel
theorem dX3_signAbove_24 : decode cX3_signAbove 24 = .ok (.iconst 5, 1) := by decide +kernel
theorem dX3_signAbove_25 : decode cX3_signAbove 25 = .ok (.if_icmp .lt 5, 3) := by decide +kernel
theorem dX3_signAbove_28 : decode cX3_signAbove 28 = .ok (.iconst 0, 1) := by decide +kernel
theorem dX3_signAbove_29 : decode cX3_signAbove 29 = .ok (.ireturn, 1) := by decide +kernel
theorem dX3_signAbove_30 : decode cX3_signAbove 30 = .ok (.aload_n 0, 1) := by decide +kernel
theorem dX3_signAbove_31 : decode cX3_signAbove 31 = .ok (.getfield 16, 3) := by decide +kernel
theorem dX3_signAbove_34 : decode cX3_signAbove 34 = .ok (.iload_n 1, 1) := by decide +kernel
theorem dX3_signAbove_35 : decode cX3_signAbove 35 = .ok (.iaload, 1) := by decide +kernel
theorem dX3_signAbove_36 : decode cX3_signAbove 36 = .ok (.istore 4, 2) := by decide +kernel
theorem dX3_signAbove_38 : decode cX3_signAbove 38 = .ok (.iconst 0, 1) := by decide +kernel
theorem dX3_signAbove_39 : decode cX3_signAbove 39 = .ok (.istore 5, 2) := by decide +kernel
theorem dX3_signAbove_41 : decode cX3_signAbove 41 = .ok (.iload 5, 2) := by decide +kernel
theorem dX3_signAbove_43 : decode cX3_signAbove 43 = .ok (.iload 4, 2) := by decide +kernel
theorem dX3_signAbove_45 : decode cX3_signAbove 45 = .ok (.if_icmp .gt 33, 3) := by decide +kernel
theorem dX3_signAbove_48 : decode cX3_signAbove 48 = .ok (.aload_n 0, 1) := by decide +kernel
theorem dX3_signAbove_49 : decode cX3_signAbove 49 = .ok (.getfield 20, 3) := by decide +kernel
theorem dX3_signAbove_52 : decode cX3_signAbove 52 = .ok (.iload 5, 2) := by decide +kernel
theorem dX3_signAbove_54 : decode cX3_signAbove 54 = .ok (.aload_n 0, 1) := by decide +kernel
theorem dX3_signAbove_55 : decode cX3_signAbove 55 = .ok (.getfield 11, 3) := by decide +kernel
theorem dX3_signAbove_58 : decode cX3_signAbove 58 = .ok (.iload_n 1, 1) := by decide +kernel
theorem dX3_signAbove_59 : decode cX3_signAbove 59 = .ok (.aaload, 1) := by decide +kernel
theorem dX3_signAbove_60 : decode cX3_signAbove 60 = .ok (.iload 5, 2) := by decide +kernel
theorem dX3_signAbove_62 : decode cX3_signAbove 62 = .ok (.laload, 1) := by decide +kernel
theorem dX3_signAbove_63 : decode cX3_signAbove 63 = .ok (.iload_n 3, 1) := by decide +kernel
theorem dX3_signAbove_64 : decode cX3_signAbove 64 = .ok (.iload 4, 2) := by decide +kernel
theorem dX3_signAbove_66 : decode cX3_signAbove 66 = .ok (.iload 5, 2) := by decide +kernel
theorem dX3_signAbove_68 : decode cX3_signAbove 68 = .ok (.isub, 1) := by decide +kernel
theorem dX3_signAbove_69 : decode cX3_signAbove 69 = .ok (.imul, 1) := by decide +kernel
theorem dX3_signAbove_70 : decode cX3_signAbove 70 = .ok (.lshl, 1) := by decide +kernel
theorem dX3_signAbove_71 : decode cX3_signAbove 71 = .ok (.lastore, 1) := by decide +kernel
theorem dX3_signAbove_72 : decode cX3_signAbove 72 = .ok (.iinc 5 1, 3) := by decide +kernel
theorem dX3_signAbove_75 : decode cX3_signAbove 75 = .ok (.goto (-34), 3) := by decide +kernel
theorem dX3_signAbove_78 : decode cX3_signAbove 78 = .ok (.iconst 0, 1) := by decide +kernel
theorem dX3_signAbove_79 : decode cX3_signAbove 79 = .ok (.istore 5, 2) := by decide +kernel
theorem dX3_signAbove_81 : decode cX3_signAbove 81 = .ok (.iload 5, 2) := by decide +kernel
theorem dX3_signAbove_83 : decode cX3_signAbove 83 = .ok (.iload 4, 2) := by decide +kernel
theorem dX3_signAbove_85 : decode cX3_signAbove 85 = .ok (.if_icmp .gt 80, 3) := by decide +kernel
theorem dX3_signAbove_88 : decode cX3_signAbove 88 = .ok (.iload 4, 2) := by decide +kernel
theorem dX3_signAbove_90 : decode cX3_signAbove 90 = .ok (.iconst 1, 1) := by decide +kernel
theorem dX3_signAbove_91 : decode cX3_signAbove 91 = .ok (.isub, 1) := by decide +kernel
theorem dX3_signAbove_92 : decode cX3_signAbove 92 = .ok (.istore 6, 2) := by decide +kernel
theorem dX3_signAbove_94 : decode cX3_signAbove 94 = .ok (.iload 6, 2) := by decide +kernel
theorem dX3_signAbove_96 : decode cX3_signAbove 96 = .ok (.iload 5, 2) := by decide +kernel
theorem dX3_signAbove_98 : decode cX3_signAbove 98 = .ok (.if_icmp .lt 31, 3) := by decide +kernel
theorem dX3_signAbove_101 : decode cX3_signAbove 101 = .ok (.aload_n 0, 1) := by decide +kernel
theorem dX3_signAbove_102 : decode cX3_signAbove 102 = .ok (.getfield 20, 3) := by decide +kernel
theorem dX3_signAbove_105 : decode cX3_signAbove 105 = .ok (.iload 6, 2) := by decide +kernel
theorem dX3_signAbove_107 : decode cX3_signAbove 107 = .ok (.dup2, 1) := by decide +kernel
theorem dX3_signAbove_108 : decode cX3_signAbove 108 = .ok (.laload, 1) := by decide +kernel
theorem dX3_signAbove_109 : decode cX3_signAbove 109 = .ok (.iload_n 2, 1) := by decide +kernel
theorem dX3_signAbove_110 : decode cX3_signAbove 110 = .ok (.i2l, 1) := by decide +kernel
theorem dX3_signAbove_111 : decode cX3_signAbove 111 = .ok (.aload_n 0, 1) := by decide +kernel
theorem dX3_signAbove_112 : decode cX3_signAbove 112 = .ok (.getfield 20, 3) := by decide +kernel
theorem dX3_signAbove_115 : decode cX3_signAbove 115 = .ok (.iload 6, 2) := by decide +kernel
theorem dX3_signAbove_117 : decode cX3_signAbove 117 = .ok (.iconst 1, 1) := by decide +kernel
theorem dX3_signAbove_118 : decode cX3_signAbove 118 = .ok (.iadd, 1) := by decide +kernel
theorem dX3_signAbove_119 : decode cX3_signAbove 119 = .ok (.laload, 1) := by decide +kernel
theorem dX3_signAbove_120 : decode cX3_signAbove 120 = .ok (.lmul, 1) := by decide +kernel
theorem dX3_signAbove_121 : decode cX3_signAbove 121 = .ok (.ladd, 1) := by decide +kernel
theorem dX3_signAbove_122 : decode cX3_signAbove 122 = .ok (.lastore, 1) := by decide +kernel
theorem dX3_signAbove_123 : decode cX3_signAbove 123 = .ok (.iinc 6 (-1), 3) := by decide +kernel
theorem dX3_signAbove_126 : decode cX3_signAbove 126 = .ok (.goto (-32), 3) := by decide +kernel
theorem dX3_signAbove_129 : decode cX3_signAbove 129 = .ok (.aload_n 0, 1) := by decide +kernel
theorem dX3_signAbove_130 : decode cX3_signAbove 130 = .ok (.getfield 20, 3) := by decide +kernel
theorem dX3_signAbove_133 : decode cX3_signAbove 133 = .ok (.iload 5, 2) := by decide +kernel
theorem dX3_signAbove_135 : decode cX3_signAbove 135 = .ok (.laload, 1) := by decide +kernel
theorem dX3_signAbove_136 : decode cX3_signAbove 136 = .ok (.lconst 0, 1) := by decide +kernel
theorem dX3_signAbove_137 : decode cX3_signAbove 137 = .ok (.lcmp, 1) := by decide +kernel
theorem dX3_signAbove_138 : decode cX3_signAbove 138 = .ok (.ifCond .eq 21, 3) := by decide +kernel
theorem dX3_signAbove_141 : decode cX3_signAbove 141 = .ok (.aload_n 0, 1) := by decide +kernel
theorem dX3_signAbove_142 : decode cX3_signAbove 142 = .ok (.getfield 20, 3) := by decide +kernel
theorem dX3_signAbove_145 : decode cX3_signAbove 145 = .ok (.iload 5, 2) := by decide +kernel
theorem dX3_signAbove_147 : decode cX3_signAbove 147 = .ok (.laload, 1) := by decide +kernel
theorem dX3_signAbove_148 : decode cX3_signAbove 148 = .ok (.lconst 0, 1) := by decide +kernel
theorem dX3_signAbove_149 : decode cX3_signAbove 149 = .ok (.lcmp, 1) := by decide +kernel
theorem dX3_signAbove_150 : decode cX3_signAbove 150 = .ok (.ifCond .le 7, 3) := by decide +kernel
theorem dX3_signAbove_153 : decode cX3_signAbove 153 = .ok (.iconst 1, 1) := by decide +kernel
theorem dX3_signAbove_154 : decode cX3_signAbove 154 = .ok (.goto 4, 3) := by decide +kernel
theorem dX3_signAbove_157 : decode cX3_signAbove 157 = .ok (.iconst (-1), 1) := by decide +kernel
theorem dX3_signAbove_158 : decode cX3_signAbove 158 = .ok (.ireturn, 1) := by decide +kernel
theorem dX3_signAbove_159 : decode cX3_signAbove 159 = .ok (.iinc 5 1, 3) := by decide +kernel
theorem dX3_signAbove_162 : decode cX3_signAbove 162 = .ok (.goto (-81), 3) := by decide +kernel
theorem dX3_signAbove_165 : decode cX3_signAbove 165 = .ok (.iconst 0, 1) := by decide +kernel
theorem dX3_signAbove_166 : decode cX3_signAbove 166 = .ok (.ireturn, 1) := by decide +kernel
theorem dX3_distinctBetween_0 : decode cX3_distinctBetween 0 = .ok (.aload_n 0, 1) := by decide +kernel
theorem dX3_distinctBetween_1 : decode cX3_distinctBetween 1 = .ok (.getfield 24, 3) := by decide +kernel
theorem dX3_distinctBetween_4 : decode cX3_distinctBetween 4 = .ok (.ifCond .ne 7, 3) := by decide +kernel
theorem dX3_distinctBetween_7 : decode cX3_distinctBetween 7 = .ok (.iconst (-1), 1) := by decide +kernel
theorem dX3_distinctBetween_8 : decode cX3_distinctBetween 8 = .ok (.goto 16, 3) := by decide +kernel
theorem dX3_distinctBetween_11 : decode cX3_distinctBetween 11 = .ok (.aload_n 0, 1) := by decide +kernel
theorem dX3_distinctBetween_12 : decode cX3_distinctBetween 12 = .ok (.iload_n 1, 1) := by decide +kernel
theorem dX3_distinctBetween_13 : decode cX3_distinctBetween 13 = .ok (.iconst 0, 1) := by decide +kernel
theorem dX3_distinctBetween_14 : decode cX3_distinctBetween 14 = .ok (.invokevirtual 80, 3) := by decide +kernel
theorem dX3_distinctBetween_17 : decode cX3_distinctBetween 17 = .ok (.aload_n 0, 1) := by decide +kernel
theorem dX3_distinctBetween_18 : decode cX3_distinctBetween 18 = .ok (.iload_n 2, 1) := by decide +kernel
theorem dX3_distinctBetween_19 : decode cX3_distinctBetween 19 = .ok (.iconst 0, 1) := by decide +kernel
theorem dX3_distinctBetween_20 : decode cX3_distinctBetween 20 = .ok (.invokevirtual 80, 3) := by decide +kernel
theorem dX3_distinctBetween_23 : decode cX3_distinctBetween 23 = .ok (.isub, 1) := by decide +kernel
theorem dX3_distinctBetween_24 : decode cX3_distinctBetween 24 = .ok (.ireturn, 1) := by decide +kernel
theorem dX3_allDistinct_0 : decode cX3_allDistinct 0 = .ok (.aload_n 0, 1) := by decide +kernel
theorem dX3_allDistinct_1 : decode cX3_allDistinct 1 = .ok (.getfield 24, 3) := by decide +kernel
theorem dX3_allDistinct_4 : decode cX3_allDistinct 4 = .ok (.ifCond .ne 7, 3) := by decide +kernel
theorem dX3_allDistinct_7 : decode cX3_allDistinct 7 = .ok (.iconst (-1), 1) := by decide +kernel
theorem dX3_allDistinct_8 : decode cX3_allDistinct 8 = .ok (.goto 18, 3) := by decide +kernel
theorem dX3_allDistinct_11 : decode cX3_allDistinct 11 = .ok (.aload_n 0, 1) := by decide +kernel
theorem dX3_allDistinct_12 : decode cX3_allDistinct 12 = .ok (.bipush (-31), 2) := by decide +kernel
theorem dX3_allDistinct_14 : decode cX3_allDistinct 14 = .ok (.iconst 0, 1) := by decide +kernel
theorem dX3_allDistinct_15 : decode cX3_allDistinct 15 = .ok (.invokevirtual 80, 3) := by decide +kernel
theorem dX3_allDistinct_18 : decode cX3_allDistinct 18 = .ok (.aload_n 0, 1) := by decide +kernel
theorem dX3_allDistinct_19 : decode cX3_allDistinct 19 = .ok (.bipush 31, 2) := by decide +kernel
theorem dX3_allDistinct_21 : decode cX3_allDistinct 21 = .ok (.iconst 0, 1) := by decide +kernel
theorem dX3_allDistinct_22 : decode cX3_allDistinct 22 = .ok (.invokevirtual 80, 3) := by decide +kernel
theorem dX3_allDistinct_25 : decode cX3_allDistinct 25 = .ok (.isub, 1) := by decide +kernel
theorem dX3_allDistinct_26 : decode cX3_allDistinct 26 = .ok (.ireturn, 1) := by decide +kernel
theorem dX3_countedBetween_0 : decode cX3_countedBetween 0 = .ok (.iconst 0, 1) := by decide +kernel
theorem dX3_countedBetween_1 : decode cX3_countedBetween 1 = .ok (.istore_n 3, 1) := by decide +kernel
theorem dX3_countedBetween_2 : decode cX3_countedBetween 2 = .ok (.iconst 0, 1) := by decide +kernel
theorem dX3_countedBetween_3 : decode cX3_countedBetween 3 = .ok (.istore 4, 2) := by decide +kernel
theorem dX3_countedBetween_5 : decode cX3_countedBetween 5 = .ok (.iload 4, 2) := by decide +kernel
theorem dX3_countedBetween_7 : decode cX3_countedBetween 7 = .ok (.iconst 5, 1) := by decide +kernel
theorem dX3_countedBetween_8 : decode cX3_countedBetween 8 = .ok (.if_icmp .ge 30, 3) := by decide +kernel
theorem dX3_countedBetween_11 : decode cX3_countedBetween 11 = .ok (.aload_n 0, 1) := by decide +kernel
theorem dX3_countedBetween_12 : decode cX3_countedBetween 12 = .ok (.getfield 24, 3) := by decide +kernel
theorem dX3_countedBetween_15 : decode cX3_countedBetween 15 = .ok (.iconst 1, 1) := by decide +kernel
theorem dX3_countedBetween_16 : decode cX3_countedBetween 16 = .ok (.if_icmp .le 22, 3) := by decide +kernel
theorem dX3_countedBetween_19 : decode cX3_countedBetween 19 = .ok (.iload_n 3, 1) := by decide +kernel
theorem dX3_countedBetween_20 : decode cX3_countedBetween 20 = .ok (.aload_n 0, 1) := by decide +kernel
theorem dX3_countedBetween_21 : decode cX3_countedBetween 21 = .ok (.iload_n 1, 1) := by decide +kernel
theorem dX3_countedBetween_22 : decode cX3_countedBetween 22 = .ok (.iload_n 2, 1) := by decide +kernel
theorem dX3_countedBetween_23 : decode cX3_countedBetween 23 = .ok (.invokevirtual 83, 3) := by decide +kernel
theorem dX3_countedBetween_26 : decode cX3_countedBetween 26 = .ok (.iadd, 1) := by decide +kernel
theorem dX3_countedBetween_27 : decode cX3_countedBetween 27 = .ok (.istore_n 3, 1) := by decide +kernel
theorem dX3_countedBetween_28 : decode cX3_countedBetween 28 = .ok (.aload_n 0, 1) := by decide +kernel
theorem dX3_countedBetween_29 : decode cX3_countedBetween 29 = .ok (.invokevirtual 86, 3) := by decide +kernel
theorem dX3_countedBetween_32 : decode cX3_countedBetween 32 = .ok (.iinc 4 1, 3) := by decide +kernel
theorem dX3_countedBetween_35 : decode cX3_countedBetween 35 = .ok (.goto (-30), 3) := by decide +kernel
theorem dX3_countedBetween_38 : decode cX3_countedBetween 38 = .ok (.iload_n 3, 1) := by decide +kernel
theorem dX3_countedBetween_39 : decode cX3_countedBetween 39 = .ok (.ireturn, 1) := by decide +kernel
theorem dX3_below_0 : decode cX3_below 0 = .ok (.bipush 31, 2) := by decide +kernel
theorem dX3_below_2 : decode cX3_below 2 = .ok (.iload_n 2, 1) := by decide +kernel
theorem dX3_below_3 : decode cX3_below 3 = .ok (.ishl, 1) := by decide +kernel
theorem dX3_below_4 : decode cX3_below 4 = .ok (.istore_n 3, 1) := by decide +kernel
theorem dX3_below_5 : decode cX3_below 5 = .ok (.aload_n 0, 1) := by decide +kernel
theorem dX3_below_6 : decode cX3_below 6 = .ok (.iload_n 3, 1) := by decide +kernel
theorem dX3_below_7 : decode cX3_below 7 = .ok (.ineg, 1) := by decide +kernel
theorem dX3_below_8 : decode cX3_below 8 = .ok (.iload_n 2, 1) := by decide +kernel
theorem dX3_below_9 : decode cX3_below 9 = .ok (.invokevirtual 80, 3) := by decide +kernel
theorem dX3_below_12 : decode cX3_below 12 = .ok (.istore 4, 2) := by decide +kernel
theorem dX3_below_14 : decode cX3_below 14 = .ok (.iload_n 3, 1) := by decide +kernel
theorem dX3_below_15 : decode cX3_below 15 = .ok (.ineg, 1) := by decide +kernel
theorem dX3_below_16 : decode cX3_below 16 = .ok (.istore 5, 2) := by decide +kernel
theorem dX3_below_18 : decode cX3_below 18 = .ok (.iload_n 3, 1) := by decide +kernel
theorem dX3_below_19 : decode cX3_below 19 = .ok (.istore 6, 2) := by decide +kernel
theorem dX3_below_21 : decode cX3_below 21 = .ok (.iconst 0, 1) := by decide +kernel
theorem dX3_below_22 : decode cX3_below 22 = .ok (.istore 7, 2) := by decide +kernel
theorem dX3_below_24 : decode cX3_below 24 = .ok (.iload 7, 2) := by decide +kernel
theorem dX3_below_26 : decode cX3_below 26 = .ok (.bipush 32, 2) := by decide +kernel
theorem dX3_below_28 : decode cX3_below 28 = .ok (.if_icmp .ge 55, 3) := by decide +kernel
theorem dX3_below_31 : decode cX3_below 31 = .ok (.iload 6, 2) := by decide +kernel
theorem dX3_below_33 : decode cX3_below 33 = .ok (.iload 5, 2) := by decide +kernel
theorem dX3_below_35 : decode cX3_below 35 = .ok (.isub, 1) := by decide +kernel
theorem dX3_below_36 : decode cX3_below 36 = .ok (.iconst 1, 1) := by decide +kernel
theorem dX3_below_37 : decode cX3_below 37 = .ok (.if_icmp .le 46, 3) := by decide +kernel
theorem dX3_below_40 : decode cX3_below 40 = .ok (.iload 5, 2) := by decide +kernel
theorem dX3_below_42 : decode cX3_below 42 = .ok (.iload 6, 2) := by decide +kernel
theorem dX3_below_44 : decode cX3_below 44 = .ok (.iload 5, 2) := by decide +kernel
theorem dX3_below_46 : decode cX3_below 46 = .ok (.isub, 1) := by decide +kernel
theorem dX3_below_47 : decode cX3_below 47 = .ok (.iconst 2, 1) := by decide +kernel
theorem dX3_below_48 : decode cX3_below 48 = .ok (.idiv, 1) := by decide +kernel
theorem dX3_below_49 : decode cX3_below 49 = .ok (.iadd, 1) := by decide +kernel
theorem dX3_below_50 : decode cX3_below 50 = .ok (.istore 8, 2) := by decide +kernel
theorem dX3_below_52 : decode cX3_below 52 = .ok (.iload 4, 2) := by decide +kernel
theorem dX3_below_54 : decode cX3_below 54 = .ok (.aload_n 0, 1) := by decide +kernel
theorem dX3_below_55 : decode cX3_below 55 = .ok (.iload 8, 2) := by decide +kernel
theorem dX3_below_57 : decode cX3_below 57 = .ok (.iload_n 2, 1) := by decide +kernel
theorem dX3_below_58 : decode cX3_below 58 = .ok (.invokevirtual 80, 3) := by decide +kernel
theorem dX3_below_61 : decode cX3_below 61 = .ok (.isub, 1) := by decide +kernel
theorem dX3_below_62 : decode cX3_below 62 = .ok (.iload_n 1, 1) := by decide +kernel
theorem dX3_below_63 : decode cX3_below 63 = .ok (.if_icmp .gt 10, 3) := by decide +kernel
theorem dX3_below_66 : decode cX3_below 66 = .ok (.iload 8, 2) := by decide +kernel
theorem dX3_below_68 : decode cX3_below 68 = .ok (.istore 5, 2) := by decide +kernel
theorem dX3_below_70 : decode cX3_below 70 = .ok (.goto 7, 3) := by decide +kernel
theorem dX3_below_73 : decode cX3_below 73 = .ok (.iload 8, 2) := by decide +kernel
theorem dX3_below_75 : decode cX3_below 75 = .ok (.istore 6, 2) := by decide +kernel
theorem dX3_below_77 : decode cX3_below 77 = .ok (.iinc 7 1, 3) := by decide +kernel
theorem dX3_below_80 : decode cX3_below 80 = .ok (.goto (-56), 3) := by decide +kernel
theorem dX3_below_83 : decode cX3_below 83 = .ok (.iload 5, 2) := by decide +kernel
theorem dX3_below_85 : decode cX3_below 85 = .ok (.ireturn, 1) := by decide +kernel
