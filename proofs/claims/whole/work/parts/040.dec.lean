theorem dX0_init_0 : decode cX0_init 0 = .ok (.aload_n 0, 1) := by decide +kernel
theorem dX0_init_1 : decode cX0_init 1 = .ok (.invokespecial 3, 3) := by decide +kernel
theorem dX0_init_4 : decode cX0_init 4 = .ok (.aload_n 0, 1) := by decide +kernel
theorem dX0_init_5 : decode cX0_init 5 = .ok (.bipush 8, 2) := by decide +kernel
theorem dX0_init_7 : decode cX0_init 7 = .ok (.newarray .boolean, 2) := by decide +kernel
theorem dX0_init_9 : decode cX0_init 9 = .ok (.putfield 9, 3) := by decide +kernel
theorem dX0_init_12 : decode cX0_init 12 = .ok (.aload_n 0, 1) := by decide +kernel
theorem dX0_init_13 : decode cX0_init 13 = .ok (.lconst 1, 1) := by decide +kernel
theorem dX0_init_14 : decode cX0_init 14 = .ok (.putfield 15, 3) := by decide +kernel
theorem dX0_init_17 : decode cX0_init 17 = .ok (.return_, 1) := by decide +kernel
theorem dX0_drawFrom_0 : decode cX0_drawFrom 0 = .ok (.aload_n 0, 1) := by decide +kernel
theorem dX0_drawFrom_1 : decode cX0_drawFrom 1 = .ok (.iconst 1, 1) := by decide +kernel
theorem dX0_drawFrom_2 : decode cX0_drawFrom 2 = .ok (.putfield 19, 3) := by decide +kernel
theorem dX0_drawFrom_5 : decode cX0_drawFrom 5 = .ok (.aload_n 0, 1) := by decide +kernel
theorem dX0_drawFrom_6 : decode cX0_drawFrom 6 = .ok (.iload_n 1, 1) := by decide +kernel
theorem dX0_drawFrom_7 : decode cX0_drawFrom 7 = .ok (.putfield 23, 3) := by decide +kernel
theorem dX0_drawFrom_10 : decode cX0_drawFrom 10 = .ok (.return_, 1) := by decide +kernel
theorem dX0_goAllWays_0 : decode cX0_goAllWays 0 = .ok (.aload_n 0, 1) := by decide +kernel
theorem dX0_goAllWays_1 : decode cX0_goAllWays 1 = .ok (.iconst 0, 1) := by decide +kernel
theorem dX0_goAllWays_2 : decode cX0_goAllWays 2 = .ok (.putfield 19, 3) := by decide +kernel
theorem dX0_goAllWays_5 : decode cX0_goAllWays 5 = .ok (.aload_n 0, 1) := by decide +kernel
theorem dX0_goAllWays_6 : decode cX0_goAllWays 6 = .ok (.iconst 0, 1) := by decide +kernel
theorem dX0_goAllWays_7 : decode cX0_goAllWays 7 = .ok (.putfield 27, 3) := by decide +kernel
theorem dX0_goAllWays_10 : decode cX0_goAllWays 10 = .ok (.return_, 1) := by decide +kernel
theorem dX0_begin_0 : decode cX0_begin 0 = .ok (.aload_n 0, 1) := by decide +kernel
theorem dX0_begin_1 : decode cX0_begin 1 = .ok (.iconst 0, 1) := by decide +kernel
theorem dX0_begin_2 : decode cX0_begin 2 = .ok (.putfield 30, 3) := by decide +kernel
theorem dX0_begin_5 : decode cX0_begin 5 = .ok (.aload_n 0, 1) := by decide +kernel
theorem dX0_begin_6 : decode cX0_begin 6 = .ok (.lconst 1, 1) := by decide +kernel
theorem dX0_begin_7 : decode cX0_begin 7 = .ok (.putfield 15, 3) := by decide +kernel
theorem dX0_begin_10 : decode cX0_begin 10 = .ok (.return_, 1) := by decide +kernel
theorem dX0_isStop_0 : decode cX0_isStop 0 = .ok (.aload_n 0, 1) := by decide +kernel
theorem dX0_isStop_1 : decode cX0_isStop 1 = .ok (.getfield 19, 3) := by decide +kernel
theorem dX0_isStop_4 : decode cX0_isStop 4 = .ok (.ifCond .eq 38, 3) := by decide +kernel
theorem dX0_isStop_7 : decode cX0_isStop 7 = .ok (.aload_n 0, 1) := by decide +kernel
theorem dX0_isStop_8 : decode cX0_isStop 8 = .ok (.ldc 33, 2) := by decide +kernel
theorem dX0_isStop_10 : decode cX0_isStop 10 = .ok (.aload_n 0, 1) := by decide +kernel
theorem dX0_isStop_11 : decode cX0_isStop 11 = .ok (.getfield 23, 3) := by decide +kernel
theorem dX0_isStop_14 : decode cX0_isStop 14 = .ok (.imul, 1) := by decide +kernel
theorem dX0_isStop_15 : decode cX0_isStop 15 = .ok (.sipush 12345, 3) := by decide +kernel
theorem dX0_isStop_18 : decode cX0_isStop 18 = .ok (.iadd, 1) := by decide +kernel
theorem dX0_isStop_19 : decode cX0_isStop 19 = .ok (.putfield 23, 3) := by decide +kernel
theorem dX0_isStop_22 : decode cX0_isStop 22 = .ok (.aload_n 0, 1) := by decide +kernel
theorem dX0_isStop_23 : decode cX0_isStop 23 = .ok (.getfield 23, 3) := by decide +kernel
theorem dX0_isStop_26 : decode cX0_isStop 26 = .ok (.bipush 16, 2) := by decide +kernel
theorem dX0_isStop_28 : decode cX0_isStop 28 = .ok (.iushr, 1) := by decide +kernel
theorem dX0_isStop_29 : decode cX0_isStop 29 = .ok (.bipush 100, 2) := by decide +kernel
theorem dX0_isStop_31 : decode cX0_isStop 31 = .ok (.irem, 1) := by decide +kernel
theorem dX0_isStop_32 : decode cX0_isStop 32 = .ok (.iload_n 1, 1) := by decide +kernel
theorem dX0_isStop_33 : decode cX0_isStop 33 = .ok (.if_icmp .ge 7, 3) := by decide +kernel
theorem dX0_isStop_36 : decode cX0_isStop 36 = .ok (.iconst 1, 1) := by decide +kernel
theorem dX0_isStop_37 : decode cX0_isStop 37 = .ok (.goto 4, 3) := by decide +kernel
theorem dX0_isStop_40 : decode cX0_isStop 40 = .ok (.iconst 0, 1) := by decide +kernel
theorem dX0_isStop_41 : decode cX0_isStop 41 = .ok (.ireturn, 1) := by decide +kernel
theorem dX0_isStop_42 : decode cX0_isStop 42 = .ok (.aload_n 0, 1) := by decide +kernel
theorem dX0_isStop_43 : decode cX0_isStop 43 = .ok (.getfield 30, 3) := by decide +kernel
theorem dX0_isStop_46 : decode cX0_isStop 46 = .ok (.bipush 8, 2) := by decide +kernel
theorem dX0_isStop_48 : decode cX0_isStop 48 = .ok (.if_icmp .lt 5, 3) := by decide +kernel
theorem dX0_isStop_51 : decode cX0_isStop 51 = .ok (.iconst 0, 1) := by decide +kernel
theorem dX0_isStop_52 : decode cX0_isStop 52 = .ok (.ireturn, 1) := by decide +kernel
theorem dX0_isStop_53 : decode cX0_isStop 53 = .ok (.aload_n 0, 1) := by decide +kernel
theorem dX0_isStop_54 : decode cX0_isStop 54 = .ok (.getfield 30, 3) := by decide +kernel
theorem dX0_isStop_57 : decode cX0_isStop 57 = .ok (.aload_n 0, 1) := by decide +kernel
theorem dX0_isStop_58 : decode cX0_isStop 58 = .ok (.getfield 27, 3) := by decide +kernel
theorem dX0_isStop_61 : decode cX0_isStop 61 = .ok (.if_icmp .ne 23, 3) := by decide +kernel
theorem dX0_isStop_64 : decode cX0_isStop 64 = .ok (.aload_n 0, 1) := by decide +kernel
theorem dX0_isStop_65 : decode cX0_isStop 65 = .ok (.getfield 9, 3) := by decide +kernel
theorem dX0_isStop_68 : decode cX0_isStop 68 = .ok (.aload_n 0, 1) := by decide +kernel
theorem dX0_isStop_69 : decode cX0_isStop 69 = .ok (.getfield 27, 3) := by decide +kernel
theorem dX0_isStop_72 : decode cX0_isStop 72 = .ok (.iconst 1, 1) := by decide +kernel
theorem dX0_isStop_73 : decode cX0_isStop 73 = .ok (.bastore, 1) := by decide +kernel
theorem dX0_isStop_74 : decode cX0_isStop 74 = .ok (.aload_n 0, 1) := by decide +kernel
theorem dX0_isStop_75 : decode cX0_isStop 75 = .ok (.dup, 1) := by decide +kernel
theorem dX0_isStop_76 : decode cX0_isStop 76 = .ok (.getfield 27, 3) := by decide +kernel
theorem dX0_isStop_79 : decode cX0_isStop 79 = .ok (.iconst 1, 1) := by decide +kernel
theorem dX0_isStop_80 : decode cX0_isStop 80 = .ok (.iadd, 1) := by decide +kernel
theorem dX0_isStop_81 : decode cX0_isStop 81 = .ok (.putfield 27, 3) := by decide +kernel
theorem dX0_isStop_84 : decode cX0_isStop 84 = .ok (.aload_n 0, 1) := by decide +kernel
theorem dX0_isStop_85 : decode cX0_isStop 85 = .ok (.getfield 9, 3) := by decide +kernel
theorem dX0_isStop_88 : decode cX0_isStop 88 = .ok (.aload_n 0, 1) := by decide +kernel
theorem dX0_isStop_89 : decode cX0_isStop 89 = .ok (.getfield 30, 3) := by decide +kernel
theorem dX0_isStop_92 : decode cX0_isStop 92 = .ok (.baload, 1) := by decide +kernel
theorem dX0_isStop_93 : decode cX0_isStop 93 = .ok (.istore_n 2, 1) := by decide +kernel
theorem dX0_isStop_94 : decode cX0_isStop 94 = .ok (.aload_n 0, 1) := by decide +kernel
theorem dX0_isStop_95 : decode cX0_isStop 95 = .ok (.dup, 1) := by decide +kernel
theorem dX0_isStop_96 : decode cX0_isStop 96 = .ok (.getfield 30, 3) := by decide +kernel
theorem dX0_isStop_99 : decode cX0_isStop 99 = .ok (.iconst 1, 1) := by decide +kernel
theorem dX0_isStop_100 : decode cX0_isStop 100 = .ok (.iadd, 1) := by decide +kernel
theorem dX0_isStop_101 : decode cX0_isStop 101 = .ok (.putfield 30, 3) := by decide +kernel
theorem dX0_isStop_104 : decode cX0_isStop 104 = .ok (.aload_n 0, 1) := by decide +kernel
theorem dX0_isStop_105 : decode cX0_isStop 105 = .ok (.dup, 1) := by decide +kernel
theorem dX0_isStop_106 : decode cX0_isStop 106 = .ok (.getfield 15, 3) := by decide +kernel
theorem dX0_isStop_109 : decode cX0_isStop 109 = .ok (.iload_n 2, 1) := by decide +kernel
theorem dX0_isStop_110 : decode cX0_isStop 110 = .ok (.ifCond .eq 8, 3) := by decide +kernel
theorem dX0_isStop_113 : decode cX0_isStop 113 = .ok (.iload_n 1, 1) := by decide +kernel
theorem dX0_isStop_114 : decode cX0_isStop 114 = .ok (.i2l, 1) := by decide +kernel
theorem dX0_isStop_115 : decode cX0_isStop 115 = .ok (.goto 8, 3) := by decide +kernel
theorem dX0_isStop_118 : decode cX0_isStop 118 = .ok (.bipush 100, 2) := by decide +kernel
theorem dX0_isStop_120 : decode cX0_isStop 120 = .ok (.iload_n 1, 1) := by decide +kernel
theorem dX0_isStop_121 : decode cX0_isStop 121 = .ok (.isub, 1) := by decide +kernel
theorem dX0_isStop_122 : decode cX0_isStop 122 = .ok (.i2l, 1) := by decide +kernel
theorem dX0_isStop_123 : decode cX0_isStop 123 = .ok (.lmul, 1) := by decide +kernel
theorem dX0_isStop_124 : decode cX0_isStop 124 = .ok (.putfield 15, 3) := by decide +kernel
theorem dX0_isStop_127 : decode cX0_isStop 127 = .ok (.iload_n 2, 1) := by decide +kernel
theorem dX0_isStop_128 : decode cX0_isStop 128 = .ok (.ireturn, 1) := by decide +kernel
theorem dX0_turn_0 : decode cX0_turn 0 = .ok (.aload_n 0, 1) := by decide +kernel
theorem dX0_turn_1 : decode cX0_turn 1 = .ok (.getfield 27, 3) := by decide +kernel
theorem dX0_turn_4 : decode cX0_turn 4 = .ok (.ifCond .le 30, 3) := by decide +kernel
theorem dX0_turn_7 : decode cX0_turn 7 = .ok (.aload_n 0, 1) := by decide +kernel
theorem dX0_turn_8 : decode cX0_turn 8 = .ok (.getfield 9, 3) := by decide +kernel
theorem dX0_turn_11 : decode cX0_turn 11 = .ok (.aload_n 0, 1) := by decide +kernel
theorem dX0_turn_12 : decode cX0_turn 12 = .ok (.getfield 27, 3) := by decide +kernel
theorem dX0_turn_15 : decode cX0_turn 15 = .ok (.iconst 1, 1) := by decide +kernel
theorem dX0_turn_16 : decode cX0_turn 16 = .ok (.isub, 1) := by decide +kernel
theorem dX0_turn_17 : decode cX0_turn 17 = .ok (.baload, 1) := by decide +kernel
theorem dX0_turn_18 : decode cX0_turn 18 = .ok (.ifCond .ne 16, 3) := by decide +kernel
theorem dX0_turn_21 : decode cX0_turn 21 = .ok (.aload_n 0, 1) := by decide +kernel
theorem dX0_turn_22 : decode cX0_turn 22 = .ok (.dup, 1) := by decide +kernel
theorem dX0_turn_23 : decode cX0_turn 23 = .ok (.getfield 27, 3) := by decide +kernel
theorem dX0_turn_26 : decode cX0_turn 26 = .ok (.iconst 1, 1) := by decide +kernel
theorem dX0_turn_27 : decode cX0_turn 27 = .ok (.isub, 1) := by decide +kernel
theorem dX0_turn_28 : decode cX0_turn 28 = .ok (.putfield 27, 3) := by decide +kernel
theorem dX0_turn_31 : decode cX0_turn 31 = .ok (.goto (-31), 3) := by decide +kernel
theorem dX0_turn_34 : decode cX0_turn 34 = .ok (.aload_n 0, 1) := by decide +kernel
theorem dX0_turn_35 : decode cX0_turn 35 = .ok (.getfield 27, 3) := by decide +kernel
theorem dX0_turn_38 : decode cX0_turn 38 = .ok (.ifCond .ne 5, 3) := by decide +kernel
theorem dX0_turn_41 : decode cX0_turn 41 = .ok (.iconst 0, 1) := by decide +kernel
theorem dX0_turn_42 : decode cX0_turn 42 = .ok (.ireturn, 1) := by decide +kernel
theorem dX0_turn_43 : decode cX0_turn 43 = .ok (.aload_n 0, 1) := by decide +kernel
theorem dX0_turn_44 : decode cX0_turn 44 = .ok (.getfield 9, 3) := by decide +kernel
theorem dX0_turn_47 : decode cX0_turn 47 = .ok (.aload_n 0, 1) := by decide +kernel
theorem dX0_turn_48 : decode cX0_turn 48 = .ok (.getfield 27, 3) := by decide +kernel
theorem dX0_turn_51 : decode cX0_turn 51 = .ok (.iconst 1, 1) := by decide +kernel
theorem dX0_turn_52 : decode cX0_turn 52 = .ok (.isub, 1) := by decide +kernel
theorem dX0_turn_53 : decode cX0_turn 53 = .ok (.iconst 0, 1) := by decide +kernel
theorem dX0_turn_54 : decode cX0_turn 54 = .ok (.bastore, 1) := by decide +kernel
theorem dX0_turn_55 : decode cX0_turn 55 = .ok (.iconst 1, 1) := by decide +kernel
theorem dX0_turn_56 : decode cX0_turn 56 = .ok (.ireturn, 1) := by decide +kernel
theorem dX1_init_0 : decode cX1_init 0 = .ok (.aload_n 0, 1) := by decide +kernel
theorem dX1_init_1 : decode cX1_init 1 = .ok (.invokespecial 3, 3) := by decide +kernel
theorem dX1_init_4 : decode cX1_init 4 = .ok (.aload_n 0, 1) := by decide +kernel
theorem dX1_init_5 : decode cX1_init 5 = .ok (.bipush 12, 2) := by decide +kernel
theorem dX1_init_7 : decode cX1_init 7 = .ok (.newarray .int, 2) := by decide +kernel
theorem dX1_init_9 : decode cX1_init 9 = .ok (.putfield 9, 3) := by decide +kernel
theorem dX1_init_12 : decode cX1_init 12 = .ok (.aload_n 0, 1) := by decide +kernel
theorem dX1_init_13 : decode cX1_init 13 = .ok (.bipush 12, 2) := by decide +kernel
theorem dX1_init_15 : decode cX1_init 15 = .ok (.newarray .int, 2) := by decide +kernel
theorem dX1_init_17 : decode cX1_init 17 = .ok (.putfield 15, 3) := by decide +kernel
theorem dX1_init_20 : decode cX1_init 20 = .ok (.aload_n 0, 1) := by decide +kernel
theorem dX1_init_21 : decode cX1_init 21 = .ok (.sipush 400, 3) := by decide +kernel
theorem dX1_init_24 : decode cX1_init 24 = .ok (.newarray .int, 2) := by decide +kernel
theorem dX1_init_26 : decode cX1_init 26 = .ok (.putfield 18, 3) := by decide +kernel
theorem dX1_init_29 : decode cX1_init 29 = .ok (.return_, 1) := by decide +kernel
theorem dX1_clear_0 : decode cX1_clear 0 = .ok (.aload_n 0, 1) := by decide +kernel
theorem dX1_clear_1 : decode cX1_clear 1 = .ok (.iconst 0, 1) := by decide +kernel
theorem dX1_clear_2 : decode cX1_clear 2 = .ok (.putfield 21, 3) := by decide +kernel
theorem dX1_clear_5 : decode cX1_clear 5 = .ok (.aload_n 0, 1) := by decide +kernel
theorem dX1_clear_6 : decode cX1_clear 6 = .ok (.iconst 0, 1) := by decide +kernel
theorem dX1_clear_7 : decode cX1_clear 7 = .ok (.putfield 25, 3) := by decide +kernel
theorem dX1_clear_10 : decode cX1_clear 10 = .ok (.return_, 1) := by decide +kernel
theorem dX1_take_0 : decode cX1_take 0 = .ok (.aload_n 0, 1) := by decide +kernel
theorem dX1_take_1 : decode cX1_take 1 = .ok (.aload_n 1, 1) := by decide +kernel
theorem dX1_take_2 : decode cX1_take 2 = .ok (.getfield 21, 3) := by decide +kernel
theorem dX1_take_5 : decode cX1_take 5 = .ok (.putfield 21, 3) := by decide +kernel
theorem dX1_take_8 : decode cX1_take 8 = .ok (.aload_n 1, 1) := by decide +kernel
theorem dX1_take_9 : decode cX1_take 9 = .ok (.getfield 9, 3) := by decide +kernel
theorem dX1_take_12 : decode cX1_take 12 = .ok (.iconst 0, 1) := by decide +kernel
theorem dX1_take_13 : decode cX1_take 13 = .ok (.aload_n 0, 1) := by decide +kernel
theorem dX1_take_14 : decode cX1_take 14 = .ok (.getfield 9, 3) := by decide +kernel
theorem dX1_take_17 : decode cX1_take 17 = .ok (.iconst 0, 1) := by decide +kernel
theorem dX1_take_18 : decode cX1_take 18 = .ok (.bipush 12, 2) := by decide +kernel
theorem dX1_take_20 : decode cX1_take 20 = .ok (.invokestatic 28, 3) := by decide +kernel
theorem dX1_take_23 : decode cX1_take 23 = .ok (.aload_n 1, 1) := by decide +kernel
theorem dX1_take_24 : decode cX1_take 24 = .ok (.getfield 15, 3) := by decide +kernel
theorem dX1_take_27 : decode cX1_take 27 = .ok (.iconst 0, 1) := by decide +kernel
theorem dX1_take_28 : decode cX1_take 28 = .ok (.aload_n 0, 1) := by decide +kernel
theorem dX1_take_29 : decode cX1_take 29 = .ok (.getfield 15, 3) := by decide +kernel
theorem dX1_take_32 : decode cX1_take 32 = .ok (.iconst 0, 1) := by decide +kernel
theorem dX1_take_33 : decode cX1_take 33 = .ok (.bipush 12, 2) := by decide +kernel
theorem dX1_take_35 : decode cX1_take 35 = .ok (.invokestatic 28, 3) := by decide +kernel
theorem dX1_take_38 : decode cX1_take 38 = .ok (.aload_n 1, 1) := by decide +kernel
theorem dX1_take_39 : decode cX1_take 39 = .ok (.getfield 18, 3) := by decide +kernel
theorem dX1_take_42 : decode cX1_take 42 = .ok (.iconst 0, 1) := by decide +kernel
theorem dX1_take_43 : decode cX1_take 43 = .ok (.aload_n 0, 1) := by decide +kernel
theorem dX1_take_44 : decode cX1_take 44 = .ok (.getfield 18, 3) := by decide +kernel
theorem dX1_take_47 : decode cX1_take 47 = .ok (.iconst 0, 1) := by decide +kernel
theorem dX1_take_48 : decode cX1_take 48 = .ok (.aload_n 1, 1) := by decide +kernel
theorem dX1_take_49 : decode cX1_take 49 = .ok (.getfield 25, 3) := by decide +kernel
theorem dX1_take_52 : decode cX1_take 52 = .ok (.invokestatic 28, 3) := by decide +kernel
theorem dX1_take_55 : decode cX1_take 55 = .ok (.aload_n 0, 1) := by decide +kernel
theorem dX1_take_56 : decode cX1_take 56 = .ok (.aload_n 1, 1) := by decide +kernel
theorem dX1_take_57 : decode cX1_take 57 = .ok (.getfield 25, 3) := by decide +kernel
theorem dX1_take_60 : decode cX1_take 60 = .ok (.putfield 25, 3) := by decide +kernel
theorem dX1_take_63 : decode cX1_take 63 = .ok (.return_, 1) := by decide +kernel
theorem dX1_addStep_0 : decode cX1_addStep 0 = .ok (.aload_n 0, 1) := by decide +kernel
theorem dX1_addStep_1 : decode cX1_addStep 1 = .ok (.getfield 25, 3) := by decide +kernel
theorem dX1_addStep_4 : decode cX1_addStep 4 = .ok (.sipush 400, 3) := by decide +kernel
theorem dX1_addStep_7 : decode cX1_addStep 7 = .ok (.if_icmp .ge 29, 3) := by decide +kernel
theorem dX1_addStep_10 : decode cX1_addStep 10 = .ok (.aload_n 0, 1) := by decide +kernel
theorem dX1_addStep_11 : decode cX1_addStep 11 = .ok (.getfield 18, 3) := by decide +kernel
theorem dX1_addStep_14 : decode cX1_addStep 14 = .ok (.aload_n 0, 1) := by decide +kernel
theorem dX1_addStep_15 : decode cX1_addStep 15 = .ok (.getfield 25, 3) := by decide +kernel
theorem dX1_addStep_18 : decode cX1_addStep 18 = .ok (.iload_n 1, 1) := by decide +kernel
theorem dX1_addStep_19 : decode cX1_addStep 19 = .ok (.sipush 1000, 3) := by decide +kernel
theorem dX1_addStep_22 : decode cX1_addStep 22 = .ok (.imul, 1) := by decide +kernel
theorem dX1_addStep_23 : decode cX1_addStep 23 = .ok (.iload_n 2, 1) := by decide +kernel
theorem dX1_addStep_24 : decode cX1_addStep 24 = .ok (.iadd, 1) := by decide +kernel
theorem dX1_addStep_25 : decode cX1_addStep 25 = .ok (.iastore, 1) := by decide +kernel
theorem dX1_addStep_26 : decode cX1_addStep 26 = .ok (.aload_n 0, 1) := by decide +kernel
theorem dX1_addStep_27 : decode cX1_addStep 27 = .ok (.dup, 1) := by decide +kernel
theorem dX1_addStep_28 : decode cX1_addStep 28 = .ok (.getfield 25, 3) := by decide +kernel
theorem dX1_addStep_31 : decode cX1_addStep 31 = .ok (.iconst 1, 1) := by decide +kernel
theorem dX1_addStep_32 : decode cX1_addStep 32 = .ok (.iadd, 1) := by decide +kernel
theorem dX1_addStep_33 : decode cX1_addStep 33 = .ok (.putfield 25, 3) := by decide +kernel
theorem dX1_addStep_36 : decode cX1_addStep 36 = .ok (.iconst 1, 1) := by decide +kernel
theorem dX1_addStep_37 : decode cX1_addStep 37 = .ok (.ireturn, 1) := by decide +kernel
theorem dX1_endLine_0 : decode cX1_endLine 0 = .ok (.aload_n 0, 1) := by decide +kernel
theorem dX1_endLine_1 : decode cX1_endLine 1 = .ok (.getfield 21, 3) := by decide +kernel
theorem dX1_endLine_4 : decode cX1_endLine 4 = .ok (.bipush 12, 2) := by decide +kernel
theorem dX1_endLine_6 : decode cX1_endLine 6 = .ok (.if_icmp .ge 36, 3) := by decide +kernel
theorem dX1_endLine_9 : decode cX1_endLine 9 = .ok (.aload_n 0, 1) := by decide +kernel
theorem dX1_endLine_10 : decode cX1_endLine 10 = .ok (.getfield 9, 3) := by decide +kernel
theorem dX1_endLine_13 : decode cX1_endLine 13 = .ok (.aload_n 0, 1) := by decide +kernel
theorem dX1_endLine_14 : decode cX1_endLine 14 = .ok (.getfield 21, 3) := by decide +kernel
theorem dX1_endLine_17 : decode cX1_endLine 17 = .ok (.iload_n 1, 1) := by decide +kernel
theorem dX1_endLine_18 : decode cX1_endLine 18 = .ok (.iastore, 1) := by decide +kernel
theorem dX1_endLine_19 : decode cX1_endLine 19 = .ok (.aload_n 0, 1) := by decide +kernel
theorem dX1_endLine_20 : decode cX1_endLine 20 = .ok (.getfield 15, 3) := by decide +kernel
theorem dX1_endLine_23 : decode cX1_endLine 23 = .ok (.aload_n 0, 1) := by decide +kernel
theorem dX1_endLine_24 : decode cX1_endLine 24 = .ok (.getfield 21, 3) := by decide +kernel
theorem dX1_endLine_27 : decode cX1_endLine 27 = .ok (.aload_n 0, 1) := by decide +kernel
theorem dX1_endLine_28 : decode cX1_endLine 28 = .ok (.getfield 25, 3) := by decide +kernel
theorem dX1_endLine_31 : decode cX1_endLine 31 = .ok (.iastore, 1) := by decide +kernel
theorem dX1_endLine_32 : decode cX1_endLine 32 = .ok (.aload_n 0, 1) := by decide +kernel
theorem dX1_endLine_33 : decode cX1_endLine 33 = .ok (.dup, 1) := by decide +kernel
theorem dX1_endLine_34 : decode cX1_endLine 34 = .ok (.getfield 21, 3) := by decide +kernel
theorem dX1_endLine_37 : decode cX1_endLine 37 = .ok (.iconst 1, 1) := by decide +kernel
theorem dX1_endLine_38 : decode cX1_endLine 38 = .ok (.iadd, 1) := by decide +kernel
theorem dX1_endLine_39 : decode cX1_endLine 39 = .ok (.putfield 21, 3) := by decide +kernel
theorem dX1_endLine_42 : decode cX1_endLine 42 = .ok (.return_, 1) := by decide +kernel
theorem dX1_traitsAsked_0 : decode cX1_traitsAsked 0 = .ok (.iconst 0, 1) := by decide +kernel
theorem dX1_traitsAsked_1 : decode cX1_traitsAsked 1 = .ok (.istore_n 1, 1) := by decide +kernel
theorem dX1_traitsAsked_2 : decode cX1_traitsAsked 2 = .ok (.iconst 0, 1) := by decide +kernel
theorem dX1_traitsAsked_3 : decode cX1_traitsAsked 3 = .ok (.istore_n 2, 1) := by decide +kernel
theorem dX1_traitsAsked_4 : decode cX1_traitsAsked 4 = .ok (.iload_n 2, 1) := by decide +kernel
theorem dX1_traitsAsked_5 : decode cX1_traitsAsked 5 = .ok (.aload_n 0, 1) := by decide +kernel
theorem dX1_traitsAsked_6 : decode cX1_traitsAsked 6 = .ok (.getfield 25, 3) := by decide +kernel
theorem dX1_traitsAsked_9 : decode cX1_traitsAsked 9 = .ok (.if_icmp .ge 36, 3) := by decide +kernel
theorem dX1_traitsAsked_12 : decode cX1_traitsAsked 12 = .ok (.aload_n 0, 1) := by decide +kernel
theorem dX1_traitsAsked_13 : decode cX1_traitsAsked 13 = .ok (.getfield 18, 3) := by decide +kernel
theorem dX1_traitsAsked_16 : decode cX1_traitsAsked 16 = .ok (.iload_n 2, 1) := by decide +kernel
theorem dX1_traitsAsked_17 : decode cX1_traitsAsked 17 = .ok (.iaload, 1) := by decide +kernel
theorem dX1_traitsAsked_18 : decode cX1_traitsAsked 18 = .ok (.sipush 1000, 3) := by decide +kernel
theorem dX1_traitsAsked_21 : decode cX1_traitsAsked 21 = .ok (.idiv, 1) := by decide +kernel
theorem dX1_traitsAsked_22 : decode cX1_traitsAsked 22 = .ok (.istore_n 3, 1) := by decide +kernel
theorem dX1_traitsAsked_23 : decode cX1_traitsAsked 23 = .ok (.iload_n 1, 1) := by decide +kernel
theorem dX1_traitsAsked_24 : decode cX1_traitsAsked 24 = .ok (.iload_n 3, 1) := by decide +kernel
theorem dX1_traitsAsked_25 : decode cX1_traitsAsked 25 = .ok (.bipush 7, 2) := by decide +kernel
theorem dX1_traitsAsked_27 : decode cX1_traitsAsked 27 = .ok (.if_icmp .gt 9, 3) := by decide +kernel
theorem dX1_traitsAsked_30 : decode cX1_traitsAsked 30 = .ok (.iconst 1, 1) := by decide +kernel
theorem dX1_traitsAsked_31 : decode cX1_traitsAsked 31 = .ok (.iload_n 3, 1) := by decide +kernel
theorem dX1_traitsAsked_32 : decode cX1_traitsAsked 32 = .ok (.ishl, 1) := by decide +kernel
theorem dX1_traitsAsked_33 : decode cX1_traitsAsked 33 = .ok (.goto 4, 3) := by decide +kernel
theorem dX1_traitsAsked_36 : decode cX1_traitsAsked 36 = .ok (.iconst 0, 1) := by decide +kernel
theorem dX1_traitsAsked_37 : decode cX1_traitsAsked 37 = .ok (.ior, 1) := by decide +kernel
theorem dX1_traitsAsked_38 : decode cX1_traitsAsked 38 = .ok (.istore_n 1, 1) := by decide +kernel
theorem dX1_traitsAsked_39 : decode cX1_traitsAsked 39 = .ok (.iinc 2 1, 3) := by decide +kernel
theorem dX1_traitsAsked_42 : decode cX1_traitsAsked 42 = .ok (.goto (-38), 3) := by decide +kernel
theorem dX1_traitsAsked_45 : decode cX1_traitsAsked 45 = .ok (.iload_n 1, 1) := by decide +kernel
theorem dX1_traitsAsked_46 : decode cX1_traitsAsked 46 = .ok (.ireturn, 1) := by decide +kernel
theorem dX2_init_0 : decode cX2_init 0 = .ok (.aload_n 0, 1) := by decide +kernel
theorem dX2_init_1 : decode cX2_init 1 = .ok (.invokespecial 3, 3) := by decide +kernel
theorem dX2_init_4 : decode cX2_init 4 = .ok (.aload_n 0, 1) := by decide +kernel
theorem dX2_init_5 : decode cX2_init 5 = .ok (.bipush 12, 2) := by decide +kernel
theorem dX2_init_7 : decode cX2_init 7 = .ok (.newarray .int, 2) := by decide +kernel
theorem dX2_init_9 : decode cX2_init 9 = .ok (.putfield 9, 3) := by decide +kernel
theorem dX2_init_12 : decode cX2_init 12 = .ok (.aload_n 0, 1) := by decide +kernel
theorem dX2_init_13 : decode cX2_init 13 = .ok (.bipush 12, 2) := by decide +kernel
theorem dX2_init_15 : decode cX2_init 15 = .ok (.newarray .int, 2) := by decide +kernel
theorem dX2_init_17 : decode cX2_init 17 = .ok (.putfield 15, 3) := by decide +kernel
theorem dX2_init_20 : decode cX2_init 20 = .ok (.aload_n 0, 1) := by decide +kernel
theorem dX2_init_21 : decode cX2_init 21 = .ok (.bipush 12, 2) := by decide +kernel
theorem dX2_init_23 : decode cX2_init 23 = .ok (.newarray .int, 2) := by decide +kernel
theorem dX2_init_25 : decode cX2_init 25 = .ok (.putfield 18, 3) := by decide +kernel
theorem dX2_init_28 : decode cX2_init 28 = .ok (.aload_n 0, 1) := by decide +kernel
theorem dX2_init_29 : decode cX2_init 29 = .ok (.bipush 12, 2) := by decide +kernel
theorem dX2_init_31 : decode cX2_init 31 = .ok (.newarray .int, 2) := by decide +kernel
theorem dX2_init_33 : decode cX2_init 33 = .ok (.putfield 21, 3) := by decide +kernel
theorem dX2_init_36 : decode cX2_init 36 = .ok (.aload_n 0, 1) := by decide +kernel
theorem dX2_init_37 : decode cX2_init 37 = .ok (.bipush 12, 2) := by decide +kernel
theorem dX2_init_39 : decode cX2_init 39 = .ok (.newarray .int, 2) := by decide +kernel
theorem dX2_init_41 : decode cX2_init 41 = .ok (.putfield 24, 3) := by decide +kernel
theorem dX2_init_44 : decode cX2_init 44 = .ok (.aload_n 0, 1) := by decide +kernel
theorem dX2_init_45 : decode cX2_init 45 = .ok (.bipush 12, 2) := by decide +kernel
theorem dX2_init_47 : decode cX2_init 47 = .ok (.newarray .int, 2) := by decide +kernel
theorem dX2_init_49 : decode cX2_init 49 = .ok (.putfield 27, 3) := by decide +kernel
theorem dX2_init_52 : decode cX2_init 52 = .ok (.aload_n 0, 1) := by decide +kernel
theorem dX2_init_53 : decode cX2_init 53 = .ok (.iconst 4, 1) := by decide +kernel
theorem dX2_init_54 : decode cX2_init 54 = .ok (.newarray .int, 2) := by decide +kernel
theorem dX2_init_56 : decode cX2_init 56 = .ok (.dup, 1) := by decide +kernel
theorem dX2_init_57 : decode cX2_init 57 = .ok (.iconst 0, 1) := by decide +kernel
theorem dX2_init_58 : decode cX2_init 58 = .ok (.iconst 1, 1) := by decide +kernel
theorem dX2_init_59 : decode cX2_init 59 = .ok (.iastore, 1) := by decide +kernel
theorem dX2_init_60 : decode cX2_init 60 = .ok (.dup, 1) := by decide +kernel
theorem dX2_init_61 : decode cX2_init 61 = .ok (.iconst 1, 1) := by decide +kernel
theorem dX2_init_62 : decode cX2_init 62 = .ok (.iconst 1, 1) := by decide +kernel
theorem dX2_init_63 : decode cX2_init 63 = .ok (.iastore, 1) := by decide +kernel
theorem dX2_init_64 : decode cX2_init 64 = .ok (.dup, 1) := by decide +kernel
theorem dX2_init_65 : decode cX2_init 65 = .ok (.iconst 2, 1) := by decide +kernel
theorem dX2_init_66 : decode cX2_init 66 = .ok (.iconst 1, 1) := by decide +kernel
theorem dX2_init_67 : decode cX2_init 67 = .ok (.iastore, 1) := by decide +kernel
theorem dX2_init_68 : decode cX2_init 68 = .ok (.dup, 1) := by decide +kernel
theorem dX2_init_69 : decode cX2_init 69 = .ok (.iconst 3, 1) := by decide +kernel
theorem dX2_init_70 : decode cX2_init 70 = .ok (.iconst 1, 1) := by decide +kernel
theorem dX2_init_71 : decode cX2_init 71 = .ok (.iastore, 1) := by decide +kernel
theorem dX2_init_72 : decode cX2_init 72 = .ok (.putfield 30, 3) := by decide +kernel
theorem dX2_init_75 : decode cX2_init 75 = .ok (.aload_n 0, 1) := by decide +kernel
theorem dX2_init_76 : decode cX2_init 76 = .ok (.iconst 4, 1) := by decide +kernel
theorem dX2_init_77 : decode cX2_init 77 = .ok (.newarray .int, 2) := by decide +kernel
theorem dX2_init_79 : decode cX2_init 79 = .ok (.dup, 1) := by decide +kernel
theorem dX2_init_80 : decode cX2_init 80 = .ok (.iconst 0, 1) := by decide +kernel
theorem dX2_init_81 : decode cX2_init 81 = .ok (.bipush 100, 2) := by decide +kernel
theorem dX2_init_83 : decode cX2_init 83 = .ok (.iastore, 1) := by decide +kernel
theorem dX2_init_84 : decode cX2_init 84 = .ok (.dup, 1) := by decide +kernel
theorem dX2_init_85 : decode cX2_init 85 = .ok (.iconst 1, 1) := by decide +kernel
theorem dX2_init_86 : decode cX2_init 86 = .ok (.bipush 100, 2) := by decide +kernel
theorem dX2_init_88 : decode cX2_init 88 = .ok (.iastore, 1) := by decide +kernel
theorem dX2_init_89 : decode cX2_init 89 = .ok (.dup, 1) := by decide +kernel
theorem dX2_init_90 : decode cX2_init 90 = .ok (.iconst 2, 1) := by decide +kernel
theorem dX2_init_91 : decode cX2_init 91 = .ok (.bipush 100, 2) := by decide +kernel
theorem dX2_init_93 : decode cX2_init 93 = .ok (.iastore, 1) := by decide +kernel
theorem dX2_init_94 : decode cX2_init 94 = .ok (.dup, 1) := by decide +kernel
theorem dX2_init_95 : decode cX2_init 95 = .ok (.iconst 3, 1) := by decide +kernel
theorem dX2_init_96 : decode cX2_init 96 = .ok (.bipush 100, 2) := by decide +kernel
theorem dX2_init_98 : decode cX2_init 98 = .ok (.iastore, 1) := by decide +kernel
theorem dX2_init_99 : decode cX2_init 99 = .ok (.putfield 33, 3) := by decide +kernel
theorem dX2_init_102 : decode cX2_init 102 = .ok (.return_, 1) := by decide +kernel
theorem dX2_take_0 : decode cX2_take 0 = .ok (.aload_n 0, 1) := by decide +kernel
theorem dX2_take_1 : decode cX2_take 1 = .ok (.aload_n 1, 1) := by decide +kernel
theorem dX2_take_2 : decode cX2_take 2 = .ok (.getfield 36, 3) := by decide +kernel
theorem dX2_take_5 : decode cX2_take 5 = .ok (.putfield 36, 3) := by decide +kernel
theorem dX2_take_8 : decode cX2_take 8 = .ok (.aload_n 1, 1) := by decide +kernel
theorem dX2_take_9 : decode cX2_take 9 = .ok (.getfield 9, 3) := by decide +kernel
theorem dX2_take_12 : decode cX2_take 12 = .ok (.iconst 0, 1) := by decide +kernel
theorem dX2_take_13 : decode cX2_take 13 = .ok (.aload_n 0, 1) := by decide +kernel
theorem dX2_take_14 : decode cX2_take 14 = .ok (.getfield 9, 3) := by decide +kernel
theorem dX2_take_17 : decode cX2_take 17 = .ok (.iconst 0, 1) := by decide +kernel
theorem dX2_take_18 : decode cX2_take 18 = .ok (.bipush 12, 2) := by decide +kernel
theorem dX2_take_20 : decode cX2_take 20 = .ok (.invokestatic 40, 3) := by decide +kernel
theorem dX2_take_23 : decode cX2_take 23 = .ok (.aload_n 1, 1) := by decide +kernel
theorem dX2_take_24 : decode cX2_take 24 = .ok (.getfield 15, 3) := by decide +kernel
theorem dX2_take_27 : decode cX2_take 27 = .ok (.iconst 0, 1) := by decide +kernel
theorem dX2_take_28 : decode cX2_take 28 = .ok (.aload_n 0, 1) := by decide +kernel
theorem dX2_take_29 : decode cX2_take 29 = .ok (.getfield 15, 3) := by decide +kernel
theorem dX2_take_32 : decode cX2_take 32 = .ok (.iconst 0, 1) := by decide +kernel
theorem dX2_take_33 : decode cX2_take 33 = .ok (.bipush 12, 2) := by decide +kernel
theorem dX2_take_35 : decode cX2_take 35 = .ok (.invokestatic 40, 3) := by decide +kernel
theorem dX2_take_38 : decode cX2_take 38 = .ok (.aload_n 1, 1) := by decide +kernel
theorem dX2_take_39 : decode cX2_take 39 = .ok (.getfield 18, 3) := by decide +kernel
theorem dX2_take_42 : decode cX2_take 42 = .ok (.iconst 0, 1) := by decide +kernel
theorem dX2_take_43 : decode cX2_take 43 = .ok (.aload_n 0, 1) := by decide +kernel
theorem dX2_take_44 : decode cX2_take 44 = .ok (.getfield 18, 3) := by decide +kernel
theorem dX2_take_47 : decode cX2_take 47 = .ok (.iconst 0, 1) := by decide +kernel
theorem dX2_take_48 : decode cX2_take 48 = .ok (.bipush 12, 2) := by decide +kernel
theorem dX2_take_50 : decode cX2_take 50 = .ok (.invokestatic 40, 3) := by decide +kernel
theorem dX2_take_53 : decode cX2_take 53 = .ok (.aload_n 1, 1) := by decide +kernel
theorem dX2_take_54 : decode cX2_take 54 = .ok (.getfield 21, 3) := by decide +kernel
theorem dX2_take_57 : decode cX2_take 57 = .ok (.iconst 0, 1) := by decide +kernel
theorem dX2_take_58 : decode cX2_take 58 = .ok (.aload_n 0, 1) := by decide +kernel
theorem dX2_take_59 : decode cX2_take 59 = .ok (.getfield 21, 3) := by decide +kernel
theorem dX2_take_62 : decode cX2_take 62 = .ok (.iconst 0, 1) := by decide +kernel
theorem dX2_take_63 : decode cX2_take 63 = .ok (.bipush 12, 2) := by decide +kernel
theorem dX2_take_65 : decode cX2_take 65 = .ok (.invokestatic 40, 3) := by decide +kernel
theorem dX2_take_68 : decode cX2_take 68 = .ok (.aload_n 1, 1) := by decide +kernel
theorem dX2_take_69 : decode cX2_take 69 = .ok (.getfield 24, 3) := by decide +kernel
theorem dX2_take_72 : decode cX2_take 72 = .ok (.iconst 0, 1) := by decide +kernel
theorem dX2_take_73 : decode cX2_take 73 = .ok (.aload_n 0, 1) := by decide +kernel
theorem dX2_take_74 : decode cX2_take 74 = .ok (.getfield 24, 3) := by decide +kernel
theorem dX2_take_77 : decode cX2_take 77 = .ok (.iconst 0, 1) := by decide +kernel
theorem dX2_take_78 : decode cX2_take 78 = .ok (.bipush 12, 2) := by decide +kernel
theorem dX2_take_80 : decode cX2_take 80 = .ok (.invokestatic 40, 3) := by decide +kernel
theorem dX2_take_83 : decode cX2_take 83 = .ok (.aload_n 1, 1) := by decide +kernel
theorem dX2_take_84 : decode cX2_take 84 = .ok (.getfield 27, 3) := by decide +kernel
theorem dX2_take_87 : decode cX2_take 87 = .ok (.iconst 0, 1) := by decide +kernel
theorem dX2_take_88 : decode cX2_take 88 = .ok (.aload_n 0, 1) := by decide +kernel
theorem dX2_take_89 : decode cX2_take 89 = .ok (.getfield 27, 3) := by decide +kernel
theorem dX2_take_92 : decode cX2_take 92 = .ok (.iconst 0, 1) := by decide +kernel
theorem dX2_take_93 : decode cX2_take 93 = .ok (.bipush 12, 2) := by decide +kernel
theorem dX2_take_95 : decode cX2_take 95 = .ok (.invokestatic 40, 3) := by decide +kernel
theorem dX2_take_98 : decode cX2_take 98 = .ok (.aload_n 1, 1) := by decide +kernel
theorem dX2_take_99 : decode cX2_take 99 = .ok (.getfield 30, 3) := by decide +kernel
theorem dX2_take_102 : decode cX2_take 102 = .ok (.iconst 0, 1) := by decide +kernel
theorem dX2_take_103 : decode cX2_take 103 = .ok (.aload_n 0, 1) := by decide +kernel
theorem dX2_take_104 : decode cX2_take 104 = .ok (.getfield 30, 3) := by decide +kernel
theorem dX2_take_107 : decode cX2_take 107 = .ok (.iconst 0, 1) := by decide +kernel
theorem dX2_take_108 : decode cX2_take 108 = .ok (.iconst 4, 1) := by decide +kernel
theorem dX2_take_109 : decode cX2_take 109 = .ok (.invokestatic 40, 3) := by decide +kernel
theorem dX2_take_112 : decode cX2_take 112 = .ok (.aload_n 1, 1) := by decide +kernel
theorem dX2_take_113 : decode cX2_take 113 = .ok (.getfield 33, 3) := by decide +kernel
theorem dX2_take_116 : decode cX2_take 116 = .ok (.iconst 0, 1) := by decide +kernel
theorem dX2_take_117 : decode cX2_take 117 = .ok (.aload_n 0, 1) := by decide +kernel
theorem dX2_take_118 : decode cX2_take 118 = .ok (.getfield 33, 3) := by decide +kernel
theorem dX2_take_121 : decode cX2_take 121 = .ok (.iconst 0, 1) := by decide +kernel
theorem dX2_take_122 : decode cX2_take 122 = .ok (.iconst 4, 1) := by decide +kernel
theorem dX2_take_123 : decode cX2_take 123 = .ok (.invokestatic 40, 3) := by decide +kernel
theorem dX2_take_126 : decode cX2_take 126 = .ok (.return_, 1) := by decide +kernel
theorem dX2_hurtAt_0 : decode cX2_hurtAt 0 = .ok (.aload_n 0, 1) := by decide +kernel
theorem dX2_hurtAt_1 : decode cX2_hurtAt 1 = .ok (.getfield 21, 3) := by decide +kernel
theorem dX2_hurtAt_4 : decode cX2_hurtAt 4 = .ok (.iload_n 1, 1) := by decide +kernel
theorem dX2_hurtAt_5 : decode cX2_hurtAt 5 = .ok (.iaload, 1) := by decide +kernel
theorem dX2_hurtAt_6 : decode cX2_hurtAt 6 = .ok (.aload_n 0, 1) := by decide +kernel
theorem dX2_hurtAt_7 : decode cX2_hurtAt 7 = .ok (.getfield 24, 3) := by decide +kernel
theorem dX2_hurtAt_10 : decode cX2_hurtAt 10 = .ok (.iload_n 1, 1) := by decide +kernel
theorem dX2_hurtAt_11 : decode cX2_hurtAt 11 = .ok (.iaload, 1) := by decide +kernel
theorem dX2_hurtAt_12 : decode cX2_hurtAt 12 = .ok (.iadd, 1) := by decide +kernel
theorem dX2_hurtAt_13 : decode cX2_hurtAt 13 = .ok (.ireturn, 1) := by decide +kernel
theorem dX2_sumOf_0 : decode cX2_sumOf 0 = .ok (.iconst 0, 1) := by decide +kernel
theorem dX2_sumOf_1 : decode cX2_sumOf 1 = .ok (.istore_n 3, 1) := by decide +kernel
theorem dX2_sumOf_2 : decode cX2_sumOf 2 = .ok (.iconst 0, 1) := by decide +kernel
theorem dX2_sumOf_3 : decode cX2_sumOf 3 = .ok (.istore 4, 2) := by decide +kernel
theorem dX2_sumOf_5 : decode cX2_sumOf 5 = .ok (.iload 4, 2) := by decide +kernel
theorem dX2_sumOf_7 : decode cX2_sumOf 7 = .ok (.aload_n 0, 1) := by decide +kernel
theorem dX2_sumOf_8 : decode cX2_sumOf 8 = .ok (.getfield 36, 3) := by decide +kernel
theorem dX2_sumOf_11 : decode cX2_sumOf 11 = .ok (.if_icmp .ge 39, 3) := by decide +kernel
theorem dX2_sumOf_14 : decode cX2_sumOf 14 = .ok (.iload_n 3, 1) := by decide +kernel
theorem dX2_sumOf_15 : decode cX2_sumOf 15 = .ok (.aload_n 0, 1) := by decide +kernel
theorem dX2_sumOf_16 : decode cX2_sumOf 16 = .ok (.getfield 9, 3) := by decide +kernel
theorem dX2_sumOf_19 : decode cX2_sumOf 19 = .ok (.iload 4, 2) := by decide +kernel
theorem dX2_sumOf_21 : decode cX2_sumOf 21 = .ok (.iaload, 1) := by decide +kernel
theorem dX2_sumOf_22 : decode cX2_sumOf 22 = .ok (.ifCond .eq 7, 3) := by decide +kernel
theorem dX2_sumOf_25 : decode cX2_sumOf 25 = .ok (.iconst 1, 1) := by decide +kernel
theorem dX2_sumOf_26 : decode cX2_sumOf 26 = .ok (.goto 4, 3) := by decide +kernel
theorem dX2_sumOf_29 : decode cX2_sumOf 29 = .ok (.iconst 0, 1) := by decide +kernel
theorem dX2_sumOf_30 : decode cX2_sumOf 30 = .ok (.iload_n 2, 1) := by decide +kernel
theorem dX2_sumOf_31 : decode cX2_sumOf 31 = .ok (.if_icmp .ne 10, 3) := by decide +kernel
theorem dX2_sumOf_34 : decode cX2_sumOf 34 = .ok (.aload_n 1, 1) := by decide +kernel
theorem dX2_sumOf_35 : decode cX2_sumOf 35 = .ok (.iload 4, 2) := by decide +kernel
theorem dX2_sumOf_37 : decode cX2_sumOf 37 = .ok (.iaload, 1) := by decide +kernel
theorem dX2_sumOf_38 : decode cX2_sumOf 38 = .ok (.goto 4, 3) := by decide +kernel
theorem dX2_sumOf_41 : decode cX2_sumOf 41 = .ok (.iconst 0, 1) := by decide +kernel
theorem dX2_sumOf_42 : decode cX2_sumOf 42 = .ok (.iadd, 1) := by decide +kernel
theorem dX2_sumOf_43 : decode cX2_sumOf 43 = .ok (.istore_n 3, 1) := by decide +kernel
theorem dX2_sumOf_44 : decode cX2_sumOf 44 = .ok (.iinc 4 1, 3) := by decide +kernel
theorem dX2_sumOf_47 : decode cX2_sumOf 47 = .ok (.goto (-42), 3) := by decide +kernel
theorem dX2_sumOf_50 : decode cX2_sumOf 50 = .ok (.iload_n 3, 1) := by decide +kernel
theorem dX2_sumOf_51 : decode cX2_sumOf 51 = .ok (.ireturn, 1) := by decide +kernel
theorem dX2_partedAbove_0 : decode cX2_partedAbove 0 = .ok (.aload_n 0, 1) := by decide +kernel
theorem dX2_partedAbove_1 : decode cX2_partedAbove 1 = .ok (.aload_n 0, 1) := by decide +kernel
theorem dX2_partedAbove_2 : decode cX2_partedAbove 2 = .ok (.getfield 15, 3) := by decide +kernel
theorem dX2_partedAbove_5 : decode cX2_partedAbove 5 = .ok (.iconst 1, 1) := by decide +kernel
theorem dX2_partedAbove_6 : decode cX2_partedAbove 6 = .ok (.invokevirtual 46, 3) := by decide +kernel
theorem dX2_partedAbove_9 : decode cX2_partedAbove 9 = .ok (.aload_n 0, 1) := by decide +kernel
theorem dX2_partedAbove_10 : decode cX2_partedAbove 10 = .ok (.aload_n 0, 1) := by decide +kernel
theorem dX2_partedAbove_11 : decode cX2_partedAbove 11 = .ok (.getfield 15, 3) := by decide +kernel
theorem dX2_partedAbove_14 : decode cX2_partedAbove 14 = .ok (.iconst 0, 1) := by decide +kernel
theorem dX2_partedAbove_15 : decode cX2_partedAbove 15 = .ok (.invokevirtual 46, 3) := by decide +kernel
theorem dX2_partedAbove_18 : decode cX2_partedAbove 18 = .ok (.iadd, 1) := by decide +kernel
theorem dX2_partedAbove_19 : decode cX2_partedAbove 19 = .ok (.i2l, 1) := by decide +kernel
theorem dX2_partedAbove_20 : decode cX2_partedAbove 20 = .ok (.lstore_n 2, 1) := by decide +kernel
theorem dX2_partedAbove_21 : decode cX2_partedAbove 21 = .ok (.aload_n 0, 1) := by decide +kernel
theorem dX2_partedAbove_22 : decode cX2_partedAbove 22 = .ok (.aload_n 0, 1) := by decide +kernel
theorem dX2_partedAbove_23 : decode cX2_partedAbove 23 = .ok (.getfield 18, 3) := by decide +kernel
theorem dX2_partedAbove_26 : decode cX2_partedAbove 26 = .ok (.iconst 1, 1) := by decide +kernel
theorem dX2_partedAbove_27 : decode cX2_partedAbove 27 = .ok (.invokevirtual 46, 3) := by decide +kernel
theorem dX2_partedAbove_30 : decode cX2_partedAbove 30 = .ok (.aload_n 0, 1) := by decide +kernel
theorem dX2_partedAbove_31 : decode cX2_partedAbove 31 = .ok (.aload_n 0, 1) := by decide +kernel
theorem dX2_partedAbove_32 : decode cX2_partedAbove 32 = .ok (.getfield 18, 3) := by decide +kernel
theorem dX2_partedAbove_35 : decode cX2_partedAbove 35 = .ok (.iconst 0, 1) := by decide +kernel
theorem dX2_partedAbove_36 : decode cX2_partedAbove 36 = .ok (.invokevirtual 46, 3) := by decide +kernel
theorem dX2_partedAbove_39 : decode cX2_partedAbove 39 = .ok (.iadd, 1) := by decide +kernel
theorem dX2_partedAbove_40 : decode cX2_partedAbove 40 = .ok (.i2l, 1) := by decide +kernel
theorem dX2_partedAbove_41 : decode cX2_partedAbove 41 = .ok (.lstore 4, 2) := by decide +kernel
theorem dX2_partedAbove_43 : decode cX2_partedAbove 43 = .ok (.aload_n 0, 1) := by decide +kernel
theorem dX2_partedAbove_44 : decode cX2_partedAbove 44 = .ok (.aload_n 0, 1) := by decide +kernel
theorem dX2_partedAbove_45 : decode cX2_partedAbove 45 = .ok (.getfield 21, 3) := by decide +kernel
theorem dX2_partedAbove_48 : decode cX2_partedAbove 48 = .ok (.iload_n 1, 1) := by decide +kernel
theorem dX2_partedAbove_49 : decode cX2_partedAbove 49 = .ok (.invokevirtual 46, 3) := by decide +kernel
theorem dX2_partedAbove_52 : decode cX2_partedAbove 52 = .ok (.i2l, 1) := by decide +kernel
theorem dX2_partedAbove_53 : decode cX2_partedAbove 53 = .ok (.lload_n 2, 1) := by decide +kernel
theorem dX2_partedAbove_54 : decode cX2_partedAbove 54 = .ok (.lmul, 1) := by decide +kernel
theorem dX2_partedAbove_55 : decode cX2_partedAbove 55 = .ok (.aload_n 0, 1) := by decide +kernel
theorem dX2_partedAbove_56 : decode cX2_partedAbove 56 = .ok (.aload_n 0, 1) := by decide +kernel
theorem dX2_partedAbove_57 : decode cX2_partedAbove 57 = .ok (.getfield 18, 3) := by decide +kernel
theorem dX2_partedAbove_60 : decode cX2_partedAbove 60 = .ok (.iload_n 1, 1) := by decide +kernel
theorem dX2_partedAbove_61 : decode cX2_partedAbove 61 = .ok (.invokevirtual 46, 3) := by decide +kernel
theorem dX2_partedAbove_64 : decode cX2_partedAbove 64 = .ok (.iconst 1, 1) := by decide +kernel
theorem dX2_partedAbove_65 : decode cX2_partedAbove 65 = .ok (.invokestatic 50, 3) := by decide +kernel
theorem dX2_partedAbove_68 : decode cX2_partedAbove 68 = .ok (.i2l, 1) := by decide +kernel
theorem dX2_partedAbove_69 : decode cX2_partedAbove 69 = .ok (.lmul, 1) := by decide +kernel
theorem dX2_partedAbove_70 : decode cX2_partedAbove 70 = .ok (.aload_n 0, 1) := by decide +kernel
theorem dX2_partedAbove_71 : decode cX2_partedAbove 71 = .ok (.aload_n 0, 1) := by decide +kernel
theorem dX2_partedAbove_72 : decode cX2_partedAbove 72 = .ok (.getfield 24, 3) := by decide +kernel
theorem dX2_partedAbove_75 : decode cX2_partedAbove 75 = .ok (.iload_n 1, 1) := by decide +kernel
theorem dX2_partedAbove_76 : decode cX2_partedAbove 76 = .ok (.invokevirtual 46, 3) := by decide +kernel
theorem dX2_partedAbove_79 : decode cX2_partedAbove 79 = .ok (.i2l, 1) := by decide +kernel
theorem dX2_partedAbove_80 : decode cX2_partedAbove 80 = .ok (.lload 4, 2) := by decide +kernel
theorem dX2_partedAbove_82 : decode cX2_partedAbove 82 = .ok (.lmul, 1) := by decide +kernel
theorem dX2_partedAbove_83 : decode cX2_partedAbove 83 = .ok (.aload_n 0, 1) := by decide +kernel
theorem dX2_partedAbove_84 : decode cX2_partedAbove 84 = .ok (.aload_n 0, 1) := by decide +kernel
theorem dX2_partedAbove_85 : decode cX2_partedAbove 85 = .ok (.getfield 15, 3) := by decide +kernel
theorem dX2_partedAbove_88 : decode cX2_partedAbove 88 = .ok (.iload_n 1, 1) := by decide +kernel
theorem dX2_partedAbove_89 : decode cX2_partedAbove 89 = .ok (.invokevirtual 46, 3) := by decide +kernel
theorem dX2_partedAbove_92 : decode cX2_partedAbove 92 = .ok (.iconst 1, 1) := by decide +kernel
theorem dX2_partedAbove_93 : decode cX2_partedAbove 93 = .ok (.invokestatic 50, 3) := by decide +kernel
theorem dX2_partedAbove_96 : decode cX2_partedAbove 96 = .ok (.i2l, 1) := by decide +kernel
theorem dX2_partedAbove_97 : decode cX2_partedAbove 97 = .ok (.lmul, 1) := by decide +kernel
theorem dX2_partedAbove_98 : decode cX2_partedAbove 98 = .ok (.ladd, 1) := by decide +kernel
theorem dX2_partedAbove_99 : decode cX2_partedAbove 99 = .ok (.lreturn, 1) := by decide +kernel
theorem dX2_partedBelow_0 : decode cX2_partedBelow 0 = .ok (.aload_n 0, 1) := by decide +kernel
theorem dX2_partedBelow_1 : decode cX2_partedBelow 1 = .ok (.aload_n 0, 1) := by decide +kernel
theorem dX2_partedBelow_2 : decode cX2_partedBelow 2 = .ok (.getfield 15, 3) := by decide +kernel
theorem dX2_partedBelow_5 : decode cX2_partedBelow 5 = .ok (.iload_n 1, 1) := by decide +kernel
theorem dX2_partedBelow_6 : decode cX2_partedBelow 6 = .ok (.invokevirtual 46, 3) := by decide +kernel
theorem dX2_partedBelow_9 : decode cX2_partedBelow 9 = .ok (.iconst 1, 1) := by decide +kernel
theorem dX2_partedBelow_10 : decode cX2_partedBelow 10 = .ok (.invokestatic 50, 3) := by decide +kernel
theorem dX2_partedBelow_13 : decode cX2_partedBelow 13 = .ok (.i2l, 1) := by decide +kernel
theorem dX2_partedBelow_14 : decode cX2_partedBelow 14 = .ok (.aload_n 0, 1) := by decide +kernel
theorem dX2_partedBelow_15 : decode cX2_partedBelow 15 = .ok (.aload_n 0, 1) := by decide +kernel
theorem dX2_partedBelow_16 : decode cX2_partedBelow 16 = .ok (.getfield 18, 3) := by decide +kernel
theorem dX2_partedBelow_19 : decode cX2_partedBelow 19 = .ok (.iload_n 1, 1) := by decide +kernel
theorem dX2_partedBelow_20 : decode cX2_partedBelow 20 = .ok (.invokevirtual 46, 3) := by decide +kernel
theorem dX2_partedBelow_23 : decode cX2_partedBelow 23 = .ok (.iconst 1, 1) := by decide +kernel
theorem dX2_partedBelow_24 : decode cX2_partedBelow 24 = .ok (.invokestatic 50, 3) := by decide +kernel
theorem dX2_partedBelow_27 : decode cX2_partedBelow 27 = .ok (.i2l, 1) := by decide +kernel
theorem dX2_partedBelow_28 : decode cX2_partedBelow 28 = .ok (.lmul, 1) := by decide +kernel
theorem dX2_partedBelow_29 : decode cX2_partedBelow 29 = .ok (.lreturn, 1) := by decide +kernel
theorem dX2_worstOf_0 : decode cX2_worstOf 0 = .ok (.iconst 0, 1) := by decide +kernel
theorem dX2_worstOf_1 : decode cX2_worstOf 1 = .ok (.istore_n 2, 1) := by decide +kernel
theorem dX2_worstOf_2 : decode cX2_worstOf 2 = .ok (.iconst 0, 1) := by decide +kernel
theorem dX2_worstOf_3 : decode cX2_worstOf 3 = .ok (.istore_n 3, 1) := by decide +kernel
theorem dX2_worstOf_4 : decode cX2_worstOf 4 = .ok (.iload_n 3, 1) := by decide +kernel
theorem dX2_worstOf_5 : decode cX2_worstOf 5 = .ok (.iload_n 1, 1) := by decide +kernel
theorem dX2_worstOf_6 : decode cX2_worstOf 6 = .ok (.if_icmp .ge 72, 3) := by decide +kernel
theorem dX2_worstOf_9 : decode cX2_worstOf 9 = .ok (.iconst (-1), 1) := by decide +kernel
theorem dX2_worstOf_10 : decode cX2_worstOf 10 = .ok (.istore 4, 2) := by decide +kernel
theorem dX2_worstOf_12 : decode cX2_worstOf 12 = .ok (.iconst 0, 1) := by decide +kernel
theorem dX2_worstOf_13 : decode cX2_worstOf 13 = .ok (.istore 5, 2) := by decide +kernel
theorem dX2_worstOf_15 : decode cX2_worstOf 15 = .ok (.iconst 0, 1) := by decide +kernel
theorem dX2_worstOf_16 : decode cX2_worstOf 16 = .ok (.istore 6, 2) := by decide +kernel
theorem dX2_worstOf_18 : decode cX2_worstOf 18 = .ok (.iload 6, 2) := by decide +kernel
theorem dX2_worstOf_20 : decode cX2_worstOf 20 = .ok (.aload_n 0, 1) := by decide +kernel
theorem dX2_worstOf_21 : decode cX2_worstOf 21 = .ok (.getfield 36, 3) := by decide +kernel
theorem dX2_worstOf_24 : decode cX2_worstOf 24 = .ok (.if_icmp .ge 41, 3) := by decide +kernel
theorem dX2_worstOf_27 : decode cX2_worstOf 27 = .ok (.iload_n 2, 1) := by decide +kernel
theorem dX2_worstOf_28 : decode cX2_worstOf 28 = .ok (.iload 6, 2) := by decide +kernel
theorem dX2_worstOf_30 : decode cX2_worstOf 30 = .ok (.ishr, 1) := by decide +kernel
theorem dX2_worstOf_31 : decode cX2_worstOf 31 = .ok (.iconst 1, 1) := by decide +kernel
theorem dX2_worstOf_32 : decode cX2_worstOf 32 = .ok (.iand, 1) := by decide +kernel
theorem dX2_worstOf_33 : decode cX2_worstOf 33 = .ok (.ifCond .ne 26, 3) := by decide +kernel
theorem dX2_worstOf_36 : decode cX2_worstOf 36 = .ok (.aload_n 0, 1) := by decide +kernel
theorem dX2_worstOf_37 : decode cX2_worstOf 37 = .ok (.iload 6, 2) := by decide +kernel
theorem dX2_worstOf_39 : decode cX2_worstOf 39 = .ok (.invokevirtual 56, 3) := by decide +kernel
theorem dX2_worstOf_42 : decode cX2_worstOf 42 = .ok (.iload 4, 2) := by decide +kernel
theorem dX2_worstOf_44 : decode cX2_worstOf 44 = .ok (.if_icmp .le 15, 3) := by decide +kernel
theorem dX2_worstOf_47 : decode cX2_worstOf 47 = .ok (.aload_n 0, 1) := by decide +kernel
theorem dX2_worstOf_48 : decode cX2_worstOf 48 = .ok (.iload 6, 2) := by decide +kernel
theorem dX2_worstOf_50 : decode cX2_worstOf 50 = .ok (.invokevirtual 56, 3) := by decide +kernel
theorem dX2_worstOf_53 : decode cX2_worstOf 53 = .ok (.istore 4, 2) := by decide +kernel
theorem dX2_worstOf_55 : decode cX2_worstOf 55 = .ok (.iload 6, 2) := by decide +kernel
theorem dX2_worstOf_57 : decode cX2_worstOf 57 = .ok (.istore 5, 2) := by decide +kernel
theorem dX2_worstOf_59 : decode cX2_worstOf 59 = .ok (.iinc 6 1, 3) := by decide +kernel
theorem dX2_worstOf_62 : decode cX2_worstOf 62 = .ok (.goto (-44), 3) := by decide +kernel
theorem dX2_worstOf_65 : decode cX2_worstOf 65 = .ok (.iload_n 2, 1) := by decide +kernel
theorem dX2_worstOf_66 : decode cX2_worstOf 66 = .ok (.iconst 1, 1) := by decide +kernel
theorem dX2_worstOf_67 : decode cX2_worstOf 67 = .ok (.iload 5, 2) := by decide +kernel
theorem dX2_worstOf_69 : decode cX2_worstOf 69 = .ok (.ishl, 1) := by decide +kernel
theorem dX2_worstOf_70 : decode cX2_worstOf 70 = .ok (.ior, 1) := by decide +kernel
theorem dX2_worstOf_71 : decode cX2_worstOf 71 = .ok (.istore_n 2, 1) := by decide +kernel
theorem dX2_worstOf_72 : decode cX2_worstOf 72 = .ok (.iinc 3 1, 3) := by decide +kernel
theorem dX2_worstOf_75 : decode cX2_worstOf 75 = .ok (.goto (-71), 3) := by decide +kernel
theorem dX2_worstOf_78 : decode cX2_worstOf 78 = .ok (.iload_n 2, 1) := by decide +kernel
theorem dX2_worstOf_79 : decode cX2_worstOf 79 = .ok (.ireturn, 1) := by decide +kernel
theorem dX2_matchesOf_0 : decode cX2_matchesOf 0 = .ok (.iconst 0, 1) := by decide +kernel
theorem dX2_matchesOf_1 : decode cX2_matchesOf 1 = .ok (.istore_n 2, 1) := by decide +kernel
theorem dX2_matchesOf_2 : decode cX2_matchesOf 2 = .ok (.iconst 0, 1) := by decide +kernel
theorem dX2_matchesOf_3 : decode cX2_matchesOf 3 = .ok (.istore_n 3, 1) := by decide +kernel
theorem dX2_matchesOf_4 : decode cX2_matchesOf 4 = .ok (.iload_n 3, 1) := by decide +kernel
theorem dX2_matchesOf_5 : decode cX2_matchesOf 5 = .ok (.aload_n 0, 1) := by decide +kernel
theorem dX2_matchesOf_6 : decode cX2_matchesOf 6 = .ok (.getfield 36, 3) := by decide +kernel
theorem dX2_matchesOf_9 : decode cX2_matchesOf 9 = .ok (.if_icmp .ge 30, 3) := by decide +kernel
theorem dX2_matchesOf_12 : decode cX2_matchesOf 12 = .ok (.iload_n 1, 1) := by decide +kernel
theorem dX2_matchesOf_13 : decode cX2_matchesOf 13 = .ok (.iload_n 3, 1) := by decide +kernel
theorem dX2_matchesOf_14 : decode cX2_matchesOf 14 = .ok (.ishr, 1) := by decide +kernel
theorem dX2_matchesOf_15 : decode cX2_matchesOf 15 = .ok (.iconst 1, 1) := by decide +kernel
theorem dX2_matchesOf_16 : decode cX2_matchesOf 16 = .ok (.iand, 1) := by decide +kernel
theorem dX2_matchesOf_17 : decode cX2_matchesOf 17 = .ok (.ifCond .eq 16, 3) := by decide +kernel
theorem dX2_matchesOf_20 : decode cX2_matchesOf 20 = .ok (.iload_n 2, 1) := by decide +kernel
theorem dX2_matchesOf_21 : decode cX2_matchesOf 21 = .ok (.iconst 1, 1) := by decide +kernel
theorem dX2_matchesOf_22 : decode cX2_matchesOf 22 = .ok (.aload_n 0, 1) := by decide +kernel
theorem dX2_matchesOf_23 : decode cX2_matchesOf 23 = .ok (.iload_n 3, 1) := by decide +kernel
theorem dX2_matchesOf_24 : decode cX2_matchesOf 24 = .ok (.iload_n 1, 1) := by decide +kernel
theorem dX2_matchesOf_25 : decode cX2_matchesOf 25 = .ok (.iload_n 2, 1) := by decide +kernel
theorem dX2_matchesOf_26 : decode cX2_matchesOf 26 = .ok (.ior, 1) := by decide +kernel
theorem dX2_matchesOf_27 : decode cX2_matchesOf 27 = .ok (.invokevirtual 60, 3) := by decide +kernel
theorem dX2_matchesOf_30 : decode cX2_matchesOf 30 = .ok (.ishl, 1) := by decide +kernel
theorem dX2_matchesOf_31 : decode cX2_matchesOf 31 = .ok (.ior, 1) := by decide +kernel
theorem dX2_matchesOf_32 : decode cX2_matchesOf 32 = .ok (.istore_n 2, 1) := by decide +kernel
theorem dX2_matchesOf_33 : decode cX2_matchesOf 33 = .ok (.iinc 3 1, 3) := by decide +kernel
theorem dX2_matchesOf_36 : decode cX2_matchesOf 36 = .ok (.goto (-32), 3) := by decide +kernel
theorem dX2_matchesOf_39 : decode cX2_matchesOf 39 = .ok (.iload_n 2, 1) := by decide +kernel
theorem dX2_matchesOf_40 : decode cX2_matchesOf 40 = .ok (.ireturn, 1) := by decide +kernel
theorem dX2_likest_0 : decode cX2_likest 0 = .ok (.sipush 601, 3) := by decide +kernel
theorem dX2_likest_3 : decode cX2_likest 3 = .ok (.istore_n 3, 1) := by decide +kernel
theorem dX2_likest_4 : decode cX2_likest 4 = .ok (.iconst 0, 1) := by decide +kernel
theorem dX2_likest_5 : decode cX2_likest 5 = .ok (.istore 4, 2) := by decide +kernel
theorem dX2_likest_7 : decode cX2_likest 7 = .ok (.iconst 0, 1) := by decide +kernel
theorem dX2_likest_8 : decode cX2_likest 8 = .ok (.istore 5, 2) := by decide +kernel
theorem dX2_likest_10 : decode cX2_likest 10 = .ok (.iload 5, 2) := by decide +kernel
theorem dX2_likest_12 : decode cX2_likest 12 = .ok (.aload_n 0, 1) := by decide +kernel
theorem dX2_likest_13 : decode cX2_likest 13 = .ok (.getfield 36, 3) := by decide +kernel
theorem dX2_likest_16 : decode cX2_likest 16 = .ok (.if_icmp .ge 48, 3) := by decide +kernel
theorem dX2_likest_19 : decode cX2_likest 19 = .ok (.aload_n 0, 1) := by decide +kernel
theorem dX2_likest_20 : decode cX2_likest 20 = .ok (.iload 5, 2) := by decide +kernel
theorem dX2_likest_22 : decode cX2_likest 22 = .ok (.invokevirtual 56, 3) := by decide +kernel
theorem dX2_likest_25 : decode cX2_likest 25 = .ok (.aload_n 0, 1) := by decide +kernel
theorem dX2_likest_26 : decode cX2_likest 26 = .ok (.iload_n 1, 1) := by decide +kernel
theorem dX2_likest_27 : decode cX2_likest 27 = .ok (.invokevirtual 56, 3) := by decide +kernel
theorem dX2_likest_30 : decode cX2_likest 30 = .ok (.isub, 1) := by decide +kernel
theorem dX2_likest_31 : decode cX2_likest 31 = .ok (.invokestatic 63, 3) := by decide +kernel
theorem dX2_likest_34 : decode cX2_likest 34 = .ok (.istore 6, 2) := by decide +kernel
theorem dX2_likest_36 : decode cX2_likest 36 = .ok (.iload_n 2, 1) := by decide +kernel
theorem dX2_likest_37 : decode cX2_likest 37 = .ok (.iload 5, 2) := by decide +kernel
theorem dX2_likest_39 : decode cX2_likest 39 = .ok (.ishr, 1) := by decide +kernel
theorem dX2_likest_40 : decode cX2_likest 40 = .ok (.iconst 1, 1) := by decide +kernel
theorem dX2_likest_41 : decode cX2_likest 41 = .ok (.iand, 1) := by decide +kernel
theorem dX2_likest_42 : decode cX2_likest 42 = .ok (.ifCond .ne 16, 3) := by decide +kernel
theorem dX2_likest_45 : decode cX2_likest 45 = .ok (.iload 6, 2) := by decide +kernel
theorem dX2_likest_47 : decode cX2_likest 47 = .ok (.iload_n 3, 1) := by decide +kernel
theorem dX2_likest_48 : decode cX2_likest 48 = .ok (.if_icmp .ge 10, 3) := by decide +kernel
theorem dX2_likest_51 : decode cX2_likest 51 = .ok (.iload 6, 2) := by decide +kernel
theorem dX2_likest_53 : decode cX2_likest 53 = .ok (.istore_n 3, 1) := by decide +kernel
theorem dX2_likest_54 : decode cX2_likest 54 = .ok (.iload 5, 2) := by decide +kernel
theorem dX2_likest_56 : decode cX2_likest 56 = .ok (.istore 4, 2) := by decide +kernel
theorem dX2_likest_58 : decode cX2_likest 58 = .ok (.iinc 5 1, 3) := by decide +kernel
theorem dX2_likest_61 : decode cX2_likest 61 = .ok (.goto (-51), 3) := by decide +kernel
theorem dX2_likest_64 : decode cX2_likest 64 = .ok (.iload 4, 2) := by decide +kernel
theorem dX2_likest_66 : decode cX2_likest 66 = .ok (.ireturn, 1) := by decide +kernel
theorem dX2_fallOf_0 : decode cX2_fallOf 0 = .ok (.iconst 0, 1) := by decide +kernel
theorem dX2_fallOf_1 : decode cX2_fallOf 1 = .ok (.istore_n 2, 1) := by decide +kernel
theorem dX2_fallOf_2 : decode cX2_fallOf 2 = .ok (.iconst 0, 1) := by decide +kernel
theorem dX2_fallOf_3 : decode cX2_fallOf 3 = .ok (.istore_n 3, 1) := by decide +kernel
theorem dX2_fallOf_4 : decode cX2_fallOf 4 = .ok (.iload_n 3, 1) := by decide +kernel
theorem dX2_fallOf_5 : decode cX2_fallOf 5 = .ok (.aload_n 0, 1) := by decide +kernel
theorem dX2_fallOf_6 : decode cX2_fallOf 6 = .ok (.getfield 36, 3) := by decide +kernel
theorem dX2_fallOf_9 : decode cX2_fallOf 9 = .ok (.if_icmp .ge 36, 3) := by decide +kernel
theorem dX2_fallOf_12 : decode cX2_fallOf 12 = .ok (.iload_n 2, 1) := by decide +kernel
theorem dX2_fallOf_13 : decode cX2_fallOf 13 = .ok (.iload_n 1, 1) := by decide +kernel
theorem dX2_fallOf_14 : decode cX2_fallOf 14 = .ok (.iload_n 3, 1) := by decide +kernel
theorem dX2_fallOf_15 : decode cX2_fallOf 15 = .ok (.ishr, 1) := by decide +kernel
theorem dX2_fallOf_16 : decode cX2_fallOf 16 = .ok (.iconst 1, 1) := by decide +kernel
theorem dX2_fallOf_17 : decode cX2_fallOf 17 = .ok (.iand, 1) := by decide +kernel
theorem dX2_fallOf_18 : decode cX2_fallOf 18 = .ok (.ifCond .eq 18, 3) := by decide +kernel
theorem dX2_fallOf_21 : decode cX2_fallOf 21 = .ok (.aload_n 0, 1) := by decide +kernel
theorem dX2_fallOf_22 : decode cX2_fallOf 22 = .ok (.iload_n 3, 1) := by decide +kernel
theorem dX2_fallOf_23 : decode cX2_fallOf 23 = .ok (.invokevirtual 56, 3) := by decide +kernel
theorem dX2_fallOf_26 : decode cX2_fallOf 26 = .ok (.aload_n 0, 1) := by decide +kernel
theorem dX2_fallOf_27 : decode cX2_fallOf 27 = .ok (.getfield 27, 3) := by decide +kernel
theorem dX2_fallOf_30 : decode cX2_fallOf 30 = .ok (.iload_n 3, 1) := by decide +kernel
theorem dX2_fallOf_31 : decode cX2_fallOf 31 = .ok (.iaload, 1) := by decide +kernel
theorem dX2_fallOf_32 : decode cX2_fallOf 32 = .ok (.isub, 1) := by decide +kernel
theorem dX2_fallOf_33 : decode cX2_fallOf 33 = .ok (.goto 4, 3) := by decide +kernel
theorem dX2_fallOf_36 : decode cX2_fallOf 36 = .ok (.iconst 0, 1) := by decide +kernel
theorem dX2_fallOf_37 : decode cX2_fallOf 37 = .ok (.iadd, 1) := by decide +kernel
theorem dX2_fallOf_38 : decode cX2_fallOf 38 = .ok (.istore_n 2, 1) := by decide +kernel
theorem dX2_fallOf_39 : decode cX2_fallOf 39 = .ok (.iinc 3 1, 3) := by decide +kernel
theorem dX2_fallOf_42 : decode cX2_fallOf 42 = .ok (.goto (-38), 3) := by decide +kernel
theorem dX2_fallOf_45 : decode cX2_fallOf 45 = .ok (.iload_n 2, 1) := by decide +kernel
theorem dX2_fallOf_46 : decode cX2_fallOf 46 = .ok (.ireturn, 1) := by decide +kernel
theorem dX2_rankOf_0 : decode cX2_rankOf 0 = .ok (.iconst 0, 1) := by decide +kernel
theorem dX2_rankOf_1 : decode cX2_rankOf 1 = .ok (.istore_n 2, 1) := by decide +kernel
theorem dX2_rankOf_2 : decode cX2_rankOf 2 = .ok (.iconst 0, 1) := by decide +kernel
theorem dX2_rankOf_3 : decode cX2_rankOf 3 = .ok (.istore_n 3, 1) := by decide +kernel
theorem dX2_rankOf_4 : decode cX2_rankOf 4 = .ok (.iload_n 3, 1) := by decide +kernel
theorem dX2_rankOf_5 : decode cX2_rankOf 5 = .ok (.aload_n 0, 1) := by decide +kernel
theorem dX2_rankOf_6 : decode cX2_rankOf 6 = .ok (.getfield 36, 3) := by decide +kernel
theorem dX2_rankOf_9 : decode cX2_rankOf 9 = .ok (.if_icmp .ge 86, 3) := by decide +kernel
theorem dX2_rankOf_12 : decode cX2_rankOf 12 = .ok (.aload_n 0, 1) := by decide +kernel
theorem dX2_rankOf_13 : decode cX2_rankOf 13 = .ok (.iload_n 3, 1) := by decide +kernel
theorem dX2_rankOf_14 : decode cX2_rankOf 14 = .ok (.invokevirtual 56, 3) := by decide +kernel
theorem dX2_rankOf_17 : decode cX2_rankOf 17 = .ok (.aload_n 0, 1) := by decide +kernel
theorem dX2_rankOf_18 : decode cX2_rankOf 18 = .ok (.getfield 15, 3) := by decide +kernel
theorem dX2_rankOf_21 : decode cX2_rankOf 21 = .ok (.iload_n 1, 1) := by decide +kernel
theorem dX2_rankOf_22 : decode cX2_rankOf 22 = .ok (.iaload, 1) := by decide +kernel
theorem dX2_rankOf_23 : decode cX2_rankOf 23 = .ok (.aload_n 0, 1) := by decide +kernel
theorem dX2_rankOf_24 : decode cX2_rankOf 24 = .ok (.getfield 18, 3) := by decide +kernel
theorem dX2_rankOf_27 : decode cX2_rankOf 27 = .ok (.iload_n 1, 1) := by decide +kernel
theorem dX2_rankOf_28 : decode cX2_rankOf 28 = .ok (.iaload, 1) := by decide +kernel
theorem dX2_rankOf_29 : decode cX2_rankOf 29 = .ok (.iadd, 1) := by decide +kernel
theorem dX2_rankOf_30 : decode cX2_rankOf 30 = .ok (.iconst 1, 1) := by decide +kernel
theorem dX2_rankOf_31 : decode cX2_rankOf 31 = .ok (.invokestatic 50, 3) := by decide +kernel
theorem dX2_rankOf_34 : decode cX2_rankOf 34 = .ok (.imul, 1) := by decide +kernel
theorem dX2_rankOf_35 : decode cX2_rankOf 35 = .ok (.istore 4, 2) := by decide +kernel
theorem dX2_rankOf_37 : decode cX2_rankOf 37 = .ok (.aload_n 0, 1) := by decide +kernel
theorem dX2_rankOf_38 : decode cX2_rankOf 38 = .ok (.iload_n 1, 1) := by decide +kernel
theorem dX2_rankOf_39 : decode cX2_rankOf 39 = .ok (.invokevirtual 56, 3) := by decide +kernel
theorem dX2_rankOf_42 : decode cX2_rankOf 42 = .ok (.aload_n 0, 1) := by decide +kernel
theorem dX2_rankOf_43 : decode cX2_rankOf 43 = .ok (.getfield 15, 3) := by decide +kernel
theorem dX2_rankOf_46 : decode cX2_rankOf 46 = .ok (.iload_n 3, 1) := by decide +kernel
theorem dX2_rankOf_47 : decode cX2_rankOf 47 = .ok (.iaload, 1) := by decide +kernel
theorem dX2_rankOf_48 : decode cX2_rankOf 48 = .ok (.aload_n 0, 1) := by decide +kernel
theorem dX2_rankOf_49 : decode cX2_rankOf 49 = .ok (.getfield 18, 3) := by decide +kernel
theorem dX2_rankOf_52 : decode cX2_rankOf 52 = .ok (.iload_n 3, 1) := by decide +kernel
theorem dX2_rankOf_53 : decode cX2_rankOf 53 = .ok (.iaload, 1) := by decide +kernel
theorem dX2_rankOf_54 : decode cX2_rankOf 54 = .ok (.iadd, 1) := by decide +kernel
theorem dX2_rankOf_55 : decode cX2_rankOf 55 = .ok (.iconst 1, 1) := by decide +kernel
theorem dX2_rankOf_56 : decode cX2_rankOf 56 = .ok (.invokestatic 50, 3) := by decide +kernel
theorem dX2_rankOf_59 : decode cX2_rankOf 59 = .ok (.imul, 1) := by decide +kernel
theorem dX2_rankOf_60 : decode cX2_rankOf 60 = .ok (.istore 5, 2) := by decide +kernel
theorem dX2_rankOf_62 : decode cX2_rankOf 62 = .ok (.iload_n 2, 1) := by decide +kernel
theorem dX2_rankOf_63 : decode cX2_rankOf 63 = .ok (.iload 4, 2) := by decide +kernel
theorem dX2_rankOf_65 : decode cX2_rankOf 65 = .ok (.iload 5, 2) := by decide +kernel
theorem dX2_rankOf_67 : decode cX2_rankOf 67 = .ok (.if_icmp .gt 15, 3) := by decide +kernel
theorem dX2_rankOf_70 : decode cX2_rankOf 70 = .ok (.iload 4, 2) := by decide +kernel
theorem dX2_rankOf_72 : decode cX2_rankOf 72 = .ok (.iload 5, 2) := by decide +kernel
theorem dX2_rankOf_74 : decode cX2_rankOf 74 = .ok (.if_icmp .ne 12, 3) := by decide +kernel
theorem dX2_rankOf_77 : decode cX2_rankOf 77 = .ok (.iload_n 3, 1) := by decide +kernel
theorem dX2_rankOf_78 : decode cX2_rankOf 78 = .ok (.iload_n 1, 1) := by decide +kernel
theorem dX2_rankOf_79 : decode cX2_rankOf 79 = .ok (.if_icmp .ge 7, 3) := by decide +kernel
theorem dX2_rankOf_82 : decode cX2_rankOf 82 = .ok (.iconst 1, 1) := by decide +kernel
theorem dX2_rankOf_83 : decode cX2_rankOf 83 = .ok (.goto 4, 3) := by decide +kernel
theorem dX2_rankOf_86 : decode cX2_rankOf 86 = .ok (.iconst 0, 1) := by decide +kernel
theorem dX2_rankOf_87 : decode cX2_rankOf 87 = .ok (.iadd, 1) := by decide +kernel
theorem dX2_rankOf_88 : decode cX2_rankOf 88 = .ok (.istore_n 2, 1) := by decide +kernel
theorem dX2_rankOf_89 : decode cX2_rankOf 89 = .ok (.iinc 3 1, 3) := by decide +kernel
theorem dX2_rankOf_92 : decode cX2_rankOf 92 = .ok (.goto (-88), 3) := by decide +kernel
theorem dX2_rankOf_95 : decode cX2_rankOf 95 = .ok (.iload_n 2, 1) := by decide +kernel
theorem dX2_rankOf_96 : decode cX2_rankOf 96 = .ok (.ireturn, 1) := by decide +kernel
theorem dX2_leftAt_0 : decode cX2_leftAt 0 = .ok (.aload_n 0, 1) := by decide +kernel
theorem dX2_leftAt_1 : decode cX2_leftAt 1 = .ok (.iload_n 1, 1) := by decide +kernel
theorem dX2_leftAt_2 : decode cX2_leftAt 2 = .ok (.invokevirtual 56, 3) := by decide +kernel
theorem dX2_leftAt_5 : decode cX2_leftAt 5 = .ok (.sipush 10000, 3) := by decide +kernel
theorem dX2_leftAt_8 : decode cX2_leftAt 8 = .ok (.imul, 1) := by decide +kernel
theorem dX2_leftAt_9 : decode cX2_leftAt 9 = .ok (.istore_n 3, 1) := by decide +kernel
theorem dX2_leftAt_10 : decode cX2_leftAt 10 = .ok (.iconst 0, 1) := by decide +kernel
theorem dX2_leftAt_11 : decode cX2_leftAt 11 = .ok (.istore 4, 2) := by decide +kernel
theorem dX2_leftAt_13 : decode cX2_leftAt 13 = .ok (.iload 4, 2) := by decide +kernel
theorem dX2_leftAt_15 : decode cX2_leftAt 15 = .ok (.iconst 4, 1) := by decide +kernel
theorem dX2_leftAt_16 : decode cX2_leftAt 16 = .ok (.if_icmp .ge 35, 3) := by decide +kernel
theorem dX2_leftAt_19 : decode cX2_leftAt 19 = .ok (.iload_n 2, 1) := by decide +kernel
theorem dX2_leftAt_20 : decode cX2_leftAt 20 = .ok (.iload 4, 2) := by decide +kernel
theorem dX2_leftAt_22 : decode cX2_leftAt 22 = .ok (.ishr, 1) := by decide +kernel
theorem dX2_leftAt_23 : decode cX2_leftAt 23 = .ok (.iconst 1, 1) := by decide +kernel
theorem dX2_leftAt_24 : decode cX2_leftAt 24 = .ok (.iand, 1) := by decide +kernel
theorem dX2_leftAt_25 : decode cX2_leftAt 25 = .ok (.ifCond .eq 18, 3) := by decide +kernel
theorem dX2_leftAt_28 : decode cX2_leftAt 28 = .ok (.iload_n 3, 1) := by decide +kernel
theorem dX2_leftAt_29 : decode cX2_leftAt 29 = .ok (.aload_n 0, 1) := by decide +kernel
theorem dX2_leftAt_30 : decode cX2_leftAt 30 = .ok (.getfield 33, 3) := by decide +kernel
theorem dX2_leftAt_33 : decode cX2_leftAt 33 = .ok (.iload 4, 2) := by decide +kernel
theorem dX2_leftAt_35 : decode cX2_leftAt 35 = .ok (.iaload, 1) := by decide +kernel
theorem dX2_leftAt_36 : decode cX2_leftAt 36 = .ok (.imul, 1) := by decide +kernel
theorem dX2_leftAt_37 : decode cX2_leftAt 37 = .ok (.bipush 100, 2) := by decide +kernel
theorem dX2_leftAt_39 : decode cX2_leftAt 39 = .ok (.idiv, 1) := by decide +kernel
theorem dX2_leftAt_40 : decode cX2_leftAt 40 = .ok (.goto 4, 3) := by decide +kernel
theorem dX2_leftAt_43 : decode cX2_leftAt 43 = .ok (.iload_n 3, 1) := by decide +kernel
theorem dX2_leftAt_44 : decode cX2_leftAt 44 = .ok (.istore_n 3, 1) := by decide +kernel
theorem dX2_leftAt_45 : decode cX2_leftAt 45 = .ok (.iinc 4 1, 3) := by decide +kernel
theorem dX2_leftAt_48 : decode cX2_leftAt 48 = .ok (.goto (-35), 3) := by decide +kernel
theorem dX2_leftAt_51 : decode cX2_leftAt 51 = .ok (.iload_n 3, 1) := by decide +kernel
theorem dX2_leftAt_52 : decode cX2_leftAt 52 = .ok (.ireturn, 1) := by decide +kernel
theorem dX2_costOf_0 : decode cX2_costOf 0 = .ok (.iconst 0, 1) := by decide +kernel
theorem dX2_costOf_1 : decode cX2_costOf 1 = .ok (.istore_n 2, 1) := by decide +kernel
theorem dX2_costOf_2 : decode cX2_costOf 2 = .ok (.iconst 0, 1) := by decide +kernel
theorem dX2_costOf_3 : decode cX2_costOf 3 = .ok (.istore_n 3, 1) := by decide +kernel
theorem dX2_costOf_4 : decode cX2_costOf 4 = .ok (.iload_n 3, 1) := by decide +kernel
theorem dX2_costOf_5 : decode cX2_costOf 5 = .ok (.iconst 4, 1) := by decide +kernel
theorem dX2_costOf_6 : decode cX2_costOf 6 = .ok (.if_icmp .ge 30, 3) := by decide +kernel
theorem dX2_costOf_9 : decode cX2_costOf 9 = .ok (.iload_n 2, 1) := by decide +kernel
theorem dX2_costOf_10 : decode cX2_costOf 10 = .ok (.iload_n 1, 1) := by decide +kernel
theorem dX2_costOf_11 : decode cX2_costOf 11 = .ok (.iload_n 3, 1) := by decide +kernel
theorem dX2_costOf_12 : decode cX2_costOf 12 = .ok (.ishr, 1) := by decide +kernel
theorem dX2_costOf_13 : decode cX2_costOf 13 = .ok (.iconst 1, 1) := by decide +kernel
theorem dX2_costOf_14 : decode cX2_costOf 14 = .ok (.iand, 1) := by decide +kernel
theorem dX2_costOf_15 : decode cX2_costOf 15 = .ok (.ifCond .eq 12, 3) := by decide +kernel
theorem dX2_costOf_18 : decode cX2_costOf 18 = .ok (.aload_n 0, 1) := by decide +kernel
theorem dX2_costOf_19 : decode cX2_costOf 19 = .ok (.getfield 30, 3) := by decide +kernel
theorem dX2_costOf_22 : decode cX2_costOf 22 = .ok (.iload_n 3, 1) := by decide +kernel
theorem dX2_costOf_23 : decode cX2_costOf 23 = .ok (.iaload, 1) := by decide +kernel
theorem dX2_costOf_24 : decode cX2_costOf 24 = .ok (.goto 4, 3) := by decide +kernel
theorem dX2_costOf_27 : decode cX2_costOf 27 = .ok (.iconst 0, 1) := by decide +kernel
theorem dX2_costOf_28 : decode cX2_costOf 28 = .ok (.iadd, 1) := by decide +kernel
theorem dX2_costOf_29 : decode cX2_costOf 29 = .ok (.istore_n 2, 1) := by decide +kernel
theorem dX2_costOf_30 : decode cX2_costOf 30 = .ok (.iinc 3 1, 3) := by decide +kernel
theorem dX2_costOf_33 : decode cX2_costOf 33 = .ok (.goto (-29), 3) := by decide +kernel
theorem dX2_costOf_36 : decode cX2_costOf 36 = .ok (.iload_n 2, 1) := by decide +kernel
theorem dX2_costOf_37 : decode cX2_costOf 37 = .ok (.ireturn, 1) := by decide +kernel
theorem dX3_init_0 : decode cX3_init 0 = .ok (.aload_n 0, 1) := by decide +kernel
theorem dX3_init_1 : decode cX3_init 1 = .ok (.invokespecial 3, 3) := by decide +kernel
theorem dX3_init_4 : decode cX3_init 4 = .ok (.aload_n 0, 1) := by decide +kernel
theorem dX3_init_5 : decode cX3_init 5 = .ok (.new 9, 3) := by decide +kernel
theorem dX3_init_8 : decode cX3_init 8 = .ok (.dup, 1) := by decide +kernel
theorem dX3_init_9 : decode cX3_init 9 = .ok (.invokespecial 11, 3) := by decide +kernel
theorem dX3_init_12 : decode cX3_init 12 = .ok (.putfield 12, 3) := by decide +kernel
theorem dX3_init_15 : decode cX3_init 15 = .ok (.aload_n 0, 1) := by decide +kernel
theorem dX3_init_16 : decode cX3_init 16 = .ok (.new 18, 3) := by decide +kernel
theorem dX3_init_19 : decode cX3_init 19 = .ok (.dup, 1) := by decide +kernel
theorem dX3_init_20 : decode cX3_init 20 = .ok (.invokespecial 20, 3) := by decide +kernel
theorem dX3_init_23 : decode cX3_init 23 = .ok (.putfield 21, 3) := by decide +kernel
theorem dX3_init_26 : decode cX3_init 26 = .ok (.aload_n 0, 1) := by decide +kernel
theorem dX3_init_27 : decode cX3_init 27 = .ok (.iconst (-1), 1) := by decide +kernel
theorem dX3_init_28 : decode cX3_init 28 = .ok (.putfield 25, 3) := by decide +kernel
theorem dX3_init_31 : decode cX3_init 31 = .ok (.aload_n 0, 1) := by decide +kernel
theorem dX3_init_32 : decode cX3_init 32 = .ok (.iconst 0, 1) := by decide +kernel
theorem dX3_init_33 : decode cX3_init 33 = .ok (.newarray .byte, 2) := by decide +kernel
theorem dX3_init_35 : decode cX3_init 35 = .ok (.putfield 29, 3) := by decide +kernel
theorem dX3_init_38 : decode cX3_init 38 = .ok (.return_, 1) := by decide +kernel
theorem dX3_readScene_0 : decode cX3_readScene 0 = .ok (.aload_n 0, 1) := by decide +kernel
theorem dX3_readScene_1 : decode cX3_readScene 1 = .ok (.aload_n 1, 1) := by decide +kernel
theorem dX3_readScene_2 : decode cX3_readScene 2 = .ok (.iload_n 2, 1) := by decide +kernel
theorem dX3_readScene_3 : decode cX3_readScene 3 = .ok (.invokevirtual 33, 3) := by decide +kernel
theorem dX3_readScene_6 : decode cX3_readScene 6 = .ok (.aload_n 0, 1) := by decide +kernel
theorem dX3_readScene_7 : decode cX3_readScene 7 = .ok (.getfield 12, 3) := by decide +kernel
theorem dX3_readScene_10 : decode cX3_readScene 10 = .ok (.invokevirtual 37, 3) := by decide +kernel
theorem dX3_readScene_13 : decode cX3_readScene 13 = .ok (.iconst 0, 1) := by decide +kernel
theorem dX3_readScene_14 : decode cX3_readScene 14 = .ok (.istore_n 3, 1) := by decide +kernel
theorem dX3_readScene_15 : decode cX3_readScene 15 = .ok (.iload_n 3, 1) := by decide +kernel
theorem dX3_readScene_16 : decode cX3_readScene 16 = .ok (.iload_n 2, 1) := by decide +kernel
theorem dX3_readScene_17 : decode cX3_readScene 17 = .ok (.if_icmp .gt 47, 3) := by decide +kernel
theorem dX3_readScene_20 : decode cX3_readScene 20 = .ok (.aload_n 0, 1) := by decide +kernel
theorem dX3_readScene_21 : decode cX3_readScene 21 = .ok (.getfield 40, 3) := by decide +kernel
theorem dX3_readScene_24 : decode cX3_readScene 24 = .ok (.ifCond .eq 40, 3) := by decide +kernel
theorem dX3_readScene_27 : decode cX3_readScene 27 = .ok (.aload_n 0, 1) := by decide +kernel
theorem dX3_readScene_28 : decode cX3_readScene 28 = .ok (.invokevirtual 43, 3) := by decide +kernel
theorem dX3_readScene_31 : decode cX3_readScene 31 = .ok (.ifCond .eq 12, 3) := by decide +kernel
theorem dX3_readScene_34 : decode cX3_readScene 34 = .ok (.aload_n 0, 1) := by decide +kernel
theorem dX3_readScene_35 : decode cX3_readScene 35 = .ok (.bipush 59, 2) := by decide +kernel
theorem dX3_readScene_37 : decode cX3_readScene 37 = .ok (.invokevirtual 47, 3) := by decide +kernel
theorem dX3_readScene_40 : decode cX3_readScene 40 = .ok (.ifCond .ne 5, 3) := by decide +kernel
theorem dX3_readScene_43 : decode cX3_readScene 43 = .ok (.iconst 0, 1) := by decide +kernel
theorem dX3_readScene_44 : decode cX3_readScene 44 = .ok (.ireturn, 1) := by decide +kernel
theorem dX3_readScene_45 : decode cX3_readScene 45 = .ok (.aload_n 0, 1) := by decide +kernel
theorem dX3_readScene_46 : decode cX3_readScene 46 = .ok (.getfield 12, 3) := by decide +kernel
theorem dX3_readScene_49 : decode cX3_readScene 49 = .ok (.dup, 1) := by decide +kernel
theorem dX3_readScene_50 : decode cX3_readScene 50 = .ok (.getfield 51, 3) := by decide +kernel
theorem dX3_readScene_53 : decode cX3_readScene 53 = .ok (.iconst 1, 1) := by decide +kernel
theorem dX3_readScene_54 : decode cX3_readScene 54 = .ok (.iadd, 1) := by decide +kernel
theorem dX3_readScene_55 : decode cX3_readScene 55 = .ok (.putfield 51, 3) := by decide +kernel
theorem dX3_readScene_58 : decode cX3_readScene 58 = .ok (.iinc 3 1, 3) := by decide +kernel
theorem dX3_readScene_61 : decode cX3_readScene 61 = .ok (.goto (-46), 3) := by decide +kernel
theorem dX3_readScene_64 : decode cX3_readScene 64 = .ok (.iconst 1, 1) := by decide +kernel
theorem dX3_readScene_65 : decode cX3_readScene 65 = .ok (.ireturn, 1) := by decide +kernel
theorem dX3_readLaw_0 : decode cX3_readLaw 0 = .ok (.aload_n 0, 1) := by decide +kernel
theorem dX3_readLaw_1 : decode cX3_readLaw 1 = .ok (.aload_n 1, 1) := by decide +kernel
theorem dX3_readLaw_2 : decode cX3_readLaw 2 = .ok (.iload_n 2, 1) := by decide +kernel
theorem dX3_readLaw_3 : decode cX3_readLaw 3 = .ok (.invokevirtual 33, 3) := by decide +kernel
theorem dX3_readLaw_6 : decode cX3_readLaw 6 = .ok (.aload_n 0, 1) := by decide +kernel
theorem dX3_readLaw_7 : decode cX3_readLaw 7 = .ok (.getfield 21, 3) := by decide +kernel
theorem dX3_readLaw_10 : decode cX3_readLaw 10 = .ok (.invokevirtual 54, 3) := by decide +kernel
theorem dX3_readLaw_13 : decode cX3_readLaw 13 = .ok (.iconst 0, 1) := by decide +kernel
theorem dX3_readLaw_14 : decode cX3_readLaw 14 = .ok (.istore_n 3, 1) := by decide +kernel
theorem dX3_readLaw_15 : decode cX3_readLaw 15 = .ok (.iload_n 3, 1) := by decide +kernel
theorem dX3_readLaw_16 : decode cX3_readLaw 16 = .ok (.iload_n 2, 1) := by decide +kernel
theorem dX3_readLaw_17 : decode cX3_readLaw 17 = .ok (.if_icmp .gt 107, 3) := by decide +kernel
theorem dX3_readLaw_20 : decode cX3_readLaw 20 = .ok (.aload_n 0, 1) := by decide +kernel
theorem dX3_readLaw_21 : decode cX3_readLaw 21 = .ok (.getfield 40, 3) := by decide +kernel
theorem dX3_readLaw_24 : decode cX3_readLaw 24 = .ok (.ifCond .eq 100, 3) := by decide +kernel
theorem dX3_readLaw_27 : decode cX3_readLaw 27 = .ok (.aload_n 0, 1) := by decide +kernel
theorem dX3_readLaw_28 : decode cX3_readLaw 28 = .ok (.bipush 27, 2) := by decide +kernel
theorem dX3_readLaw_30 : decode cX3_readLaw 30 = .ok (.invokevirtual 55, 3) := by decide +kernel
theorem dX3_readLaw_33 : decode cX3_readLaw 33 = .ok (.ifCond .eq 21, 3) := by decide +kernel
theorem dX3_readLaw_36 : decode cX3_readLaw 36 = .ok (.aload_n 0, 1) := by decide +kernel
theorem dX3_readLaw_37 : decode cX3_readLaw 37 = .ok (.getfield 21, 3) := by decide +kernel
theorem dX3_readLaw_40 : decode cX3_readLaw 40 = .ok (.getfield 59, 3) := by decide +kernel
theorem dX3_readLaw_43 : decode cX3_readLaw 43 = .ok (.bipush 12, 2) := by decide +kernel
theorem dX3_readLaw_45 : decode cX3_readLaw 45 = .ok (.if_icmp .lt 9, 3) := by decide +kernel
theorem dX3_readLaw_48 : decode cX3_readLaw 48 = .ok (.aload_n 0, 1) := by decide +kernel
theorem dX3_readLaw_49 : decode cX3_readLaw 49 = .ok (.iconst 4, 1) := by decide +kernel
theorem dX3_readLaw_50 : decode cX3_readLaw 50 = .ok (.invokevirtual 60, 3) := by decide +kernel
theorem dX3_readLaw_53 : decode cX3_readLaw 53 = .ok (.ireturn, 1) := by decide +kernel
theorem dX3_readLaw_54 : decode cX3_readLaw 54 = .ok (.aload_n 0, 1) := by decide +kernel
theorem dX3_readLaw_55 : decode cX3_readLaw 55 = .ok (.bipush 27, 2) := by decide +kernel
theorem dX3_readLaw_57 : decode cX3_readLaw 57 = .ok (.invokevirtual 63, 3) := by decide +kernel
theorem dX3_readLaw_60 : decode cX3_readLaw 60 = .ok (.ifCond .eq 13, 3) := by decide +kernel
theorem dX3_readLaw_63 : decode cX3_readLaw 63 = .ok (.aload_n 0, 1) := by decide +kernel
theorem dX3_readLaw_64 : decode cX3_readLaw 64 = .ok (.iconst 0, 1) := by decide +kernel
theorem dX3_readLaw_65 : decode cX3_readLaw 65 = .ok (.bipush 100, 2) := by decide +kernel
theorem dX3_readLaw_67 : decode cX3_readLaw 67 = .ok (.invokevirtual 66, 3) := by decide +kernel
theorem dX3_readLaw_70 : decode cX3_readLaw 70 = .ok (.ifCond .ne 5, 3) := by decide +kernel
theorem dX3_readLaw_73 : decode cX3_readLaw 73 = .ok (.iconst 0, 1) := by decide +kernel
theorem dX3_readLaw_74 : decode cX3_readLaw 74 = .ok (.ireturn, 1) := by decide +kernel
theorem dX3_readLaw_75 : decode cX3_readLaw 75 = .ok (.aload_n 0, 1) := by decide +kernel
theorem dX3_readLaw_76 : decode cX3_readLaw 76 = .ok (.getfield 70, 3) := by decide +kernel
theorem dX3_readLaw_79 : decode cX3_readLaw 79 = .ok (.istore 4, 2) := by decide +kernel
theorem dX3_readLaw_81 : decode cX3_readLaw 81 = .ok (.aload_n 0, 1) := by decide +kernel
theorem dX3_readLaw_82 : decode cX3_readLaw 82 = .ok (.bipush 28, 2) := by decide +kernel
theorem dX3_readLaw_84 : decode cX3_readLaw 84 = .ok (.invokevirtual 63, 3) := by decide +kernel
theorem dX3_readLaw_87 : decode cX3_readLaw 87 = .ok (.ifCond .eq 20, 3) := by decide +kernel
theorem dX3_readLaw_90 : decode cX3_readLaw 90 = .ok (.aload_n 0, 1) := by decide +kernel
theorem dX3_readLaw_91 : decode cX3_readLaw 91 = .ok (.iconst 0, 1) := by decide +kernel
theorem dX3_readLaw_92 : decode cX3_readLaw 92 = .ok (.invokevirtual 73, 3) := by decide +kernel
theorem dX3_readLaw_95 : decode cX3_readLaw 95 = .ok (.ifCond .eq 12, 3) := by decide +kernel
theorem dX3_readLaw_98 : decode cX3_readLaw 98 = .ok (.aload_n 0, 1) := by decide +kernel
theorem dX3_readLaw_99 : decode cX3_readLaw 99 = .ok (.bipush 59, 2) := by decide +kernel
theorem dX3_readLaw_101 : decode cX3_readLaw 101 = .ok (.invokevirtual 47, 3) := by decide +kernel
theorem dX3_readLaw_104 : decode cX3_readLaw 104 = .ok (.ifCond .ne 5, 3) := by decide +kernel
theorem dX3_readLaw_107 : decode cX3_readLaw 107 = .ok (.iconst 0, 1) := by decide +kernel
theorem dX3_readLaw_108 : decode cX3_readLaw 108 = .ok (.ireturn, 1) := by decide +kernel
theorem dX3_readLaw_109 : decode cX3_readLaw 109 = .ok (.aload_n 0, 1) := by decide +kernel
theorem dX3_readLaw_110 : decode cX3_readLaw 110 = .ok (.getfield 21, 3) := by decide +kernel
theorem dX3_readLaw_113 : decode cX3_readLaw 113 = .ok (.iload 4, 2) := by decide +kernel
theorem dX3_readLaw_115 : decode cX3_readLaw 115 = .ok (.invokevirtual 76, 3) := by decide +kernel
theorem dX3_readLaw_118 : decode cX3_readLaw 118 = .ok (.iinc 3 1, 3) := by decide +kernel
theorem dX3_readLaw_121 : decode cX3_readLaw 121 = .ok (.goto (-106), 3) := by decide +kernel
theorem dX3_readLaw_124 : decode cX3_readLaw 124 = .ok (.iconst 1, 1) := by decide +kernel
theorem dX3_readLaw_125 : decode cX3_readLaw 125 = .ok (.ireturn, 1) := by decide +kernel
theorem dX3_begin_0 : decode cX3_begin 0 = .ok (.aload_n 0, 1) := by decide +kernel
theorem dX3_begin_1 : decode cX3_begin 1 = .ok (.aload_n 1, 1) := by decide +kernel
theorem dX3_begin_2 : decode cX3_begin 2 = .ok (.putfield 29, 3) := by decide +kernel
theorem dX3_begin_5 : decode cX3_begin 5 = .ok (.aload_n 0, 1) := by decide +kernel
theorem dX3_begin_6 : decode cX3_begin 6 = .ok (.iload_n 2, 1) := by decide +kernel
theorem dX3_begin_7 : decode cX3_begin 7 = .ok (.aload_n 1, 1) := by decide +kernel
theorem dX3_begin_8 : decode cX3_begin 8 = .ok (.arraylength, 1) := by decide +kernel
theorem dX3_begin_9 : decode cX3_begin 9 = .ok (.invokestatic 80, 3) := by decide +kernel
theorem dX3_begin_12 : decode cX3_begin 12 = .ok (.putfield 86, 3) := by decide +kernel
theorem dX3_begin_15 : decode cX3_begin 15 = .ok (.aload_n 0, 1) := by decide +kernel
theorem dX3_begin_16 : decode cX3_begin 16 = .ok (.iconst 0, 1) := by decide +kernel
theorem dX3_begin_17 : decode cX3_begin 17 = .ok (.putfield 89, 3) := by decide +kernel
theorem dX3_begin_20 : decode cX3_begin 20 = .ok (.aload_n 0, 1) := by decide +kernel
theorem dX3_begin_21 : decode cX3_begin 21 = .ok (.iconst 0, 1) := by decide +kernel
theorem dX3_begin_22 : decode cX3_begin 22 = .ok (.putfield 92, 3) := by decide +kernel
theorem dX3_begin_25 : decode cX3_begin 25 = .ok (.aload_n 0, 1) := by decide +kernel
theorem dX3_begin_26 : decode cX3_begin 26 = .ok (.iconst (-1), 1) := by decide +kernel
theorem dX3_begin_27 : decode cX3_begin 27 = .ok (.putfield 25, 3) := by decide +kernel
theorem dX3_begin_30 : decode cX3_begin 30 = .ok (.aload_n 0, 1) := by decide +kernel
theorem dX3_begin_31 : decode cX3_begin 31 = .ok (.invokevirtual 95, 3) := by decide +kernel
theorem dX3_begin_34 : decode cX3_begin 34 = .ok (.return_, 1) := by decide +kernel
theorem dX3_readSceneLine_0 : decode cX3_readSceneLine 0 = .ok (.aload_n 0, 1) := by decide +kernel
theorem dX3_readSceneLine_1 : decode cX3_readSceneLine 1 = .ok (.getfield 40, 3) := by decide +kernel
theorem dX3_readSceneLine_4 : decode cX3_readSceneLine 4 = .ok (.iconst 2, 1) := by decide +kernel
theorem dX3_readSceneLine_5 : decode cX3_readSceneLine 5 = .ok (.if_icmp .ne 10, 3) := by decide +kernel
theorem dX3_readSceneLine_8 : decode cX3_readSceneLine 8 = .ok (.aload_n 0, 1) := by decide +kernel
theorem dX3_readSceneLine_9 : decode cX3_readSceneLine 9 = .ok (.getfield 98, 3) := by decide +kernel
theorem dX3_readSceneLine_12 : decode cX3_readSceneLine 12 = .ok (.ifCond .ge 8, 3) := by decide +kernel
theorem dX3_readSceneLine_15 : decode cX3_readSceneLine 15 = .ok (.aload_n 0, 1) := by decide +kernel
theorem dX3_readSceneLine_16 : decode cX3_readSceneLine 16 = .ok (.invokevirtual 101, 3) := by decide +kernel
theorem dX3_readSceneLine_19 : decode cX3_readSceneLine 19 = .ok (.ireturn, 1) := by decide +kernel
theorem dX3_readSceneLine_20 : decode cX3_readSceneLine 20 = .ok (.aload_n 0, 1) := by decide +kernel
theorem dX3_readSceneLine_21 : decode cX3_readSceneLine 21 = .ok (.getfield 98, 3) := by decide +kernel
theorem dX3_readSceneLine_24 : decode cX3_readSceneLine 24 = .ok (.bipush 7, 2) := by decide +kernel
theorem dX3_readSceneLine_26 : decode cX3_readSceneLine 26 = .ok (.if_icmp .gt 27, 3) := by decide +kernel
theorem dX3_readSceneLine_29 : decode cX3_readSceneLine 29 = .ok (.aload_n 0, 1) := by decide +kernel
theorem dX3_readSceneLine_30 : decode cX3_readSceneLine 30 = .ok (.getfield 12, 3) := by decide +kernel
theorem dX3_readSceneLine_33 : decode cX3_readSceneLine 33 = .ok (.dup, 1) := by decide +kernel
theorem dX3_readSceneLine_34 : decode cX3_readSceneLine 34 = .ok (.getfield 104, 3) := by decide +kernel
theorem dX3_readSceneLine_37 : decode cX3_readSceneLine 37 = .ok (.iconst 1, 1) := by decide +kernel
theorem dX3_readSceneLine_38 : decode cX3_readSceneLine 38 = .ok (.aload_n 0, 1) := by decide +kernel
theorem dX3_readSceneLine_39 : decode cX3_readSceneLine 39 = .ok (.getfield 98, 3) := by decide +kernel
theorem dX3_readSceneLine_42 : decode cX3_readSceneLine 42 = .ok (.ishl, 1) := by decide +kernel
theorem dX3_readSceneLine_43 : decode cX3_readSceneLine 43 = .ok (.ior, 1) := by decide +kernel
theorem dX3_readSceneLine_44 : decode cX3_readSceneLine 44 = .ok (.putfield 104, 3) := by decide +kernel
theorem dX3_readSceneLine_47 : decode cX3_readSceneLine 47 = .ok (.aload_n 0, 1) := by decide +kernel
theorem dX3_readSceneLine_48 : decode cX3_readSceneLine 48 = .ok (.invokevirtual 95, 3) := by decide +kernel
theorem dX3_readSceneLine_51 : decode cX3_readSceneLine 51 = .ok (.iconst 1, 1) := by decide +kernel
theorem dX3_readSceneLine_52 : decode cX3_readSceneLine 52 = .ok (.ireturn, 1) := by decide +kernel
theorem dX3_readSceneLine_53 : decode cX3_readSceneLine 53 = .ok (.aload_n 0, 1) := by decide +kernel
theorem dX3_readSceneLine_54 : decode cX3_readSceneLine 54 = .ok (.getfield 98, 3) := by decide +kernel
theorem dX3_readSceneLine_57 : decode cX3_readSceneLine 57 = .ok (.tableswitch 81 19 26 #[47, 52, 81, 81, 57, 63, 69, 75], 47) := by decide +kernel
theorem dX3_readSceneLine_104 : decode cX3_readSceneLine 104 = .ok (.aload_n 0, 1) := by decide +kernel
theorem dX3_readSceneLine_105 : decode cX3_readSceneLine 105 = .ok (.invokevirtual 107, 3) := by decide +kernel
theorem dX3_readSceneLine_108 : decode cX3_readSceneLine 108 = .ok (.ireturn, 1) := by decide +kernel
theorem dX3_readSceneLine_109 : decode cX3_readSceneLine 109 = .ok (.aload_n 0, 1) := by decide +kernel
theorem dX3_readSceneLine_110 : decode cX3_readSceneLine 110 = .ok (.invokevirtual 110, 3) := by decide +kernel
theorem dX3_readSceneLine_113 : decode cX3_readSceneLine 113 = .ok (.ireturn, 1) := by decide +kernel
theorem dX3_readSceneLine_114 : decode cX3_readSceneLine 114 = .ok (.aload_n 0, 1) := by decide +kernel
theorem dX3_readSceneLine_115 : decode cX3_readSceneLine 115 = .ok (.iconst 0, 1) := by decide +kernel
theorem dX3_readSceneLine_116 : decode cX3_readSceneLine 116 = .ok (.invokevirtual 113, 3) := by decide +kernel
theorem dX3_readSceneLine_119 : decode cX3_readSceneLine 119 = .ok (.ireturn, 1) := by decide +kernel
theorem dX3_readSceneLine_120 : decode cX3_readSceneLine 120 = .ok (.aload_n 0, 1) := by decide +kernel
theorem dX3_readSceneLine_121 : decode cX3_readSceneLine 121 = .ok (.iconst 1, 1) := by decide +kernel
theorem dX3_readSceneLine_122 : decode cX3_readSceneLine 122 = .ok (.invokevirtual 113, 3) := by decide +kernel
theorem dX3_readSceneLine_125 : decode cX3_readSceneLine 125 = .ok (.ireturn, 1) := by decide +kernel
theorem dX3_readSceneLine_126 : decode cX3_readSceneLine 126 = .ok (.aload_n 0, 1) := by decide +kernel
theorem dX3_readSceneLine_127 : decode cX3_readSceneLine 127 = .ok (.iconst 2, 1) := by decide +kernel
theorem dX3_readSceneLine_128 : decode cX3_readSceneLine 128 = .ok (.invokevirtual 113, 3) := by decide +kernel
theorem dX3_readSceneLine_131 : decode cX3_readSceneLine 131 = .ok (.ireturn, 1) := by decide +kernel
theorem dX3_readSceneLine_132 : decode cX3_readSceneLine 132 = .ok (.aload_n 0, 1) := by decide +kernel
theorem dX3_readSceneLine_133 : decode cX3_readSceneLine 133 = .ok (.iconst 3, 1) := by decide +kernel
theorem dX3_readSceneLine_134 : decode cX3_readSceneLine 134 = .ok (.invokevirtual 113, 3) := by decide +kernel
theorem dX3_readSceneLine_137 : decode cX3_readSceneLine 137 = .ok (.ireturn, 1) := by decide +kernel
theorem dX3_readSceneLine_138 : decode cX3_readSceneLine 138 = .ok (.aload_n 0, 1) := by decide +kernel
theorem dX3_readSceneLine_139 : decode cX3_readSceneLine 139 = .ok (.invokevirtual 101, 3) := by decide +kernel
theorem dX3_readSceneLine_142 : decode cX3_readSceneLine 142 = .ok (.ireturn, 1) := by decide +kernel
theorem dX3_readLanes_0 : decode cX3_readLanes 0 = .ok (.aload_n 0, 1) := by decide +kernel
theorem dX3_readLanes_1 : decode cX3_readLanes 1 = .ok (.invokevirtual 95, 3) := by decide +kernel
theorem dX3_readLanes_4 : decode cX3_readLanes 4 = .ok (.aload_n 0, 1) := by decide +kernel
theorem dX3_readLanes_5 : decode cX3_readLanes 5 = .ok (.aload_n 0, 1) := by decide +kernel
theorem dX3_readLanes_6 : decode cX3_readLanes 6 = .ok (.getfield 12, 3) := by decide +kernel
theorem dX3_readLanes_9 : decode cX3_readLanes 9 = .ok (.invokevirtual 116, 3) := by decide +kernel
theorem dX3_readLanes_12 : decode cX3_readLanes 12 = .ok (.iconst 4, 1) := by decide +kernel
theorem dX3_readLanes_13 : decode cX3_readLanes 13 = .ok (.invokevirtual 66, 3) := by decide +kernel
theorem dX3_readLanes_16 : decode cX3_readLanes 16 = .ok (.ifCond .ne 5, 3) := by decide +kernel
theorem dX3_readLanes_19 : decode cX3_readLanes 19 = .ok (.iconst 0, 1) := by decide +kernel
theorem dX3_readLanes_20 : decode cX3_readLanes 20 = .ok (.ireturn, 1) := by decide +kernel
theorem dX3_readLanes_21 : decode cX3_readLanes 21 = .ok (.aload_n 0, 1) := by decide +kernel
theorem dX3_readLanes_22 : decode cX3_readLanes 22 = .ok (.getfield 12, 3) := by decide +kernel
theorem dX3_readLanes_25 : decode cX3_readLanes 25 = .ok (.aload_n 0, 1) := by decide +kernel
theorem dX3_readLanes_26 : decode cX3_readLanes 26 = .ok (.getfield 70, 3) := by decide +kernel
theorem dX3_readLanes_29 : decode cX3_readLanes 29 = .ok (.putfield 120, 3) := by decide +kernel
theorem dX3_readLanes_32 : decode cX3_readLanes 32 = .ok (.iconst 1, 1) := by decide +kernel
theorem dX3_readLanes_33 : decode cX3_readLanes 33 = .ok (.ireturn, 1) := by decide +kernel
theorem dX3_readSetting_0 : decode cX3_readSetting 0 = .ok (.aload_n 0, 1) := by decide +kernel
theorem dX3_readSetting_1 : decode cX3_readSetting 1 = .ok (.invokevirtual 95, 3) := by decide +kernel
theorem dX3_readSetting_4 : decode cX3_readSetting 4 = .ok (.aload_n 0, 1) := by decide +kernel
theorem dX3_readSetting_5 : decode cX3_readSetting 5 = .ok (.iload_n 1, 1) := by decide +kernel
theorem dX3_readSetting_6 : decode cX3_readSetting 6 = .ok (.invokestatic 123, 3) := by decide +kernel
theorem dX3_readSetting_9 : decode cX3_readSetting 9 = .ok (.iload_n 1, 1) := by decide +kernel
theorem dX3_readSetting_10 : decode cX3_readSetting 10 = .ok (.invokestatic 127, 3) := by decide +kernel
theorem dX3_readSetting_13 : decode cX3_readSetting 13 = .ok (.invokevirtual 66, 3) := by decide +kernel
theorem dX3_readSetting_16 : decode cX3_readSetting 16 = .ok (.ifCond .ne 5, 3) := by decide +kernel
theorem dX3_readSetting_19 : decode cX3_readSetting 19 = .ok (.iconst 0, 1) := by decide +kernel
theorem dX3_readSetting_20 : decode cX3_readSetting 20 = .ok (.ireturn, 1) := by decide +kernel
theorem dX3_readSetting_21 : decode cX3_readSetting 21 = .ok (.aload_n 0, 1) := by decide +kernel
theorem dX3_readSetting_22 : decode cX3_readSetting 22 = .ok (.getfield 12, 3) := by decide +kernel
theorem dX3_readSetting_25 : decode cX3_readSetting 25 = .ok (.iload_n 1, 1) := by decide +kernel
theorem dX3_readSetting_26 : decode cX3_readSetting 26 = .ok (.aload_n 0, 1) := by decide +kernel
theorem dX3_readSetting_27 : decode cX3_readSetting 27 = .ok (.getfield 70, 3) := by decide +kernel
theorem dX3_readSetting_30 : decode cX3_readSetting 30 = .ok (.invokevirtual 130, 3) := by decide +kernel
theorem dX3_readSetting_33 : decode cX3_readSetting 33 = .ok (.pop, 1) := by decide +kernel
theorem dX3_readSetting_34 : decode cX3_readSetting 34 = .ok (.iconst 1, 1) := by decide +kernel
theorem dX3_readSetting_35 : decode cX3_readSetting 35 = .ok (.ireturn, 1) := by decide +kernel
theorem dX3_readCar_0 : decode cX3_readCar 0 = .ok (.aload_n 0, 1) := by decide +kernel
theorem dX3_readCar_1 : decode cX3_readCar 1 = .ok (.getfield 12, 3) := by decide +kernel
theorem dX3_readCar_4 : decode cX3_readCar 4 = .ok (.getfield 133, 3) := by decide +kernel
theorem dX3_readCar_7 : decode cX3_readCar 7 = .ok (.istore_n 1, 1) := by decide +kernel
theorem dX3_readCar_8 : decode cX3_readCar 8 = .ok (.iload_n 1, 1) := by decide +kernel
theorem dX3_readCar_9 : decode cX3_readCar 9 = .ok (.bipush 8, 2) := by decide +kernel
theorem dX3_readCar_11 : decode cX3_readCar 11 = .ok (.if_icmp .lt 9, 3) := by decide +kernel
theorem dX3_readCar_14 : decode cX3_readCar 14 = .ok (.aload_n 0, 1) := by decide +kernel
theorem dX3_readCar_15 : decode cX3_readCar 15 = .ok (.iconst 4, 1) := by decide +kernel
theorem dX3_readCar_16 : decode cX3_readCar 16 = .ok (.invokevirtual 60, 3) := by decide +kernel
theorem dX3_readCar_19 : decode cX3_readCar 19 = .ok (.ireturn, 1) := by decide +kernel
theorem dX3_readCar_20 : decode cX3_readCar 20 = .ok (.aload_n 0, 1) := by decide +kernel
theorem dX3_readCar_21 : decode cX3_readCar 21 = .ok (.invokevirtual 95, 3) := by decide +kernel
theorem dX3_readCar_24 : decode cX3_readCar 24 = .ok (.aload_n 0, 1) := by decide +kernel
theorem dX3_readCar_25 : decode cX3_readCar 25 = .ok (.iconst 0, 1) := by decide +kernel
theorem dX3_readCar_26 : decode cX3_readCar 26 = .ok (.aload_n 0, 1) := by decide +kernel
theorem dX3_readCar_27 : decode cX3_readCar 27 = .ok (.getfield 12, 3) := by decide +kernel
theorem dX3_readCar_30 : decode cX3_readCar 30 = .ok (.getfield 120, 3) := by decide +kernel
theorem dX3_readCar_33 : decode cX3_readCar 33 = .ok (.iconst 1, 1) := by decide +kernel
theorem dX3_readCar_34 : decode cX3_readCar 34 = .ok (.isub, 1) := by decide +kernel
theorem dX3_readCar_35 : decode cX3_readCar 35 = .ok (.invokevirtual 66, 3) := by decide +kernel
theorem dX3_readCar_38 : decode cX3_readCar 38 = .ok (.ifCond .ne 5, 3) := by decide +kernel
theorem dX3_readCar_41 : decode cX3_readCar 41 = .ok (.iconst 0, 1) := by decide +kernel
theorem dX3_readCar_42 : decode cX3_readCar 42 = .ok (.ireturn, 1) := by decide +kernel
theorem dX3_readCar_43 : decode cX3_readCar 43 = .ok (.aload_n 0, 1) := by decide +kernel
theorem dX3_readCar_44 : decode cX3_readCar 44 = .ok (.getfield 12, 3) := by decide +kernel
theorem dX3_readCar_47 : decode cX3_readCar 47 = .ok (.getfield 136, 3) := by decide +kernel
theorem dX3_readCar_50 : decode cX3_readCar 50 = .ok (.iload_n 1, 1) := by decide +kernel
theorem dX3_readCar_51 : decode cX3_readCar 51 = .ok (.aload_n 0, 1) := by decide +kernel
theorem dX3_readCar_52 : decode cX3_readCar 52 = .ok (.getfield 70, 3) := by decide +kernel
theorem dX3_readCar_55 : decode cX3_readCar 55 = .ok (.iastore, 1) := by decide +kernel
theorem dX3_readCar_56 : decode cX3_readCar 56 = .ok (.aload_n 0, 1) := by decide +kernel
theorem dX3_readCar_57 : decode cX3_readCar 57 = .ok (.bipush 21, 2) := by decide +kernel
theorem dX3_readCar_59 : decode cX3_readCar 59 = .ok (.invokevirtual 63, 3) := by decide +kernel
theorem dX3_readCar_62 : decode cX3_readCar 62 = .ok (.ifCond .eq 14, 3) := by decide +kernel
theorem dX3_readCar_65 : decode cX3_readCar 65 = .ok (.aload_n 0, 1) := by decide +kernel
theorem dX3_readCar_66 : decode cX3_readCar 66 = .ok (.iconst 1, 1) := by decide +kernel
theorem dX3_readCar_67 : decode cX3_readCar 67 = .ok (.sipush 200, 3) := by decide +kernel
theorem dX3_readCar_70 : decode cX3_readCar 70 = .ok (.invokevirtual 66, 3) := by decide +kernel
theorem dX3_readCar_73 : decode cX3_readCar 73 = .ok (.ifCond .ne 5, 3) := by decide +kernel
theorem dX3_readCar_76 : decode cX3_readCar 76 = .ok (.iconst 0, 1) := by decide +kernel
theorem dX3_readCar_77 : decode cX3_readCar 77 = .ok (.ireturn, 1) := by decide +kernel
theorem dX3_readCar_78 : decode cX3_readCar 78 = .ok (.aload_n 0, 1) := by decide +kernel
theorem dX3_readCar_79 : decode cX3_readCar 79 = .ok (.getfield 12, 3) := by decide +kernel
theorem dX3_readCar_82 : decode cX3_readCar 82 = .ok (.getfield 140, 3) := by decide +kernel
theorem dX3_readCar_85 : decode cX3_readCar 85 = .ok (.iload_n 1, 1) := by decide +kernel
theorem dX3_readCar_86 : decode cX3_readCar 86 = .ok (.aload_n 0, 1) := by decide +kernel
theorem dX3_readCar_87 : decode cX3_readCar 87 = .ok (.getfield 70, 3) := by decide +kernel
theorem dX3_readCar_90 : decode cX3_readCar 90 = .ok (.iastore, 1) := by decide +kernel
theorem dX3_readCar_91 : decode cX3_readCar 91 = .ok (.aload_n 0, 1) := by decide +kernel
theorem dX3_readCar_92 : decode cX3_readCar 92 = .ok (.bipush 22, 2) := by decide +kernel
theorem dX3_readCar_94 : decode cX3_readCar 94 = .ok (.invokevirtual 63, 3) := by decide +kernel
theorem dX3_readCar_97 : decode cX3_readCar 97 = .ok (.ifCond .eq 13, 3) := by decide +kernel
theorem dX3_readCar_100 : decode cX3_readCar 100 = .ok (.aload_n 0, 1) := by decide +kernel
theorem dX3_readCar_101 : decode cX3_readCar 101 = .ok (.iconst 1, 1) := by decide +kernel
theorem dX3_readCar_102 : decode cX3_readCar 102 = .ok (.bipush 9, 2) := by decide +kernel
theorem dX3_readCar_104 : decode cX3_readCar 104 = .ok (.invokevirtual 66, 3) := by decide +kernel
theorem dX3_readCar_107 : decode cX3_readCar 107 = .ok (.ifCond .ne 5, 3) := by decide +kernel
theorem dX3_readCar_110 : decode cX3_readCar 110 = .ok (.iconst 0, 1) := by decide +kernel
theorem dX3_readCar_111 : decode cX3_readCar 111 = .ok (.ireturn, 1) := by decide +kernel
theorem dX3_readCar_112 : decode cX3_readCar 112 = .ok (.aload_n 0, 1) := by decide +kernel
theorem dX3_readCar_113 : decode cX3_readCar 113 = .ok (.getfield 12, 3) := by decide +kernel
theorem dX3_readCar_116 : decode cX3_readCar 116 = .ok (.getfield 143, 3) := by decide +kernel
theorem dX3_readCar_119 : decode cX3_readCar 119 = .ok (.iload_n 1, 1) := by decide +kernel
theorem dX3_readCar_120 : decode cX3_readCar 120 = .ok (.aload_n 0, 1) := by decide +kernel
theorem dX3_readCar_121 : decode cX3_readCar 121 = .ok (.getfield 70, 3) := by decide +kernel
theorem dX3_readCar_124 : decode cX3_readCar 124 = .ok (.iastore, 1) := by decide +kernel
theorem dX3_readCar_125 : decode cX3_readCar 125 = .ok (.aload_n 0, 1) := by decide +kernel
theorem dX3_readCar_126 : decode cX3_readCar 126 = .ok (.bipush 11, 2) := by decide +kernel
theorem dX3_readCar_128 : decode cX3_readCar 128 = .ok (.invokevirtual 63, 3) := by decide +kernel
theorem dX3_readCar_131 : decode cX3_readCar 131 = .ok (.ifCond .eq 12, 3) := by decide +kernel
theorem dX3_readCar_134 : decode cX3_readCar 134 = .ok (.aload_n 0, 1) := by decide +kernel
theorem dX3_readCar_135 : decode cX3_readCar 135 = .ok (.iconst 0, 1) := by decide +kernel
theorem dX3_readCar_136 : decode cX3_readCar 136 = .ok (.iconst 3, 1) := by decide +kernel
theorem dX3_readCar_137 : decode cX3_readCar 137 = .ok (.invokevirtual 66, 3) := by decide +kernel
theorem dX3_readCar_140 : decode cX3_readCar 140 = .ok (.ifCond .ne 5, 3) := by decide +kernel
theorem dX3_readCar_143 : decode cX3_readCar 143 = .ok (.iconst 0, 1) := by decide +kernel
theorem dX3_readCar_144 : decode cX3_readCar 144 = .ok (.ireturn, 1) := by decide +kernel
theorem dX3_readCar_145 : decode cX3_readCar 145 = .ok (.aload_n 0, 1) := by decide +kernel
theorem dX3_readCar_146 : decode cX3_readCar 146 = .ok (.getfield 12, 3) := by decide +kernel
theorem dX3_readCar_149 : decode cX3_readCar 149 = .ok (.getfield 146, 3) := by decide +kernel
theorem dX3_readCar_152 : decode cX3_readCar 152 = .ok (.iload_n 1, 1) := by decide +kernel
theorem dX3_readCar_153 : decode cX3_readCar 153 = .ok (.aload_n 0, 1) := by decide +kernel
theorem dX3_readCar_154 : decode cX3_readCar 154 = .ok (.getfield 70, 3) := by decide +kernel
theorem dX3_readCar_157 : decode cX3_readCar 157 = .ok (.iastore, 1) := by decide +kernel
theorem dX3_readCar_158 : decode cX3_readCar 158 = .ok (.aload_n 0, 1) := by decide +kernel
theorem dX3_readCar_159 : decode cX3_readCar 159 = .ok (.getfield 12, 3) := by decide +kernel
theorem dX3_readCar_162 : decode cX3_readCar 162 = .ok (.dup, 1) := by decide +kernel
theorem dX3_readCar_163 : decode cX3_readCar 163 = .ok (.getfield 133, 3) := by decide +kernel
theorem dX3_readCar_166 : decode cX3_readCar 166 = .ok (.iconst 1, 1) := by decide +kernel
theorem dX3_readCar_167 : decode cX3_readCar 167 = .ok (.iadd, 1) := by decide +kernel
theorem dX3_readCar_168 : decode cX3_readCar 168 = .ok (.putfield 133, 3) := by decide +kernel
theorem dX3_readCar_171 : decode cX3_readCar 171 = .ok (.iconst 1, 1) := by decide +kernel
theorem dX3_readCar_172 : decode cX3_readCar 172 = .ok (.ireturn, 1) := by decide +kernel
theorem dX3_readTest_0 : decode cX3_readTest 0 = .ok (.iconst 0, 1) := by decide +kernel
theorem dX3_readTest_1 : decode cX3_readTest 1 = .ok (.istore_n 2, 1) := by decide +kernel
theorem dX3_readTest_2 : decode cX3_readTest 2 = .ok (.iconst 0, 1) := by decide +kernel
theorem dX3_readTest_3 : decode cX3_readTest 3 = .ok (.istore_n 3, 1) := by decide +kernel
theorem dX3_readTest_4 : decode cX3_readTest 4 = .ok (.iconst 0, 1) := by decide +kernel
theorem dX3_readTest_5 : decode cX3_readTest 5 = .ok (.istore 4, 2) := by decide +kernel
theorem dX3_readTest_7 : decode cX3_readTest 7 = .ok (.iload 4, 2) := by decide +kernel
theorem dX3_readTest_9 : decode cX3_readTest 9 = .ok (.aload_n 0, 1) := by decide +kernel
theorem dX3_readTest_10 : decode cX3_readTest 10 = .ok (.getfield 86, 3) := by decide +kernel
theorem dX3_readTest_13 : decode cX3_readTest 13 = .ok (.if_icmp .gt 77, 3) := by decide +kernel
theorem dX3_readTest_16 : decode cX3_readTest 16 = .ok (.aload_n 0, 1) := by decide +kernel
theorem dX3_readTest_17 : decode cX3_readTest 17 = .ok (.iload_n 1, 1) := by decide +kernel
theorem dX3_readTest_18 : decode cX3_readTest 18 = .ok (.invokevirtual 149, 3) := by decide +kernel
theorem dX3_readTest_21 : decode cX3_readTest 21 = .ok (.ifCond .ne 5, 3) := by decide +kernel
theorem dX3_readTest_24 : decode cX3_readTest 24 = .ok (.iconst 0, 1) := by decide +kernel
theorem dX3_readTest_25 : decode cX3_readTest 25 = .ok (.ireturn, 1) := by decide +kernel
theorem dX3_readTest_26 : decode cX3_readTest 26 = .ok (.iload_n 3, 1) := by decide +kernel
theorem dX3_readTest_27 : decode cX3_readTest 27 = .ok (.ifCond .eq 14, 3) := by decide +kernel
theorem dX3_readTest_30 : decode cX3_readTest 30 = .ok (.aload_n 0, 1) := by decide +kernel
theorem dX3_readTest_31 : decode cX3_readTest 31 = .ok (.getfield 21, 3) := by decide +kernel
theorem dX3_readTest_34 : decode cX3_readTest 34 = .ok (.bipush 17, 2) := by decide +kernel
theorem dX3_readTest_36 : decode cX3_readTest 36 = .ok (.iconst 0, 1) := by decide +kernel
theorem dX3_readTest_37 : decode cX3_readTest 37 = .ok (.invokevirtual 152, 3) := by decide +kernel
theorem dX3_readTest_40 : decode cX3_readTest 40 = .ok (.pop, 1) := by decide +kernel
theorem dX3_readTest_41 : decode cX3_readTest 41 = .ok (.aload_n 0, 1) := by decide +kernel
theorem dX3_readTest_42 : decode cX3_readTest 42 = .ok (.bipush 17, 2) := by decide +kernel
theorem dX3_readTest_44 : decode cX3_readTest 44 = .ok (.invokevirtual 55, 3) := by decide +kernel
theorem dX3_readTest_47 : decode cX3_readTest 47 = .ok (.istore_n 3, 1) := by decide +kernel
theorem dX3_readTest_48 : decode cX3_readTest 48 = .ok (.iload_n 3, 1) := by decide +kernel
theorem dX3_readTest_49 : decode cX3_readTest 49 = .ok (.ifCond .ne 31, 3) := by decide +kernel
theorem dX3_readTest_52 : decode cX3_readTest 52 = .ok (.iload_n 2, 1) := by decide +kernel
theorem dX3_readTest_53 : decode cX3_readTest 53 = .ok (.ifCond .eq 14, 3) := by decide +kernel
theorem dX3_readTest_56 : decode cX3_readTest 56 = .ok (.aload_n 0, 1) := by decide +kernel
theorem dX3_readTest_57 : decode cX3_readTest 57 = .ok (.getfield 21, 3) := by decide +kernel
theorem dX3_readTest_60 : decode cX3_readTest 60 = .ok (.bipush 18, 2) := by decide +kernel
theorem dX3_readTest_62 : decode cX3_readTest 62 = .ok (.iconst 0, 1) := by decide +kernel
theorem dX3_readTest_63 : decode cX3_readTest 63 = .ok (.invokevirtual 152, 3) := by decide +kernel
theorem dX3_readTest_66 : decode cX3_readTest 66 = .ok (.pop, 1) := by decide +kernel
theorem dX3_readTest_67 : decode cX3_readTest 67 = .ok (.aload_n 0, 1) := by decide +kernel
theorem dX3_readTest_68 : decode cX3_readTest 68 = .ok (.bipush 18, 2) := by decide +kernel
theorem dX3_readTest_70 : decode cX3_readTest 70 = .ok (.invokevirtual 55, 3) := by decide +kernel
theorem dX3_readTest_73 : decode cX3_readTest 73 = .ok (.istore_n 2, 1) := by decide +kernel
theorem dX3_readTest_74 : decode cX3_readTest 74 = .ok (.iload_n 2, 1) := by decide +kernel
theorem dX3_readTest_75 : decode cX3_readTest 75 = .ok (.ifCond .ne 5, 3) := by decide +kernel
theorem dX3_readTest_78 : decode cX3_readTest 78 = .ok (.iconst 1, 1) := by decide +kernel
theorem dX3_readTest_79 : decode cX3_readTest 79 = .ok (.ireturn, 1) := by decide +kernel
theorem dX3_readTest_80 : decode cX3_readTest 80 = .ok (.aload_n 0, 1) := by decide +kernel
theorem dX3_readTest_81 : decode cX3_readTest 81 = .ok (.invokevirtual 95, 3) := by decide +kernel
theorem dX3_readTest_84 : decode cX3_readTest 84 = .ok (.iinc 4 1, 3) := by decide +kernel
theorem dX3_readTest_87 : decode cX3_readTest 87 = .ok (.goto (-80), 3) := by decide +kernel
theorem dX3_readTest_90 : decode cX3_readTest 90 = .ok (.iconst 0, 1) := by decide +kernel
theorem dX3_readTest_91 : decode cX3_readTest 91 = .ok (.ireturn, 1) := by decide +kernel
theorem dX3_readFact_0 : decode cX3_readFact 0 = .ok (.aload_n 0, 1) := by decide +kernel
theorem dX3_readFact_1 : decode cX3_readFact 1 = .ok (.getfield 40, 3) := by decide +kernel
theorem dX3_readFact_4 : decode cX3_readFact 4 = .ok (.iconst 4, 1) := by decide +kernel
theorem dX3_readFact_5 : decode cX3_readFact 5 = .ok (.if_icmp .ne 16, 3) := by decide +kernel
theorem dX3_readFact_8 : decode cX3_readFact 8 = .ok (.aload_n 0, 1) := by decide +kernel
theorem dX3_readFact_9 : decode cX3_readFact 9 = .ok (.getfield 98, 3) := by decide +kernel
theorem dX3_readFact_12 : decode cX3_readFact 12 = .ok (.bipush 40, 2) := by decide +kernel
theorem dX3_readFact_14 : decode cX3_readFact 14 = .ok (.if_icmp .ne 7, 3) := by decide +kernel
theorem dX3_readFact_17 : decode cX3_readFact 17 = .ok (.iconst 1, 1) := by decide +kernel
theorem dX3_readFact_18 : decode cX3_readFact 18 = .ok (.goto 4, 3) := by decide +kernel
theorem dX3_readFact_21 : decode cX3_readFact 21 = .ok (.iconst 0, 1) := by decide +kernel
theorem dX3_readFact_22 : decode cX3_readFact 22 = .ok (.istore_n 2, 1) := by decide +kernel
theorem dX3_readFact_23 : decode cX3_readFact 23 = .ok (.iload_n 2, 1) := by decide +kernel
theorem dX3_readFact_24 : decode cX3_readFact 24 = .ok (.ifCond .ne 12, 3) := by decide +kernel
theorem dX3_readFact_27 : decode cX3_readFact 27 = .ok (.aload_n 0, 1) := by decide +kernel
theorem dX3_readFact_28 : decode cX3_readFact 28 = .ok (.bipush 16, 2) := by decide +kernel
theorem dX3_readFact_30 : decode cX3_readFact 30 = .ok (.invokevirtual 55, 3) := by decide +kernel
theorem dX3_readFact_33 : decode cX3_readFact 33 = .ok (.ifCond .eq 15, 3) := by decide +kernel
theorem dX3_readFact_36 : decode cX3_readFact 36 = .ok (.iload_n 1, 1) := by decide +kernel
theorem dX3_readFact_37 : decode cX3_readFact 37 = .ok (.bipush 8, 2) := by decide +kernel
theorem dX3_readFact_39 : decode cX3_readFact 39 = .ok (.if_icmp .lt 9, 3) := by decide +kernel
theorem dX3_readFact_42 : decode cX3_readFact 42 = .ok (.aload_n 0, 1) := by decide +kernel
theorem dX3_readFact_43 : decode cX3_readFact 43 = .ok (.iconst 5, 1) := by decide +kernel
theorem dX3_readFact_44 : decode cX3_readFact 44 = .ok (.invokevirtual 60, 3) := by decide +kernel
theorem dX3_readFact_47 : decode cX3_readFact 47 = .ok (.ireturn, 1) := by decide +kernel
theorem dX3_readFact_48 : decode cX3_readFact 48 = .ok (.iload_n 2, 1) := by decide +kernel
theorem dX3_readFact_49 : decode cX3_readFact 49 = .ok (.ifCond .eq 32, 3) := by decide +kernel
theorem dX3_readFact_52 : decode cX3_readFact 52 = .ok (.aload_n 0, 1) := by decide +kernel
theorem dX3_readFact_53 : decode cX3_readFact 53 = .ok (.invokevirtual 95, 3) := by decide +kernel
theorem dX3_readFact_56 : decode cX3_readFact 56 = .ok (.aload_n 0, 1) := by decide +kernel
theorem dX3_readFact_57 : decode cX3_readFact 57 = .ok (.iload_n 1, 1) := by decide +kernel
theorem dX3_readFact_58 : decode cX3_readFact 58 = .ok (.iconst 1, 1) := by decide +kernel
theorem dX3_readFact_59 : decode cX3_readFact 59 = .ok (.iadd, 1) := by decide +kernel
theorem dX3_readFact_60 : decode cX3_readFact 60 = .ok (.invokevirtual 73, 3) := by decide +kernel
theorem dX3_readFact_63 : decode cX3_readFact 63 = .ok (.ifCond .eq 16, 3) := by decide +kernel
theorem dX3_readFact_66 : decode cX3_readFact 66 = .ok (.aload_n 0, 1) := by decide +kernel
theorem dX3_readFact_67 : decode cX3_readFact 67 = .ok (.bipush 41, 2) := by decide +kernel
theorem dX3_readFact_69 : decode cX3_readFact 69 = .ok (.invokevirtual 47, 3) := by decide +kernel
theorem dX3_readFact_72 : decode cX3_readFact 72 = .ok (.ifCond .eq 7, 3) := by decide +kernel
theorem dX3_readFact_75 : decode cX3_readFact 75 = .ok (.iconst 1, 1) := by decide +kernel
theorem dX3_readFact_76 : decode cX3_readFact 76 = .ok (.goto 4, 3) := by decide +kernel
theorem dX3_readFact_79 : decode cX3_readFact 79 = .ok (.iconst 0, 1) := by decide +kernel
theorem dX3_readFact_80 : decode cX3_readFact 80 = .ok (.ireturn, 1) := by decide +kernel
theorem dX3_readFact_81 : decode cX3_readFact 81 = .ok (.aload_n 0, 1) := by decide +kernel
theorem dX3_readFact_82 : decode cX3_readFact 82 = .ok (.bipush 16, 2) := by decide +kernel
theorem dX3_readFact_84 : decode cX3_readFact 84 = .ok (.invokevirtual 55, 3) := by decide +kernel
theorem dX3_readFact_87 : decode cX3_readFact 87 = .ok (.ifCond .eq 36, 3) := by decide +kernel
theorem dX3_readFact_90 : decode cX3_readFact 90 = .ok (.aload_n 0, 1) := by decide +kernel
theorem dX3_readFact_91 : decode cX3_readFact 91 = .ok (.invokevirtual 95, 3) := by decide +kernel
theorem dX3_readFact_94 : decode cX3_readFact 94 = .ok (.aload_n 0, 1) := by decide +kernel
theorem dX3_readFact_95 : decode cX3_readFact 95 = .ok (.iload_n 1, 1) := by decide +kernel
theorem dX3_readFact_96 : decode cX3_readFact 96 = .ok (.iconst 1, 1) := by decide +kernel
theorem dX3_readFact_97 : decode cX3_readFact 97 = .ok (.iadd, 1) := by decide +kernel
theorem dX3_readFact_98 : decode cX3_readFact 98 = .ok (.invokevirtual 149, 3) := by decide +kernel
theorem dX3_readFact_101 : decode cX3_readFact 101 = .ok (.ifCond .eq 20, 3) := by decide +kernel
theorem dX3_readFact_104 : decode cX3_readFact 104 = .ok (.aload_n 0, 1) := by decide +kernel
theorem dX3_readFact_105 : decode cX3_readFact 105 = .ok (.getfield 21, 3) := by decide +kernel
theorem dX3_readFact_108 : decode cX3_readFact 108 = .ok (.bipush 16, 2) := by decide +kernel
theorem dX3_readFact_110 : decode cX3_readFact 110 = .ok (.iconst 0, 1) := by decide +kernel
theorem dX3_readFact_111 : decode cX3_readFact 111 = .ok (.invokevirtual 152, 3) := by decide +kernel
theorem dX3_readFact_114 : decode cX3_readFact 114 = .ok (.ifCond .eq 7, 3) := by decide +kernel
theorem dX3_readFact_117 : decode cX3_readFact 117 = .ok (.iconst 1, 1) := by decide +kernel
theorem dX3_readFact_118 : decode cX3_readFact 118 = .ok (.goto 4, 3) := by decide +kernel
theorem dX3_readFact_121 : decode cX3_readFact 121 = .ok (.iconst 0, 1) := by decide +kernel
theorem dX3_readFact_122 : decode cX3_readFact 122 = .ok (.ireturn, 1) := by decide +kernel
theorem dX3_readFact_123 : decode cX3_readFact 123 = .ok (.aload_n 0, 1) := by decide +kernel
theorem dX3_readFact_124 : decode cX3_readFact 124 = .ok (.getfield 40, 3) := by decide +kernel
theorem dX3_readFact_127 : decode cX3_readFact 127 = .ok (.iconst 2, 1) := by decide +kernel
theorem dX3_readFact_128 : decode cX3_readFact 128 = .ok (.if_icmp .ne 19, 3) := by decide +kernel
theorem dX3_readFact_131 : decode cX3_readFact 131 = .ok (.aload_n 0, 1) := by decide +kernel
theorem dX3_readFact_132 : decode cX3_readFact 132 = .ok (.getfield 98, 3) := by decide +kernel
theorem dX3_readFact_135 : decode cX3_readFact 135 = .ok (.ifCond .lt 12, 3) := by decide +kernel
theorem dX3_readFact_138 : decode cX3_readFact 138 = .ok (.aload_n 0, 1) := by decide +kernel
theorem dX3_readFact_139 : decode cX3_readFact 139 = .ok (.getfield 98, 3) := by decide +kernel
theorem dX3_readFact_142 : decode cX3_readFact 142 = .ok (.bipush 15, 2) := by decide +kernel
theorem dX3_readFact_144 : decode cX3_readFact 144 = .ok (.if_icmp .le 8, 3) := by decide +kernel
theorem dX3_readFact_147 : decode cX3_readFact 147 = .ok (.aload_n 0, 1) := by decide +kernel
theorem dX3_readFact_148 : decode cX3_readFact 148 = .ok (.invokevirtual 101, 3) := by decide +kernel
theorem dX3_readFact_151 : decode cX3_readFact 151 = .ok (.ireturn, 1) := by decide +kernel
theorem dX3_readFact_152 : decode cX3_readFact 152 = .ok (.aload_n 0, 1) := by decide +kernel
theorem dX3_readFact_153 : decode cX3_readFact 153 = .ok (.getfield 98, 3) := by decide +kernel
theorem dX3_readFact_156 : decode cX3_readFact 156 = .ok (.istore_n 3, 1) := by decide +kernel
theorem dX3_readFact_157 : decode cX3_readFact 157 = .ok (.aload_n 0, 1) := by decide +kernel
theorem dX3_readFact_158 : decode cX3_readFact 158 = .ok (.invokevirtual 95, 3) := by decide +kernel
theorem dX3_readFact_161 : decode cX3_readFact 161 = .ok (.iload_n 3, 1) := by decide +kernel
theorem dX3_readFact_162 : decode cX3_readFact 162 = .ok (.bipush 8, 2) := by decide +kernel
theorem dX3_readFact_164 : decode cX3_readFact 164 = .ok (.if_icmp .lt 9, 3) := by decide +kernel
theorem dX3_readFact_167 : decode cX3_readFact 167 = .ok (.iload_n 3, 1) := by decide +kernel
theorem dX3_readFact_168 : decode cX3_readFact 168 = .ok (.bipush 11, 2) := by decide +kernel
theorem dX3_readFact_170 : decode cX3_readFact 170 = .ok (.if_icmp .le 13, 3) := by decide +kernel
theorem dX3_readFact_173 : decode cX3_readFact 173 = .ok (.aload_n 0, 1) := by decide +kernel
theorem dX3_readFact_174 : decode cX3_readFact 174 = .ok (.getfield 21, 3) := by decide +kernel
theorem dX3_readFact_177 : decode cX3_readFact 177 = .ok (.iload_n 3, 1) := by decide +kernel
theorem dX3_readFact_178 : decode cX3_readFact 178 = .ok (.iconst 0, 1) := by decide +kernel
theorem dX3_readFact_179 : decode cX3_readFact 179 = .ok (.invokevirtual 152, 3) := by decide +kernel
theorem dX3_readFact_182 : decode cX3_readFact 182 = .ok (.ireturn, 1) := by decide +kernel
theorem dX3_readFact_183 : decode cX3_readFact 183 = .ok (.aload_n 0, 1) := by decide +kernel
theorem dX3_readFact_184 : decode cX3_readFact 184 = .ok (.iconst 0, 1) := by decide +kernel
theorem dX3_readFact_185 : decode cX3_readFact 185 = .ok (.sipush 999, 3) := by decide +kernel
theorem dX3_readFact_188 : decode cX3_readFact 188 = .ok (.invokevirtual 66, 3) := by decide +kernel
theorem dX3_readFact_191 : decode cX3_readFact 191 = .ok (.ifCond .eq 22, 3) := by decide +kernel
theorem dX3_readFact_194 : decode cX3_readFact 194 = .ok (.aload_n 0, 1) := by decide +kernel
theorem dX3_readFact_195 : decode cX3_readFact 195 = .ok (.getfield 21, 3) := by decide +kernel
theorem dX3_readFact_198 : decode cX3_readFact 198 = .ok (.iload_n 3, 1) := by decide +kernel
theorem dX3_readFact_199 : decode cX3_readFact 199 = .ok (.aload_n 0, 1) := by decide +kernel
theorem dX3_readFact_200 : decode cX3_readFact 200 = .ok (.getfield 70, 3) := by decide +kernel
theorem dX3_readFact_203 : decode cX3_readFact 203 = .ok (.invokevirtual 152, 3) := by decide +kernel
theorem dX3_readFact_206 : decode cX3_readFact 206 = .ok (.ifCond .eq 7, 3) := by decide +kernel
theorem dX3_readFact_209 : decode cX3_readFact 209 = .ok (.iconst 1, 1) := by decide +kernel
theorem dX3_readFact_210 : decode cX3_readFact 210 = .ok (.goto 4, 3) := by decide +kernel
theorem dX3_readFact_213 : decode cX3_readFact 213 = .ok (.iconst 0, 1) := by decide +kernel
theorem dX3_readFact_214 : decode cX3_readFact 214 = .ok (.ireturn, 1) := by decide +kernel
theorem dX3_isWord_0 : decode cX3_isWord 0 = .ok (.aload_n 0, 1) := by decide +kernel
theorem dX3_isWord_1 : decode cX3_isWord 1 = .ok (.getfield 40, 3) := by decide +kernel
theorem dX3_isWord_4 : decode cX3_isWord 4 = .ok (.iconst 2, 1) := by decide +kernel
theorem dX3_isWord_5 : decode cX3_isWord 5 = .ok (.if_icmp .ne 15, 3) := by decide +kernel
theorem dX3_isWord_8 : decode cX3_isWord 8 = .ok (.aload_n 0, 1) := by decide +kernel
theorem dX3_isWord_9 : decode cX3_isWord 9 = .ok (.getfield 98, 3) := by decide +kernel
theorem dX3_isWord_12 : decode cX3_isWord 12 = .ok (.iload_n 1, 1) := by decide +kernel
theorem dX3_isWord_13 : decode cX3_isWord 13 = .ok (.if_icmp .ne 7, 3) := by decide +kernel
theorem dX3_isWord_16 : decode cX3_isWord 16 = .ok (.iconst 1, 1) := by decide +kernel
theorem dX3_isWord_17 : decode cX3_isWord 17 = .ok (.goto 4, 3) := by decide +kernel
theorem dX3_isWord_20 : decode cX3_isWord 20 = .ok (.iconst 0, 1) := by decide +kernel
theorem dX3_isWord_21 : decode cX3_isWord 21 = .ok (.ireturn, 1) := by decide +kernel
theorem dX3_takeWord_0 : decode cX3_takeWord 0 = .ok (.aload_n 0, 1) := by decide +kernel
theorem dX3_takeWord_1 : decode cX3_takeWord 1 = .ok (.iload_n 1, 1) := by decide +kernel
theorem dX3_takeWord_2 : decode cX3_takeWord 2 = .ok (.invokevirtual 55, 3) := by decide +kernel
theorem dX3_takeWord_5 : decode cX3_takeWord 5 = .ok (.ifCond .ne 8, 3) := by decide +kernel
theorem dX3_takeWord_8 : decode cX3_takeWord 8 = .ok (.aload_n 0, 1) := by decide +kernel
theorem dX3_takeWord_9 : decode cX3_takeWord 9 = .ok (.invokevirtual 101, 3) := by decide +kernel
theorem dX3_takeWord_12 : decode cX3_takeWord 12 = .ok (.ireturn, 1) := by decide +kernel
theorem dX3_takeWord_13 : decode cX3_takeWord 13 = .ok (.aload_n 0, 1) := by decide +kernel
theorem dX3_takeWord_14 : decode cX3_takeWord 14 = .ok (.invokevirtual 95, 3) := by decide +kernel
theorem dX3_takeWord_17 : decode cX3_takeWord 17 = .ok (.iconst 1, 1) := by decide +kernel
theorem dX3_takeWord_18 : decode cX3_takeWord 18 = .ok (.ireturn, 1) := by decide +kernel
theorem dX3_takeSign_0 : decode cX3_takeSign 0 = .ok (.aload_n 0, 1) := by decide +kernel
theorem dX3_takeSign_1 : decode cX3_takeSign 1 = .ok (.getfield 40, 3) := by decide +kernel
theorem dX3_takeSign_4 : decode cX3_takeSign 4 = .ok (.iconst 4, 1) := by decide +kernel
theorem dX3_takeSign_5 : decode cX3_takeSign 5 = .ok (.if_icmp .ne 11, 3) := by decide +kernel
theorem dX3_takeSign_8 : decode cX3_takeSign 8 = .ok (.aload_n 0, 1) := by decide +kernel
theorem dX3_takeSign_9 : decode cX3_takeSign 9 = .ok (.getfield 98, 3) := by decide +kernel
theorem dX3_takeSign_12 : decode cX3_takeSign 12 = .ok (.iload_n 1, 1) := by decide +kernel
theorem dX3_takeSign_13 : decode cX3_takeSign 13 = .ok (.if_icmp .eq 8, 3) := by decide +kernel
theorem dX3_takeSign_16 : decode cX3_takeSign 16 = .ok (.aload_n 0, 1) := by decide +kernel
theorem dX3_takeSign_17 : decode cX3_takeSign 17 = .ok (.invokevirtual 101, 3) := by decide +kernel
theorem dX3_takeSign_20 : decode cX3_takeSign 20 = .ok (.ireturn, 1) := by decide +kernel
theorem dX3_takeSign_21 : decode cX3_takeSign 21 = .ok (.aload_n 0, 1) := by decide +kernel
theorem dX3_takeSign_22 : decode cX3_takeSign 22 = .ok (.invokevirtual 95, 3) := by decide +kernel
theorem dX3_takeSign_25 : decode cX3_takeSign 25 = .ok (.iconst 1, 1) := by decide +kernel
theorem dX3_takeSign_26 : decode cX3_takeSign 26 = .ok (.ireturn, 1) := by decide +kernel
theorem dX3_takeNumber_0 : decode cX3_takeNumber 0 = .ok (.aload_n 0, 1) := by decide +kernel
theorem dX3_takeNumber_1 : decode cX3_takeNumber 1 = .ok (.getfield 40, 3) := by decide +kernel
theorem dX3_takeNumber_4 : decode cX3_takeNumber 4 = .ok (.iconst 3, 1) := by decide +kernel
theorem dX3_takeNumber_5 : decode cX3_takeNumber 5 = .ok (.if_icmp .eq 8, 3) := by decide +kernel
theorem dX3_takeNumber_8 : decode cX3_takeNumber 8 = .ok (.aload_n 0, 1) := by decide +kernel
theorem dX3_takeNumber_9 : decode cX3_takeNumber 9 = .ok (.invokevirtual 101, 3) := by decide +kernel
theorem dX3_takeNumber_12 : decode cX3_takeNumber 12 = .ok (.ireturn, 1) := by decide +kernel
theorem dX3_takeNumber_13 : decode cX3_takeNumber 13 = .ok (.aload_n 0, 1) := by decide +kernel
theorem dX3_takeNumber_14 : decode cX3_takeNumber 14 = .ok (.getfield 98, 3) := by decide +kernel
theorem dX3_takeNumber_17 : decode cX3_takeNumber 17 = .ok (.iload_n 1, 1) := by decide +kernel
theorem dX3_takeNumber_18 : decode cX3_takeNumber 18 = .ok (.if_icmp .lt 11, 3) := by decide +kernel
theorem dX3_takeNumber_21 : decode cX3_takeNumber 21 = .ok (.aload_n 0, 1) := by decide +kernel
theorem dX3_takeNumber_22 : decode cX3_takeNumber 22 = .ok (.getfield 98, 3) := by decide +kernel
theorem dX3_takeNumber_25 : decode cX3_takeNumber 25 = .ok (.iload_n 2, 1) := by decide +kernel
theorem dX3_takeNumber_26 : decode cX3_takeNumber 26 = .ok (.if_icmp .le 9, 3) := by decide +kernel
theorem dX3_takeNumber_29 : decode cX3_takeNumber 29 = .ok (.aload_n 0, 1) := by decide +kernel
theorem dX3_takeNumber_30 : decode cX3_takeNumber 30 = .ok (.iconst 3, 1) := by decide +kernel
theorem dX3_takeNumber_31 : decode cX3_takeNumber 31 = .ok (.invokevirtual 60, 3) := by decide +kernel
theorem dX3_takeNumber_34 : decode cX3_takeNumber 34 = .ok (.ireturn, 1) := by decide +kernel
theorem dX3_takeNumber_35 : decode cX3_takeNumber 35 = .ok (.aload_n 0, 1) := by decide +kernel
theorem dX3_takeNumber_36 : decode cX3_takeNumber 36 = .ok (.aload_n 0, 1) := by decide +kernel
theorem dX3_takeNumber_37 : decode cX3_takeNumber 37 = .ok (.getfield 98, 3) := by decide +kernel
theorem dX3_takeNumber_40 : decode cX3_takeNumber 40 = .ok (.putfield 70, 3) := by decide +kernel
theorem dX3_takeNumber_43 : decode cX3_takeNumber 43 = .ok (.aload_n 0, 1) := by decide +kernel
theorem dX3_takeNumber_44 : decode cX3_takeNumber 44 = .ok (.invokevirtual 95, 3) := by decide +kernel
theorem dX3_takeNumber_47 : decode cX3_takeNumber 47 = .ok (.iconst 1, 1) := by decide +kernel
theorem dX3_takeNumber_48 : decode cX3_takeNumber 48 = .ok (.ireturn, 1) := by decide +kernel
theorem dX3_misfit_0 : decode cX3_misfit 0 = .ok (.aload_n 0, 1) := by decide +kernel
theorem dX3_misfit_1 : decode cX3_misfit 1 = .ok (.aload_n 0, 1) := by decide +kernel
theorem dX3_misfit_2 : decode cX3_misfit 2 = .ok (.getfield 40, 3) := by decide +kernel
theorem dX3_misfit_5 : decode cX3_misfit 5 = .ok (.iconst 1, 1) := by decide +kernel
theorem dX3_misfit_6 : decode cX3_misfit 6 = .ok (.if_icmp .ne 7, 3) := by decide +kernel
theorem dX3_misfit_9 : decode cX3_misfit 9 = .ok (.iconst 1, 1) := by decide +kernel
theorem dX3_misfit_10 : decode cX3_misfit 10 = .ok (.goto 4, 3) := by decide +kernel
theorem dX3_misfit_13 : decode cX3_misfit 13 = .ok (.iconst 2, 1) := by decide +kernel
theorem dX3_misfit_14 : decode cX3_misfit 14 = .ok (.invokevirtual 60, 3) := by decide +kernel
theorem dX3_misfit_17 : decode cX3_misfit 17 = .ok (.ireturn, 1) := by decide +kernel
theorem dX3_wrong_0 : decode cX3_wrong 0 = .ok (.aload_n 0, 1) := by decide +kernel
theorem dX3_wrong_1 : decode cX3_wrong 1 = .ok (.iload_n 1, 1) := by decide +kernel
theorem dX3_wrong_2 : decode cX3_wrong 2 = .ok (.putfield 92, 3) := by decide +kernel
theorem dX3_wrong_5 : decode cX3_wrong 5 = .ok (.aload_n 0, 1) := by decide +kernel
theorem dX3_wrong_6 : decode cX3_wrong 6 = .ok (.aload_n 0, 1) := by decide +kernel
theorem dX3_wrong_7 : decode cX3_wrong 7 = .ok (.getfield 155, 3) := by decide +kernel
theorem dX3_wrong_10 : decode cX3_wrong 10 = .ok (.putfield 25, 3) := by decide +kernel
theorem dX3_wrong_13 : decode cX3_wrong 13 = .ok (.iconst 0, 1) := by decide +kernel
theorem dX3_wrong_14 : decode cX3_wrong 14 = .ok (.ireturn, 1) := by decide +kernel
theorem dX3_advance_0 : decode cX3_advance 0 = .ok (.aload_n 0, 1) := by decide +kernel
theorem dX3_advance_1 : decode cX3_advance 1 = .ok (.getfield 89, 3) := by decide +kernel
theorem dX3_advance_4 : decode cX3_advance 4 = .ok (.aload_n 0, 1) := by decide +kernel
theorem dX3_advance_5 : decode cX3_advance 5 = .ok (.getfield 86, 3) := by decide +kernel
theorem dX3_advance_8 : decode cX3_advance 8 = .ok (.if_icmp .ge 44, 3) := by decide +kernel
theorem dX3_advance_11 : decode cX3_advance 11 = .ok (.aload_n 0, 1) := by decide +kernel
theorem dX3_advance_12 : decode cX3_advance 12 = .ok (.getfield 29, 3) := by decide +kernel
theorem dX3_advance_15 : decode cX3_advance 15 = .ok (.aload_n 0, 1) := by decide +kernel
theorem dX3_advance_16 : decode cX3_advance 16 = .ok (.getfield 89, 3) := by decide +kernel
theorem dX3_advance_19 : decode cX3_advance 19 = .ok (.baload, 1) := by decide +kernel
theorem dX3_advance_20 : decode cX3_advance 20 = .ok (.bipush 32, 2) := by decide +kernel
theorem dX3_advance_22 : decode cX3_advance 22 = .ok (.if_icmp .eq 17, 3) := by decide +kernel
theorem dX3_advance_25 : decode cX3_advance 25 = .ok (.aload_n 0, 1) := by decide +kernel
theorem dX3_advance_26 : decode cX3_advance 26 = .ok (.getfield 29, 3) := by decide +kernel
theorem dX3_advance_29 : decode cX3_advance 29 = .ok (.aload_n 0, 1) := by decide +kernel
theorem dX3_advance_30 : decode cX3_advance 30 = .ok (.getfield 89, 3) := by decide +kernel
theorem dX3_advance_33 : decode cX3_advance 33 = .ok (.baload, 1) := by decide +kernel
theorem dX3_advance_34 : decode cX3_advance 34 = .ok (.bipush 10, 2) := by decide +kernel
theorem dX3_advance_36 : decode cX3_advance 36 = .ok (.if_icmp .ne 16, 3) := by decide +kernel
theorem dX3_advance_39 : decode cX3_advance 39 = .ok (.aload_n 0, 1) := by decide +kernel
theorem dX3_advance_40 : decode cX3_advance 40 = .ok (.dup, 1) := by decide +kernel
theorem dX3_advance_41 : decode cX3_advance 41 = .ok (.getfield 89, 3) := by decide +kernel
theorem dX3_advance_44 : decode cX3_advance 44 = .ok (.iconst 1, 1) := by decide +kernel
theorem dX3_advance_45 : decode cX3_advance 45 = .ok (.iadd, 1) := by decide +kernel
theorem dX3_advance_46 : decode cX3_advance 46 = .ok (.putfield 89, 3) := by decide +kernel
theorem dX3_advance_49 : decode cX3_advance 49 = .ok (.goto (-49), 3) := by decide +kernel
theorem dX3_advance_52 : decode cX3_advance 52 = .ok (.aload_n 0, 1) := by decide +kernel
theorem dX3_advance_53 : decode cX3_advance 53 = .ok (.aload_n 0, 1) := by decide +kernel
theorem dX3_advance_54 : decode cX3_advance 54 = .ok (.getfield 89, 3) := by decide +kernel
theorem dX3_advance_57 : decode cX3_advance 57 = .ok (.putfield 155, 3) := by decide +kernel
theorem dX3_advance_60 : decode cX3_advance 60 = .ok (.aload_n 0, 1) := by decide +kernel
theorem dX3_advance_61 : decode cX3_advance 61 = .ok (.iconst 0, 1) := by decide +kernel
theorem dX3_advance_62 : decode cX3_advance 62 = .ok (.putfield 98, 3) := by decide +kernel
theorem dX3_advance_65 : decode cX3_advance 65 = .ok (.aload_n 0, 1) := by decide +kernel
theorem dX3_advance_66 : decode cX3_advance 66 = .ok (.getfield 89, 3) := by decide +kernel
theorem dX3_advance_69 : decode cX3_advance 69 = .ok (.aload_n 0, 1) := by decide +kernel
theorem dX3_advance_70 : decode cX3_advance 70 = .ok (.getfield 86, 3) := by decide +kernel
theorem dX3_advance_73 : decode cX3_advance 73 = .ok (.if_icmp .ge 88, 3) := by decide +kernel
theorem dX3_advance_76 : decode cX3_advance 76 = .ok (.aload_n 0, 1) := by decide +kernel
theorem dX3_advance_77 : decode cX3_advance 77 = .ok (.getfield 29, 3) := by decide +kernel
theorem dX3_advance_80 : decode cX3_advance 80 = .ok (.aload_n 0, 1) := by decide +kernel
theorem dX3_advance_81 : decode cX3_advance 81 = .ok (.getfield 89, 3) := by decide +kernel
theorem dX3_advance_84 : decode cX3_advance 84 = .ok (.baload, 1) := by decide +kernel
theorem dX3_advance_85 : decode cX3_advance 85 = .ok (.bipush 48, 2) := by decide +kernel
theorem dX3_advance_87 : decode cX3_advance 87 = .ok (.if_icmp .lt 74, 3) := by decide +kernel
theorem dX3_advance_90 : decode cX3_advance 90 = .ok (.aload_n 0, 1) := by decide +kernel
theorem dX3_advance_91 : decode cX3_advance 91 = .ok (.getfield 29, 3) := by decide +kernel
theorem dX3_advance_94 : decode cX3_advance 94 = .ok (.aload_n 0, 1) := by decide +kernel
theorem dX3_advance_95 : decode cX3_advance 95 = .ok (.getfield 89, 3) := by decide +kernel
theorem dX3_advance_98 : decode cX3_advance 98 = .ok (.baload, 1) := by decide +kernel
theorem dX3_advance_99 : decode cX3_advance 99 = .ok (.bipush 57, 2) := by decide +kernel
theorem dX3_advance_101 : decode cX3_advance 101 = .ok (.if_icmp .gt 60, 3) := by decide +kernel
theorem dX3_advance_104 : decode cX3_advance 104 = .ok (.aload_n 0, 1) := by decide +kernel
theorem dX3_advance_105 : decode cX3_advance 105 = .ok (.aload_n 0, 1) := by decide +kernel
theorem dX3_advance_106 : decode cX3_advance 106 = .ok (.getfield 89, 3) := by decide +kernel
theorem dX3_advance_109 : decode cX3_advance 109 = .ok (.aload_n 0, 1) := by decide +kernel
theorem dX3_advance_110 : decode cX3_advance 110 = .ok (.getfield 155, 3) := by decide +kernel
theorem dX3_advance_113 : decode cX3_advance 113 = .ok (.isub, 1) := by decide +kernel
theorem dX3_advance_114 : decode cX3_advance 114 = .ok (.iconst 3, 1) := by decide +kernel
theorem dX3_advance_115 : decode cX3_advance 115 = .ok (.if_icmp .ge 26, 3) := by decide +kernel
theorem dX3_advance_118 : decode cX3_advance 118 = .ok (.aload_n 0, 1) := by decide +kernel
theorem dX3_advance_119 : decode cX3_advance 119 = .ok (.getfield 98, 3) := by decide +kernel
theorem dX3_advance_122 : decode cX3_advance 122 = .ok (.bipush 10, 2) := by decide +kernel
theorem dX3_advance_124 : decode cX3_advance 124 = .ok (.imul, 1) := by decide +kernel
theorem dX3_advance_125 : decode cX3_advance 125 = .ok (.aload_n 0, 1) := by decide +kernel
theorem dX3_advance_126 : decode cX3_advance 126 = .ok (.getfield 29, 3) := by decide +kernel
theorem dX3_advance_129 : decode cX3_advance 129 = .ok (.aload_n 0, 1) := by decide +kernel
theorem dX3_advance_130 : decode cX3_advance 130 = .ok (.getfield 89, 3) := by decide +kernel
theorem dX3_advance_133 : decode cX3_advance 133 = .ok (.baload, 1) := by decide +kernel
theorem dX3_advance_134 : decode cX3_advance 134 = .ok (.iadd, 1) := by decide +kernel
theorem dX3_advance_135 : decode cX3_advance 135 = .ok (.bipush 48, 2) := by decide +kernel
theorem dX3_advance_137 : decode cX3_advance 137 = .ok (.isub, 1) := by decide +kernel
theorem dX3_advance_138 : decode cX3_advance 138 = .ok (.goto 7, 3) := by decide +kernel
theorem dX3_advance_141 : decode cX3_advance 141 = .ok (.aload_n 0, 1) := by decide +kernel
theorem dX3_advance_142 : decode cX3_advance 142 = .ok (.getfield 98, 3) := by decide +kernel
theorem dX3_advance_145 : decode cX3_advance 145 = .ok (.putfield 98, 3) := by decide +kernel
theorem dX3_advance_148 : decode cX3_advance 148 = .ok (.aload_n 0, 1) := by decide +kernel
theorem dX3_advance_149 : decode cX3_advance 149 = .ok (.dup, 1) := by decide +kernel
theorem dX3_advance_150 : decode cX3_advance 150 = .ok (.getfield 89, 3) := by decide +kernel
theorem dX3_advance_153 : decode cX3_advance 153 = .ok (.iconst 1, 1) := by decide +kernel
theorem dX3_advance_154 : decode cX3_advance 154 = .ok (.iadd, 1) := by decide +kernel
theorem dX3_advance_155 : decode cX3_advance 155 = .ok (.putfield 89, 3) := by decide +kernel
theorem dX3_advance_158 : decode cX3_advance 158 = .ok (.goto (-93), 3) := by decide +kernel
theorem dX3_advance_161 : decode cX3_advance 161 = .ok (.aload_n 0, 1) := by decide +kernel
theorem dX3_advance_162 : decode cX3_advance 162 = .ok (.getfield 89, 3) := by decide +kernel
theorem dX3_advance_165 : decode cX3_advance 165 = .ok (.aload_n 0, 1) := by decide +kernel
theorem dX3_advance_166 : decode cX3_advance 166 = .ok (.getfield 155, 3) := by decide +kernel
theorem dX3_advance_169 : decode cX3_advance 169 = .ok (.if_icmp .le 26, 3) := by decide +kernel
theorem dX3_advance_172 : decode cX3_advance 172 = .ok (.aload_n 0, 1) := by decide +kernel
theorem dX3_advance_173 : decode cX3_advance 173 = .ok (.aload_n 0, 1) := by decide +kernel
theorem dX3_advance_174 : decode cX3_advance 174 = .ok (.getfield 89, 3) := by decide +kernel
theorem dX3_advance_177 : decode cX3_advance 177 = .ok (.aload_n 0, 1) := by decide +kernel
theorem dX3_advance_178 : decode cX3_advance 178 = .ok (.getfield 155, 3) := by decide +kernel
theorem dX3_advance_181 : decode cX3_advance 181 = .ok (.isub, 1) := by decide +kernel
theorem dX3_advance_182 : decode cX3_advance 182 = .ok (.iconst 3, 1) := by decide +kernel
theorem dX3_advance_183 : decode cX3_advance 183 = .ok (.if_icmp .le 7, 3) := by decide +kernel
theorem dX3_advance_186 : decode cX3_advance 186 = .ok (.iconst 1, 1) := by decide +kernel
theorem dX3_advance_187 : decode cX3_advance 187 = .ok (.goto 4, 3) := by decide +kernel
theorem dX3_advance_190 : decode cX3_advance 190 = .ok (.iconst 3, 1) := by decide +kernel
theorem dX3_advance_191 : decode cX3_advance 191 = .ok (.putfield 40, 3) := by decide +kernel
theorem dX3_advance_194 : decode cX3_advance 194 = .ok (.return_, 1) := by decide +kernel
theorem dX3_advance_195 : decode cX3_advance 195 = .ok (.aload_n 0, 1) := by decide +kernel
theorem dX3_advance_196 : decode cX3_advance 196 = .ok (.getfield 89, 3) := by decide +kernel
theorem dX3_advance_199 : decode cX3_advance 199 = .ok (.aload_n 0, 1) := by decide +kernel
theorem dX3_advance_200 : decode cX3_advance 200 = .ok (.getfield 86, 3) := by decide +kernel
theorem dX3_advance_203 : decode cX3_advance 203 = .ok (.if_icmp .ge 44, 3) := by decide +kernel
theorem dX3_advance_206 : decode cX3_advance 206 = .ok (.aload_n 0, 1) := by decide +kernel
theorem dX3_advance_207 : decode cX3_advance 207 = .ok (.getfield 29, 3) := by decide +kernel
theorem dX3_advance_210 : decode cX3_advance 210 = .ok (.aload_n 0, 1) := by decide +kernel
theorem dX3_advance_211 : decode cX3_advance 211 = .ok (.getfield 89, 3) := by decide +kernel
theorem dX3_advance_214 : decode cX3_advance 214 = .ok (.baload, 1) := by decide +kernel
theorem dX3_advance_215 : decode cX3_advance 215 = .ok (.bipush 97, 2) := by decide +kernel
theorem dX3_advance_217 : decode cX3_advance 217 = .ok (.if_icmp .lt 30, 3) := by decide +kernel
theorem dX3_advance_220 : decode cX3_advance 220 = .ok (.aload_n 0, 1) := by decide +kernel
theorem dX3_advance_221 : decode cX3_advance 221 = .ok (.getfield 29, 3) := by decide +kernel
theorem dX3_advance_224 : decode cX3_advance 224 = .ok (.aload_n 0, 1) := by decide +kernel
theorem dX3_advance_225 : decode cX3_advance 225 = .ok (.getfield 89, 3) := by decide +kernel
theorem dX3_advance_228 : decode cX3_advance 228 = .ok (.baload, 1) := by decide +kernel
theorem dX3_advance_229 : decode cX3_advance 229 = .ok (.bipush 122, 2) := by decide +kernel
theorem dX3_advance_231 : decode cX3_advance 231 = .ok (.if_icmp .gt 16, 3) := by decide +kernel
theorem dX3_advance_234 : decode cX3_advance 234 = .ok (.aload_n 0, 1) := by decide +kernel
theorem dX3_advance_235 : decode cX3_advance 235 = .ok (.dup, 1) := by decide +kernel
theorem dX3_advance_236 : decode cX3_advance 236 = .ok (.getfield 89, 3) := by decide +kernel
theorem dX3_advance_239 : decode cX3_advance 239 = .ok (.iconst 1, 1) := by decide +kernel
theorem dX3_advance_240 : decode cX3_advance 240 = .ok (.iadd, 1) := by decide +kernel
theorem dX3_advance_241 : decode cX3_advance 241 = .ok (.putfield 89, 3) := by decide +kernel
theorem dX3_advance_244 : decode cX3_advance 244 = .ok (.goto (-49), 3) := by decide +kernel
theorem dX3_advance_247 : decode cX3_advance 247 = .ok (.aload_n 0, 1) := by decide +kernel
theorem dX3_advance_248 : decode cX3_advance 248 = .ok (.getfield 89, 3) := by decide +kernel
theorem dX3_advance_251 : decode cX3_advance 251 = .ok (.aload_n 0, 1) := by decide +kernel
theorem dX3_advance_252 : decode cX3_advance 252 = .ok (.getfield 155, 3) := by decide +kernel
theorem dX3_advance_255 : decode cX3_advance 255 = .ok (.if_icmp .le 17, 3) := by decide +kernel
theorem dX3_advance_258 : decode cX3_advance 258 = .ok (.aload_n 0, 1) := by decide +kernel
theorem dX3_advance_259 : decode cX3_advance 259 = .ok (.iconst 2, 1) := by decide +kernel
theorem dX3_advance_260 : decode cX3_advance 260 = .ok (.putfield 40, 3) := by decide +kernel
theorem dX3_advance_263 : decode cX3_advance 263 = .ok (.aload_n 0, 1) := by decide +kernel
theorem dX3_advance_264 : decode cX3_advance 264 = .ok (.aload_n 0, 1) := by decide +kernel
theorem dX3_advance_265 : decode cX3_advance 265 = .ok (.invokevirtual 158, 3) := by decide +kernel
theorem dX3_advance_268 : decode cX3_advance 268 = .ok (.putfield 98, 3) := by decide +kernel
theorem dX3_advance_271 : decode cX3_advance 271 = .ok (.return_, 1) := by decide +kernel
theorem dX3_advance_272 : decode cX3_advance 272 = .ok (.aload_n 0, 1) := by decide +kernel
theorem dX3_advance_273 : decode cX3_advance 273 = .ok (.getfield 89, 3) := by decide +kernel
theorem dX3_advance_276 : decode cX3_advance 276 = .ok (.aload_n 0, 1) := by decide +kernel
theorem dX3_advance_277 : decode cX3_advance 277 = .ok (.getfield 86, 3) := by decide +kernel
theorem dX3_advance_280 : decode cX3_advance 280 = .ok (.if_icmp .lt 9, 3) := by decide +kernel
theorem dX3_advance_283 : decode cX3_advance 283 = .ok (.aload_n 0, 1) := by decide +kernel
theorem dX3_advance_284 : decode cX3_advance 284 = .ok (.iconst 0, 1) := by decide +kernel
theorem dX3_advance_285 : decode cX3_advance 285 = .ok (.putfield 40, 3) := by decide +kernel
theorem dX3_advance_288 : decode cX3_advance 288 = .ok (.return_, 1) := by decide +kernel
theorem dX3_advance_289 : decode cX3_advance 289 = .ok (.aload_n 0, 1) := by decide +kernel
theorem dX3_advance_290 : decode cX3_advance 290 = .ok (.aload_n 0, 1) := by decide +kernel
theorem dX3_advance_291 : decode cX3_advance 291 = .ok (.getfield 29, 3) := by decide +kernel
theorem dX3_advance_294 : decode cX3_advance 294 = .ok (.aload_n 0, 1) := by decide +kernel
theorem dX3_advance_295 : decode cX3_advance 295 = .ok (.getfield 89, 3) := by decide +kernel
theorem dX3_advance_298 : decode cX3_advance 298 = .ok (.baload, 1) := by decide +kernel
theorem dX3_advance_299 : decode cX3_advance 299 = .ok (.putfield 98, 3) := by decide +kernel
theorem dX3_advance_302 : decode cX3_advance 302 = .ok (.aload_n 0, 1) := by decide +kernel
theorem dX3_advance_303 : decode cX3_advance 303 = .ok (.aload_n 0, 1) := by decide +kernel
theorem dX3_advance_304 : decode cX3_advance 304 = .ok (.getfield 98, 3) := by decide +kernel
theorem dX3_advance_307 : decode cX3_advance 307 = .ok (.bipush 59, 2) := by decide +kernel
theorem dX3_advance_309 : decode cX3_advance 309 = .ok (.if_icmp .eq 21, 3) := by decide +kernel
theorem dX3_advance_312 : decode cX3_advance 312 = .ok (.aload_n 0, 1) := by decide +kernel
theorem dX3_advance_313 : decode cX3_advance 313 = .ok (.getfield 98, 3) := by decide +kernel
theorem dX3_advance_316 : decode cX3_advance 316 = .ok (.bipush 40, 2) := by decide +kernel
theorem dX3_advance_318 : decode cX3_advance 318 = .ok (.if_icmp .eq 12, 3) := by decide +kernel
theorem dX3_advance_321 : decode cX3_advance 321 = .ok (.aload_n 0, 1) := by decide +kernel
theorem dX3_advance_322 : decode cX3_advance 322 = .ok (.getfield 98, 3) := by decide +kernel
theorem dX3_advance_325 : decode cX3_advance 325 = .ok (.bipush 41, 2) := by decide +kernel
theorem dX3_advance_327 : decode cX3_advance 327 = .ok (.if_icmp .ne 7, 3) := by decide +kernel
theorem dX3_advance_330 : decode cX3_advance 330 = .ok (.iconst 4, 1) := by decide +kernel
theorem dX3_advance_331 : decode cX3_advance 331 = .ok (.goto 4, 3) := by decide +kernel
theorem dX3_advance_334 : decode cX3_advance 334 = .ok (.iconst 1, 1) := by decide +kernel
theorem dX3_advance_335 : decode cX3_advance 335 = .ok (.putfield 40, 3) := by decide +kernel
theorem dX3_advance_338 : decode cX3_advance 338 = .ok (.aload_n 0, 1) := by decide +kernel
theorem dX3_advance_339 : decode cX3_advance 339 = .ok (.dup, 1) := by decide +kernel
theorem dX3_advance_340 : decode cX3_advance 340 = .ok (.getfield 89, 3) := by decide +kernel
theorem dX3_advance_343 : decode cX3_advance 343 = .ok (.iconst 1, 1) := by decide +kernel
theorem dX3_advance_344 : decode cX3_advance 344 = .ok (.iadd, 1) := by decide +kernel
theorem dX3_advance_345 : decode cX3_advance 345 = .ok (.putfield 89, 3) := by decide +kernel
theorem dX3_advance_348 : decode cX3_advance 348 = .ok (.return_, 1) := by decide +kernel
theorem dX3_wordNumber_0 : decode cX3_wordNumber 0 = .ok (.iconst 0, 1) := by decide +kernel
theorem dX3_wordNumber_1 : decode cX3_wordNumber 1 = .ok (.istore_n 1, 1) := by decide +kernel
theorem dX3_wordNumber_2 : decode cX3_wordNumber 2 = .ok (.iconst 0, 1) := by decide +kernel
theorem dX3_wordNumber_3 : decode cX3_wordNumber 3 = .ok (.istore_n 2, 1) := by decide +kernel
theorem dX3_wordNumber_4 : decode cX3_wordNumber 4 = .ok (.iconst 0, 1) := by decide +kernel
theorem dX3_wordNumber_5 : decode cX3_wordNumber 5 = .ok (.istore_n 3, 1) := by decide +kernel
theorem dX3_wordNumber_6 : decode cX3_wordNumber 6 = .ok (.iload_n 3, 1) := by decide +kernel
theorem dX3_wordNumber_7 : decode cX3_wordNumber 7 = .ok (.ldc 161, 2) := by decide +kernel
theorem dX3_wordNumber_9 : decode cX3_wordNumber 9 = .ok (.invokevirtual 163, 3) := by decide +kernel
theorem dX3_wordNumber_12 : decode cX3_wordNumber 12 = .ok (.if_icmp .ge 100, 3) := by decide +kernel
theorem dX3_wordNumber_15 : decode cX3_wordNumber 15 = .ok (.ldc 161, 2) := by decide +kernel
theorem dX3_wordNumber_17 : decode cX3_wordNumber 17 = .ok (.iload_n 3, 1) := by decide +kernel
theorem dX3_wordNumber_18 : decode cX3_wordNumber 18 = .ok (.invokevirtual 167, 3) := by decide +kernel
theorem dX3_wordNumber_21 : decode cX3_wordNumber 21 = .ok (.istore 4, 2) := by decide +kernel
theorem dX3_wordNumber_23 : decode cX3_wordNumber 23 = .ok (.iload 4, 2) := by decide +kernel
theorem dX3_wordNumber_25 : decode cX3_wordNumber 25 = .ok (.bipush 32, 2) := by decide +kernel
theorem dX3_wordNumber_27 : decode cX3_wordNumber 27 = .ok (.if_icmp .eq 59, 3) := by decide +kernel
theorem dX3_wordNumber_30 : decode cX3_wordNumber 30 = .ok (.iload_n 2, 1) := by decide +kernel
theorem dX3_wordNumber_31 : decode cX3_wordNumber 31 = .ok (.ifCond .lt 36, 3) := by decide +kernel
theorem dX3_wordNumber_34 : decode cX3_wordNumber 34 = .ok (.aload_n 0, 1) := by decide +kernel
theorem dX3_wordNumber_35 : decode cX3_wordNumber 35 = .ok (.getfield 155, 3) := by decide +kernel
theorem dX3_wordNumber_38 : decode cX3_wordNumber 38 = .ok (.iload_n 2, 1) := by decide +kernel
theorem dX3_wordNumber_39 : decode cX3_wordNumber 39 = .ok (.iadd, 1) := by decide +kernel
theorem dX3_wordNumber_40 : decode cX3_wordNumber 40 = .ok (.aload_n 0, 1) := by decide +kernel
theorem dX3_wordNumber_41 : decode cX3_wordNumber 41 = .ok (.getfield 89, 3) := by decide +kernel
theorem dX3_wordNumber_44 : decode cX3_wordNumber 44 = .ok (.if_icmp .ge 23, 3) := by decide +kernel
theorem dX3_wordNumber_47 : decode cX3_wordNumber 47 = .ok (.aload_n 0, 1) := by decide +kernel
theorem dX3_wordNumber_48 : decode cX3_wordNumber 48 = .ok (.getfield 29, 3) := by decide +kernel
theorem dX3_wordNumber_51 : decode cX3_wordNumber 51 = .ok (.aload_n 0, 1) := by decide +kernel
theorem dX3_wordNumber_52 : decode cX3_wordNumber 52 = .ok (.getfield 155, 3) := by decide +kernel
theorem dX3_wordNumber_55 : decode cX3_wordNumber 55 = .ok (.iload_n 2, 1) := by decide +kernel
theorem dX3_wordNumber_56 : decode cX3_wordNumber 56 = .ok (.iadd, 1) := by decide +kernel
theorem dX3_wordNumber_57 : decode cX3_wordNumber 57 = .ok (.baload, 1) := by decide +kernel
theorem dX3_wordNumber_58 : decode cX3_wordNumber 58 = .ok (.iload 4, 2) := by decide +kernel
theorem dX3_wordNumber_60 : decode cX3_wordNumber 60 = .ok (.if_icmp .ne 7, 3) := by decide +kernel
theorem dX3_wordNumber_63 : decode cX3_wordNumber 63 = .ok (.iconst 1, 1) := by decide +kernel
theorem dX3_wordNumber_64 : decode cX3_wordNumber 64 = .ok (.goto 4, 3) := by decide +kernel
theorem dX3_wordNumber_67 : decode cX3_wordNumber 67 = .ok (.iconst 0, 1) := by decide +kernel
theorem dX3_wordNumber_68 : decode cX3_wordNumber 68 = .ok (.istore 5, 2) := by decide +kernel
theorem dX3_wordNumber_70 : decode cX3_wordNumber 70 = .ok (.iload 5, 2) := by decide +kernel
theorem dX3_wordNumber_72 : decode cX3_wordNumber 72 = .ok (.ifCond .eq 9, 3) := by decide +kernel
theorem dX3_wordNumber_75 : decode cX3_wordNumber 75 = .ok (.iload_n 2, 1) := by decide +kernel
theorem dX3_wordNumber_76 : decode cX3_wordNumber 76 = .ok (.iconst 1, 1) := by decide +kernel
theorem dX3_wordNumber_77 : decode cX3_wordNumber 77 = .ok (.iadd, 1) := by decide +kernel
theorem dX3_wordNumber_78 : decode cX3_wordNumber 78 = .ok (.goto 4, 3) := by decide +kernel
theorem dX3_wordNumber_81 : decode cX3_wordNumber 81 = .ok (.iconst (-1), 1) := by decide +kernel
theorem dX3_wordNumber_82 : decode cX3_wordNumber 82 = .ok (.istore_n 2, 1) := by decide +kernel
theorem dX3_wordNumber_83 : decode cX3_wordNumber 83 = .ok (.goto 23, 3) := by decide +kernel
theorem dX3_wordNumber_86 : decode cX3_wordNumber 86 = .ok (.iload_n 2, 1) := by decide +kernel
theorem dX3_wordNumber_87 : decode cX3_wordNumber 87 = .ok (.aload_n 0, 1) := by decide +kernel
theorem dX3_wordNumber_88 : decode cX3_wordNumber 88 = .ok (.getfield 89, 3) := by decide +kernel
theorem dX3_wordNumber_91 : decode cX3_wordNumber 91 = .ok (.aload_n 0, 1) := by decide +kernel
theorem dX3_wordNumber_92 : decode cX3_wordNumber 92 = .ok (.getfield 155, 3) := by decide +kernel
theorem dX3_wordNumber_95 : decode cX3_wordNumber 95 = .ok (.isub, 1) := by decide +kernel
theorem dX3_wordNumber_96 : decode cX3_wordNumber 96 = .ok (.if_icmp .ne 5, 3) := by decide +kernel
theorem dX3_wordNumber_99 : decode cX3_wordNumber 99 = .ok (.iload_n 1, 1) := by decide +kernel
theorem dX3_wordNumber_100 : decode cX3_wordNumber 100 = .ok (.ireturn, 1) := by decide +kernel
theorem dX3_wordNumber_101 : decode cX3_wordNumber 101 = .ok (.iinc 1 1, 3) := by decide +kernel
theorem dX3_wordNumber_104 : decode cX3_wordNumber 104 = .ok (.iconst 0, 1) := by decide +kernel
theorem dX3_wordNumber_105 : decode cX3_wordNumber 105 = .ok (.istore_n 2, 1) := by decide +kernel
theorem dX3_wordNumber_106 : decode cX3_wordNumber 106 = .ok (.iinc 3 1, 3) := by decide +kernel
theorem dX3_wordNumber_109 : decode cX3_wordNumber 109 = .ok (.goto (-103), 3) := by decide +kernel
theorem dX3_wordNumber_112 : decode cX3_wordNumber 112 = .ok (.iconst (-1), 1) := by decide +kernel
theorem dX3_wordNumber_113 : decode cX3_wordNumber 113 = .ok (.ireturn, 1) := by decide +kernel
theorem dX4_init_0 : decode cX4_init 0 = .ok (.aload_n 0, 1) := by decide +kernel
theorem dX4_init_1 : decode cX4_init 1 = .ok (.invokespecial 3, 3) := by decide +kernel
theorem dX4_init_4 : decode cX4_init 4 = .ok (.aload_n 0, 1) := by decide +kernel
theorem dX4_init_5 : decode cX4_init 5 = .ok (.new 9, 3) := by decide +kernel
theorem dX4_init_8 : decode cX4_init 8 = .ok (.dup, 1) := by decide +kernel
theorem dX4_init_9 : decode cX4_init 9 = .ok (.invokespecial 11, 3) := by decide +kernel
theorem dX4_init_12 : decode cX4_init 12 = .ok (.putfield 12, 3) := by decide +kernel
theorem dX4_init_15 : decode cX4_init 15 = .ok (.aload_n 0, 1) := by decide +kernel
theorem dX4_init_16 : decode cX4_init 16 = .ok (.iconst (-1), 1) := by decide +kernel
theorem dX4_init_17 : decode cX4_init 17 = .ok (.putfield 18, 3) := by decide +kernel
theorem dX4_init_20 : decode cX4_init 20 = .ok (.aload_n 0, 1) := by decide +kernel
theorem dX4_init_21 : decode cX4_init 21 = .ok (.bipush 8, 2) := by decide +kernel
theorem dX4_init_23 : decode cX4_init 23 = .ok (.newarray .int, 2) := by decide +kernel
theorem dX4_init_25 : decode cX4_init 25 = .ok (.putfield 22, 3) := by decide +kernel
theorem dX4_init_28 : decode cX4_init 28 = .ok (.aload_n 0, 1) := by decide +kernel
theorem dX4_init_29 : decode cX4_init 29 = .ok (.bipush 8, 2) := by decide +kernel
theorem dX4_init_31 : decode cX4_init 31 = .ok (.newarray .int, 2) := by decide +kernel
theorem dX4_init_33 : decode cX4_init 33 = .ok (.putfield 26, 3) := by decide +kernel
theorem dX4_init_36 : decode cX4_init 36 = .ok (.aload_n 0, 1) := by decide +kernel
theorem dX4_init_37 : decode cX4_init 37 = .ok (.bipush 8, 2) := by decide +kernel
theorem dX4_init_39 : decode cX4_init 39 = .ok (.newarray .int, 2) := by decide +kernel
theorem dX4_init_41 : decode cX4_init 41 = .ok (.putfield 29, 3) := by decide +kernel
theorem dX4_init_44 : decode cX4_init 44 = .ok (.aload_n 0, 1) := by decide +kernel
theorem dX4_init_45 : decode cX4_init 45 = .ok (.bipush 8, 2) := by decide +kernel
theorem dX4_init_47 : decode cX4_init 47 = .ok (.newarray .boolean, 2) := by decide +kernel
theorem dX4_init_49 : decode cX4_init 49 = .ok (.putfield 32, 3) := by decide +kernel
theorem dX4_init_52 : decode cX4_init 52 = .ok (.aload_n 0, 1) := by decide +kernel
theorem dX4_init_53 : decode cX4_init 53 = .ok (.bipush 8, 2) := by decide +kernel
theorem dX4_init_55 : decode cX4_init 55 = .ok (.newarray .int, 2) := by decide +kernel
theorem dX4_init_57 : decode cX4_init 57 = .ok (.putfield 36, 3) := by decide +kernel
theorem dX4_init_60 : decode cX4_init 60 = .ok (.aload_n 0, 1) := by decide +kernel
theorem dX4_init_61 : decode cX4_init 61 = .ok (.iconst 4, 1) := by decide +kernel
theorem dX4_init_62 : decode cX4_init 62 = .ok (.newarray .int, 2) := by decide +kernel
theorem dX4_init_64 : decode cX4_init 64 = .ok (.putfield 39, 3) := by decide +kernel
theorem dX4_init_67 : decode cX4_init 67 = .ok (.aload_n 0, 1) := by decide +kernel
theorem dX4_init_68 : decode cX4_init 68 = .ok (.aload_n 1, 1) := by decide +kernel
theorem dX4_init_69 : decode cX4_init 69 = .ok (.putfield 42, 3) := by decide +kernel
theorem dX4_init_72 : decode cX4_init 72 = .ok (.aload_n 0, 1) := by decide +kernel
theorem dX4_init_73 : decode cX4_init 73 = .ok (.aload_n 2, 1) := by decide +kernel
theorem dX4_init_74 : decode cX4_init 74 = .ok (.putfield 46, 3) := by decide +kernel
theorem dX4_init_77 : decode cX4_init 77 = .ok (.return_, 1) := by decide +kernel
theorem dX4_begin_0 : decode cX4_begin 0 = .ok (.aload_n 0, 1) := by decide +kernel
theorem dX4_begin_1 : decode cX4_begin 1 = .ok (.aload_n 1, 1) := by decide +kernel
theorem dX4_begin_2 : decode cX4_begin 2 = .ok (.putfield 42, 3) := by decide +kernel
theorem dX4_begin_5 : decode cX4_begin 5 = .ok (.aload_n 0, 1) := by decide +kernel
theorem dX4_begin_6 : decode cX4_begin 6 = .ok (.iload_n 2, 1) := by decide +kernel
theorem dX4_begin_7 : decode cX4_begin 7 = .ok (.putfield 18, 3) := by decide +kernel
theorem dX4_begin_10 : decode cX4_begin 10 = .ok (.aload_n 1, 1) := by decide +kernel
theorem dX4_begin_11 : decode cX4_begin 11 = .ok (.bipush 6, 2) := by decide +kernel
theorem dX4_begin_13 : decode cX4_begin 13 = .ok (.invokevirtual 50, 3) := by decide +kernel
theorem dX4_begin_16 : decode cX4_begin 16 = .ok (.istore_n 3, 1) := by decide +kernel
theorem dX4_begin_17 : decode cX4_begin 17 = .ok (.iconst 0, 1) := by decide +kernel
theorem dX4_begin_18 : decode cX4_begin 18 = .ok (.istore 4, 2) := by decide +kernel
theorem dX4_begin_20 : decode cX4_begin 20 = .ok (.iload 4, 2) := by decide +kernel
theorem dX4_begin_22 : decode cX4_begin 22 = .ok (.aload_n 1, 1) := by decide +kernel
theorem dX4_begin_23 : decode cX4_begin 23 = .ok (.getfield 56, 3) := by decide +kernel
theorem dX4_begin_26 : decode cX4_begin 26 = .ok (.if_icmp .ge 81, 3) := by decide +kernel
theorem dX4_begin_29 : decode cX4_begin 29 = .ok (.aload_n 0, 1) := by decide +kernel
theorem dX4_begin_30 : decode cX4_begin 30 = .ok (.getfield 22, 3) := by decide +kernel
theorem dX4_begin_33 : decode cX4_begin 33 = .ok (.iload 4, 2) := by decide +kernel
theorem dX4_begin_35 : decode cX4_begin 35 = .ok (.aload_n 1, 1) := by decide +kernel
theorem dX4_begin_36 : decode cX4_begin 36 = .ok (.getfield 59, 3) := by decide +kernel
theorem dX4_begin_39 : decode cX4_begin 39 = .ok (.iload 4, 2) := by decide +kernel
theorem dX4_begin_41 : decode cX4_begin 41 = .ok (.iaload, 1) := by decide +kernel
theorem dX4_begin_42 : decode cX4_begin 42 = .ok (.iastore, 1) := by decide +kernel
theorem dX4_begin_43 : decode cX4_begin 43 = .ok (.aload_n 0, 1) := by decide +kernel
theorem dX4_begin_44 : decode cX4_begin 44 = .ok (.getfield 26, 3) := by decide +kernel
theorem dX4_begin_47 : decode cX4_begin 47 = .ok (.iload 4, 2) := by decide +kernel
theorem dX4_begin_49 : decode cX4_begin 49 = .ok (.iload_n 3, 1) := by decide +kernel
theorem dX4_begin_50 : decode cX4_begin 50 = .ok (.ifCond .eq 18, 3) := by decide +kernel
theorem dX4_begin_53 : decode cX4_begin 53 = .ok (.aload_n 1, 1) := by decide +kernel
theorem dX4_begin_54 : decode cX4_begin 54 = .ok (.getfield 60, 3) := by decide +kernel
theorem dX4_begin_57 : decode cX4_begin 57 = .ok (.iload 4, 2) := by decide +kernel
theorem dX4_begin_59 : decode cX4_begin 59 = .ok (.iaload, 1) := by decide +kernel
theorem dX4_begin_60 : decode cX4_begin 60 = .ok (.iconst 4, 1) := by decide +kernel
theorem dX4_begin_61 : decode cX4_begin 61 = .ok (.if_icmp .le 7, 3) := by decide +kernel
theorem dX4_begin_64 : decode cX4_begin 64 = .ok (.iconst 4, 1) := by decide +kernel
theorem dX4_begin_65 : decode cX4_begin 65 = .ok (.goto 10, 3) := by decide +kernel
theorem dX4_begin_68 : decode cX4_begin 68 = .ok (.aload_n 1, 1) := by decide +kernel
theorem dX4_begin_69 : decode cX4_begin 69 = .ok (.getfield 60, 3) := by decide +kernel
theorem dX4_begin_72 : decode cX4_begin 72 = .ok (.iload 4, 2) := by decide +kernel
theorem dX4_begin_74 : decode cX4_begin 74 = .ok (.iaload, 1) := by decide +kernel
theorem dX4_begin_75 : decode cX4_begin 75 = .ok (.iastore, 1) := by decide +kernel
theorem dX4_begin_76 : decode cX4_begin 76 = .ok (.aload_n 0, 1) := by decide +kernel
theorem dX4_begin_77 : decode cX4_begin 77 = .ok (.getfield 29, 3) := by decide +kernel
theorem dX4_begin_80 : decode cX4_begin 80 = .ok (.iload 4, 2) := by decide +kernel
theorem dX4_begin_82 : decode cX4_begin 82 = .ok (.iconst 0, 1) := by decide +kernel
theorem dX4_begin_83 : decode cX4_begin 83 = .ok (.iastore, 1) := by decide +kernel
theorem dX4_begin_84 : decode cX4_begin 84 = .ok (.aload_n 0, 1) := by decide +kernel
theorem dX4_begin_85 : decode cX4_begin 85 = .ok (.getfield 32, 3) := by decide +kernel
theorem dX4_begin_88 : decode cX4_begin 88 = .ok (.iload 4, 2) := by decide +kernel
theorem dX4_begin_90 : decode cX4_begin 90 = .ok (.iconst 0, 1) := by decide +kernel
theorem dX4_begin_91 : decode cX4_begin 91 = .ok (.bastore, 1) := by decide +kernel
theorem dX4_begin_92 : decode cX4_begin 92 = .ok (.aload_n 0, 1) := by decide +kernel
theorem dX4_begin_93 : decode cX4_begin 93 = .ok (.getfield 36, 3) := by decide +kernel
theorem dX4_begin_96 : decode cX4_begin 96 = .ok (.iload 4, 2) := by decide +kernel
theorem dX4_begin_98 : decode cX4_begin 98 = .ok (.iload 4, 2) := by decide +kernel
theorem dX4_begin_100 : decode cX4_begin 100 = .ok (.iastore, 1) := by decide +kernel
theorem dX4_begin_101 : decode cX4_begin 101 = .ok (.iinc 4 1, 3) := by decide +kernel
theorem dX4_begin_104 : decode cX4_begin 104 = .ok (.goto (-84), 3) := by decide +kernel
theorem dX4_begin_107 : decode cX4_begin 107 = .ok (.aload_n 0, 1) := by decide +kernel
theorem dX4_begin_108 : decode cX4_begin 108 = .ok (.iconst 0, 1) := by decide +kernel
theorem dX4_begin_109 : decode cX4_begin 109 = .ok (.putfield 61, 3) := by decide +kernel
theorem dX4_begin_112 : decode cX4_begin 112 = .ok (.aload_n 0, 1) := by decide +kernel
theorem dX4_begin_113 : decode cX4_begin 113 = .ok (.iconst 0, 1) := by decide +kernel
theorem dX4_begin_114 : decode cX4_begin 114 = .ok (.putfield 64, 3) := by decide +kernel
theorem dX4_begin_117 : decode cX4_begin 117 = .ok (.aload_n 0, 1) := by decide +kernel
theorem dX4_begin_118 : decode cX4_begin 118 = .ok (.iconst 0, 1) := by decide +kernel
theorem dX4_begin_119 : decode cX4_begin 119 = .ok (.putfield 68, 3) := by decide +kernel
theorem dX4_begin_122 : decode cX4_begin 122 = .ok (.aload_n 0, 1) := by decide +kernel
theorem dX4_begin_123 : decode cX4_begin 123 = .ok (.iconst 0, 1) := by decide +kernel
theorem dX4_begin_124 : decode cX4_begin 124 = .ok (.putfield 71, 3) := by decide +kernel
theorem dX4_begin_127 : decode cX4_begin 127 = .ok (.aload_n 0, 1) := by decide +kernel
theorem dX4_begin_128 : decode cX4_begin 128 = .ok (.iconst 0, 1) := by decide +kernel
theorem dX4_begin_129 : decode cX4_begin 129 = .ok (.putfield 74, 3) := by decide +kernel
theorem dX4_begin_132 : decode cX4_begin 132 = .ok (.aload_n 0, 1) := by decide +kernel
theorem dX4_begin_133 : decode cX4_begin 133 = .ok (.iconst 0, 1) := by decide +kernel
theorem dX4_begin_134 : decode cX4_begin 134 = .ok (.putfield 77, 3) := by decide +kernel
theorem dX4_begin_137 : decode cX4_begin 137 = .ok (.aload_n 0, 1) := by decide +kernel
theorem dX4_begin_138 : decode cX4_begin 138 = .ok (.iconst 0, 1) := by decide +kernel
theorem dX4_begin_139 : decode cX4_begin 139 = .ok (.putfield 80, 3) := by decide +kernel
theorem dX4_begin_142 : decode cX4_begin 142 = .ok (.aload_n 0, 1) := by decide +kernel
theorem dX4_begin_143 : decode cX4_begin 143 = .ok (.iconst (-1), 1) := by decide +kernel
theorem dX4_begin_144 : decode cX4_begin 144 = .ok (.putfield 83, 3) := by decide +kernel
theorem dX4_begin_147 : decode cX4_begin 147 = .ok (.aload_n 0, 1) := by decide +kernel
theorem dX4_begin_148 : decode cX4_begin 148 = .ok (.getfield 12, 3) := by decide +kernel
theorem dX4_begin_151 : decode cX4_begin 151 = .ok (.invokevirtual 86, 3) := by decide +kernel
theorem dX4_begin_154 : decode cX4_begin 154 = .ok (.return_, 1) := by decide +kernel
theorem dX4_tick_0 : decode cX4_tick 0 = .ok (.iconst 0, 1) := by decide +kernel
theorem dX4_tick_1 : decode cX4_tick 1 = .ok (.istore_n 1, 1) := by decide +kernel
theorem dX4_tick_2 : decode cX4_tick 2 = .ok (.iload_n 1, 1) := by decide +kernel
theorem dX4_tick_3 : decode cX4_tick 3 = .ok (.aload_n 0, 1) := by decide +kernel
theorem dX4_tick_4 : decode cX4_tick 4 = .ok (.getfield 42, 3) := by decide +kernel
theorem dX4_tick_7 : decode cX4_tick 7 = .ok (.getfield 56, 3) := by decide +kernel
theorem dX4_tick_10 : decode cX4_tick 10 = .ok (.if_icmp .ge 48, 3) := by decide +kernel
theorem dX4_tick_13 : decode cX4_tick 13 = .ok (.aload_n 0, 1) := by decide +kernel
theorem dX4_tick_14 : decode cX4_tick 14 = .ok (.getfield 29, 3) := by decide +kernel
theorem dX4_tick_17 : decode cX4_tick 17 = .ok (.iload_n 1, 1) := by decide +kernel
theorem dX4_tick_18 : decode cX4_tick 18 = .ok (.iaload, 1) := by decide +kernel
theorem dX4_tick_19 : decode cX4_tick 19 = .ok (.ifCond .ne 33, 3) := by decide +kernel
theorem dX4_tick_22 : decode cX4_tick 22 = .ok (.aload_n 0, 1) := by decide +kernel
theorem dX4_tick_23 : decode cX4_tick 23 = .ok (.getfield 22, 3) := by decide +kernel
theorem dX4_tick_26 : decode cX4_tick 26 = .ok (.iload_n 1, 1) := by decide +kernel
theorem dX4_tick_27 : decode cX4_tick 27 = .ok (.iaload, 1) := by decide +kernel
theorem dX4_tick_28 : decode cX4_tick 28 = .ok (.ifCond .le 24, 3) := by decide +kernel
theorem dX4_tick_31 : decode cX4_tick 31 = .ok (.aload_n 0, 1) := by decide +kernel
theorem dX4_tick_32 : decode cX4_tick 32 = .ok (.getfield 22, 3) := by decide +kernel
theorem dX4_tick_35 : decode cX4_tick 35 = .ok (.iload_n 1, 1) := by decide +kernel
theorem dX4_tick_36 : decode cX4_tick 36 = .ok (.iaload, 1) := by decide +kernel
theorem dX4_tick_37 : decode cX4_tick 37 = .ok (.aload_n 0, 1) := by decide +kernel
theorem dX4_tick_38 : decode cX4_tick 38 = .ok (.getfield 42, 3) := by decide +kernel
theorem dX4_tick_41 : decode cX4_tick 41 = .ok (.getfield 89, 3) := by decide +kernel
theorem dX4_tick_44 : decode cX4_tick 44 = .ok (.if_icmp .gt 8, 3) := by decide +kernel
theorem dX4_tick_47 : decode cX4_tick 47 = .ok (.aload_n 0, 1) := by decide +kernel
theorem dX4_tick_48 : decode cX4_tick 48 = .ok (.iload_n 1, 1) := by decide +kernel
theorem dX4_tick_49 : decode cX4_tick 49 = .ok (.invokevirtual 92, 3) := by decide +kernel
theorem dX4_tick_52 : decode cX4_tick 52 = .ok (.iinc 1 1, 3) := by decide +kernel
theorem dX4_tick_55 : decode cX4_tick 55 = .ok (.goto (-53), 3) := by decide +kernel
theorem dX4_tick_58 : decode cX4_tick 58 = .ok (.aload_n 0, 1) := by decide +kernel
theorem dX4_tick_59 : decode cX4_tick 59 = .ok (.getfield 64, 3) := by decide +kernel
theorem dX4_tick_62 : decode cX4_tick 62 = .ok (.ifCond .ne 45, 3) := by decide +kernel
theorem dX4_tick_65 : decode cX4_tick 65 = .ok (.aload_n 0, 1) := by decide +kernel
theorem dX4_tick_66 : decode cX4_tick 66 = .ok (.getfield 61, 3) := by decide +kernel
theorem dX4_tick_69 : decode cX4_tick 69 = .ok (.ifCond .ne 17, 3) := by decide +kernel
theorem dX4_tick_72 : decode cX4_tick 72 = .ok (.aload_n 0, 1) := by decide +kernel
theorem dX4_tick_73 : decode cX4_tick 73 = .ok (.getfield 71, 3) := by decide +kernel
theorem dX4_tick_76 : decode cX4_tick 76 = .ok (.aload_n 0, 1) := by decide +kernel
theorem dX4_tick_77 : decode cX4_tick 77 = .ok (.getfield 42, 3) := by decide +kernel
theorem dX4_tick_80 : decode cX4_tick 80 = .ok (.getfield 96, 3) := by decide +kernel
theorem dX4_tick_83 : decode cX4_tick 83 = .ok (.if_icmp .ge 14, 3) := by decide +kernel
theorem dX4_tick_86 : decode cX4_tick 86 = .ok (.aload_n 0, 1) := by decide +kernel
theorem dX4_tick_87 : decode cX4_tick 87 = .ok (.aload_n 0, 1) := by decide +kernel
theorem dX4_tick_88 : decode cX4_tick 88 = .ok (.getfield 61, 3) := by decide +kernel
theorem dX4_tick_91 : decode cX4_tick 91 = .ok (.invokevirtual 99, 3) := by decide +kernel
theorem dX4_tick_94 : decode cX4_tick 94 = .ok (.ifCond .eq 13, 3) := by decide +kernel
theorem dX4_tick_97 : decode cX4_tick 97 = .ok (.aload_n 0, 1) := by decide +kernel
theorem dX4_tick_98 : decode cX4_tick 98 = .ok (.iconst 1, 1) := by decide +kernel
theorem dX4_tick_99 : decode cX4_tick 99 = .ok (.putfield 64, 3) := by decide +kernel
theorem dX4_tick_102 : decode cX4_tick 102 = .ok (.aload_n 0, 1) := by decide +kernel
theorem dX4_tick_103 : decode cX4_tick 103 = .ok (.iconst 0, 1) := by decide +kernel
theorem dX4_tick_104 : decode cX4_tick 104 = .ok (.putfield 68, 3) := by decide +kernel
theorem dX4_tick_107 : decode cX4_tick 107 = .ok (.aload_n 0, 1) := by decide +kernel
theorem dX4_tick_108 : decode cX4_tick 108 = .ok (.invokevirtual 102, 3) := by decide +kernel
theorem dX4_tick_111 : decode cX4_tick 111 = .ok (.aload_n 0, 1) := by decide +kernel
theorem dX4_tick_112 : decode cX4_tick 112 = .ok (.invokevirtual 105, 3) := by decide +kernel
theorem dX4_tick_115 : decode cX4_tick 115 = .ok (.aload_n 0, 1) := by decide +kernel
theorem dX4_tick_116 : decode cX4_tick 116 = .ok (.getfield 61, 3) := by decide +kernel
theorem dX4_tick_119 : decode cX4_tick 119 = .ok (.ifCond .ne 20, 3) := by decide +kernel
theorem dX4_tick_122 : decode cX4_tick 122 = .ok (.aload_n 0, 1) := by decide +kernel
theorem dX4_tick_123 : decode cX4_tick 123 = .ok (.getfield 64, 3) := by decide +kernel
theorem dX4_tick_126 : decode cX4_tick 126 = .ok (.ifCond .ne 13, 3) := by decide +kernel
theorem dX4_tick_129 : decode cX4_tick 129 = .ok (.aload_n 0, 1) := by decide +kernel
theorem dX4_tick_130 : decode cX4_tick 130 = .ok (.dup, 1) := by decide +kernel
theorem dX4_tick_131 : decode cX4_tick 131 = .ok (.getfield 71, 3) := by decide +kernel
theorem dX4_tick_134 : decode cX4_tick 134 = .ok (.iconst 1, 1) := by decide +kernel
theorem dX4_tick_135 : decode cX4_tick 135 = .ok (.iadd, 1) := by decide +kernel
theorem dX4_tick_136 : decode cX4_tick 136 = .ok (.putfield 71, 3) := by decide +kernel
theorem dX4_tick_139 : decode cX4_tick 139 = .ok (.aload_n 0, 1) := by decide +kernel
theorem dX4_tick_140 : decode cX4_tick 140 = .ok (.dup, 1) := by decide +kernel
theorem dX4_tick_141 : decode cX4_tick 141 = .ok (.getfield 74, 3) := by decide +kernel
theorem dX4_tick_144 : decode cX4_tick 144 = .ok (.iconst 1, 1) := by decide +kernel
theorem dX4_tick_145 : decode cX4_tick 145 = .ok (.iadd, 1) := by decide +kernel
theorem dX4_tick_146 : decode cX4_tick 146 = .ok (.putfield 74, 3) := by decide +kernel
theorem dX4_tick_149 : decode cX4_tick 149 = .ok (.aload_n 0, 1) := by decide +kernel
theorem dX4_tick_150 : decode cX4_tick 150 = .ok (.getfield 77, 3) := by decide +kernel
theorem dX4_tick_153 : decode cX4_tick 153 = .ok (.ifCond .ne 17, 3) := by decide +kernel
theorem dX4_tick_156 : decode cX4_tick 156 = .ok (.aload_n 0, 1) := by decide +kernel
theorem dX4_tick_157 : decode cX4_tick 157 = .ok (.getfield 74, 3) := by decide +kernel
theorem dX4_tick_160 : decode cX4_tick 160 = .ok (.bipush 99, 2) := by decide +kernel
theorem dX4_tick_162 : decode cX4_tick 162 = .ok (.if_icmp .lt 8, 3) := by decide +kernel
theorem dX4_tick_165 : decode cX4_tick 165 = .ok (.aload_n 0, 1) := by decide +kernel
theorem dX4_tick_166 : decode cX4_tick 166 = .ok (.iconst 3, 1) := by decide +kernel
theorem dX4_tick_167 : decode cX4_tick 167 = .ok (.putfield 77, 3) := by decide +kernel
theorem dX4_tick_170 : decode cX4_tick 170 = .ok (.return_, 1) := by decide +kernel
theorem dX4_decide_0 : decode cX4_decide 0 = .ok (.aload_n 0, 1) := by decide +kernel
theorem dX4_decide_1 : decode cX4_decide 1 = .ok (.iload_n 1, 1) := by decide +kernel
theorem dX4_decide_2 : decode cX4_decide 2 = .ok (.invokevirtual 108, 3) := by decide +kernel
theorem dX4_decide_5 : decode cX4_decide 5 = .ok (.istore_n 2, 1) := by decide +kernel
theorem dX4_decide_6 : decode cX4_decide 6 = .ok (.iload_n 2, 1) := by decide +kernel
theorem dX4_decide_7 : decode cX4_decide 7 = .ok (.ifCond .le 32, 3) := by decide +kernel
theorem dX4_decide_10 : decode cX4_decide 10 = .ok (.aload_n 0, 1) := by decide +kernel
theorem dX4_decide_11 : decode cX4_decide 11 = .ok (.iload_n 1, 1) := by decide +kernel
theorem dX4_decide_12 : decode cX4_decide 12 = .ok (.invokevirtual 112, 3) := by decide +kernel
theorem dX4_decide_15 : decode cX4_decide 15 = .ok (.ifCond .eq 24, 3) := by decide +kernel
theorem dX4_decide_18 : decode cX4_decide 18 = .ok (.iload_n 2, 1) := by decide +kernel
theorem dX4_decide_19 : decode cX4_decide 19 = .ok (.bipush 100, 2) := by decide +kernel
theorem dX4_decide_21 : decode cX4_decide 21 = .ok (.if_icmp .ge 14, 3) := by decide +kernel
theorem dX4_decide_24 : decode cX4_decide 24 = .ok (.aload_n 0, 1) := by decide +kernel
theorem dX4_decide_25 : decode cX4_decide 25 = .ok (.getfield 12, 3) := by decide +kernel
theorem dX4_decide_28 : decode cX4_decide 28 = .ok (.iload_n 2, 1) := by decide +kernel
theorem dX4_decide_29 : decode cX4_decide 29 = .ok (.invokevirtual 115, 3) := by decide +kernel
theorem dX4_decide_32 : decode cX4_decide 32 = .ok (.ifCond .eq 7, 3) := by decide +kernel
theorem dX4_decide_35 : decode cX4_decide 35 = .ok (.iconst 1, 1) := by decide +kernel
theorem dX4_decide_36 : decode cX4_decide 36 = .ok (.goto 4, 3) := by decide +kernel
theorem dX4_decide_39 : decode cX4_decide 39 = .ok (.iconst 0, 1) := by decide +kernel
theorem dX4_decide_40 : decode cX4_decide 40 = .ok (.istore_n 3, 1) := by decide +kernel
theorem dX4_decide_41 : decode cX4_decide 41 = .ok (.aload_n 0, 1) := by decide +kernel
theorem dX4_decide_42 : decode cX4_decide 42 = .ok (.getfield 29, 3) := by decide +kernel
theorem dX4_decide_45 : decode cX4_decide 45 = .ok (.iload_n 1, 1) := by decide +kernel
theorem dX4_decide_46 : decode cX4_decide 46 = .ok (.iload_n 3, 1) := by decide +kernel
theorem dX4_decide_47 : decode cX4_decide 47 = .ok (.ifCond .eq 7, 3) := by decide +kernel
theorem dX4_decide_50 : decode cX4_decide 50 = .ok (.iconst 2, 1) := by decide +kernel
theorem dX4_decide_51 : decode cX4_decide 51 = .ok (.goto 4, 3) := by decide +kernel
theorem dX4_decide_54 : decode cX4_decide 54 = .ok (.iconst 1, 1) := by decide +kernel
theorem dX4_decide_55 : decode cX4_decide 55 = .ok (.iastore, 1) := by decide +kernel
theorem dX4_decide_56 : decode cX4_decide 56 = .ok (.return_, 1) := by decide +kernel
theorem dX4_hasRoom_0 : decode cX4_hasRoom 0 = .ok (.aload_n 0, 1) := by decide +kernel
theorem dX4_hasRoom_1 : decode cX4_hasRoom 1 = .ok (.getfield 26, 3) := by decide +kernel
theorem dX4_hasRoom_4 : decode cX4_hasRoom 4 = .ok (.iload_n 1, 1) := by decide +kernel
theorem dX4_hasRoom_5 : decode cX4_hasRoom 5 = .ok (.iaload, 1) := by decide +kernel
theorem dX4_hasRoom_6 : decode cX4_hasRoom 6 = .ok (.aload_n 0, 1) := by decide +kernel
theorem dX4_hasRoom_7 : decode cX4_hasRoom 7 = .ok (.getfield 26, 3) := by decide +kernel
theorem dX4_hasRoom_10 : decode cX4_hasRoom 10 = .ok (.iload_n 1, 1) := by decide +kernel
theorem dX4_hasRoom_11 : decode cX4_hasRoom 11 = .ok (.iaload, 1) := by decide +kernel
theorem dX4_hasRoom_12 : decode cX4_hasRoom 12 = .ok (.iconst 1, 1) := by decide +kernel
theorem dX4_hasRoom_13 : decode cX4_hasRoom 13 = .ok (.isub, 1) := by decide +kernel
theorem dX4_hasRoom_14 : decode cX4_hasRoom 14 = .ok (.imul, 1) := by decide +kernel
theorem dX4_hasRoom_15 : decode cX4_hasRoom 15 = .ok (.iconst 2, 1) := by decide +kernel
theorem dX4_hasRoom_16 : decode cX4_hasRoom 16 = .ok (.idiv, 1) := by decide +kernel
theorem dX4_hasRoom_17 : decode cX4_hasRoom 17 = .ok (.aload_n 0, 1) := by decide +kernel
theorem dX4_hasRoom_18 : decode cX4_hasRoom 18 = .ok (.getfield 22, 3) := by decide +kernel
theorem dX4_hasRoom_21 : decode cX4_hasRoom 21 = .ok (.iload_n 1, 1) := by decide +kernel
theorem dX4_hasRoom_22 : decode cX4_hasRoom 22 = .ok (.iaload, 1) := by decide +kernel
theorem dX4_hasRoom_23 : decode cX4_hasRoom 23 = .ok (.aload_n 0, 1) := by decide +kernel
theorem dX4_hasRoom_24 : decode cX4_hasRoom 24 = .ok (.getfield 42, 3) := by decide +kernel
theorem dX4_hasRoom_27 : decode cX4_hasRoom 27 = .ok (.getfield 118, 3) := by decide +kernel
theorem dX4_hasRoom_30 : decode cX4_hasRoom 30 = .ok (.isub, 1) := by decide +kernel
theorem dX4_hasRoom_31 : decode cX4_hasRoom 31 = .ok (.if_icmp .gt 7, 3) := by decide +kernel
theorem dX4_hasRoom_34 : decode cX4_hasRoom 34 = .ok (.iconst 1, 1) := by decide +kernel
theorem dX4_hasRoom_35 : decode cX4_hasRoom 35 = .ok (.goto 4, 3) := by decide +kernel
theorem dX4_hasRoom_38 : decode cX4_hasRoom 38 = .ok (.iconst 0, 1) := by decide +kernel
theorem dX4_hasRoom_39 : decode cX4_hasRoom 39 = .ok (.ireturn, 1) := by decide +kernel
theorem dX4_percentFor_0 : decode cX4_percentFor 0 = .ok (.iconst 0, 1) := by decide +kernel
theorem dX4_percentFor_1 : decode cX4_percentFor 1 = .ok (.istore_n 2, 1) := by decide +kernel
theorem dX4_percentFor_2 : decode cX4_percentFor 2 = .ok (.iconst 0, 1) := by decide +kernel
theorem dX4_percentFor_3 : decode cX4_percentFor 3 = .ok (.istore_n 3, 1) := by decide +kernel
theorem dX4_percentFor_4 : decode cX4_percentFor 4 = .ok (.iload_n 3, 1) := by decide +kernel
theorem dX4_percentFor_5 : decode cX4_percentFor 5 = .ok (.aload_n 0, 1) := by decide +kernel
theorem dX4_percentFor_6 : decode cX4_percentFor 6 = .ok (.getfield 46, 3) := by decide +kernel
theorem dX4_percentFor_9 : decode cX4_percentFor 9 = .ok (.getfield 121, 3) := by decide +kernel
theorem dX4_percentFor_12 : decode cX4_percentFor 12 = .ok (.if_icmp .ge 125, 3) := by decide +kernel
theorem dX4_percentFor_15 : decode cX4_percentFor 15 = .ok (.iconst 0, 1) := by decide +kernel
theorem dX4_percentFor_16 : decode cX4_percentFor 16 = .ok (.istore 4, 2) := by decide +kernel
theorem dX4_percentFor_18 : decode cX4_percentFor 18 = .ok (.iload_n 2, 1) := by decide +kernel
theorem dX4_percentFor_19 : decode cX4_percentFor 19 = .ok (.aload_n 0, 1) := by decide +kernel
theorem dX4_percentFor_20 : decode cX4_percentFor 20 = .ok (.getfield 46, 3) := by decide +kernel
theorem dX4_percentFor_23 : decode cX4_percentFor 23 = .ok (.getfield 126, 3) := by decide +kernel
theorem dX4_percentFor_26 : decode cX4_percentFor 26 = .ok (.iload_n 3, 1) := by decide +kernel
theorem dX4_percentFor_27 : decode cX4_percentFor 27 = .ok (.iaload, 1) := by decide +kernel
theorem dX4_percentFor_28 : decode cX4_percentFor 28 = .ok (.if_icmp .ge 78, 3) := by decide +kernel
theorem dX4_percentFor_31 : decode cX4_percentFor 31 = .ok (.aload_n 0, 1) := by decide +kernel
theorem dX4_percentFor_32 : decode cX4_percentFor 32 = .ok (.getfield 46, 3) := by decide +kernel
theorem dX4_percentFor_35 : decode cX4_percentFor 35 = .ok (.getfield 129, 3) := by decide +kernel
theorem dX4_percentFor_38 : decode cX4_percentFor 38 = .ok (.iload_n 2, 1) := by decide +kernel
theorem dX4_percentFor_39 : decode cX4_percentFor 39 = .ok (.iaload, 1) := by decide +kernel
theorem dX4_percentFor_40 : decode cX4_percentFor 40 = .ok (.sipush 1000, 3) := by decide +kernel
theorem dX4_percentFor_43 : decode cX4_percentFor 43 = .ok (.idiv, 1) := by decide +kernel
theorem dX4_percentFor_44 : decode cX4_percentFor 44 = .ok (.istore 5, 2) := by decide +kernel
theorem dX4_percentFor_46 : decode cX4_percentFor 46 = .ok (.iload 5, 2) := by decide +kernel
theorem dX4_percentFor_48 : decode cX4_percentFor 48 = .ok (.bipush 16, 2) := by decide +kernel
theorem dX4_percentFor_50 : decode cX4_percentFor 50 = .ok (.if_icmp .lt 15, 3) := by decide +kernel
theorem dX4_percentFor_53 : decode cX4_percentFor 53 = .ok (.iload 4, 2) := by decide +kernel
theorem dX4_percentFor_55 : decode cX4_percentFor 55 = .ok (.iload 5, 2) := by decide +kernel
theorem dX4_percentFor_57 : decode cX4_percentFor 57 = .ok (.invokestatic 132, 3) := by decide +kernel
theorem dX4_percentFor_60 : decode cX4_percentFor 60 = .ok (.istore 4, 2) := by decide +kernel
theorem dX4_percentFor_62 : decode cX4_percentFor 62 = .ok (.goto 38, 3) := by decide +kernel
theorem dX4_percentFor_65 : decode cX4_percentFor 65 = .ok (.iload 4, 2) := by decide +kernel
theorem dX4_percentFor_67 : decode cX4_percentFor 67 = .ok (.iconst 1, 1) := by decide +kernel
theorem dX4_percentFor_68 : decode cX4_percentFor 68 = .ok (.ishl, 1) := by decide +kernel
theorem dX4_percentFor_69 : decode cX4_percentFor 69 = .ok (.aload_n 0, 1) := by decide +kernel
theorem dX4_percentFor_70 : decode cX4_percentFor 70 = .ok (.iload 5, 2) := by decide +kernel
theorem dX4_percentFor_72 : decode cX4_percentFor 72 = .ok (.aload_n 0, 1) := by decide +kernel
theorem dX4_percentFor_73 : decode cX4_percentFor 73 = .ok (.getfield 46, 3) := by decide +kernel
theorem dX4_percentFor_76 : decode cX4_percentFor 76 = .ok (.getfield 129, 3) := by decide +kernel
theorem dX4_percentFor_79 : decode cX4_percentFor 79 = .ok (.iload_n 2, 1) := by decide +kernel
theorem dX4_percentFor_80 : decode cX4_percentFor 80 = .ok (.iaload, 1) := by decide +kernel
theorem dX4_percentFor_81 : decode cX4_percentFor 81 = .ok (.sipush 1000, 3) := by decide +kernel
theorem dX4_percentFor_84 : decode cX4_percentFor 84 = .ok (.irem, 1) := by decide +kernel
theorem dX4_percentFor_85 : decode cX4_percentFor 85 = .ok (.iload_n 1, 1) := by decide +kernel
theorem dX4_percentFor_86 : decode cX4_percentFor 86 = .ok (.invokevirtual 136, 3) := by decide +kernel
theorem dX4_percentFor_89 : decode cX4_percentFor 89 = .ok (.ifCond .eq 7, 3) := by decide +kernel
theorem dX4_percentFor_92 : decode cX4_percentFor 92 = .ok (.iconst 1, 1) := by decide +kernel
theorem dX4_percentFor_93 : decode cX4_percentFor 93 = .ok (.goto 4, 3) := by decide +kernel
theorem dX4_percentFor_96 : decode cX4_percentFor 96 = .ok (.iconst 0, 1) := by decide +kernel
theorem dX4_percentFor_97 : decode cX4_percentFor 97 = .ok (.ior, 1) := by decide +kernel
theorem dX4_percentFor_98 : decode cX4_percentFor 98 = .ok (.istore 4, 2) := by decide +kernel
theorem dX4_percentFor_100 : decode cX4_percentFor 100 = .ok (.iinc 2 1, 3) := by decide +kernel
theorem dX4_percentFor_103 : decode cX4_percentFor 103 = .ok (.goto (-85), 3) := by decide +kernel
theorem dX4_percentFor_106 : decode cX4_percentFor 106 = .ok (.iload_n 3, 1) := by decide +kernel
theorem dX4_percentFor_107 : decode cX4_percentFor 107 = .ok (.aload_n 0, 1) := by decide +kernel
theorem dX4_percentFor_108 : decode cX4_percentFor 108 = .ok (.getfield 18, 3) := by decide +kernel
theorem dX4_percentFor_111 : decode cX4_percentFor 111 = .ok (.if_icmp .eq 20, 3) := by decide +kernel
theorem dX4_percentFor_114 : decode cX4_percentFor 114 = .ok (.iload 4, 2) := by decide +kernel
theorem dX4_percentFor_116 : decode cX4_percentFor 116 = .ok (.iconst 1, 1) := by decide +kernel
theorem dX4_percentFor_117 : decode cX4_percentFor 117 = .ok (.iand, 1) := by decide +kernel
theorem dX4_percentFor_118 : decode cX4_percentFor 118 = .ok (.ifCond .eq 13, 3) := by decide +kernel
theorem dX4_percentFor_121 : decode cX4_percentFor 121 = .ok (.aload_n 0, 1) := by decide +kernel
theorem dX4_percentFor_122 : decode cX4_percentFor 122 = .ok (.getfield 46, 3) := by decide +kernel
theorem dX4_percentFor_125 : decode cX4_percentFor 125 = .ok (.getfield 140, 3) := by decide +kernel
theorem dX4_percentFor_128 : decode cX4_percentFor 128 = .ok (.iload_n 3, 1) := by decide +kernel
theorem dX4_percentFor_129 : decode cX4_percentFor 129 = .ok (.iaload, 1) := by decide +kernel
theorem dX4_percentFor_130 : decode cX4_percentFor 130 = .ok (.ireturn, 1) := by decide +kernel
theorem dX4_percentFor_131 : decode cX4_percentFor 131 = .ok (.iinc 3 1, 3) := by decide +kernel
theorem dX4_percentFor_134 : decode cX4_percentFor 134 = .ok (.goto (-130), 3) := by decide +kernel
theorem dX4_percentFor_137 : decode cX4_percentFor 137 = .ok (.iconst 0, 1) := by decide +kernel
theorem dX4_percentFor_138 : decode cX4_percentFor 138 = .ok (.ireturn, 1) := by decide +kernel
theorem dX4_joined_0 : decode cX4_joined 0 = .ok (.iload_n 1, 1) := by decide +kernel
theorem dX4_joined_1 : decode cX4_joined 1 = .ok (.bipush 16, 2) := by decide +kernel
theorem dX4_joined_3 : decode cX4_joined 3 = .ok (.if_icmp .ne 7, 3) := by decide +kernel
theorem dX4_joined_6 : decode cX4_joined 6 = .ok (.iload_n 0, 1) := by decide +kernel
theorem dX4_joined_7 : decode cX4_joined 7 = .ok (.iconst 1, 1) := by decide +kernel
theorem dX4_joined_8 : decode cX4_joined 8 = .ok (.ixor, 1) := by decide +kernel
theorem dX4_joined_9 : decode cX4_joined 9 = .ok (.ireturn, 1) := by decide +kernel
theorem dX4_joined_10 : decode cX4_joined 10 = .ok (.iload_n 0, 1) := by decide +kernel
theorem dX4_joined_11 : decode cX4_joined 11 = .ok (.iconst 1, 1) := by decide +kernel
theorem dX4_joined_12 : decode cX4_joined 12 = .ok (.ishr, 1) := by decide +kernel
theorem dX4_joined_13 : decode cX4_joined 13 = .ok (.istore_n 2, 1) := by decide +kernel
theorem dX4_joined_14 : decode cX4_joined 14 = .ok (.iload_n 1, 1) := by decide +kernel
theorem dX4_joined_15 : decode cX4_joined 15 = .ok (.bipush 17, 2) := by decide +kernel
theorem dX4_joined_17 : decode cX4_joined 17 = .ok (.if_icmp .ne 18, 3) := by decide +kernel
theorem dX4_joined_20 : decode cX4_joined 20 = .ok (.iload_n 0, 1) := by decide +kernel
theorem dX4_joined_21 : decode cX4_joined 21 = .ok (.iconst 1, 1) := by decide +kernel
theorem dX4_joined_22 : decode cX4_joined 22 = .ok (.iand, 1) := by decide +kernel
theorem dX4_joined_23 : decode cX4_joined 23 = .ok (.ifCond .eq 7, 3) := by decide +kernel
theorem dX4_joined_26 : decode cX4_joined 26 = .ok (.iload_n 2, 1) := by decide +kernel
theorem dX4_joined_27 : decode cX4_joined 27 = .ok (.goto 7, 3) := by decide +kernel
theorem dX4_joined_30 : decode cX4_joined 30 = .ok (.iload_n 2, 1) := by decide +kernel
theorem dX4_joined_31 : decode cX4_joined 31 = .ok (.bipush (-2), 2) := by decide +kernel
theorem dX4_joined_33 : decode cX4_joined 33 = .ok (.iand, 1) := by decide +kernel
theorem dX4_joined_34 : decode cX4_joined 34 = .ok (.ireturn, 1) := by decide +kernel
theorem dX4_joined_35 : decode cX4_joined 35 = .ok (.iload_n 2, 1) := by decide +kernel
theorem dX4_joined_36 : decode cX4_joined 36 = .ok (.iload_n 0, 1) := by decide +kernel
theorem dX4_joined_37 : decode cX4_joined 37 = .ok (.iconst 1, 1) := by decide +kernel
theorem dX4_joined_38 : decode cX4_joined 38 = .ok (.iand, 1) := by decide +kernel
theorem dX4_joined_39 : decode cX4_joined 39 = .ok (.ior, 1) := by decide +kernel
theorem dX4_joined_40 : decode cX4_joined 40 = .ok (.ireturn, 1) := by decide +kernel
theorem dX4_isFact_0 : decode cX4_isFact 0 = .ok (.iload_n 1, 1) := by decide +kernel
theorem dX4_isFact_1 : decode cX4_isFact 1 = .ok (.tableswitch 155 8 15 #[47, 63, 79, 98, 117, 123, 129, 135], 47) := by decide +kernel
theorem dX4_isFact_48 : decode cX4_isFact 48 = .ok (.aload_n 0, 1) := by decide +kernel
theorem dX4_isFact_49 : decode cX4_isFact 49 = .ok (.getfield 22, 3) := by decide +kernel
theorem dX4_isFact_52 : decode cX4_isFact 52 = .ok (.iload_n 3, 1) := by decide +kernel
theorem dX4_isFact_53 : decode cX4_isFact 53 = .ok (.iaload, 1) := by decide +kernel
theorem dX4_isFact_54 : decode cX4_isFact 54 = .ok (.iload_n 2, 1) := by decide +kernel
theorem dX4_isFact_55 : decode cX4_isFact 55 = .ok (.if_icmp .ge 7, 3) := by decide +kernel
theorem dX4_isFact_58 : decode cX4_isFact 58 = .ok (.iconst 1, 1) := by decide +kernel
theorem dX4_isFact_59 : decode cX4_isFact 59 = .ok (.goto 4, 3) := by decide +kernel
theorem dX4_isFact_62 : decode cX4_isFact 62 = .ok (.iconst 0, 1) := by decide +kernel
theorem dX4_isFact_63 : decode cX4_isFact 63 = .ok (.ireturn, 1) := by decide +kernel
theorem dX4_isFact_64 : decode cX4_isFact 64 = .ok (.aload_n 0, 1) := by decide +kernel
theorem dX4_isFact_65 : decode cX4_isFact 65 = .ok (.getfield 26, 3) := by decide +kernel
theorem dX4_isFact_68 : decode cX4_isFact 68 = .ok (.iload_n 3, 1) := by decide +kernel
theorem dX4_isFact_69 : decode cX4_isFact 69 = .ok (.iaload, 1) := by decide +kernel
theorem dX4_isFact_70 : decode cX4_isFact 70 = .ok (.iload_n 2, 1) := by decide +kernel
theorem dX4_isFact_71 : decode cX4_isFact 71 = .ok (.if_icmp .lt 7, 3) := by decide +kernel
theorem dX4_isFact_74 : decode cX4_isFact 74 = .ok (.iconst 1, 1) := by decide +kernel
