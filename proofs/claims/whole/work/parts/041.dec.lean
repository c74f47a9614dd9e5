theorem dX4_isFact_75 : decode cX4_isFact 75 = .ok (.goto 4, 3) := by decide +kernel
theorem dX4_isFact_78 : decode cX4_isFact 78 = .ok (.iconst 0, 1) := by decide +kernel
theorem dX4_isFact_79 : decode cX4_isFact 79 = .ok (.ireturn, 1) := by decide +kernel
theorem dX4_isFact_80 : decode cX4_isFact 80 = .ok (.aload_n 0, 1) := by decide +kernel
theorem dX4_isFact_81 : decode cX4_isFact 81 = .ok (.getfield 42, 3) := by decide +kernel
theorem dX4_isFact_84 : decode cX4_isFact 84 = .ok (.getfield 143, 3) := by decide +kernel
theorem dX4_isFact_87 : decode cX4_isFact 87 = .ok (.iload_n 3, 1) := by decide +kernel
theorem dX4_isFact_88 : decode cX4_isFact 88 = .ok (.iaload, 1) := by decide +kernel
theorem dX4_isFact_89 : decode cX4_isFact 89 = .ok (.iload_n 2, 1) := by decide +kernel
theorem dX4_isFact_90 : decode cX4_isFact 90 = .ok (.if_icmp .ne 7, 3) := by decide +kernel
theorem dX4_isFact_93 : decode cX4_isFact 93 = .ok (.iconst 1, 1) := by decide +kernel
theorem dX4_isFact_94 : decode cX4_isFact 94 = .ok (.goto 4, 3) := by decide +kernel
theorem dX4_isFact_97 : decode cX4_isFact 97 = .ok (.iconst 0, 1) := by decide +kernel
theorem dX4_isFact_98 : decode cX4_isFact 98 = .ok (.ireturn, 1) := by decide +kernel
theorem dX4_isFact_99 : decode cX4_isFact 99 = .ok (.aload_n 0, 1) := by decide +kernel
theorem dX4_isFact_100 : decode cX4_isFact 100 = .ok (.getfield 42, 3) := by decide +kernel
theorem dX4_isFact_103 : decode cX4_isFact 103 = .ok (.getfield 146, 3) := by decide +kernel
theorem dX4_isFact_106 : decode cX4_isFact 106 = .ok (.iload_n 3, 1) := by decide +kernel
theorem dX4_isFact_107 : decode cX4_isFact 107 = .ok (.iaload, 1) := by decide +kernel
theorem dX4_isFact_108 : decode cX4_isFact 108 = .ok (.iload_n 2, 1) := by decide +kernel
theorem dX4_isFact_109 : decode cX4_isFact 109 = .ok (.if_icmp .ne 7, 3) := by decide +kernel
theorem dX4_isFact_112 : decode cX4_isFact 112 = .ok (.iconst 1, 1) := by decide +kernel
theorem dX4_isFact_113 : decode cX4_isFact 113 = .ok (.goto 4, 3) := by decide +kernel
theorem dX4_isFact_116 : decode cX4_isFact 116 = .ok (.iconst 0, 1) := by decide +kernel
theorem dX4_isFact_117 : decode cX4_isFact 117 = .ok (.ireturn, 1) := by decide +kernel
theorem dX4_isFact_118 : decode cX4_isFact 118 = .ok (.aload_n 0, 1) := by decide +kernel
theorem dX4_isFact_119 : decode cX4_isFact 119 = .ok (.iload_n 3, 1) := by decide +kernel
theorem dX4_isFact_120 : decode cX4_isFact 120 = .ok (.invokevirtual 149, 3) := by decide +kernel
theorem dX4_isFact_123 : decode cX4_isFact 123 = .ok (.ireturn, 1) := by decide +kernel
theorem dX4_isFact_124 : decode cX4_isFact 124 = .ok (.aload_n 0, 1) := by decide +kernel
theorem dX4_isFact_125 : decode cX4_isFact 125 = .ok (.iload_n 3, 1) := by decide +kernel
theorem dX4_isFact_126 : decode cX4_isFact 126 = .ok (.invokevirtual 152, 3) := by decide +kernel
theorem dX4_isFact_129 : decode cX4_isFact 129 = .ok (.ireturn, 1) := by decide +kernel
theorem dX4_isFact_130 : decode cX4_isFact 130 = .ok (.aload_n 0, 1) := by decide +kernel
theorem dX4_isFact_131 : decode cX4_isFact 131 = .ok (.iload_n 3, 1) := by decide +kernel
theorem dX4_isFact_132 : decode cX4_isFact 132 = .ok (.invokevirtual 155, 3) := by decide +kernel
theorem dX4_isFact_135 : decode cX4_isFact 135 = .ok (.ireturn, 1) := by decide +kernel
theorem dX4_isFact_136 : decode cX4_isFact 136 = .ok (.aload_n 0, 1) := by decide +kernel
theorem dX4_isFact_137 : decode cX4_isFact 137 = .ok (.getfield 61, 3) := by decide +kernel
theorem dX4_isFact_140 : decode cX4_isFact 140 = .ok (.ifCond .gt 10, 3) := by decide +kernel
theorem dX4_isFact_143 : decode cX4_isFact 143 = .ok (.aload_n 0, 1) := by decide +kernel
theorem dX4_isFact_144 : decode cX4_isFact 144 = .ok (.getfield 64, 3) := by decide +kernel
theorem dX4_isFact_147 : decode cX4_isFact 147 = .ok (.ifCond .eq 7, 3) := by decide +kernel
theorem dX4_isFact_150 : decode cX4_isFact 150 = .ok (.iconst 1, 1) := by decide +kernel
theorem dX4_isFact_151 : decode cX4_isFact 151 = .ok (.goto 4, 3) := by decide +kernel
theorem dX4_isFact_154 : decode cX4_isFact 154 = .ok (.iconst 0, 1) := by decide +kernel
theorem dX4_isFact_155 : decode cX4_isFact 155 = .ok (.ireturn, 1) := by decide +kernel
theorem dX4_isFact_156 : decode cX4_isFact 156 = .ok (.aload_n 0, 1) := by decide +kernel
theorem dX4_isFact_157 : decode cX4_isFact 157 = .ok (.getfield 42, 3) := by decide +kernel
theorem dX4_isFact_160 : decode cX4_isFact 160 = .ok (.iload_n 1, 1) := by decide +kernel
theorem dX4_isFact_161 : decode cX4_isFact 161 = .ok (.invokevirtual 50, 3) := by decide +kernel
theorem dX4_isFact_164 : decode cX4_isFact 164 = .ok (.ireturn, 1) := by decide +kernel
theorem dX4_isStoppingAhead_0 : decode cX4_isStoppingAhead 0 = .ok (.iconst 0, 1) := by decide +kernel
theorem dX4_isStoppingAhead_1 : decode cX4_isStoppingAhead 1 = .ok (.istore_n 2, 1) := by decide +kernel
theorem dX4_isStoppingAhead_2 : decode cX4_isStoppingAhead 2 = .ok (.iload_n 2, 1) := by decide +kernel
theorem dX4_isStoppingAhead_3 : decode cX4_isStoppingAhead 3 = .ok (.aload_n 0, 1) := by decide +kernel
theorem dX4_isStoppingAhead_4 : decode cX4_isStoppingAhead 4 = .ok (.getfield 42, 3) := by decide +kernel
theorem dX4_isStoppingAhead_7 : decode cX4_isStoppingAhead 7 = .ok (.getfield 56, 3) := by decide +kernel
theorem dX4_isStoppingAhead_10 : decode cX4_isStoppingAhead 10 = .ok (.if_icmp .ge 66, 3) := by decide +kernel
theorem dX4_isStoppingAhead_13 : decode cX4_isStoppingAhead 13 = .ok (.aload_n 0, 1) := by decide +kernel
theorem dX4_isStoppingAhead_14 : decode cX4_isStoppingAhead 14 = .ok (.getfield 29, 3) := by decide +kernel
theorem dX4_isStoppingAhead_17 : decode cX4_isStoppingAhead 17 = .ok (.iload_n 2, 1) := by decide +kernel
theorem dX4_isStoppingAhead_18 : decode cX4_isStoppingAhead 18 = .ok (.iaload, 1) := by decide +kernel
theorem dX4_isStoppingAhead_19 : decode cX4_isStoppingAhead 19 = .ok (.iconst 2, 1) := by decide +kernel
theorem dX4_isStoppingAhead_20 : decode cX4_isStoppingAhead 20 = .ok (.if_icmp .ne 50, 3) := by decide +kernel
theorem dX4_isStoppingAhead_23 : decode cX4_isStoppingAhead 23 = .ok (.aload_n 0, 1) := by decide +kernel
theorem dX4_isStoppingAhead_24 : decode cX4_isStoppingAhead 24 = .ok (.getfield 42, 3) := by decide +kernel
theorem dX4_isStoppingAhead_27 : decode cX4_isStoppingAhead 27 = .ok (.getfield 143, 3) := by decide +kernel
theorem dX4_isStoppingAhead_30 : decode cX4_isStoppingAhead 30 = .ok (.iload_n 2, 1) := by decide +kernel
theorem dX4_isStoppingAhead_31 : decode cX4_isStoppingAhead 31 = .ok (.iaload, 1) := by decide +kernel
theorem dX4_isStoppingAhead_32 : decode cX4_isStoppingAhead 32 = .ok (.aload_n 0, 1) := by decide +kernel
theorem dX4_isStoppingAhead_33 : decode cX4_isStoppingAhead 33 = .ok (.getfield 42, 3) := by decide +kernel
theorem dX4_isStoppingAhead_36 : decode cX4_isStoppingAhead 36 = .ok (.getfield 143, 3) := by decide +kernel
theorem dX4_isStoppingAhead_39 : decode cX4_isStoppingAhead 39 = .ok (.iload_n 1, 1) := by decide +kernel
theorem dX4_isStoppingAhead_40 : decode cX4_isStoppingAhead 40 = .ok (.iaload, 1) := by decide +kernel
theorem dX4_isStoppingAhead_41 : decode cX4_isStoppingAhead 41 = .ok (.if_icmp .ne 29, 3) := by decide +kernel
theorem dX4_isStoppingAhead_44 : decode cX4_isStoppingAhead 44 = .ok (.aload_n 0, 1) := by decide +kernel
theorem dX4_isStoppingAhead_45 : decode cX4_isStoppingAhead 45 = .ok (.getfield 22, 3) := by decide +kernel
theorem dX4_isStoppingAhead_48 : decode cX4_isStoppingAhead 48 = .ok (.iload_n 2, 1) := by decide +kernel
theorem dX4_isStoppingAhead_49 : decode cX4_isStoppingAhead 49 = .ok (.iaload, 1) := by decide +kernel
theorem dX4_isStoppingAhead_50 : decode cX4_isStoppingAhead 50 = .ok (.ifCond .le 20, 3) := by decide +kernel
theorem dX4_isStoppingAhead_53 : decode cX4_isStoppingAhead 53 = .ok (.aload_n 0, 1) := by decide +kernel
theorem dX4_isStoppingAhead_54 : decode cX4_isStoppingAhead 54 = .ok (.getfield 22, 3) := by decide +kernel
theorem dX4_isStoppingAhead_57 : decode cX4_isStoppingAhead 57 = .ok (.iload_n 2, 1) := by decide +kernel
theorem dX4_isStoppingAhead_58 : decode cX4_isStoppingAhead 58 = .ok (.iaload, 1) := by decide +kernel
theorem dX4_isStoppingAhead_59 : decode cX4_isStoppingAhead 59 = .ok (.aload_n 0, 1) := by decide +kernel
theorem dX4_isStoppingAhead_60 : decode cX4_isStoppingAhead 60 = .ok (.getfield 22, 3) := by decide +kernel
theorem dX4_isStoppingAhead_63 : decode cX4_isStoppingAhead 63 = .ok (.iload_n 1, 1) := by decide +kernel
theorem dX4_isStoppingAhead_64 : decode cX4_isStoppingAhead 64 = .ok (.iaload, 1) := by decide +kernel
theorem dX4_isStoppingAhead_65 : decode cX4_isStoppingAhead 65 = .ok (.if_icmp .ge 5, 3) := by decide +kernel
theorem dX4_isStoppingAhead_68 : decode cX4_isStoppingAhead 68 = .ok (.iconst 1, 1) := by decide +kernel
theorem dX4_isStoppingAhead_69 : decode cX4_isStoppingAhead 69 = .ok (.ireturn, 1) := by decide +kernel
theorem dX4_isStoppingAhead_70 : decode cX4_isStoppingAhead 70 = .ok (.iinc 2 1, 3) := by decide +kernel
theorem dX4_isStoppingAhead_73 : decode cX4_isStoppingAhead 73 = .ok (.goto (-71), 3) := by decide +kernel
theorem dX4_isStoppingAhead_76 : decode cX4_isStoppingAhead 76 = .ok (.iconst 0, 1) := by decide +kernel
theorem dX4_isStoppingAhead_77 : decode cX4_isStoppingAhead 77 = .ok (.ireturn, 1) := by decide +kernel
theorem dX4_isStoppingBeside_0 : decode cX4_isStoppingBeside 0 = .ok (.iconst 0, 1) := by decide +kernel
theorem dX4_isStoppingBeside_1 : decode cX4_isStoppingBeside 1 = .ok (.istore_n 2, 1) := by decide +kernel
theorem dX4_isStoppingBeside_2 : decode cX4_isStoppingBeside 2 = .ok (.iload_n 2, 1) := by decide +kernel
theorem dX4_isStoppingBeside_3 : decode cX4_isStoppingBeside 3 = .ok (.aload_n 0, 1) := by decide +kernel
theorem dX4_isStoppingBeside_4 : decode cX4_isStoppingBeside 4 = .ok (.getfield 42, 3) := by decide +kernel
theorem dX4_isStoppingBeside_7 : decode cX4_isStoppingBeside 7 = .ok (.getfield 56, 3) := by decide +kernel
theorem dX4_isStoppingBeside_10 : decode cX4_isStoppingBeside 10 = .ok (.if_icmp .ge 60, 3) := by decide +kernel
theorem dX4_isStoppingBeside_13 : decode cX4_isStoppingBeside 13 = .ok (.aload_n 0, 1) := by decide +kernel
theorem dX4_isStoppingBeside_14 : decode cX4_isStoppingBeside 14 = .ok (.getfield 42, 3) := by decide +kernel
theorem dX4_isStoppingBeside_17 : decode cX4_isStoppingBeside 17 = .ok (.getfield 143, 3) := by decide +kernel
theorem dX4_isStoppingBeside_20 : decode cX4_isStoppingBeside 20 = .ok (.iload_n 2, 1) := by decide +kernel
theorem dX4_isStoppingBeside_21 : decode cX4_isStoppingBeside 21 = .ok (.iaload, 1) := by decide +kernel
theorem dX4_isStoppingBeside_22 : decode cX4_isStoppingBeside 22 = .ok (.aload_n 0, 1) := by decide +kernel
theorem dX4_isStoppingBeside_23 : decode cX4_isStoppingBeside 23 = .ok (.getfield 42, 3) := by decide +kernel
theorem dX4_isStoppingBeside_26 : decode cX4_isStoppingBeside 26 = .ok (.getfield 143, 3) := by decide +kernel
theorem dX4_isStoppingBeside_29 : decode cX4_isStoppingBeside 29 = .ok (.iload_n 1, 1) := by decide +kernel
theorem dX4_isStoppingBeside_30 : decode cX4_isStoppingBeside 30 = .ok (.iaload, 1) := by decide +kernel
theorem dX4_isStoppingBeside_31 : decode cX4_isStoppingBeside 31 = .ok (.isub, 1) := by decide +kernel
theorem dX4_isStoppingBeside_32 : decode cX4_isStoppingBeside 32 = .ok (.istore_n 3, 1) := by decide +kernel
theorem dX4_isStoppingBeside_33 : decode cX4_isStoppingBeside 33 = .ok (.aload_n 0, 1) := by decide +kernel
theorem dX4_isStoppingBeside_34 : decode cX4_isStoppingBeside 34 = .ok (.getfield 29, 3) := by decide +kernel
theorem dX4_isStoppingBeside_37 : decode cX4_isStoppingBeside 37 = .ok (.iload_n 2, 1) := by decide +kernel
theorem dX4_isStoppingBeside_38 : decode cX4_isStoppingBeside 38 = .ok (.iaload, 1) := by decide +kernel
theorem dX4_isStoppingBeside_39 : decode cX4_isStoppingBeside 39 = .ok (.iconst 2, 1) := by decide +kernel
theorem dX4_isStoppingBeside_40 : decode cX4_isStoppingBeside 40 = .ok (.if_icmp .ne 24, 3) := by decide +kernel
theorem dX4_isStoppingBeside_43 : decode cX4_isStoppingBeside 43 = .ok (.iload_n 3, 1) := by decide +kernel
theorem dX4_isStoppingBeside_44 : decode cX4_isStoppingBeside 44 = .ok (.iconst 1, 1) := by decide +kernel
theorem dX4_isStoppingBeside_45 : decode cX4_isStoppingBeside 45 = .ok (.if_icmp .eq 8, 3) := by decide +kernel
theorem dX4_isStoppingBeside_48 : decode cX4_isStoppingBeside 48 = .ok (.iload_n 3, 1) := by decide +kernel
theorem dX4_isStoppingBeside_49 : decode cX4_isStoppingBeside 49 = .ok (.iconst (-1), 1) := by decide +kernel
theorem dX4_isStoppingBeside_50 : decode cX4_isStoppingBeside 50 = .ok (.if_icmp .ne 14, 3) := by decide +kernel
theorem dX4_isStoppingBeside_53 : decode cX4_isStoppingBeside 53 = .ok (.aload_n 0, 1) := by decide +kernel
theorem dX4_isStoppingBeside_54 : decode cX4_isStoppingBeside 54 = .ok (.getfield 22, 3) := by decide +kernel
theorem dX4_isStoppingBeside_57 : decode cX4_isStoppingBeside 57 = .ok (.iload_n 2, 1) := by decide +kernel
theorem dX4_isStoppingBeside_58 : decode cX4_isStoppingBeside 58 = .ok (.iaload, 1) := by decide +kernel
theorem dX4_isStoppingBeside_59 : decode cX4_isStoppingBeside 59 = .ok (.ifCond .le 5, 3) := by decide +kernel
theorem dX4_isStoppingBeside_62 : decode cX4_isStoppingBeside 62 = .ok (.iconst 1, 1) := by decide +kernel
theorem dX4_isStoppingBeside_63 : decode cX4_isStoppingBeside 63 = .ok (.ireturn, 1) := by decide +kernel
theorem dX4_isStoppingBeside_64 : decode cX4_isStoppingBeside 64 = .ok (.iinc 2 1, 3) := by decide +kernel
theorem dX4_isStoppingBeside_67 : decode cX4_isStoppingBeside 67 = .ok (.goto (-65), 3) := by decide +kernel
theorem dX4_isStoppingBeside_70 : decode cX4_isStoppingBeside 70 = .ok (.iconst 0, 1) := by decide +kernel
theorem dX4_isStoppingBeside_71 : decode cX4_isStoppingBeside 71 = .ok (.ireturn, 1) := by decide +kernel
theorem dX4_isGoingElsewhere_0 : decode cX4_isGoingElsewhere 0 = .ok (.iconst 0, 1) := by decide +kernel
theorem dX4_isGoingElsewhere_1 : decode cX4_isGoingElsewhere 1 = .ok (.istore_n 2, 1) := by decide +kernel
theorem dX4_isGoingElsewhere_2 : decode cX4_isGoingElsewhere 2 = .ok (.iload_n 2, 1) := by decide +kernel
theorem dX4_isGoingElsewhere_3 : decode cX4_isGoingElsewhere 3 = .ok (.aload_n 0, 1) := by decide +kernel
theorem dX4_isGoingElsewhere_4 : decode cX4_isGoingElsewhere 4 = .ok (.getfield 42, 3) := by decide +kernel
theorem dX4_isGoingElsewhere_7 : decode cX4_isGoingElsewhere 7 = .ok (.getfield 56, 3) := by decide +kernel
theorem dX4_isGoingElsewhere_10 : decode cX4_isGoingElsewhere 10 = .ok (.if_icmp .ge 66, 3) := by decide +kernel
theorem dX4_isGoingElsewhere_13 : decode cX4_isGoingElsewhere 13 = .ok (.aload_n 0, 1) := by decide +kernel
theorem dX4_isGoingElsewhere_14 : decode cX4_isGoingElsewhere 14 = .ok (.getfield 29, 3) := by decide +kernel
theorem dX4_isGoingElsewhere_17 : decode cX4_isGoingElsewhere 17 = .ok (.iload_n 2, 1) := by decide +kernel
theorem dX4_isGoingElsewhere_18 : decode cX4_isGoingElsewhere 18 = .ok (.iaload, 1) := by decide +kernel
theorem dX4_isGoingElsewhere_19 : decode cX4_isGoingElsewhere 19 = .ok (.iconst 1, 1) := by decide +kernel
theorem dX4_isGoingElsewhere_20 : decode cX4_isGoingElsewhere 20 = .ok (.if_icmp .ne 50, 3) := by decide +kernel
theorem dX4_isGoingElsewhere_23 : decode cX4_isGoingElsewhere 23 = .ok (.aload_n 0, 1) := by decide +kernel
theorem dX4_isGoingElsewhere_24 : decode cX4_isGoingElsewhere 24 = .ok (.getfield 42, 3) := by decide +kernel
theorem dX4_isGoingElsewhere_27 : decode cX4_isGoingElsewhere 27 = .ok (.getfield 143, 3) := by decide +kernel
theorem dX4_isGoingElsewhere_30 : decode cX4_isGoingElsewhere 30 = .ok (.iload_n 2, 1) := by decide +kernel
theorem dX4_isGoingElsewhere_31 : decode cX4_isGoingElsewhere 31 = .ok (.iaload, 1) := by decide +kernel
theorem dX4_isGoingElsewhere_32 : decode cX4_isGoingElsewhere 32 = .ok (.aload_n 0, 1) := by decide +kernel
theorem dX4_isGoingElsewhere_33 : decode cX4_isGoingElsewhere 33 = .ok (.getfield 42, 3) := by decide +kernel
theorem dX4_isGoingElsewhere_36 : decode cX4_isGoingElsewhere 36 = .ok (.getfield 143, 3) := by decide +kernel
theorem dX4_isGoingElsewhere_39 : decode cX4_isGoingElsewhere 39 = .ok (.iload_n 1, 1) := by decide +kernel
theorem dX4_isGoingElsewhere_40 : decode cX4_isGoingElsewhere 40 = .ok (.iaload, 1) := by decide +kernel
theorem dX4_isGoingElsewhere_41 : decode cX4_isGoingElsewhere 41 = .ok (.if_icmp .eq 29, 3) := by decide +kernel
theorem dX4_isGoingElsewhere_44 : decode cX4_isGoingElsewhere 44 = .ok (.aload_n 0, 1) := by decide +kernel
theorem dX4_isGoingElsewhere_45 : decode cX4_isGoingElsewhere 45 = .ok (.getfield 22, 3) := by decide +kernel
theorem dX4_isGoingElsewhere_48 : decode cX4_isGoingElsewhere 48 = .ok (.iload_n 2, 1) := by decide +kernel
theorem dX4_isGoingElsewhere_49 : decode cX4_isGoingElsewhere 49 = .ok (.iaload, 1) := by decide +kernel
theorem dX4_isGoingElsewhere_50 : decode cX4_isGoingElsewhere 50 = .ok (.ifCond .le 20, 3) := by decide +kernel
theorem dX4_isGoingElsewhere_53 : decode cX4_isGoingElsewhere 53 = .ok (.aload_n 0, 1) := by decide +kernel
theorem dX4_isGoingElsewhere_54 : decode cX4_isGoingElsewhere 54 = .ok (.getfield 22, 3) := by decide +kernel
theorem dX4_isGoingElsewhere_57 : decode cX4_isGoingElsewhere 57 = .ok (.iload_n 2, 1) := by decide +kernel
theorem dX4_isGoingElsewhere_58 : decode cX4_isGoingElsewhere 58 = .ok (.iaload, 1) := by decide +kernel
theorem dX4_isGoingElsewhere_59 : decode cX4_isGoingElsewhere 59 = .ok (.aload_n 0, 1) := by decide +kernel
theorem dX4_isGoingElsewhere_60 : decode cX4_isGoingElsewhere 60 = .ok (.getfield 22, 3) := by decide +kernel
theorem dX4_isGoingElsewhere_63 : decode cX4_isGoingElsewhere 63 = .ok (.iload_n 1, 1) := by decide +kernel
theorem dX4_isGoingElsewhere_64 : decode cX4_isGoingElsewhere 64 = .ok (.iaload, 1) := by decide +kernel
theorem dX4_isGoingElsewhere_65 : decode cX4_isGoingElsewhere 65 = .ok (.if_icmp .ge 5, 3) := by decide +kernel
theorem dX4_isGoingElsewhere_68 : decode cX4_isGoingElsewhere 68 = .ok (.iconst 1, 1) := by decide +kernel
theorem dX4_isGoingElsewhere_69 : decode cX4_isGoingElsewhere 69 = .ok (.ireturn, 1) := by decide +kernel
theorem dX4_isGoingElsewhere_70 : decode cX4_isGoingElsewhere 70 = .ok (.iinc 2 1, 3) := by decide +kernel
theorem dX4_isGoingElsewhere_73 : decode cX4_isGoingElsewhere 73 = .ok (.goto (-71), 3) := by decide +kernel
theorem dX4_isGoingElsewhere_76 : decode cX4_isGoingElsewhere 76 = .ok (.iconst 0, 1) := by decide +kernel
theorem dX4_isGoingElsewhere_77 : decode cX4_isGoingElsewhere 77 = .ok (.ireturn, 1) := by decide +kernel
theorem dX4_isFree_0 : decode cX4_isFree 0 = .ok (.iconst 0, 1) := by decide +kernel
theorem dX4_isFree_1 : decode cX4_isFree 1 = .ok (.istore_n 2, 1) := by decide +kernel
theorem dX4_isFree_2 : decode cX4_isFree 2 = .ok (.iload_n 2, 1) := by decide +kernel
theorem dX4_isFree_3 : decode cX4_isFree 3 = .ok (.aload_n 0, 1) := by decide +kernel
theorem dX4_isFree_4 : decode cX4_isFree 4 = .ok (.getfield 42, 3) := by decide +kernel
theorem dX4_isFree_7 : decode cX4_isFree 7 = .ok (.getfield 56, 3) := by decide +kernel
theorem dX4_isFree_10 : decode cX4_isFree 10 = .ok (.if_icmp .ge 93, 3) := by decide +kernel
theorem dX4_isFree_13 : decode cX4_isFree 13 = .ok (.aload_n 0, 1) := by decide +kernel
theorem dX4_isFree_14 : decode cX4_isFree 14 = .ok (.getfield 42, 3) := by decide +kernel
theorem dX4_isFree_17 : decode cX4_isFree 17 = .ok (.getfield 143, 3) := by decide +kernel
theorem dX4_isFree_20 : decode cX4_isFree 20 = .ok (.iload_n 2, 1) := by decide +kernel
theorem dX4_isFree_21 : decode cX4_isFree 21 = .ok (.iaload, 1) := by decide +kernel
theorem dX4_isFree_22 : decode cX4_isFree 22 = .ok (.iload_n 1, 1) := by decide +kernel
theorem dX4_isFree_23 : decode cX4_isFree 23 = .ok (.if_icmp .ne 35, 3) := by decide +kernel
theorem dX4_isFree_26 : decode cX4_isFree 26 = .ok (.aload_n 0, 1) := by decide +kernel
theorem dX4_isFree_27 : decode cX4_isFree 27 = .ok (.getfield 22, 3) := by decide +kernel
theorem dX4_isFree_30 : decode cX4_isFree 30 = .ok (.iload_n 2, 1) := by decide +kernel
theorem dX4_isFree_31 : decode cX4_isFree 31 = .ok (.iaload, 1) := by decide +kernel
theorem dX4_isFree_32 : decode cX4_isFree 32 = .ok (.ifCond .le 26, 3) := by decide +kernel
theorem dX4_isFree_35 : decode cX4_isFree 35 = .ok (.aload_n 0, 1) := by decide +kernel
theorem dX4_isFree_36 : decode cX4_isFree 36 = .ok (.getfield 29, 3) := by decide +kernel
theorem dX4_isFree_39 : decode cX4_isFree 39 = .ok (.iload_n 2, 1) := by decide +kernel
theorem dX4_isFree_40 : decode cX4_isFree 40 = .ok (.iaload, 1) := by decide +kernel
theorem dX4_isFree_41 : decode cX4_isFree 41 = .ok (.iconst 2, 1) := by decide +kernel
theorem dX4_isFree_42 : decode cX4_isFree 42 = .ok (.if_icmp .eq 16, 3) := by decide +kernel
theorem dX4_isFree_45 : decode cX4_isFree 45 = .ok (.aload_n 0, 1) := by decide +kernel
theorem dX4_isFree_46 : decode cX4_isFree 46 = .ok (.getfield 32, 3) := by decide +kernel
theorem dX4_isFree_49 : decode cX4_isFree 49 = .ok (.iload_n 2, 1) := by decide +kernel
theorem dX4_isFree_50 : decode cX4_isFree 50 = .ok (.baload, 1) := by decide +kernel
theorem dX4_isFree_51 : decode cX4_isFree 51 = .ok (.ifCond .ne 7, 3) := by decide +kernel
theorem dX4_isFree_54 : decode cX4_isFree 54 = .ok (.iconst 1, 1) := by decide +kernel
theorem dX4_isFree_55 : decode cX4_isFree 55 = .ok (.goto 4, 3) := by decide +kernel
theorem dX4_isFree_58 : decode cX4_isFree 58 = .ok (.iconst 0, 1) := by decide +kernel
theorem dX4_isFree_59 : decode cX4_isFree 59 = .ok (.istore_n 3, 1) := by decide +kernel
theorem dX4_isFree_60 : decode cX4_isFree 60 = .ok (.iload_n 3, 1) := by decide +kernel
theorem dX4_isFree_61 : decode cX4_isFree 61 = .ok (.ifCond .eq 36, 3) := by decide +kernel
theorem dX4_isFree_64 : decode cX4_isFree 64 = .ok (.aload_n 0, 1) := by decide +kernel
theorem dX4_isFree_65 : decode cX4_isFree 65 = .ok (.getfield 22, 3) := by decide +kernel
theorem dX4_isFree_68 : decode cX4_isFree 68 = .ok (.iload_n 2, 1) := by decide +kernel
theorem dX4_isFree_69 : decode cX4_isFree 69 = .ok (.iaload, 1) := by decide +kernel
theorem dX4_isFree_70 : decode cX4_isFree 70 = .ok (.aload_n 0, 1) := by decide +kernel
theorem dX4_isFree_71 : decode cX4_isFree 71 = .ok (.getfield 42, 3) := by decide +kernel
theorem dX4_isFree_74 : decode cX4_isFree 74 = .ok (.getfield 158, 3) := by decide +kernel
theorem dX4_isFree_77 : decode cX4_isFree 77 = .ok (.aload_n 0, 1) := by decide +kernel
theorem dX4_isFree_78 : decode cX4_isFree 78 = .ok (.getfield 26, 3) := by decide +kernel
theorem dX4_isFree_81 : decode cX4_isFree 81 = .ok (.iload_n 2, 1) := by decide +kernel
theorem dX4_isFree_82 : decode cX4_isFree 82 = .ok (.iaload, 1) := by decide +kernel
theorem dX4_isFree_83 : decode cX4_isFree 83 = .ok (.imul, 1) := by decide +kernel
theorem dX4_isFree_84 : decode cX4_isFree 84 = .ok (.if_icmp .gt 13, 3) := by decide +kernel
theorem dX4_isFree_87 : decode cX4_isFree 87 = .ok (.aload_n 0, 1) := by decide +kernel
theorem dX4_isFree_88 : decode cX4_isFree 88 = .ok (.iload_n 2, 1) := by decide +kernel
theorem dX4_isFree_89 : decode cX4_isFree 89 = .ok (.invokevirtual 161, 3) := by decide +kernel
theorem dX4_isFree_92 : decode cX4_isFree 92 = .ok (.ifCond .ne 5, 3) := by decide +kernel
theorem dX4_isFree_95 : decode cX4_isFree 95 = .ok (.iconst 0, 1) := by decide +kernel
theorem dX4_isFree_96 : decode cX4_isFree 96 = .ok (.ireturn, 1) := by decide +kernel
theorem dX4_isFree_97 : decode cX4_isFree 97 = .ok (.iinc 2 1, 3) := by decide +kernel
theorem dX4_isFree_100 : decode cX4_isFree 100 = .ok (.goto (-98), 3) := by decide +kernel
theorem dX4_isFree_103 : decode cX4_isFree 103 = .ok (.iconst 1, 1) := by decide +kernel
theorem dX4_isFree_104 : decode cX4_isFree 104 = .ok (.ireturn, 1) := by decide +kernel
theorem dX4_isHidden_0 : decode cX4_isHidden 0 = .ok (.iconst 0, 1) := by decide +kernel
theorem dX4_isHidden_1 : decode cX4_isHidden 1 = .ok (.istore_n 2, 1) := by decide +kernel
theorem dX4_isHidden_2 : decode cX4_isHidden 2 = .ok (.iload_n 2, 1) := by decide +kernel
theorem dX4_isHidden_3 : decode cX4_isHidden 3 = .ok (.aload_n 0, 1) := by decide +kernel
theorem dX4_isHidden_4 : decode cX4_isHidden 4 = .ok (.getfield 42, 3) := by decide +kernel
theorem dX4_isHidden_7 : decode cX4_isHidden 7 = .ok (.getfield 56, 3) := by decide +kernel
theorem dX4_isHidden_10 : decode cX4_isHidden 10 = .ok (.if_icmp .ge 110, 3) := by decide +kernel
theorem dX4_isHidden_13 : decode cX4_isHidden 13 = .ok (.aload_n 0, 1) := by decide +kernel
theorem dX4_isHidden_14 : decode cX4_isHidden 14 = .ok (.getfield 29, 3) := by decide +kernel
theorem dX4_isHidden_17 : decode cX4_isHidden 17 = .ok (.iload_n 2, 1) := by decide +kernel
theorem dX4_isHidden_18 : decode cX4_isHidden 18 = .ok (.iaload, 1) := by decide +kernel
theorem dX4_isHidden_19 : decode cX4_isHidden 19 = .ok (.iconst 2, 1) := by decide +kernel
theorem dX4_isHidden_20 : decode cX4_isHidden 20 = .ok (.if_icmp .ne 28, 3) := by decide +kernel
theorem dX4_isHidden_23 : decode cX4_isHidden 23 = .ok (.aload_n 0, 1) := by decide +kernel
theorem dX4_isHidden_24 : decode cX4_isHidden 24 = .ok (.getfield 26, 3) := by decide +kernel
theorem dX4_isHidden_27 : decode cX4_isHidden 27 = .ok (.iload_n 2, 1) := by decide +kernel
theorem dX4_isHidden_28 : decode cX4_isHidden 28 = .ok (.iaload, 1) := by decide +kernel
theorem dX4_isHidden_29 : decode cX4_isHidden 29 = .ok (.ifCond .ne 19, 3) := by decide +kernel
theorem dX4_isHidden_32 : decode cX4_isHidden 32 = .ok (.aload_n 0, 1) := by decide +kernel
theorem dX4_isHidden_33 : decode cX4_isHidden 33 = .ok (.getfield 42, 3) := by decide +kernel
theorem dX4_isHidden_36 : decode cX4_isHidden 36 = .ok (.getfield 146, 3) := by decide +kernel
theorem dX4_isHidden_39 : decode cX4_isHidden 39 = .ok (.iload_n 2, 1) := by decide +kernel
theorem dX4_isHidden_40 : decode cX4_isHidden 40 = .ok (.iaload, 1) := by decide +kernel
theorem dX4_isHidden_41 : decode cX4_isHidden 41 = .ok (.ifCond .le 7, 3) := by decide +kernel
theorem dX4_isHidden_44 : decode cX4_isHidden 44 = .ok (.iconst 1, 1) := by decide +kernel
theorem dX4_isHidden_45 : decode cX4_isHidden 45 = .ok (.goto 4, 3) := by decide +kernel
theorem dX4_isHidden_48 : decode cX4_isHidden 48 = .ok (.iconst 0, 1) := by decide +kernel
theorem dX4_isHidden_49 : decode cX4_isHidden 49 = .ok (.istore_n 3, 1) := by decide +kernel
theorem dX4_isHidden_50 : decode cX4_isHidden 50 = .ok (.iload_n 3, 1) := by decide +kernel
theorem dX4_isHidden_51 : decode cX4_isHidden 51 = .ok (.ifCond .eq 63, 3) := by decide +kernel
theorem dX4_isHidden_54 : decode cX4_isHidden 54 = .ok (.aload_n 0, 1) := by decide +kernel
theorem dX4_isHidden_55 : decode cX4_isHidden 55 = .ok (.getfield 42, 3) := by decide +kernel
theorem dX4_isHidden_58 : decode cX4_isHidden 58 = .ok (.getfield 143, 3) := by decide +kernel
theorem dX4_isHidden_61 : decode cX4_isHidden 61 = .ok (.iload_n 2, 1) := by decide +kernel
theorem dX4_isHidden_62 : decode cX4_isHidden 62 = .ok (.iaload, 1) := by decide +kernel
theorem dX4_isHidden_63 : decode cX4_isHidden 63 = .ok (.aload_n 0, 1) := by decide +kernel
theorem dX4_isHidden_64 : decode cX4_isHidden 64 = .ok (.getfield 42, 3) := by decide +kernel
theorem dX4_isHidden_67 : decode cX4_isHidden 67 = .ok (.getfield 143, 3) := by decide +kernel
theorem dX4_isHidden_70 : decode cX4_isHidden 70 = .ok (.iload_n 1, 1) := by decide +kernel
theorem dX4_isHidden_71 : decode cX4_isHidden 71 = .ok (.iaload, 1) := by decide +kernel
theorem dX4_isHidden_72 : decode cX4_isHidden 72 = .ok (.iconst 1, 1) := by decide +kernel
theorem dX4_isHidden_73 : decode cX4_isHidden 73 = .ok (.isub, 1) := by decide +kernel
theorem dX4_isHidden_74 : decode cX4_isHidden 74 = .ok (.if_icmp .ne 40, 3) := by decide +kernel
theorem dX4_isHidden_77 : decode cX4_isHidden 77 = .ok (.aload_n 0, 1) := by decide +kernel
theorem dX4_isHidden_78 : decode cX4_isHidden 78 = .ok (.getfield 22, 3) := by decide +kernel
theorem dX4_isHidden_81 : decode cX4_isHidden 81 = .ok (.iload_n 2, 1) := by decide +kernel
theorem dX4_isHidden_82 : decode cX4_isHidden 82 = .ok (.iaload, 1) := by decide +kernel
theorem dX4_isHidden_83 : decode cX4_isHidden 83 = .ok (.iconst 1, 1) := by decide +kernel
theorem dX4_isHidden_84 : decode cX4_isHidden 84 = .ok (.if_icmp .lt 30, 3) := by decide +kernel
theorem dX4_isHidden_87 : decode cX4_isHidden 87 = .ok (.aload_n 0, 1) := by decide +kernel
theorem dX4_isHidden_88 : decode cX4_isHidden 88 = .ok (.getfield 22, 3) := by decide +kernel
theorem dX4_isHidden_91 : decode cX4_isHidden 91 = .ok (.iload_n 2, 1) := by decide +kernel
theorem dX4_isHidden_92 : decode cX4_isHidden 92 = .ok (.iaload, 1) := by decide +kernel
theorem dX4_isHidden_93 : decode cX4_isHidden 93 = .ok (.iconst 3, 1) := by decide +kernel
theorem dX4_isHidden_94 : decode cX4_isHidden 94 = .ok (.if_icmp .gt 20, 3) := by decide +kernel
theorem dX4_isHidden_97 : decode cX4_isHidden 97 = .ok (.aload_n 0, 1) := by decide +kernel
theorem dX4_isHidden_98 : decode cX4_isHidden 98 = .ok (.getfield 22, 3) := by decide +kernel
theorem dX4_isHidden_101 : decode cX4_isHidden 101 = .ok (.iload_n 2, 1) := by decide +kernel
theorem dX4_isHidden_102 : decode cX4_isHidden 102 = .ok (.iaload, 1) := by decide +kernel
theorem dX4_isHidden_103 : decode cX4_isHidden 103 = .ok (.aload_n 0, 1) := by decide +kernel
theorem dX4_isHidden_104 : decode cX4_isHidden 104 = .ok (.getfield 22, 3) := by decide +kernel
theorem dX4_isHidden_107 : decode cX4_isHidden 107 = .ok (.iload_n 1, 1) := by decide +kernel
theorem dX4_isHidden_108 : decode cX4_isHidden 108 = .ok (.iaload, 1) := by decide +kernel
theorem dX4_isHidden_109 : decode cX4_isHidden 109 = .ok (.if_icmp .ge 5, 3) := by decide +kernel
theorem dX4_isHidden_112 : decode cX4_isHidden 112 = .ok (.iconst 1, 1) := by decide +kernel
theorem dX4_isHidden_113 : decode cX4_isHidden 113 = .ok (.ireturn, 1) := by decide +kernel
theorem dX4_isHidden_114 : decode cX4_isHidden 114 = .ok (.iinc 2 1, 3) := by decide +kernel
theorem dX4_isHidden_117 : decode cX4_isHidden 117 = .ok (.goto (-115), 3) := by decide +kernel
theorem dX4_isHidden_120 : decode cX4_isHidden 120 = .ok (.iconst 0, 1) := by decide +kernel
theorem dX4_isHidden_121 : decode cX4_isHidden 121 = .ok (.ireturn, 1) := by decide +kernel
theorem dX4_moveCars_0 : decode cX4_moveCars 0 = .ok (.aload_n 0, 1) := by decide +kernel
theorem dX4_moveCars_1 : decode cX4_moveCars 1 = .ok (.invokevirtual 164, 3) := by decide +kernel
theorem dX4_moveCars_4 : decode cX4_moveCars 4 = .ok (.aload_n 0, 1) := by decide +kernel
theorem dX4_moveCars_5 : decode cX4_moveCars 5 = .ok (.getfield 39, 3) := by decide +kernel
theorem dX4_moveCars_8 : decode cX4_moveCars 8 = .ok (.iconst 0, 1) := by decide +kernel
theorem dX4_moveCars_9 : decode cX4_moveCars 9 = .ok (.invokestatic 167, 3) := by decide +kernel
theorem dX4_moveCars_12 : decode cX4_moveCars 12 = .ok (.aload_n 0, 1) := by decide +kernel
theorem dX4_moveCars_13 : decode cX4_moveCars 13 = .ok (.iconst (-1), 1) := by decide +kernel
theorem dX4_moveCars_14 : decode cX4_moveCars 14 = .ok (.putfield 173, 3) := by decide +kernel
theorem dX4_moveCars_17 : decode cX4_moveCars 17 = .ok (.iconst 0, 1) := by decide +kernel
theorem dX4_moveCars_18 : decode cX4_moveCars 18 = .ok (.istore_n 1, 1) := by decide +kernel
theorem dX4_moveCars_19 : decode cX4_moveCars 19 = .ok (.iload_n 1, 1) := by decide +kernel
theorem dX4_moveCars_20 : decode cX4_moveCars 20 = .ok (.aload_n 0, 1) := by decide +kernel
theorem dX4_moveCars_21 : decode cX4_moveCars 21 = .ok (.getfield 42, 3) := by decide +kernel
theorem dX4_moveCars_24 : decode cX4_moveCars 24 = .ok (.getfield 56, 3) := by decide +kernel
theorem dX4_moveCars_27 : decode cX4_moveCars 27 = .ok (.if_icmp .ge 30, 3) := by decide +kernel
theorem dX4_moveCars_30 : decode cX4_moveCars 30 = .ok (.aload_n 0, 1) := by decide +kernel
theorem dX4_moveCars_31 : decode cX4_moveCars 31 = .ok (.getfield 36, 3) := by decide +kernel
theorem dX4_moveCars_34 : decode cX4_moveCars 34 = .ok (.iload_n 1, 1) := by decide +kernel
theorem dX4_moveCars_35 : decode cX4_moveCars 35 = .ok (.iaload, 1) := by decide +kernel
theorem dX4_moveCars_36 : decode cX4_moveCars 36 = .ok (.istore_n 2, 1) := by decide +kernel
theorem dX4_moveCars_37 : decode cX4_moveCars 37 = .ok (.aload_n 0, 1) := by decide +kernel
theorem dX4_moveCars_38 : decode cX4_moveCars 38 = .ok (.getfield 22, 3) := by decide +kernel
theorem dX4_moveCars_41 : decode cX4_moveCars 41 = .ok (.iload_n 2, 1) := by decide +kernel
theorem dX4_moveCars_42 : decode cX4_moveCars 42 = .ok (.iaload, 1) := by decide +kernel
theorem dX4_moveCars_43 : decode cX4_moveCars 43 = .ok (.ifCond .le 8, 3) := by decide +kernel
theorem dX4_moveCars_46 : decode cX4_moveCars 46 = .ok (.aload_n 0, 1) := by decide +kernel
theorem dX4_moveCars_47 : decode cX4_moveCars 47 = .ok (.iload_n 2, 1) := by decide +kernel
theorem dX4_moveCars_48 : decode cX4_moveCars 48 = .ok (.invokevirtual 176, 3) := by decide +kernel
theorem dX4_moveCars_51 : decode cX4_moveCars 51 = .ok (.iinc 1 1, 3) := by decide +kernel
theorem dX4_moveCars_54 : decode cX4_moveCars 54 = .ok (.goto (-35), 3) := by decide +kernel
theorem dX4_moveCars_57 : decode cX4_moveCars 57 = .ok (.return_, 1) := by decide +kernel
theorem dX4_moveCar_0 : decode cX4_moveCar 0 = .ok (.aload_n 0, 1) := by decide +kernel
theorem dX4_moveCar_1 : decode cX4_moveCar 1 = .ok (.getfield 42, 3) := by decide +kernel
theorem dX4_moveCar_4 : decode cX4_moveCar 4 = .ok (.getfield 143, 3) := by decide +kernel
theorem dX4_moveCar_7 : decode cX4_moveCar 7 = .ok (.iload_n 1, 1) := by decide +kernel
theorem dX4_moveCar_8 : decode cX4_moveCar 8 = .ok (.iaload, 1) := by decide +kernel
theorem dX4_moveCar_9 : decode cX4_moveCar 9 = .ok (.istore_n 2, 1) := by decide +kernel
theorem dX4_moveCar_10 : decode cX4_moveCar 10 = .ok (.aload_n 0, 1) := by decide +kernel
theorem dX4_moveCar_11 : decode cX4_moveCar 11 = .ok (.getfield 32, 3) := by decide +kernel
theorem dX4_moveCar_14 : decode cX4_moveCar 14 = .ok (.iload_n 1, 1) := by decide +kernel
theorem dX4_moveCar_15 : decode cX4_moveCar 15 = .ok (.iconst 0, 1) := by decide +kernel
theorem dX4_moveCar_16 : decode cX4_moveCar 16 = .ok (.bastore, 1) := by decide +kernel
theorem dX4_moveCar_17 : decode cX4_moveCar 17 = .ok (.aload_n 0, 1) := by decide +kernel
theorem dX4_moveCar_18 : decode cX4_moveCar 18 = .ok (.getfield 29, 3) := by decide +kernel
theorem dX4_moveCar_21 : decode cX4_moveCar 21 = .ok (.iload_n 1, 1) := by decide +kernel
theorem dX4_moveCar_22 : decode cX4_moveCar 22 = .ok (.iaload, 1) := by decide +kernel
theorem dX4_moveCar_23 : decode cX4_moveCar 23 = .ok (.iconst 2, 1) := by decide +kernel
theorem dX4_moveCar_24 : decode cX4_moveCar 24 = .ok (.if_icmp .ne 39, 3) := by decide +kernel
theorem dX4_moveCar_27 : decode cX4_moveCar 27 = .ok (.aload_n 0, 1) := by decide +kernel
theorem dX4_moveCar_28 : decode cX4_moveCar 28 = .ok (.getfield 26, 3) := by decide +kernel
theorem dX4_moveCar_31 : decode cX4_moveCar 31 = .ok (.iload_n 1, 1) := by decide +kernel
theorem dX4_moveCar_32 : decode cX4_moveCar 32 = .ok (.aload_n 0, 1) := by decide +kernel
theorem dX4_moveCar_33 : decode cX4_moveCar 33 = .ok (.getfield 26, 3) := by decide +kernel
theorem dX4_moveCar_36 : decode cX4_moveCar 36 = .ok (.iload_n 1, 1) := by decide +kernel
theorem dX4_moveCar_37 : decode cX4_moveCar 37 = .ok (.iaload, 1) := by decide +kernel
theorem dX4_moveCar_38 : decode cX4_moveCar 38 = .ok (.iconst 1, 1) := by decide +kernel
theorem dX4_moveCar_39 : decode cX4_moveCar 39 = .ok (.isub, 1) := by decide +kernel
theorem dX4_moveCar_40 : decode cX4_moveCar 40 = .ok (.iconst 0, 1) := by decide +kernel
theorem dX4_moveCar_41 : decode cX4_moveCar 41 = .ok (.invokestatic 179, 3) := by decide +kernel
theorem dX4_moveCar_44 : decode cX4_moveCar 44 = .ok (.iastore, 1) := by decide +kernel
theorem dX4_moveCar_45 : decode cX4_moveCar 45 = .ok (.aload_n 0, 1) := by decide +kernel
theorem dX4_moveCar_46 : decode cX4_moveCar 46 = .ok (.getfield 22, 3) := by decide +kernel
theorem dX4_moveCar_49 : decode cX4_moveCar 49 = .ok (.iload_n 1, 1) := by decide +kernel
theorem dX4_moveCar_50 : decode cX4_moveCar 50 = .ok (.dup2, 1) := by decide +kernel
theorem dX4_moveCar_51 : decode cX4_moveCar 51 = .ok (.iaload, 1) := by decide +kernel
theorem dX4_moveCar_52 : decode cX4_moveCar 52 = .ok (.aload_n 0, 1) := by decide +kernel
theorem dX4_moveCar_53 : decode cX4_moveCar 53 = .ok (.getfield 26, 3) := by decide +kernel
theorem dX4_moveCar_56 : decode cX4_moveCar 56 = .ok (.iload_n 1, 1) := by decide +kernel
theorem dX4_moveCar_57 : decode cX4_moveCar 57 = .ok (.iaload, 1) := by decide +kernel
theorem dX4_moveCar_58 : decode cX4_moveCar 58 = .ok (.isub, 1) := by decide +kernel
theorem dX4_moveCar_59 : decode cX4_moveCar 59 = .ok (.iastore, 1) := by decide +kernel
theorem dX4_moveCar_60 : decode cX4_moveCar 60 = .ok (.goto 85, 3) := by decide +kernel
theorem dX4_moveCar_63 : decode cX4_moveCar 63 = .ok (.aload_n 0, 1) := by decide +kernel
theorem dX4_moveCar_64 : decode cX4_moveCar 64 = .ok (.getfield 22, 3) := by decide +kernel
theorem dX4_moveCar_67 : decode cX4_moveCar 67 = .ok (.iload_n 1, 1) := by decide +kernel
theorem dX4_moveCar_68 : decode cX4_moveCar 68 = .ok (.iaload, 1) := by decide +kernel
theorem dX4_moveCar_69 : decode cX4_moveCar 69 = .ok (.aload_n 0, 1) := by decide +kernel
theorem dX4_moveCar_70 : decode cX4_moveCar 70 = .ok (.getfield 26, 3) := by decide +kernel
theorem dX4_moveCar_73 : decode cX4_moveCar 73 = .ok (.iload_n 1, 1) := by decide +kernel
theorem dX4_moveCar_74 : decode cX4_moveCar 74 = .ok (.iaload, 1) := by decide +kernel
theorem dX4_moveCar_75 : decode cX4_moveCar 75 = .ok (.isub, 1) := by decide +kernel
theorem dX4_moveCar_76 : decode cX4_moveCar 76 = .ok (.istore_n 3, 1) := by decide +kernel
theorem dX4_moveCar_77 : decode cX4_moveCar 77 = .ok (.aload_n 0, 1) := by decide +kernel
theorem dX4_moveCar_78 : decode cX4_moveCar 78 = .ok (.getfield 32, 3) := by decide +kernel
theorem dX4_moveCar_81 : decode cX4_moveCar 81 = .ok (.iload_n 1, 1) := by decide +kernel
theorem dX4_moveCar_82 : decode cX4_moveCar 82 = .ok (.aload_n 0, 1) := by decide +kernel
theorem dX4_moveCar_83 : decode cX4_moveCar 83 = .ok (.getfield 39, 3) := by decide +kernel
theorem dX4_moveCar_86 : decode cX4_moveCar 86 = .ok (.iload_n 2, 1) := by decide +kernel
theorem dX4_moveCar_87 : decode cX4_moveCar 87 = .ok (.iaload, 1) := by decide +kernel
theorem dX4_moveCar_88 : decode cX4_moveCar 88 = .ok (.ifCond .le 19, 3) := by decide +kernel
theorem dX4_moveCar_91 : decode cX4_moveCar 91 = .ok (.aload_n 0, 1) := by decide +kernel
theorem dX4_moveCar_92 : decode cX4_moveCar 92 = .ok (.getfield 39, 3) := by decide +kernel
theorem dX4_moveCar_95 : decode cX4_moveCar 95 = .ok (.iload_n 2, 1) := by decide +kernel
theorem dX4_moveCar_96 : decode cX4_moveCar 96 = .ok (.iaload, 1) := by decide +kernel
theorem dX4_moveCar_97 : decode cX4_moveCar 97 = .ok (.iconst 2, 1) := by decide +kernel
theorem dX4_moveCar_98 : decode cX4_moveCar 98 = .ok (.iadd, 1) := by decide +kernel
theorem dX4_moveCar_99 : decode cX4_moveCar 99 = .ok (.iload_n 3, 1) := by decide +kernel
theorem dX4_moveCar_100 : decode cX4_moveCar 100 = .ok (.if_icmp .le 7, 3) := by decide +kernel
theorem dX4_moveCar_103 : decode cX4_moveCar 103 = .ok (.iconst 1, 1) := by decide +kernel
theorem dX4_moveCar_104 : decode cX4_moveCar 104 = .ok (.goto 4, 3) := by decide +kernel
theorem dX4_moveCar_107 : decode cX4_moveCar 107 = .ok (.iconst 0, 1) := by decide +kernel
theorem dX4_moveCar_108 : decode cX4_moveCar 108 = .ok (.bastore, 1) := by decide +kernel
theorem dX4_moveCar_109 : decode cX4_moveCar 109 = .ok (.aload_n 0, 1) := by decide +kernel
theorem dX4_moveCar_110 : decode cX4_moveCar 110 = .ok (.getfield 22, 3) := by decide +kernel
theorem dX4_moveCar_113 : decode cX4_moveCar 113 = .ok (.iload_n 1, 1) := by decide +kernel
theorem dX4_moveCar_114 : decode cX4_moveCar 114 = .ok (.aload_n 0, 1) := by decide +kernel
theorem dX4_moveCar_115 : decode cX4_moveCar 115 = .ok (.getfield 32, 3) := by decide +kernel
theorem dX4_moveCar_118 : decode cX4_moveCar 118 = .ok (.iload_n 1, 1) := by decide +kernel
theorem dX4_moveCar_119 : decode cX4_moveCar 119 = .ok (.baload, 1) := by decide +kernel
theorem dX4_moveCar_120 : decode cX4_moveCar 120 = .ok (.ifCond .eq 23, 3) := by decide +kernel
theorem dX4_moveCar_123 : decode cX4_moveCar 123 = .ok (.aload_n 0, 1) := by decide +kernel
theorem dX4_moveCar_124 : decode cX4_moveCar 124 = .ok (.getfield 22, 3) := by decide +kernel
theorem dX4_moveCar_127 : decode cX4_moveCar 127 = .ok (.iload_n 1, 1) := by decide +kernel
theorem dX4_moveCar_128 : decode cX4_moveCar 128 = .ok (.iaload, 1) := by decide +kernel
theorem dX4_moveCar_129 : decode cX4_moveCar 129 = .ok (.aload_n 0, 1) := by decide +kernel
theorem dX4_moveCar_130 : decode cX4_moveCar 130 = .ok (.getfield 39, 3) := by decide +kernel
theorem dX4_moveCar_133 : decode cX4_moveCar 133 = .ok (.iload_n 2, 1) := by decide +kernel
theorem dX4_moveCar_134 : decode cX4_moveCar 134 = .ok (.iaload, 1) := by decide +kernel
theorem dX4_moveCar_135 : decode cX4_moveCar 135 = .ok (.iconst 2, 1) := by decide +kernel
theorem dX4_moveCar_136 : decode cX4_moveCar 136 = .ok (.iadd, 1) := by decide +kernel
theorem dX4_moveCar_137 : decode cX4_moveCar 137 = .ok (.invokestatic 184, 3) := by decide +kernel
theorem dX4_moveCar_140 : decode cX4_moveCar 140 = .ok (.goto 4, 3) := by decide +kernel
theorem dX4_moveCar_143 : decode cX4_moveCar 143 = .ok (.iload_n 3, 1) := by decide +kernel
theorem dX4_moveCar_144 : decode cX4_moveCar 144 = .ok (.iastore, 1) := by decide +kernel
theorem dX4_moveCar_145 : decode cX4_moveCar 145 = .ok (.aload_n 0, 1) := by decide +kernel
theorem dX4_moveCar_146 : decode cX4_moveCar 146 = .ok (.getfield 22, 3) := by decide +kernel
theorem dX4_moveCar_149 : decode cX4_moveCar 149 = .ok (.iload_n 1, 1) := by decide +kernel
theorem dX4_moveCar_150 : decode cX4_moveCar 150 = .ok (.iaload, 1) := by decide +kernel
theorem dX4_moveCar_151 : decode cX4_moveCar 151 = .ok (.ifCond .le 43, 3) := by decide +kernel
theorem dX4_moveCar_154 : decode cX4_moveCar 154 = .ok (.aload_n 0, 1) := by decide +kernel
theorem dX4_moveCar_155 : decode cX4_moveCar 155 = .ok (.getfield 29, 3) := by decide +kernel
theorem dX4_moveCar_158 : decode cX4_moveCar 158 = .ok (.iload_n 1, 1) := by decide +kernel
theorem dX4_moveCar_159 : decode cX4_moveCar 159 = .ok (.iaload, 1) := by decide +kernel
theorem dX4_moveCar_160 : decode cX4_moveCar 160 = .ok (.iconst 2, 1) := by decide +kernel
theorem dX4_moveCar_161 : decode cX4_moveCar 161 = .ok (.if_icmp .eq 12, 3) := by decide +kernel
theorem dX4_moveCar_164 : decode cX4_moveCar 164 = .ok (.aload_n 0, 1) := by decide +kernel
theorem dX4_moveCar_165 : decode cX4_moveCar 165 = .ok (.getfield 32, 3) := by decide +kernel
theorem dX4_moveCar_168 : decode cX4_moveCar 168 = .ok (.iload_n 1, 1) := by decide +kernel
theorem dX4_moveCar_169 : decode cX4_moveCar 169 = .ok (.baload, 1) := by decide +kernel
theorem dX4_moveCar_170 : decode cX4_moveCar 170 = .ok (.ifCond .eq 24, 3) := by decide +kernel
theorem dX4_moveCar_173 : decode cX4_moveCar 173 = .ok (.aload_n 0, 1) := by decide +kernel
theorem dX4_moveCar_174 : decode cX4_moveCar 174 = .ok (.getfield 39, 3) := by decide +kernel
theorem dX4_moveCar_177 : decode cX4_moveCar 177 = .ok (.iload_n 2, 1) := by decide +kernel
theorem dX4_moveCar_178 : decode cX4_moveCar 178 = .ok (.aload_n 0, 1) := by decide +kernel
theorem dX4_moveCar_179 : decode cX4_moveCar 179 = .ok (.getfield 39, 3) := by decide +kernel
theorem dX4_moveCar_182 : decode cX4_moveCar 182 = .ok (.iload_n 2, 1) := by decide +kernel
theorem dX4_moveCar_183 : decode cX4_moveCar 183 = .ok (.iaload, 1) := by decide +kernel
theorem dX4_moveCar_184 : decode cX4_moveCar 184 = .ok (.aload_n 0, 1) := by decide +kernel
theorem dX4_moveCar_185 : decode cX4_moveCar 185 = .ok (.getfield 22, 3) := by decide +kernel
theorem dX4_moveCar_188 : decode cX4_moveCar 188 = .ok (.iload_n 1, 1) := by decide +kernel
theorem dX4_moveCar_189 : decode cX4_moveCar 189 = .ok (.iaload, 1) := by decide +kernel
theorem dX4_moveCar_190 : decode cX4_moveCar 190 = .ok (.invokestatic 179, 3) := by decide +kernel
theorem dX4_moveCar_193 : decode cX4_moveCar 193 = .ok (.iastore, 1) := by decide +kernel
theorem dX4_moveCar_194 : decode cX4_moveCar 194 = .ok (.aload_n 0, 1) := by decide +kernel
theorem dX4_moveCar_195 : decode cX4_moveCar 195 = .ok (.getfield 22, 3) := by decide +kernel
theorem dX4_moveCar_198 : decode cX4_moveCar 198 = .ok (.iload_n 1, 1) := by decide +kernel
theorem dX4_moveCar_199 : decode cX4_moveCar 199 = .ok (.iaload, 1) := by decide +kernel
theorem dX4_moveCar_200 : decode cX4_moveCar 200 = .ok (.ifCond .gt 39, 3) := by decide +kernel
theorem dX4_moveCar_203 : decode cX4_moveCar 203 = .ok (.aload_n 0, 1) := by decide +kernel
theorem dX4_moveCar_204 : decode cX4_moveCar 204 = .ok (.getfield 64, 3) := by decide +kernel
theorem dX4_moveCar_207 : decode cX4_moveCar 207 = .ok (.ifCond .eq 32, 3) := by decide +kernel
theorem dX4_moveCar_210 : decode cX4_moveCar 210 = .ok (.iload_n 2, 1) := by decide +kernel
theorem dX4_moveCar_211 : decode cX4_moveCar 211 = .ok (.aload_n 0, 1) := by decide +kernel
theorem dX4_moveCar_212 : decode cX4_moveCar 212 = .ok (.getfield 61, 3) := by decide +kernel
theorem dX4_moveCar_215 : decode cX4_moveCar 215 = .ok (.if_icmp .ne 24, 3) := by decide +kernel
theorem dX4_moveCar_218 : decode cX4_moveCar 218 = .ok (.aload_n 0, 1) := by decide +kernel
theorem dX4_moveCar_219 : decode cX4_moveCar 219 = .ok (.getfield 173, 3) := by decide +kernel
theorem dX4_moveCar_222 : decode cX4_moveCar 222 = .ok (.iconst (-1), 1) := by decide +kernel
theorem dX4_moveCar_223 : decode cX4_moveCar 223 = .ok (.if_icmp .eq 11, 3) := by decide +kernel
theorem dX4_moveCar_226 : decode cX4_moveCar 226 = .ok (.iload_n 1, 1) := by decide +kernel
theorem dX4_moveCar_227 : decode cX4_moveCar 227 = .ok (.aload_n 0, 1) := by decide +kernel
theorem dX4_moveCar_228 : decode cX4_moveCar 228 = .ok (.getfield 173, 3) := by decide +kernel
theorem dX4_moveCar_231 : decode cX4_moveCar 231 = .ok (.if_icmp .ge 8, 3) := by decide +kernel
theorem dX4_moveCar_234 : decode cX4_moveCar 234 = .ok (.aload_n 0, 1) := by decide +kernel
theorem dX4_moveCar_235 : decode cX4_moveCar 235 = .ok (.iload_n 1, 1) := by decide +kernel
theorem dX4_moveCar_236 : decode cX4_moveCar 236 = .ok (.putfield 173, 3) := by decide +kernel
theorem dX4_moveCar_239 : decode cX4_moveCar 239 = .ok (.return_, 1) := by decide +kernel
theorem dX4_sortByDist_0 : decode cX4_sortByDist 0 = .ok (.iconst 1, 1) := by decide +kernel
theorem dX4_sortByDist_1 : decode cX4_sortByDist 1 = .ok (.istore_n 1, 1) := by decide +kernel
theorem dX4_sortByDist_2 : decode cX4_sortByDist 2 = .ok (.iload_n 1, 1) := by decide +kernel
theorem dX4_sortByDist_3 : decode cX4_sortByDist 3 = .ok (.aload_n 0, 1) := by decide +kernel
theorem dX4_sortByDist_4 : decode cX4_sortByDist 4 = .ok (.getfield 42, 3) := by decide +kernel
theorem dX4_sortByDist_7 : decode cX4_sortByDist 7 = .ok (.getfield 56, 3) := by decide +kernel
theorem dX4_sortByDist_10 : decode cX4_sortByDist 10 = .ok (.if_icmp .ge 65, 3) := by decide +kernel
theorem dX4_sortByDist_13 : decode cX4_sortByDist 13 = .ok (.aload_n 0, 1) := by decide +kernel
theorem dX4_sortByDist_14 : decode cX4_sortByDist 14 = .ok (.getfield 36, 3) := by decide +kernel
theorem dX4_sortByDist_17 : decode cX4_sortByDist 17 = .ok (.iload_n 1, 1) := by decide +kernel
theorem dX4_sortByDist_18 : decode cX4_sortByDist 18 = .ok (.iaload, 1) := by decide +kernel
theorem dX4_sortByDist_19 : decode cX4_sortByDist 19 = .ok (.istore_n 2, 1) := by decide +kernel
theorem dX4_sortByDist_20 : decode cX4_sortByDist 20 = .ok (.iload_n 1, 1) := by decide +kernel
theorem dX4_sortByDist_21 : decode cX4_sortByDist 21 = .ok (.istore_n 3, 1) := by decide +kernel
theorem dX4_sortByDist_22 : decode cX4_sortByDist 22 = .ok (.iload_n 3, 1) := by decide +kernel
theorem dX4_sortByDist_23 : decode cX4_sortByDist 23 = .ok (.ifCond .le 39, 3) := by decide +kernel
theorem dX4_sortByDist_26 : decode cX4_sortByDist 26 = .ok (.aload_n 0, 1) := by decide +kernel
theorem dX4_sortByDist_27 : decode cX4_sortByDist 27 = .ok (.aload_n 0, 1) := by decide +kernel
theorem dX4_sortByDist_28 : decode cX4_sortByDist 28 = .ok (.getfield 36, 3) := by decide +kernel
theorem dX4_sortByDist_31 : decode cX4_sortByDist 31 = .ok (.iload_n 3, 1) := by decide +kernel
theorem dX4_sortByDist_32 : decode cX4_sortByDist 32 = .ok (.iconst 1, 1) := by decide +kernel
theorem dX4_sortByDist_33 : decode cX4_sortByDist 33 = .ok (.isub, 1) := by decide +kernel
theorem dX4_sortByDist_34 : decode cX4_sortByDist 34 = .ok (.iaload, 1) := by decide +kernel
theorem dX4_sortByDist_35 : decode cX4_sortByDist 35 = .ok (.iload_n 2, 1) := by decide +kernel
theorem dX4_sortByDist_36 : decode cX4_sortByDist 36 = .ok (.invokevirtual 187, 3) := by decide +kernel
theorem dX4_sortByDist_39 : decode cX4_sortByDist 39 = .ok (.ifCond .eq 23, 3) := by decide +kernel
theorem dX4_sortByDist_42 : decode cX4_sortByDist 42 = .ok (.aload_n 0, 1) := by decide +kernel
theorem dX4_sortByDist_43 : decode cX4_sortByDist 43 = .ok (.getfield 36, 3) := by decide +kernel
theorem dX4_sortByDist_46 : decode cX4_sortByDist 46 = .ok (.iload_n 3, 1) := by decide +kernel
theorem dX4_sortByDist_47 : decode cX4_sortByDist 47 = .ok (.aload_n 0, 1) := by decide +kernel
theorem dX4_sortByDist_48 : decode cX4_sortByDist 48 = .ok (.getfield 36, 3) := by decide +kernel
theorem dX4_sortByDist_51 : decode cX4_sortByDist 51 = .ok (.iload_n 3, 1) := by decide +kernel
theorem dX4_sortByDist_52 : decode cX4_sortByDist 52 = .ok (.iconst 1, 1) := by decide +kernel
theorem dX4_sortByDist_53 : decode cX4_sortByDist 53 = .ok (.isub, 1) := by decide +kernel
theorem dX4_sortByDist_54 : decode cX4_sortByDist 54 = .ok (.iaload, 1) := by decide +kernel
theorem dX4_sortByDist_55 : decode cX4_sortByDist 55 = .ok (.iastore, 1) := by decide +kernel
theorem dX4_sortByDist_56 : decode cX4_sortByDist 56 = .ok (.iinc 3 (-1), 3) := by decide +kernel
theorem dX4_sortByDist_59 : decode cX4_sortByDist 59 = .ok (.goto (-37), 3) := by decide +kernel
theorem dX4_sortByDist_62 : decode cX4_sortByDist 62 = .ok (.aload_n 0, 1) := by decide +kernel
theorem dX4_sortByDist_63 : decode cX4_sortByDist 63 = .ok (.getfield 36, 3) := by decide +kernel
theorem dX4_sortByDist_66 : decode cX4_sortByDist 66 = .ok (.iload_n 3, 1) := by decide +kernel
theorem dX4_sortByDist_67 : decode cX4_sortByDist 67 = .ok (.iload_n 2, 1) := by decide +kernel
theorem dX4_sortByDist_68 : decode cX4_sortByDist 68 = .ok (.iastore, 1) := by decide +kernel
theorem dX4_sortByDist_69 : decode cX4_sortByDist 69 = .ok (.iinc 1 1, 3) := by decide +kernel
theorem dX4_sortByDist_72 : decode cX4_sortByDist 72 = .ok (.goto (-70), 3) := by decide +kernel
theorem dX4_sortByDist_75 : decode cX4_sortByDist 75 = .ok (.return_, 1) := by decide +kernel
theorem dX4_isBehind_0 : decode cX4_isBehind 0 = .ok (.aload_n 0, 1) := by decide +kernel
theorem dX4_isBehind_1 : decode cX4_isBehind 1 = .ok (.getfield 22, 3) := by decide +kernel
theorem dX4_isBehind_4 : decode cX4_isBehind 4 = .ok (.iload_n 1, 1) := by decide +kernel
theorem dX4_isBehind_5 : decode cX4_isBehind 5 = .ok (.iaload, 1) := by decide +kernel
theorem dX4_isBehind_6 : decode cX4_isBehind 6 = .ok (.aload_n 0, 1) := by decide +kernel
theorem dX4_isBehind_7 : decode cX4_isBehind 7 = .ok (.getfield 22, 3) := by decide +kernel
theorem dX4_isBehind_10 : decode cX4_isBehind 10 = .ok (.iload_n 2, 1) := by decide +kernel
theorem dX4_isBehind_11 : decode cX4_isBehind 11 = .ok (.iaload, 1) := by decide +kernel
theorem dX4_isBehind_12 : decode cX4_isBehind 12 = .ok (.if_icmp .gt 23, 3) := by decide +kernel
theorem dX4_isBehind_15 : decode cX4_isBehind 15 = .ok (.aload_n 0, 1) := by decide +kernel
theorem dX4_isBehind_16 : decode cX4_isBehind 16 = .ok (.getfield 22, 3) := by decide +kernel
theorem dX4_isBehind_19 : decode cX4_isBehind 19 = .ok (.iload_n 1, 1) := by decide +kernel
theorem dX4_isBehind_20 : decode cX4_isBehind 20 = .ok (.iaload, 1) := by decide +kernel
theorem dX4_isBehind_21 : decode cX4_isBehind 21 = .ok (.aload_n 0, 1) := by decide +kernel
theorem dX4_isBehind_22 : decode cX4_isBehind 22 = .ok (.getfield 22, 3) := by decide +kernel
theorem dX4_isBehind_25 : decode cX4_isBehind 25 = .ok (.iload_n 2, 1) := by decide +kernel
theorem dX4_isBehind_26 : decode cX4_isBehind 26 = .ok (.iaload, 1) := by decide +kernel
theorem dX4_isBehind_27 : decode cX4_isBehind 27 = .ok (.if_icmp .ne 12, 3) := by decide +kernel
theorem dX4_isBehind_30 : decode cX4_isBehind 30 = .ok (.iload_n 1, 1) := by decide +kernel
theorem dX4_isBehind_31 : decode cX4_isBehind 31 = .ok (.iload_n 2, 1) := by decide +kernel
theorem dX4_isBehind_32 : decode cX4_isBehind 32 = .ok (.if_icmp .le 7, 3) := by decide +kernel
theorem dX4_isBehind_35 : decode cX4_isBehind 35 = .ok (.iconst 1, 1) := by decide +kernel
theorem dX4_isBehind_36 : decode cX4_isBehind 36 = .ok (.goto 4, 3) := by decide +kernel
theorem dX4_isBehind_39 : decode cX4_isBehind 39 = .ok (.iconst 0, 1) := by decide +kernel
theorem dX4_isBehind_40 : decode cX4_isBehind 40 = .ok (.ireturn, 1) := by decide +kernel
theorem dX4_goOver_0 : decode cX4_goOver 0 = .ok (.aload_n 0, 1) := by decide +kernel
theorem dX4_goOver_1 : decode cX4_goOver 1 = .ok (.getfield 64, 3) := by decide +kernel
theorem dX4_goOver_4 : decode cX4_goOver 4 = .ok (.ifCond .ne 4, 3) := by decide +kernel
theorem dX4_goOver_7 : decode cX4_goOver 7 = .ok (.return_, 1) := by decide +kernel
theorem dX4_goOver_8 : decode cX4_goOver 8 = .ok (.aload_n 0, 1) := by decide +kernel
theorem dX4_goOver_9 : decode cX4_goOver 9 = .ok (.getfield 42, 3) := by decide +kernel
theorem dX4_goOver_12 : decode cX4_goOver 12 = .ok (.iconst 0, 1) := by decide +kernel
theorem dX4_goOver_13 : decode cX4_goOver 13 = .ok (.invokevirtual 50, 3) := by decide +kernel
theorem dX4_goOver_16 : decode cX4_goOver 16 = .ok (.istore_n 1, 1) := by decide +kernel
theorem dX4_goOver_17 : decode cX4_goOver 17 = .ok (.aload_n 0, 1) := by decide +kernel
theorem dX4_goOver_18 : decode cX4_goOver 18 = .ok (.getfield 173, 3) := by decide +kernel
theorem dX4_goOver_21 : decode cX4_goOver 21 = .ok (.iconst (-1), 1) := by decide +kernel
theorem dX4_goOver_22 : decode cX4_goOver 22 = .ok (.if_icmp .eq 50, 3) := by decide +kernel
theorem dX4_goOver_25 : decode cX4_goOver 25 = .ok (.aload_n 0, 1) := by decide +kernel
theorem dX4_goOver_26 : decode cX4_goOver 26 = .ok (.iconst 2, 1) := by decide +kernel
theorem dX4_goOver_27 : decode cX4_goOver 27 = .ok (.putfield 77, 3) := by decide +kernel
theorem dX4_goOver_30 : decode cX4_goOver 30 = .ok (.aload_n 0, 1) := by decide +kernel
theorem dX4_goOver_31 : decode cX4_goOver 31 = .ok (.aload_n 0, 1) := by decide +kernel
theorem dX4_goOver_32 : decode cX4_goOver 32 = .ok (.getfield 173, 3) := by decide +kernel
theorem dX4_goOver_35 : decode cX4_goOver 35 = .ok (.putfield 83, 3) := by decide +kernel
theorem dX4_goOver_38 : decode cX4_goOver 38 = .ok (.aload_n 0, 1) := by decide +kernel
theorem dX4_goOver_39 : decode cX4_goOver 39 = .ok (.aload_n 0, 1) := by decide +kernel
theorem dX4_goOver_40 : decode cX4_goOver 40 = .ok (.getfield 26, 3) := by decide +kernel
theorem dX4_goOver_43 : decode cX4_goOver 43 = .ok (.aload_n 0, 1) := by decide +kernel
theorem dX4_goOver_44 : decode cX4_goOver 44 = .ok (.getfield 173, 3) := by decide +kernel
theorem dX4_goOver_47 : decode cX4_goOver 47 = .ok (.iaload, 1) := by decide +kernel
theorem dX4_goOver_48 : decode cX4_goOver 48 = .ok (.aload_n 0, 1) := by decide +kernel
theorem dX4_goOver_49 : decode cX4_goOver 49 = .ok (.getfield 26, 3) := by decide +kernel
theorem dX4_goOver_52 : decode cX4_goOver 52 = .ok (.aload_n 0, 1) := by decide +kernel
theorem dX4_goOver_53 : decode cX4_goOver 53 = .ok (.getfield 173, 3) := by decide +kernel
theorem dX4_goOver_56 : decode cX4_goOver 56 = .ok (.iaload, 1) := by decide +kernel
theorem dX4_goOver_57 : decode cX4_goOver 57 = .ok (.imul, 1) := by decide +kernel
theorem dX4_goOver_58 : decode cX4_goOver 58 = .ok (.iload_n 1, 1) := by decide +kernel
theorem dX4_goOver_59 : decode cX4_goOver 59 = .ok (.ifCond .eq 7, 3) := by decide +kernel
theorem dX4_goOver_62 : decode cX4_goOver 62 = .ok (.iconst 2, 1) := by decide +kernel
theorem dX4_goOver_63 : decode cX4_goOver 63 = .ok (.goto 4, 3) := by decide +kernel
theorem dX4_goOver_66 : decode cX4_goOver 66 = .ok (.iconst 1, 1) := by decide +kernel
theorem dX4_goOver_67 : decode cX4_goOver 67 = .ok (.imul, 1) := by decide +kernel
theorem dX4_goOver_68 : decode cX4_goOver 68 = .ok (.putfield 80, 3) := by decide +kernel
theorem dX4_goOver_71 : decode cX4_goOver 71 = .ok (.return_, 1) := by decide +kernel
theorem dX4_goOver_72 : decode cX4_goOver 72 = .ok (.aload_n 0, 1) := by decide +kernel
theorem dX4_goOver_73 : decode cX4_goOver 73 = .ok (.dup, 1) := by decide +kernel
theorem dX4_goOver_74 : decode cX4_goOver 74 = .ok (.getfield 68, 3) := by decide +kernel
theorem dX4_goOver_77 : decode cX4_goOver 77 = .ok (.iconst 1, 1) := by decide +kernel
theorem dX4_goOver_78 : decode cX4_goOver 78 = .ok (.iadd, 1) := by decide +kernel
theorem dX4_goOver_79 : decode cX4_goOver 79 = .ok (.putfield 68, 3) := by decide +kernel
theorem dX4_goOver_82 : decode cX4_goOver 82 = .ok (.aload_n 0, 1) := by decide +kernel
theorem dX4_goOver_83 : decode cX4_goOver 83 = .ok (.getfield 68, 3) := by decide +kernel
theorem dX4_goOver_86 : decode cX4_goOver 86 = .ok (.iload_n 1, 1) := by decide +kernel
theorem dX4_goOver_87 : decode cX4_goOver 87 = .ok (.ifCond .eq 7, 3) := by decide +kernel
theorem dX4_goOver_90 : decode cX4_goOver 90 = .ok (.iconst 2, 1) := by decide +kernel
theorem dX4_goOver_91 : decode cX4_goOver 91 = .ok (.goto 4, 3) := by decide +kernel
theorem dX4_goOver_94 : decode cX4_goOver 94 = .ok (.iconst 1, 1) := by decide +kernel
theorem dX4_goOver_95 : decode cX4_goOver 95 = .ok (.if_icmp .lt 41, 3) := by decide +kernel
theorem dX4_goOver_98 : decode cX4_goOver 98 = .ok (.aload_n 0, 1) := by decide +kernel
theorem dX4_goOver_99 : decode cX4_goOver 99 = .ok (.iconst 0, 1) := by decide +kernel
theorem dX4_goOver_100 : decode cX4_goOver 100 = .ok (.putfield 64, 3) := by decide +kernel
theorem dX4_goOver_103 : decode cX4_goOver 103 = .ok (.aload_n 0, 1) := by decide +kernel
theorem dX4_goOver_104 : decode cX4_goOver 104 = .ok (.dup, 1) := by decide +kernel
theorem dX4_goOver_105 : decode cX4_goOver 105 = .ok (.getfield 61, 3) := by decide +kernel
theorem dX4_goOver_108 : decode cX4_goOver 108 = .ok (.iconst 1, 1) := by decide +kernel
theorem dX4_goOver_109 : decode cX4_goOver 109 = .ok (.iadd, 1) := by decide +kernel
theorem dX4_goOver_110 : decode cX4_goOver 110 = .ok (.putfield 61, 3) := by decide +kernel
theorem dX4_goOver_113 : decode cX4_goOver 113 = .ok (.aload_n 0, 1) := by decide +kernel
theorem dX4_goOver_114 : decode cX4_goOver 114 = .ok (.aload_n 0, 1) := by decide +kernel
theorem dX4_goOver_115 : decode cX4_goOver 115 = .ok (.getfield 61, 3) := by decide +kernel
theorem dX4_goOver_118 : decode cX4_goOver 118 = .ok (.aload_n 0, 1) := by decide +kernel
theorem dX4_goOver_119 : decode cX4_goOver 119 = .ok (.getfield 42, 3) := by decide +kernel
theorem dX4_goOver_122 : decode cX4_goOver 122 = .ok (.getfield 191, 3) := by decide +kernel
theorem dX4_goOver_125 : decode cX4_goOver 125 = .ok (.if_icmp .lt 7, 3) := by decide +kernel
theorem dX4_goOver_128 : decode cX4_goOver 128 = .ok (.iconst 1, 1) := by decide +kernel
theorem dX4_goOver_129 : decode cX4_goOver 129 = .ok (.goto 4, 3) := by decide +kernel
theorem dX4_goOver_132 : decode cX4_goOver 132 = .ok (.iconst 0, 1) := by decide +kernel
theorem dX4_goOver_133 : decode cX4_goOver 133 = .ok (.putfield 77, 3) := by decide +kernel
theorem dX4_goOver_136 : decode cX4_goOver 136 = .ok (.return_, 1) := by decide +kernel
theorem dX4_stopping_0 : decode cX4_stopping 0 = .ok (.iconst 0, 1) := by decide +kernel
theorem dX4_stopping_1 : decode cX4_stopping 1 = .ok (.istore_n 1, 1) := by decide +kernel
theorem dX4_stopping_2 : decode cX4_stopping 2 = .ok (.iconst 0, 1) := by decide +kernel
theorem dX4_stopping_3 : decode cX4_stopping 3 = .ok (.istore_n 2, 1) := by decide +kernel
theorem dX4_stopping_4 : decode cX4_stopping 4 = .ok (.iload_n 2, 1) := by decide +kernel
theorem dX4_stopping_5 : decode cX4_stopping 5 = .ok (.aload_n 0, 1) := by decide +kernel
theorem dX4_stopping_6 : decode cX4_stopping 6 = .ok (.getfield 42, 3) := by decide +kernel
theorem dX4_stopping_9 : decode cX4_stopping 9 = .ok (.getfield 56, 3) := by decide +kernel
theorem dX4_stopping_12 : decode cX4_stopping 12 = .ok (.if_icmp .ge 29, 3) := by decide +kernel
theorem dX4_stopping_15 : decode cX4_stopping 15 = .ok (.iload_n 1, 1) := by decide +kernel
theorem dX4_stopping_16 : decode cX4_stopping 16 = .ok (.aload_n 0, 1) := by decide +kernel
theorem dX4_stopping_17 : decode cX4_stopping 17 = .ok (.getfield 29, 3) := by decide +kernel
theorem dX4_stopping_20 : decode cX4_stopping 20 = .ok (.iload_n 2, 1) := by decide +kernel
theorem dX4_stopping_21 : decode cX4_stopping 21 = .ok (.iaload, 1) := by decide +kernel
theorem dX4_stopping_22 : decode cX4_stopping 22 = .ok (.iconst 2, 1) := by decide +kernel
theorem dX4_stopping_23 : decode cX4_stopping 23 = .ok (.if_icmp .ne 9, 3) := by decide +kernel
theorem dX4_stopping_26 : decode cX4_stopping 26 = .ok (.iconst 1, 1) := by decide +kernel
theorem dX4_stopping_27 : decode cX4_stopping 27 = .ok (.iload_n 2, 1) := by decide +kernel
theorem dX4_stopping_28 : decode cX4_stopping 28 = .ok (.ishl, 1) := by decide +kernel
theorem dX4_stopping_29 : decode cX4_stopping 29 = .ok (.goto 4, 3) := by decide +kernel
theorem dX4_stopping_32 : decode cX4_stopping 32 = .ok (.iconst 0, 1) := by decide +kernel
theorem dX4_stopping_33 : decode cX4_stopping 33 = .ok (.ior, 1) := by decide +kernel
theorem dX4_stopping_34 : decode cX4_stopping 34 = .ok (.istore_n 1, 1) := by decide +kernel
theorem dX4_stopping_35 : decode cX4_stopping 35 = .ok (.iinc 2 1, 3) := by decide +kernel
theorem dX4_stopping_38 : decode cX4_stopping 38 = .ok (.goto (-34), 3) := by decide +kernel
theorem dX4_stopping_41 : decode cX4_stopping 41 = .ok (.iload_n 1, 1) := by decide +kernel
theorem dX4_stopping_42 : decode cX4_stopping 42 = .ok (.ireturn, 1) := by decide +kernel
theorem dX4_nearestInHerLane_0 : decode cX4_nearestInHerLane 0 = .ok (.iconst (-1), 1) := by decide +kernel
theorem dX4_nearestInHerLane_1 : decode cX4_nearestInHerLane 1 = .ok (.istore_n 1, 1) := by decide +kernel
theorem dX4_nearestInHerLane_2 : decode cX4_nearestInHerLane 2 = .ok (.iconst 0, 1) := by decide +kernel
theorem dX4_nearestInHerLane_3 : decode cX4_nearestInHerLane 3 = .ok (.istore_n 2, 1) := by decide +kernel
theorem dX4_nearestInHerLane_4 : decode cX4_nearestInHerLane 4 = .ok (.iload_n 2, 1) := by decide +kernel
theorem dX4_nearestInHerLane_5 : decode cX4_nearestInHerLane 5 = .ok (.aload_n 0, 1) := by decide +kernel
theorem dX4_nearestInHerLane_6 : decode cX4_nearestInHerLane 6 = .ok (.getfield 42, 3) := by decide +kernel
theorem dX4_nearestInHerLane_9 : decode cX4_nearestInHerLane 9 = .ok (.getfield 56, 3) := by decide +kernel
theorem dX4_nearestInHerLane_12 : decode cX4_nearestInHerLane 12 = .ok (.if_icmp .ge 63, 3) := by decide +kernel
theorem dX4_nearestInHerLane_15 : decode cX4_nearestInHerLane 15 = .ok (.aload_n 0, 1) := by decide +kernel
theorem dX4_nearestInHerLane_16 : decode cX4_nearestInHerLane 16 = .ok (.getfield 64, 3) := by decide +kernel
theorem dX4_nearestInHerLane_19 : decode cX4_nearestInHerLane 19 = .ok (.ifCond .eq 56, 3) := by decide +kernel
theorem dX4_nearestInHerLane_22 : decode cX4_nearestInHerLane 22 = .ok (.aload_n 0, 1) := by decide +kernel
theorem dX4_nearestInHerLane_23 : decode cX4_nearestInHerLane 23 = .ok (.getfield 42, 3) := by decide +kernel
theorem dX4_nearestInHerLane_26 : decode cX4_nearestInHerLane 26 = .ok (.getfield 143, 3) := by decide +kernel
theorem dX4_nearestInHerLane_29 : decode cX4_nearestInHerLane 29 = .ok (.iload_n 2, 1) := by decide +kernel
theorem dX4_nearestInHerLane_30 : decode cX4_nearestInHerLane 30 = .ok (.iaload, 1) := by decide +kernel
theorem dX4_nearestInHerLane_31 : decode cX4_nearestInHerLane 31 = .ok (.aload_n 0, 1) := by decide +kernel
theorem dX4_nearestInHerLane_32 : decode cX4_nearestInHerLane 32 = .ok (.getfield 61, 3) := by decide +kernel
theorem dX4_nearestInHerLane_35 : decode cX4_nearestInHerLane 35 = .ok (.if_icmp .ne 34, 3) := by decide +kernel
theorem dX4_nearestInHerLane_38 : decode cX4_nearestInHerLane 38 = .ok (.aload_n 0, 1) := by decide +kernel
theorem dX4_nearestInHerLane_39 : decode cX4_nearestInHerLane 39 = .ok (.getfield 22, 3) := by decide +kernel
theorem dX4_nearestInHerLane_42 : decode cX4_nearestInHerLane 42 = .ok (.iload_n 2, 1) := by decide +kernel
theorem dX4_nearestInHerLane_43 : decode cX4_nearestInHerLane 43 = .ok (.iaload, 1) := by decide +kernel
theorem dX4_nearestInHerLane_44 : decode cX4_nearestInHerLane 44 = .ok (.ifCond .le 25, 3) := by decide +kernel
theorem dX4_nearestInHerLane_47 : decode cX4_nearestInHerLane 47 = .ok (.iload_n 1, 1) := by decide +kernel
theorem dX4_nearestInHerLane_48 : decode cX4_nearestInHerLane 48 = .ok (.iconst (-1), 1) := by decide +kernel
theorem dX4_nearestInHerLane_49 : decode cX4_nearestInHerLane 49 = .ok (.if_icmp .eq 13, 3) := by decide +kernel
theorem dX4_nearestInHerLane_52 : decode cX4_nearestInHerLane 52 = .ok (.aload_n 0, 1) := by decide +kernel
theorem dX4_nearestInHerLane_53 : decode cX4_nearestInHerLane 53 = .ok (.getfield 22, 3) := by decide +kernel
theorem dX4_nearestInHerLane_56 : decode cX4_nearestInHerLane 56 = .ok (.iload_n 2, 1) := by decide +kernel
theorem dX4_nearestInHerLane_57 : decode cX4_nearestInHerLane 57 = .ok (.iaload, 1) := by decide +kernel
theorem dX4_nearestInHerLane_58 : decode cX4_nearestInHerLane 58 = .ok (.iload_n 1, 1) := by decide +kernel
theorem dX4_nearestInHerLane_59 : decode cX4_nearestInHerLane 59 = .ok (.if_icmp .ge 10, 3) := by decide +kernel
theorem dX4_nearestInHerLane_62 : decode cX4_nearestInHerLane 62 = .ok (.aload_n 0, 1) := by decide +kernel
theorem dX4_nearestInHerLane_63 : decode cX4_nearestInHerLane 63 = .ok (.getfield 22, 3) := by decide +kernel
theorem dX4_nearestInHerLane_66 : decode cX4_nearestInHerLane 66 = .ok (.iload_n 2, 1) := by decide +kernel
theorem dX4_nearestInHerLane_67 : decode cX4_nearestInHerLane 67 = .ok (.iaload, 1) := by decide +kernel
theorem dX4_nearestInHerLane_68 : decode cX4_nearestInHerLane 68 = .ok (.istore_n 1, 1) := by decide +kernel
theorem dX4_nearestInHerLane_69 : decode cX4_nearestInHerLane 69 = .ok (.iinc 2 1, 3) := by decide +kernel
theorem dX4_nearestInHerLane_72 : decode cX4_nearestInHerLane 72 = .ok (.goto (-68), 3) := by decide +kernel
theorem dX4_nearestInHerLane_75 : decode cX4_nearestInHerLane 75 = .ok (.iload_n 1, 1) := by decide +kernel
theorem dX4_nearestInHerLane_76 : decode cX4_nearestInHerLane 76 = .ok (.ireturn, 1) := by decide +kernel
theorem dX5_init_0 : decode cX5_init 0 = .ok (.aload_n 0, 1) := by decide +kernel
theorem dX5_init_1 : decode cX5_init 1 = .ok (.invokespecial 3, 3) := by decide +kernel
theorem dX5_init_4 : decode cX5_init 4 = .ok (.aload_n 0, 1) := by decide +kernel
theorem dX5_init_5 : decode cX5_init 5 = .ok (.bipush 40, 2) := by decide +kernel
theorem dX5_init_7 : decode cX5_init 7 = .ok (.newarray .long, 2) := by decide +kernel
theorem dX5_init_9 : decode cX5_init 9 = .ok (.putfield 9, 3) := by decide +kernel
theorem dX5_init_12 : decode cX5_init 12 = .ok (.return_, 1) := by decide +kernel
theorem dX5_cut_0 : decode cX5_cut 0 = .ok (.aload_n 0, 1) := by decide +kernel
theorem dX5_cut_1 : decode cX5_cut 1 = .ok (.getfield 15, 3) := by decide +kernel
theorem dX5_cut_4 : decode cX5_cut 4 = .ok (.tableswitch 42 0 2 #[28, 33, 38], 28) := by decide +kernel
theorem dX5_cut_32 : decode cX5_cut 32 = .ok (.lload_n 1, 1) := by decide +kernel
theorem dX5_cut_33 : decode cX5_cut 33 = .ok (.l2i, 1) := by decide +kernel
theorem dX5_cut_34 : decode cX5_cut 34 = .ok (.i2b, 1) := by decide +kernel
theorem dX5_cut_35 : decode cX5_cut 35 = .ok (.i2l, 1) := by decide +kernel
theorem dX5_cut_36 : decode cX5_cut 36 = .ok (.lreturn, 1) := by decide +kernel
theorem dX5_cut_37 : decode cX5_cut 37 = .ok (.lload_n 1, 1) := by decide +kernel
theorem dX5_cut_38 : decode cX5_cut 38 = .ok (.l2i, 1) := by decide +kernel
theorem dX5_cut_39 : decode cX5_cut 39 = .ok (.i2s, 1) := by decide +kernel
theorem dX5_cut_40 : decode cX5_cut 40 = .ok (.i2l, 1) := by decide +kernel
theorem dX5_cut_41 : decode cX5_cut 41 = .ok (.lreturn, 1) := by decide +kernel
theorem dX5_cut_42 : decode cX5_cut 42 = .ok (.lload_n 1, 1) := by decide +kernel
theorem dX5_cut_43 : decode cX5_cut 43 = .ok (.l2i, 1) := by decide +kernel
theorem dX5_cut_44 : decode cX5_cut 44 = .ok (.i2l, 1) := by decide +kernel
theorem dX5_cut_45 : decode cX5_cut 45 = .ok (.lreturn, 1) := by decide +kernel
theorem dX5_cut_46 : decode cX5_cut 46 = .ok (.lload_n 1, 1) := by decide +kernel
theorem dX5_cut_47 : decode cX5_cut 47 = .ok (.lreturn, 1) := by decide +kernel
theorem dX5_isWithin_0 : decode cX5_isWithin 0 = .ok (.iconst 0, 1) := by decide +kernel
theorem dX5_isWithin_1 : decode cX5_isWithin 1 = .ok (.istore_n 3, 1) := by decide +kernel
theorem dX5_isWithin_2 : decode cX5_isWithin 2 = .ok (.iload_n 3, 1) := by decide +kernel
theorem dX5_isWithin_3 : decode cX5_isWithin 3 = .ok (.aload_n 0, 1) := by decide +kernel
theorem dX5_isWithin_4 : decode cX5_isWithin 4 = .ok (.getfield 19, 3) := by decide +kernel
theorem dX5_isWithin_7 : decode cX5_isWithin 7 = .ok (.if_icmp .ge 33, 3) := by decide +kernel
theorem dX5_isWithin_10 : decode cX5_isWithin 10 = .ok (.aload_n 0, 1) := by decide +kernel
theorem dX5_isWithin_11 : decode cX5_isWithin 11 = .ok (.getfield 9, 3) := by decide +kernel
theorem dX5_isWithin_14 : decode cX5_isWithin 14 = .ok (.iload_n 3, 1) := by decide +kernel
theorem dX5_isWithin_15 : decode cX5_isWithin 15 = .ok (.laload, 1) := by decide +kernel
theorem dX5_isWithin_16 : decode cX5_isWithin 16 = .ok (.lconst 0, 1) := by decide +kernel
theorem dX5_isWithin_17 : decode cX5_isWithin 17 = .ok (.lcmp, 1) := by decide +kernel
theorem dX5_isWithin_18 : decode cX5_isWithin 18 = .ok (.ifCond .lt 14, 3) := by decide +kernel
theorem dX5_isWithin_21 : decode cX5_isWithin 21 = .ok (.aload_n 0, 1) := by decide +kernel
theorem dX5_isWithin_22 : decode cX5_isWithin 22 = .ok (.getfield 9, 3) := by decide +kernel
theorem dX5_isWithin_25 : decode cX5_isWithin 25 = .ok (.iload_n 3, 1) := by decide +kernel
theorem dX5_isWithin_26 : decode cX5_isWithin 26 = .ok (.laload, 1) := by decide +kernel
theorem dX5_isWithin_27 : decode cX5_isWithin 27 = .ok (.lload_n 1, 1) := by decide +kernel
theorem dX5_isWithin_28 : decode cX5_isWithin 28 = .ok (.lcmp, 1) := by decide +kernel
theorem dX5_isWithin_29 : decode cX5_isWithin 29 = .ok (.ifCond .le 5, 3) := by decide +kernel
theorem dX5_isWithin_32 : decode cX5_isWithin 32 = .ok (.iconst 0, 1) := by decide +kernel
theorem dX5_isWithin_33 : decode cX5_isWithin 33 = .ok (.ireturn, 1) := by decide +kernel
theorem dX5_isWithin_34 : decode cX5_isWithin 34 = .ok (.iinc 3 1, 3) := by decide +kernel
theorem dX5_isWithin_37 : decode cX5_isWithin 37 = .ok (.goto (-35), 3) := by decide +kernel
theorem dX5_isWithin_40 : decode cX5_isWithin 40 = .ok (.iconst 1, 1) := by decide +kernel
theorem dX5_isWithin_41 : decode cX5_isWithin 41 = .ok (.ireturn, 1) := by decide +kernel
theorem dX5_isBeyondCounts_0 : decode cX5_isBeyondCounts 0 = .ok (.iconst 0, 1) := by decide +kernel
theorem dX5_isBeyondCounts_1 : decode cX5_isBeyondCounts 1 = .ok (.istore_n 1, 1) := by decide +kernel
theorem dX5_isBeyondCounts_2 : decode cX5_isBeyondCounts 2 = .ok (.iload_n 1, 1) := by decide +kernel
theorem dX5_isBeyondCounts_3 : decode cX5_isBeyondCounts 3 = .ok (.aload_n 0, 1) := by decide +kernel
theorem dX5_isBeyondCounts_4 : decode cX5_isBeyondCounts 4 = .ok (.getfield 19, 3) := by decide +kernel
theorem dX5_isBeyondCounts_7 : decode cX5_isBeyondCounts 7 = .ok (.if_icmp .ge 24, 3) := by decide +kernel
theorem dX5_isBeyondCounts_10 : decode cX5_isBeyondCounts 10 = .ok (.aload_n 0, 1) := by decide +kernel
theorem dX5_isBeyondCounts_11 : decode cX5_isBeyondCounts 11 = .ok (.getfield 9, 3) := by decide +kernel
theorem dX5_isBeyondCounts_14 : decode cX5_isBeyondCounts 14 = .ok (.iload_n 1, 1) := by decide +kernel
theorem dX5_isBeyondCounts_15 : decode cX5_isBeyondCounts 15 = .ok (.laload, 1) := by decide +kernel
theorem dX5_isBeyondCounts_16 : decode cX5_isBeyondCounts 16 = .ok (.ldc2_w 22, 3) := by decide +kernel
theorem dX5_isBeyondCounts_19 : decode cX5_isBeyondCounts 19 = .ok (.lcmp, 1) := by decide +kernel
theorem dX5_isBeyondCounts_20 : decode cX5_isBeyondCounts 20 = .ok (.ifCond .le 5, 3) := by decide +kernel
theorem dX5_isBeyondCounts_23 : decode cX5_isBeyondCounts 23 = .ok (.iconst 1, 1) := by decide +kernel
theorem dX5_isBeyondCounts_24 : decode cX5_isBeyondCounts 24 = .ok (.ireturn, 1) := by decide +kernel
theorem dX5_isBeyondCounts_25 : decode cX5_isBeyondCounts 25 = .ok (.iinc 1 1, 3) := by decide +kernel
theorem dX5_isBeyondCounts_28 : decode cX5_isBeyondCounts 28 = .ok (.goto (-26), 3) := by decide +kernel
theorem dX5_isBeyondCounts_31 : decode cX5_isBeyondCounts 31 = .ok (.iconst 0, 1) := by decide +kernel
theorem dX5_isBeyondCounts_32 : decode cX5_isBeyondCounts 32 = .ok (.ireturn, 1) := by decide +kernel
theorem dX5_hasCounts_0 : decode cX5_hasCounts 0 = .ok (.aload_n 0, 1) := by decide +kernel
theorem dX5_hasCounts_1 : decode cX5_hasCounts 1 = .ok (.getfield 24, 3) := by decide +kernel
theorem dX5_hasCounts_4 : decode cX5_hasCounts 4 = .ok (.ifCond .eq 30, 3) := by decide +kernel
theorem dX5_hasCounts_7 : decode cX5_hasCounts 7 = .ok (.aload_n 0, 1) := by decide +kernel
theorem dX5_hasCounts_8 : decode cX5_hasCounts 8 = .ok (.invokevirtual 28, 3) := by decide +kernel
theorem dX5_hasCounts_11 : decode cX5_hasCounts 11 = .ok (.ifCond .ne 23, 3) := by decide +kernel
theorem dX5_hasCounts_14 : decode cX5_hasCounts 14 = .ok (.aload_n 0, 1) := by decide +kernel
theorem dX5_hasCounts_15 : decode cX5_hasCounts 15 = .ok (.getfield 19, 3) := by decide +kernel
theorem dX5_hasCounts_18 : decode cX5_hasCounts 18 = .ok (.ifCond .le 16, 3) := by decide +kernel
theorem dX5_hasCounts_21 : decode cX5_hasCounts 21 = .ok (.aload_n 0, 1) := by decide +kernel
theorem dX5_hasCounts_22 : decode cX5_hasCounts 22 = .ok (.iconst 0, 1) := by decide +kernel
theorem dX5_hasCounts_23 : decode cX5_hasCounts 23 = .ok (.invokevirtual 32, 3) := by decide +kernel
theorem dX5_hasCounts_26 : decode cX5_hasCounts 26 = .ok (.iconst (-1), 1) := by decide +kernel
theorem dX5_hasCounts_27 : decode cX5_hasCounts 27 = .ok (.if_icmp .eq 7, 3) := by decide +kernel
theorem dX5_hasCounts_30 : decode cX5_hasCounts 30 = .ok (.iconst 1, 1) := by decide +kernel
theorem dX5_hasCounts_31 : decode cX5_hasCounts 31 = .ok (.goto 4, 3) := by decide +kernel
theorem dX5_hasCounts_34 : decode cX5_hasCounts 34 = .ok (.iconst 0, 1) := by decide +kernel
theorem dX5_hasCounts_35 : decode cX5_hasCounts 35 = .ok (.ireturn, 1) := by decide +kernel
theorem dX5_countAt_0 : decode cX5_countAt 0 = .ok (.iload_n 1, 1) := by decide +kernel
theorem dX5_countAt_1 : decode cX5_countAt 1 = .ok (.istore_n 2, 1) := by decide +kernel
theorem dX5_countAt_2 : decode cX5_countAt 2 = .ok (.iload_n 2, 1) := by decide +kernel
theorem dX5_countAt_3 : decode cX5_countAt 3 = .ok (.ifCond .lt 20, 3) := by decide +kernel
theorem dX5_countAt_6 : decode cX5_countAt 6 = .ok (.aload_n 0, 1) := by decide +kernel
theorem dX5_countAt_7 : decode cX5_countAt 7 = .ok (.getfield 9, 3) := by decide +kernel
theorem dX5_countAt_10 : decode cX5_countAt 10 = .ok (.iload_n 2, 1) := by decide +kernel
theorem dX5_countAt_11 : decode cX5_countAt 11 = .ok (.laload, 1) := by decide +kernel
theorem dX5_countAt_12 : decode cX5_countAt 12 = .ok (.lconst 0, 1) := by decide +kernel
theorem dX5_countAt_13 : decode cX5_countAt 13 = .ok (.lcmp, 1) := by decide +kernel
theorem dX5_countAt_14 : decode cX5_countAt 14 = .ok (.ifCond .ge 9, 3) := by decide +kernel
theorem dX5_countAt_17 : decode cX5_countAt 17 = .ok (.iinc 2 (-1), 3) := by decide +kernel
theorem dX5_countAt_20 : decode cX5_countAt 20 = .ok (.goto (-18), 3) := by decide +kernel
theorem dX5_countAt_23 : decode cX5_countAt 23 = .ok (.iload_n 1, 1) := by decide +kernel
theorem dX5_countAt_24 : decode cX5_countAt 24 = .ok (.istore_n 3, 1) := by decide +kernel
theorem dX5_countAt_25 : decode cX5_countAt 25 = .ok (.iload_n 3, 1) := by decide +kernel
theorem dX5_countAt_26 : decode cX5_countAt 26 = .ok (.aload_n 0, 1) := by decide +kernel
theorem dX5_countAt_27 : decode cX5_countAt 27 = .ok (.getfield 19, 3) := by decide +kernel
theorem dX5_countAt_30 : decode cX5_countAt 30 = .ok (.if_icmp .ge 20, 3) := by decide +kernel
theorem dX5_countAt_33 : decode cX5_countAt 33 = .ok (.aload_n 0, 1) := by decide +kernel
theorem dX5_countAt_34 : decode cX5_countAt 34 = .ok (.getfield 9, 3) := by decide +kernel
theorem dX5_countAt_37 : decode cX5_countAt 37 = .ok (.iload_n 3, 1) := by decide +kernel
theorem dX5_countAt_38 : decode cX5_countAt 38 = .ok (.laload, 1) := by decide +kernel
theorem dX5_countAt_39 : decode cX5_countAt 39 = .ok (.lconst 0, 1) := by decide +kernel
theorem dX5_countAt_40 : decode cX5_countAt 40 = .ok (.lcmp, 1) := by decide +kernel
theorem dX5_countAt_41 : decode cX5_countAt 41 = .ok (.ifCond .ge 9, 3) := by decide +kernel
theorem dX5_countAt_44 : decode cX5_countAt 44 = .ok (.iinc 3 1, 3) := by decide +kernel
theorem dX5_countAt_47 : decode cX5_countAt 47 = .ok (.goto (-22), 3) := by decide +kernel
theorem dX5_countAt_50 : decode cX5_countAt 50 = .ok (.iload_n 2, 1) := by decide +kernel
theorem dX5_countAt_51 : decode cX5_countAt 51 = .ok (.ifCond .ge 13, 3) := by decide +kernel
theorem dX5_countAt_54 : decode cX5_countAt 54 = .ok (.iload_n 3, 1) := by decide +kernel
theorem dX5_countAt_55 : decode cX5_countAt 55 = .ok (.aload_n 0, 1) := by decide +kernel
theorem dX5_countAt_56 : decode cX5_countAt 56 = .ok (.getfield 19, 3) := by decide +kernel
theorem dX5_countAt_59 : decode cX5_countAt 59 = .ok (.if_icmp .lt 5, 3) := by decide +kernel
theorem dX5_countAt_62 : decode cX5_countAt 62 = .ok (.iconst (-1), 1) := by decide +kernel
theorem dX5_countAt_63 : decode cX5_countAt 63 = .ok (.ireturn, 1) := by decide +kernel
theorem dX5_countAt_64 : decode cX5_countAt 64 = .ok (.iload_n 2, 1) := by decide +kernel
theorem dX5_countAt_65 : decode cX5_countAt 65 = .ok (.ifCond .ge 11, 3) := by decide +kernel
theorem dX5_countAt_68 : decode cX5_countAt 68 = .ok (.aload_n 0, 1) := by decide +kernel
theorem dX5_countAt_69 : decode cX5_countAt 69 = .ok (.getfield 9, 3) := by decide +kernel
theorem dX5_countAt_72 : decode cX5_countAt 72 = .ok (.iload_n 3, 1) := by decide +kernel
theorem dX5_countAt_73 : decode cX5_countAt 73 = .ok (.laload, 1) := by decide +kernel
theorem dX5_countAt_74 : decode cX5_countAt 74 = .ok (.l2i, 1) := by decide +kernel
theorem dX5_countAt_75 : decode cX5_countAt 75 = .ok (.ireturn, 1) := by decide +kernel
theorem dX5_countAt_76 : decode cX5_countAt 76 = .ok (.iload_n 3, 1) := by decide +kernel
theorem dX5_countAt_77 : decode cX5_countAt 77 = .ok (.aload_n 0, 1) := by decide +kernel
theorem dX5_countAt_78 : decode cX5_countAt 78 = .ok (.getfield 19, 3) := by decide +kernel
theorem dX5_countAt_81 : decode cX5_countAt 81 = .ok (.if_icmp .lt 11, 3) := by decide +kernel
theorem dX5_countAt_84 : decode cX5_countAt 84 = .ok (.aload_n 0, 1) := by decide +kernel
theorem dX5_countAt_85 : decode cX5_countAt 85 = .ok (.getfield 9, 3) := by decide +kernel
theorem dX5_countAt_88 : decode cX5_countAt 88 = .ok (.iload_n 2, 1) := by decide +kernel
theorem dX5_countAt_89 : decode cX5_countAt 89 = .ok (.laload, 1) := by decide +kernel
theorem dX5_countAt_90 : decode cX5_countAt 90 = .ok (.l2i, 1) := by decide +kernel
theorem dX5_countAt_91 : decode cX5_countAt 91 = .ok (.ireturn, 1) := by decide +kernel
theorem dX5_countAt_92 : decode cX5_countAt 92 = .ok (.aload_n 0, 1) := by decide +kernel
theorem dX5_countAt_93 : decode cX5_countAt 93 = .ok (.getfield 9, 3) := by decide +kernel
theorem dX5_countAt_96 : decode cX5_countAt 96 = .ok (.iload_n 2, 1) := by decide +kernel
theorem dX5_countAt_97 : decode cX5_countAt 97 = .ok (.laload, 1) := by decide +kernel
theorem dX5_countAt_98 : decode cX5_countAt 98 = .ok (.aload_n 0, 1) := by decide +kernel
theorem dX5_countAt_99 : decode cX5_countAt 99 = .ok (.getfield 9, 3) := by decide +kernel
theorem dX5_countAt_102 : decode cX5_countAt 102 = .ok (.iload_n 3, 1) := by decide +kernel
theorem dX5_countAt_103 : decode cX5_countAt 103 = .ok (.laload, 1) := by decide +kernel
theorem dX5_countAt_104 : decode cX5_countAt 104 = .ok (.ladd, 1) := by decide +kernel
theorem dX5_countAt_105 : decode cX5_countAt 105 = .ok (.ldc2_w 36, 3) := by decide +kernel
theorem dX5_countAt_108 : decode cX5_countAt 108 = .ok (.ldiv, 1) := by decide +kernel
theorem dX5_countAt_109 : decode cX5_countAt 109 = .ok (.l2i, 1) := by decide +kernel
theorem dX5_countAt_110 : decode cX5_countAt 110 = .ok (.ireturn, 1) := by decide +kernel
theorem dX5_apartFrom_0 : decode cX5_apartFrom 0 = .ok (.lconst 0, 1) := by decide +kernel
theorem dX5_apartFrom_1 : decode cX5_apartFrom 1 = .ok (.lstore_n 3, 1) := by decide +kernel
theorem dX5_apartFrom_2 : decode cX5_apartFrom 2 = .ok (.iconst 0, 1) := by decide +kernel
theorem dX5_apartFrom_3 : decode cX5_apartFrom 3 = .ok (.istore 5, 2) := by decide +kernel
theorem dX5_apartFrom_5 : decode cX5_apartFrom 5 = .ok (.iload 5, 2) := by decide +kernel
theorem dX5_apartFrom_7 : decode cX5_apartFrom 7 = .ok (.aload_n 0, 1) := by decide +kernel
theorem dX5_apartFrom_8 : decode cX5_apartFrom 8 = .ok (.getfield 19, 3) := by decide +kernel
theorem dX5_apartFrom_11 : decode cX5_apartFrom 11 = .ok (.if_icmp .ge 49, 3) := by decide +kernel
theorem dX5_apartFrom_14 : decode cX5_apartFrom 14 = .ok (.iload 5, 2) := by decide +kernel
theorem dX5_apartFrom_16 : decode cX5_apartFrom 16 = .ok (.iload_n 2, 1) := by decide +kernel
theorem dX5_apartFrom_17 : decode cX5_apartFrom 17 = .ok (.iadd, 1) := by decide +kernel
theorem dX5_apartFrom_18 : decode cX5_apartFrom 18 = .ok (.ifCond .lt 36, 3) := by decide +kernel
theorem dX5_apartFrom_21 : decode cX5_apartFrom 21 = .ok (.iload 5, 2) := by decide +kernel
theorem dX5_apartFrom_23 : decode cX5_apartFrom 23 = .ok (.iload_n 2, 1) := by decide +kernel
theorem dX5_apartFrom_24 : decode cX5_apartFrom 24 = .ok (.iadd, 1) := by decide +kernel
theorem dX5_apartFrom_25 : decode cX5_apartFrom 25 = .ok (.aload_n 1, 1) := by decide +kernel
theorem dX5_apartFrom_26 : decode cX5_apartFrom 26 = .ok (.getfield 19, 3) := by decide +kernel
theorem dX5_apartFrom_29 : decode cX5_apartFrom 29 = .ok (.if_icmp .ge 25, 3) := by decide +kernel
theorem dX5_apartFrom_32 : decode cX5_apartFrom 32 = .ok (.lload_n 3, 1) := by decide +kernel
theorem dX5_apartFrom_33 : decode cX5_apartFrom 33 = .ok (.aload_n 0, 1) := by decide +kernel
theorem dX5_apartFrom_34 : decode cX5_apartFrom 34 = .ok (.iload 5, 2) := by decide +kernel
theorem dX5_apartFrom_36 : decode cX5_apartFrom 36 = .ok (.invokevirtual 32, 3) := by decide +kernel
theorem dX5_apartFrom_39 : decode cX5_apartFrom 39 = .ok (.aload_n 1, 1) := by decide +kernel
theorem dX5_apartFrom_40 : decode cX5_apartFrom 40 = .ok (.iload 5, 2) := by decide +kernel
theorem dX5_apartFrom_42 : decode cX5_apartFrom 42 = .ok (.iload_n 2, 1) := by decide +kernel
theorem dX5_apartFrom_43 : decode cX5_apartFrom 43 = .ok (.iadd, 1) := by decide +kernel
theorem dX5_apartFrom_44 : decode cX5_apartFrom 44 = .ok (.invokevirtual 32, 3) := by decide +kernel
theorem dX5_apartFrom_47 : decode cX5_apartFrom 47 = .ok (.isub, 1) := by decide +kernel
theorem dX5_apartFrom_48 : decode cX5_apartFrom 48 = .ok (.invokestatic 38, 3) := by decide +kernel
theorem dX5_apartFrom_51 : decode cX5_apartFrom 51 = .ok (.i2l, 1) := by decide +kernel
theorem dX5_apartFrom_52 : decode cX5_apartFrom 52 = .ok (.ladd, 1) := by decide +kernel
theorem dX5_apartFrom_53 : decode cX5_apartFrom 53 = .ok (.lstore_n 3, 1) := by decide +kernel
theorem dX5_apartFrom_54 : decode cX5_apartFrom 54 = .ok (.iinc 5 1, 3) := by decide +kernel
theorem dX5_apartFrom_57 : decode cX5_apartFrom 57 = .ok (.goto (-52), 3) := by decide +kernel
theorem dX5_apartFrom_60 : decode cX5_apartFrom 60 = .ok (.lload_n 3, 1) := by decide +kernel
theorem dX5_apartFrom_61 : decode cX5_apartFrom 61 = .ok (.lreturn, 1) := by decide +kernel
theorem dX5_sharedWith_0 : decode cX5_sharedWith 0 = .ok (.lconst 0, 1) := by decide +kernel
theorem dX5_sharedWith_1 : decode cX5_sharedWith 1 = .ok (.lstore_n 3, 1) := by decide +kernel
theorem dX5_sharedWith_2 : decode cX5_sharedWith 2 = .ok (.iconst 0, 1) := by decide +kernel
theorem dX5_sharedWith_3 : decode cX5_sharedWith 3 = .ok (.istore 5, 2) := by decide +kernel
theorem dX5_sharedWith_5 : decode cX5_sharedWith 5 = .ok (.iload 5, 2) := by decide +kernel
theorem dX5_sharedWith_7 : decode cX5_sharedWith 7 = .ok (.aload_n 0, 1) := by decide +kernel
theorem dX5_sharedWith_8 : decode cX5_sharedWith 8 = .ok (.getfield 19, 3) := by decide +kernel
theorem dX5_sharedWith_11 : decode cX5_sharedWith 11 = .ok (.if_icmp .ge 35, 3) := by decide +kernel
theorem dX5_sharedWith_14 : decode cX5_sharedWith 14 = .ok (.lload_n 3, 1) := by decide +kernel
theorem dX5_sharedWith_15 : decode cX5_sharedWith 15 = .ok (.iload 5, 2) := by decide +kernel
theorem dX5_sharedWith_17 : decode cX5_sharedWith 17 = .ok (.iload_n 2, 1) := by decide +kernel
theorem dX5_sharedWith_18 : decode cX5_sharedWith 18 = .ok (.iadd, 1) := by decide +kernel
theorem dX5_sharedWith_19 : decode cX5_sharedWith 19 = .ok (.ifCond .lt 18, 3) := by decide +kernel
theorem dX5_sharedWith_22 : decode cX5_sharedWith 22 = .ok (.iload 5, 2) := by decide +kernel
theorem dX5_sharedWith_24 : decode cX5_sharedWith 24 = .ok (.iload_n 2, 1) := by decide +kernel
theorem dX5_sharedWith_25 : decode cX5_sharedWith 25 = .ok (.iadd, 1) := by decide +kernel
theorem dX5_sharedWith_26 : decode cX5_sharedWith 26 = .ok (.aload_n 1, 1) := by decide +kernel
theorem dX5_sharedWith_27 : decode cX5_sharedWith 27 = .ok (.getfield 19, 3) := by decide +kernel
theorem dX5_sharedWith_30 : decode cX5_sharedWith 30 = .ok (.if_icmp .ge 7, 3) := by decide +kernel
theorem dX5_sharedWith_33 : decode cX5_sharedWith 33 = .ok (.lconst 1, 1) := by decide +kernel
theorem dX5_sharedWith_34 : decode cX5_sharedWith 34 = .ok (.goto 4, 3) := by decide +kernel
theorem dX5_sharedWith_37 : decode cX5_sharedWith 37 = .ok (.lconst 0, 1) := by decide +kernel
theorem dX5_sharedWith_38 : decode cX5_sharedWith 38 = .ok (.ladd, 1) := by decide +kernel
theorem dX5_sharedWith_39 : decode cX5_sharedWith 39 = .ok (.lstore_n 3, 1) := by decide +kernel
theorem dX5_sharedWith_40 : decode cX5_sharedWith 40 = .ok (.iinc 5 1, 3) := by decide +kernel
theorem dX5_sharedWith_43 : decode cX5_sharedWith 43 = .ok (.goto (-38), 3) := by decide +kernel
theorem dX5_sharedWith_46 : decode cX5_sharedWith 46 = .ok (.lload_n 3, 1) := by decide +kernel
theorem dX5_sharedWith_47 : decode cX5_sharedWith 47 = .ok (.lreturn, 1) := by decide +kernel
theorem dX6_init_0 : decode cX6_init 0 = .ok (.aload_n 0, 1) := by decide +kernel
theorem dX6_init_1 : decode cX6_init 1 = .ok (.invokespecial 3, 3) := by decide +kernel
theorem dX6_init_4 : decode cX6_init 4 = .ok (.aload_n 0, 1) := by decide +kernel
theorem dX6_init_5 : decode cX6_init 5 = .ok (.iconst 1, 1) := by decide +kernel
theorem dX6_init_6 : decode cX6_init 6 = .ok (.putfield 9, 3) := by decide +kernel
theorem dX6_init_9 : decode cX6_init 9 = .ok (.aload_n 0, 1) := by decide +kernel
theorem dX6_init_10 : decode cX6_init 10 = .ok (.bipush 8, 2) := by decide +kernel
theorem dX6_init_12 : decode cX6_init 12 = .ok (.newarray .int, 2) := by decide +kernel
theorem dX6_init_14 : decode cX6_init 14 = .ok (.putfield 15, 3) := by decide +kernel
theorem dX6_init_17 : decode cX6_init 17 = .ok (.aload_n 0, 1) := by decide +kernel
theorem dX6_init_18 : decode cX6_init 18 = .ok (.bipush 8, 2) := by decide +kernel
theorem dX6_init_20 : decode cX6_init 20 = .ok (.newarray .int, 2) := by decide +kernel
theorem dX6_init_22 : decode cX6_init 22 = .ok (.putfield 19, 3) := by decide +kernel
theorem dX6_init_25 : decode cX6_init 25 = .ok (.aload_n 0, 1) := by decide +kernel
theorem dX6_init_26 : decode cX6_init 26 = .ok (.bipush 8, 2) := by decide +kernel
theorem dX6_init_28 : decode cX6_init 28 = .ok (.newarray .int, 2) := by decide +kernel
theorem dX6_init_30 : decode cX6_init 30 = .ok (.putfield 22, 3) := by decide +kernel
theorem dX6_init_33 : decode cX6_init 33 = .ok (.aload_n 0, 1) := by decide +kernel
theorem dX6_init_34 : decode cX6_init 34 = .ok (.bipush 8, 2) := by decide +kernel
theorem dX6_init_36 : decode cX6_init 36 = .ok (.newarray .int, 2) := by decide +kernel
theorem dX6_init_38 : decode cX6_init 38 = .ok (.putfield 25, 3) := by decide +kernel
theorem dX6_init_41 : decode cX6_init 41 = .ok (.aload_n 0, 1) := by decide +kernel
theorem dX6_init_42 : decode cX6_init 42 = .ok (.iconst 3, 1) := by decide +kernel
theorem dX6_init_43 : decode cX6_init 43 = .ok (.putfield 28, 3) := by decide +kernel
theorem dX6_init_46 : decode cX6_init 46 = .ok (.aload_n 0, 1) := by decide +kernel
theorem dX6_init_47 : decode cX6_init 47 = .ok (.bipush 20, 2) := by decide +kernel
theorem dX6_init_49 : decode cX6_init 49 = .ok (.putfield 31, 3) := by decide +kernel
theorem dX6_init_52 : decode cX6_init 52 = .ok (.aload_n 0, 1) := by decide +kernel
theorem dX6_init_53 : decode cX6_init 53 = .ok (.bipush 40, 2) := by decide +kernel
theorem dX6_init_55 : decode cX6_init 55 = .ok (.putfield 34, 3) := by decide +kernel
theorem dX6_init_58 : decode cX6_init 58 = .ok (.return_, 1) := by decide +kernel
theorem dX6_clear_0 : decode cX6_clear 0 = .ok (.aload_n 0, 1) := by decide +kernel
theorem dX6_clear_1 : decode cX6_clear 1 = .ok (.iconst 1, 1) := by decide +kernel
theorem dX6_clear_2 : decode cX6_clear 2 = .ok (.putfield 9, 3) := by decide +kernel
theorem dX6_clear_5 : decode cX6_clear 5 = .ok (.aload_n 0, 1) := by decide +kernel
theorem dX6_clear_6 : decode cX6_clear 6 = .ok (.iconst 0, 1) := by decide +kernel
theorem dX6_clear_7 : decode cX6_clear 7 = .ok (.putfield 37, 3) := by decide +kernel
theorem dX6_clear_10 : decode cX6_clear 10 = .ok (.aload_n 0, 1) := by decide +kernel
theorem dX6_clear_11 : decode cX6_clear 11 = .ok (.iconst 0, 1) := by decide +kernel
theorem dX6_clear_12 : decode cX6_clear 12 = .ok (.putfield 40, 3) := by decide +kernel
theorem dX6_clear_15 : decode cX6_clear 15 = .ok (.aload_n 0, 1) := by decide +kernel
theorem dX6_clear_16 : decode cX6_clear 16 = .ok (.iconst 0, 1) := by decide +kernel
theorem dX6_clear_17 : decode cX6_clear 17 = .ok (.putfield 43, 3) := by decide +kernel
theorem dX6_clear_20 : decode cX6_clear 20 = .ok (.aload_n 0, 1) := by decide +kernel
theorem dX6_clear_21 : decode cX6_clear 21 = .ok (.iconst 3, 1) := by decide +kernel
theorem dX6_clear_22 : decode cX6_clear 22 = .ok (.putfield 28, 3) := by decide +kernel
theorem dX6_clear_25 : decode cX6_clear 25 = .ok (.aload_n 0, 1) := by decide +kernel
theorem dX6_clear_26 : decode cX6_clear 26 = .ok (.bipush 20, 2) := by decide +kernel
theorem dX6_clear_28 : decode cX6_clear 28 = .ok (.putfield 31, 3) := by decide +kernel
theorem dX6_clear_31 : decode cX6_clear 31 = .ok (.aload_n 0, 1) := by decide +kernel
theorem dX6_clear_32 : decode cX6_clear 32 = .ok (.bipush 40, 2) := by decide +kernel
theorem dX6_clear_34 : decode cX6_clear 34 = .ok (.putfield 34, 3) := by decide +kernel
theorem dX6_clear_37 : decode cX6_clear 37 = .ok (.aload_n 0, 1) := by decide +kernel
theorem dX6_clear_38 : decode cX6_clear 38 = .ok (.iconst 0, 1) := by decide +kernel
theorem dX6_clear_39 : decode cX6_clear 39 = .ok (.putfield 46, 3) := by decide +kernel
theorem dX6_clear_42 : decode cX6_clear 42 = .ok (.return_, 1) := by decide +kernel
theorem dX6_take_0 : decode cX6_take 0 = .ok (.aload_n 0, 1) := by decide +kernel
theorem dX6_take_1 : decode cX6_take 1 = .ok (.aload_n 1, 1) := by decide +kernel
theorem dX6_take_2 : decode cX6_take 2 = .ok (.getfield 9, 3) := by decide +kernel
theorem dX6_take_5 : decode cX6_take 5 = .ok (.putfield 9, 3) := by decide +kernel
theorem dX6_take_8 : decode cX6_take 8 = .ok (.aload_n 0, 1) := by decide +kernel
theorem dX6_take_9 : decode cX6_take 9 = .ok (.aload_n 1, 1) := by decide +kernel
theorem dX6_take_10 : decode cX6_take 10 = .ok (.getfield 37, 3) := by decide +kernel
theorem dX6_take_13 : decode cX6_take 13 = .ok (.putfield 37, 3) := by decide +kernel
theorem dX6_take_16 : decode cX6_take 16 = .ok (.aload_n 1, 1) := by decide +kernel
theorem dX6_take_17 : decode cX6_take 17 = .ok (.getfield 15, 3) := by decide +kernel
theorem dX6_take_20 : decode cX6_take 20 = .ok (.iconst 0, 1) := by decide +kernel
theorem dX6_take_21 : decode cX6_take 21 = .ok (.aload_n 0, 1) := by decide +kernel
theorem dX6_take_22 : decode cX6_take 22 = .ok (.getfield 15, 3) := by decide +kernel
theorem dX6_take_25 : decode cX6_take 25 = .ok (.iconst 0, 1) := by decide +kernel
theorem dX6_take_26 : decode cX6_take 26 = .ok (.bipush 8, 2) := by decide +kernel
theorem dX6_take_28 : decode cX6_take 28 = .ok (.invokestatic 49, 3) := by decide +kernel
theorem dX6_take_31 : decode cX6_take 31 = .ok (.aload_n 1, 1) := by decide +kernel
theorem dX6_take_32 : decode cX6_take 32 = .ok (.getfield 19, 3) := by decide +kernel
theorem dX6_take_35 : decode cX6_take 35 = .ok (.iconst 0, 1) := by decide +kernel
theorem dX6_take_36 : decode cX6_take 36 = .ok (.aload_n 0, 1) := by decide +kernel
theorem dX6_take_37 : decode cX6_take 37 = .ok (.getfield 19, 3) := by decide +kernel
theorem dX6_take_40 : decode cX6_take 40 = .ok (.iconst 0, 1) := by decide +kernel
theorem dX6_take_41 : decode cX6_take 41 = .ok (.bipush 8, 2) := by decide +kernel
theorem dX6_take_43 : decode cX6_take 43 = .ok (.invokestatic 49, 3) := by decide +kernel
theorem dX6_take_46 : decode cX6_take 46 = .ok (.aload_n 1, 1) := by decide +kernel
theorem dX6_take_47 : decode cX6_take 47 = .ok (.getfield 22, 3) := by decide +kernel
theorem dX6_take_50 : decode cX6_take 50 = .ok (.iconst 0, 1) := by decide +kernel
theorem dX6_take_51 : decode cX6_take 51 = .ok (.aload_n 0, 1) := by decide +kernel
theorem dX6_take_52 : decode cX6_take 52 = .ok (.getfield 22, 3) := by decide +kernel
theorem dX6_take_55 : decode cX6_take 55 = .ok (.iconst 0, 1) := by decide +kernel
theorem dX6_take_56 : decode cX6_take 56 = .ok (.bipush 8, 2) := by decide +kernel
theorem dX6_take_58 : decode cX6_take 58 = .ok (.invokestatic 49, 3) := by decide +kernel
theorem dX6_take_61 : decode cX6_take 61 = .ok (.aload_n 1, 1) := by decide +kernel
theorem dX6_take_62 : decode cX6_take 62 = .ok (.getfield 25, 3) := by decide +kernel
theorem dX6_take_65 : decode cX6_take 65 = .ok (.iconst 0, 1) := by decide +kernel
theorem dX6_take_66 : decode cX6_take 66 = .ok (.aload_n 0, 1) := by decide +kernel
theorem dX6_take_67 : decode cX6_take 67 = .ok (.getfield 25, 3) := by decide +kernel
theorem dX6_take_70 : decode cX6_take 70 = .ok (.iconst 0, 1) := by decide +kernel
theorem dX6_take_71 : decode cX6_take 71 = .ok (.bipush 8, 2) := by decide +kernel
theorem dX6_take_73 : decode cX6_take 73 = .ok (.invokestatic 49, 3) := by decide +kernel
theorem dX6_take_76 : decode cX6_take 76 = .ok (.aload_n 0, 1) := by decide +kernel
theorem dX6_take_77 : decode cX6_take 77 = .ok (.aload_n 1, 1) := by decide +kernel
theorem dX6_take_78 : decode cX6_take 78 = .ok (.getfield 40, 3) := by decide +kernel
theorem dX6_take_81 : decode cX6_take 81 = .ok (.putfield 40, 3) := by decide +kernel
theorem dX6_take_84 : decode cX6_take 84 = .ok (.aload_n 0, 1) := by decide +kernel
theorem dX6_take_85 : decode cX6_take 85 = .ok (.aload_n 1, 1) := by decide +kernel
theorem dX6_take_86 : decode cX6_take 86 = .ok (.getfield 43, 3) := by decide +kernel
theorem dX6_take_89 : decode cX6_take 89 = .ok (.putfield 43, 3) := by decide +kernel
theorem dX6_take_92 : decode cX6_take 92 = .ok (.aload_n 0, 1) := by decide +kernel
theorem dX6_take_93 : decode cX6_take 93 = .ok (.aload_n 1, 1) := by decide +kernel
theorem dX6_take_94 : decode cX6_take 94 = .ok (.getfield 28, 3) := by decide +kernel
theorem dX6_take_97 : decode cX6_take 97 = .ok (.putfield 28, 3) := by decide +kernel
theorem dX6_take_100 : decode cX6_take 100 = .ok (.aload_n 0, 1) := by decide +kernel
theorem dX6_take_101 : decode cX6_take 101 = .ok (.aload_n 1, 1) := by decide +kernel
theorem dX6_take_102 : decode cX6_take 102 = .ok (.getfield 31, 3) := by decide +kernel
theorem dX6_take_105 : decode cX6_take 105 = .ok (.putfield 31, 3) := by decide +kernel
theorem dX6_take_108 : decode cX6_take 108 = .ok (.aload_n 0, 1) := by decide +kernel
theorem dX6_take_109 : decode cX6_take 109 = .ok (.aload_n 1, 1) := by decide +kernel
theorem dX6_take_110 : decode cX6_take 110 = .ok (.getfield 34, 3) := by decide +kernel
theorem dX6_take_113 : decode cX6_take 113 = .ok (.putfield 34, 3) := by decide +kernel
theorem dX6_take_116 : decode cX6_take 116 = .ok (.aload_n 0, 1) := by decide +kernel
theorem dX6_take_117 : decode cX6_take 117 = .ok (.aload_n 1, 1) := by decide +kernel
theorem dX6_take_118 : decode cX6_take 118 = .ok (.getfield 46, 3) := by decide +kernel
theorem dX6_take_121 : decode cX6_take 121 = .ok (.putfield 46, 3) := by decide +kernel
theorem dX6_take_124 : decode cX6_take 124 = .ok (.return_, 1) := by decide +kernel
theorem dX6_hasTrait_0 : decode cX6_hasTrait 0 = .ok (.aload_n 0, 1) := by decide +kernel
theorem dX6_hasTrait_1 : decode cX6_hasTrait 1 = .ok (.getfield 40, 3) := by decide +kernel
theorem dX6_hasTrait_4 : decode cX6_hasTrait 4 = .ok (.iload_n 1, 1) := by decide +kernel
theorem dX6_hasTrait_5 : decode cX6_hasTrait 5 = .ok (.ishr, 1) := by decide +kernel
theorem dX6_hasTrait_6 : decode cX6_hasTrait 6 = .ok (.iconst 1, 1) := by decide +kernel
theorem dX6_hasTrait_7 : decode cX6_hasTrait 7 = .ok (.iand, 1) := by decide +kernel
theorem dX6_hasTrait_8 : decode cX6_hasTrait 8 = .ok (.ifCond .eq 7, 3) := by decide +kernel
theorem dX6_hasTrait_11 : decode cX6_hasTrait 11 = .ok (.iconst 1, 1) := by decide +kernel
theorem dX6_hasTrait_12 : decode cX6_hasTrait 12 = .ok (.goto 4, 3) := by decide +kernel
theorem dX6_hasTrait_15 : decode cX6_hasTrait 15 = .ok (.iconst 0, 1) := by decide +kernel
theorem dX6_hasTrait_16 : decode cX6_hasTrait 16 = .ok (.ireturn, 1) := by decide +kernel
theorem dX6_change_0 : decode cX6_change 0 = .ok (.iload_n 1, 1) := by decide +kernel
theorem dX6_change_1 : decode cX6_change 1 = .ok (.tableswitch 63 0 2 #[27, 39, 51], 27) := by decide +kernel
theorem dX6_change_28 : decode cX6_change 28 = .ok (.aload_n 0, 1) := by decide +kernel
theorem dX6_change_29 : decode cX6_change 29 = .ok (.getfield 43, 3) := by decide +kernel
theorem dX6_change_32 : decode cX6_change 32 = .ok (.istore_n 3, 1) := by decide +kernel
theorem dX6_change_33 : decode cX6_change 33 = .ok (.aload_n 0, 1) := by decide +kernel
theorem dX6_change_34 : decode cX6_change 34 = .ok (.iload_n 2, 1) := by decide +kernel
theorem dX6_change_35 : decode cX6_change 35 = .ok (.putfield 43, 3) := by decide +kernel
theorem dX6_change_38 : decode cX6_change 38 = .ok (.iload_n 3, 1) := by decide +kernel
theorem dX6_change_39 : decode cX6_change 39 = .ok (.ireturn, 1) := by decide +kernel
theorem dX6_change_40 : decode cX6_change 40 = .ok (.aload_n 0, 1) := by decide +kernel
theorem dX6_change_41 : decode cX6_change 41 = .ok (.getfield 28, 3) := by decide +kernel
theorem dX6_change_44 : decode cX6_change 44 = .ok (.istore_n 3, 1) := by decide +kernel
theorem dX6_change_45 : decode cX6_change 45 = .ok (.aload_n 0, 1) := by decide +kernel
theorem dX6_change_46 : decode cX6_change 46 = .ok (.iload_n 2, 1) := by decide +kernel
theorem dX6_change_47 : decode cX6_change 47 = .ok (.putfield 28, 3) := by decide +kernel
theorem dX6_change_50 : decode cX6_change 50 = .ok (.iload_n 3, 1) := by decide +kernel
theorem dX6_change_51 : decode cX6_change 51 = .ok (.ireturn, 1) := by decide +kernel
theorem dX6_change_52 : decode cX6_change 52 = .ok (.aload_n 0, 1) := by decide +kernel
theorem dX6_change_53 : decode cX6_change 53 = .ok (.getfield 31, 3) := by decide +kernel
theorem dX6_change_56 : decode cX6_change 56 = .ok (.istore_n 3, 1) := by decide +kernel
theorem dX6_change_57 : decode cX6_change 57 = .ok (.aload_n 0, 1) := by decide +kernel
theorem dX6_change_58 : decode cX6_change 58 = .ok (.iload_n 2, 1) := by decide +kernel
theorem dX6_change_59 : decode cX6_change 59 = .ok (.putfield 31, 3) := by decide +kernel
theorem dX6_change_62 : decode cX6_change 62 = .ok (.iload_n 3, 1) := by decide +kernel
theorem dX6_change_63 : decode cX6_change 63 = .ok (.ireturn, 1) := by decide +kernel
theorem dX6_change_64 : decode cX6_change 64 = .ok (.aload_n 0, 1) := by decide +kernel
theorem dX6_change_65 : decode cX6_change 65 = .ok (.getfield 34, 3) := by decide +kernel
theorem dX6_change_68 : decode cX6_change 68 = .ok (.istore_n 3, 1) := by decide +kernel
theorem dX6_change_69 : decode cX6_change 69 = .ok (.aload_n 0, 1) := by decide +kernel
theorem dX6_change_70 : decode cX6_change 70 = .ok (.iload_n 2, 1) := by decide +kernel
theorem dX6_change_71 : decode cX6_change 71 = .ok (.putfield 34, 3) := by decide +kernel
theorem dX6_change_74 : decode cX6_change 74 = .ok (.iload_n 3, 1) := by decide +kernel
theorem dX6_change_75 : decode cX6_change 75 = .ok (.ireturn, 1) := by decide +kernel
theorem dX6_leaveOut_0 : decode cX6_leaveOut 0 = .ok (.iload_n 1, 1) := by decide +kernel
theorem dX6_leaveOut_1 : decode cX6_leaveOut 1 = .ok (.istore_n 2, 1) := by decide +kernel
theorem dX6_leaveOut_2 : decode cX6_leaveOut 2 = .ok (.iload_n 2, 1) := by decide +kernel
theorem dX6_leaveOut_3 : decode cX6_leaveOut 3 = .ok (.iconst 1, 1) := by decide +kernel
theorem dX6_leaveOut_4 : decode cX6_leaveOut 4 = .ok (.iadd, 1) := by decide +kernel
theorem dX6_leaveOut_5 : decode cX6_leaveOut 5 = .ok (.aload_n 0, 1) := by decide +kernel
theorem dX6_leaveOut_6 : decode cX6_leaveOut 6 = .ok (.getfield 37, 3) := by decide +kernel
theorem dX6_leaveOut_9 : decode cX6_leaveOut 9 = .ok (.if_icmp .ge 65, 3) := by decide +kernel
theorem dX6_leaveOut_12 : decode cX6_leaveOut 12 = .ok (.aload_n 0, 1) := by decide +kernel
theorem dX6_leaveOut_13 : decode cX6_leaveOut 13 = .ok (.getfield 15, 3) := by decide +kernel
theorem dX6_leaveOut_16 : decode cX6_leaveOut 16 = .ok (.iload_n 2, 1) := by decide +kernel
theorem dX6_leaveOut_17 : decode cX6_leaveOut 17 = .ok (.aload_n 0, 1) := by decide +kernel
theorem dX6_leaveOut_18 : decode cX6_leaveOut 18 = .ok (.getfield 15, 3) := by decide +kernel
theorem dX6_leaveOut_21 : decode cX6_leaveOut 21 = .ok (.iload_n 2, 1) := by decide +kernel
theorem dX6_leaveOut_22 : decode cX6_leaveOut 22 = .ok (.iconst 1, 1) := by decide +kernel
theorem dX6_leaveOut_23 : decode cX6_leaveOut 23 = .ok (.iadd, 1) := by decide +kernel
theorem dX6_leaveOut_24 : decode cX6_leaveOut 24 = .ok (.iaload, 1) := by decide +kernel
theorem dX6_leaveOut_25 : decode cX6_leaveOut 25 = .ok (.iastore, 1) := by decide +kernel
theorem dX6_leaveOut_26 : decode cX6_leaveOut 26 = .ok (.aload_n 0, 1) := by decide +kernel
theorem dX6_leaveOut_27 : decode cX6_leaveOut 27 = .ok (.getfield 19, 3) := by decide +kernel
theorem dX6_leaveOut_30 : decode cX6_leaveOut 30 = .ok (.iload_n 2, 1) := by decide +kernel
theorem dX6_leaveOut_31 : decode cX6_leaveOut 31 = .ok (.aload_n 0, 1) := by decide +kernel
theorem dX6_leaveOut_32 : decode cX6_leaveOut 32 = .ok (.getfield 19, 3) := by decide +kernel
theorem dX6_leaveOut_35 : decode cX6_leaveOut 35 = .ok (.iload_n 2, 1) := by decide +kernel
theorem dX6_leaveOut_36 : decode cX6_leaveOut 36 = .ok (.iconst 1, 1) := by decide +kernel
theorem dX6_leaveOut_37 : decode cX6_leaveOut 37 = .ok (.iadd, 1) := by decide +kernel
theorem dX6_leaveOut_38 : decode cX6_leaveOut 38 = .ok (.iaload, 1) := by decide +kernel
theorem dX6_leaveOut_39 : decode cX6_leaveOut 39 = .ok (.iastore, 1) := by decide +kernel
theorem dX6_leaveOut_40 : decode cX6_leaveOut 40 = .ok (.aload_n 0, 1) := by decide +kernel
theorem dX6_leaveOut_41 : decode cX6_leaveOut 41 = .ok (.getfield 22, 3) := by decide +kernel
theorem dX6_leaveOut_44 : decode cX6_leaveOut 44 = .ok (.iload_n 2, 1) := by decide +kernel
theorem dX6_leaveOut_45 : decode cX6_leaveOut 45 = .ok (.aload_n 0, 1) := by decide +kernel
theorem dX6_leaveOut_46 : decode cX6_leaveOut 46 = .ok (.getfield 22, 3) := by decide +kernel
theorem dX6_leaveOut_49 : decode cX6_leaveOut 49 = .ok (.iload_n 2, 1) := by decide +kernel
theorem dX6_leaveOut_50 : decode cX6_leaveOut 50 = .ok (.iconst 1, 1) := by decide +kernel
theorem dX6_leaveOut_51 : decode cX6_leaveOut 51 = .ok (.iadd, 1) := by decide +kernel
theorem dX6_leaveOut_52 : decode cX6_leaveOut 52 = .ok (.iaload, 1) := by decide +kernel
theorem dX6_leaveOut_53 : decode cX6_leaveOut 53 = .ok (.iastore, 1) := by decide +kernel
theorem dX6_leaveOut_54 : decode cX6_leaveOut 54 = .ok (.aload_n 0, 1) := by decide +kernel
theorem dX6_leaveOut_55 : decode cX6_leaveOut 55 = .ok (.getfield 25, 3) := by decide +kernel
theorem dX6_leaveOut_58 : decode cX6_leaveOut 58 = .ok (.iload_n 2, 1) := by decide +kernel
theorem dX6_leaveOut_59 : decode cX6_leaveOut 59 = .ok (.aload_n 0, 1) := by decide +kernel
theorem dX6_leaveOut_60 : decode cX6_leaveOut 60 = .ok (.getfield 25, 3) := by decide +kernel
theorem dX6_leaveOut_63 : decode cX6_leaveOut 63 = .ok (.iload_n 2, 1) := by decide +kernel
theorem dX6_leaveOut_64 : decode cX6_leaveOut 64 = .ok (.iconst 1, 1) := by decide +kernel
theorem dX6_leaveOut_65 : decode cX6_leaveOut 65 = .ok (.iadd, 1) := by decide +kernel
theorem dX6_leaveOut_66 : decode cX6_leaveOut 66 = .ok (.iaload, 1) := by decide +kernel
theorem dX6_leaveOut_67 : decode cX6_leaveOut 67 = .ok (.iastore, 1) := by decide +kernel
theorem dX6_leaveOut_68 : decode cX6_leaveOut 68 = .ok (.iinc 2 1, 3) := by decide +kernel
theorem dX6_leaveOut_71 : decode cX6_leaveOut 71 = .ok (.goto (-69), 3) := by decide +kernel
theorem dX6_leaveOut_74 : decode cX6_leaveOut 74 = .ok (.aload_n 0, 1) := by decide +kernel
theorem dX6_leaveOut_75 : decode cX6_leaveOut 75 = .ok (.dup, 1) := by decide +kernel
theorem dX6_leaveOut_76 : decode cX6_leaveOut 76 = .ok (.getfield 37, 3) := by decide +kernel
theorem dX6_leaveOut_79 : decode cX6_leaveOut 79 = .ok (.iconst 1, 1) := by decide +kernel
theorem dX6_leaveOut_80 : decode cX6_leaveOut 80 = .ok (.isub, 1) := by decide +kernel
theorem dX6_leaveOut_81 : decode cX6_leaveOut 81 = .ok (.putfield 37, 3) := by decide +kernel
theorem dX6_leaveOut_84 : decode cX6_leaveOut 84 = .ok (.return_, 1) := by decide +kernel
theorem dX6_lanesNeeded_0 : decode cX6_lanesNeeded 0 = .ok (.iconst 1, 1) := by decide +kernel
theorem dX6_lanesNeeded_1 : decode cX6_lanesNeeded 1 = .ok (.istore_n 1, 1) := by decide +kernel
theorem dX6_lanesNeeded_2 : decode cX6_lanesNeeded 2 = .ok (.iconst 0, 1) := by decide +kernel
theorem dX6_lanesNeeded_3 : decode cX6_lanesNeeded 3 = .ok (.istore_n 2, 1) := by decide +kernel
theorem dX6_lanesNeeded_4 : decode cX6_lanesNeeded 4 = .ok (.iload_n 2, 1) := by decide +kernel
theorem dX6_lanesNeeded_5 : decode cX6_lanesNeeded 5 = .ok (.aload_n 0, 1) := by decide +kernel
theorem dX6_lanesNeeded_6 : decode cX6_lanesNeeded 6 = .ok (.getfield 37, 3) := by decide +kernel
theorem dX6_lanesNeeded_9 : decode cX6_lanesNeeded 9 = .ok (.if_icmp .ge 22, 3) := by decide +kernel
theorem dX6_lanesNeeded_12 : decode cX6_lanesNeeded 12 = .ok (.iload_n 1, 1) := by decide +kernel
theorem dX6_lanesNeeded_13 : decode cX6_lanesNeeded 13 = .ok (.aload_n 0, 1) := by decide +kernel
theorem dX6_lanesNeeded_14 : decode cX6_lanesNeeded 14 = .ok (.getfield 15, 3) := by decide +kernel
theorem dX6_lanesNeeded_17 : decode cX6_lanesNeeded 17 = .ok (.iload_n 2, 1) := by decide +kernel
theorem dX6_lanesNeeded_18 : decode cX6_lanesNeeded 18 = .ok (.iaload, 1) := by decide +kernel
theorem dX6_lanesNeeded_19 : decode cX6_lanesNeeded 19 = .ok (.iconst 1, 1) := by decide +kernel
theorem dX6_lanesNeeded_20 : decode cX6_lanesNeeded 20 = .ok (.iadd, 1) := by decide +kernel
theorem dX6_lanesNeeded_21 : decode cX6_lanesNeeded 21 = .ok (.invokestatic 55, 3) := by decide +kernel
theorem dX6_lanesNeeded_24 : decode cX6_lanesNeeded 24 = .ok (.istore_n 1, 1) := by decide +kernel
theorem dX6_lanesNeeded_25 : decode cX6_lanesNeeded 25 = .ok (.iinc 2 1, 3) := by decide +kernel
theorem dX6_lanesNeeded_28 : decode cX6_lanesNeeded 28 = .ok (.goto (-24), 3) := by decide +kernel
theorem dX6_lanesNeeded_31 : decode cX6_lanesNeeded 31 = .ok (.iload_n 1, 1) := by decide +kernel
theorem dX6_lanesNeeded_32 : decode cX6_lanesNeeded 32 = .ok (.ireturn, 1) := by decide +kernel
theorem dX7_init_0 : decode cX7_init 0 = .ok (.aload_n 0, 1) := by decide +kernel
theorem dX7_init_1 : decode cX7_init 1 = .ok (.invokespecial 3, 3) := by decide +kernel
theorem dX7_init_4 : decode cX7_init 4 = .ok (.aload_n 0, 1) := by decide +kernel
theorem dX7_init_5 : decode cX7_init 5 = .ok (.iconst (-1), 1) := by decide +kernel
theorem dX7_init_6 : decode cX7_init 6 = .ok (.putfield 9, 3) := by decide +kernel
theorem dX7_init_9 : decode cX7_init 9 = .ok (.aload_n 0, 1) := by decide +kernel
theorem dX7_init_10 : decode cX7_init 10 = .ok (.sipush 1000, 3) := by decide +kernel
theorem dX7_init_13 : decode cX7_init 13 = .ok (.newarray .long, 2) := by decide +kernel
theorem dX7_init_15 : decode cX7_init 15 = .ok (.putfield 15, 3) := by decide +kernel
theorem dX7_init_18 : decode cX7_init 18 = .ok (.aload_n 0, 1) := by decide +kernel
theorem dX7_init_19 : decode cX7_init 19 = .ok (.sipush 1000, 3) := by decide +kernel
theorem dX7_init_22 : decode cX7_init 22 = .ok (.newarray .long, 2) := by decide +kernel
theorem dX7_init_24 : decode cX7_init 24 = .ok (.putfield 19, 3) := by decide +kernel
theorem dX7_init_27 : decode cX7_init 27 = .ok (.aload_n 0, 1) := by decide +kernel
theorem dX7_init_28 : decode cX7_init 28 = .ok (.bipush 16, 2) := by decide +kernel
theorem dX7_init_30 : decode cX7_init 30 = .ok (.newarray .int, 2) := by decide +kernel
theorem dX7_init_32 : decode cX7_init 32 = .ok (.putfield 22, 3) := by decide +kernel
theorem dX7_init_35 : decode cX7_init 35 = .ok (.aload_n 0, 1) := by decide +kernel
theorem dX7_init_36 : decode cX7_init 36 = .ok (.bipush 16, 2) := by decide +kernel
theorem dX7_init_38 : decode cX7_init 38 = .ok (.newarray .int, 2) := by decide +kernel
theorem dX7_init_40 : decode cX7_init 40 = .ok (.putfield 26, 3) := by decide +kernel
theorem dX7_init_43 : decode cX7_init 43 = .ok (.aload_n 0, 1) := by decide +kernel
theorem dX7_init_44 : decode cX7_init 44 = .ok (.bipush 16, 2) := by decide +kernel
theorem dX7_init_46 : decode cX7_init 46 = .ok (.newarray .long, 2) := by decide +kernel
theorem dX7_init_48 : decode cX7_init 48 = .ok (.putfield 29, 3) := by decide +kernel
theorem dX7_init_51 : decode cX7_init 51 = .ok (.return_, 1) := by decide +kernel
theorem dX7_shiftOf_0 : decode cX7_shiftOf 0 = .ok (.iconst 4, 1) := by decide +kernel
theorem dX7_shiftOf_1 : decode cX7_shiftOf 1 = .ok (.aload_n 1, 1) := by decide +kernel
theorem dX7_shiftOf_2 : decode cX7_shiftOf 2 = .ok (.getfield 32, 3) := by decide +kernel
theorem dX7_shiftOf_5 : decode cX7_shiftOf 5 = .ok (.iconst 1, 1) := by decide +kernel
theorem dX7_shiftOf_6 : decode cX7_shiftOf 6 = .ok (.isub, 1) := by decide +kernel
theorem dX7_shiftOf_7 : decode cX7_shiftOf 7 = .ok (.iload_n 2, 1) := by decide +kernel
theorem dX7_shiftOf_8 : decode cX7_shiftOf 8 = .ok (.isub, 1) := by decide +kernel
theorem dX7_shiftOf_9 : decode cX7_shiftOf 9 = .ok (.imul, 1) := by decide +kernel
theorem dX7_shiftOf_10 : decode cX7_shiftOf 10 = .ok (.ireturn, 1) := by decide +kernel
theorem dX7_weighUpTo_0 : decode cX7_weighUpTo 0 = .ok (.iload_n 2, 1) := by decide +kernel
theorem dX7_weighUpTo_1 : decode cX7_weighUpTo 1 = .ok (.aload_n 0, 1) := by decide +kernel
theorem dX7_weighUpTo_2 : decode cX7_weighUpTo 2 = .ok (.getfield 9, 3) := by decide +kernel
theorem dX7_weighUpTo_5 : decode cX7_weighUpTo 5 = .ok (.if_icmp .gt 4, 3) := by decide +kernel
theorem dX7_weighUpTo_8 : decode cX7_weighUpTo 8 = .ok (.return_, 1) := by decide +kernel
theorem dX7_weighUpTo_9 : decode cX7_weighUpTo 9 = .ok (.aload_n 0, 1) := by decide +kernel
theorem dX7_weighUpTo_10 : decode cX7_weighUpTo 10 = .ok (.getfield 15, 3) := by decide +kernel
theorem dX7_weighUpTo_13 : decode cX7_weighUpTo 13 = .ok (.lconst 0, 1) := by decide +kernel
theorem dX7_weighUpTo_14 : decode cX7_weighUpTo 14 = .ok (.invokestatic 37, 3) := by decide +kernel
theorem dX7_weighUpTo_17 : decode cX7_weighUpTo 17 = .ok (.aload_n 0, 1) := by decide +kernel
theorem dX7_weighUpTo_18 : decode cX7_weighUpTo 18 = .ok (.getfield 19, 3) := by decide +kernel
theorem dX7_weighUpTo_21 : decode cX7_weighUpTo 21 = .ok (.lconst 0, 1) := by decide +kernel
theorem dX7_weighUpTo_22 : decode cX7_weighUpTo 22 = .ok (.invokestatic 37, 3) := by decide +kernel
theorem dX7_weighUpTo_25 : decode cX7_weighUpTo 25 = .ok (.aload_n 1, 1) := by decide +kernel
theorem dX7_weighUpTo_26 : decode cX7_weighUpTo 26 = .ok (.getfield 32, 3) := by decide +kernel
theorem dX7_weighUpTo_29 : decode cX7_weighUpTo 29 = .ok (.iconst 1, 1) := by decide +kernel
theorem dX7_weighUpTo_30 : decode cX7_weighUpTo 30 = .ok (.isub, 1) := by decide +kernel
theorem dX7_weighUpTo_31 : decode cX7_weighUpTo 31 = .ok (.istore_n 3, 1) := by decide +kernel
theorem dX7_weighUpTo_32 : decode cX7_weighUpTo 32 = .ok (.iload_n 3, 1) := by decide +kernel
theorem dX7_weighUpTo_33 : decode cX7_weighUpTo 33 = .ok (.ifCond .lt 41, 3) := by decide +kernel
theorem dX7_weighUpTo_36 : decode cX7_weighUpTo 36 = .ok (.aload_n 0, 1) := by decide +kernel
theorem dX7_weighUpTo_37 : decode cX7_weighUpTo 37 = .ok (.aload_n 1, 1) := by decide +kernel
theorem dX7_weighUpTo_38 : decode cX7_weighUpTo 38 = .ok (.iload_n 3, 1) := by decide +kernel
theorem dX7_weighUpTo_39 : decode cX7_weighUpTo 39 = .ok (.invokevirtual 43, 3) := by decide +kernel
theorem dX7_weighUpTo_42 : decode cX7_weighUpTo 42 = .ok (.iload_n 2, 1) := by decide +kernel
theorem dX7_weighUpTo_43 : decode cX7_weighUpTo 43 = .ok (.istore 4, 2) := by decide +kernel
theorem dX7_weighUpTo_45 : decode cX7_weighUpTo 45 = .ok (.iload 4, 2) := by decide +kernel
theorem dX7_weighUpTo_47 : decode cX7_weighUpTo 47 = .ok (.ifCond .lt 21, 3) := by decide +kernel
theorem dX7_weighUpTo_50 : decode cX7_weighUpTo 50 = .ok (.aload_n 0, 1) := by decide +kernel
theorem dX7_weighUpTo_51 : decode cX7_weighUpTo 51 = .ok (.iload 4, 2) := by decide +kernel
theorem dX7_weighUpTo_53 : decode cX7_weighUpTo 53 = .ok (.aload_n 0, 1) := by decide +kernel
theorem dX7_weighUpTo_54 : decode cX7_weighUpTo 54 = .ok (.aload_n 1, 1) := by decide +kernel
theorem dX7_weighUpTo_55 : decode cX7_weighUpTo 55 = .ok (.iload_n 3, 1) := by decide +kernel
theorem dX7_weighUpTo_56 : decode cX7_weighUpTo 56 = .ok (.invokevirtual 47, 3) := by decide +kernel
theorem dX7_weighUpTo_59 : decode cX7_weighUpTo 59 = .ok (.invokevirtual 51, 3) := by decide +kernel
theorem dX7_weighUpTo_62 : decode cX7_weighUpTo 62 = .ok (.iinc 4 (-1), 3) := by decide +kernel
theorem dX7_weighUpTo_65 : decode cX7_weighUpTo 65 = .ok (.goto (-20), 3) := by decide +kernel
theorem dX7_weighUpTo_68 : decode cX7_weighUpTo 68 = .ok (.iinc 3 (-1), 3) := by decide +kernel
theorem dX7_weighUpTo_71 : decode cX7_weighUpTo 71 = .ok (.goto (-39), 3) := by decide +kernel
theorem dX7_weighUpTo_74 : decode cX7_weighUpTo 74 = .ok (.aload_n 0, 1) := by decide +kernel
theorem dX7_weighUpTo_75 : decode cX7_weighUpTo 75 = .ok (.iload_n 2, 1) := by decide +kernel
theorem dX7_weighUpTo_76 : decode cX7_weighUpTo 76 = .ok (.putfield 9, 3) := by decide +kernel
theorem dX7_weighUpTo_79 : decode cX7_weighUpTo 79 = .ok (.return_, 1) := by decide +kernel
theorem dX7_choose_0 : decode cX7_choose 0 = .ok (.aload_n 0, 1) := by decide +kernel
theorem dX7_choose_1 : decode cX7_choose 1 = .ok (.getfield 29, 3) := by decide +kernel
theorem dX7_choose_4 : decode cX7_choose 4 = .ok (.iconst 0, 1) := by decide +kernel
theorem dX7_choose_5 : decode cX7_choose 5 = .ok (.laload, 1) := by decide +kernel
theorem dX7_choose_6 : decode cX7_choose 6 = .ok (.aload_n 0, 1) := by decide +kernel
theorem dX7_choose_7 : decode cX7_choose 7 = .ok (.getfield 15, 3) := by decide +kernel
theorem dX7_choose_10 : decode cX7_choose 10 = .ok (.iload_n 1, 1) := by decide +kernel
theorem dX7_choose_11 : decode cX7_choose 11 = .ok (.laload, 1) := by decide +kernel
theorem dX7_choose_12 : decode cX7_choose 12 = .ok (.ladd, 1) := by decide +kernel
theorem dX7_choose_13 : decode cX7_choose 13 = .ok (.lstore_n 3, 1) := by decide +kernel
theorem dX7_choose_14 : decode cX7_choose 14 = .ok (.aload_n 0, 1) := by decide +kernel
theorem dX7_choose_15 : decode cX7_choose 15 = .ok (.getfield 19, 3) := by decide +kernel
theorem dX7_choose_18 : decode cX7_choose 18 = .ok (.iload_n 1, 1) := by decide +kernel
theorem dX7_choose_19 : decode cX7_choose 19 = .ok (.laload, 1) := by decide +kernel
theorem dX7_choose_20 : decode cX7_choose 20 = .ok (.lstore 5, 2) := by decide +kernel
theorem dX7_choose_22 : decode cX7_choose 22 = .ok (.iconst 1, 1) := by decide +kernel
theorem dX7_choose_23 : decode cX7_choose 23 = .ok (.istore 7, 2) := by decide +kernel
theorem dX7_choose_25 : decode cX7_choose 25 = .ok (.iload 7, 2) := by decide +kernel
theorem dX7_choose_27 : decode cX7_choose 27 = .ok (.aload_n 0, 1) := by decide +kernel
theorem dX7_choose_28 : decode cX7_choose 28 = .ok (.getfield 55, 3) := by decide +kernel
theorem dX7_choose_31 : decode cX7_choose 31 = .ok (.if_icmp .ge 85, 3) := by decide +kernel
theorem dX7_choose_34 : decode cX7_choose 34 = .ok (.aload_n 0, 1) := by decide +kernel
theorem dX7_choose_35 : decode cX7_choose 35 = .ok (.getfield 22, 3) := by decide +kernel
theorem dX7_choose_38 : decode cX7_choose 38 = .ok (.iload 7, 2) := by decide +kernel
theorem dX7_choose_40 : decode cX7_choose 40 = .ok (.iaload, 1) := by decide +kernel
theorem dX7_choose_41 : decode cX7_choose 41 = .ok (.istore 8, 2) := by decide +kernel
theorem dX7_choose_43 : decode cX7_choose 43 = .ok (.iload_n 1, 1) := by decide +kernel
theorem dX7_choose_44 : decode cX7_choose 44 = .ok (.aload_n 0, 1) := by decide +kernel
theorem dX7_choose_45 : decode cX7_choose 45 = .ok (.getfield 26, 3) := by decide +kernel
theorem dX7_choose_48 : decode cX7_choose 48 = .ok (.iload 8, 2) := by decide +kernel
theorem dX7_choose_50 : decode cX7_choose 50 = .ok (.iaload, 1) := by decide +kernel
theorem dX7_choose_51 : decode cX7_choose 51 = .ok (.isub, 1) := by decide +kernel
theorem dX7_choose_52 : decode cX7_choose 52 = .ok (.istore 9, 2) := by decide +kernel
theorem dX7_choose_54 : decode cX7_choose 54 = .ok (.iload 9, 2) := by decide +kernel
theorem dX7_choose_56 : decode cX7_choose 56 = .ok (.ifCond .lt 54, 3) := by decide +kernel
theorem dX7_choose_59 : decode cX7_choose 59 = .ok (.aload_n 0, 1) := by decide +kernel
theorem dX7_choose_60 : decode cX7_choose 60 = .ok (.getfield 29, 3) := by decide +kernel
theorem dX7_choose_63 : decode cX7_choose 63 = .ok (.iload 8, 2) := by decide +kernel
theorem dX7_choose_65 : decode cX7_choose 65 = .ok (.laload, 1) := by decide +kernel
theorem dX7_choose_66 : decode cX7_choose 66 = .ok (.aload_n 0, 1) := by decide +kernel
theorem dX7_choose_67 : decode cX7_choose 67 = .ok (.getfield 15, 3) := by decide +kernel
theorem dX7_choose_70 : decode cX7_choose 70 = .ok (.iload 9, 2) := by decide +kernel
theorem dX7_choose_72 : decode cX7_choose 72 = .ok (.laload, 1) := by decide +kernel
theorem dX7_choose_73 : decode cX7_choose 73 = .ok (.ladd, 1) := by decide +kernel
theorem dX7_choose_74 : decode cX7_choose 74 = .ok (.lload_n 3, 1) := by decide +kernel
theorem dX7_choose_75 : decode cX7_choose 75 = .ok (.lcmp, 1) := by decide +kernel
theorem dX7_choose_76 : decode cX7_choose 76 = .ok (.ifCond .ge 34, 3) := by decide +kernel
theorem dX7_choose_79 : decode cX7_choose 79 = .ok (.aload_n 0, 1) := by decide +kernel
theorem dX7_choose_80 : decode cX7_choose 80 = .ok (.getfield 29, 3) := by decide +kernel
theorem dX7_choose_83 : decode cX7_choose 83 = .ok (.iload 8, 2) := by decide +kernel
theorem dX7_choose_85 : decode cX7_choose 85 = .ok (.laload, 1) := by decide +kernel
theorem dX7_choose_86 : decode cX7_choose 86 = .ok (.aload_n 0, 1) := by decide +kernel
theorem dX7_choose_87 : decode cX7_choose 87 = .ok (.getfield 15, 3) := by decide +kernel
theorem dX7_choose_90 : decode cX7_choose 90 = .ok (.iload 9, 2) := by decide +kernel
theorem dX7_choose_92 : decode cX7_choose 92 = .ok (.laload, 1) := by decide +kernel
theorem dX7_choose_93 : decode cX7_choose 93 = .ok (.ladd, 1) := by decide +kernel
theorem dX7_choose_94 : decode cX7_choose 94 = .ok (.lstore_n 3, 1) := by decide +kernel
theorem dX7_choose_95 : decode cX7_choose 95 = .ok (.iload 8, 2) := by decide +kernel
theorem dX7_choose_97 : decode cX7_choose 97 = .ok (.i2l, 1) := by decide +kernel
theorem dX7_choose_98 : decode cX7_choose 98 = .ok (.iload_n 2, 1) := by decide +kernel
theorem dX7_choose_99 : decode cX7_choose 99 = .ok (.lshl, 1) := by decide +kernel
theorem dX7_choose_100 : decode cX7_choose 100 = .ok (.aload_n 0, 1) := by decide +kernel
theorem dX7_choose_101 : decode cX7_choose 101 = .ok (.getfield 19, 3) := by decide +kernel
theorem dX7_choose_104 : decode cX7_choose 104 = .ok (.iload 9, 2) := by decide +kernel
theorem dX7_choose_106 : decode cX7_choose 106 = .ok (.laload, 1) := by decide +kernel
theorem dX7_choose_107 : decode cX7_choose 107 = .ok (.lor, 1) := by decide +kernel
theorem dX7_choose_108 : decode cX7_choose 108 = .ok (.lstore 5, 2) := by decide +kernel
theorem dX7_choose_110 : decode cX7_choose 110 = .ok (.iinc 7 1, 3) := by decide +kernel
theorem dX7_choose_113 : decode cX7_choose 113 = .ok (.goto (-88), 3) := by decide +kernel
theorem dX7_choose_116 : decode cX7_choose 116 = .ok (.aload_n 0, 1) := by decide +kernel
theorem dX7_choose_117 : decode cX7_choose 117 = .ok (.getfield 15, 3) := by decide +kernel
theorem dX7_choose_120 : decode cX7_choose 120 = .ok (.iload_n 1, 1) := by decide +kernel
theorem dX7_choose_121 : decode cX7_choose 121 = .ok (.lload_n 3, 1) := by decide +kernel
theorem dX7_choose_122 : decode cX7_choose 122 = .ok (.lastore, 1) := by decide +kernel
theorem dX7_choose_123 : decode cX7_choose 123 = .ok (.aload_n 0, 1) := by decide +kernel
theorem dX7_choose_124 : decode cX7_choose 124 = .ok (.getfield 19, 3) := by decide +kernel
theorem dX7_choose_127 : decode cX7_choose 127 = .ok (.iload_n 1, 1) := by decide +kernel
theorem dX7_choose_128 : decode cX7_choose 128 = .ok (.lload 5, 2) := by decide +kernel
theorem dX7_choose_130 : decode cX7_choose 130 = .ok (.lastore, 1) := by decide +kernel
theorem dX7_choose_131 : decode cX7_choose 131 = .ok (.return_, 1) := by decide +kernel
theorem dX7_findWorth_0 : decode cX7_findWorth 0 = .ok (.iconst 0, 1) := by decide +kernel
theorem dX7_findWorth_1 : decode cX7_findWorth 1 = .ok (.istore_n 3, 1) := by decide +kernel
theorem dX7_findWorth_2 : decode cX7_findWorth 2 = .ok (.iload_n 3, 1) := by decide +kernel
theorem dX7_findWorth_3 : decode cX7_findWorth 3 = .ok (.bipush 16, 2) := by decide +kernel
theorem dX7_findWorth_5 : decode cX7_findWorth 5 = .ok (.if_icmp .ge 45, 3) := by decide +kernel
theorem dX7_findWorth_8 : decode cX7_findWorth 8 = .ok (.aload_n 0, 1) := by decide +kernel
theorem dX7_findWorth_9 : decode cX7_findWorth 9 = .ok (.getfield 26, 3) := by decide +kernel
theorem dX7_findWorth_12 : decode cX7_findWorth 12 = .ok (.iload_n 3, 1) := by decide +kernel
theorem dX7_findWorth_13 : decode cX7_findWorth 13 = .ok (.aload_n 1, 1) := by decide +kernel
theorem dX7_findWorth_14 : decode cX7_findWorth 14 = .ok (.iload_n 3, 1) := by decide +kernel
theorem dX7_findWorth_15 : decode cX7_findWorth 15 = .ok (.invokevirtual 58, 3) := by decide +kernel
theorem dX7_findWorth_18 : decode cX7_findWorth 18 = .ok (.iastore, 1) := by decide +kernel
theorem dX7_findWorth_19 : decode cX7_findWorth 19 = .ok (.aload_n 0, 1) := by decide +kernel
theorem dX7_findWorth_20 : decode cX7_findWorth 20 = .ok (.getfield 29, 3) := by decide +kernel
theorem dX7_findWorth_23 : decode cX7_findWorth 23 = .ok (.iload_n 3, 1) := by decide +kernel
theorem dX7_findWorth_24 : decode cX7_findWorth 24 = .ok (.aload_n 1, 1) := by decide +kernel
theorem dX7_findWorth_25 : decode cX7_findWorth 25 = .ok (.iload_n 2, 1) := by decide +kernel
theorem dX7_findWorth_26 : decode cX7_findWorth 26 = .ok (.iload_n 3, 1) := by decide +kernel
theorem dX7_findWorth_27 : decode cX7_findWorth 27 = .ok (.invokevirtual 62, 3) := by decide +kernel
theorem dX7_findWorth_30 : decode cX7_findWorth 30 = .ok (.i2l, 1) := by decide +kernel
theorem dX7_findWorth_31 : decode cX7_findWorth 31 = .ok (.ldc2_w 66, 3) := by decide +kernel
theorem dX7_findWorth_34 : decode cX7_findWorth 34 = .ok (.lmul, 1) := by decide +kernel
theorem dX7_findWorth_35 : decode cX7_findWorth 35 = .ok (.aload_n 0, 1) := by decide +kernel
theorem dX7_findWorth_36 : decode cX7_findWorth 36 = .ok (.getfield 26, 3) := by decide +kernel
theorem dX7_findWorth_39 : decode cX7_findWorth 39 = .ok (.iload_n 3, 1) := by decide +kernel
theorem dX7_findWorth_40 : decode cX7_findWorth 40 = .ok (.iaload, 1) := by decide +kernel
theorem dX7_findWorth_41 : decode cX7_findWorth 41 = .ok (.i2l, 1) := by decide +kernel
theorem dX7_findWorth_42 : decode cX7_findWorth 42 = .ok (.ladd, 1) := by decide +kernel
theorem dX7_findWorth_43 : decode cX7_findWorth 43 = .ok (.lastore, 1) := by decide +kernel
theorem dX7_findWorth_44 : decode cX7_findWorth 44 = .ok (.iinc 3 1, 3) := by decide +kernel
theorem dX7_findWorth_47 : decode cX7_findWorth 47 = .ok (.goto (-45), 3) := by decide +kernel
theorem dX7_findWorth_50 : decode cX7_findWorth 50 = .ok (.aload_n 0, 1) := by decide +kernel
theorem dX7_findWorth_51 : decode cX7_findWorth 51 = .ok (.iconst 0, 1) := by decide +kernel
theorem dX7_findWorth_52 : decode cX7_findWorth 52 = .ok (.putfield 55, 3) := by decide +kernel
theorem dX7_findWorth_55 : decode cX7_findWorth 55 = .ok (.iconst 0, 1) := by decide +kernel
theorem dX7_findWorth_56 : decode cX7_findWorth 56 = .ok (.istore_n 3, 1) := by decide +kernel
theorem dX7_findWorth_57 : decode cX7_findWorth 57 = .ok (.iload_n 3, 1) := by decide +kernel
theorem dX7_findWorth_58 : decode cX7_findWorth 58 = .ok (.bipush 16, 2) := by decide +kernel
theorem dX7_findWorth_60 : decode cX7_findWorth 60 = .ok (.if_icmp .ge 37, 3) := by decide +kernel
theorem dX7_findWorth_63 : decode cX7_findWorth 63 = .ok (.aload_n 0, 1) := by decide +kernel
theorem dX7_findWorth_64 : decode cX7_findWorth 64 = .ok (.iload_n 3, 1) := by decide +kernel
theorem dX7_findWorth_65 : decode cX7_findWorth 65 = .ok (.invokevirtual 68, 3) := by decide +kernel
theorem dX7_findWorth_68 : decode cX7_findWorth 68 = .ok (.ifCond .ne 23, 3) := by decide +kernel
theorem dX7_findWorth_71 : decode cX7_findWorth 71 = .ok (.aload_n 0, 1) := by decide +kernel
theorem dX7_findWorth_72 : decode cX7_findWorth 72 = .ok (.getfield 22, 3) := by decide +kernel
theorem dX7_findWorth_75 : decode cX7_findWorth 75 = .ok (.aload_n 0, 1) := by decide +kernel
theorem dX7_findWorth_76 : decode cX7_findWorth 76 = .ok (.getfield 55, 3) := by decide +kernel
theorem dX7_findWorth_79 : decode cX7_findWorth 79 = .ok (.iload_n 3, 1) := by decide +kernel
theorem dX7_findWorth_80 : decode cX7_findWorth 80 = .ok (.iastore, 1) := by decide +kernel
theorem dX7_findWorth_81 : decode cX7_findWorth 81 = .ok (.aload_n 0, 1) := by decide +kernel
theorem dX7_findWorth_82 : decode cX7_findWorth 82 = .ok (.dup, 1) := by decide +kernel
theorem dX7_findWorth_83 : decode cX7_findWorth 83 = .ok (.getfield 55, 3) := by decide +kernel
theorem dX7_findWorth_86 : decode cX7_findWorth 86 = .ok (.iconst 1, 1) := by decide +kernel
theorem dX7_findWorth_87 : decode cX7_findWorth 87 = .ok (.iadd, 1) := by decide +kernel
theorem dX7_findWorth_88 : decode cX7_findWorth 88 = .ok (.putfield 55, 3) := by decide +kernel
theorem dX7_findWorth_91 : decode cX7_findWorth 91 = .ok (.iinc 3 1, 3) := by decide +kernel
theorem dX7_findWorth_94 : decode cX7_findWorth 94 = .ok (.goto (-37), 3) := by decide +kernel
theorem dX7_findWorth_97 : decode cX7_findWorth 97 = .ok (.return_, 1) := by decide +kernel
theorem dX7_isBeaten_0 : decode cX7_isBeaten 0 = .ok (.iconst 0, 1) := by decide +kernel
theorem dX7_isBeaten_1 : decode cX7_isBeaten 1 = .ok (.istore_n 2, 1) := by decide +kernel
theorem dX7_isBeaten_2 : decode cX7_isBeaten 2 = .ok (.iload_n 2, 1) := by decide +kernel
theorem dX7_isBeaten_3 : decode cX7_isBeaten 3 = .ok (.bipush 16, 2) := by decide +kernel
theorem dX7_isBeaten_5 : decode cX7_isBeaten 5 = .ok (.if_icmp .ge 73, 3) := by decide +kernel
theorem dX7_isBeaten_8 : decode cX7_isBeaten 8 = .ok (.aload_n 0, 1) := by decide +kernel
theorem dX7_isBeaten_9 : decode cX7_isBeaten 9 = .ok (.getfield 29, 3) := by decide +kernel
theorem dX7_isBeaten_12 : decode cX7_isBeaten 12 = .ok (.iload_n 2, 1) := by decide +kernel
theorem dX7_isBeaten_13 : decode cX7_isBeaten 13 = .ok (.laload, 1) := by decide +kernel
theorem dX7_isBeaten_14 : decode cX7_isBeaten 14 = .ok (.aload_n 0, 1) := by decide +kernel
theorem dX7_isBeaten_15 : decode cX7_isBeaten 15 = .ok (.getfield 29, 3) := by decide +kernel
theorem dX7_isBeaten_18 : decode cX7_isBeaten 18 = .ok (.iload_n 1, 1) := by decide +kernel
theorem dX7_isBeaten_19 : decode cX7_isBeaten 19 = .ok (.laload, 1) := by decide +kernel
theorem dX7_isBeaten_20 : decode cX7_isBeaten 20 = .ok (.lcmp, 1) := by decide +kernel
theorem dX7_isBeaten_21 : decode cX7_isBeaten 21 = .ok (.ifCond .lt 24, 3) := by decide +kernel
theorem dX7_isBeaten_24 : decode cX7_isBeaten 24 = .ok (.aload_n 0, 1) := by decide +kernel
theorem dX7_isBeaten_25 : decode cX7_isBeaten 25 = .ok (.getfield 29, 3) := by decide +kernel
theorem dX7_isBeaten_28 : decode cX7_isBeaten 28 = .ok (.iload_n 2, 1) := by decide +kernel
theorem dX7_isBeaten_29 : decode cX7_isBeaten 29 = .ok (.laload, 1) := by decide +kernel
theorem dX7_isBeaten_30 : decode cX7_isBeaten 30 = .ok (.aload_n 0, 1) := by decide +kernel
theorem dX7_isBeaten_31 : decode cX7_isBeaten 31 = .ok (.getfield 29, 3) := by decide +kernel
theorem dX7_isBeaten_34 : decode cX7_isBeaten 34 = .ok (.iload_n 1, 1) := by decide +kernel
theorem dX7_isBeaten_35 : decode cX7_isBeaten 35 = .ok (.laload, 1) := by decide +kernel
theorem dX7_isBeaten_36 : decode cX7_isBeaten 36 = .ok (.lcmp, 1) := by decide +kernel
theorem dX7_isBeaten_37 : decode cX7_isBeaten 37 = .ok (.ifCond .ne 12, 3) := by decide +kernel
theorem dX7_isBeaten_40 : decode cX7_isBeaten 40 = .ok (.iload_n 2, 1) := by decide +kernel
theorem dX7_isBeaten_41 : decode cX7_isBeaten 41 = .ok (.iload_n 1, 1) := by decide +kernel
theorem dX7_isBeaten_42 : decode cX7_isBeaten 42 = .ok (.if_icmp .ge 7, 3) := by decide +kernel
theorem dX7_isBeaten_45 : decode cX7_isBeaten 45 = .ok (.iconst 1, 1) := by decide +kernel
theorem dX7_isBeaten_46 : decode cX7_isBeaten 46 = .ok (.goto 4, 3) := by decide +kernel
theorem dX7_isBeaten_49 : decode cX7_isBeaten 49 = .ok (.iconst 0, 1) := by decide +kernel
theorem dX7_isBeaten_50 : decode cX7_isBeaten 50 = .ok (.istore_n 3, 1) := by decide +kernel
theorem dX7_isBeaten_51 : decode cX7_isBeaten 51 = .ok (.iload_n 3, 1) := by decide +kernel
theorem dX7_isBeaten_52 : decode cX7_isBeaten 52 = .ok (.ifCond .eq 20, 3) := by decide +kernel
theorem dX7_isBeaten_55 : decode cX7_isBeaten 55 = .ok (.aload_n 0, 1) := by decide +kernel
theorem dX7_isBeaten_56 : decode cX7_isBeaten 56 = .ok (.getfield 26, 3) := by decide +kernel
theorem dX7_isBeaten_59 : decode cX7_isBeaten 59 = .ok (.iload_n 2, 1) := by decide +kernel
theorem dX7_isBeaten_60 : decode cX7_isBeaten 60 = .ok (.iaload, 1) := by decide +kernel
theorem dX7_isBeaten_61 : decode cX7_isBeaten 61 = .ok (.aload_n 0, 1) := by decide +kernel
theorem dX7_isBeaten_62 : decode cX7_isBeaten 62 = .ok (.getfield 26, 3) := by decide +kernel
theorem dX7_isBeaten_65 : decode cX7_isBeaten 65 = .ok (.iload_n 1, 1) := by decide +kernel
theorem dX7_isBeaten_66 : decode cX7_isBeaten 66 = .ok (.iaload, 1) := by decide +kernel
theorem dX7_isBeaten_67 : decode cX7_isBeaten 67 = .ok (.if_icmp .gt 5, 3) := by decide +kernel
theorem dX7_isBeaten_70 : decode cX7_isBeaten 70 = .ok (.iconst 1, 1) := by decide +kernel
theorem dX7_isBeaten_71 : decode cX7_isBeaten 71 = .ok (.ireturn, 1) := by decide +kernel
theorem dX7_isBeaten_72 : decode cX7_isBeaten 72 = .ok (.iinc 2 1, 3) := by decide +kernel
theorem dX7_isBeaten_75 : decode cX7_isBeaten 75 = .ok (.goto (-73), 3) := by decide +kernel
theorem dX7_isBeaten_78 : decode cX7_isBeaten 78 = .ok (.iconst 0, 1) := by decide +kernel
theorem dX7_isBeaten_79 : decode cX7_isBeaten 79 = .ok (.ireturn, 1) := by decide +kernel
theorem dX8_init_0 : decode cX8_init 0 = .ok (.aload_n 0, 1) := by decide +kernel
theorem dX8_init_1 : decode cX8_init 1 = .ok (.invokespecial 1, 3) := by decide +kernel
theorem dX8_init_4 : decode cX8_init 4 = .ok (.aload_n 0, 1) := by decide +kernel
theorem dX8_init_5 : decode cX8_init 5 = .ok (.new 7, 3) := by decide +kernel
theorem dX8_init_8 : decode cX8_init 8 = .ok (.dup, 1) := by decide +kernel
theorem dX8_init_9 : decode cX8_init 9 = .ok (.invokespecial 9, 3) := by decide +kernel
theorem dX8_init_12 : decode cX8_init 12 = .ok (.putfield 10, 3) := by decide +kernel
theorem dX8_init_15 : decode cX8_init 15 = .ok (.aload_n 0, 1) := by decide +kernel
theorem dX8_init_16 : decode cX8_init 16 = .ok (.new 16, 3) := by decide +kernel
theorem dX8_init_19 : decode cX8_init 19 = .ok (.dup, 1) := by decide +kernel
theorem dX8_init_20 : decode cX8_init 20 = .ok (.invokespecial 18, 3) := by decide +kernel
theorem dX8_init_23 : decode cX8_init 23 = .ok (.putfield 19, 3) := by decide +kernel
theorem dX8_init_26 : decode cX8_init 26 = .ok (.aload_n 0, 1) := by decide +kernel
theorem dX8_init_27 : decode cX8_init 27 = .ok (.new 23, 3) := by decide +kernel
theorem dX8_init_30 : decode cX8_init 30 = .ok (.dup, 1) := by decide +kernel
theorem dX8_init_31 : decode cX8_init 31 = .ok (.invokespecial 25, 3) := by decide +kernel
theorem dX8_init_34 : decode cX8_init 34 = .ok (.putfield 26, 3) := by decide +kernel
theorem dX8_init_37 : decode cX8_init 37 = .ok (.aload_n 0, 1) := by decide +kernel
theorem dX8_init_38 : decode cX8_init 38 = .ok (.bipush 20, 2) := by decide +kernel
theorem dX8_init_40 : decode cX8_init 40 = .ok (.newarray .int, 2) := by decide +kernel
theorem dX8_init_42 : decode cX8_init 42 = .ok (.putfield 30, 3) := by decide +kernel
theorem dX8_init_45 : decode cX8_init 45 = .ok (.return_, 1) := by decide +kernel
theorem dX8_payIndex_0 : decode cX8_payIndex 0 = .ok (.iload_n 0, 1) := by decide +kernel
theorem dX8_payIndex_1 : decode cX8_payIndex 1 = .ok (.bipush 10, 2) := by decide +kernel
theorem dX8_payIndex_3 : decode cX8_payIndex 3 = .ok (.imul, 1) := by decide +kernel
theorem dX8_payIndex_4 : decode cX8_payIndex 4 = .ok (.iload_n 1, 1) := by decide +kernel
theorem dX8_payIndex_5 : decode cX8_payIndex 5 = .ok (.iconst 5, 1) := by decide +kernel
theorem dX8_payIndex_6 : decode cX8_payIndex 6 = .ok (.imul, 1) := by decide +kernel
theorem dX8_payIndex_7 : decode cX8_payIndex 7 = .ok (.iadd, 1) := by decide +kernel
theorem dX8_payIndex_8 : decode cX8_payIndex 8 = .ok (.iload_n 2, 1) := by decide +kernel
theorem dX8_payIndex_9 : decode cX8_payIndex 9 = .ok (.iadd, 1) := by decide +kernel
theorem dX8_payIndex_10 : decode cX8_payIndex 10 = .ok (.ireturn, 1) := by decide +kernel
theorem dX8_take_0 : decode cX8_take 0 = .ok (.aload_n 0, 1) := by decide +kernel
theorem dX8_take_1 : decode cX8_take 1 = .ok (.getfield 10, 3) := by decide +kernel
theorem dX8_take_4 : decode cX8_take 4 = .ok (.aload_n 1, 1) := by decide +kernel
theorem dX8_take_5 : decode cX8_take 5 = .ok (.getfield 10, 3) := by decide +kernel
theorem dX8_take_8 : decode cX8_take 8 = .ok (.invokevirtual 34, 3) := by decide +kernel
theorem dX8_take_11 : decode cX8_take 11 = .ok (.aload_n 0, 1) := by decide +kernel
theorem dX8_take_12 : decode cX8_take 12 = .ok (.getfield 19, 3) := by decide +kernel
theorem dX8_take_15 : decode cX8_take 15 = .ok (.aload_n 1, 1) := by decide +kernel
theorem dX8_take_16 : decode cX8_take 16 = .ok (.getfield 19, 3) := by decide +kernel
theorem dX8_take_19 : decode cX8_take 19 = .ok (.invokevirtual 38, 3) := by decide +kernel
theorem dX8_take_22 : decode cX8_take 22 = .ok (.aload_n 0, 1) := by decide +kernel
theorem dX8_take_23 : decode cX8_take 23 = .ok (.getfield 26, 3) := by decide +kernel
theorem dX8_take_26 : decode cX8_take 26 = .ok (.aload_n 1, 1) := by decide +kernel
theorem dX8_take_27 : decode cX8_take 27 = .ok (.getfield 26, 3) := by decide +kernel
theorem dX8_take_30 : decode cX8_take 30 = .ok (.invokevirtual 41, 3) := by decide +kernel
theorem dX8_take_33 : decode cX8_take 33 = .ok (.aload_n 1, 1) := by decide +kernel
theorem dX8_take_34 : decode cX8_take 34 = .ok (.getfield 30, 3) := by decide +kernel
theorem dX8_take_37 : decode cX8_take 37 = .ok (.iconst 0, 1) := by decide +kernel
theorem dX8_take_38 : decode cX8_take 38 = .ok (.aload_n 0, 1) := by decide +kernel
theorem dX8_take_39 : decode cX8_take 39 = .ok (.getfield 30, 3) := by decide +kernel
theorem dX8_take_42 : decode cX8_take 42 = .ok (.iconst 0, 1) := by decide +kernel
theorem dX8_take_43 : decode cX8_take 43 = .ok (.aload_n 0, 1) := by decide +kernel
theorem dX8_take_44 : decode cX8_take 44 = .ok (.getfield 30, 3) := by decide +kernel
theorem dX8_take_47 : decode cX8_take 47 = .ok (.arraylength, 1) := by decide +kernel
theorem dX8_take_48 : decode cX8_take 48 = .ok (.invokestatic 44, 3) := by decide +kernel
theorem dX8_take_51 : decode cX8_take 51 = .ok (.return_, 1) := by decide +kernel
theorem dX8_areContent_0 : decode cX8_areContent 0 = .ok (.aload_n 0, 1) := by decide +kernel
theorem dX8_areContent_1 : decode cX8_areContent 1 = .ok (.getfield 30, 3) := by decide +kernel
theorem dX8_areContent_4 : decode cX8_areContent 4 = .ok (.iload_n 1, 1) := by decide +kernel
theorem dX8_areContent_5 : decode cX8_areContent 5 = .ok (.iconst 1, 1) := by decide +kernel
theorem dX8_areContent_6 : decode cX8_areContent 6 = .ok (.iload 4, 2) := by decide +kernel
theorem dX8_areContent_8 : decode cX8_areContent 8 = .ok (.invokestatic 50, 3) := by decide +kernel
theorem dX8_areContent_11 : decode cX8_areContent 11 = .ok (.iaload, 1) := by decide +kernel
theorem dX8_areContent_12 : decode cX8_areContent 12 = .ok (.istore 5, 2) := by decide +kernel
theorem dX8_areContent_14 : decode cX8_areContent 14 = .ok (.aload_n 0, 1) := by decide +kernel
theorem dX8_areContent_15 : decode cX8_areContent 15 = .ok (.getfield 30, 3) := by decide +kernel
theorem dX8_areContent_18 : decode cX8_areContent 18 = .ok (.iload_n 1, 1) := by decide +kernel
theorem dX8_areContent_19 : decode cX8_areContent 19 = .ok (.iconst 0, 1) := by decide +kernel
theorem dX8_areContent_20 : decode cX8_areContent 20 = .ok (.iload 4, 2) := by decide +kernel
theorem dX8_areContent_22 : decode cX8_areContent 22 = .ok (.invokestatic 50, 3) := by decide +kernel
theorem dX8_areContent_25 : decode cX8_areContent 25 = .ok (.iaload, 1) := by decide +kernel
theorem dX8_areContent_26 : decode cX8_areContent 26 = .ok (.istore 6, 2) := by decide +kernel
theorem dX8_areContent_28 : decode cX8_areContent 28 = .ok (.iload_n 2, 1) := by decide +kernel
theorem dX8_areContent_29 : decode cX8_areContent 29 = .ok (.ifCond .eq 10, 3) := by decide +kernel
theorem dX8_areContent_32 : decode cX8_areContent 32 = .ok (.iload 5, 2) := by decide +kernel
theorem dX8_areContent_34 : decode cX8_areContent 34 = .ok (.iload 6, 2) := by decide +kernel
theorem dX8_areContent_36 : decode cX8_areContent 36 = .ok (.if_icmp .lt 19, 3) := by decide +kernel
theorem dX8_areContent_39 : decode cX8_areContent 39 = .ok (.iload_n 2, 1) := by decide +kernel
theorem dX8_areContent_40 : decode cX8_areContent 40 = .ok (.iload_n 3, 1) := by decide +kernel
theorem dX8_areContent_41 : decode cX8_areContent 41 = .ok (.if_icmp .eq 10, 3) := by decide +kernel
theorem dX8_areContent_44 : decode cX8_areContent 44 = .ok (.iload 6, 2) := by decide +kernel
theorem dX8_areContent_46 : decode cX8_areContent 46 = .ok (.iload 5, 2) := by decide +kernel
theorem dX8_areContent_48 : decode cX8_areContent 48 = .ok (.if_icmp .lt 7, 3) := by decide +kernel
theorem dX8_areContent_51 : decode cX8_areContent 51 = .ok (.iconst 1, 1) := by decide +kernel
theorem dX8_areContent_52 : decode cX8_areContent 52 = .ok (.goto 4, 3) := by decide +kernel
theorem dX8_areContent_55 : decode cX8_areContent 55 = .ok (.iconst 0, 1) := by decide +kernel
theorem dX8_areContent_56 : decode cX8_areContent 56 = .ok (.ireturn, 1) := by decide +kernel
theorem dX9_init_0 : decode cX9_init 0 = .ok (.aload_n 0, 1) := by decide +kernel
theorem dX9_init_1 : decode cX9_init 1 = .ok (.invokespecial 3, 3) := by decide +kernel
theorem dX9_init_4 : decode cX9_init 4 = .ok (.aload_n 0, 1) := by decide +kernel
theorem dX9_init_5 : decode cX9_init 5 = .ok (.bipush 8, 2) := by decide +kernel
theorem dX9_init_7 : decode cX9_init 7 = .ok (.newarray .long, 2) := by decide +kernel
theorem dX9_init_9 : decode cX9_init 9 = .ok (.putfield 9, 3) := by decide +kernel
theorem dX9_init_12 : decode cX9_init 12 = .ok (.aload_n 0, 1) := by decide +kernel
theorem dX9_init_13 : decode cX9_init 13 = .ok (.bipush 8, 2) := by decide +kernel
theorem dX9_init_15 : decode cX9_init 15 = .ok (.newarray .long, 2) := by decide +kernel
theorem dX9_init_17 : decode cX9_init 17 = .ok (.putfield 15, 3) := by decide +kernel
theorem dX9_init_20 : decode cX9_init 20 = .ok (.return_, 1) := by decide +kernel
theorem dX9_weigh_0 : decode cX9_weigh 0 = .ok (.aload_n 0, 1) := by decide +kernel
theorem dX9_weigh_1 : decode cX9_weigh 1 = .ok (.aload_n 2, 1) := by decide +kernel
theorem dX9_weigh_2 : decode cX9_weigh 2 = .ok (.getfield 18, 3) := by decide +kernel
theorem dX9_weigh_5 : decode cX9_weigh 5 = .ok (.invokevirtual 24, 3) := by decide +kernel
theorem dX9_weigh_8 : decode cX9_weigh 8 = .ok (.aload_n 1, 1) := by decide +kernel
theorem dX9_weigh_9 : decode cX9_weigh 9 = .ok (.getfield 28, 3) := by decide +kernel
theorem dX9_weigh_12 : decode cX9_weigh 12 = .ok (.invokevirtual 34, 3) := by decide +kernel
theorem dX9_weigh_15 : decode cX9_weigh 15 = .ok (.iconst 1, 1) := by decide +kernel
theorem dX9_weigh_16 : decode cX9_weigh 16 = .ok (.istore 4, 2) := by decide +kernel
theorem dX9_weigh_18 : decode cX9_weigh 18 = .ok (.iconst 0, 1) := by decide +kernel
theorem dX9_weigh_19 : decode cX9_weigh 19 = .ok (.istore 5, 2) := by decide +kernel
theorem dX9_weigh_21 : decode cX9_weigh 21 = .ok (.iload 4, 2) := by decide +kernel
theorem dX9_weigh_23 : decode cX9_weigh 23 = .ok (.ifCond .eq 64, 3) := by decide +kernel
theorem dX9_weigh_26 : decode cX9_weigh 26 = .ok (.iload 5, 2) := by decide +kernel
theorem dX9_weigh_28 : decode cX9_weigh 28 = .ok (.sipush 256, 3) := by decide +kernel
theorem dX9_weigh_31 : decode cX9_weigh 31 = .ok (.if_icmp .ge 56, 3) := by decide +kernel
theorem dX9_weigh_34 : decode cX9_weigh 34 = .ok (.aload_n 1, 1) := by decide +kernel
theorem dX9_weigh_35 : decode cX9_weigh 35 = .ok (.aload_n 2, 1) := by decide +kernel
theorem dX9_weigh_36 : decode cX9_weigh 36 = .ok (.iload_n 3, 1) := by decide +kernel
theorem dX9_weigh_37 : decode cX9_weigh 37 = .ok (.invokevirtual 39, 3) := by decide +kernel
theorem dX9_weigh_40 : decode cX9_weigh 40 = .ok (.iconst 0, 1) := by decide +kernel
theorem dX9_weigh_41 : decode cX9_weigh 41 = .ok (.istore 6, 2) := by decide +kernel
theorem dX9_weigh_43 : decode cX9_weigh 43 = .ok (.iload 6, 2) := by decide +kernel
theorem dX9_weigh_45 : decode cX9_weigh 45 = .ok (.bipush 99, 2) := by decide +kernel
theorem dX9_weigh_47 : decode cX9_weigh 47 = .ok (.if_icmp .ge 20, 3) := by decide +kernel
theorem dX9_weigh_50 : decode cX9_weigh 50 = .ok (.aload_n 1, 1) := by decide +kernel
theorem dX9_weigh_51 : decode cX9_weigh 51 = .ok (.getfield 43, 3) := by decide +kernel
theorem dX9_weigh_54 : decode cX9_weigh 54 = .ok (.ifCond .ne 13, 3) := by decide +kernel
theorem dX9_weigh_57 : decode cX9_weigh 57 = .ok (.aload_n 1, 1) := by decide +kernel
theorem dX9_weigh_58 : decode cX9_weigh 58 = .ok (.invokevirtual 46, 3) := by decide +kernel
theorem dX9_weigh_61 : decode cX9_weigh 61 = .ok (.iinc 6 1, 3) := by decide +kernel
theorem dX9_weigh_64 : decode cX9_weigh 64 = .ok (.goto (-21), 3) := by decide +kernel
theorem dX9_weigh_67 : decode cX9_weigh 67 = .ok (.aload_n 0, 1) := by decide +kernel
theorem dX9_weigh_68 : decode cX9_weigh 68 = .ok (.aload_n 1, 1) := by decide +kernel
theorem dX9_weigh_69 : decode cX9_weigh 69 = .ok (.invokevirtual 49, 3) := by decide +kernel
theorem dX9_weigh_72 : decode cX9_weigh 72 = .ok (.aload_n 1, 1) := by decide +kernel
theorem dX9_weigh_73 : decode cX9_weigh 73 = .ok (.getfield 28, 3) := by decide +kernel
theorem dX9_weigh_76 : decode cX9_weigh 76 = .ok (.invokevirtual 53, 3) := by decide +kernel
theorem dX9_weigh_79 : decode cX9_weigh 79 = .ok (.istore 4, 2) := by decide +kernel
theorem dX9_weigh_81 : decode cX9_weigh 81 = .ok (.iinc 5 1, 3) := by decide +kernel
theorem dX9_weigh_84 : decode cX9_weigh 84 = .ok (.goto (-63), 3) := by decide +kernel
theorem dX9_weigh_87 : decode cX9_weigh 87 = .ok (.return_, 1) := by decide +kernel
theorem dX9_clear_0 : decode cX9_clear 0 = .ok (.aload_n 0, 1) := by decide +kernel
theorem dX9_clear_1 : decode cX9_clear 1 = .ok (.lconst 1, 1) := by decide +kernel
theorem dX9_clear_2 : decode cX9_clear 2 = .ok (.putfield 57, 3) := by decide +kernel
theorem dX9_clear_5 : decode cX9_clear 5 = .ok (.iconst 0, 1) := by decide +kernel
theorem dX9_clear_6 : decode cX9_clear 6 = .ok (.istore_n 2, 1) := by decide +kernel
theorem dX9_clear_7 : decode cX9_clear 7 = .ok (.iload_n 2, 1) := by decide +kernel
theorem dX9_clear_8 : decode cX9_clear 8 = .ok (.iload_n 1, 1) := by decide +kernel
theorem dX9_clear_9 : decode cX9_clear 9 = .ok (.if_icmp .ge 21, 3) := by decide +kernel
theorem dX9_clear_12 : decode cX9_clear 12 = .ok (.aload_n 0, 1) := by decide +kernel
theorem dX9_clear_13 : decode cX9_clear 13 = .ok (.dup, 1) := by decide +kernel
theorem dX9_clear_14 : decode cX9_clear 14 = .ok (.getfield 57, 3) := by decide +kernel
theorem dX9_clear_17 : decode cX9_clear 17 = .ok (.ldc2_w 61, 3) := by decide +kernel
theorem dX9_clear_20 : decode cX9_clear 20 = .ok (.lmul, 1) := by decide +kernel
theorem dX9_clear_21 : decode cX9_clear 21 = .ok (.putfield 57, 3) := by decide +kernel
theorem dX9_clear_24 : decode cX9_clear 24 = .ok (.iinc 2 1, 3) := by decide +kernel
theorem dX9_clear_27 : decode cX9_clear 27 = .ok (.goto (-20), 3) := by decide +kernel
theorem dX9_clear_30 : decode cX9_clear 30 = .ok (.aload_n 0, 1) := by decide +kernel
theorem dX9_clear_31 : decode cX9_clear 31 = .ok (.lconst 0, 1) := by decide +kernel
theorem dX9_clear_32 : decode cX9_clear 32 = .ok (.putfield 63, 3) := by decide +kernel
theorem dX9_clear_35 : decode cX9_clear 35 = .ok (.aload_n 0, 1) := by decide +kernel
theorem dX9_clear_36 : decode cX9_clear 36 = .ok (.lconst 0, 1) := by decide +kernel
theorem dX9_clear_37 : decode cX9_clear 37 = .ok (.putfield 66, 3) := by decide +kernel
theorem dX9_clear_40 : decode cX9_clear 40 = .ok (.aload_n 0, 1) := by decide +kernel
theorem dX9_clear_41 : decode cX9_clear 41 = .ok (.lconst 0, 1) := by decide +kernel
theorem dX9_clear_42 : decode cX9_clear 42 = .ok (.putfield 69, 3) := by decide +kernel
theorem dX9_clear_45 : decode cX9_clear 45 = .ok (.aload_n 0, 1) := by decide +kernel
theorem dX9_clear_46 : decode cX9_clear 46 = .ok (.lconst 0, 1) := by decide +kernel
theorem dX9_clear_47 : decode cX9_clear 47 = .ok (.putfield 72, 3) := by decide +kernel
theorem dX9_clear_50 : decode cX9_clear 50 = .ok (.aload_n 0, 1) := by decide +kernel
theorem dX9_clear_51 : decode cX9_clear 51 = .ok (.lconst 0, 1) := by decide +kernel
theorem dX9_clear_52 : decode cX9_clear 52 = .ok (.putfield 75, 3) := by decide +kernel
theorem dX9_clear_55 : decode cX9_clear 55 = .ok (.aload_n 0, 1) := by decide +kernel
theorem dX9_clear_56 : decode cX9_clear 56 = .ok (.iconst 0, 1) := by decide +kernel
theorem dX9_clear_57 : decode cX9_clear 57 = .ok (.putfield 78, 3) := by decide +kernel
theorem dX9_clear_60 : decode cX9_clear 60 = .ok (.aload_n 0, 1) := by decide +kernel
theorem dX9_clear_61 : decode cX9_clear 61 = .ok (.getfield 9, 3) := by decide +kernel
theorem dX9_clear_64 : decode cX9_clear 64 = .ok (.lconst 0, 1) := by decide +kernel
theorem dX9_clear_65 : decode cX9_clear 65 = .ok (.invokestatic 81, 3) := by decide +kernel
theorem dX9_clear_68 : decode cX9_clear 68 = .ok (.aload_n 0, 1) := by decide +kernel
theorem dX9_clear_69 : decode cX9_clear 69 = .ok (.getfield 15, 3) := by decide +kernel
theorem dX9_clear_72 : decode cX9_clear 72 = .ok (.lconst 0, 1) := by decide +kernel
theorem dX9_clear_73 : decode cX9_clear 73 = .ok (.invokestatic 81, 3) := by decide +kernel
theorem dX9_clear_76 : decode cX9_clear 76 = .ok (.return_, 1) := by decide +kernel
theorem dX9_add_0 : decode cX9_add 0 = .ok (.aload_n 1, 1) := by decide +kernel
theorem dX9_add_1 : decode cX9_add 1 = .ok (.getfield 28, 3) := by decide +kernel
theorem dX9_add_4 : decode cX9_add 4 = .ok (.getfield 87, 3) := by decide +kernel
theorem dX9_add_7 : decode cX9_add 7 = .ok (.lstore_n 2, 1) := by decide +kernel
theorem dX9_add_8 : decode cX9_add 8 = .ok (.aload_n 1, 1) := by decide +kernel
theorem dX9_add_9 : decode cX9_add 9 = .ok (.getfield 28, 3) := by decide +kernel
theorem dX9_add_12 : decode cX9_add 12 = .ok (.getfield 90, 3) := by decide +kernel
theorem dX9_add_15 : decode cX9_add 15 = .ok (.istore 4, 2) := by decide +kernel
theorem dX9_add_17 : decode cX9_add 17 = .ok (.iload 4, 2) := by decide +kernel
theorem dX9_add_19 : decode cX9_add 19 = .ok (.aload_n 1, 1) := by decide +kernel
theorem dX9_add_20 : decode cX9_add 20 = .ok (.getfield 93, 3) := by decide +kernel
theorem dX9_add_23 : decode cX9_add 23 = .ok (.getfield 18, 3) := by decide +kernel
theorem dX9_add_26 : decode cX9_add 26 = .ok (.if_icmp .ge 15, 3) := by decide +kernel
theorem dX9_add_29 : decode cX9_add 29 = .ok (.lload_n 2, 1) := by decide +kernel
theorem dX9_add_30 : decode cX9_add 30 = .ok (.ldc2_w 61, 3) := by decide +kernel
theorem dX9_add_33 : decode cX9_add 33 = .ok (.lmul, 1) := by decide +kernel
theorem dX9_add_34 : decode cX9_add 34 = .ok (.lstore_n 2, 1) := by decide +kernel
theorem dX9_add_35 : decode cX9_add 35 = .ok (.iinc 4 1, 3) := by decide +kernel
theorem dX9_add_38 : decode cX9_add 38 = .ok (.goto (-21), 3) := by decide +kernel
theorem dX9_add_41 : decode cX9_add 41 = .ok (.aload_n 1, 1) := by decide +kernel
theorem dX9_add_42 : decode cX9_add 42 = .ok (.getfield 43, 3) := by decide +kernel
theorem dX9_add_45 : decode cX9_add 45 = .ok (.iconst 1, 1) := by decide +kernel
theorem dX9_add_46 : decode cX9_add 46 = .ok (.if_icmp .ne 16, 3) := by decide +kernel
theorem dX9_add_49 : decode cX9_add 49 = .ok (.aload_n 0, 1) := by decide +kernel
theorem dX9_add_50 : decode cX9_add 50 = .ok (.dup, 1) := by decide +kernel
theorem dX9_add_51 : decode cX9_add 51 = .ok (.getfield 63, 3) := by decide +kernel
theorem dX9_add_54 : decode cX9_add 54 = .ok (.lload_n 2, 1) := by decide +kernel
theorem dX9_add_55 : decode cX9_add 55 = .ok (.ladd, 1) := by decide +kernel
theorem dX9_add_56 : decode cX9_add 56 = .ok (.putfield 63, 3) := by decide +kernel
theorem dX9_add_59 : decode cX9_add 59 = .ok (.goto 34, 3) := by decide +kernel
theorem dX9_add_62 : decode cX9_add 62 = .ok (.aload_n 1, 1) := by decide +kernel
theorem dX9_add_63 : decode cX9_add 63 = .ok (.getfield 43, 3) := by decide +kernel
theorem dX9_add_66 : decode cX9_add 66 = .ok (.iconst 2, 1) := by decide +kernel
theorem dX9_add_67 : decode cX9_add 67 = .ok (.if_icmp .ne 16, 3) := by decide +kernel
theorem dX9_add_70 : decode cX9_add 70 = .ok (.aload_n 0, 1) := by decide +kernel
theorem dX9_add_71 : decode cX9_add 71 = .ok (.dup, 1) := by decide +kernel
theorem dX9_add_72 : decode cX9_add 72 = .ok (.getfield 66, 3) := by decide +kernel
theorem dX9_add_75 : decode cX9_add 75 = .ok (.lload_n 2, 1) := by decide +kernel
theorem dX9_add_76 : decode cX9_add 76 = .ok (.ladd, 1) := by decide +kernel
theorem dX9_add_77 : decode cX9_add 77 = .ok (.putfield 66, 3) := by decide +kernel
theorem dX9_add_80 : decode cX9_add 80 = .ok (.goto 13, 3) := by decide +kernel
theorem dX9_add_83 : decode cX9_add 83 = .ok (.aload_n 0, 1) := by decide +kernel
theorem dX9_add_84 : decode cX9_add 84 = .ok (.dup, 1) := by decide +kernel
theorem dX9_add_85 : decode cX9_add 85 = .ok (.getfield 69, 3) := by decide +kernel
theorem dX9_add_88 : decode cX9_add 88 = .ok (.lload_n 2, 1) := by decide +kernel
theorem dX9_add_89 : decode cX9_add 89 = .ok (.ladd, 1) := by decide +kernel
theorem dX9_add_90 : decode cX9_add 90 = .ok (.putfield 69, 3) := by decide +kernel
theorem dX9_add_93 : decode cX9_add 93 = .ok (.aload_n 0, 1) := by decide +kernel
theorem dX9_add_94 : decode cX9_add 94 = .ok (.dup, 1) := by decide +kernel
theorem dX9_add_95 : decode cX9_add 95 = .ok (.getfield 72, 3) := by decide +kernel
theorem dX9_add_98 : decode cX9_add 98 = .ok (.lload_n 2, 1) := by decide +kernel
theorem dX9_add_99 : decode cX9_add 99 = .ok (.aload_n 1, 1) := by decide +kernel
theorem dX9_add_100 : decode cX9_add 100 = .ok (.getfield 97, 3) := by decide +kernel
theorem dX9_add_103 : decode cX9_add 103 = .ok (.i2l, 1) := by decide +kernel
theorem dX9_add_104 : decode cX9_add 104 = .ok (.lmul, 1) := by decide +kernel
theorem dX9_add_105 : decode cX9_add 105 = .ok (.ladd, 1) := by decide +kernel
theorem dX9_add_106 : decode cX9_add 106 = .ok (.putfield 72, 3) := by decide +kernel
theorem dX9_add_109 : decode cX9_add 109 = .ok (.aload_n 0, 1) := by decide +kernel
theorem dX9_add_110 : decode cX9_add 110 = .ok (.dup, 1) := by decide +kernel
theorem dX9_add_111 : decode cX9_add 111 = .ok (.getfield 75, 3) := by decide +kernel
theorem dX9_add_114 : decode cX9_add 114 = .ok (.lload_n 2, 1) := by decide +kernel
theorem dX9_add_115 : decode cX9_add 115 = .ok (.aload_n 1, 1) := by decide +kernel
theorem dX9_add_116 : decode cX9_add 116 = .ok (.getfield 99, 3) := by decide +kernel
theorem dX9_add_119 : decode cX9_add 119 = .ok (.i2l, 1) := by decide +kernel
theorem dX9_add_120 : decode cX9_add 120 = .ok (.lmul, 1) := by decide +kernel
theorem dX9_add_121 : decode cX9_add 121 = .ok (.ladd, 1) := by decide +kernel
theorem dX9_add_122 : decode cX9_add 122 = .ok (.putfield 75, 3) := by decide +kernel
theorem dX9_add_125 : decode cX9_add 125 = .ok (.aload_n 0, 1) := by decide +kernel
theorem dX9_add_126 : decode cX9_add 126 = .ok (.aload_n 0, 1) := by decide +kernel
theorem dX9_add_127 : decode cX9_add 127 = .ok (.getfield 78, 3) := by decide +kernel
theorem dX9_add_130 : decode cX9_add 130 = .ok (.aload_n 1, 1) := by decide +kernel
theorem dX9_add_131 : decode cX9_add 131 = .ok (.getfield 101, 3) := by decide +kernel
theorem dX9_add_134 : decode cX9_add 134 = .ok (.invokestatic 104, 3) := by decide +kernel
theorem dX9_add_137 : decode cX9_add 137 = .ok (.putfield 78, 3) := by decide +kernel
theorem dX9_add_140 : decode cX9_add 140 = .ok (.iconst 0, 1) := by decide +kernel
theorem dX9_add_141 : decode cX9_add 141 = .ok (.istore 4, 2) := by decide +kernel
theorem dX9_add_143 : decode cX9_add 143 = .ok (.iload 4, 2) := by decide +kernel
theorem dX9_add_145 : decode cX9_add 145 = .ok (.aload_n 1, 1) := by decide +kernel
theorem dX9_add_146 : decode cX9_add 146 = .ok (.getfield 93, 3) := by decide +kernel
theorem dX9_add_149 : decode cX9_add 149 = .ok (.getfield 18, 3) := by decide +kernel
theorem dX9_add_152 : decode cX9_add 152 = .ok (.if_icmp .ge 59, 3) := by decide +kernel
theorem dX9_add_155 : decode cX9_add 155 = .ok (.aload_n 0, 1) := by decide +kernel
theorem dX9_add_156 : decode cX9_add 156 = .ok (.getfield 9, 3) := by decide +kernel
theorem dX9_add_159 : decode cX9_add 159 = .ok (.iload 4, 2) := by decide +kernel
theorem dX9_add_161 : decode cX9_add 161 = .ok (.dup2, 1) := by decide +kernel
theorem dX9_add_162 : decode cX9_add 162 = .ok (.laload, 1) := by decide +kernel
theorem dX9_add_163 : decode cX9_add 163 = .ok (.aload_n 1, 1) := by decide +kernel
theorem dX9_add_164 : decode cX9_add 164 = .ok (.getfield 110, 3) := by decide +kernel
theorem dX9_add_167 : decode cX9_add 167 = .ok (.iload 4, 2) := by decide +kernel
theorem dX9_add_169 : decode cX9_add 169 = .ok (.if_icmp .ne 7, 3) := by decide +kernel
theorem dX9_add_172 : decode cX9_add 172 = .ok (.lload_n 2, 1) := by decide +kernel
theorem dX9_add_173 : decode cX9_add 173 = .ok (.goto 4, 3) := by decide +kernel
theorem dX9_add_176 : decode cX9_add 176 = .ok (.lconst 0, 1) := by decide +kernel
theorem dX9_add_177 : decode cX9_add 177 = .ok (.ladd, 1) := by decide +kernel
theorem dX9_add_178 : decode cX9_add 178 = .ok (.lastore, 1) := by decide +kernel
theorem dX9_add_179 : decode cX9_add 179 = .ok (.aload_n 0, 1) := by decide +kernel
theorem dX9_add_180 : decode cX9_add 180 = .ok (.getfield 15, 3) := by decide +kernel
theorem dX9_add_183 : decode cX9_add 183 = .ok (.iload 4, 2) := by decide +kernel
theorem dX9_add_185 : decode cX9_add 185 = .ok (.dup2, 1) := by decide +kernel
theorem dX9_add_186 : decode cX9_add 186 = .ok (.laload, 1) := by decide +kernel
theorem dX9_add_187 : decode cX9_add 187 = .ok (.aload_n 1, 1) := by decide +kernel
theorem dX9_add_188 : decode cX9_add 188 = .ok (.getfield 113, 3) := by decide +kernel
theorem dX9_add_191 : decode cX9_add 191 = .ok (.iload 4, 2) := by decide +kernel
theorem dX9_add_193 : decode cX9_add 193 = .ok (.iaload, 1) := by decide +kernel
theorem dX9_add_194 : decode cX9_add 194 = .ok (.iconst 2, 1) := by decide +kernel
theorem dX9_add_195 : decode cX9_add 195 = .ok (.if_icmp .ne 7, 3) := by decide +kernel
theorem dX9_add_198 : decode cX9_add 198 = .ok (.lload_n 2, 1) := by decide +kernel
theorem dX9_add_199 : decode cX9_add 199 = .ok (.goto 4, 3) := by decide +kernel
theorem dX9_add_202 : decode cX9_add 202 = .ok (.lconst 0, 1) := by decide +kernel
theorem dX9_add_203 : decode cX9_add 203 = .ok (.ladd, 1) := by decide +kernel
theorem dX9_add_204 : decode cX9_add 204 = .ok (.lastore, 1) := by decide +kernel
theorem dX9_add_205 : decode cX9_add 205 = .ok (.iinc 4 1, 3) := by decide +kernel
theorem dX9_add_208 : decode cX9_add 208 = .ok (.goto (-65), 3) := by decide +kernel
theorem dX9_add_211 : decode cX9_add 211 = .ok (.return_, 1) := by decide +kernel
theorem dX10_init_0 : decode cX10_init 0 = .ok (.aload_n 0, 1) := by decide +kernel
theorem dX10_init_1 : decode cX10_init 1 = .ok (.invokespecial 1, 3) := by decide +kernel
theorem dX10_init_4 : decode cX10_init 4 = .ok (.aload_n 0, 1) := by decide +kernel
theorem dX10_init_5 : decode cX10_init 5 = .ok (.sipush 400, 3) := by decide +kernel
theorem dX10_init_8 : decode cX10_init 8 = .ok (.newarray .byte, 2) := by decide +kernel
theorem dX10_init_10 : decode cX10_init 10 = .ok (.putfield 9, 3) := by decide +kernel
theorem dX10_init_13 : decode cX10_init 13 = .ok (.aload_n 0, 1) := by decide +kernel
theorem dX10_init_14 : decode cX10_init 14 = .ok (.new 13, 3) := by decide +kernel
theorem dX10_init_17 : decode cX10_init 17 = .ok (.dup, 1) := by decide +kernel
theorem dX10_init_18 : decode cX10_init 18 = .ok (.invokespecial 15, 3) := by decide +kernel
theorem dX10_init_21 : decode cX10_init 21 = .ok (.putfield 16, 3) := by decide +kernel
theorem dX10_init_24 : decode cX10_init 24 = .ok (.aload_n 0, 1) := by decide +kernel
theorem dX10_init_25 : decode cX10_init 25 = .ok (.new 20, 3) := by decide +kernel
theorem dX10_init_28 : decode cX10_init 28 = .ok (.dup, 1) := by decide +kernel
theorem dX10_init_29 : decode cX10_init 29 = .ok (.invokespecial 22, 3) := by decide +kernel
theorem dX10_init_32 : decode cX10_init 32 = .ok (.putfield 23, 3) := by decide +kernel
theorem dX10_init_35 : decode cX10_init 35 = .ok (.aload_n 0, 1) := by decide +kernel
theorem dX10_init_36 : decode cX10_init 36 = .ok (.iconst 2, 1) := by decide +kernel
theorem dX10_init_37 : decode cX10_init 37 = .ok (.anewarray 20, 3) := by decide +kernel
theorem dX10_init_40 : decode cX10_init 40 = .ok (.putfield 27, 3) := by decide +kernel
theorem dX10_init_43 : decode cX10_init 43 = .ok (.aload_n 0, 1) := by decide +kernel
theorem dX10_init_44 : decode cX10_init 44 = .ok (.iconst 2, 1) := by decide +kernel
theorem dX10_init_45 : decode cX10_init 45 = .ok (.newarray .boolean, 2) := by decide +kernel
theorem dX10_init_47 : decode cX10_init 47 = .ok (.putfield 31, 3) := by decide +kernel
theorem dX10_init_50 : decode cX10_init 50 = .ok (.aload_n 0, 1) := by decide +kernel
theorem dX10_init_51 : decode cX10_init 51 = .ok (.new 35, 3) := by decide +kernel
theorem dX10_init_54 : decode cX10_init 54 = .ok (.dup, 1) := by decide +kernel
theorem dX10_init_55 : decode cX10_init 55 = .ok (.aload_n 0, 1) := by decide +kernel
theorem dX10_init_56 : decode cX10_init 56 = .ok (.getfield 23, 3) := by decide +kernel
theorem dX10_init_59 : decode cX10_init 59 = .ok (.getfield 37, 3) := by decide +kernel
theorem dX10_init_62 : decode cX10_init 62 = .ok (.aload_n 0, 1) := by decide +kernel
theorem dX10_init_63 : decode cX10_init 63 = .ok (.getfield 23, 3) := by decide +kernel
theorem dX10_init_66 : decode cX10_init 66 = .ok (.getfield 41, 3) := by decide +kernel
theorem dX10_init_69 : decode cX10_init 69 = .ok (.invokespecial 45, 3) := by decide +kernel
theorem dX10_init_72 : decode cX10_init 72 = .ok (.putfield 48, 3) := by decide +kernel
theorem dX10_init_75 : decode cX10_init 75 = .ok (.aload_n 0, 1) := by decide +kernel
theorem dX10_init_76 : decode cX10_init 76 = .ok (.new 52, 3) := by decide +kernel
theorem dX10_init_79 : decode cX10_init 79 = .ok (.dup, 1) := by decide +kernel
theorem dX10_init_80 : decode cX10_init 80 = .ok (.invokespecial 54, 3) := by decide +kernel
theorem dX10_init_83 : decode cX10_init 83 = .ok (.putfield 55, 3) := by decide +kernel
theorem dX10_init_86 : decode cX10_init 86 = .ok (.aload_n 0, 1) := by decide +kernel
theorem dX10_init_87 : decode cX10_init 87 = .ok (.new 59, 3) := by decide +kernel
theorem dX10_init_90 : decode cX10_init 90 = .ok (.dup, 1) := by decide +kernel
theorem dX10_init_91 : decode cX10_init 91 = .ok (.invokespecial 61, 3) := by decide +kernel
theorem dX10_init_94 : decode cX10_init 94 = .ok (.putfield 62, 3) := by decide +kernel
theorem dX10_init_97 : decode cX10_init 97 = .ok (.aload_n 0, 1) := by decide +kernel
theorem dX10_init_98 : decode cX10_init 98 = .ok (.new 52, 3) := by decide +kernel
theorem dX10_init_101 : decode cX10_init 101 = .ok (.dup, 1) := by decide +kernel
theorem dX10_init_102 : decode cX10_init 102 = .ok (.invokespecial 54, 3) := by decide +kernel
theorem dX10_init_105 : decode cX10_init 105 = .ok (.putfield 65, 3) := by decide +kernel
theorem dX10_init_108 : decode cX10_init 108 = .ok (.aload_n 0, 1) := by decide +kernel
theorem dX10_init_109 : decode cX10_init 109 = .ok (.sipush 256, 3) := by decide +kernel
theorem dX10_init_112 : decode cX10_init 112 = .ok (.newarray .long, 2) := by decide +kernel
theorem dX10_init_114 : decode cX10_init 114 = .ok (.putfield 68, 3) := by decide +kernel
theorem dX10_init_117 : decode cX10_init 117 = .ok (.aload_n 0, 1) := by decide +kernel
theorem dX10_init_118 : decode cX10_init 118 = .ok (.new 72, 3) := by decide +kernel
theorem dX10_init_121 : decode cX10_init 121 = .ok (.dup, 1) := by decide +kernel
theorem dX10_init_122 : decode cX10_init 122 = .ok (.invokespecial 74, 3) := by decide +kernel
theorem dX10_init_125 : decode cX10_init 125 = .ok (.putfield 75, 3) := by decide +kernel
theorem dX10_init_128 : decode cX10_init 128 = .ok (.aload_n 0, 1) := by decide +kernel
theorem dX10_init_129 : decode cX10_init 129 = .ok (.iconst 4, 1) := by decide +kernel
theorem dX10_init_130 : decode cX10_init 130 = .ok (.anewarray 79, 3) := by decide +kernel
theorem dX10_init_133 : decode cX10_init 133 = .ok (.putfield 81, 3) := by decide +kernel
theorem dX10_init_136 : decode cX10_init 136 = .ok (.aload_n 0, 1) := by decide +kernel
theorem dX10_init_137 : decode cX10_init 137 = .ok (.bipush 40, 2) := by decide +kernel
theorem dX10_init_139 : decode cX10_init 139 = .ok (.newarray .int, 2) := by decide +kernel
theorem dX10_init_141 : decode cX10_init 141 = .ok (.putfield 85, 3) := by decide +kernel
theorem dX10_init_144 : decode cX10_init 144 = .ok (.aload_n 0, 1) := by decide +kernel
theorem dX10_init_145 : decode cX10_init 145 = .ok (.bipush 6, 2) := by decide +kernel
theorem dX10_init_147 : decode cX10_init 147 = .ok (.newarray .int, 2) := by decide +kernel
theorem dX10_init_149 : decode cX10_init 149 = .ok (.putfield 89, 3) := by decide +kernel
theorem dX10_init_152 : decode cX10_init 152 = .ok (.iconst 0, 1) := by decide +kernel
theorem dX10_init_153 : decode cX10_init 153 = .ok (.istore_n 1, 1) := by decide +kernel
theorem dX10_init_154 : decode cX10_init 154 = .ok (.iload_n 1, 1) := by decide +kernel
theorem dX10_init_155 : decode cX10_init 155 = .ok (.iconst 2, 1) := by decide +kernel
theorem dX10_init_156 : decode cX10_init 156 = .ok (.if_icmp .ge 22, 3) := by decide +kernel
theorem dX10_init_159 : decode cX10_init 159 = .ok (.aload_n 0, 1) := by decide +kernel
theorem dX10_init_160 : decode cX10_init 160 = .ok (.getfield 27, 3) := by decide +kernel
theorem dX10_init_163 : decode cX10_init 163 = .ok (.iload_n 1, 1) := by decide +kernel
theorem dX10_init_164 : decode cX10_init 164 = .ok (.new 20, 3) := by decide +kernel
theorem dX10_init_167 : decode cX10_init 167 = .ok (.dup, 1) := by decide +kernel
theorem dX10_init_168 : decode cX10_init 168 = .ok (.invokespecial 22, 3) := by decide +kernel
theorem dX10_init_171 : decode cX10_init 171 = .ok (.aastore, 1) := by decide +kernel
theorem dX10_init_172 : decode cX10_init 172 = .ok (.iinc 1 1, 3) := by decide +kernel
theorem dX10_init_175 : decode cX10_init 175 = .ok (.goto (-21), 3) := by decide +kernel
theorem dX10_init_178 : decode cX10_init 178 = .ok (.iconst 0, 1) := by decide +kernel
theorem dX10_init_179 : decode cX10_init 179 = .ok (.istore_n 1, 1) := by decide +kernel
theorem dX10_init_180 : decode cX10_init 180 = .ok (.iload_n 1, 1) := by decide +kernel
theorem dX10_init_181 : decode cX10_init 181 = .ok (.iconst 4, 1) := by decide +kernel
theorem dX10_init_182 : decode cX10_init 182 = .ok (.if_icmp .ge 22, 3) := by decide +kernel
theorem dX10_init_185 : decode cX10_init 185 = .ok (.aload_n 0, 1) := by decide +kernel
theorem dX10_init_186 : decode cX10_init 186 = .ok (.getfield 81, 3) := by decide +kernel
theorem dX10_init_189 : decode cX10_init 189 = .ok (.iload_n 1, 1) := by decide +kernel
theorem dX10_init_190 : decode cX10_init 190 = .ok (.new 79, 3) := by decide +kernel
theorem dX10_init_193 : decode cX10_init 193 = .ok (.dup, 1) := by decide +kernel
theorem dX10_init_194 : decode cX10_init 194 = .ok (.invokespecial 92, 3) := by decide +kernel
theorem dX10_init_197 : decode cX10_init 197 = .ok (.aastore, 1) := by decide +kernel
theorem dX10_init_198 : decode cX10_init 198 = .ok (.iinc 1 1, 3) := by decide +kernel
theorem dX10_init_201 : decode cX10_init 201 = .ok (.goto (-21), 3) := by decide +kernel
theorem dX10_init_204 : decode cX10_init 204 = .ok (.return_, 1) := by decide +kernel
theorem dX10_feed_0 : decode cX10_feed 0 = .ok (.aload_n 0, 1) := by decide +kernel
theorem dX10_feed_1 : decode cX10_feed 1 = .ok (.getfield 93, 3) := by decide +kernel
theorem dX10_feed_4 : decode cX10_feed 4 = .ok (.bipush 20, 2) := by decide +kernel
theorem dX10_feed_6 : decode cX10_feed 6 = .ok (.iadd, 1) := by decide +kernel
theorem dX10_feed_7 : decode cX10_feed 7 = .ok (.sipush 400, 3) := by decide +kernel
theorem dX10_feed_10 : decode cX10_feed 10 = .ok (.if_icmp .le 10, 3) := by decide +kernel
theorem dX10_feed_13 : decode cX10_feed 13 = .ok (.aload_n 0, 1) := by decide +kernel
theorem dX10_feed_14 : decode cX10_feed 14 = .ok (.bipush (-5), 2) := by decide +kernel
theorem dX10_feed_16 : decode cX10_feed 16 = .ok (.invokevirtual 97, 3) := by decide +kernel
theorem dX10_feed_19 : decode cX10_feed 19 = .ok (.ireturn, 1) := by decide +kernel
theorem dX10_feed_20 : decode cX10_feed 20 = .ok (.aload_n 0, 1) := by decide +kernel
theorem dX10_feed_21 : decode cX10_feed 21 = .ok (.iload_n 1, 1) := by decide +kernel
theorem dX10_feed_22 : decode cX10_feed 22 = .ok (.invokevirtual 101, 3) := by decide +kernel
theorem dX10_feed_25 : decode cX10_feed 25 = .ok (.aload_n 0, 1) := by decide +kernel
theorem dX10_feed_26 : decode cX10_feed 26 = .ok (.iload_n 2, 1) := by decide +kernel
theorem dX10_feed_27 : decode cX10_feed 27 = .ok (.invokevirtual 101, 3) := by decide +kernel
theorem dX10_feed_30 : decode cX10_feed 30 = .ok (.aload_n 0, 1) := by decide +kernel
theorem dX10_feed_31 : decode cX10_feed 31 = .ok (.iload_n 3, 1) := by decide +kernel
theorem dX10_feed_32 : decode cX10_feed 32 = .ok (.invokevirtual 101, 3) := by decide +kernel
theorem dX10_feed_35 : decode cX10_feed 35 = .ok (.aload_n 0, 1) := by decide +kernel
theorem dX10_feed_36 : decode cX10_feed 36 = .ok (.iload 4, 2) := by decide +kernel
theorem dX10_feed_38 : decode cX10_feed 38 = .ok (.invokevirtual 101, 3) := by decide +kernel
theorem dX10_feed_41 : decode cX10_feed 41 = .ok (.aload_n 0, 1) := by decide +kernel
theorem dX10_feed_42 : decode cX10_feed 42 = .ok (.iload 5, 2) := by decide +kernel
theorem dX10_feed_44 : decode cX10_feed 44 = .ok (.invokevirtual 101, 3) := by decide +kernel
theorem dX10_feed_47 : decode cX10_feed 47 = .ok (.aload_n 0, 1) := by decide +kernel
theorem dX10_feed_48 : decode cX10_feed 48 = .ok (.getfield 93, 3) := by decide +kernel
theorem dX10_feed_51 : decode cX10_feed 51 = .ok (.ireturn, 1) := by decide +kernel
theorem dX10_text_0 : decode cX10_text 0 = .ok (.iload_n 1, 1) := by decide +kernel
theorem dX10_text_1 : decode cX10_text 1 = .ok (.ifCond .lt 8, 3) := by decide +kernel
theorem dX10_text_4 : decode cX10_text 4 = .ok (.iload_n 1, 1) := by decide +kernel
theorem dX10_text_5 : decode cX10_text 5 = .ok (.iconst 1, 1) := by decide +kernel
theorem dX10_text_6 : decode cX10_text 6 = .ok (.if_icmp .le 10, 3) := by decide +kernel
theorem dX10_text_9 : decode cX10_text 9 = .ok (.aload_n 0, 1) := by decide +kernel
theorem dX10_text_10 : decode cX10_text 10 = .ok (.bipush (-2), 2) := by decide +kernel
theorem dX10_text_12 : decode cX10_text 12 = .ok (.invokevirtual 97, 3) := by decide +kernel
theorem dX10_text_15 : decode cX10_text 15 = .ok (.ireturn, 1) := by decide +kernel
theorem dX10_text_16 : decode cX10_text 16 = .ok (.iload_n 2, 1) := by decide +kernel
theorem dX10_text_17 : decode cX10_text 17 = .ok (.ifCond .lt 11, 3) := by decide +kernel
theorem dX10_text_20 : decode cX10_text 20 = .ok (.iload_n 2, 1) := by decide +kernel
theorem dX10_text_21 : decode cX10_text 21 = .ok (.aload_n 0, 1) := by decide +kernel
theorem dX10_text_22 : decode cX10_text 22 = .ok (.getfield 93, 3) := by decide +kernel
theorem dX10_text_25 : decode cX10_text 25 = .ok (.if_icmp .le 10, 3) := by decide +kernel
theorem dX10_text_28 : decode cX10_text 28 = .ok (.aload_n 0, 1) := by decide +kernel
theorem dX10_text_29 : decode cX10_text 29 = .ok (.bipush (-3), 2) := by decide +kernel
theorem dX10_text_31 : decode cX10_text 31 = .ok (.invokevirtual 97, 3) := by decide +kernel
theorem dX10_text_34 : decode cX10_text 34 = .ok (.ireturn, 1) := by decide +kernel
theorem dX10_text_35 : decode cX10_text 35 = .ok (.aload_n 0, 1) := by decide +kernel
theorem dX10_text_36 : decode cX10_text 36 = .ok (.iconst 0, 1) := by decide +kernel
theorem dX10_text_37 : decode cX10_text 37 = .ok (.putfield 93, 3) := by decide +kernel
theorem dX10_text_40 : decode cX10_text 40 = .ok (.iload_n 1, 1) := by decide +kernel
theorem dX10_text_41 : decode cX10_text 41 = .ok (.ifCond .ne 18, 3) := by decide +kernel
theorem dX10_text_44 : decode cX10_text 44 = .ok (.aload_n 0, 1) := by decide +kernel
theorem dX10_text_45 : decode cX10_text 45 = .ok (.getfield 16, 3) := by decide +kernel
theorem dX10_text_48 : decode cX10_text 48 = .ok (.aload_n 0, 1) := by decide +kernel
theorem dX10_text_49 : decode cX10_text 49 = .ok (.getfield 9, 3) := by decide +kernel
theorem dX10_text_52 : decode cX10_text 52 = .ok (.iload_n 2, 1) := by decide +kernel
theorem dX10_text_53 : decode cX10_text 53 = .ok (.invokevirtual 105, 3) := by decide +kernel
theorem dX10_text_56 : decode cX10_text 56 = .ok (.goto 15, 3) := by decide +kernel
theorem dX10_text_59 : decode cX10_text 59 = .ok (.aload_n 0, 1) := by decide +kernel
theorem dX10_text_60 : decode cX10_text 60 = .ok (.getfield 16, 3) := by decide +kernel
theorem dX10_text_63 : decode cX10_text 63 = .ok (.aload_n 0, 1) := by decide +kernel
theorem dX10_text_64 : decode cX10_text 64 = .ok (.getfield 9, 3) := by decide +kernel
theorem dX10_text_67 : decode cX10_text 67 = .ok (.iload_n 2, 1) := by decide +kernel
theorem dX10_text_68 : decode cX10_text 68 = .ok (.invokevirtual 109, 3) := by decide +kernel
theorem dX10_text_71 : decode cX10_text 71 = .ok (.istore_n 3, 1) := by decide +kernel
theorem dX10_text_72 : decode cX10_text 72 = .ok (.iload_n 3, 1) := by decide +kernel
theorem dX10_text_73 : decode cX10_text 73 = .ok (.ifCond .ne 18, 3) := by decide +kernel
theorem dX10_text_76 : decode cX10_text 76 = .ok (.aload_n 0, 1) := by decide +kernel
theorem dX10_text_77 : decode cX10_text 77 = .ok (.bipush (-30), 2) := by decide +kernel
theorem dX10_text_79 : decode cX10_text 79 = .ok (.aload_n 0, 1) := by decide +kernel
theorem dX10_text_80 : decode cX10_text 80 = .ok (.getfield 16, 3) := by decide +kernel
theorem dX10_text_83 : decode cX10_text 83 = .ok (.getfield 112, 3) := by decide +kernel
theorem dX10_text_86 : decode cX10_text 86 = .ok (.isub, 1) := by decide +kernel
theorem dX10_text_87 : decode cX10_text 87 = .ok (.invokevirtual 97, 3) := by decide +kernel
theorem dX10_text_90 : decode cX10_text 90 = .ok (.ireturn, 1) := by decide +kernel
theorem dX10_text_91 : decode cX10_text 91 = .ok (.aload_n 0, 1) := by decide +kernel
theorem dX10_text_92 : decode cX10_text 92 = .ok (.iconst 0, 1) := by decide +kernel
theorem dX10_text_93 : decode cX10_text 93 = .ok (.putfield 115, 3) := by decide +kernel
theorem dX10_text_96 : decode cX10_text 96 = .ok (.iload_n 1, 1) := by decide +kernel
theorem dX10_text_97 : decode cX10_text 97 = .ok (.ifCond .ne 31, 3) := by decide +kernel
theorem dX10_text_100 : decode cX10_text 100 = .ok (.aload_n 0, 1) := by decide +kernel
theorem dX10_text_101 : decode cX10_text 101 = .ok (.getfield 23, 3) := by decide +kernel
theorem dX10_text_104 : decode cX10_text 104 = .ok (.getfield 37, 3) := by decide +kernel
theorem dX10_text_107 : decode cX10_text 107 = .ok (.aload_n 0, 1) := by decide +kernel
theorem dX10_text_108 : decode cX10_text 108 = .ok (.getfield 16, 3) := by decide +kernel
theorem dX10_text_111 : decode cX10_text 111 = .ok (.getfield 119, 3) := by decide +kernel
theorem dX10_text_114 : decode cX10_text 114 = .ok (.invokevirtual 120, 3) := by decide +kernel
theorem dX10_text_117 : decode cX10_text 117 = .ok (.aload_n 0, 1) := by decide +kernel
theorem dX10_text_118 : decode cX10_text 118 = .ok (.getfield 23, 3) := by decide +kernel
theorem dX10_text_121 : decode cX10_text 121 = .ok (.getfield 37, 3) := by decide +kernel
theorem dX10_text_124 : decode cX10_text 124 = .ok (.getfield 124, 3) := by decide +kernel
theorem dX10_text_127 : decode cX10_text 127 = .ok (.ireturn, 1) := by decide +kernel
theorem dX10_text_128 : decode cX10_text 128 = .ok (.aload_n 0, 1) := by decide +kernel
theorem dX10_text_129 : decode cX10_text 129 = .ok (.getfield 23, 3) := by decide +kernel
theorem dX10_text_132 : decode cX10_text 132 = .ok (.getfield 41, 3) := by decide +kernel
theorem dX10_text_135 : decode cX10_text 135 = .ok (.aload_n 0, 1) := by decide +kernel
theorem dX10_text_136 : decode cX10_text 136 = .ok (.getfield 16, 3) := by decide +kernel
theorem dX10_text_139 : decode cX10_text 139 = .ok (.getfield 127, 3) := by decide +kernel
theorem dX10_text_142 : decode cX10_text 142 = .ok (.invokevirtual 128, 3) := by decide +kernel
theorem dX10_text_145 : decode cX10_text 145 = .ok (.aload_n 0, 1) := by decide +kernel
theorem dX10_text_146 : decode cX10_text 146 = .ok (.getfield 23, 3) := by decide +kernel
theorem dX10_text_149 : decode cX10_text 149 = .ok (.getfield 41, 3) := by decide +kernel
theorem dX10_text_152 : decode cX10_text 152 = .ok (.getfield 133, 3) := by decide +kernel
theorem dX10_text_155 : decode cX10_text 155 = .ok (.ireturn, 1) := by decide +kernel
theorem dX10_fault_0 : decode cX10_fault 0 = .ok (.iload_n 1, 1) := by decide +kernel
theorem dX10_fault_1 : decode cX10_fault 1 = .ok (.ifCond .ne 11, 3) := by decide +kernel
theorem dX10_fault_4 : decode cX10_fault 4 = .ok (.aload_n 0, 1) := by decide +kernel
theorem dX10_fault_5 : decode cX10_fault 5 = .ok (.getfield 16, 3) := by decide +kernel
theorem dX10_fault_8 : decode cX10_fault 8 = .ok (.getfield 112, 3) := by decide +kernel
theorem dX10_fault_11 : decode cX10_fault 11 = .ok (.ireturn, 1) := by decide +kernel
theorem dX10_fault_12 : decode cX10_fault 12 = .ok (.iload_n 1, 1) := by decide +kernel
theorem dX10_fault_13 : decode cX10_fault 13 = .ok (.iconst 1, 1) := by decide +kernel
theorem dX10_fault_14 : decode cX10_fault 14 = .ok (.if_icmp .ne 13, 3) := by decide +kernel
theorem dX10_fault_17 : decode cX10_fault 17 = .ok (.aload_n 0, 1) := by decide +kernel
theorem dX10_fault_18 : decode cX10_fault 18 = .ok (.getfield 16, 3) := by decide +kernel
theorem dX10_fault_21 : decode cX10_fault 21 = .ok (.getfield 134, 3) := by decide +kernel
theorem dX10_fault_24 : decode cX10_fault 24 = .ok (.goto 4, 3) := by decide +kernel
theorem dX10_fault_27 : decode cX10_fault 27 = .ok (.iconst (-1), 1) := by decide +kernel
theorem dX10_fault_28 : decode cX10_fault 28 = .ok (.ireturn, 1) := by decide +kernel
theorem dX10_car_0 : decode cX10_car 0 = .ok (.aload_n 0, 1) := by decide +kernel
theorem dX10_car_1 : decode cX10_car 1 = .ok (.iload_n 1, 1) := by decide +kernel
theorem dX10_car_2 : decode cX10_car 2 = .ok (.invokevirtual 137, 3) := by decide +kernel
theorem dX10_car_5 : decode cX10_car 5 = .ok (.ifCond .ne 10, 3) := by decide +kernel
theorem dX10_car_8 : decode cX10_car 8 = .ok (.aload_n 0, 1) := by decide +kernel
theorem dX10_car_9 : decode cX10_car 9 = .ok (.bipush (-2), 2) := by decide +kernel
theorem dX10_car_11 : decode cX10_car 11 = .ok (.invokevirtual 97, 3) := by decide +kernel
theorem dX10_car_14 : decode cX10_car 14 = .ok (.ireturn, 1) := by decide +kernel
theorem dX10_car_15 : decode cX10_car 15 = .ok (.iload_n 2, 1) := by decide +kernel
theorem dX10_car_16 : decode cX10_car 16 = .ok (.tableswitch 84 0 3 #[32, 45, 58, 71], 32) := by decide +kernel
theorem dX10_car_48 : decode cX10_car 48 = .ok (.aload_n 0, 1) := by decide +kernel
theorem dX10_car_49 : decode cX10_car 49 = .ok (.getfield 23, 3) := by decide +kernel
theorem dX10_car_52 : decode cX10_car 52 = .ok (.getfield 37, 3) := by decide +kernel
theorem dX10_car_55 : decode cX10_car 55 = .ok (.getfield 141, 3) := by decide +kernel
theorem dX10_car_58 : decode cX10_car 58 = .ok (.iload_n 1, 1) := by decide +kernel
theorem dX10_car_59 : decode cX10_car 59 = .ok (.iaload, 1) := by decide +kernel
theorem dX10_car_60 : decode cX10_car 60 = .ok (.ireturn, 1) := by decide +kernel
theorem dX10_car_61 : decode cX10_car 61 = .ok (.aload_n 0, 1) := by decide +kernel
theorem dX10_car_62 : decode cX10_car 62 = .ok (.getfield 23, 3) := by decide +kernel
theorem dX10_car_65 : decode cX10_car 65 = .ok (.getfield 37, 3) := by decide +kernel
theorem dX10_car_68 : decode cX10_car 68 = .ok (.getfield 144, 3) := by decide +kernel
theorem dX10_car_71 : decode cX10_car 71 = .ok (.iload_n 1, 1) := by decide +kernel
theorem dX10_car_72 : decode cX10_car 72 = .ok (.iaload, 1) := by decide +kernel
theorem dX10_car_73 : decode cX10_car 73 = .ok (.ireturn, 1) := by decide +kernel
theorem dX10_car_74 : decode cX10_car 74 = .ok (.aload_n 0, 1) := by decide +kernel
theorem dX10_car_75 : decode cX10_car 75 = .ok (.getfield 23, 3) := by decide +kernel
theorem dX10_car_78 : decode cX10_car 78 = .ok (.getfield 37, 3) := by decide +kernel
theorem dX10_car_81 : decode cX10_car 81 = .ok (.getfield 147, 3) := by decide +kernel
theorem dX10_car_84 : decode cX10_car 84 = .ok (.iload_n 1, 1) := by decide +kernel
theorem dX10_car_85 : decode cX10_car 85 = .ok (.iaload, 1) := by decide +kernel
theorem dX10_car_86 : decode cX10_car 86 = .ok (.ireturn, 1) := by decide +kernel
theorem dX10_car_87 : decode cX10_car 87 = .ok (.aload_n 0, 1) := by decide +kernel
theorem dX10_car_88 : decode cX10_car 88 = .ok (.getfield 23, 3) := by decide +kernel
theorem dX10_car_91 : decode cX10_car 91 = .ok (.getfield 37, 3) := by decide +kernel
theorem dX10_car_94 : decode cX10_car 94 = .ok (.getfield 150, 3) := by decide +kernel
theorem dX10_car_97 : decode cX10_car 97 = .ok (.iload_n 1, 1) := by decide +kernel
theorem dX10_car_98 : decode cX10_car 98 = .ok (.iaload, 1) := by decide +kernel
theorem dX10_car_99 : decode cX10_car 99 = .ok (.ireturn, 1) := by decide +kernel
theorem dX10_car_100 : decode cX10_car 100 = .ok (.aload_n 0, 1) := by decide +kernel
theorem dX10_car_101 : decode cX10_car 101 = .ok (.bipush (-2), 2) := by decide +kernel
theorem dX10_car_103 : decode cX10_car 103 = .ok (.invokevirtual 97, 3) := by decide +kernel
theorem dX10_car_106 : decode cX10_car 106 = .ok (.ireturn, 1) := by decide +kernel
theorem dX10_trait_0 : decode cX10_trait 0 = .ok (.iload_n 1, 1) := by decide +kernel
theorem dX10_trait_1 : decode cX10_trait 1 = .ok (.ifCond .lt 9, 3) := by decide +kernel
theorem dX10_trait_4 : decode cX10_trait 4 = .ok (.iload_n 1, 1) := by decide +kernel
theorem dX10_trait_5 : decode cX10_trait 5 = .ok (.bipush 8, 2) := by decide +kernel
theorem dX10_trait_7 : decode cX10_trait 7 = .ok (.if_icmp .lt 10, 3) := by decide +kernel
