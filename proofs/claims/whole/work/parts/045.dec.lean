theorem dX11_mean_58 : decode cX11_mean 58 = .ok (.lload_n 2, 1) := by decide +kernel
theorem dX11_mean_59 : decode cX11_mean 59 = .ok (.ldiv, 1) := by decide +kernel
theorem dX11_mean_60 : decode cX11_mean 60 = .ok (.lreturn, 1) := by decide +kernel
theorem dX11_repeals_0 : decode cX11_repeals 0 = .ok (.aload_n 0, 1) := by decide +kernel
theorem dX11_repeals_1 : decode cX11_repeals 1 = .ok (.iconst 0, 1) := by decide +kernel
theorem dX11_repeals_2 : decode cX11_repeals 2 = .ok (.putfield 1, 3) := by decide +kernel
theorem dX11_repeals_5 : decode cX11_repeals 5 = .ok (.iload_n 1, 1) := by decide +kernel
theorem dX11_repeals_6 : decode cX11_repeals 6 = .ok (.i2l, 1) := by decide +kernel
theorem dX11_repeals_7 : decode cX11_repeals 7 = .ok (.lconst 0, 1) := by decide +kernel
theorem dX11_repeals_8 : decode cX11_repeals 8 = .ok (.aload_n 0, 1) := by decide +kernel
theorem dX11_repeals_9 : decode cX11_repeals 9 = .ok (.getfield 17, 3) := by decide +kernel
theorem dX11_repeals_12 : decode cX11_repeals 12 = .ok (.bipush 40, 2) := by decide +kernel
theorem dX11_repeals_14 : decode cX11_repeals 14 = .ok (.iaload, 1) := by decide +kernel
theorem dX11_repeals_15 : decode cX11_repeals 15 = .ok (.iconst 1, 1) := by decide +kernel
theorem dX11_repeals_16 : decode cX11_repeals 16 = .ok (.isub, 1) := by decide +kernel
theorem dX11_repeals_17 : decode cX11_repeals 17 = .ok (.i2l, 1) := by decide +kernel
theorem dX11_repeals_18 : decode cX11_repeals 18 = .ok (.invokestatic 152, 3) := by decide +kernel
theorem dX11_repeals_21 : decode cX11_repeals 21 = .ok (.ifCond .ne 11, 3) := by decide +kernel
theorem dX11_repeals_24 : decode cX11_repeals 24 = .ok (.aload_n 0, 1) := by decide +kernel
theorem dX11_repeals_25 : decode cX11_repeals 25 = .ok (.bipush (-2), 2) := by decide +kernel
theorem dX11_repeals_27 : decode cX11_repeals 27 = .ok (.invokevirtual 89, 3) := by decide +kernel
theorem dX11_repeals_30 : decode cX11_repeals 30 = .ok (.i2l, 1) := by decide +kernel
theorem dX11_repeals_31 : decode cX11_repeals 31 = .ok (.lreturn, 1) := by decide +kernel
theorem dX11_repeals_32 : decode cX11_repeals 32 = .ok (.aload_n 0, 1) := by decide +kernel
theorem dX11_repeals_33 : decode cX11_repeals 33 = .ok (.iload_n 1, 1) := by decide +kernel
theorem dX11_repeals_34 : decode cX11_repeals 34 = .ok (.putfield 42, 3) := by decide +kernel
theorem dX11_repeals_37 : decode cX11_repeals 37 = .ok (.aload_n 0, 1) := by decide +kernel
theorem dX11_repeals_38 : decode cX11_repeals 38 = .ok (.iconst 0, 1) := by decide +kernel
theorem dX11_repeals_39 : decode cX11_repeals 39 = .ok (.invokevirtual 299, 3) := by decide +kernel
theorem dX11_repeals_42 : decode cX11_repeals 42 = .ok (.lstore_n 2, 1) := by decide +kernel
theorem dX11_repeals_43 : decode cX11_repeals 43 = .ok (.aload_n 0, 1) := by decide +kernel
theorem dX11_repeals_44 : decode cX11_repeals 44 = .ok (.iconst (-1), 1) := by decide +kernel
theorem dX11_repeals_45 : decode cX11_repeals 45 = .ok (.putfield 42, 3) := by decide +kernel
theorem dX11_repeals_48 : decode cX11_repeals 48 = .ok (.lload_n 2, 1) := by decide +kernel
theorem dX11_repeals_49 : decode cX11_repeals 49 = .ok (.aload_n 0, 1) := by decide +kernel
theorem dX11_repeals_50 : decode cX11_repeals 50 = .ok (.iconst 0, 1) := by decide +kernel
theorem dX11_repeals_51 : decode cX11_repeals 51 = .ok (.invokevirtual 299, 3) := by decide +kernel
theorem dX11_repeals_54 : decode cX11_repeals 54 = .ok (.lsub, 1) := by decide +kernel
theorem dX11_repeals_55 : decode cX11_repeals 55 = .ok (.lreturn, 1) := by decide +kernel
theorem dX11_absent_0 : decode cX11_absent 0 = .ok (.aload_n 0, 1) := by decide +kernel
theorem dX11_absent_1 : decode cX11_absent 1 = .ok (.iconst 0, 1) := by decide +kernel
theorem dX11_absent_2 : decode cX11_absent 2 = .ok (.putfield 1, 3) := by decide +kernel
theorem dX11_absent_5 : decode cX11_absent 5 = .ok (.aload_n 0, 1) := by decide +kernel
theorem dX11_absent_6 : decode cX11_absent 6 = .ok (.iload_n 1, 1) := by decide +kernel
theorem dX11_absent_7 : decode cX11_absent 7 = .ok (.invokevirtual 210, 3) := by decide +kernel
theorem dX11_absent_10 : decode cX11_absent 10 = .ok (.ifCond .ne 11, 3) := by decide +kernel
theorem dX11_absent_13 : decode cX11_absent 13 = .ok (.aload_n 0, 1) := by decide +kernel
theorem dX11_absent_14 : decode cX11_absent 14 = .ok (.bipush (-2), 2) := by decide +kernel
theorem dX11_absent_16 : decode cX11_absent 16 = .ok (.invokevirtual 89, 3) := by decide +kernel
theorem dX11_absent_19 : decode cX11_absent 19 = .ok (.i2l, 1) := by decide +kernel
theorem dX11_absent_20 : decode cX11_absent 20 = .ok (.lreturn, 1) := by decide +kernel
theorem dX11_absent_21 : decode cX11_absent 21 = .ok (.aload_n 0, 1) := by decide +kernel
theorem dX11_absent_22 : decode cX11_absent 22 = .ok (.iload_n 1, 1) := by decide +kernel
theorem dX11_absent_23 : decode cX11_absent 23 = .ok (.putfield 45, 3) := by decide +kernel
theorem dX11_absent_26 : decode cX11_absent 26 = .ok (.aload_n 0, 1) := by decide +kernel
theorem dX11_absent_27 : decode cX11_absent 27 = .ok (.invokevirtual 296, 3) := by decide +kernel
theorem dX11_absent_30 : decode cX11_absent 30 = .ok (.aload_n 0, 1) := by decide +kernel
theorem dX11_absent_31 : decode cX11_absent 31 = .ok (.getfield 54, 3) := by decide +kernel
theorem dX11_absent_34 : decode cX11_absent 34 = .ok (.iconst 1, 1) := by decide +kernel
theorem dX11_absent_35 : decode cX11_absent 35 = .ok (.laload, 1) := by decide +kernel
theorem dX11_absent_36 : decode cX11_absent 36 = .ok (.lstore_n 2, 1) := by decide +kernel
theorem dX11_absent_37 : decode cX11_absent 37 = .ok (.aload_n 0, 1) := by decide +kernel
theorem dX11_absent_38 : decode cX11_absent 38 = .ok (.iconst (-1), 1) := by decide +kernel
theorem dX11_absent_39 : decode cX11_absent 39 = .ok (.putfield 45, 3) := by decide +kernel
theorem dX11_absent_42 : decode cX11_absent 42 = .ok (.aload_n 0, 1) := by decide +kernel
theorem dX11_absent_43 : decode cX11_absent 43 = .ok (.invokevirtual 296, 3) := by decide +kernel
theorem dX11_absent_46 : decode cX11_absent 46 = .ok (.lload_n 2, 1) := by decide +kernel
theorem dX11_absent_47 : decode cX11_absent 47 = .ok (.aload_n 0, 1) := by decide +kernel
theorem dX11_absent_48 : decode cX11_absent 48 = .ok (.getfield 54, 3) := by decide +kernel
theorem dX11_absent_51 : decode cX11_absent 51 = .ok (.iconst 1, 1) := by decide +kernel
theorem dX11_absent_52 : decode cX11_absent 52 = .ok (.laload, 1) := by decide +kernel
theorem dX11_absent_53 : decode cX11_absent 53 = .ok (.lsub, 1) := by decide +kernel
theorem dX11_absent_54 : decode cX11_absent 54 = .ok (.lreturn, 1) := by decide +kernel
theorem dX11_margin_0 : decode cX11_margin 0 = .ok (.aload_n 0, 1) := by decide +kernel
theorem dX11_margin_1 : decode cX11_margin 1 = .ok (.iconst 0, 1) := by decide +kernel
theorem dX11_margin_2 : decode cX11_margin 2 = .ok (.putfield 1, 3) := by decide +kernel
theorem dX11_margin_5 : decode cX11_margin 5 = .ok (.aload_n 0, 1) := by decide +kernel
theorem dX11_margin_6 : decode cX11_margin 6 = .ok (.iload_n 1, 1) := by decide +kernel
theorem dX11_margin_7 : decode cX11_margin 7 = .ok (.invokevirtual 240, 3) := by decide +kernel
theorem dX11_margin_10 : decode cX11_margin 10 = .ok (.iconst (-1), 1) := by decide +kernel
theorem dX11_margin_11 : decode cX11_margin 11 = .ok (.istore_n 2, 1) := by decide +kernel
theorem dX11_margin_12 : decode cX11_margin 12 = .ok (.aload_n 0, 1) := by decide +kernel
theorem dX11_margin_13 : decode cX11_margin 13 = .ok (.getfield 33, 3) := by decide +kernel
theorem dX11_margin_16 : decode cX11_margin 16 = .ok (.bipush 37, 2) := by decide +kernel
theorem dX11_margin_18 : decode cX11_margin 18 = .ok (.iaload, 1) := by decide +kernel
theorem dX11_margin_19 : decode cX11_margin 19 = .ok (.ifCond .ne 100, 3) := by decide +kernel
theorem dX11_margin_22 : decode cX11_margin 22 = .ok (.aload_n 0, 1) := by decide +kernel
theorem dX11_margin_23 : decode cX11_margin 23 = .ok (.iconst 1, 1) := by decide +kernel
theorem dX11_margin_24 : decode cX11_margin 24 = .ok (.invokevirtual 268, 3) := by decide +kernel
theorem dX11_margin_27 : decode cX11_margin 27 = .ok (.pop, 1) := by decide +kernel
theorem dX11_margin_28 : decode cX11_margin 28 = .ok (.aload_n 0, 1) := by decide +kernel
theorem dX11_margin_29 : decode cX11_margin 29 = .ok (.invokevirtual 272, 3) := by decide +kernel
theorem dX11_margin_32 : decode cX11_margin 32 = .ok (.iconst 0, 1) := by decide +kernel
theorem dX11_margin_33 : decode cX11_margin 33 = .ok (.istore_n 3, 1) := by decide +kernel
theorem dX11_margin_34 : decode cX11_margin 34 = .ok (.iload_n 3, 1) := by decide +kernel
theorem dX11_margin_35 : decode cX11_margin 35 = .ok (.aload_n 0, 1) := by decide +kernel
theorem dX11_margin_36 : decode cX11_margin 36 = .ok (.getfield 17, 3) := by decide +kernel
theorem dX11_margin_39 : decode cX11_margin 39 = .ok (.iconst 1, 1) := by decide +kernel
theorem dX11_margin_40 : decode cX11_margin 40 = .ok (.iaload, 1) := by decide +kernel
theorem dX11_margin_41 : decode cX11_margin 41 = .ok (.if_icmp .ge 75, 3) := by decide +kernel
theorem dX11_margin_44 : decode cX11_margin 44 = .ok (.aload_n 0, 1) := by decide +kernel
theorem dX11_margin_45 : decode cX11_margin 45 = .ok (.getfield 33, 3) := by decide +kernel
theorem dX11_margin_48 : decode cX11_margin 48 = .ok (.bipush 33, 2) := by decide +kernel
theorem dX11_margin_50 : decode cX11_margin 50 = .ok (.iaload, 1) := by decide +kernel
theorem dX11_margin_51 : decode cX11_margin 51 = .ok (.iconst 1, 1) := by decide +kernel
theorem dX11_margin_52 : decode cX11_margin 52 = .ok (.if_icmp .ne 64, 3) := by decide +kernel
theorem dX11_margin_55 : decode cX11_margin 55 = .ok (.aload_n 0, 1) := by decide +kernel
theorem dX11_margin_56 : decode cX11_margin 56 = .ok (.getfield 17, 3) := by decide +kernel
theorem dX11_margin_59 : decode cX11_margin 59 = .ok (.iconst 2, 1) := by decide +kernel
theorem dX11_margin_60 : decode cX11_margin 60 = .ok (.iload_n 3, 1) := by decide +kernel
theorem dX11_margin_61 : decode cX11_margin 61 = .ok (.iadd, 1) := by decide +kernel
theorem dX11_margin_62 : decode cX11_margin 62 = .ok (.iaload, 1) := by decide +kernel
theorem dX11_margin_63 : decode cX11_margin 63 = .ok (.aload_n 0, 1) := by decide +kernel
theorem dX11_margin_64 : decode cX11_margin 64 = .ok (.getfield 33, 3) := by decide +kernel
theorem dX11_margin_67 : decode cX11_margin 67 = .ok (.bipush 32, 2) := by decide +kernel
theorem dX11_margin_69 : decode cX11_margin 69 = .ok (.iaload, 1) := by decide +kernel
theorem dX11_margin_70 : decode cX11_margin 70 = .ok (.if_icmp .ne 40, 3) := by decide +kernel
theorem dX11_margin_73 : decode cX11_margin 73 = .ok (.aload_n 0, 1) := by decide +kernel
theorem dX11_margin_74 : decode cX11_margin 74 = .ok (.getfield 33, 3) := by decide +kernel
theorem dX11_margin_77 : decode cX11_margin 77 = .ok (.iconst 0, 1) := by decide +kernel
theorem dX11_margin_78 : decode cX11_margin 78 = .ok (.iload_n 3, 1) := by decide +kernel
theorem dX11_margin_79 : decode cX11_margin 79 = .ok (.iadd, 1) := by decide +kernel
theorem dX11_margin_80 : decode cX11_margin 80 = .ok (.iaload, 1) := by decide +kernel
theorem dX11_margin_81 : decode cX11_margin 81 = .ok (.ifCond .le 29, 3) := by decide +kernel
theorem dX11_margin_84 : decode cX11_margin 84 = .ok (.iload_n 2, 1) := by decide +kernel
theorem dX11_margin_85 : decode cX11_margin 85 = .ok (.iconst (-1), 1) := by decide +kernel
theorem dX11_margin_86 : decode cX11_margin 86 = .ok (.if_icmp .eq 15, 3) := by decide +kernel
theorem dX11_margin_89 : decode cX11_margin 89 = .ok (.aload_n 0, 1) := by decide +kernel
theorem dX11_margin_90 : decode cX11_margin 90 = .ok (.getfield 33, 3) := by decide +kernel
theorem dX11_margin_93 : decode cX11_margin 93 = .ok (.iconst 0, 1) := by decide +kernel
theorem dX11_margin_94 : decode cX11_margin 94 = .ok (.iload_n 3, 1) := by decide +kernel
theorem dX11_margin_95 : decode cX11_margin 95 = .ok (.iadd, 1) := by decide +kernel
theorem dX11_margin_96 : decode cX11_margin 96 = .ok (.iaload, 1) := by decide +kernel
theorem dX11_margin_97 : decode cX11_margin 97 = .ok (.iload_n 2, 1) := by decide +kernel
theorem dX11_margin_98 : decode cX11_margin 98 = .ok (.if_icmp .ge 12, 3) := by decide +kernel
theorem dX11_margin_101 : decode cX11_margin 101 = .ok (.aload_n 0, 1) := by decide +kernel
theorem dX11_margin_102 : decode cX11_margin 102 = .ok (.getfield 33, 3) := by decide +kernel
theorem dX11_margin_105 : decode cX11_margin 105 = .ok (.iconst 0, 1) := by decide +kernel
theorem dX11_margin_106 : decode cX11_margin 106 = .ok (.iload_n 3, 1) := by decide +kernel
theorem dX11_margin_107 : decode cX11_margin 107 = .ok (.iadd, 1) := by decide +kernel
theorem dX11_margin_108 : decode cX11_margin 108 = .ok (.iaload, 1) := by decide +kernel
theorem dX11_margin_109 : decode cX11_margin 109 = .ok (.istore_n 2, 1) := by decide +kernel
theorem dX11_margin_110 : decode cX11_margin 110 = .ok (.iinc 3 1, 3) := by decide +kernel
theorem dX11_margin_113 : decode cX11_margin 113 = .ok (.goto (-79), 3) := by decide +kernel
theorem dX11_margin_116 : decode cX11_margin 116 = .ok (.goto (-104), 3) := by decide +kernel
theorem dX11_margin_119 : decode cX11_margin 119 = .ok (.iload_n 2, 1) := by decide +kernel
theorem dX11_margin_120 : decode cX11_margin 120 = .ok (.ireturn, 1) := by decide +kernel
theorem dX11_place_0 : decode cX11_place 0 = .ok (.aload_n 0, 1) := by decide +kernel
theorem dX11_place_1 : decode cX11_place 1 = .ok (.iconst 0, 1) := by decide +kernel
theorem dX11_place_2 : decode cX11_place 2 = .ok (.putfield 1, 3) := by decide +kernel
theorem dX11_place_5 : decode cX11_place 5 = .ok (.aload_n 0, 1) := by decide +kernel
theorem dX11_place_6 : decode cX11_place 6 = .ok (.getfield 17, 3) := by decide +kernel
theorem dX11_place_9 : decode cX11_place 9 = .ok (.sipush 477, 3) := by decide +kernel
theorem dX11_place_12 : decode cX11_place 12 = .ok (.iaload, 1) := by decide +kernel
theorem dX11_place_13 : decode cX11_place 13 = .ok (.bipush 12, 2) := by decide +kernel
theorem dX11_place_15 : decode cX11_place 15 = .ok (.if_icmp .ne 10, 3) := by decide +kernel
theorem dX11_place_18 : decode cX11_place 18 = .ok (.aload_n 0, 1) := by decide +kernel
theorem dX11_place_19 : decode cX11_place 19 = .ok (.bipush (-5), 2) := by decide +kernel
theorem dX11_place_21 : decode cX11_place 21 = .ok (.invokevirtual 89, 3) := by decide +kernel
theorem dX11_place_24 : decode cX11_place 24 = .ok (.ireturn, 1) := by decide +kernel
theorem dX11_place_25 : decode cX11_place 25 = .ok (.iload_n 2, 1) := by decide +kernel
theorem dX11_place_26 : decode cX11_place 26 = .ok (.i2l, 1) := by decide +kernel
theorem dX11_place_27 : decode cX11_place 27 = .ok (.lconst 0, 1) := by decide +kernel
theorem dX11_place_28 : decode cX11_place 28 = .ok (.ldc2_w 314, 3) := by decide +kernel
theorem dX11_place_31 : decode cX11_place 31 = .ok (.invokestatic 152, 3) := by decide +kernel
theorem dX11_place_34 : decode cX11_place 34 = .ok (.ifCond .eq 39, 3) := by decide +kernel
theorem dX11_place_37 : decode cX11_place 37 = .ok (.iload_n 3, 1) := by decide +kernel
theorem dX11_place_38 : decode cX11_place 38 = .ok (.i2l, 1) := by decide +kernel
theorem dX11_place_39 : decode cX11_place 39 = .ok (.lconst 0, 1) := by decide +kernel
theorem dX11_place_40 : decode cX11_place 40 = .ok (.ldc2_w 314, 3) := by decide +kernel
theorem dX11_place_43 : decode cX11_place 43 = .ok (.invokestatic 152, 3) := by decide +kernel
theorem dX11_place_46 : decode cX11_place 46 = .ok (.ifCond .eq 27, 3) := by decide +kernel
theorem dX11_place_49 : decode cX11_place 49 = .ok (.iload 4, 2) := by decide +kernel
theorem dX11_place_51 : decode cX11_place 51 = .ok (.i2l, 1) := by decide +kernel
theorem dX11_place_52 : decode cX11_place 52 = .ok (.lconst 0, 1) := by decide +kernel
theorem dX11_place_53 : decode cX11_place 53 = .ok (.iload_n 2, 1) := by decide +kernel
theorem dX11_place_54 : decode cX11_place 54 = .ok (.i2l, 1) := by decide +kernel
theorem dX11_place_55 : decode cX11_place 55 = .ok (.invokestatic 152, 3) := by decide +kernel
theorem dX11_place_58 : decode cX11_place 58 = .ok (.ifCond .eq 15, 3) := by decide +kernel
theorem dX11_place_61 : decode cX11_place 61 = .ok (.iload 5, 2) := by decide +kernel
theorem dX11_place_63 : decode cX11_place 63 = .ok (.i2l, 1) := by decide +kernel
theorem dX11_place_64 : decode cX11_place 64 = .ok (.lconst 0, 1) := by decide +kernel
theorem dX11_place_65 : decode cX11_place 65 = .ok (.iload_n 3, 1) := by decide +kernel
theorem dX11_place_66 : decode cX11_place 66 = .ok (.i2l, 1) := by decide +kernel
theorem dX11_place_67 : decode cX11_place 67 = .ok (.invokestatic 152, 3) := by decide +kernel
theorem dX11_place_70 : decode cX11_place 70 = .ok (.ifCond .ne 10, 3) := by decide +kernel
theorem dX11_place_73 : decode cX11_place 73 = .ok (.aload_n 0, 1) := by decide +kernel
theorem dX11_place_74 : decode cX11_place 74 = .ok (.bipush (-3), 2) := by decide +kernel
theorem dX11_place_76 : decode cX11_place 76 = .ok (.invokevirtual 89, 3) := by decide +kernel
theorem dX11_place_79 : decode cX11_place 79 = .ok (.ireturn, 1) := by decide +kernel
theorem dX11_place_80 : decode cX11_place 80 = .ok (.aload_n 0, 1) := by decide +kernel
theorem dX11_place_81 : decode cX11_place 81 = .ok (.getfield 17, 3) := by decide +kernel
theorem dX11_place_84 : decode cX11_place 84 = .ok (.sipush 477, 3) := by decide +kernel
theorem dX11_place_87 : decode cX11_place 87 = .ok (.iaload, 1) := by decide +kernel
theorem dX11_place_88 : decode cX11_place 88 = .ok (.istore 6, 2) := by decide +kernel
theorem dX11_place_90 : decode cX11_place 90 = .ok (.aload_n 0, 1) := by decide +kernel
theorem dX11_place_91 : decode cX11_place 91 = .ok (.getfield 17, 3) := by decide +kernel
theorem dX11_place_94 : decode cX11_place 94 = .ok (.sipush 478, 3) := by decide +kernel
theorem dX11_place_97 : decode cX11_place 97 = .ok (.iload 6, 2) := by decide +kernel
theorem dX11_place_99 : decode cX11_place 99 = .ok (.iadd, 1) := by decide +kernel
theorem dX11_place_100 : decode cX11_place 100 = .ok (.iload_n 1, 1) := by decide +kernel
theorem dX11_place_101 : decode cX11_place 101 = .ok (.ifCond .eq 7, 3) := by decide +kernel
theorem dX11_place_104 : decode cX11_place 104 = .ok (.iconst 1, 1) := by decide +kernel
theorem dX11_place_105 : decode cX11_place 105 = .ok (.goto 4, 3) := by decide +kernel
theorem dX11_place_108 : decode cX11_place 108 = .ok (.iconst 0, 1) := by decide +kernel
theorem dX11_place_109 : decode cX11_place 109 = .ok (.iastore, 1) := by decide +kernel
theorem dX11_place_110 : decode cX11_place 110 = .ok (.aload_n 0, 1) := by decide +kernel
theorem dX11_place_111 : decode cX11_place 111 = .ok (.getfield 17, 3) := by decide +kernel
theorem dX11_place_114 : decode cX11_place 114 = .ok (.sipush 490, 3) := by decide +kernel
theorem dX11_place_117 : decode cX11_place 117 = .ok (.iload 6, 2) := by decide +kernel
theorem dX11_place_119 : decode cX11_place 119 = .ok (.iadd, 1) := by decide +kernel
theorem dX11_place_120 : decode cX11_place 120 = .ok (.iload_n 2, 1) := by decide +kernel
theorem dX11_place_121 : decode cX11_place 121 = .ok (.iastore, 1) := by decide +kernel
theorem dX11_place_122 : decode cX11_place 122 = .ok (.aload_n 0, 1) := by decide +kernel
theorem dX11_place_123 : decode cX11_place 123 = .ok (.getfield 17, 3) := by decide +kernel
theorem dX11_place_126 : decode cX11_place 126 = .ok (.sipush 502, 3) := by decide +kernel
theorem dX11_place_129 : decode cX11_place 129 = .ok (.iload 6, 2) := by decide +kernel
theorem dX11_place_131 : decode cX11_place 131 = .ok (.iadd, 1) := by decide +kernel
theorem dX11_place_132 : decode cX11_place 132 = .ok (.iload_n 3, 1) := by decide +kernel
theorem dX11_place_133 : decode cX11_place 133 = .ok (.iastore, 1) := by decide +kernel
theorem dX11_place_134 : decode cX11_place 134 = .ok (.aload_n 0, 1) := by decide +kernel
theorem dX11_place_135 : decode cX11_place 135 = .ok (.getfield 17, 3) := by decide +kernel
theorem dX11_place_138 : decode cX11_place 138 = .ok (.sipush 514, 3) := by decide +kernel
theorem dX11_place_141 : decode cX11_place 141 = .ok (.iload 6, 2) := by decide +kernel
theorem dX11_place_143 : decode cX11_place 143 = .ok (.iadd, 1) := by decide +kernel
theorem dX11_place_144 : decode cX11_place 144 = .ok (.iload 4, 2) := by decide +kernel
theorem dX11_place_146 : decode cX11_place 146 = .ok (.iastore, 1) := by decide +kernel
theorem dX11_place_147 : decode cX11_place 147 = .ok (.aload_n 0, 1) := by decide +kernel
theorem dX11_place_148 : decode cX11_place 148 = .ok (.getfield 17, 3) := by decide +kernel
theorem dX11_place_151 : decode cX11_place 151 = .ok (.sipush 526, 3) := by decide +kernel
theorem dX11_place_154 : decode cX11_place 154 = .ok (.iload 6, 2) := by decide +kernel
theorem dX11_place_156 : decode cX11_place 156 = .ok (.iadd, 1) := by decide +kernel
theorem dX11_place_157 : decode cX11_place 157 = .ok (.iload 5, 2) := by decide +kernel
theorem dX11_place_159 : decode cX11_place 159 = .ok (.iastore, 1) := by decide +kernel
theorem dX11_place_160 : decode cX11_place 160 = .ok (.aload_n 0, 1) := by decide +kernel
theorem dX11_place_161 : decode cX11_place 161 = .ok (.getfield 17, 3) := by decide +kernel
theorem dX11_place_164 : decode cX11_place 164 = .ok (.sipush 538, 3) := by decide +kernel
theorem dX11_place_167 : decode cX11_place 167 = .ok (.iload 6, 2) := by decide +kernel
theorem dX11_place_169 : decode cX11_place 169 = .ok (.iadd, 1) := by decide +kernel
theorem dX11_place_170 : decode cX11_place 170 = .ok (.iconst 0, 1) := by decide +kernel
theorem dX11_place_171 : decode cX11_place 171 = .ok (.iastore, 1) := by decide +kernel
theorem dX11_place_172 : decode cX11_place 172 = .ok (.aload_n 0, 1) := by decide +kernel
theorem dX11_place_173 : decode cX11_place 173 = .ok (.getfield 17, 3) := by decide +kernel
theorem dX11_place_176 : decode cX11_place 176 = .ok (.sipush 477, 3) := by decide +kernel
theorem dX11_place_179 : decode cX11_place 179 = .ok (.dup2, 1) := by decide +kernel
theorem dX11_place_180 : decode cX11_place 180 = .ok (.iaload, 1) := by decide +kernel
theorem dX11_place_181 : decode cX11_place 181 = .ok (.iconst 1, 1) := by decide +kernel
theorem dX11_place_182 : decode cX11_place 182 = .ok (.iadd, 1) := by decide +kernel
theorem dX11_place_183 : decode cX11_place 183 = .ok (.iastore, 1) := by decide +kernel
theorem dX11_place_184 : decode cX11_place 184 = .ok (.iload 6, 2) := by decide +kernel
theorem dX11_place_186 : decode cX11_place 186 = .ok (.ireturn, 1) := by decide +kernel
theorem dX11_isPlace_0 : decode cX11_isPlace 0 = .ok (.iload_n 1, 1) := by decide +kernel
theorem dX11_isPlace_1 : decode cX11_isPlace 1 = .ok (.i2l, 1) := by decide +kernel
theorem dX11_isPlace_2 : decode cX11_isPlace 2 = .ok (.lconst 0, 1) := by decide +kernel
theorem dX11_isPlace_3 : decode cX11_isPlace 3 = .ok (.aload_n 0, 1) := by decide +kernel
theorem dX11_isPlace_4 : decode cX11_isPlace 4 = .ok (.getfield 17, 3) := by decide +kernel
theorem dX11_isPlace_7 : decode cX11_isPlace 7 = .ok (.sipush 477, 3) := by decide +kernel
theorem dX11_isPlace_10 : decode cX11_isPlace 10 = .ok (.iaload, 1) := by decide +kernel
theorem dX11_isPlace_11 : decode cX11_isPlace 11 = .ok (.iconst 1, 1) := by decide +kernel
theorem dX11_isPlace_12 : decode cX11_isPlace 12 = .ok (.isub, 1) := by decide +kernel
theorem dX11_isPlace_13 : decode cX11_isPlace 13 = .ok (.i2l, 1) := by decide +kernel
theorem dX11_isPlace_14 : decode cX11_isPlace 14 = .ok (.invokestatic 152, 3) := by decide +kernel
theorem dX11_isPlace_17 : decode cX11_isPlace 17 = .ok (.ireturn, 1) := by decide +kernel
theorem dX11_behind_0 : decode cX11_behind 0 = .ok (.aload_n 0, 1) := by decide +kernel
theorem dX11_behind_1 : decode cX11_behind 1 = .ok (.iconst 0, 1) := by decide +kernel
theorem dX11_behind_2 : decode cX11_behind 2 = .ok (.putfield 1, 3) := by decide +kernel
theorem dX11_behind_5 : decode cX11_behind 5 = .ok (.aload_n 0, 1) := by decide +kernel
theorem dX11_behind_6 : decode cX11_behind 6 = .ok (.iload_n 1, 1) := by decide +kernel
theorem dX11_behind_7 : decode cX11_behind 7 = .ok (.invokevirtual 316, 3) := by decide +kernel
theorem dX11_behind_10 : decode cX11_behind 10 = .ok (.ifCond .ne 10, 3) := by decide +kernel
theorem dX11_behind_13 : decode cX11_behind 13 = .ok (.aload_n 0, 1) := by decide +kernel
theorem dX11_behind_14 : decode cX11_behind 14 = .ok (.bipush (-2), 2) := by decide +kernel
theorem dX11_behind_16 : decode cX11_behind 16 = .ok (.invokevirtual 89, 3) := by decide +kernel
theorem dX11_behind_19 : decode cX11_behind 19 = .ok (.ireturn, 1) := by decide +kernel
theorem dX11_behind_20 : decode cX11_behind 20 = .ok (.iload_n 2, 1) := by decide +kernel
theorem dX11_behind_21 : decode cX11_behind 21 = .ok (.i2l, 1) := by decide +kernel
theorem dX11_behind_22 : decode cX11_behind 22 = .ok (.lconst 0, 1) := by decide +kernel
theorem dX11_behind_23 : decode cX11_behind 23 = .ok (.ldc2_w 319, 3) := by decide +kernel
theorem dX11_behind_26 : decode cX11_behind 26 = .ok (.invokestatic 152, 3) := by decide +kernel
theorem dX11_behind_29 : decode cX11_behind 29 = .ok (.ifCond .ne 10, 3) := by decide +kernel
theorem dX11_behind_32 : decode cX11_behind 32 = .ok (.aload_n 0, 1) := by decide +kernel
theorem dX11_behind_33 : decode cX11_behind 33 = .ok (.bipush (-3), 2) := by decide +kernel
theorem dX11_behind_35 : decode cX11_behind 35 = .ok (.invokevirtual 89, 3) := by decide +kernel
theorem dX11_behind_38 : decode cX11_behind 38 = .ok (.ireturn, 1) := by decide +kernel
theorem dX11_behind_39 : decode cX11_behind 39 = .ok (.aload_n 0, 1) := by decide +kernel
theorem dX11_behind_40 : decode cX11_behind 40 = .ok (.getfield 17, 3) := by decide +kernel
theorem dX11_behind_43 : decode cX11_behind 43 = .ok (.sipush 538, 3) := by decide +kernel
theorem dX11_behind_46 : decode cX11_behind 46 = .ok (.iload_n 1, 1) := by decide +kernel
theorem dX11_behind_47 : decode cX11_behind 47 = .ok (.iadd, 1) := by decide +kernel
theorem dX11_behind_48 : decode cX11_behind 48 = .ok (.iaload, 1) := by decide +kernel
theorem dX11_behind_49 : decode cX11_behind 49 = .ok (.istore_n 3, 1) := by decide +kernel
theorem dX11_behind_50 : decode cX11_behind 50 = .ok (.aload_n 0, 1) := by decide +kernel
theorem dX11_behind_51 : decode cX11_behind 51 = .ok (.getfield 17, 3) := by decide +kernel
theorem dX11_behind_54 : decode cX11_behind 54 = .ok (.sipush 538, 3) := by decide +kernel
theorem dX11_behind_57 : decode cX11_behind 57 = .ok (.iload_n 1, 1) := by decide +kernel
theorem dX11_behind_58 : decode cX11_behind 58 = .ok (.iadd, 1) := by decide +kernel
theorem dX11_behind_59 : decode cX11_behind 59 = .ok (.iload_n 2, 1) := by decide +kernel
theorem dX11_behind_60 : decode cX11_behind 60 = .ok (.iastore, 1) := by decide +kernel
theorem dX11_behind_61 : decode cX11_behind 61 = .ok (.iload_n 3, 1) := by decide +kernel
theorem dX11_behind_62 : decode cX11_behind 62 = .ok (.ireturn, 1) := by decide +kernel
theorem dX11_at_0 : decode cX11_at 0 = .ok (.aload_n 0, 1) := by decide +kernel
theorem dX11_at_1 : decode cX11_at 1 = .ok (.iconst 0, 1) := by decide +kernel
theorem dX11_at_2 : decode cX11_at 2 = .ok (.putfield 1, 3) := by decide +kernel
theorem dX11_at_5 : decode cX11_at 5 = .ok (.aload_n 0, 1) := by decide +kernel
theorem dX11_at_6 : decode cX11_at 6 = .ok (.iload_n 1, 1) := by decide +kernel
theorem dX11_at_7 : decode cX11_at 7 = .ok (.invokevirtual 316, 3) := by decide +kernel
theorem dX11_at_10 : decode cX11_at 10 = .ok (.ifCond .eq 15, 3) := by decide +kernel
theorem dX11_at_13 : decode cX11_at 13 = .ok (.iload_n 2, 1) := by decide +kernel
theorem dX11_at_14 : decode cX11_at 14 = .ok (.i2l, 1) := by decide +kernel
theorem dX11_at_15 : decode cX11_at 15 = .ok (.lconst 0, 1) := by decide +kernel
theorem dX11_at_16 : decode cX11_at 16 = .ok (.ldc2_w 172, 3) := by decide +kernel
theorem dX11_at_19 : decode cX11_at 19 = .ok (.invokestatic 152, 3) := by decide +kernel
theorem dX11_at_22 : decode cX11_at 22 = .ok (.ifCond .ne 10, 3) := by decide +kernel
theorem dX11_at_25 : decode cX11_at 25 = .ok (.aload_n 0, 1) := by decide +kernel
theorem dX11_at_26 : decode cX11_at 26 = .ok (.bipush (-2), 2) := by decide +kernel
theorem dX11_at_28 : decode cX11_at 28 = .ok (.invokevirtual 89, 3) := by decide +kernel
theorem dX11_at_31 : decode cX11_at 31 = .ok (.ireturn, 1) := by decide +kernel
theorem dX11_at_32 : decode cX11_at 32 = .ok (.aload_n 0, 1) := by decide +kernel
theorem dX11_at_33 : decode cX11_at 33 = .ok (.getfield 17, 3) := by decide +kernel
theorem dX11_at_36 : decode cX11_at 36 = .ok (.sipush 478, 3) := by decide +kernel
theorem dX11_at_39 : decode cX11_at 39 = .ok (.bipush 12, 2) := by decide +kernel
theorem dX11_at_41 : decode cX11_at 41 = .ok (.iload_n 2, 1) := by decide +kernel
theorem dX11_at_42 : decode cX11_at 42 = .ok (.imul, 1) := by decide +kernel
theorem dX11_at_43 : decode cX11_at 43 = .ok (.iadd, 1) := by decide +kernel
theorem dX11_at_44 : decode cX11_at 44 = .ok (.iload_n 1, 1) := by decide +kernel
theorem dX11_at_45 : decode cX11_at 45 = .ok (.iadd, 1) := by decide +kernel
theorem dX11_at_46 : decode cX11_at 46 = .ok (.iaload, 1) := by decide +kernel
theorem dX11_at_47 : decode cX11_at 47 = .ok (.ireturn, 1) := by decide +kernel
theorem dX11_sumOf_0 : decode cX11_sumOf 0 = .ok (.lconst 0, 1) := by decide +kernel
theorem dX11_sumOf_1 : decode cX11_sumOf 1 = .ok (.lstore_n 3, 1) := by decide +kernel
theorem dX11_sumOf_2 : decode cX11_sumOf 2 = .ok (.iconst 0, 1) := by decide +kernel
theorem dX11_sumOf_3 : decode cX11_sumOf 3 = .ok (.istore 5, 2) := by decide +kernel
theorem dX11_sumOf_5 : decode cX11_sumOf 5 = .ok (.iload 5, 2) := by decide +kernel
theorem dX11_sumOf_7 : decode cX11_sumOf 7 = .ok (.aload_n 0, 1) := by decide +kernel
theorem dX11_sumOf_8 : decode cX11_sumOf 8 = .ok (.getfield 17, 3) := by decide +kernel
theorem dX11_sumOf_11 : decode cX11_sumOf 11 = .ok (.sipush 477, 3) := by decide +kernel
theorem dX11_sumOf_14 : decode cX11_sumOf 14 = .ok (.iaload, 1) := by decide +kernel
theorem dX11_sumOf_15 : decode cX11_sumOf 15 = .ok (.if_icmp .ge 46, 3) := by decide +kernel
theorem dX11_sumOf_18 : decode cX11_sumOf 18 = .ok (.lload_n 3, 1) := by decide +kernel
theorem dX11_sumOf_19 : decode cX11_sumOf 19 = .ok (.iload_n 2, 1) := by decide +kernel
theorem dX11_sumOf_20 : decode cX11_sumOf 20 = .ok (.iconst 2, 1) := by decide +kernel
theorem dX11_sumOf_21 : decode cX11_sumOf 21 = .ok (.if_icmp .eq 18, 3) := by decide +kernel
theorem dX11_sumOf_24 : decode cX11_sumOf 24 = .ok (.aload_n 0, 1) := by decide +kernel
theorem dX11_sumOf_25 : decode cX11_sumOf 25 = .ok (.getfield 17, 3) := by decide +kernel
theorem dX11_sumOf_28 : decode cX11_sumOf 28 = .ok (.sipush 478, 3) := by decide +kernel
theorem dX11_sumOf_31 : decode cX11_sumOf 31 = .ok (.iload 5, 2) := by decide +kernel
theorem dX11_sumOf_33 : decode cX11_sumOf 33 = .ok (.iadd, 1) := by decide +kernel
theorem dX11_sumOf_34 : decode cX11_sumOf 34 = .ok (.iaload, 1) := by decide +kernel
theorem dX11_sumOf_35 : decode cX11_sumOf 35 = .ok (.iload_n 2, 1) := by decide +kernel
theorem dX11_sumOf_36 : decode cX11_sumOf 36 = .ok (.if_icmp .ne 16, 3) := by decide +kernel
theorem dX11_sumOf_39 : decode cX11_sumOf 39 = .ok (.aload_n 0, 1) := by decide +kernel
theorem dX11_sumOf_40 : decode cX11_sumOf 40 = .ok (.getfield 17, 3) := by decide +kernel
theorem dX11_sumOf_43 : decode cX11_sumOf 43 = .ok (.iload_n 1, 1) := by decide +kernel
theorem dX11_sumOf_44 : decode cX11_sumOf 44 = .ok (.iload 5, 2) := by decide +kernel
theorem dX11_sumOf_46 : decode cX11_sumOf 46 = .ok (.iadd, 1) := by decide +kernel
theorem dX11_sumOf_47 : decode cX11_sumOf 47 = .ok (.iaload, 1) := by decide +kernel
theorem dX11_sumOf_48 : decode cX11_sumOf 48 = .ok (.i2l, 1) := by decide +kernel
theorem dX11_sumOf_49 : decode cX11_sumOf 49 = .ok (.goto 4, 3) := by decide +kernel
theorem dX11_sumOf_52 : decode cX11_sumOf 52 = .ok (.lconst 0, 1) := by decide +kernel
theorem dX11_sumOf_53 : decode cX11_sumOf 53 = .ok (.ladd, 1) := by decide +kernel
theorem dX11_sumOf_54 : decode cX11_sumOf 54 = .ok (.lstore_n 3, 1) := by decide +kernel
theorem dX11_sumOf_55 : decode cX11_sumOf 55 = .ok (.iinc 5 1, 3) := by decide +kernel
theorem dX11_sumOf_58 : decode cX11_sumOf 58 = .ok (.goto (-53), 3) := by decide +kernel
theorem dX11_sumOf_61 : decode cX11_sumOf 61 = .ok (.lload_n 3, 1) := by decide +kernel
theorem dX11_sumOf_62 : decode cX11_sumOf 62 = .ok (.lreturn, 1) := by decide +kernel
theorem dX11_common_0 : decode cX11_common 0 = .ok (.lload_n 0, 1) := by decide +kernel
theorem dX11_common_1 : decode cX11_common 1 = .ok (.lstore 4, 2) := by decide +kernel
theorem dX11_common_3 : decode cX11_common 3 = .ok (.lload_n 2, 1) := by decide +kernel
theorem dX11_common_4 : decode cX11_common 4 = .ok (.lstore 6, 2) := by decide +kernel
theorem dX11_common_6 : decode cX11_common 6 = .ok (.lload 6, 2) := by decide +kernel
theorem dX11_common_8 : decode cX11_common 8 = .ok (.lconst 0, 1) := by decide +kernel
theorem dX11_common_9 : decode cX11_common 9 = .ok (.lcmp, 1) := by decide +kernel
theorem dX11_common_10 : decode cX11_common 10 = .ok (.ifCond .eq 21, 3) := by decide +kernel
theorem dX11_common_13 : decode cX11_common 13 = .ok (.lload 4, 2) := by decide +kernel
theorem dX11_common_15 : decode cX11_common 15 = .ok (.lload 6, 2) := by decide +kernel
theorem dX11_common_17 : decode cX11_common 17 = .ok (.lrem, 1) := by decide +kernel
theorem dX11_common_18 : decode cX11_common 18 = .ok (.lstore 8, 2) := by decide +kernel
theorem dX11_common_20 : decode cX11_common 20 = .ok (.lload 6, 2) := by decide +kernel
theorem dX11_common_22 : decode cX11_common 22 = .ok (.lstore 4, 2) := by decide +kernel
theorem dX11_common_24 : decode cX11_common 24 = .ok (.lload 8, 2) := by decide +kernel
theorem dX11_common_26 : decode cX11_common 26 = .ok (.lstore 6, 2) := by decide +kernel
theorem dX11_common_28 : decode cX11_common 28 = .ok (.goto (-22), 3) := by decide +kernel
theorem dX11_common_31 : decode cX11_common 31 = .ok (.lload 4, 2) := by decide +kernel
theorem dX11_common_33 : decode cX11_common 33 = .ok (.lreturn, 1) := by decide +kernel
theorem dX11_rate_0 : decode cX11_rate 0 = .ok (.aload_n 0, 1) := by decide +kernel
theorem dX11_rate_1 : decode cX11_rate 1 = .ok (.iconst 0, 1) := by decide +kernel
theorem dX11_rate_2 : decode cX11_rate 2 = .ok (.putfield 1, 3) := by decide +kernel
theorem dX11_rate_5 : decode cX11_rate 5 = .ok (.iload_n 2, 1) := by decide +kernel
theorem dX11_rate_6 : decode cX11_rate 6 = .ok (.i2l, 1) := by decide +kernel
theorem dX11_rate_7 : decode cX11_rate 7 = .ok (.lconst 0, 1) := by decide +kernel
theorem dX11_rate_8 : decode cX11_rate 8 = .ok (.lconst 1, 1) := by decide +kernel
theorem dX11_rate_9 : decode cX11_rate 9 = .ok (.invokestatic 152, 3) := by decide +kernel
theorem dX11_rate_12 : decode cX11_rate 12 = .ok (.ifCond .ne 10, 3) := by decide +kernel
theorem dX11_rate_15 : decode cX11_rate 15 = .ok (.aload_n 0, 1) := by decide +kernel
theorem dX11_rate_16 : decode cX11_rate 16 = .ok (.bipush (-2), 2) := by decide +kernel
theorem dX11_rate_18 : decode cX11_rate 18 = .ok (.invokevirtual 89, 3) := by decide +kernel
theorem dX11_rate_21 : decode cX11_rate 21 = .ok (.ireturn, 1) := by decide +kernel
theorem dX11_rate_22 : decode cX11_rate 22 = .ok (.iload_n 1, 1) := by decide +kernel
theorem dX11_rate_23 : decode cX11_rate 23 = .ok (.ifCond .eq 7, 3) := by decide +kernel
theorem dX11_rate_26 : decode cX11_rate 26 = .ok (.iconst 1, 1) := by decide +kernel
theorem dX11_rate_27 : decode cX11_rate 27 = .ok (.goto 4, 3) := by decide +kernel
theorem dX11_rate_30 : decode cX11_rate 30 = .ok (.iconst 0, 1) := by decide +kernel
theorem dX11_rate_31 : decode cX11_rate 31 = .ok (.istore_n 3, 1) := by decide +kernel
theorem dX11_rate_32 : decode cX11_rate 32 = .ok (.aload_n 0, 1) := by decide +kernel
theorem dX11_rate_33 : decode cX11_rate 33 = .ok (.sipush 514, 3) := by decide +kernel
theorem dX11_rate_36 : decode cX11_rate 36 = .ok (.iload_n 3, 1) := by decide +kernel
theorem dX11_rate_37 : decode cX11_rate 37 = .ok (.invokevirtual 321, 3) := by decide +kernel
theorem dX11_rate_40 : decode cX11_rate 40 = .ok (.aload_n 0, 1) := by decide +kernel
theorem dX11_rate_41 : decode cX11_rate 41 = .ok (.sipush 526, 3) := by decide +kernel
theorem dX11_rate_44 : decode cX11_rate 44 = .ok (.iload_n 3, 1) := by decide +kernel
theorem dX11_rate_45 : decode cX11_rate 45 = .ok (.invokevirtual 321, 3) := by decide +kernel
theorem dX11_rate_48 : decode cX11_rate 48 = .ok (.ladd, 1) := by decide +kernel
theorem dX11_rate_49 : decode cX11_rate 49 = .ok (.lstore 4, 2) := by decide +kernel
theorem dX11_rate_51 : decode cX11_rate 51 = .ok (.aload_n 0, 1) := by decide +kernel
theorem dX11_rate_52 : decode cX11_rate 52 = .ok (.sipush 490, 3) := by decide +kernel
theorem dX11_rate_55 : decode cX11_rate 55 = .ok (.iload_n 3, 1) := by decide +kernel
theorem dX11_rate_56 : decode cX11_rate 56 = .ok (.invokevirtual 321, 3) := by decide +kernel
theorem dX11_rate_59 : decode cX11_rate 59 = .ok (.aload_n 0, 1) := by decide +kernel
theorem dX11_rate_60 : decode cX11_rate 60 = .ok (.sipush 502, 3) := by decide +kernel
theorem dX11_rate_63 : decode cX11_rate 63 = .ok (.iload_n 3, 1) := by decide +kernel
theorem dX11_rate_64 : decode cX11_rate 64 = .ok (.invokevirtual 321, 3) := by decide +kernel
theorem dX11_rate_67 : decode cX11_rate 67 = .ok (.ladd, 1) := by decide +kernel
theorem dX11_rate_68 : decode cX11_rate 68 = .ok (.lstore 6, 2) := by decide +kernel
theorem dX11_rate_70 : decode cX11_rate 70 = .ok (.lload 6, 2) := by decide +kernel
theorem dX11_rate_72 : decode cX11_rate 72 = .ok (.lconst 0, 1) := by decide +kernel
theorem dX11_rate_73 : decode cX11_rate 73 = .ok (.lcmp, 1) := by decide +kernel
theorem dX11_rate_74 : decode cX11_rate 74 = .ok (.ifCond .ne 5, 3) := by decide +kernel
theorem dX11_rate_77 : decode cX11_rate 77 = .ok (.iload_n 2, 1) := by decide +kernel
theorem dX11_rate_78 : decode cX11_rate 78 = .ok (.ireturn, 1) := by decide +kernel
theorem dX11_rate_79 : decode cX11_rate 79 = .ok (.lload 4, 2) := by decide +kernel
theorem dX11_rate_81 : decode cX11_rate 81 = .ok (.lload 6, 2) := by decide +kernel
theorem dX11_rate_83 : decode cX11_rate 83 = .ok (.invokestatic 310, 3) := by decide +kernel
theorem dX11_rate_86 : decode cX11_rate 86 = .ok (.lstore 8, 2) := by decide +kernel
theorem dX11_rate_88 : decode cX11_rate 88 = .ok (.iload_n 2, 1) := by decide +kernel
theorem dX11_rate_89 : decode cX11_rate 89 = .ok (.ifCond .ne 8, 3) := by decide +kernel
theorem dX11_rate_92 : decode cX11_rate 92 = .ok (.lload 4, 2) := by decide +kernel
theorem dX11_rate_94 : decode cX11_rate 94 = .ok (.goto 5, 3) := by decide +kernel
theorem dX11_rate_97 : decode cX11_rate 97 = .ok (.lload 6, 2) := by decide +kernel
theorem dX11_rate_99 : decode cX11_rate 99 = .ok (.lload 8, 2) := by decide +kernel
theorem dX11_rate_101 : decode cX11_rate 101 = .ok (.ldiv, 1) := by decide +kernel
theorem dX11_rate_102 : decode cX11_rate 102 = .ok (.l2i, 1) := by decide +kernel
theorem dX11_rate_103 : decode cX11_rate 103 = .ok (.ireturn, 1) := by decide +kernel
theorem dX11_partedAbove_0 : decode cX11_partedAbove 0 = .ok (.aload_n 0, 1) := by decide +kernel
theorem dX11_partedAbove_1 : decode cX11_partedAbove 1 = .ok (.sipush 490, 3) := by decide +kernel
theorem dX11_partedAbove_4 : decode cX11_partedAbove 4 = .ok (.iload_n 1, 1) := by decide +kernel
theorem dX11_partedAbove_5 : decode cX11_partedAbove 5 = .ok (.invokevirtual 321, 3) := by decide +kernel
theorem dX11_partedAbove_8 : decode cX11_partedAbove 8 = .ok (.lstore_n 2, 1) := by decide +kernel
theorem dX11_partedAbove_9 : decode cX11_partedAbove 9 = .ok (.aload_n 0, 1) := by decide +kernel
theorem dX11_partedAbove_10 : decode cX11_partedAbove 10 = .ok (.sipush 502, 3) := by decide +kernel
theorem dX11_partedAbove_13 : decode cX11_partedAbove 13 = .ok (.iload_n 1, 1) := by decide +kernel
theorem dX11_partedAbove_14 : decode cX11_partedAbove 14 = .ok (.invokevirtual 321, 3) := by decide +kernel
theorem dX11_partedAbove_17 : decode cX11_partedAbove 17 = .ok (.lstore 4, 2) := by decide +kernel
theorem dX11_partedAbove_19 : decode cX11_partedAbove 19 = .ok (.lload_n 2, 1) := by decide +kernel
theorem dX11_partedAbove_20 : decode cX11_partedAbove 20 = .ok (.lconst 0, 1) := by decide +kernel
theorem dX11_partedAbove_21 : decode cX11_partedAbove 21 = .ok (.lcmp, 1) := by decide +kernel
theorem dX11_partedAbove_22 : decode cX11_partedAbove 22 = .ok (.ifCond .ne 7, 3) := by decide +kernel
theorem dX11_partedAbove_25 : decode cX11_partedAbove 25 = .ok (.lconst 0, 1) := by decide +kernel
theorem dX11_partedAbove_26 : decode cX11_partedAbove 26 = .ok (.goto 34, 3) := by decide +kernel
theorem dX11_partedAbove_29 : decode cX11_partedAbove 29 = .ok (.aload_n 0, 1) := by decide +kernel
theorem dX11_partedAbove_30 : decode cX11_partedAbove 30 = .ok (.sipush 514, 3) := by decide +kernel
theorem dX11_partedAbove_33 : decode cX11_partedAbove 33 = .ok (.iload_n 1, 1) := by decide +kernel
theorem dX11_partedAbove_34 : decode cX11_partedAbove 34 = .ok (.invokevirtual 321, 3) := by decide +kernel
theorem dX11_partedAbove_37 : decode cX11_partedAbove 37 = .ok (.aload_n 0, 1) := by decide +kernel
theorem dX11_partedAbove_38 : decode cX11_partedAbove 38 = .ok (.sipush 490, 3) := by decide +kernel
theorem dX11_partedAbove_41 : decode cX11_partedAbove 41 = .ok (.iconst 2, 1) := by decide +kernel
theorem dX11_partedAbove_42 : decode cX11_partedAbove 42 = .ok (.invokevirtual 321, 3) := by decide +kernel
theorem dX11_partedAbove_45 : decode cX11_partedAbove 45 = .ok (.lmul, 1) := by decide +kernel
theorem dX11_partedAbove_46 : decode cX11_partedAbove 46 = .ok (.lload 4, 2) := by decide +kernel
theorem dX11_partedAbove_48 : decode cX11_partedAbove 48 = .ok (.lconst 0, 1) := by decide +kernel
theorem dX11_partedAbove_49 : decode cX11_partedAbove 49 = .ok (.lcmp, 1) := by decide +kernel
theorem dX11_partedAbove_50 : decode cX11_partedAbove 50 = .ok (.ifCond .ne 7, 3) := by decide +kernel
theorem dX11_partedAbove_53 : decode cX11_partedAbove 53 = .ok (.lconst 1, 1) := by decide +kernel
theorem dX11_partedAbove_54 : decode cX11_partedAbove 54 = .ok (.goto 5, 3) := by decide +kernel
theorem dX11_partedAbove_57 : decode cX11_partedAbove 57 = .ok (.lload 4, 2) := by decide +kernel
theorem dX11_partedAbove_59 : decode cX11_partedAbove 59 = .ok (.lmul, 1) := by decide +kernel
theorem dX11_partedAbove_60 : decode cX11_partedAbove 60 = .ok (.lstore 6, 2) := by decide +kernel
theorem dX11_partedAbove_62 : decode cX11_partedAbove 62 = .ok (.lload 4, 2) := by decide +kernel
theorem dX11_partedAbove_64 : decode cX11_partedAbove 64 = .ok (.lconst 0, 1) := by decide +kernel
theorem dX11_partedAbove_65 : decode cX11_partedAbove 65 = .ok (.lcmp, 1) := by decide +kernel
theorem dX11_partedAbove_66 : decode cX11_partedAbove 66 = .ok (.ifCond .ne 7, 3) := by decide +kernel
theorem dX11_partedAbove_69 : decode cX11_partedAbove 69 = .ok (.lconst 0, 1) := by decide +kernel
theorem dX11_partedAbove_70 : decode cX11_partedAbove 70 = .ok (.goto 32, 3) := by decide +kernel
theorem dX11_partedAbove_73 : decode cX11_partedAbove 73 = .ok (.aload_n 0, 1) := by decide +kernel
theorem dX11_partedAbove_74 : decode cX11_partedAbove 74 = .ok (.sipush 526, 3) := by decide +kernel
theorem dX11_partedAbove_77 : decode cX11_partedAbove 77 = .ok (.iload_n 1, 1) := by decide +kernel
theorem dX11_partedAbove_78 : decode cX11_partedAbove 78 = .ok (.invokevirtual 321, 3) := by decide +kernel
theorem dX11_partedAbove_81 : decode cX11_partedAbove 81 = .ok (.aload_n 0, 1) := by decide +kernel
theorem dX11_partedAbove_82 : decode cX11_partedAbove 82 = .ok (.sipush 502, 3) := by decide +kernel
theorem dX11_partedAbove_85 : decode cX11_partedAbove 85 = .ok (.iconst 2, 1) := by decide +kernel
theorem dX11_partedAbove_86 : decode cX11_partedAbove 86 = .ok (.invokevirtual 321, 3) := by decide +kernel
theorem dX11_partedAbove_89 : decode cX11_partedAbove 89 = .ok (.lmul, 1) := by decide +kernel
theorem dX11_partedAbove_90 : decode cX11_partedAbove 90 = .ok (.lload_n 2, 1) := by decide +kernel
theorem dX11_partedAbove_91 : decode cX11_partedAbove 91 = .ok (.lconst 0, 1) := by decide +kernel
theorem dX11_partedAbove_92 : decode cX11_partedAbove 92 = .ok (.lcmp, 1) := by decide +kernel
theorem dX11_partedAbove_93 : decode cX11_partedAbove 93 = .ok (.ifCond .ne 7, 3) := by decide +kernel
theorem dX11_partedAbove_96 : decode cX11_partedAbove 96 = .ok (.lconst 1, 1) := by decide +kernel
theorem dX11_partedAbove_97 : decode cX11_partedAbove 97 = .ok (.goto 4, 3) := by decide +kernel
theorem dX11_partedAbove_100 : decode cX11_partedAbove 100 = .ok (.lload_n 2, 1) := by decide +kernel
theorem dX11_partedAbove_101 : decode cX11_partedAbove 101 = .ok (.lmul, 1) := by decide +kernel
theorem dX11_partedAbove_102 : decode cX11_partedAbove 102 = .ok (.lstore 8, 2) := by decide +kernel
theorem dX11_partedAbove_104 : decode cX11_partedAbove 104 = .ok (.lload 6, 2) := by decide +kernel
theorem dX11_partedAbove_106 : decode cX11_partedAbove 106 = .ok (.lload 8, 2) := by decide +kernel
theorem dX11_partedAbove_108 : decode cX11_partedAbove 108 = .ok (.ladd, 1) := by decide +kernel
theorem dX11_partedAbove_109 : decode cX11_partedAbove 109 = .ok (.lreturn, 1) := by decide +kernel
theorem dX11_partedBelow_0 : decode cX11_partedBelow 0 = .ok (.aload_n 0, 1) := by decide +kernel
theorem dX11_partedBelow_1 : decode cX11_partedBelow 1 = .ok (.sipush 490, 3) := by decide +kernel
theorem dX11_partedBelow_4 : decode cX11_partedBelow 4 = .ok (.iload_n 1, 1) := by decide +kernel
theorem dX11_partedBelow_5 : decode cX11_partedBelow 5 = .ok (.invokevirtual 321, 3) := by decide +kernel
theorem dX11_partedBelow_8 : decode cX11_partedBelow 8 = .ok (.lstore_n 2, 1) := by decide +kernel
theorem dX11_partedBelow_9 : decode cX11_partedBelow 9 = .ok (.aload_n 0, 1) := by decide +kernel
theorem dX11_partedBelow_10 : decode cX11_partedBelow 10 = .ok (.sipush 502, 3) := by decide +kernel
theorem dX11_partedBelow_13 : decode cX11_partedBelow 13 = .ok (.iload_n 1, 1) := by decide +kernel
theorem dX11_partedBelow_14 : decode cX11_partedBelow 14 = .ok (.invokevirtual 321, 3) := by decide +kernel
theorem dX11_partedBelow_17 : decode cX11_partedBelow 17 = .ok (.lstore 4, 2) := by decide +kernel
theorem dX11_partedBelow_19 : decode cX11_partedBelow 19 = .ok (.lload_n 2, 1) := by decide +kernel
theorem dX11_partedBelow_20 : decode cX11_partedBelow 20 = .ok (.lconst 0, 1) := by decide +kernel
theorem dX11_partedBelow_21 : decode cX11_partedBelow 21 = .ok (.lcmp, 1) := by decide +kernel
theorem dX11_partedBelow_22 : decode cX11_partedBelow 22 = .ok (.ifCond .ne 7, 3) := by decide +kernel
theorem dX11_partedBelow_25 : decode cX11_partedBelow 25 = .ok (.lconst 1, 1) := by decide +kernel
theorem dX11_partedBelow_26 : decode cX11_partedBelow 26 = .ok (.goto 4, 3) := by decide +kernel
theorem dX11_partedBelow_29 : decode cX11_partedBelow 29 = .ok (.lload_n 2, 1) := by decide +kernel
theorem dX11_partedBelow_30 : decode cX11_partedBelow 30 = .ok (.lload 4, 2) := by decide +kernel
theorem dX11_partedBelow_32 : decode cX11_partedBelow 32 = .ok (.lconst 0, 1) := by decide +kernel
theorem dX11_partedBelow_33 : decode cX11_partedBelow 33 = .ok (.lcmp, 1) := by decide +kernel
theorem dX11_partedBelow_34 : decode cX11_partedBelow 34 = .ok (.ifCond .ne 7, 3) := by decide +kernel
theorem dX11_partedBelow_37 : decode cX11_partedBelow 37 = .ok (.lconst 1, 1) := by decide +kernel
theorem dX11_partedBelow_38 : decode cX11_partedBelow 38 = .ok (.goto 5, 3) := by decide +kernel
theorem dX11_partedBelow_41 : decode cX11_partedBelow 41 = .ok (.lload 4, 2) := by decide +kernel
theorem dX11_partedBelow_43 : decode cX11_partedBelow 43 = .ok (.lmul, 1) := by decide +kernel
theorem dX11_partedBelow_44 : decode cX11_partedBelow 44 = .ok (.lreturn, 1) := by decide +kernel
theorem dX11_parted_0 : decode cX11_parted 0 = .ok (.aload_n 0, 1) := by decide +kernel
theorem dX11_parted_1 : decode cX11_parted 1 = .ok (.iconst 0, 1) := by decide +kernel
theorem dX11_parted_2 : decode cX11_parted 2 = .ok (.putfield 1, 3) := by decide +kernel
theorem dX11_parted_5 : decode cX11_parted 5 = .ok (.aload_n 0, 1) := by decide +kernel
theorem dX11_parted_6 : decode cX11_parted 6 = .ok (.iconst 1, 1) := by decide +kernel
theorem dX11_parted_7 : decode cX11_parted 7 = .ok (.invokevirtual 325, 3) := by decide +kernel
theorem dX11_parted_10 : decode cX11_parted 10 = .ok (.aload_n 0, 1) := by decide +kernel
theorem dX11_parted_11 : decode cX11_parted 11 = .ok (.iconst 0, 1) := by decide +kernel
theorem dX11_parted_12 : decode cX11_parted 12 = .ok (.invokevirtual 328, 3) := by decide +kernel
theorem dX11_parted_15 : decode cX11_parted 15 = .ok (.lmul, 1) := by decide +kernel
theorem dX11_parted_16 : decode cX11_parted 16 = .ok (.lstore_n 1, 1) := by decide +kernel
theorem dX11_parted_17 : decode cX11_parted 17 = .ok (.aload_n 0, 1) := by decide +kernel
theorem dX11_parted_18 : decode cX11_parted 18 = .ok (.iconst 0, 1) := by decide +kernel
theorem dX11_parted_19 : decode cX11_parted 19 = .ok (.invokevirtual 325, 3) := by decide +kernel
theorem dX11_parted_22 : decode cX11_parted 22 = .ok (.aload_n 0, 1) := by decide +kernel
theorem dX11_parted_23 : decode cX11_parted 23 = .ok (.iconst 1, 1) := by decide +kernel
theorem dX11_parted_24 : decode cX11_parted 24 = .ok (.invokevirtual 328, 3) := by decide +kernel
theorem dX11_parted_27 : decode cX11_parted 27 = .ok (.lmul, 1) := by decide +kernel
theorem dX11_parted_28 : decode cX11_parted 28 = .ok (.lstore_n 3, 1) := by decide +kernel
theorem dX11_parted_29 : decode cX11_parted 29 = .ok (.lload_n 1, 1) := by decide +kernel
theorem dX11_parted_30 : decode cX11_parted 30 = .ok (.lload_n 3, 1) := by decide +kernel
theorem dX11_parted_31 : decode cX11_parted 31 = .ok (.lcmp, 1) := by decide +kernel
theorem dX11_parted_32 : decode cX11_parted 32 = .ok (.ifCond .le 7, 3) := by decide +kernel
theorem dX11_parted_35 : decode cX11_parted 35 = .ok (.iconst 1, 1) := by decide +kernel
theorem dX11_parted_36 : decode cX11_parted 36 = .ok (.goto 14, 3) := by decide +kernel
theorem dX11_parted_39 : decode cX11_parted 39 = .ok (.lload_n 1, 1) := by decide +kernel
theorem dX11_parted_40 : decode cX11_parted 40 = .ok (.lload_n 3, 1) := by decide +kernel
theorem dX11_parted_41 : decode cX11_parted 41 = .ok (.lcmp, 1) := by decide +kernel
theorem dX11_parted_42 : decode cX11_parted 42 = .ok (.ifCond .ne 7, 3) := by decide +kernel
theorem dX11_parted_45 : decode cX11_parted 45 = .ok (.iconst 0, 1) := by decide +kernel
theorem dX11_parted_46 : decode cX11_parted 46 = .ok (.goto 4, 3) := by decide +kernel
theorem dX11_parted_49 : decode cX11_parted 49 = .ok (.iconst 2, 1) := by decide +kernel
theorem dX11_parted_50 : decode cX11_parted 50 = .ok (.ireturn, 1) := by decide +kernel
theorem dX11_hurtAt_0 : decode cX11_hurtAt 0 = .ok (.aload_n 0, 1) := by decide +kernel
theorem dX11_hurtAt_1 : decode cX11_hurtAt 1 = .ok (.getfield 17, 3) := by decide +kernel
theorem dX11_hurtAt_4 : decode cX11_hurtAt 4 = .ok (.sipush 514, 3) := by decide +kernel
theorem dX11_hurtAt_7 : decode cX11_hurtAt 7 = .ok (.iload_n 1, 1) := by decide +kernel
theorem dX11_hurtAt_8 : decode cX11_hurtAt 8 = .ok (.iadd, 1) := by decide +kernel
theorem dX11_hurtAt_9 : decode cX11_hurtAt 9 = .ok (.iaload, 1) := by decide +kernel
theorem dX11_hurtAt_10 : decode cX11_hurtAt 10 = .ok (.aload_n 0, 1) := by decide +kernel
theorem dX11_hurtAt_11 : decode cX11_hurtAt 11 = .ok (.getfield 17, 3) := by decide +kernel
theorem dX11_hurtAt_14 : decode cX11_hurtAt 14 = .ok (.sipush 526, 3) := by decide +kernel
theorem dX11_hurtAt_17 : decode cX11_hurtAt 17 = .ok (.iload_n 1, 1) := by decide +kernel
theorem dX11_hurtAt_18 : decode cX11_hurtAt 18 = .ok (.iadd, 1) := by decide +kernel
theorem dX11_hurtAt_19 : decode cX11_hurtAt 19 = .ok (.iaload, 1) := by decide +kernel
theorem dX11_hurtAt_20 : decode cX11_hurtAt 20 = .ok (.iadd, 1) := by decide +kernel
theorem dX11_hurtAt_21 : decode cX11_hurtAt 21 = .ok (.ireturn, 1) := by decide +kernel
theorem dX11_worstOf_0 : decode cX11_worstOf 0 = .ok (.iconst 0, 1) := by decide +kernel
theorem dX11_worstOf_1 : decode cX11_worstOf 1 = .ok (.istore_n 2, 1) := by decide +kernel
theorem dX11_worstOf_2 : decode cX11_worstOf 2 = .ok (.iconst 0, 1) := by decide +kernel
theorem dX11_worstOf_3 : decode cX11_worstOf 3 = .ok (.istore_n 3, 1) := by decide +kernel
theorem dX11_worstOf_4 : decode cX11_worstOf 4 = .ok (.iload_n 3, 1) := by decide +kernel
theorem dX11_worstOf_5 : decode cX11_worstOf 5 = .ok (.iload_n 1, 1) := by decide +kernel
theorem dX11_worstOf_6 : decode cX11_worstOf 6 = .ok (.if_icmp .ge 75, 3) := by decide +kernel
theorem dX11_worstOf_9 : decode cX11_worstOf 9 = .ok (.iconst (-1), 1) := by decide +kernel
theorem dX11_worstOf_10 : decode cX11_worstOf 10 = .ok (.istore 4, 2) := by decide +kernel
theorem dX11_worstOf_12 : decode cX11_worstOf 12 = .ok (.iconst 0, 1) := by decide +kernel
theorem dX11_worstOf_13 : decode cX11_worstOf 13 = .ok (.istore 5, 2) := by decide +kernel
theorem dX11_worstOf_15 : decode cX11_worstOf 15 = .ok (.iload 5, 2) := by decide +kernel
theorem dX11_worstOf_17 : decode cX11_worstOf 17 = .ok (.aload_n 0, 1) := by decide +kernel
theorem dX11_worstOf_18 : decode cX11_worstOf 18 = .ok (.getfield 17, 3) := by decide +kernel
theorem dX11_worstOf_21 : decode cX11_worstOf 21 = .ok (.sipush 477, 3) := by decide +kernel
theorem dX11_worstOf_24 : decode cX11_worstOf 24 = .ok (.iaload, 1) := by decide +kernel
theorem dX11_worstOf_25 : decode cX11_worstOf 25 = .ok (.if_icmp .ge 43, 3) := by decide +kernel
theorem dX11_worstOf_28 : decode cX11_worstOf 28 = .ok (.iload_n 2, 1) := by decide +kernel
theorem dX11_worstOf_29 : decode cX11_worstOf 29 = .ok (.iload 5, 2) := by decide +kernel
theorem dX11_worstOf_31 : decode cX11_worstOf 31 = .ok (.ishr, 1) := by decide +kernel
theorem dX11_worstOf_32 : decode cX11_worstOf 32 = .ok (.iconst 1, 1) := by decide +kernel
theorem dX11_worstOf_33 : decode cX11_worstOf 33 = .ok (.iand, 1) := by decide +kernel
theorem dX11_worstOf_34 : decode cX11_worstOf 34 = .ok (.ifCond .ne 28, 3) := by decide +kernel
theorem dX11_worstOf_37 : decode cX11_worstOf 37 = .ok (.iload 4, 2) := by decide +kernel
theorem dX11_worstOf_39 : decode cX11_worstOf 39 = .ok (.iconst (-1), 1) := by decide +kernel
theorem dX11_worstOf_40 : decode cX11_worstOf 40 = .ok (.if_icmp .eq 18, 3) := by decide +kernel
theorem dX11_worstOf_43 : decode cX11_worstOf 43 = .ok (.aload_n 0, 1) := by decide +kernel
theorem dX11_worstOf_44 : decode cX11_worstOf 44 = .ok (.iload 5, 2) := by decide +kernel
theorem dX11_worstOf_46 : decode cX11_worstOf 46 = .ok (.invokevirtual 331, 3) := by decide +kernel
theorem dX11_worstOf_49 : decode cX11_worstOf 49 = .ok (.aload_n 0, 1) := by decide +kernel
theorem dX11_worstOf_50 : decode cX11_worstOf 50 = .ok (.iload 4, 2) := by decide +kernel
theorem dX11_worstOf_52 : decode cX11_worstOf 52 = .ok (.invokevirtual 331, 3) := by decide +kernel
theorem dX11_worstOf_55 : decode cX11_worstOf 55 = .ok (.if_icmp .le 7, 3) := by decide +kernel
theorem dX11_worstOf_58 : decode cX11_worstOf 58 = .ok (.iload 5, 2) := by decide +kernel
theorem dX11_worstOf_60 : decode cX11_worstOf 60 = .ok (.istore 4, 2) := by decide +kernel
theorem dX11_worstOf_62 : decode cX11_worstOf 62 = .ok (.iinc 5 1, 3) := by decide +kernel
theorem dX11_worstOf_65 : decode cX11_worstOf 65 = .ok (.goto (-50), 3) := by decide +kernel
theorem dX11_worstOf_68 : decode cX11_worstOf 68 = .ok (.iload_n 2, 1) := by decide +kernel
theorem dX11_worstOf_69 : decode cX11_worstOf 69 = .ok (.iconst 1, 1) := by decide +kernel
theorem dX11_worstOf_70 : decode cX11_worstOf 70 = .ok (.iload 4, 2) := by decide +kernel
theorem dX11_worstOf_72 : decode cX11_worstOf 72 = .ok (.ishl, 1) := by decide +kernel
theorem dX11_worstOf_73 : decode cX11_worstOf 73 = .ok (.ior, 1) := by decide +kernel
theorem dX11_worstOf_74 : decode cX11_worstOf 74 = .ok (.istore_n 2, 1) := by decide +kernel
theorem dX11_worstOf_75 : decode cX11_worstOf 75 = .ok (.iinc 3 1, 3) := by decide +kernel
theorem dX11_worstOf_78 : decode cX11_worstOf 78 = .ok (.goto (-74), 3) := by decide +kernel
theorem dX11_worstOf_81 : decode cX11_worstOf 81 = .ok (.iload_n 2, 1) := by decide +kernel
theorem dX11_worstOf_82 : decode cX11_worstOf 82 = .ok (.ireturn, 1) := by decide +kernel
theorem dX11_matchesOf_0 : decode cX11_matchesOf 0 = .ok (.iconst 0, 1) := by decide +kernel
theorem dX11_matchesOf_1 : decode cX11_matchesOf 1 = .ok (.istore_n 2, 1) := by decide +kernel
theorem dX11_matchesOf_2 : decode cX11_matchesOf 2 = .ok (.iconst 0, 1) := by decide +kernel
theorem dX11_matchesOf_3 : decode cX11_matchesOf 3 = .ok (.istore_n 3, 1) := by decide +kernel
theorem dX11_matchesOf_4 : decode cX11_matchesOf 4 = .ok (.iload_n 3, 1) := by decide +kernel
theorem dX11_matchesOf_5 : decode cX11_matchesOf 5 = .ok (.aload_n 0, 1) := by decide +kernel
theorem dX11_matchesOf_6 : decode cX11_matchesOf 6 = .ok (.getfield 17, 3) := by decide +kernel
theorem dX11_matchesOf_9 : decode cX11_matchesOf 9 = .ok (.sipush 477, 3) := by decide +kernel
theorem dX11_matchesOf_12 : decode cX11_matchesOf 12 = .ok (.iaload, 1) := by decide +kernel
theorem dX11_matchesOf_13 : decode cX11_matchesOf 13 = .ok (.if_icmp .ge 123, 3) := by decide +kernel
theorem dX11_matchesOf_16 : decode cX11_matchesOf 16 = .ok (.iload_n 1, 1) := by decide +kernel
theorem dX11_matchesOf_17 : decode cX11_matchesOf 17 = .ok (.iload_n 3, 1) := by decide +kernel
theorem dX11_matchesOf_18 : decode cX11_matchesOf 18 = .ok (.ishr, 1) := by decide +kernel
theorem dX11_matchesOf_19 : decode cX11_matchesOf 19 = .ok (.iconst 1, 1) := by decide +kernel
theorem dX11_matchesOf_20 : decode cX11_matchesOf 20 = .ok (.iand, 1) := by decide +kernel
theorem dX11_matchesOf_21 : decode cX11_matchesOf 21 = .ok (.ifCond .ne 6, 3) := by decide +kernel
theorem dX11_matchesOf_24 : decode cX11_matchesOf 24 = .ok (.goto 106, 3) := by decide +kernel
theorem dX11_matchesOf_27 : decode cX11_matchesOf 27 = .ok (.iconst (-1), 1) := by decide +kernel
theorem dX11_matchesOf_28 : decode cX11_matchesOf 28 = .ok (.istore 4, 2) := by decide +kernel
theorem dX11_matchesOf_30 : decode cX11_matchesOf 30 = .ok (.iconst 0, 1) := by decide +kernel
theorem dX11_matchesOf_31 : decode cX11_matchesOf 31 = .ok (.istore 5, 2) := by decide +kernel
theorem dX11_matchesOf_33 : decode cX11_matchesOf 33 = .ok (.iconst 0, 1) := by decide +kernel
theorem dX11_matchesOf_34 : decode cX11_matchesOf 34 = .ok (.istore 6, 2) := by decide +kernel
theorem dX11_matchesOf_36 : decode cX11_matchesOf 36 = .ok (.iload 6, 2) := by decide +kernel
theorem dX11_matchesOf_38 : decode cX11_matchesOf 38 = .ok (.aload_n 0, 1) := by decide +kernel
theorem dX11_matchesOf_39 : decode cX11_matchesOf 39 = .ok (.getfield 17, 3) := by decide +kernel
theorem dX11_matchesOf_42 : decode cX11_matchesOf 42 = .ok (.sipush 477, 3) := by decide +kernel
theorem dX11_matchesOf_45 : decode cX11_matchesOf 45 = .ok (.iaload, 1) := by decide +kernel
theorem dX11_matchesOf_46 : decode cX11_matchesOf 46 = .ok (.if_icmp .ge 77, 3) := by decide +kernel
theorem dX11_matchesOf_49 : decode cX11_matchesOf 49 = .ok (.iload_n 1, 1) := by decide +kernel
theorem dX11_matchesOf_50 : decode cX11_matchesOf 50 = .ok (.iload_n 2, 1) := by decide +kernel
theorem dX11_matchesOf_51 : decode cX11_matchesOf 51 = .ok (.ior, 1) := by decide +kernel
theorem dX11_matchesOf_52 : decode cX11_matchesOf 52 = .ok (.iload 6, 2) := by decide +kernel
theorem dX11_matchesOf_54 : decode cX11_matchesOf 54 = .ok (.ishr, 1) := by decide +kernel
theorem dX11_matchesOf_55 : decode cX11_matchesOf 55 = .ok (.iconst 1, 1) := by decide +kernel
theorem dX11_matchesOf_56 : decode cX11_matchesOf 56 = .ok (.iand, 1) := by decide +kernel
theorem dX11_matchesOf_57 : decode cX11_matchesOf 57 = .ok (.iconst 1, 1) := by decide +kernel
theorem dX11_matchesOf_58 : decode cX11_matchesOf 58 = .ok (.if_icmp .ne 6, 3) := by decide +kernel
theorem dX11_matchesOf_61 : decode cX11_matchesOf 61 = .ok (.goto 56, 3) := by decide +kernel
theorem dX11_matchesOf_64 : decode cX11_matchesOf 64 = .ok (.aload_n 0, 1) := by decide +kernel
theorem dX11_matchesOf_65 : decode cX11_matchesOf 65 = .ok (.iload_n 3, 1) := by decide +kernel
theorem dX11_matchesOf_66 : decode cX11_matchesOf 66 = .ok (.invokevirtual 331, 3) := by decide +kernel
theorem dX11_matchesOf_69 : decode cX11_matchesOf 69 = .ok (.aload_n 0, 1) := by decide +kernel
theorem dX11_matchesOf_70 : decode cX11_matchesOf 70 = .ok (.iload 6, 2) := by decide +kernel
theorem dX11_matchesOf_72 : decode cX11_matchesOf 72 = .ok (.invokevirtual 331, 3) := by decide +kernel
theorem dX11_matchesOf_75 : decode cX11_matchesOf 75 = .ok (.isub, 1) := by decide +kernel
theorem dX11_matchesOf_76 : decode cX11_matchesOf 76 = .ok (.istore 7, 2) := by decide +kernel
theorem dX11_matchesOf_78 : decode cX11_matchesOf 78 = .ok (.iload 7, 2) := by decide +kernel
theorem dX11_matchesOf_80 : decode cX11_matchesOf 80 = .ok (.ifCond .ge 9, 3) := by decide +kernel
theorem dX11_matchesOf_83 : decode cX11_matchesOf 83 = .ok (.iload 7, 2) := by decide +kernel
theorem dX11_matchesOf_85 : decode cX11_matchesOf 85 = .ok (.ineg, 1) := by decide +kernel
theorem dX11_matchesOf_86 : decode cX11_matchesOf 86 = .ok (.goto 5, 3) := by decide +kernel
theorem dX11_matchesOf_89 : decode cX11_matchesOf 89 = .ok (.iload 7, 2) := by decide +kernel
theorem dX11_matchesOf_91 : decode cX11_matchesOf 91 = .ok (.istore 7, 2) := by decide +kernel
theorem dX11_matchesOf_93 : decode cX11_matchesOf 93 = .ok (.iload 4, 2) := by decide +kernel
theorem dX11_matchesOf_95 : decode cX11_matchesOf 95 = .ok (.iconst (-1), 1) := by decide +kernel
theorem dX11_matchesOf_96 : decode cX11_matchesOf 96 = .ok (.if_icmp .eq 13, 3) := by decide +kernel
theorem dX11_matchesOf_99 : decode cX11_matchesOf 99 = .ok (.iload 7, 2) := by decide +kernel
theorem dX11_matchesOf_101 : decode cX11_matchesOf 101 = .ok (.iload 5, 2) := by decide +kernel
theorem dX11_matchesOf_103 : decode cX11_matchesOf 103 = .ok (.if_icmp .lt 6, 3) := by decide +kernel
theorem dX11_matchesOf_106 : decode cX11_matchesOf 106 = .ok (.goto 11, 3) := by decide +kernel
theorem dX11_matchesOf_109 : decode cX11_matchesOf 109 = .ok (.iload 6, 2) := by decide +kernel
theorem dX11_matchesOf_111 : decode cX11_matchesOf 111 = .ok (.istore 4, 2) := by decide +kernel
theorem dX11_matchesOf_113 : decode cX11_matchesOf 113 = .ok (.iload 7, 2) := by decide +kernel
theorem dX11_matchesOf_115 : decode cX11_matchesOf 115 = .ok (.istore 5, 2) := by decide +kernel
theorem dX11_matchesOf_117 : decode cX11_matchesOf 117 = .ok (.iinc 6 1, 3) := by decide +kernel
theorem dX11_matchesOf_120 : decode cX11_matchesOf 120 = .ok (.goto (-84), 3) := by decide +kernel
theorem dX11_matchesOf_123 : decode cX11_matchesOf 123 = .ok (.iload_n 2, 1) := by decide +kernel
theorem dX11_matchesOf_124 : decode cX11_matchesOf 124 = .ok (.iconst 1, 1) := by decide +kernel
theorem dX11_matchesOf_125 : decode cX11_matchesOf 125 = .ok (.iload 4, 2) := by decide +kernel
theorem dX11_matchesOf_127 : decode cX11_matchesOf 127 = .ok (.ishl, 1) := by decide +kernel
theorem dX11_matchesOf_128 : decode cX11_matchesOf 128 = .ok (.ior, 1) := by decide +kernel
theorem dX11_matchesOf_129 : decode cX11_matchesOf 129 = .ok (.istore_n 2, 1) := by decide +kernel
theorem dX11_matchesOf_130 : decode cX11_matchesOf 130 = .ok (.iinc 3 1, 3) := by decide +kernel
theorem dX11_matchesOf_133 : decode cX11_matchesOf 133 = .ok (.goto (-129), 3) := by decide +kernel
theorem dX11_matchesOf_136 : decode cX11_matchesOf 136 = .ok (.iload_n 2, 1) := by decide +kernel
theorem dX11_matchesOf_137 : decode cX11_matchesOf 137 = .ok (.ireturn, 1) := by decide +kernel
theorem dX11_fallOf_0 : decode cX11_fallOf 0 = .ok (.iconst 0, 1) := by decide +kernel
theorem dX11_fallOf_1 : decode cX11_fallOf 1 = .ok (.istore_n 2, 1) := by decide +kernel
theorem dX11_fallOf_2 : decode cX11_fallOf 2 = .ok (.iconst 0, 1) := by decide +kernel
theorem dX11_fallOf_3 : decode cX11_fallOf 3 = .ok (.istore_n 3, 1) := by decide +kernel
theorem dX11_fallOf_4 : decode cX11_fallOf 4 = .ok (.iload_n 3, 1) := by decide +kernel
theorem dX11_fallOf_5 : decode cX11_fallOf 5 = .ok (.aload_n 0, 1) := by decide +kernel
theorem dX11_fallOf_6 : decode cX11_fallOf 6 = .ok (.getfield 17, 3) := by decide +kernel
theorem dX11_fallOf_9 : decode cX11_fallOf 9 = .ok (.sipush 477, 3) := by decide +kernel
theorem dX11_fallOf_12 : decode cX11_fallOf 12 = .ok (.iaload, 1) := by decide +kernel
theorem dX11_fallOf_13 : decode cX11_fallOf 13 = .ok (.if_icmp .ge 41, 3) := by decide +kernel
theorem dX11_fallOf_16 : decode cX11_fallOf 16 = .ok (.iload_n 2, 1) := by decide +kernel
theorem dX11_fallOf_17 : decode cX11_fallOf 17 = .ok (.iload_n 1, 1) := by decide +kernel
theorem dX11_fallOf_18 : decode cX11_fallOf 18 = .ok (.iload_n 3, 1) := by decide +kernel
theorem dX11_fallOf_19 : decode cX11_fallOf 19 = .ok (.ishr, 1) := by decide +kernel
theorem dX11_fallOf_20 : decode cX11_fallOf 20 = .ok (.iconst 1, 1) := by decide +kernel
theorem dX11_fallOf_21 : decode cX11_fallOf 21 = .ok (.iand, 1) := by decide +kernel
theorem dX11_fallOf_22 : decode cX11_fallOf 22 = .ok (.iconst 1, 1) := by decide +kernel
theorem dX11_fallOf_23 : decode cX11_fallOf 23 = .ok (.if_icmp .ne 22, 3) := by decide +kernel
theorem dX11_fallOf_26 : decode cX11_fallOf 26 = .ok (.aload_n 0, 1) := by decide +kernel
theorem dX11_fallOf_27 : decode cX11_fallOf 27 = .ok (.iload_n 3, 1) := by decide +kernel
theorem dX11_fallOf_28 : decode cX11_fallOf 28 = .ok (.invokevirtual 331, 3) := by decide +kernel
theorem dX11_fallOf_31 : decode cX11_fallOf 31 = .ok (.aload_n 0, 1) := by decide +kernel
theorem dX11_fallOf_32 : decode cX11_fallOf 32 = .ok (.getfield 17, 3) := by decide +kernel
theorem dX11_fallOf_35 : decode cX11_fallOf 35 = .ok (.sipush 538, 3) := by decide +kernel
theorem dX11_fallOf_38 : decode cX11_fallOf 38 = .ok (.iload_n 3, 1) := by decide +kernel
theorem dX11_fallOf_39 : decode cX11_fallOf 39 = .ok (.iadd, 1) := by decide +kernel
theorem dX11_fallOf_40 : decode cX11_fallOf 40 = .ok (.iaload, 1) := by decide +kernel
theorem dX11_fallOf_41 : decode cX11_fallOf 41 = .ok (.isub, 1) := by decide +kernel
theorem dX11_fallOf_42 : decode cX11_fallOf 42 = .ok (.goto 4, 3) := by decide +kernel
theorem dX11_fallOf_45 : decode cX11_fallOf 45 = .ok (.iconst 0, 1) := by decide +kernel
theorem dX11_fallOf_46 : decode cX11_fallOf 46 = .ok (.iadd, 1) := by decide +kernel
theorem dX11_fallOf_47 : decode cX11_fallOf 47 = .ok (.istore_n 2, 1) := by decide +kernel
theorem dX11_fallOf_48 : decode cX11_fallOf 48 = .ok (.iinc 3 1, 3) := by decide +kernel
theorem dX11_fallOf_51 : decode cX11_fallOf 51 = .ok (.goto (-47), 3) := by decide +kernel
theorem dX11_fallOf_54 : decode cX11_fallOf 54 = .ok (.iload_n 2, 1) := by decide +kernel
theorem dX11_fallOf_55 : decode cX11_fallOf 55 = .ok (.ireturn, 1) := by decide +kernel
theorem dX11_worst_0 : decode cX11_worst 0 = .ok (.aload_n 0, 1) := by decide +kernel
theorem dX11_worst_1 : decode cX11_worst 1 = .ok (.iconst 0, 1) := by decide +kernel
theorem dX11_worst_2 : decode cX11_worst 2 = .ok (.putfield 1, 3) := by decide +kernel
theorem dX11_worst_5 : decode cX11_worst 5 = .ok (.iload_n 1, 1) := by decide +kernel
theorem dX11_worst_6 : decode cX11_worst 6 = .ok (.i2l, 1) := by decide +kernel
theorem dX11_worst_7 : decode cX11_worst 7 = .ok (.lconst 0, 1) := by decide +kernel
theorem dX11_worst_8 : decode cX11_worst 8 = .ok (.aload_n 0, 1) := by decide +kernel
theorem dX11_worst_9 : decode cX11_worst 9 = .ok (.getfield 17, 3) := by decide +kernel
theorem dX11_worst_12 : decode cX11_worst 12 = .ok (.sipush 477, 3) := by decide +kernel
theorem dX11_worst_15 : decode cX11_worst 15 = .ok (.iaload, 1) := by decide +kernel
theorem dX11_worst_16 : decode cX11_worst 16 = .ok (.i2l, 1) := by decide +kernel
theorem dX11_worst_17 : decode cX11_worst 17 = .ok (.invokestatic 152, 3) := by decide +kernel
theorem dX11_worst_20 : decode cX11_worst 20 = .ok (.ifCond .eq 34, 3) := by decide +kernel
theorem dX11_worst_23 : decode cX11_worst 23 = .ok (.iload_n 2, 1) := by decide +kernel
theorem dX11_worst_24 : decode cX11_worst 24 = .ok (.i2l, 1) := by decide +kernel
theorem dX11_worst_25 : decode cX11_worst 25 = .ok (.lconst 0, 1) := by decide +kernel
theorem dX11_worst_26 : decode cX11_worst 26 = .ok (.ldc2_w 213, 3) := by decide +kernel
theorem dX11_worst_29 : decode cX11_worst 29 = .ok (.invokestatic 152, 3) := by decide +kernel
theorem dX11_worst_32 : decode cX11_worst 32 = .ok (.ifCond .eq 22, 3) := by decide +kernel
theorem dX11_worst_35 : decode cX11_worst 35 = .ok (.iload_n 2, 1) := by decide +kernel
theorem dX11_worst_36 : decode cX11_worst 36 = .ok (.iconst 1, 1) := by decide +kernel
theorem dX11_worst_37 : decode cX11_worst 37 = .ok (.if_icmp .le 25, 3) := by decide +kernel
theorem dX11_worst_40 : decode cX11_worst 40 = .ok (.iconst 2, 1) := by decide +kernel
theorem dX11_worst_41 : decode cX11_worst 41 = .ok (.iload_n 1, 1) := by decide +kernel
theorem dX11_worst_42 : decode cX11_worst 42 = .ok (.imul, 1) := by decide +kernel
theorem dX11_worst_43 : decode cX11_worst 43 = .ok (.aload_n 0, 1) := by decide +kernel
theorem dX11_worst_44 : decode cX11_worst 44 = .ok (.getfield 17, 3) := by decide +kernel
theorem dX11_worst_47 : decode cX11_worst 47 = .ok (.sipush 477, 3) := by decide +kernel
theorem dX11_worst_50 : decode cX11_worst 50 = .ok (.iaload, 1) := by decide +kernel
theorem dX11_worst_51 : decode cX11_worst 51 = .ok (.if_icmp .le 11, 3) := by decide +kernel
theorem dX11_worst_54 : decode cX11_worst 54 = .ok (.aload_n 0, 1) := by decide +kernel
theorem dX11_worst_55 : decode cX11_worst 55 = .ok (.ldc_w 334, 3) := by decide +kernel
theorem dX11_worst_58 : decode cX11_worst 58 = .ok (.invokevirtual 283, 3) := by decide +kernel
theorem dX11_worst_61 : decode cX11_worst 61 = .ok (.ireturn, 1) := by decide +kernel
theorem dX11_worst_62 : decode cX11_worst 62 = .ok (.aload_n 0, 1) := by decide +kernel
theorem dX11_worst_63 : decode cX11_worst 63 = .ok (.iload_n 1, 1) := by decide +kernel
theorem dX11_worst_64 : decode cX11_worst 64 = .ok (.invokevirtual 335, 3) := by decide +kernel
theorem dX11_worst_67 : decode cX11_worst 67 = .ok (.istore_n 3, 1) := by decide +kernel
theorem dX11_worst_68 : decode cX11_worst 68 = .ok (.iload_n 2, 1) := by decide +kernel
theorem dX11_worst_69 : decode cX11_worst 69 = .ok (.iconst 2, 1) := by decide +kernel
theorem dX11_worst_70 : decode cX11_worst 70 = .ok (.if_icmp .ge 17, 3) := by decide +kernel
theorem dX11_worst_73 : decode cX11_worst 73 = .ok (.iload_n 2, 1) := by decide +kernel
theorem dX11_worst_74 : decode cX11_worst 74 = .ok (.ifCond .ne 7, 3) := by decide +kernel
theorem dX11_worst_77 : decode cX11_worst 77 = .ok (.iload_n 3, 1) := by decide +kernel
theorem dX11_worst_78 : decode cX11_worst 78 = .ok (.goto 8, 3) := by decide +kernel
theorem dX11_worst_81 : decode cX11_worst 81 = .ok (.aload_n 0, 1) := by decide +kernel
theorem dX11_worst_82 : decode cX11_worst 82 = .ok (.iload_n 3, 1) := by decide +kernel
theorem dX11_worst_83 : decode cX11_worst 83 = .ok (.invokevirtual 338, 3) := by decide +kernel
theorem dX11_worst_86 : decode cX11_worst 86 = .ok (.ireturn, 1) := by decide +kernel
theorem dX11_worst_87 : decode cX11_worst 87 = .ok (.iload_n 2, 1) := by decide +kernel
theorem dX11_worst_88 : decode cX11_worst 88 = .ok (.iconst 2, 1) := by decide +kernel
theorem dX11_worst_89 : decode cX11_worst 89 = .ok (.if_icmp .ne 15, 3) := by decide +kernel
theorem dX11_worst_92 : decode cX11_worst 92 = .ok (.aload_n 0, 1) := by decide +kernel
theorem dX11_worst_93 : decode cX11_worst 93 = .ok (.aload_n 0, 1) := by decide +kernel
theorem dX11_worst_94 : decode cX11_worst 94 = .ok (.iload_n 3, 1) := by decide +kernel
theorem dX11_worst_95 : decode cX11_worst 95 = .ok (.invokevirtual 341, 3) := by decide +kernel
theorem dX11_worst_98 : decode cX11_worst 98 = .ok (.invokevirtual 338, 3) := by decide +kernel
theorem dX11_worst_101 : decode cX11_worst 101 = .ok (.goto 8, 3) := by decide +kernel
theorem dX11_worst_104 : decode cX11_worst 104 = .ok (.aload_n 0, 1) := by decide +kernel
theorem dX11_worst_105 : decode cX11_worst 105 = .ok (.iload_n 3, 1) := by decide +kernel
theorem dX11_worst_106 : decode cX11_worst 106 = .ok (.invokevirtual 341, 3) := by decide +kernel
theorem dX11_worst_109 : decode cX11_worst 109 = .ok (.ireturn, 1) := by decide +kernel
theorem dX11_isWorse_0 : decode cX11_isWorse 0 = .ok (.aload_n 0, 1) := by decide +kernel
theorem dX11_isWorse_1 : decode cX11_isWorse 1 = .ok (.getfield 17, 3) := by decide +kernel
theorem dX11_isWorse_4 : decode cX11_isWorse 4 = .ok (.sipush 490, 3) := by decide +kernel
theorem dX11_isWorse_7 : decode cX11_isWorse 7 = .ok (.iload_n 1, 1) := by decide +kernel
theorem dX11_isWorse_8 : decode cX11_isWorse 8 = .ok (.iadd, 1) := by decide +kernel
theorem dX11_isWorse_9 : decode cX11_isWorse 9 = .ok (.iaload, 1) := by decide +kernel
theorem dX11_isWorse_10 : decode cX11_isWorse 10 = .ok (.aload_n 0, 1) := by decide +kernel
theorem dX11_isWorse_11 : decode cX11_isWorse 11 = .ok (.getfield 17, 3) := by decide +kernel
theorem dX11_isWorse_14 : decode cX11_isWorse 14 = .ok (.sipush 502, 3) := by decide +kernel
theorem dX11_isWorse_17 : decode cX11_isWorse 17 = .ok (.iload_n 1, 1) := by decide +kernel
theorem dX11_isWorse_18 : decode cX11_isWorse 18 = .ok (.iadd, 1) := by decide +kernel
theorem dX11_isWorse_19 : decode cX11_isWorse 19 = .ok (.iaload, 1) := by decide +kernel
theorem dX11_isWorse_20 : decode cX11_isWorse 20 = .ok (.iadd, 1) := by decide +kernel
theorem dX11_isWorse_21 : decode cX11_isWorse 21 = .ok (.i2l, 1) := by decide +kernel
theorem dX11_isWorse_22 : decode cX11_isWorse 22 = .ok (.lstore_n 3, 1) := by decide +kernel
theorem dX11_isWorse_23 : decode cX11_isWorse 23 = .ok (.aload_n 0, 1) := by decide +kernel
theorem dX11_isWorse_24 : decode cX11_isWorse 24 = .ok (.getfield 17, 3) := by decide +kernel
theorem dX11_isWorse_27 : decode cX11_isWorse 27 = .ok (.sipush 490, 3) := by decide +kernel
theorem dX11_isWorse_30 : decode cX11_isWorse 30 = .ok (.iload_n 2, 1) := by decide +kernel
theorem dX11_isWorse_31 : decode cX11_isWorse 31 = .ok (.iadd, 1) := by decide +kernel
theorem dX11_isWorse_32 : decode cX11_isWorse 32 = .ok (.iaload, 1) := by decide +kernel
theorem dX11_isWorse_33 : decode cX11_isWorse 33 = .ok (.aload_n 0, 1) := by decide +kernel
theorem dX11_isWorse_34 : decode cX11_isWorse 34 = .ok (.getfield 17, 3) := by decide +kernel
theorem dX11_isWorse_37 : decode cX11_isWorse 37 = .ok (.sipush 502, 3) := by decide +kernel
theorem dX11_isWorse_40 : decode cX11_isWorse 40 = .ok (.iload_n 2, 1) := by decide +kernel
theorem dX11_isWorse_41 : decode cX11_isWorse 41 = .ok (.iadd, 1) := by decide +kernel
theorem dX11_isWorse_42 : decode cX11_isWorse 42 = .ok (.iaload, 1) := by decide +kernel
theorem dX11_isWorse_43 : decode cX11_isWorse 43 = .ok (.iadd, 1) := by decide +kernel
theorem dX11_isWorse_44 : decode cX11_isWorse 44 = .ok (.i2l, 1) := by decide +kernel
theorem dX11_isWorse_45 : decode cX11_isWorse 45 = .ok (.lstore 5, 2) := by decide +kernel
theorem dX11_isWorse_47 : decode cX11_isWorse 47 = .ok (.lload_n 3, 1) := by decide +kernel
theorem dX11_isWorse_48 : decode cX11_isWorse 48 = .ok (.lconst 0, 1) := by decide +kernel
theorem dX11_isWorse_49 : decode cX11_isWorse 49 = .ok (.lcmp, 1) := by decide +kernel
theorem dX11_isWorse_50 : decode cX11_isWorse 50 = .ok (.ifCond .ne 7, 3) := by decide +kernel
theorem dX11_isWorse_53 : decode cX11_isWorse 53 = .ok (.lconst 0, 1) := by decide +kernel
theorem dX11_isWorse_54 : decode cX11_isWorse 54 = .ok (.goto 23, 3) := by decide +kernel
theorem dX11_isWorse_57 : decode cX11_isWorse 57 = .ok (.aload_n 0, 1) := by decide +kernel
theorem dX11_isWorse_58 : decode cX11_isWorse 58 = .ok (.iload_n 1, 1) := by decide +kernel
theorem dX11_isWorse_59 : decode cX11_isWorse 59 = .ok (.invokevirtual 331, 3) := by decide +kernel
theorem dX11_isWorse_62 : decode cX11_isWorse 62 = .ok (.i2l, 1) := by decide +kernel
theorem dX11_isWorse_63 : decode cX11_isWorse 63 = .ok (.lload 5, 2) := by decide +kernel
theorem dX11_isWorse_65 : decode cX11_isWorse 65 = .ok (.lconst 0, 1) := by decide +kernel
theorem dX11_isWorse_66 : decode cX11_isWorse 66 = .ok (.lcmp, 1) := by decide +kernel
theorem dX11_isWorse_67 : decode cX11_isWorse 67 = .ok (.ifCond .ne 7, 3) := by decide +kernel
theorem dX11_isWorse_70 : decode cX11_isWorse 70 = .ok (.lconst 1, 1) := by decide +kernel
theorem dX11_isWorse_71 : decode cX11_isWorse 71 = .ok (.goto 5, 3) := by decide +kernel
theorem dX11_isWorse_74 : decode cX11_isWorse 74 = .ok (.lload 5, 2) := by decide +kernel
theorem dX11_isWorse_76 : decode cX11_isWorse 76 = .ok (.lmul, 1) := by decide +kernel
theorem dX11_isWorse_77 : decode cX11_isWorse 77 = .ok (.lstore 7, 2) := by decide +kernel
theorem dX11_isWorse_79 : decode cX11_isWorse 79 = .ok (.lload 5, 2) := by decide +kernel
theorem dX11_isWorse_81 : decode cX11_isWorse 81 = .ok (.lconst 0, 1) := by decide +kernel
theorem dX11_isWorse_82 : decode cX11_isWorse 82 = .ok (.lcmp, 1) := by decide +kernel
theorem dX11_isWorse_83 : decode cX11_isWorse 83 = .ok (.ifCond .ne 7, 3) := by decide +kernel
theorem dX11_isWorse_86 : decode cX11_isWorse 86 = .ok (.lconst 0, 1) := by decide +kernel
theorem dX11_isWorse_87 : decode cX11_isWorse 87 = .ok (.goto 21, 3) := by decide +kernel
theorem dX11_isWorse_90 : decode cX11_isWorse 90 = .ok (.aload_n 0, 1) := by decide +kernel
theorem dX11_isWorse_91 : decode cX11_isWorse 91 = .ok (.iload_n 2, 1) := by decide +kernel
theorem dX11_isWorse_92 : decode cX11_isWorse 92 = .ok (.invokevirtual 331, 3) := by decide +kernel
theorem dX11_isWorse_95 : decode cX11_isWorse 95 = .ok (.i2l, 1) := by decide +kernel
theorem dX11_isWorse_96 : decode cX11_isWorse 96 = .ok (.lload_n 3, 1) := by decide +kernel
theorem dX11_isWorse_97 : decode cX11_isWorse 97 = .ok (.lconst 0, 1) := by decide +kernel
theorem dX11_isWorse_98 : decode cX11_isWorse 98 = .ok (.lcmp, 1) := by decide +kernel
theorem dX11_isWorse_99 : decode cX11_isWorse 99 = .ok (.ifCond .ne 7, 3) := by decide +kernel
theorem dX11_isWorse_102 : decode cX11_isWorse 102 = .ok (.lconst 1, 1) := by decide +kernel
theorem dX11_isWorse_103 : decode cX11_isWorse 103 = .ok (.goto 4, 3) := by decide +kernel
theorem dX11_isWorse_106 : decode cX11_isWorse 106 = .ok (.lload_n 3, 1) := by decide +kernel
theorem dX11_isWorse_107 : decode cX11_isWorse 107 = .ok (.lmul, 1) := by decide +kernel
theorem dX11_isWorse_108 : decode cX11_isWorse 108 = .ok (.lstore 9, 2) := by decide +kernel
theorem dX11_isWorse_110 : decode cX11_isWorse 110 = .ok (.lload 7, 2) := by decide +kernel
theorem dX11_isWorse_112 : decode cX11_isWorse 112 = .ok (.lload 9, 2) := by decide +kernel
theorem dX11_isWorse_114 : decode cX11_isWorse 114 = .ok (.lcmp, 1) := by decide +kernel
theorem dX11_isWorse_115 : decode cX11_isWorse 115 = .ok (.ifCond .le 7, 3) := by decide +kernel
theorem dX11_isWorse_118 : decode cX11_isWorse 118 = .ok (.iconst 1, 1) := by decide +kernel
theorem dX11_isWorse_119 : decode cX11_isWorse 119 = .ok (.goto 4, 3) := by decide +kernel
theorem dX11_isWorse_122 : decode cX11_isWorse 122 = .ok (.iconst 0, 1) := by decide +kernel
theorem dX11_isWorse_123 : decode cX11_isWorse 123 = .ok (.ireturn, 1) := by decide +kernel
theorem dX11_ranked_0 : decode cX11_ranked 0 = .ok (.aload_n 0, 1) := by decide +kernel
theorem dX11_ranked_1 : decode cX11_ranked 1 = .ok (.iconst 0, 1) := by decide +kernel
theorem dX11_ranked_2 : decode cX11_ranked 2 = .ok (.putfield 1, 3) := by decide +kernel
theorem dX11_ranked_5 : decode cX11_ranked 5 = .ok (.aload_n 0, 1) := by decide +kernel
theorem dX11_ranked_6 : decode cX11_ranked 6 = .ok (.iload_n 1, 1) := by decide +kernel
theorem dX11_ranked_7 : decode cX11_ranked 7 = .ok (.invokevirtual 316, 3) := by decide +kernel
theorem dX11_ranked_10 : decode cX11_ranked 10 = .ok (.ifCond .ne 5, 3) := by decide +kernel
theorem dX11_ranked_13 : decode cX11_ranked 13 = .ok (.iconst (-1), 1) := by decide +kernel
theorem dX11_ranked_14 : decode cX11_ranked 14 = .ok (.ireturn, 1) := by decide +kernel
theorem dX11_ranked_15 : decode cX11_ranked 15 = .ok (.iconst 0, 1) := by decide +kernel
theorem dX11_ranked_16 : decode cX11_ranked 16 = .ok (.istore_n 2, 1) := by decide +kernel
theorem dX11_ranked_17 : decode cX11_ranked 17 = .ok (.iload_n 2, 1) := by decide +kernel
theorem dX11_ranked_18 : decode cX11_ranked 18 = .ok (.aload_n 0, 1) := by decide +kernel
theorem dX11_ranked_19 : decode cX11_ranked 19 = .ok (.getfield 17, 3) := by decide +kernel
theorem dX11_ranked_22 : decode cX11_ranked 22 = .ok (.sipush 477, 3) := by decide +kernel
theorem dX11_ranked_25 : decode cX11_ranked 25 = .ok (.iaload, 1) := by decide +kernel
theorem dX11_ranked_26 : decode cX11_ranked 26 = .ok (.if_icmp .ge 74, 3) := by decide +kernel
theorem dX11_ranked_29 : decode cX11_ranked 29 = .ok (.iconst 0, 1) := by decide +kernel
theorem dX11_ranked_30 : decode cX11_ranked 30 = .ok (.istore_n 3, 1) := by decide +kernel
theorem dX11_ranked_31 : decode cX11_ranked 31 = .ok (.iconst 0, 1) := by decide +kernel
theorem dX11_ranked_32 : decode cX11_ranked 32 = .ok (.istore 4, 2) := by decide +kernel
theorem dX11_ranked_34 : decode cX11_ranked 34 = .ok (.iload 4, 2) := by decide +kernel
theorem dX11_ranked_36 : decode cX11_ranked 36 = .ok (.aload_n 0, 1) := by decide +kernel
theorem dX11_ranked_37 : decode cX11_ranked 37 = .ok (.getfield 17, 3) := by decide +kernel
theorem dX11_ranked_40 : decode cX11_ranked 40 = .ok (.sipush 477, 3) := by decide +kernel
theorem dX11_ranked_43 : decode cX11_ranked 43 = .ok (.iaload, 1) := by decide +kernel
theorem dX11_ranked_44 : decode cX11_ranked 44 = .ok (.if_icmp .ge 43, 3) := by decide +kernel
theorem dX11_ranked_47 : decode cX11_ranked 47 = .ok (.iload_n 3, 1) := by decide +kernel
theorem dX11_ranked_48 : decode cX11_ranked 48 = .ok (.aload_n 0, 1) := by decide +kernel
theorem dX11_ranked_49 : decode cX11_ranked 49 = .ok (.iload 4, 2) := by decide +kernel
theorem dX11_ranked_51 : decode cX11_ranked 51 = .ok (.iload_n 2, 1) := by decide +kernel
theorem dX11_ranked_52 : decode cX11_ranked 52 = .ok (.invokevirtual 344, 3) := by decide +kernel
theorem dX11_ranked_55 : decode cX11_ranked 55 = .ok (.ifCond .ne 19, 3) := by decide +kernel
theorem dX11_ranked_58 : decode cX11_ranked 58 = .ok (.iload 4, 2) := by decide +kernel
theorem dX11_ranked_60 : decode cX11_ranked 60 = .ok (.iload_n 2, 1) := by decide +kernel
theorem dX11_ranked_61 : decode cX11_ranked 61 = .ok (.if_icmp .ge 17, 3) := by decide +kernel
theorem dX11_ranked_64 : decode cX11_ranked 64 = .ok (.aload_n 0, 1) := by decide +kernel
theorem dX11_ranked_65 : decode cX11_ranked 65 = .ok (.iload_n 2, 1) := by decide +kernel
theorem dX11_ranked_66 : decode cX11_ranked 66 = .ok (.iload 4, 2) := by decide +kernel
theorem dX11_ranked_68 : decode cX11_ranked 68 = .ok (.invokevirtual 344, 3) := by decide +kernel
theorem dX11_ranked_71 : decode cX11_ranked 71 = .ok (.ifCond .ne 7, 3) := by decide +kernel
theorem dX11_ranked_74 : decode cX11_ranked 74 = .ok (.iconst 1, 1) := by decide +kernel
theorem dX11_ranked_75 : decode cX11_ranked 75 = .ok (.goto 4, 3) := by decide +kernel
theorem dX11_ranked_78 : decode cX11_ranked 78 = .ok (.iconst 0, 1) := by decide +kernel
theorem dX11_ranked_79 : decode cX11_ranked 79 = .ok (.iadd, 1) := by decide +kernel
theorem dX11_ranked_80 : decode cX11_ranked 80 = .ok (.istore_n 3, 1) := by decide +kernel
theorem dX11_ranked_81 : decode cX11_ranked 81 = .ok (.iinc 4 1, 3) := by decide +kernel
theorem dX11_ranked_84 : decode cX11_ranked 84 = .ok (.goto (-50), 3) := by decide +kernel
theorem dX11_ranked_87 : decode cX11_ranked 87 = .ok (.iload_n 3, 1) := by decide +kernel
theorem dX11_ranked_88 : decode cX11_ranked 88 = .ok (.iload_n 1, 1) := by decide +kernel
theorem dX11_ranked_89 : decode cX11_ranked 89 = .ok (.if_icmp .ne 5, 3) := by decide +kernel
theorem dX11_ranked_92 : decode cX11_ranked 92 = .ok (.iload_n 2, 1) := by decide +kernel
theorem dX11_ranked_93 : decode cX11_ranked 93 = .ok (.ireturn, 1) := by decide +kernel
theorem dX11_ranked_94 : decode cX11_ranked 94 = .ok (.iinc 2 1, 3) := by decide +kernel
theorem dX11_ranked_97 : decode cX11_ranked 97 = .ok (.goto (-80), 3) := by decide +kernel
theorem dX11_ranked_100 : decode cX11_ranked 100 = .ok (.iconst (-1), 1) := by decide +kernel
theorem dX11_ranked_101 : decode cX11_ranked 101 = .ok (.ireturn, 1) := by decide +kernel
theorem dX11_measure_0 : decode cX11_measure 0 = .ok (.aload_n 0, 1) := by decide +kernel
theorem dX11_measure_1 : decode cX11_measure 1 = .ok (.iconst 0, 1) := by decide +kernel
theorem dX11_measure_2 : decode cX11_measure 2 = .ok (.putfield 1, 3) := by decide +kernel
theorem dX11_measure_5 : decode cX11_measure 5 = .ok (.iload_n 1, 1) := by decide +kernel
theorem dX11_measure_6 : decode cX11_measure 6 = .ok (.i2l, 1) := by decide +kernel
theorem dX11_measure_7 : decode cX11_measure 7 = .ok (.lconst 0, 1) := by decide +kernel
theorem dX11_measure_8 : decode cX11_measure 8 = .ok (.ldc2_w 213, 3) := by decide +kernel
theorem dX11_measure_11 : decode cX11_measure 11 = .ok (.invokestatic 152, 3) := by decide +kernel
theorem dX11_measure_14 : decode cX11_measure 14 = .ok (.ifCond .ne 10, 3) := by decide +kernel
theorem dX11_measure_17 : decode cX11_measure 17 = .ok (.aload_n 0, 1) := by decide +kernel
theorem dX11_measure_18 : decode cX11_measure 18 = .ok (.bipush (-2), 2) := by decide +kernel
theorem dX11_measure_20 : decode cX11_measure 20 = .ok (.invokevirtual 89, 3) := by decide +kernel
theorem dX11_measure_23 : decode cX11_measure 23 = .ok (.ireturn, 1) := by decide +kernel
theorem dX11_measure_24 : decode cX11_measure 24 = .ok (.iload_n 2, 1) := by decide +kernel
theorem dX11_measure_25 : decode cX11_measure 25 = .ok (.i2l, 1) := by decide +kernel
theorem dX11_measure_26 : decode cX11_measure 26 = .ok (.lconst 1, 1) := by decide +kernel
theorem dX11_measure_27 : decode cX11_measure 27 = .ok (.ldc2_w 281, 3) := by decide +kernel
theorem dX11_measure_30 : decode cX11_measure 30 = .ok (.invokestatic 152, 3) := by decide +kernel
theorem dX11_measure_33 : decode cX11_measure 33 = .ok (.ifCond .eq 15, 3) := by decide +kernel
theorem dX11_measure_36 : decode cX11_measure 36 = .ok (.iload_n 3, 1) := by decide +kernel
theorem dX11_measure_37 : decode cX11_measure 37 = .ok (.i2l, 1) := by decide +kernel
theorem dX11_measure_38 : decode cX11_measure 38 = .ok (.lconst 0, 1) := by decide +kernel
theorem dX11_measure_39 : decode cX11_measure 39 = .ok (.ldc2_w 286, 3) := by decide +kernel
theorem dX11_measure_42 : decode cX11_measure 42 = .ok (.invokestatic 152, 3) := by decide +kernel
theorem dX11_measure_45 : decode cX11_measure 45 = .ok (.ifCond .ne 10, 3) := by decide +kernel
theorem dX11_measure_48 : decode cX11_measure 48 = .ok (.aload_n 0, 1) := by decide +kernel
theorem dX11_measure_49 : decode cX11_measure 49 = .ok (.bipush (-3), 2) := by decide +kernel
theorem dX11_measure_51 : decode cX11_measure 51 = .ok (.invokevirtual 89, 3) := by decide +kernel
theorem dX11_measure_54 : decode cX11_measure 54 = .ok (.ireturn, 1) := by decide +kernel
theorem dX11_measure_55 : decode cX11_measure 55 = .ok (.aload_n 0, 1) := by decide +kernel
theorem dX11_measure_56 : decode cX11_measure 56 = .ok (.getfield 17, 3) := by decide +kernel
theorem dX11_measure_59 : decode cX11_measure 59 = .ok (.sipush 550, 3) := by decide +kernel
theorem dX11_measure_62 : decode cX11_measure 62 = .ok (.iload_n 1, 1) := by decide +kernel
theorem dX11_measure_63 : decode cX11_measure 63 = .ok (.iadd, 1) := by decide +kernel
theorem dX11_measure_64 : decode cX11_measure 64 = .ok (.iload_n 2, 1) := by decide +kernel
theorem dX11_measure_65 : decode cX11_measure 65 = .ok (.iastore, 1) := by decide +kernel
theorem dX11_measure_66 : decode cX11_measure 66 = .ok (.aload_n 0, 1) := by decide +kernel
theorem dX11_measure_67 : decode cX11_measure 67 = .ok (.getfield 17, 3) := by decide +kernel
theorem dX11_measure_70 : decode cX11_measure 70 = .ok (.sipush 554, 3) := by decide +kernel
theorem dX11_measure_73 : decode cX11_measure 73 = .ok (.iload_n 1, 1) := by decide +kernel
theorem dX11_measure_74 : decode cX11_measure 74 = .ok (.iadd, 1) := by decide +kernel
theorem dX11_measure_75 : decode cX11_measure 75 = .ok (.iload_n 3, 1) := by decide +kernel
theorem dX11_measure_76 : decode cX11_measure 76 = .ok (.iastore, 1) := by decide +kernel
theorem dX11_measure_77 : decode cX11_measure 77 = .ok (.iconst 0, 1) := by decide +kernel
theorem dX11_measure_78 : decode cX11_measure 78 = .ok (.ireturn, 1) := by decide +kernel
theorem dX11_costOf_0 : decode cX11_costOf 0 = .ok (.iconst 0, 1) := by decide +kernel
theorem dX11_costOf_1 : decode cX11_costOf 1 = .ok (.istore_n 2, 1) := by decide +kernel
theorem dX11_costOf_2 : decode cX11_costOf 2 = .ok (.iconst 0, 1) := by decide +kernel
theorem dX11_costOf_3 : decode cX11_costOf 3 = .ok (.istore_n 3, 1) := by decide +kernel
theorem dX11_costOf_4 : decode cX11_costOf 4 = .ok (.iload_n 3, 1) := by decide +kernel
theorem dX11_costOf_5 : decode cX11_costOf 5 = .ok (.iconst 4, 1) := by decide +kernel
theorem dX11_costOf_6 : decode cX11_costOf 6 = .ok (.if_icmp .ge 35, 3) := by decide +kernel
theorem dX11_costOf_9 : decode cX11_costOf 9 = .ok (.iload_n 2, 1) := by decide +kernel
theorem dX11_costOf_10 : decode cX11_costOf 10 = .ok (.iload_n 1, 1) := by decide +kernel
theorem dX11_costOf_11 : decode cX11_costOf 11 = .ok (.iload_n 3, 1) := by decide +kernel
theorem dX11_costOf_12 : decode cX11_costOf 12 = .ok (.ishr, 1) := by decide +kernel
theorem dX11_costOf_13 : decode cX11_costOf 13 = .ok (.iconst 1, 1) := by decide +kernel
theorem dX11_costOf_14 : decode cX11_costOf 14 = .ok (.iand, 1) := by decide +kernel
theorem dX11_costOf_15 : decode cX11_costOf 15 = .ok (.iconst 1, 1) := by decide +kernel
theorem dX11_costOf_16 : decode cX11_costOf 16 = .ok (.if_icmp .ne 16, 3) := by decide +kernel
theorem dX11_costOf_19 : decode cX11_costOf 19 = .ok (.aload_n 0, 1) := by decide +kernel
theorem dX11_costOf_20 : decode cX11_costOf 20 = .ok (.getfield 17, 3) := by decide +kernel
theorem dX11_costOf_23 : decode cX11_costOf 23 = .ok (.sipush 550, 3) := by decide +kernel
theorem dX11_costOf_26 : decode cX11_costOf 26 = .ok (.iload_n 3, 1) := by decide +kernel
theorem dX11_costOf_27 : decode cX11_costOf 27 = .ok (.iadd, 1) := by decide +kernel
theorem dX11_costOf_28 : decode cX11_costOf 28 = .ok (.iaload, 1) := by decide +kernel
theorem dX11_costOf_29 : decode cX11_costOf 29 = .ok (.goto 4, 3) := by decide +kernel
theorem dX11_costOf_32 : decode cX11_costOf 32 = .ok (.iconst 0, 1) := by decide +kernel
theorem dX11_costOf_33 : decode cX11_costOf 33 = .ok (.iadd, 1) := by decide +kernel
theorem dX11_costOf_34 : decode cX11_costOf 34 = .ok (.istore_n 2, 1) := by decide +kernel
theorem dX11_costOf_35 : decode cX11_costOf 35 = .ok (.iinc 3 1, 3) := by decide +kernel
theorem dX11_costOf_38 : decode cX11_costOf 38 = .ok (.goto (-34), 3) := by decide +kernel
theorem dX11_costOf_41 : decode cX11_costOf 41 = .ok (.iload_n 2, 1) := by decide +kernel
theorem dX11_costOf_42 : decode cX11_costOf 42 = .ok (.ireturn, 1) := by decide +kernel
theorem dX11_leftOf_0 : decode cX11_leftOf 0 = .ok (.aload_n 0, 1) := by decide +kernel
theorem dX11_leftOf_1 : decode cX11_leftOf 1 = .ok (.iload_n 1, 1) := by decide +kernel
theorem dX11_leftOf_2 : decode cX11_leftOf 2 = .ok (.invokevirtual 331, 3) := by decide +kernel
theorem dX11_leftOf_5 : decode cX11_leftOf 5 = .ok (.sipush 10000, 3) := by decide +kernel
theorem dX11_leftOf_8 : decode cX11_leftOf 8 = .ok (.imul, 1) := by decide +kernel
theorem dX11_leftOf_9 : decode cX11_leftOf 9 = .ok (.istore_n 3, 1) := by decide +kernel
theorem dX11_leftOf_10 : decode cX11_leftOf 10 = .ok (.iconst 0, 1) := by decide +kernel
theorem dX11_leftOf_11 : decode cX11_leftOf 11 = .ok (.istore 4, 2) := by decide +kernel
theorem dX11_leftOf_13 : decode cX11_leftOf 13 = .ok (.iload 4, 2) := by decide +kernel
theorem dX11_leftOf_15 : decode cX11_leftOf 15 = .ok (.iconst 4, 1) := by decide +kernel
theorem dX11_leftOf_16 : decode cX11_leftOf 16 = .ok (.if_icmp .ge 44, 3) := by decide +kernel
theorem dX11_leftOf_19 : decode cX11_leftOf 19 = .ok (.iload_n 2, 1) := by decide +kernel
theorem dX11_leftOf_20 : decode cX11_leftOf 20 = .ok (.iload 4, 2) := by decide +kernel
theorem dX11_leftOf_22 : decode cX11_leftOf 22 = .ok (.ishr, 1) := by decide +kernel
theorem dX11_leftOf_23 : decode cX11_leftOf 23 = .ok (.iconst 1, 1) := by decide +kernel
theorem dX11_leftOf_24 : decode cX11_leftOf 24 = .ok (.iand, 1) := by decide +kernel
theorem dX11_leftOf_25 : decode cX11_leftOf 25 = .ok (.iconst 1, 1) := by decide +kernel
theorem dX11_leftOf_26 : decode cX11_leftOf 26 = .ok (.if_icmp .ne 26, 3) := by decide +kernel
theorem dX11_leftOf_29 : decode cX11_leftOf 29 = .ok (.iload_n 3, 1) := by decide +kernel
theorem dX11_leftOf_30 : decode cX11_leftOf 30 = .ok (.i2l, 1) := by decide +kernel
theorem dX11_leftOf_31 : decode cX11_leftOf 31 = .ok (.aload_n 0, 1) := by decide +kernel
theorem dX11_leftOf_32 : decode cX11_leftOf 32 = .ok (.getfield 17, 3) := by decide +kernel
theorem dX11_leftOf_35 : decode cX11_leftOf 35 = .ok (.sipush 554, 3) := by decide +kernel
theorem dX11_leftOf_38 : decode cX11_leftOf 38 = .ok (.iload 4, 2) := by decide +kernel
theorem dX11_leftOf_40 : decode cX11_leftOf 40 = .ok (.iadd, 1) := by decide +kernel
theorem dX11_leftOf_41 : decode cX11_leftOf 41 = .ok (.iaload, 1) := by decide +kernel
theorem dX11_leftOf_42 : decode cX11_leftOf 42 = .ok (.i2l, 1) := by decide +kernel
theorem dX11_leftOf_43 : decode cX11_leftOf 43 = .ok (.lmul, 1) := by decide +kernel
theorem dX11_leftOf_44 : decode cX11_leftOf 44 = .ok (.ldc2_w 286, 3) := by decide +kernel
theorem dX11_leftOf_47 : decode cX11_leftOf 47 = .ok (.ldiv, 1) := by decide +kernel
theorem dX11_leftOf_48 : decode cX11_leftOf 48 = .ok (.l2i, 1) := by decide +kernel
theorem dX11_leftOf_49 : decode cX11_leftOf 49 = .ok (.goto 4, 3) := by decide +kernel
theorem dX11_leftOf_52 : decode cX11_leftOf 52 = .ok (.iload_n 3, 1) := by decide +kernel
theorem dX11_leftOf_53 : decode cX11_leftOf 53 = .ok (.istore_n 3, 1) := by decide +kernel
theorem dX11_leftOf_54 : decode cX11_leftOf 54 = .ok (.iinc 4 1, 3) := by decide +kernel
theorem dX11_leftOf_57 : decode cX11_leftOf 57 = .ok (.goto (-44), 3) := by decide +kernel
theorem dX11_leftOf_60 : decode cX11_leftOf 60 = .ok (.iload_n 3, 1) := by decide +kernel
theorem dX11_leftOf_61 : decode cX11_leftOf 61 = .ok (.ireturn, 1) := by decide +kernel
theorem dX11_isBest_0 : decode cX11_isBest 0 = .ok (.aload_n 0, 1) := by decide +kernel
theorem dX11_isBest_1 : decode cX11_isBest 1 = .ok (.iload_n 3, 1) := by decide +kernel
theorem dX11_isBest_2 : decode cX11_isBest 2 = .ok (.invokevirtual 347, 3) := by decide +kernel
theorem dX11_isBest_5 : decode cX11_isBest 5 = .ok (.iload_n 2, 1) := by decide +kernel
theorem dX11_isBest_6 : decode cX11_isBest 6 = .ok (.if_icmp .le 5, 3) := by decide +kernel
theorem dX11_isBest_9 : decode cX11_isBest 9 = .ok (.iconst 0, 1) := by decide +kernel
theorem dX11_isBest_10 : decode cX11_isBest 10 = .ok (.ireturn, 1) := by decide +kernel
theorem dX11_isBest_11 : decode cX11_isBest 11 = .ok (.iload_n 1, 1) := by decide +kernel
theorem dX11_isBest_12 : decode cX11_isBest 12 = .ok (.iconst 1, 1) := by decide +kernel
theorem dX11_isBest_13 : decode cX11_isBest 13 = .ok (.iadd, 1) := by decide +kernel
theorem dX11_isBest_14 : decode cX11_isBest 14 = .ok (.sipush 1000, 3) := by decide +kernel
theorem dX11_isBest_17 : decode cX11_isBest 17 = .ok (.imul, 1) := by decide +kernel
theorem dX11_isBest_18 : decode cX11_isBest 18 = .ok (.iload_n 2, 1) := by decide +kernel
theorem dX11_isBest_19 : decode cX11_isBest 19 = .ok (.iadd, 1) := by decide +kernel
theorem dX11_isBest_20 : decode cX11_isBest 20 = .ok (.aload_n 0, 1) := by decide +kernel
theorem dX11_isBest_21 : decode cX11_isBest 21 = .ok (.iload_n 3, 1) := by decide +kernel
theorem dX11_isBest_22 : decode cX11_isBest 22 = .ok (.invokevirtual 347, 3) := by decide +kernel
theorem dX11_isBest_25 : decode cX11_isBest 25 = .ok (.isub, 1) := by decide +kernel
theorem dX11_isBest_26 : decode cX11_isBest 26 = .ok (.istore 4, 2) := by decide +kernel
theorem dX11_isBest_28 : decode cX11_isBest 28 = .ok (.aload_n 0, 1) := by decide +kernel
theorem dX11_isBest_29 : decode cX11_isBest 29 = .ok (.iload_n 1, 1) := by decide +kernel
theorem dX11_isBest_30 : decode cX11_isBest 30 = .ok (.iload_n 3, 1) := by decide +kernel
theorem dX11_isBest_31 : decode cX11_isBest 31 = .ok (.invokevirtual 350, 3) := by decide +kernel
theorem dX11_isBest_34 : decode cX11_isBest 34 = .ok (.aload_n 0, 1) := by decide +kernel
theorem dX11_isBest_35 : decode cX11_isBest 35 = .ok (.getfield 64, 3) := by decide +kernel
theorem dX11_isBest_38 : decode cX11_isBest 38 = .ok (.iload 4, 2) := by decide +kernel
theorem dX11_isBest_40 : decode cX11_isBest 40 = .ok (.iaload, 1) := by decide +kernel
theorem dX11_isBest_41 : decode cX11_isBest 41 = .ok (.iadd, 1) := by decide +kernel
theorem dX11_isBest_42 : decode cX11_isBest 42 = .ok (.aload_n 0, 1) := by decide +kernel
theorem dX11_isBest_43 : decode cX11_isBest 43 = .ok (.getfield 64, 3) := by decide +kernel
theorem dX11_isBest_46 : decode cX11_isBest 46 = .ok (.iload_n 1, 1) := by decide +kernel
theorem dX11_isBest_47 : decode cX11_isBest 47 = .ok (.sipush 1000, 3) := by decide +kernel
theorem dX11_isBest_50 : decode cX11_isBest 50 = .ok (.imul, 1) := by decide +kernel
theorem dX11_isBest_51 : decode cX11_isBest 51 = .ok (.iload_n 2, 1) := by decide +kernel
theorem dX11_isBest_52 : decode cX11_isBest 52 = .ok (.iadd, 1) := by decide +kernel
theorem dX11_isBest_53 : decode cX11_isBest 53 = .ok (.iaload, 1) := by decide +kernel
theorem dX11_isBest_54 : decode cX11_isBest 54 = .ok (.if_icmp .ne 35, 3) := by decide +kernel
theorem dX11_isBest_57 : decode cX11_isBest 57 = .ok (.aload_n 0, 1) := by decide +kernel
theorem dX11_isBest_58 : decode cX11_isBest 58 = .ok (.iload_n 3, 1) := by decide +kernel
theorem dX11_isBest_59 : decode cX11_isBest 59 = .ok (.invokevirtual 347, 3) := by decide +kernel
theorem dX11_isBest_62 : decode cX11_isBest 62 = .ok (.aload_n 0, 1) := by decide +kernel
theorem dX11_isBest_63 : decode cX11_isBest 63 = .ok (.getfield 67, 3) := by decide +kernel
theorem dX11_isBest_66 : decode cX11_isBest 66 = .ok (.iload 4, 2) := by decide +kernel
theorem dX11_isBest_68 : decode cX11_isBest 68 = .ok (.iaload, 1) := by decide +kernel
theorem dX11_isBest_69 : decode cX11_isBest 69 = .ok (.iadd, 1) := by decide +kernel
theorem dX11_isBest_70 : decode cX11_isBest 70 = .ok (.aload_n 0, 1) := by decide +kernel
theorem dX11_isBest_71 : decode cX11_isBest 71 = .ok (.getfield 67, 3) := by decide +kernel
theorem dX11_isBest_74 : decode cX11_isBest 74 = .ok (.iload_n 1, 1) := by decide +kernel
theorem dX11_isBest_75 : decode cX11_isBest 75 = .ok (.sipush 1000, 3) := by decide +kernel
theorem dX11_isBest_78 : decode cX11_isBest 78 = .ok (.imul, 1) := by decide +kernel
theorem dX11_isBest_79 : decode cX11_isBest 79 = .ok (.iload_n 2, 1) := by decide +kernel
theorem dX11_isBest_80 : decode cX11_isBest 80 = .ok (.iadd, 1) := by decide +kernel
theorem dX11_isBest_81 : decode cX11_isBest 81 = .ok (.iaload, 1) := by decide +kernel
theorem dX11_isBest_82 : decode cX11_isBest 82 = .ok (.if_icmp .ne 7, 3) := by decide +kernel
theorem dX11_isBest_85 : decode cX11_isBest 85 = .ok (.iconst 1, 1) := by decide +kernel
theorem dX11_isBest_86 : decode cX11_isBest 86 = .ok (.goto 4, 3) := by decide +kernel
theorem dX11_isBest_89 : decode cX11_isBest 89 = .ok (.iconst 0, 1) := by decide +kernel
theorem dX11_isBest_90 : decode cX11_isBest 90 = .ok (.ireturn, 1) := by decide +kernel
theorem dX11_laysSpent_0 : decode cX11_laysSpent 0 = .ok (.iconst 0, 1) := by decide +kernel
theorem dX11_laysSpent_1 : decode cX11_laysSpent 1 = .ok (.istore_n 2, 1) := by decide +kernel
theorem dX11_laysSpent_2 : decode cX11_laysSpent 2 = .ok (.iload_n 2, 1) := by decide +kernel
theorem dX11_laysSpent_3 : decode cX11_laysSpent 3 = .ok (.iload_n 1, 1) := by decide +kernel
theorem dX11_laysSpent_4 : decode cX11_laysSpent 4 = .ok (.if_icmp .gt 49, 3) := by decide +kernel
theorem dX11_laysSpent_7 : decode cX11_laysSpent 7 = .ok (.aload_n 0, 1) := by decide +kernel
theorem dX11_laysSpent_8 : decode cX11_laysSpent 8 = .ok (.getfield 64, 3) := by decide +kernel
theorem dX11_laysSpent_11 : decode cX11_laysSpent 11 = .ok (.aload_n 0, 1) := by decide +kernel
theorem dX11_laysSpent_12 : decode cX11_laysSpent 12 = .ok (.getfield 17, 3) := by decide +kernel
theorem dX11_laysSpent_15 : decode cX11_laysSpent 15 = .ok (.sipush 477, 3) := by decide +kernel
theorem dX11_laysSpent_18 : decode cX11_laysSpent 18 = .ok (.iaload, 1) := by decide +kernel
theorem dX11_laysSpent_19 : decode cX11_laysSpent 19 = .ok (.sipush 1000, 3) := by decide +kernel
theorem dX11_laysSpent_22 : decode cX11_laysSpent 22 = .ok (.imul, 1) := by decide +kernel
theorem dX11_laysSpent_23 : decode cX11_laysSpent 23 = .ok (.iload_n 2, 1) := by decide +kernel
theorem dX11_laysSpent_24 : decode cX11_laysSpent 24 = .ok (.iadd, 1) := by decide +kernel
theorem dX11_laysSpent_25 : decode cX11_laysSpent 25 = .ok (.iconst 0, 1) := by decide +kernel
theorem dX11_laysSpent_26 : decode cX11_laysSpent 26 = .ok (.iastore, 1) := by decide +kernel
theorem dX11_laysSpent_27 : decode cX11_laysSpent 27 = .ok (.aload_n 0, 1) := by decide +kernel
theorem dX11_laysSpent_28 : decode cX11_laysSpent 28 = .ok (.getfield 67, 3) := by decide +kernel
theorem dX11_laysSpent_31 : decode cX11_laysSpent 31 = .ok (.aload_n 0, 1) := by decide +kernel
theorem dX11_laysSpent_32 : decode cX11_laysSpent 32 = .ok (.getfield 17, 3) := by decide +kernel
theorem dX11_laysSpent_35 : decode cX11_laysSpent 35 = .ok (.sipush 477, 3) := by decide +kernel
theorem dX11_laysSpent_38 : decode cX11_laysSpent 38 = .ok (.iaload, 1) := by decide +kernel
theorem dX11_laysSpent_39 : decode cX11_laysSpent 39 = .ok (.sipush 1000, 3) := by decide +kernel
theorem dX11_laysSpent_42 : decode cX11_laysSpent 42 = .ok (.imul, 1) := by decide +kernel
theorem dX11_laysSpent_43 : decode cX11_laysSpent 43 = .ok (.iload_n 2, 1) := by decide +kernel
theorem dX11_laysSpent_44 : decode cX11_laysSpent 44 = .ok (.iadd, 1) := by decide +kernel
theorem dX11_laysSpent_45 : decode cX11_laysSpent 45 = .ok (.iconst 0, 1) := by decide +kernel
theorem dX11_laysSpent_46 : decode cX11_laysSpent 46 = .ok (.iastore, 1) := by decide +kernel
theorem dX11_laysSpent_47 : decode cX11_laysSpent 47 = .ok (.iinc 2 1, 3) := by decide +kernel
theorem dX11_laysSpent_50 : decode cX11_laysSpent 50 = .ok (.goto (-48), 3) := by decide +kernel
theorem dX11_laysSpent_53 : decode cX11_laysSpent 53 = .ok (.aload_n 0, 1) := by decide +kernel
theorem dX11_laysSpent_54 : decode cX11_laysSpent 54 = .ok (.getfield 17, 3) := by decide +kernel
theorem dX11_laysSpent_57 : decode cX11_laysSpent 57 = .ok (.sipush 477, 3) := by decide +kernel
theorem dX11_laysSpent_60 : decode cX11_laysSpent 60 = .ok (.iaload, 1) := by decide +kernel
theorem dX11_laysSpent_61 : decode cX11_laysSpent 61 = .ok (.iconst 1, 1) := by decide +kernel
theorem dX11_laysSpent_62 : decode cX11_laysSpent 62 = .ok (.isub, 1) := by decide +kernel
theorem dX11_laysSpent_63 : decode cX11_laysSpent 63 = .ok (.istore_n 2, 1) := by decide +kernel
theorem dX11_laysSpent_64 : decode cX11_laysSpent 64 = .ok (.iload_n 2, 1) := by decide +kernel
theorem dX11_laysSpent_65 : decode cX11_laysSpent 65 = .ok (.ifCond .lt 187, 3) := by decide +kernel
theorem dX11_laysSpent_68 : decode cX11_laysSpent 68 = .ok (.iconst 0, 1) := by decide +kernel
theorem dX11_laysSpent_69 : decode cX11_laysSpent 69 = .ok (.istore_n 3, 1) := by decide +kernel
theorem dX11_laysSpent_70 : decode cX11_laysSpent 70 = .ok (.iload_n 3, 1) := by decide +kernel
theorem dX11_laysSpent_71 : decode cX11_laysSpent 71 = .ok (.iload_n 1, 1) := by decide +kernel
theorem dX11_laysSpent_72 : decode cX11_laysSpent 72 = .ok (.if_icmp .gt 174, 3) := by decide +kernel
theorem dX11_laysSpent_75 : decode cX11_laysSpent 75 = .ok (.iload_n 2, 1) := by decide +kernel
theorem dX11_laysSpent_76 : decode cX11_laysSpent 76 = .ok (.sipush 1000, 3) := by decide +kernel
theorem dX11_laysSpent_79 : decode cX11_laysSpent 79 = .ok (.imul, 1) := by decide +kernel
theorem dX11_laysSpent_80 : decode cX11_laysSpent 80 = .ok (.iload_n 3, 1) := by decide +kernel
theorem dX11_laysSpent_81 : decode cX11_laysSpent 81 = .ok (.iadd, 1) := by decide +kernel
theorem dX11_laysSpent_82 : decode cX11_laysSpent 82 = .ok (.istore 4, 2) := by decide +kernel
theorem dX11_laysSpent_84 : decode cX11_laysSpent 84 = .ok (.aload_n 0, 1) := by decide +kernel
theorem dX11_laysSpent_85 : decode cX11_laysSpent 85 = .ok (.getfield 64, 3) := by decide +kernel
theorem dX11_laysSpent_88 : decode cX11_laysSpent 88 = .ok (.iload 4, 2) := by decide +kernel
theorem dX11_laysSpent_90 : decode cX11_laysSpent 90 = .ok (.iconst (-1), 1) := by decide +kernel
theorem dX11_laysSpent_91 : decode cX11_laysSpent 91 = .ok (.iastore, 1) := by decide +kernel
theorem dX11_laysSpent_92 : decode cX11_laysSpent 92 = .ok (.iconst 0, 1) := by decide +kernel
theorem dX11_laysSpent_93 : decode cX11_laysSpent 93 = .ok (.istore 5, 2) := by decide +kernel
theorem dX11_laysSpent_95 : decode cX11_laysSpent 95 = .ok (.iload 5, 2) := by decide +kernel
theorem dX11_laysSpent_97 : decode cX11_laysSpent 97 = .ok (.bipush 16, 2) := by decide +kernel
theorem dX11_laysSpent_99 : decode cX11_laysSpent 99 = .ok (.if_icmp .ge 141, 3) := by decide +kernel
theorem dX11_laysSpent_102 : decode cX11_laysSpent 102 = .ok (.aload_n 0, 1) := by decide +kernel
theorem dX11_laysSpent_103 : decode cX11_laysSpent 103 = .ok (.iload 5, 2) := by decide +kernel
theorem dX11_laysSpent_105 : decode cX11_laysSpent 105 = .ok (.invokevirtual 347, 3) := by decide +kernel
theorem dX11_laysSpent_108 : decode cX11_laysSpent 108 = .ok (.iload_n 3, 1) := by decide +kernel
theorem dX11_laysSpent_109 : decode cX11_laysSpent 109 = .ok (.if_icmp .le 6, 3) := by decide +kernel
theorem dX11_laysSpent_112 : decode cX11_laysSpent 112 = .ok (.goto 122, 3) := by decide +kernel
theorem dX11_laysSpent_115 : decode cX11_laysSpent 115 = .ok (.iload_n 2, 1) := by decide +kernel
theorem dX11_laysSpent_116 : decode cX11_laysSpent 116 = .ok (.iconst 1, 1) := by decide +kernel
theorem dX11_laysSpent_117 : decode cX11_laysSpent 117 = .ok (.iadd, 1) := by decide +kernel
theorem dX11_laysSpent_118 : decode cX11_laysSpent 118 = .ok (.sipush 1000, 3) := by decide +kernel
theorem dX11_laysSpent_121 : decode cX11_laysSpent 121 = .ok (.imul, 1) := by decide +kernel
theorem dX11_laysSpent_122 : decode cX11_laysSpent 122 = .ok (.iload_n 3, 1) := by decide +kernel
theorem dX11_laysSpent_123 : decode cX11_laysSpent 123 = .ok (.iadd, 1) := by decide +kernel
theorem dX11_laysSpent_124 : decode cX11_laysSpent 124 = .ok (.aload_n 0, 1) := by decide +kernel
theorem dX11_laysSpent_125 : decode cX11_laysSpent 125 = .ok (.iload 5, 2) := by decide +kernel
theorem dX11_laysSpent_127 : decode cX11_laysSpent 127 = .ok (.invokevirtual 347, 3) := by decide +kernel
theorem dX11_laysSpent_130 : decode cX11_laysSpent 130 = .ok (.isub, 1) := by decide +kernel
theorem dX11_laysSpent_131 : decode cX11_laysSpent 131 = .ok (.istore 6, 2) := by decide +kernel
theorem dX11_laysSpent_133 : decode cX11_laysSpent 133 = .ok (.aload_n 0, 1) := by decide +kernel
theorem dX11_laysSpent_134 : decode cX11_laysSpent 134 = .ok (.iload_n 2, 1) := by decide +kernel
theorem dX11_laysSpent_135 : decode cX11_laysSpent 135 = .ok (.iload 5, 2) := by decide +kernel
theorem dX11_laysSpent_137 : decode cX11_laysSpent 137 = .ok (.invokevirtual 350, 3) := by decide +kernel
theorem dX11_laysSpent_140 : decode cX11_laysSpent 140 = .ok (.aload_n 0, 1) := by decide +kernel
theorem dX11_laysSpent_141 : decode cX11_laysSpent 141 = .ok (.getfield 64, 3) := by decide +kernel
theorem dX11_laysSpent_144 : decode cX11_laysSpent 144 = .ok (.iload 6, 2) := by decide +kernel
theorem dX11_laysSpent_146 : decode cX11_laysSpent 146 = .ok (.iaload, 1) := by decide +kernel
theorem dX11_laysSpent_147 : decode cX11_laysSpent 147 = .ok (.iadd, 1) := by decide +kernel
theorem dX11_laysSpent_148 : decode cX11_laysSpent 148 = .ok (.istore 7, 2) := by decide +kernel
theorem dX11_laysSpent_150 : decode cX11_laysSpent 150 = .ok (.aload_n 0, 1) := by decide +kernel
theorem dX11_laysSpent_151 : decode cX11_laysSpent 151 = .ok (.iload 5, 2) := by decide +kernel
theorem dX11_laysSpent_153 : decode cX11_laysSpent 153 = .ok (.invokevirtual 347, 3) := by decide +kernel
theorem dX11_laysSpent_156 : decode cX11_laysSpent 156 = .ok (.aload_n 0, 1) := by decide +kernel
theorem dX11_laysSpent_157 : decode cX11_laysSpent 157 = .ok (.getfield 67, 3) := by decide +kernel
theorem dX11_laysSpent_160 : decode cX11_laysSpent 160 = .ok (.iload 6, 2) := by decide +kernel
theorem dX11_laysSpent_162 : decode cX11_laysSpent 162 = .ok (.iaload, 1) := by decide +kernel
theorem dX11_laysSpent_163 : decode cX11_laysSpent 163 = .ok (.iadd, 1) := by decide +kernel
theorem dX11_laysSpent_164 : decode cX11_laysSpent 164 = .ok (.istore 8, 2) := by decide +kernel
theorem dX11_laysSpent_166 : decode cX11_laysSpent 166 = .ok (.aload_n 0, 1) := by decide +kernel
theorem dX11_laysSpent_167 : decode cX11_laysSpent 167 = .ok (.getfield 64, 3) := by decide +kernel
theorem dX11_laysSpent_170 : decode cX11_laysSpent 170 = .ok (.iload 4, 2) := by decide +kernel
theorem dX11_laysSpent_172 : decode cX11_laysSpent 172 = .ok (.iaload, 1) := by decide +kernel
theorem dX11_laysSpent_173 : decode cX11_laysSpent 173 = .ok (.iconst (-1), 1) := by decide +kernel
theorem dX11_laysSpent_174 : decode cX11_laysSpent 174 = .ok (.if_icmp .eq 42, 3) := by decide +kernel
theorem dX11_laysSpent_177 : decode cX11_laysSpent 177 = .ok (.iload 7, 2) := by decide +kernel
theorem dX11_laysSpent_179 : decode cX11_laysSpent 179 = .ok (.aload_n 0, 1) := by decide +kernel
theorem dX11_laysSpent_180 : decode cX11_laysSpent 180 = .ok (.getfield 64, 3) := by decide +kernel
theorem dX11_laysSpent_183 : decode cX11_laysSpent 183 = .ok (.iload 4, 2) := by decide +kernel
theorem dX11_laysSpent_185 : decode cX11_laysSpent 185 = .ok (.iaload, 1) := by decide +kernel
theorem dX11_laysSpent_186 : decode cX11_laysSpent 186 = .ok (.if_icmp .gt 48, 3) := by decide +kernel
theorem dX11_laysSpent_189 : decode cX11_laysSpent 189 = .ok (.iload 7, 2) := by decide +kernel
theorem dX11_laysSpent_191 : decode cX11_laysSpent 191 = .ok (.aload_n 0, 1) := by decide +kernel
theorem dX11_laysSpent_192 : decode cX11_laysSpent 192 = .ok (.getfield 64, 3) := by decide +kernel
theorem dX11_laysSpent_195 : decode cX11_laysSpent 195 = .ok (.iload 4, 2) := by decide +kernel
theorem dX11_laysSpent_197 : decode cX11_laysSpent 197 = .ok (.iaload, 1) := by decide +kernel
theorem dX11_laysSpent_198 : decode cX11_laysSpent 198 = .ok (.if_icmp .ne 18, 3) := by decide +kernel
theorem dX11_laysSpent_201 : decode cX11_laysSpent 201 = .ok (.iload 8, 2) := by decide +kernel
theorem dX11_laysSpent_203 : decode cX11_laysSpent 203 = .ok (.aload_n 0, 1) := by decide +kernel
theorem dX11_laysSpent_204 : decode cX11_laysSpent 204 = .ok (.getfield 67, 3) := by decide +kernel
theorem dX11_laysSpent_207 : decode cX11_laysSpent 207 = .ok (.iload 4, 2) := by decide +kernel
theorem dX11_laysSpent_209 : decode cX11_laysSpent 209 = .ok (.iaload, 1) := by decide +kernel
theorem dX11_laysSpent_210 : decode cX11_laysSpent 210 = .ok (.if_icmp .lt 6, 3) := by decide +kernel
theorem dX11_laysSpent_213 : decode cX11_laysSpent 213 = .ok (.goto 21, 3) := by decide +kernel
theorem dX11_laysSpent_216 : decode cX11_laysSpent 216 = .ok (.aload_n 0, 1) := by decide +kernel
theorem dX11_laysSpent_217 : decode cX11_laysSpent 217 = .ok (.getfield 64, 3) := by decide +kernel
theorem dX11_laysSpent_220 : decode cX11_laysSpent 220 = .ok (.iload 4, 2) := by decide +kernel
theorem dX11_laysSpent_222 : decode cX11_laysSpent 222 = .ok (.iload 7, 2) := by decide +kernel
theorem dX11_laysSpent_224 : decode cX11_laysSpent 224 = .ok (.iastore, 1) := by decide +kernel
theorem dX11_laysSpent_225 : decode cX11_laysSpent 225 = .ok (.aload_n 0, 1) := by decide +kernel
theorem dX11_laysSpent_226 : decode cX11_laysSpent 226 = .ok (.getfield 67, 3) := by decide +kernel
theorem dX11_laysSpent_229 : decode cX11_laysSpent 229 = .ok (.iload 4, 2) := by decide +kernel
theorem dX11_laysSpent_231 : decode cX11_laysSpent 231 = .ok (.iload 8, 2) := by decide +kernel
theorem dX11_laysSpent_233 : decode cX11_laysSpent 233 = .ok (.iastore, 1) := by decide +kernel
theorem dX11_laysSpent_234 : decode cX11_laysSpent 234 = .ok (.iinc 5 1, 3) := by decide +kernel
theorem dX11_laysSpent_237 : decode cX11_laysSpent 237 = .ok (.goto (-142), 3) := by decide +kernel
theorem dX11_laysSpent_240 : decode cX11_laysSpent 240 = .ok (.iinc 3 1, 3) := by decide +kernel
theorem dX11_laysSpent_243 : decode cX11_laysSpent 243 = .ok (.goto (-173), 3) := by decide +kernel
theorem dX11_laysSpent_246 : decode cX11_laysSpent 246 = .ok (.iinc 2 (-1), 3) := by decide +kernel
theorem dX11_laysSpent_249 : decode cX11_laysSpent 249 = .ok (.goto (-185), 3) := by decide +kernel
theorem dX11_laysSpent_252 : decode cX11_laysSpent 252 = .ok (.return_, 1) := by decide +kernel
theorem dX11_spent_0 : decode cX11_spent 0 = .ok (.aload_n 0, 1) := by decide +kernel
theorem dX11_spent_1 : decode cX11_spent 1 = .ok (.iconst 0, 1) := by decide +kernel
theorem dX11_spent_2 : decode cX11_spent 2 = .ok (.putfield 1, 3) := by decide +kernel
theorem dX11_spent_5 : decode cX11_spent 5 = .ok (.iload_n 2, 1) := by decide +kernel
theorem dX11_spent_6 : decode cX11_spent 6 = .ok (.iconst (-1), 1) := by decide +kernel
theorem dX11_spent_7 : decode cX11_spent 7 = .ok (.if_icmp .eq 24, 3) := by decide +kernel
theorem dX11_spent_10 : decode cX11_spent 10 = .ok (.iload_n 2, 1) := by decide +kernel
theorem dX11_spent_11 : decode cX11_spent 11 = .ok (.bipush 20, 2) := by decide +kernel
theorem dX11_spent_13 : decode cX11_spent 13 = .ok (.if_icmp .eq 18, 3) := by decide +kernel
theorem dX11_spent_16 : decode cX11_spent 16 = .ok (.aload_n 0, 1) := by decide +kernel
theorem dX11_spent_17 : decode cX11_spent 17 = .ok (.iload_n 2, 1) := by decide +kernel
theorem dX11_spent_18 : decode cX11_spent 18 = .ok (.invokevirtual 316, 3) := by decide +kernel
theorem dX11_spent_21 : decode cX11_spent 21 = .ok (.ifCond .ne 10, 3) := by decide +kernel
theorem dX11_spent_24 : decode cX11_spent 24 = .ok (.aload_n 0, 1) := by decide +kernel
theorem dX11_spent_25 : decode cX11_spent 25 = .ok (.bipush (-2), 2) := by decide +kernel
theorem dX11_spent_27 : decode cX11_spent 27 = .ok (.invokevirtual 89, 3) := by decide +kernel
theorem dX11_spent_30 : decode cX11_spent 30 = .ok (.ireturn, 1) := by decide +kernel
theorem dX11_spent_31 : decode cX11_spent 31 = .ok (.iload_n 1, 1) := by decide +kernel
theorem dX11_spent_32 : decode cX11_spent 32 = .ok (.i2l, 1) := by decide +kernel
theorem dX11_spent_33 : decode cX11_spent 33 = .ok (.lconst 0, 1) := by decide +kernel
theorem dX11_spent_34 : decode cX11_spent 34 = .ok (.ldc2_w 353, 3) := by decide +kernel
theorem dX11_spent_37 : decode cX11_spent 37 = .ok (.invokestatic 152, 3) := by decide +kernel
theorem dX11_spent_40 : decode cX11_spent 40 = .ok (.ifCond .ne 10, 3) := by decide +kernel
theorem dX11_spent_43 : decode cX11_spent 43 = .ok (.aload_n 0, 1) := by decide +kernel
theorem dX11_spent_44 : decode cX11_spent 44 = .ok (.bipush (-3), 2) := by decide +kernel
theorem dX11_spent_46 : decode cX11_spent 46 = .ok (.invokevirtual 89, 3) := by decide +kernel
theorem dX11_spent_49 : decode cX11_spent 49 = .ok (.ireturn, 1) := by decide +kernel
theorem dX11_spent_50 : decode cX11_spent 50 = .ok (.aload_n 0, 1) := by decide +kernel
theorem dX11_spent_51 : decode cX11_spent 51 = .ok (.iload_n 1, 1) := by decide +kernel
theorem dX11_spent_52 : decode cX11_spent 52 = .ok (.invokevirtual 355, 3) := by decide +kernel
theorem dX11_spent_55 : decode cX11_spent 55 = .ok (.iload_n 2, 1) := by decide +kernel
theorem dX11_spent_56 : decode cX11_spent 56 = .ok (.iconst (-1), 1) := by decide +kernel
theorem dX11_spent_57 : decode cX11_spent 57 = .ok (.if_icmp .ne 10, 3) := by decide +kernel
theorem dX11_spent_60 : decode cX11_spent 60 = .ok (.aload_n 0, 1) := by decide +kernel
theorem dX11_spent_61 : decode cX11_spent 61 = .ok (.getfield 64, 3) := by decide +kernel
theorem dX11_spent_64 : decode cX11_spent 64 = .ok (.iload_n 1, 1) := by decide +kernel
theorem dX11_spent_65 : decode cX11_spent 65 = .ok (.iaload, 1) := by decide +kernel
theorem dX11_spent_66 : decode cX11_spent 66 = .ok (.ireturn, 1) := by decide +kernel
theorem dX11_spent_67 : decode cX11_spent 67 = .ok (.iload_n 2, 1) := by decide +kernel
theorem dX11_spent_68 : decode cX11_spent 68 = .ok (.bipush 20, 2) := by decide +kernel
theorem dX11_spent_70 : decode cX11_spent 70 = .ok (.if_icmp .ne 10, 3) := by decide +kernel
theorem dX11_spent_73 : decode cX11_spent 73 = .ok (.aload_n 0, 1) := by decide +kernel
theorem dX11_spent_74 : decode cX11_spent 74 = .ok (.getfield 67, 3) := by decide +kernel
theorem dX11_spent_77 : decode cX11_spent 77 = .ok (.iload_n 1, 1) := by decide +kernel
theorem dX11_spent_78 : decode cX11_spent 78 = .ok (.iaload, 1) := by decide +kernel
theorem dX11_spent_79 : decode cX11_spent 79 = .ok (.ireturn, 1) := by decide +kernel
theorem dX11_spent_80 : decode cX11_spent 80 = .ok (.iload_n 1, 1) := by decide +kernel
theorem dX11_spent_81 : decode cX11_spent 81 = .ok (.istore_n 3, 1) := by decide +kernel
theorem dX11_spent_82 : decode cX11_spent 82 = .ok (.iconst 0, 1) := by decide +kernel
theorem dX11_spent_83 : decode cX11_spent 83 = .ok (.istore 4, 2) := by decide +kernel
theorem dX11_spent_85 : decode cX11_spent 85 = .ok (.iconst 0, 1) := by decide +kernel
theorem dX11_spent_86 : decode cX11_spent 86 = .ok (.istore 5, 2) := by decide +kernel
theorem dX11_spent_88 : decode cX11_spent 88 = .ok (.aload_n 0, 1) := by decide +kernel
theorem dX11_spent_89 : decode cX11_spent 89 = .ok (.iload 4, 2) := by decide +kernel
theorem dX11_spent_91 : decode cX11_spent 91 = .ok (.iload_n 3, 1) := by decide +kernel
theorem dX11_spent_92 : decode cX11_spent 92 = .ok (.iload 5, 2) := by decide +kernel
theorem dX11_spent_94 : decode cX11_spent 94 = .ok (.invokevirtual 358, 3) := by decide +kernel
theorem dX11_spent_97 : decode cX11_spent 97 = .ok (.ifCond .ne 9, 3) := by decide +kernel
theorem dX11_spent_100 : decode cX11_spent 100 = .ok (.iinc 5 1, 3) := by decide +kernel
theorem dX11_spent_103 : decode cX11_spent 103 = .ok (.goto (-15), 3) := by decide +kernel
theorem dX11_spent_106 : decode cX11_spent 106 = .ok (.iload 4, 2) := by decide +kernel
theorem dX11_spent_108 : decode cX11_spent 108 = .ok (.iload_n 2, 1) := by decide +kernel
theorem dX11_spent_109 : decode cX11_spent 109 = .ok (.if_icmp .ne 6, 3) := by decide +kernel
theorem dX11_spent_112 : decode cX11_spent 112 = .ok (.iload 5, 2) := by decide +kernel
theorem dX11_spent_114 : decode cX11_spent 114 = .ok (.ireturn, 1) := by decide +kernel
theorem dX11_spent_115 : decode cX11_spent 115 = .ok (.iload_n 3, 1) := by decide +kernel
theorem dX11_spent_116 : decode cX11_spent 116 = .ok (.aload_n 0, 1) := by decide +kernel
theorem dX11_spent_117 : decode cX11_spent 117 = .ok (.iload 5, 2) := by decide +kernel
theorem dX11_spent_119 : decode cX11_spent 119 = .ok (.invokevirtual 347, 3) := by decide +kernel
theorem dX11_spent_122 : decode cX11_spent 122 = .ok (.isub, 1) := by decide +kernel
theorem dX11_spent_123 : decode cX11_spent 123 = .ok (.istore_n 3, 1) := by decide +kernel
theorem dX11_spent_124 : decode cX11_spent 124 = .ok (.iinc 4 1, 3) := by decide +kernel
theorem dX11_spent_127 : decode cX11_spent 127 = .ok (.goto (-42), 3) := by decide +kernel
theorem dX11_fine_0 : decode cX11_fine 0 = .ok (.aload_n 0, 1) := by decide +kernel
theorem dX11_fine_1 : decode cX11_fine 1 = .ok (.iconst 0, 1) := by decide +kernel
theorem dX11_fine_2 : decode cX11_fine 2 = .ok (.putfield 1, 3) := by decide +kernel
theorem dX11_fine_5 : decode cX11_fine 5 = .ok (.iload_n 1, 1) := by decide +kernel
theorem dX11_fine_6 : decode cX11_fine 6 = .ok (.i2l, 1) := by decide +kernel
theorem dX11_fine_7 : decode cX11_fine 7 = .ok (.lconst 0, 1) := by decide +kernel
theorem dX11_fine_8 : decode cX11_fine 8 = .ok (.ldc2_w 306, 3) := by decide +kernel
theorem dX11_fine_11 : decode cX11_fine 11 = .ok (.invokestatic 152, 3) := by decide +kernel
theorem dX11_fine_14 : decode cX11_fine 14 = .ok (.ifCond .eq 40, 3) := by decide +kernel
theorem dX11_fine_17 : decode cX11_fine 17 = .ok (.iload_n 2, 1) := by decide +kernel
theorem dX11_fine_18 : decode cX11_fine 18 = .ok (.i2l, 1) := by decide +kernel
theorem dX11_fine_19 : decode cX11_fine 19 = .ok (.lconst 0, 1) := by decide +kernel
theorem dX11_fine_20 : decode cX11_fine 20 = .ok (.ldc2_w 306, 3) := by decide +kernel
theorem dX11_fine_23 : decode cX11_fine 23 = .ok (.invokestatic 152, 3) := by decide +kernel
theorem dX11_fine_26 : decode cX11_fine 26 = .ok (.ifCond .eq 28, 3) := by decide +kernel
theorem dX11_fine_29 : decode cX11_fine 29 = .ok (.iload_n 3, 1) := by decide +kernel
theorem dX11_fine_30 : decode cX11_fine 30 = .ok (.i2l, 1) := by decide +kernel
theorem dX11_fine_31 : decode cX11_fine 31 = .ok (.lconst 0, 1) := by decide +kernel
theorem dX11_fine_32 : decode cX11_fine 32 = .ok (.ldc2_w 286, 3) := by decide +kernel
theorem dX11_fine_35 : decode cX11_fine 35 = .ok (.invokestatic 152, 3) := by decide +kernel
theorem dX11_fine_38 : decode cX11_fine 38 = .ok (.ifCond .eq 16, 3) := by decide +kernel
theorem dX11_fine_41 : decode cX11_fine 41 = .ok (.iload 4, 2) := by decide +kernel
theorem dX11_fine_43 : decode cX11_fine 43 = .ok (.i2l, 1) := by decide +kernel
theorem dX11_fine_44 : decode cX11_fine 44 = .ok (.lconst 0, 1) := by decide +kernel
theorem dX11_fine_45 : decode cX11_fine 45 = .ok (.ldc2_w 221, 3) := by decide +kernel
theorem dX11_fine_48 : decode cX11_fine 48 = .ok (.invokestatic 152, 3) := by decide +kernel
theorem dX11_fine_51 : decode cX11_fine 51 = .ok (.ifCond .ne 10, 3) := by decide +kernel
theorem dX11_fine_54 : decode cX11_fine 54 = .ok (.aload_n 0, 1) := by decide +kernel
theorem dX11_fine_55 : decode cX11_fine 55 = .ok (.bipush (-3), 2) := by decide +kernel
theorem dX11_fine_57 : decode cX11_fine 57 = .ok (.invokevirtual 89, 3) := by decide +kernel
theorem dX11_fine_60 : decode cX11_fine 60 = .ok (.ireturn, 1) := by decide +kernel
theorem dX11_fine_61 : decode cX11_fine 61 = .ok (.iload_n 1, 1) := by decide +kernel
theorem dX11_fine_62 : decode cX11_fine 62 = .ok (.istore 5, 2) := by decide +kernel
theorem dX11_fine_64 : decode cX11_fine 64 = .ok (.iconst 0, 1) := by decide +kernel
theorem dX11_fine_65 : decode cX11_fine 65 = .ok (.istore 6, 2) := by decide +kernel
theorem dX11_fine_67 : decode cX11_fine 67 = .ok (.iload 6, 2) := by decide +kernel
theorem dX11_fine_69 : decode cX11_fine 69 = .ok (.iload 4, 2) := by decide +kernel
theorem dX11_fine_71 : decode cX11_fine 71 = .ok (.if_icmp .ge 23, 3) := by decide +kernel
theorem dX11_fine_74 : decode cX11_fine 74 = .ok (.iload 5, 2) := by decide +kernel
theorem dX11_fine_76 : decode cX11_fine 76 = .ok (.iload_n 2, 1) := by decide +kernel
theorem dX11_fine_77 : decode cX11_fine 77 = .ok (.iload 5, 2) := by decide +kernel
theorem dX11_fine_79 : decode cX11_fine 79 = .ok (.isub, 1) := by decide +kernel
theorem dX11_fine_80 : decode cX11_fine 80 = .ok (.iload_n 3, 1) := by decide +kernel
theorem dX11_fine_81 : decode cX11_fine 81 = .ok (.imul, 1) := by decide +kernel
theorem dX11_fine_82 : decode cX11_fine 82 = .ok (.bipush 100, 2) := by decide +kernel
theorem dX11_fine_84 : decode cX11_fine 84 = .ok (.idiv, 1) := by decide +kernel
theorem dX11_fine_85 : decode cX11_fine 85 = .ok (.iadd, 1) := by decide +kernel
theorem dX11_fine_86 : decode cX11_fine 86 = .ok (.istore 5, 2) := by decide +kernel
theorem dX11_fine_88 : decode cX11_fine 88 = .ok (.iinc 6 1, 3) := by decide +kernel
theorem dX11_fine_91 : decode cX11_fine 91 = .ok (.goto (-24), 3) := by decide +kernel
theorem dX11_fine_94 : decode cX11_fine 94 = .ok (.iload 5, 2) := by decide +kernel
theorem dX11_fine_96 : decode cX11_fine 96 = .ok (.ireturn, 1) := by decide +kernel
theorem dX11_until_0 : decode cX11_until 0 = .ok (.aload_n 0, 1) := by decide +kernel
theorem dX11_until_1 : decode cX11_until 1 = .ok (.iconst 0, 1) := by decide +kernel
theorem dX11_until_2 : decode cX11_until 2 = .ok (.putfield 1, 3) := by decide +kernel
theorem dX11_until_5 : decode cX11_until 5 = .ok (.iload_n 1, 1) := by decide +kernel
theorem dX11_until_6 : decode cX11_until 6 = .ok (.i2l, 1) := by decide +kernel
theorem dX11_until_7 : decode cX11_until 7 = .ok (.lconst 0, 1) := by decide +kernel
theorem dX11_until_8 : decode cX11_until 8 = .ok (.ldc2_w 306, 3) := by decide +kernel
theorem dX11_until_11 : decode cX11_until 11 = .ok (.invokestatic 152, 3) := by decide +kernel
theorem dX11_until_14 : decode cX11_until 14 = .ok (.ifCond .eq 40, 3) := by decide +kernel
theorem dX11_until_17 : decode cX11_until 17 = .ok (.iload_n 2, 1) := by decide +kernel
theorem dX11_until_18 : decode cX11_until 18 = .ok (.i2l, 1) := by decide +kernel
theorem dX11_until_19 : decode cX11_until 19 = .ok (.lconst 0, 1) := by decide +kernel
theorem dX11_until_20 : decode cX11_until 20 = .ok (.ldc2_w 306, 3) := by decide +kernel
theorem dX11_until_23 : decode cX11_until 23 = .ok (.invokestatic 152, 3) := by decide +kernel
theorem dX11_until_26 : decode cX11_until 26 = .ok (.ifCond .eq 28, 3) := by decide +kernel
theorem dX11_until_29 : decode cX11_until 29 = .ok (.iload_n 3, 1) := by decide +kernel
theorem dX11_until_30 : decode cX11_until 30 = .ok (.i2l, 1) := by decide +kernel
theorem dX11_until_31 : decode cX11_until 31 = .ok (.lconst 0, 1) := by decide +kernel
theorem dX11_until_32 : decode cX11_until 32 = .ok (.ldc2_w 286, 3) := by decide +kernel
theorem dX11_until_35 : decode cX11_until 35 = .ok (.invokestatic 152, 3) := by decide +kernel
theorem dX11_until_38 : decode cX11_until 38 = .ok (.ifCond .eq 16, 3) := by decide +kernel
theorem dX11_until_41 : decode cX11_until 41 = .ok (.iload 4, 2) := by decide +kernel
theorem dX11_until_43 : decode cX11_until 43 = .ok (.i2l, 1) := by decide +kernel
theorem dX11_until_44 : decode cX11_until 44 = .ok (.lconst 0, 1) := by decide +kernel
theorem dX11_until_45 : decode cX11_until 45 = .ok (.ldc2_w 306, 3) := by decide +kernel
theorem dX11_until_48 : decode cX11_until 48 = .ok (.invokestatic 152, 3) := by decide +kernel
theorem dX11_until_51 : decode cX11_until 51 = .ok (.ifCond .ne 10, 3) := by decide +kernel
theorem dX11_until_54 : decode cX11_until 54 = .ok (.aload_n 0, 1) := by decide +kernel
theorem dX11_until_55 : decode cX11_until 55 = .ok (.bipush (-3), 2) := by decide +kernel
theorem dX11_until_57 : decode cX11_until 57 = .ok (.invokevirtual 89, 3) := by decide +kernel
theorem dX11_until_60 : decode cX11_until 60 = .ok (.ireturn, 1) := by decide +kernel
theorem dX11_until_61 : decode cX11_until 61 = .ok (.iload_n 1, 1) := by decide +kernel
theorem dX11_until_62 : decode cX11_until 62 = .ok (.istore 5, 2) := by decide +kernel
theorem dX11_until_64 : decode cX11_until 64 = .ok (.iconst 0, 1) := by decide +kernel
theorem dX11_until_65 : decode cX11_until 65 = .ok (.istore 6, 2) := by decide +kernel
theorem dX11_until_67 : decode cX11_until 67 = .ok (.iload 6, 2) := by decide +kernel
theorem dX11_until_69 : decode cX11_until 69 = .ok (.sipush 1000, 3) := by decide +kernel
theorem dX11_until_72 : decode cX11_until 72 = .ok (.if_icmp .ge 44, 3) := by decide +kernel
theorem dX11_until_75 : decode cX11_until 75 = .ok (.iload 5, 2) := by decide +kernel
theorem dX11_until_77 : decode cX11_until 77 = .ok (.iload_n 2, 1) := by decide +kernel
theorem dX11_until_78 : decode cX11_until 78 = .ok (.isub, 1) := by decide +kernel
theorem dX11_until_79 : decode cX11_until 79 = .ok (.i2l, 1) := by decide +kernel
theorem dX11_until_80 : decode cX11_until 80 = .ok (.iload 4, 2) := by decide +kernel
theorem dX11_until_82 : decode cX11_until 82 = .ok (.ineg, 1) := by decide +kernel
theorem dX11_until_83 : decode cX11_until 83 = .ok (.i2l, 1) := by decide +kernel
theorem dX11_until_84 : decode cX11_until 84 = .ok (.iload 4, 2) := by decide +kernel
theorem dX11_until_86 : decode cX11_until 86 = .ok (.i2l, 1) := by decide +kernel
theorem dX11_until_87 : decode cX11_until 87 = .ok (.invokestatic 152, 3) := by decide +kernel
theorem dX11_until_90 : decode cX11_until 90 = .ok (.ifCond .eq 6, 3) := by decide +kernel
theorem dX11_until_93 : decode cX11_until 93 = .ok (.iload 6, 2) := by decide +kernel
theorem dX11_until_95 : decode cX11_until 95 = .ok (.ireturn, 1) := by decide +kernel
theorem dX11_until_96 : decode cX11_until 96 = .ok (.iload 5, 2) := by decide +kernel
theorem dX11_until_98 : decode cX11_until 98 = .ok (.iload_n 2, 1) := by decide +kernel
theorem dX11_until_99 : decode cX11_until 99 = .ok (.iload 5, 2) := by decide +kernel
theorem dX11_until_101 : decode cX11_until 101 = .ok (.isub, 1) := by decide +kernel
theorem dX11_until_102 : decode cX11_until 102 = .ok (.iload_n 3, 1) := by decide +kernel
theorem dX11_until_103 : decode cX11_until 103 = .ok (.imul, 1) := by decide +kernel
theorem dX11_until_104 : decode cX11_until 104 = .ok (.bipush 100, 2) := by decide +kernel
theorem dX11_until_106 : decode cX11_until 106 = .ok (.idiv, 1) := by decide +kernel
theorem dX11_until_107 : decode cX11_until 107 = .ok (.iadd, 1) := by decide +kernel
theorem dX11_until_108 : decode cX11_until 108 = .ok (.istore 5, 2) := by decide +kernel
theorem dX11_until_110 : decode cX11_until 110 = .ok (.iinc 6 1, 3) := by decide +kernel
theorem dX11_until_113 : decode cX11_until 113 = .ok (.goto (-46), 3) := by decide +kernel
theorem dX11_until_116 : decode cX11_until 116 = .ok (.iconst (-1), 1) := by decide +kernel
theorem dX11_until_117 : decode cX11_until 117 = .ok (.ireturn, 1) := by decide +kernel
theorem dX11_lot_0 : decode cX11_lot 0 = .ok (.aload_n 0, 1) := by decide +kernel
theorem dX11_lot_1 : decode cX11_lot 1 = .ok (.iconst 0, 1) := by decide +kernel
theorem dX11_lot_2 : decode cX11_lot 2 = .ok (.putfield 1, 3) := by decide +kernel
theorem dX11_lot_5 : decode cX11_lot 5 = .ok (.iload_n 1, 1) := by decide +kernel
theorem dX11_lot_6 : decode cX11_lot 6 = .ok (.i2l, 1) := by decide +kernel
theorem dX11_lot_7 : decode cX11_lot 7 = .ok (.lconst 0, 1) := by decide +kernel
theorem dX11_lot_8 : decode cX11_lot 8 = .ok (.ldc2_w 306, 3) := by decide +kernel
theorem dX11_lot_11 : decode cX11_lot 11 = .ok (.invokestatic 152, 3) := by decide +kernel
theorem dX11_lot_14 : decode cX11_lot 14 = .ok (.ifCond .eq 15, 3) := by decide +kernel
theorem dX11_lot_17 : decode cX11_lot 17 = .ok (.iload_n 2, 1) := by decide +kernel
theorem dX11_lot_18 : decode cX11_lot 18 = .ok (.i2l, 1) := by decide +kernel
theorem dX11_lot_19 : decode cX11_lot 19 = .ok (.lconst 0, 1) := by decide +kernel
theorem dX11_lot_20 : decode cX11_lot 20 = .ok (.ldc2_w 306, 3) := by decide +kernel
theorem dX11_lot_23 : decode cX11_lot 23 = .ok (.invokestatic 152, 3) := by decide +kernel
theorem dX11_lot_26 : decode cX11_lot 26 = .ok (.ifCond .ne 10, 3) := by decide +kernel
theorem dX11_lot_29 : decode cX11_lot 29 = .ok (.aload_n 0, 1) := by decide +kernel
theorem dX11_lot_30 : decode cX11_lot 30 = .ok (.bipush (-3), 2) := by decide +kernel
theorem dX11_lot_32 : decode cX11_lot 32 = .ok (.invokevirtual 89, 3) := by decide +kernel
theorem dX11_lot_35 : decode cX11_lot 35 = .ok (.ireturn, 1) := by decide +kernel
theorem dX11_lot_36 : decode cX11_lot 36 = .ok (.iload_n 1, 1) := by decide +kernel
theorem dX11_lot_37 : decode cX11_lot 37 = .ok (.iload_n 2, 1) := by decide +kernel
theorem dX11_lot_38 : decode cX11_lot 38 = .ok (.isub, 1) := by decide +kernel
theorem dX11_lot_39 : decode cX11_lot 39 = .ok (.i2l, 1) := by decide +kernel
theorem dX11_lot_40 : decode cX11_lot 40 = .ok (.iload_n 1, 1) := by decide +kernel
theorem dX11_lot_41 : decode cX11_lot 41 = .ok (.iload_n 2, 1) := by decide +kernel
theorem dX11_lot_42 : decode cX11_lot 42 = .ok (.isub, 1) := by decide +kernel
theorem dX11_lot_43 : decode cX11_lot 43 = .ok (.i2l, 1) := by decide +kernel
theorem dX11_lot_44 : decode cX11_lot 44 = .ok (.lmul, 1) := by decide +kernel
theorem dX11_lot_45 : decode cX11_lot 45 = .ok (.lstore_n 3, 1) := by decide +kernel
theorem dX11_lot_46 : decode cX11_lot 46 = .ok (.ldc2_w 361, 3) := by decide +kernel
theorem dX11_lot_49 : decode cX11_lot 49 = .ok (.iload_n 1, 1) := by decide +kernel
theorem dX11_lot_50 : decode cX11_lot 50 = .ok (.sipush 1000, 3) := by decide +kernel
theorem dX11_lot_53 : decode cX11_lot 53 = .ok (.iload_n 1, 1) := by decide +kernel
theorem dX11_lot_54 : decode cX11_lot 54 = .ok (.isub, 1) := by decide +kernel
theorem dX11_lot_55 : decode cX11_lot 55 = .ok (.imul, 1) := by decide +kernel
theorem dX11_lot_56 : decode cX11_lot 56 = .ok (.iload_n 2, 1) := by decide +kernel
theorem dX11_lot_57 : decode cX11_lot 57 = .ok (.sipush 1000, 3) := by decide +kernel
theorem dX11_lot_60 : decode cX11_lot 60 = .ok (.iload_n 2, 1) := by decide +kernel
theorem dX11_lot_61 : decode cX11_lot 61 = .ok (.isub, 1) := by decide +kernel
theorem dX11_lot_62 : decode cX11_lot 62 = .ok (.imul, 1) := by decide +kernel
theorem dX11_lot_63 : decode cX11_lot 63 = .ok (.iadd, 1) := by decide +kernel
theorem dX11_lot_64 : decode cX11_lot 64 = .ok (.i2l, 1) := by decide +kernel
theorem dX11_lot_65 : decode cX11_lot 65 = .ok (.lmul, 1) := by decide +kernel
theorem dX11_lot_66 : decode cX11_lot 66 = .ok (.lstore 5, 2) := by decide +kernel
theorem dX11_lot_68 : decode cX11_lot 68 = .ok (.iconst 1, 1) := by decide +kernel
theorem dX11_lot_69 : decode cX11_lot 69 = .ok (.istore 7, 2) := by decide +kernel
theorem dX11_lot_71 : decode cX11_lot 71 = .ok (.iload 7, 2) := by decide +kernel
theorem dX11_lot_73 : decode cX11_lot 73 = .ok (.sipush 9999, 3) := by decide +kernel
theorem dX11_lot_76 : decode cX11_lot 76 = .ok (.if_icmp .gt 23, 3) := by decide +kernel
theorem dX11_lot_79 : decode cX11_lot 79 = .ok (.iload 7, 2) := by decide +kernel
theorem dX11_lot_81 : decode cX11_lot 81 = .ok (.i2l, 1) := by decide +kernel
theorem dX11_lot_82 : decode cX11_lot 82 = .ok (.lload_n 3, 1) := by decide +kernel
theorem dX11_lot_83 : decode cX11_lot 83 = .ok (.lmul, 1) := by decide +kernel
theorem dX11_lot_84 : decode cX11_lot 84 = .ok (.lload 5, 2) := by decide +kernel
theorem dX11_lot_86 : decode cX11_lot 86 = .ok (.lcmp, 1) := by decide +kernel
theorem dX11_lot_87 : decode cX11_lot 87 = .ok (.ifCond .lt 6, 3) := by decide +kernel
theorem dX11_lot_90 : decode cX11_lot 90 = .ok (.iload 7, 2) := by decide +kernel
theorem dX11_lot_92 : decode cX11_lot 92 = .ok (.ireturn, 1) := by decide +kernel
theorem dX11_lot_93 : decode cX11_lot 93 = .ok (.iinc 7 1, 3) := by decide +kernel
theorem dX11_lot_96 : decode cX11_lot 96 = .ok (.goto (-25), 3) := by decide +kernel
theorem dX11_lot_99 : decode cX11_lot 99 = .ok (.iconst (-1), 1) := by decide +kernel
theorem dX11_lot_100 : decode cX11_lot 100 = .ok (.ireturn, 1) := by decide +kernel
theorem dX11_shown_0 : decode cX11_shown 0 = .ok (.aload_n 0, 1) := by decide +kernel
theorem dX11_shown_1 : decode cX11_shown 1 = .ok (.iconst 0, 1) := by decide +kernel
theorem dX11_shown_2 : decode cX11_shown 2 = .ok (.putfield 1, 3) := by decide +kernel
theorem dX11_shown_5 : decode cX11_shown 5 = .ok (.iload_n 2, 1) := by decide +kernel
theorem dX11_shown_6 : decode cX11_shown 6 = .ok (.i2l, 1) := by decide +kernel
theorem dX11_shown_7 : decode cX11_shown 7 = .ok (.lconst 1, 1) := by decide +kernel
theorem dX11_shown_8 : decode cX11_shown 8 = .ok (.ldc2_w 314, 3) := by decide +kernel
theorem dX11_shown_11 : decode cX11_shown 11 = .ok (.invokestatic 152, 3) := by decide +kernel
theorem dX11_shown_14 : decode cX11_shown 14 = .ok (.ifCond .eq 39, 3) := by decide +kernel
theorem dX11_shown_17 : decode cX11_shown 17 = .ok (.iload 4, 2) := by decide +kernel
theorem dX11_shown_19 : decode cX11_shown 19 = .ok (.i2l, 1) := by decide +kernel
theorem dX11_shown_20 : decode cX11_shown 20 = .ok (.lconst 1, 1) := by decide +kernel
theorem dX11_shown_21 : decode cX11_shown 21 = .ok (.ldc2_w 314, 3) := by decide +kernel
theorem dX11_shown_24 : decode cX11_shown 24 = .ok (.invokestatic 152, 3) := by decide +kernel
theorem dX11_shown_27 : decode cX11_shown 27 = .ok (.ifCond .eq 26, 3) := by decide +kernel
theorem dX11_shown_30 : decode cX11_shown 30 = .ok (.iload_n 1, 1) := by decide +kernel
theorem dX11_shown_31 : decode cX11_shown 31 = .ok (.i2l, 1) := by decide +kernel
theorem dX11_shown_32 : decode cX11_shown 32 = .ok (.lconst 0, 1) := by decide +kernel
theorem dX11_shown_33 : decode cX11_shown 33 = .ok (.iload_n 2, 1) := by decide +kernel
theorem dX11_shown_34 : decode cX11_shown 34 = .ok (.i2l, 1) := by decide +kernel
theorem dX11_shown_35 : decode cX11_shown 35 = .ok (.invokestatic 152, 3) := by decide +kernel
theorem dX11_shown_38 : decode cX11_shown 38 = .ok (.ifCond .eq 15, 3) := by decide +kernel
theorem dX11_shown_41 : decode cX11_shown 41 = .ok (.iload_n 3, 1) := by decide +kernel
theorem dX11_shown_42 : decode cX11_shown 42 = .ok (.i2l, 1) := by decide +kernel
theorem dX11_shown_43 : decode cX11_shown 43 = .ok (.lconst 0, 1) := by decide +kernel
theorem dX11_shown_44 : decode cX11_shown 44 = .ok (.iload 4, 2) := by decide +kernel
theorem dX11_shown_46 : decode cX11_shown 46 = .ok (.i2l, 1) := by decide +kernel
theorem dX11_shown_47 : decode cX11_shown 47 = .ok (.invokestatic 152, 3) := by decide +kernel
theorem dX11_shown_50 : decode cX11_shown 50 = .ok (.ifCond .ne 10, 3) := by decide +kernel
theorem dX11_shown_53 : decode cX11_shown 53 = .ok (.aload_n 0, 1) := by decide +kernel
theorem dX11_shown_54 : decode cX11_shown 54 = .ok (.bipush (-3), 2) := by decide +kernel
theorem dX11_shown_56 : decode cX11_shown 56 = .ok (.invokevirtual 89, 3) := by decide +kernel
theorem dX11_shown_59 : decode cX11_shown 59 = .ok (.ireturn, 1) := by decide +kernel
theorem dX11_shown_60 : decode cX11_shown 60 = .ok (.iload_n 1, 1) := by decide +kernel
theorem dX11_shown_61 : decode cX11_shown 61 = .ok (.iload 4, 2) := by decide +kernel
theorem dX11_shown_63 : decode cX11_shown 63 = .ok (.imul, 1) := by decide +kernel
theorem dX11_shown_64 : decode cX11_shown 64 = .ok (.iload_n 3, 1) := by decide +kernel
theorem dX11_shown_65 : decode cX11_shown 65 = .ok (.iload_n 2, 1) := by decide +kernel
theorem dX11_shown_66 : decode cX11_shown 66 = .ok (.imul, 1) := by decide +kernel
theorem dX11_shown_67 : decode cX11_shown 67 = .ok (.isub, 1) := by decide +kernel
theorem dX11_shown_68 : decode cX11_shown 68 = .ok (.i2l, 1) := by decide +kernel
theorem dX11_shown_69 : decode cX11_shown 69 = .ok (.lstore 5, 2) := by decide +kernel
theorem dX11_shown_71 : decode cX11_shown 71 = .ok (.ldc2_w 361, 3) := by decide +kernel
theorem dX11_shown_74 : decode cX11_shown 74 = .ok (.iload_n 1, 1) := by decide +kernel
theorem dX11_shown_75 : decode cX11_shown 75 = .ok (.i2l, 1) := by decide +kernel
theorem dX11_shown_76 : decode cX11_shown 76 = .ok (.iload_n 2, 1) := by decide +kernel
theorem dX11_shown_77 : decode cX11_shown 77 = .ok (.iload_n 1, 1) := by decide +kernel
theorem dX11_shown_78 : decode cX11_shown 78 = .ok (.isub, 1) := by decide +kernel
theorem dX11_shown_79 : decode cX11_shown 79 = .ok (.i2l, 1) := by decide +kernel
theorem dX11_shown_80 : decode cX11_shown 80 = .ok (.lmul, 1) := by decide +kernel
theorem dX11_shown_81 : decode cX11_shown 81 = .ok (.iload 4, 2) := by decide +kernel
theorem dX11_shown_83 : decode cX11_shown 83 = .ok (.i2l, 1) := by decide +kernel
theorem dX11_shown_84 : decode cX11_shown 84 = .ok (.lmul, 1) := by decide +kernel
theorem dX11_shown_85 : decode cX11_shown 85 = .ok (.iload 4, 2) := by decide +kernel
theorem dX11_shown_87 : decode cX11_shown 87 = .ok (.i2l, 1) := by decide +kernel
theorem dX11_shown_88 : decode cX11_shown 88 = .ok (.lmul, 1) := by decide +kernel
theorem dX11_shown_89 : decode cX11_shown 89 = .ok (.iload 4, 2) := by decide +kernel
theorem dX11_shown_91 : decode cX11_shown 91 = .ok (.i2l, 1) := by decide +kernel
theorem dX11_shown_92 : decode cX11_shown 92 = .ok (.lmul, 1) := by decide +kernel
theorem dX11_shown_93 : decode cX11_shown 93 = .ok (.iload_n 3, 1) := by decide +kernel
theorem dX11_shown_94 : decode cX11_shown 94 = .ok (.i2l, 1) := by decide +kernel
theorem dX11_shown_95 : decode cX11_shown 95 = .ok (.iload 4, 2) := by decide +kernel
theorem dX11_shown_97 : decode cX11_shown 97 = .ok (.iload_n 3, 1) := by decide +kernel
theorem dX11_shown_98 : decode cX11_shown 98 = .ok (.isub, 1) := by decide +kernel
theorem dX11_shown_99 : decode cX11_shown 99 = .ok (.i2l, 1) := by decide +kernel
theorem dX11_shown_100 : decode cX11_shown 100 = .ok (.lmul, 1) := by decide +kernel
theorem dX11_shown_101 : decode cX11_shown 101 = .ok (.iload_n 2, 1) := by decide +kernel
theorem dX11_shown_102 : decode cX11_shown 102 = .ok (.i2l, 1) := by decide +kernel
theorem dX11_shown_103 : decode cX11_shown 103 = .ok (.lmul, 1) := by decide +kernel
theorem dX11_shown_104 : decode cX11_shown 104 = .ok (.iload_n 2, 1) := by decide +kernel
theorem dX11_shown_105 : decode cX11_shown 105 = .ok (.i2l, 1) := by decide +kernel
theorem dX11_shown_106 : decode cX11_shown 106 = .ok (.lmul, 1) := by decide +kernel
theorem dX11_shown_107 : decode cX11_shown 107 = .ok (.iload_n 2, 1) := by decide +kernel
theorem dX11_shown_108 : decode cX11_shown 108 = .ok (.i2l, 1) := by decide +kernel
theorem dX11_shown_109 : decode cX11_shown 109 = .ok (.lmul, 1) := by decide +kernel
theorem dX11_shown_110 : decode cX11_shown 110 = .ok (.ladd, 1) := by decide +kernel
theorem dX11_shown_111 : decode cX11_shown 111 = .ok (.lmul, 1) := by decide +kernel
theorem dX11_shown_112 : decode cX11_shown 112 = .ok (.lstore 7, 2) := by decide +kernel
theorem dX11_shown_114 : decode cX11_shown 114 = .ok (.lload 5, 2) := by decide +kernel
theorem dX11_shown_116 : decode cX11_shown 116 = .ok (.lconst 0, 1) := by decide +kernel
theorem dX11_shown_117 : decode cX11_shown 117 = .ok (.lcmp, 1) := by decide +kernel
theorem dX11_shown_118 : decode cX11_shown 118 = .ok (.ifCond .eq 25, 3) := by decide +kernel
theorem dX11_shown_121 : decode cX11_shown 121 = .ok (.lload 5, 2) := by decide +kernel
theorem dX11_shown_123 : decode cX11_shown 123 = .ok (.lload 5, 2) := by decide +kernel
theorem dX11_shown_125 : decode cX11_shown 125 = .ok (.lmul, 1) := by decide +kernel
theorem dX11_shown_126 : decode cX11_shown 126 = .ok (.iload_n 2, 1) := by decide +kernel
theorem dX11_shown_127 : decode cX11_shown 127 = .ok (.i2l, 1) := by decide +kernel
theorem dX11_shown_128 : decode cX11_shown 128 = .ok (.lmul, 1) := by decide +kernel
theorem dX11_shown_129 : decode cX11_shown 129 = .ok (.iload 4, 2) := by decide +kernel
theorem dX11_shown_131 : decode cX11_shown 131 = .ok (.i2l, 1) := by decide +kernel
theorem dX11_shown_132 : decode cX11_shown 132 = .ok (.lmul, 1) := by decide +kernel
theorem dX11_shown_133 : decode cX11_shown 133 = .ok (.lload 7, 2) := by decide +kernel
theorem dX11_shown_135 : decode cX11_shown 135 = .ok (.lcmp, 1) := by decide +kernel
theorem dX11_shown_136 : decode cX11_shown 136 = .ok (.ifCond .lt 7, 3) := by decide +kernel
theorem dX11_shown_139 : decode cX11_shown 139 = .ok (.iconst 1, 1) := by decide +kernel
theorem dX11_shown_140 : decode cX11_shown 140 = .ok (.goto 4, 3) := by decide +kernel
theorem dX11_shown_143 : decode cX11_shown 143 = .ok (.iconst 0, 1) := by decide +kernel
theorem dX11_shown_144 : decode cX11_shown 144 = .ok (.ireturn, 1) := by decide +kernel
theorem dX11_clumps_0 : decode cX11_clumps 0 = .ok (.aload_n 0, 1) := by decide +kernel
theorem dX11_clumps_1 : decode cX11_clumps 1 = .ok (.iconst 0, 1) := by decide +kernel
theorem dX11_clumps_2 : decode cX11_clumps 2 = .ok (.putfield 1, 3) := by decide +kernel
theorem dX11_clumps_5 : decode cX11_clumps 5 = .ok (.iload_n 1, 1) := by decide +kernel
theorem dX11_clumps_6 : decode cX11_clumps 6 = .ok (.i2l, 1) := by decide +kernel
theorem dX11_clumps_7 : decode cX11_clumps 7 = .ok (.lconst 0, 1) := by decide +kernel
theorem dX11_clumps_8 : decode cX11_clumps 8 = .ok (.ldc2_w 213, 3) := by decide +kernel
theorem dX11_clumps_11 : decode cX11_clumps 11 = .ok (.invokestatic 152, 3) := by decide +kernel
theorem dX11_clumps_14 : decode cX11_clumps 14 = .ok (.ifCond .eq 16, 3) := by decide +kernel
theorem dX11_clumps_17 : decode cX11_clumps 17 = .ok (.iload 4, 2) := by decide +kernel
theorem dX11_clumps_19 : decode cX11_clumps 19 = .ok (.i2l, 1) := by decide +kernel
theorem dX11_clumps_20 : decode cX11_clumps 20 = .ok (.lconst 0, 1) := by decide +kernel
theorem dX11_clumps_21 : decode cX11_clumps 21 = .ok (.ldc2_w 363, 3) := by decide +kernel
theorem dX11_clumps_24 : decode cX11_clumps 24 = .ok (.invokestatic 152, 3) := by decide +kernel
theorem dX11_clumps_27 : decode cX11_clumps 27 = .ok (.ifCond .ne 10, 3) := by decide +kernel
theorem dX11_clumps_30 : decode cX11_clumps 30 = .ok (.aload_n 0, 1) := by decide +kernel
theorem dX11_clumps_31 : decode cX11_clumps 31 = .ok (.bipush (-2), 2) := by decide +kernel
theorem dX11_clumps_33 : decode cX11_clumps 33 = .ok (.invokevirtual 89, 3) := by decide +kernel
theorem dX11_clumps_36 : decode cX11_clumps 36 = .ok (.ireturn, 1) := by decide +kernel
theorem dX11_clumps_37 : decode cX11_clumps 37 = .ok (.aload_n 0, 1) := by decide +kernel
theorem dX11_clumps_38 : decode cX11_clumps 38 = .ok (.getfield 73, 3) := by decide +kernel
theorem dX11_clumps_41 : decode cX11_clumps 41 = .ok (.iload_n 1, 1) := by decide +kernel
theorem dX11_clumps_42 : decode cX11_clumps 42 = .ok (.iaload, 1) := by decide +kernel
theorem dX11_clumps_43 : decode cX11_clumps 43 = .ok (.iconst (-1), 1) := by decide +kernel
theorem dX11_clumps_44 : decode cX11_clumps 44 = .ok (.if_icmp .ne 10, 3) := by decide +kernel
theorem dX11_clumps_47 : decode cX11_clumps 47 = .ok (.aload_n 0, 1) := by decide +kernel
theorem dX11_clumps_48 : decode cX11_clumps 48 = .ok (.bipush (-6), 2) := by decide +kernel
theorem dX11_clumps_50 : decode cX11_clumps 50 = .ok (.invokevirtual 89, 3) := by decide +kernel
theorem dX11_clumps_53 : decode cX11_clumps 53 = .ok (.ireturn, 1) := by decide +kernel
theorem dX11_clumps_54 : decode cX11_clumps 54 = .ok (.iload_n 2, 1) := by decide +kernel
theorem dX11_clumps_55 : decode cX11_clumps 55 = .ok (.i2l, 1) := by decide +kernel
theorem dX11_clumps_56 : decode cX11_clumps 56 = .ok (.ldc2_w 363, 3) := by decide +kernel
theorem dX11_clumps_59 : decode cX11_clumps 59 = .ok (.ldc2_w 353, 3) := by decide +kernel
theorem dX11_clumps_62 : decode cX11_clumps 62 = .ok (.invokestatic 152, 3) := by decide +kernel
theorem dX11_clumps_65 : decode cX11_clumps 65 = .ok (.ifCond .eq 16, 3) := by decide +kernel
theorem dX11_clumps_68 : decode cX11_clumps 68 = .ok (.iload_n 3, 1) := by decide +kernel
theorem dX11_clumps_69 : decode cX11_clumps 69 = .ok (.i2l, 1) := by decide +kernel
theorem dX11_clumps_70 : decode cX11_clumps 70 = .ok (.lconst 1, 1) := by decide +kernel
theorem dX11_clumps_71 : decode cX11_clumps 71 = .ok (.iload_n 2, 1) := by decide +kernel
theorem dX11_clumps_72 : decode cX11_clumps 72 = .ok (.iconst 1, 1) := by decide +kernel
theorem dX11_clumps_73 : decode cX11_clumps 73 = .ok (.isub, 1) := by decide +kernel
theorem dX11_clumps_74 : decode cX11_clumps 74 = .ok (.i2l, 1) := by decide +kernel
theorem dX11_clumps_75 : decode cX11_clumps 75 = .ok (.invokestatic 152, 3) := by decide +kernel
theorem dX11_clumps_78 : decode cX11_clumps 78 = .ok (.ifCond .ne 10, 3) := by decide +kernel
theorem dX11_clumps_81 : decode cX11_clumps 81 = .ok (.aload_n 0, 1) := by decide +kernel
theorem dX11_clumps_82 : decode cX11_clumps 82 = .ok (.bipush (-3), 2) := by decide +kernel
theorem dX11_clumps_84 : decode cX11_clumps 84 = .ok (.invokevirtual 89, 3) := by decide +kernel
theorem dX11_clumps_87 : decode cX11_clumps 87 = .ok (.ireturn, 1) := by decide +kernel
theorem dX11_clumps_88 : decode cX11_clumps 88 = .ok (.iconst 0, 1) := by decide +kernel
theorem dX11_clumps_89 : decode cX11_clumps 89 = .ok (.istore 5, 2) := by decide +kernel
theorem dX11_clumps_91 : decode cX11_clumps 91 = .ok (.iload 5, 2) := by decide +kernel
theorem dX11_clumps_93 : decode cX11_clumps 93 = .ok (.aload_n 0, 1) := by decide +kernel
theorem dX11_clumps_94 : decode cX11_clumps 94 = .ok (.getfield 76, 3) := by decide +kernel
theorem dX11_clumps_97 : decode cX11_clumps 97 = .ok (.iload_n 1, 1) := by decide +kernel
theorem dX11_clumps_98 : decode cX11_clumps 98 = .ok (.iaload, 1) := by decide +kernel
theorem dX11_clumps_99 : decode cX11_clumps 99 = .ok (.if_icmp .ge 38, 3) := by decide +kernel
theorem dX11_clumps_102 : decode cX11_clumps 102 = .ok (.aload_n 0, 1) := by decide +kernel
theorem dX11_clumps_103 : decode cX11_clumps 103 = .ok (.getfield 79, 3) := by decide +kernel
theorem dX11_clumps_106 : decode cX11_clumps 106 = .ok (.bipush 40, 2) := by decide +kernel
theorem dX11_clumps_108 : decode cX11_clumps 108 = .ok (.iload_n 1, 1) := by decide +kernel
theorem dX11_clumps_109 : decode cX11_clumps 109 = .ok (.imul, 1) := by decide +kernel
theorem dX11_clumps_110 : decode cX11_clumps 110 = .ok (.iload 5, 2) := by decide +kernel
theorem dX11_clumps_112 : decode cX11_clumps 112 = .ok (.iadd, 1) := by decide +kernel
theorem dX11_clumps_113 : decode cX11_clumps 113 = .ok (.laload, 1) := by decide +kernel
theorem dX11_clumps_114 : decode cX11_clumps 114 = .ok (.lconst 0, 1) := by decide +kernel
theorem dX11_clumps_115 : decode cX11_clumps 115 = .ok (.ldc2_w 365, 3) := by decide +kernel
theorem dX11_clumps_118 : decode cX11_clumps 118 = .ok (.invokestatic 152, 3) := by decide +kernel
theorem dX11_clumps_121 : decode cX11_clumps 121 = .ok (.ifCond .ne 10, 3) := by decide +kernel
theorem dX11_clumps_124 : decode cX11_clumps 124 = .ok (.aload_n 0, 1) := by decide +kernel
theorem dX11_clumps_125 : decode cX11_clumps 125 = .ok (.bipush (-3), 2) := by decide +kernel
theorem dX11_clumps_127 : decode cX11_clumps 127 = .ok (.invokevirtual 89, 3) := by decide +kernel
theorem dX11_clumps_130 : decode cX11_clumps 130 = .ok (.ireturn, 1) := by decide +kernel
theorem dX11_clumps_131 : decode cX11_clumps 131 = .ok (.iinc 5 1, 3) := by decide +kernel
theorem dX11_clumps_134 : decode cX11_clumps 134 = .ok (.goto (-43), 3) := by decide +kernel
theorem dX11_clumps_137 : decode cX11_clumps 137 = .ok (.iconst 0, 1) := by decide +kernel
theorem dX11_clumps_138 : decode cX11_clumps 138 = .ok (.istore 5, 2) := by decide +kernel
theorem dX11_clumps_140 : decode cX11_clumps 140 = .ok (.iconst 0, 1) := by decide +kernel
theorem dX11_clumps_141 : decode cX11_clumps 141 = .ok (.istore 6, 2) := by decide +kernel
theorem dX11_clumps_143 : decode cX11_clumps 143 = .ok (.iload 6, 2) := by decide +kernel
theorem dX11_clumps_145 : decode cX11_clumps 145 = .ok (.aload_n 0, 1) := by decide +kernel
theorem dX11_clumps_146 : decode cX11_clumps 146 = .ok (.getfield 76, 3) := by decide +kernel
theorem dX11_clumps_149 : decode cX11_clumps 149 = .ok (.iload_n 1, 1) := by decide +kernel
theorem dX11_clumps_150 : decode cX11_clumps 150 = .ok (.iaload, 1) := by decide +kernel
theorem dX11_clumps_151 : decode cX11_clumps 151 = .ok (.if_icmp .ge 68, 3) := by decide +kernel
theorem dX11_clumps_154 : decode cX11_clumps 154 = .ok (.aload_n 0, 1) := by decide +kernel
theorem dX11_clumps_155 : decode cX11_clumps 155 = .ok (.getfield 79, 3) := by decide +kernel
theorem dX11_clumps_158 : decode cX11_clumps 158 = .ok (.bipush 40, 2) := by decide +kernel
theorem dX11_clumps_160 : decode cX11_clumps 160 = .ok (.iload_n 1, 1) := by decide +kernel
theorem dX11_clumps_161 : decode cX11_clumps 161 = .ok (.imul, 1) := by decide +kernel
theorem dX11_clumps_162 : decode cX11_clumps 162 = .ok (.iload 6, 2) := by decide +kernel
theorem dX11_clumps_164 : decode cX11_clumps 164 = .ok (.iadd, 1) := by decide +kernel
theorem dX11_clumps_165 : decode cX11_clumps 165 = .ok (.laload, 1) := by decide +kernel
theorem dX11_clumps_166 : decode cX11_clumps 166 = .ok (.l2i, 1) := by decide +kernel
theorem dX11_clumps_167 : decode cX11_clumps 167 = .ok (.istore 7, 2) := by decide +kernel
theorem dX11_clumps_169 : decode cX11_clumps 169 = .ok (.aload_n 0, 1) := by decide +kernel
theorem dX11_clumps_170 : decode cX11_clumps 170 = .ok (.getfield 70, 3) := by decide +kernel
theorem dX11_clumps_173 : decode cX11_clumps 173 = .ok (.iload 6, 2) := by decide +kernel
theorem dX11_clumps_175 : decode cX11_clumps 175 = .ok (.iload 7, 2) := by decide +kernel
theorem dX11_clumps_177 : decode cX11_clumps 177 = .ok (.iload_n 2, 1) := by decide +kernel
theorem dX11_clumps_178 : decode cX11_clumps 178 = .ok (.irem, 1) := by decide +kernel
theorem dX11_clumps_179 : decode cX11_clumps 179 = .ok (.iload_n 3, 1) := by decide +kernel
theorem dX11_clumps_180 : decode cX11_clumps 180 = .ok (.if_icmp .ge 8, 3) := by decide +kernel
theorem dX11_clumps_183 : decode cX11_clumps 183 = .ok (.iload 7, 2) := by decide +kernel
theorem dX11_clumps_185 : decode cX11_clumps 185 = .ok (.goto 12, 3) := by decide +kernel
theorem dX11_clumps_188 : decode cX11_clumps 188 = .ok (.iload 7, 2) := by decide +kernel
theorem dX11_clumps_190 : decode cX11_clumps 190 = .ok (.iload_n 2, 1) := by decide +kernel
theorem dX11_clumps_191 : decode cX11_clumps 191 = .ok (.iadd, 1) := by decide +kernel
theorem dX11_clumps_192 : decode cX11_clumps 192 = .ok (.iload 7, 2) := by decide +kernel
theorem dX11_clumps_194 : decode cX11_clumps 194 = .ok (.iload_n 2, 1) := by decide +kernel
theorem dX11_clumps_195 : decode cX11_clumps 195 = .ok (.irem, 1) := by decide +kernel
theorem dX11_clumps_196 : decode cX11_clumps 196 = .ok (.isub, 1) := by decide +kernel
theorem dX11_clumps_197 : decode cX11_clumps 197 = .ok (.iastore, 1) := by decide +kernel
theorem dX11_clumps_198 : decode cX11_clumps 198 = .ok (.iload 5, 2) := by decide +kernel
theorem dX11_clumps_200 : decode cX11_clumps 200 = .ok (.aload_n 0, 1) := by decide +kernel
theorem dX11_clumps_201 : decode cX11_clumps 201 = .ok (.getfield 70, 3) := by decide +kernel
theorem dX11_clumps_204 : decode cX11_clumps 204 = .ok (.iload 6, 2) := by decide +kernel
theorem dX11_clumps_206 : decode cX11_clumps 206 = .ok (.iaload, 1) := by decide +kernel
theorem dX11_clumps_207 : decode cX11_clumps 207 = .ok (.iload 7, 2) := by decide +kernel
theorem dX11_clumps_209 : decode cX11_clumps 209 = .ok (.isub, 1) := by decide +kernel
theorem dX11_clumps_210 : decode cX11_clumps 210 = .ok (.iadd, 1) := by decide +kernel
theorem dX11_clumps_211 : decode cX11_clumps 211 = .ok (.istore 5, 2) := by decide +kernel
theorem dX11_clumps_213 : decode cX11_clumps 213 = .ok (.iinc 6 1, 3) := by decide +kernel
theorem dX11_clumps_216 : decode cX11_clumps 216 = .ok (.goto (-73), 3) := by decide +kernel
theorem dX11_clumps_219 : decode cX11_clumps 219 = .ok (.iconst 0, 1) := by decide +kernel
theorem dX11_clumps_220 : decode cX11_clumps 220 = .ok (.istore 6, 2) := by decide +kernel
theorem dX11_clumps_222 : decode cX11_clumps 222 = .ok (.iconst 0, 1) := by decide +kernel
theorem dX11_clumps_223 : decode cX11_clumps 223 = .ok (.istore 7, 2) := by decide +kernel
theorem dX11_clumps_225 : decode cX11_clumps 225 = .ok (.iconst 0, 1) := by decide +kernel
theorem dX11_clumps_226 : decode cX11_clumps 226 = .ok (.istore 8, 2) := by decide +kernel
theorem dX11_clumps_228 : decode cX11_clumps 228 = .ok (.iload 8, 2) := by decide +kernel
theorem dX11_clumps_230 : decode cX11_clumps 230 = .ok (.aload_n 0, 1) := by decide +kernel
theorem dX11_clumps_231 : decode cX11_clumps 231 = .ok (.getfield 76, 3) := by decide +kernel
theorem dX11_clumps_234 : decode cX11_clumps 234 = .ok (.iload_n 1, 1) := by decide +kernel
theorem dX11_clumps_235 : decode cX11_clumps 235 = .ok (.iaload, 1) := by decide +kernel
theorem dX11_clumps_236 : decode cX11_clumps 236 = .ok (.if_icmp .ge 108, 3) := by decide +kernel
theorem dX11_clumps_239 : decode cX11_clumps 239 = .ok (.iconst 0, 1) := by decide +kernel
theorem dX11_clumps_240 : decode cX11_clumps 240 = .ok (.istore 9, 2) := by decide +kernel
theorem dX11_clumps_242 : decode cX11_clumps 242 = .ok (.iconst 1, 1) := by decide +kernel
theorem dX11_clumps_243 : decode cX11_clumps 243 = .ok (.istore 10, 2) := by decide +kernel
theorem dX11_clumps_245 : decode cX11_clumps 245 = .ok (.iconst 0, 1) := by decide +kernel
theorem dX11_clumps_246 : decode cX11_clumps 246 = .ok (.istore 11, 2) := by decide +kernel
theorem dX11_clumps_248 : decode cX11_clumps 248 = .ok (.iload 11, 2) := by decide +kernel
theorem dX11_clumps_250 : decode cX11_clumps 250 = .ok (.aload_n 0, 1) := by decide +kernel
theorem dX11_clumps_251 : decode cX11_clumps 251 = .ok (.getfield 76, 3) := by decide +kernel
theorem dX11_clumps_254 : decode cX11_clumps 254 = .ok (.iload_n 1, 1) := by decide +kernel
theorem dX11_clumps_255 : decode cX11_clumps 255 = .ok (.iaload, 1) := by decide +kernel
theorem dX11_clumps_256 : decode cX11_clumps 256 = .ok (.if_icmp .ge 51, 3) := by decide +kernel
theorem dX11_clumps_259 : decode cX11_clumps 259 = .ok (.aload_n 0, 1) := by decide +kernel
theorem dX11_clumps_260 : decode cX11_clumps 260 = .ok (.getfield 70, 3) := by decide +kernel
theorem dX11_clumps_263 : decode cX11_clumps 263 = .ok (.iload 11, 2) := by decide +kernel
theorem dX11_clumps_265 : decode cX11_clumps 265 = .ok (.iaload, 1) := by decide +kernel
theorem dX11_clumps_266 : decode cX11_clumps 266 = .ok (.aload_n 0, 1) := by decide +kernel
theorem dX11_clumps_267 : decode cX11_clumps 267 = .ok (.getfield 70, 3) := by decide +kernel
theorem dX11_clumps_270 : decode cX11_clumps 270 = .ok (.iload 8, 2) := by decide +kernel
theorem dX11_clumps_272 : decode cX11_clumps 272 = .ok (.iaload, 1) := by decide +kernel
theorem dX11_clumps_273 : decode cX11_clumps 273 = .ok (.if_icmp .eq 6, 3) := by decide +kernel
theorem dX11_clumps_276 : decode cX11_clumps 276 = .ok (.goto 25, 3) := by decide +kernel
theorem dX11_clumps_279 : decode cX11_clumps 279 = .ok (.iinc 9 1, 3) := by decide +kernel
theorem dX11_clumps_282 : decode cX11_clumps 282 = .ok (.iload 10, 2) := by decide +kernel
theorem dX11_clumps_284 : decode cX11_clumps 284 = .ok (.ifCond .eq 14, 3) := by decide +kernel
theorem dX11_clumps_287 : decode cX11_clumps 287 = .ok (.iload 11, 2) := by decide +kernel
theorem dX11_clumps_289 : decode cX11_clumps 289 = .ok (.iload 8, 2) := by decide +kernel
theorem dX11_clumps_291 : decode cX11_clumps 291 = .ok (.if_icmp .lt 7, 3) := by decide +kernel
theorem dX11_clumps_294 : decode cX11_clumps 294 = .ok (.iconst 1, 1) := by decide +kernel
theorem dX11_clumps_295 : decode cX11_clumps 295 = .ok (.goto 4, 3) := by decide +kernel
theorem dX11_clumps_298 : decode cX11_clumps 298 = .ok (.iconst 0, 1) := by decide +kernel
theorem dX11_clumps_299 : decode cX11_clumps 299 = .ok (.istore 10, 2) := by decide +kernel
theorem dX11_clumps_301 : decode cX11_clumps 301 = .ok (.iinc 11 1, 3) := by decide +kernel
theorem dX11_clumps_304 : decode cX11_clumps 304 = .ok (.goto (-56), 3) := by decide +kernel
theorem dX11_clumps_307 : decode cX11_clumps 307 = .ok (.iload 9, 2) := by decide +kernel
theorem dX11_clumps_309 : decode cX11_clumps 309 = .ok (.iload 6, 2) := by decide +kernel
theorem dX11_clumps_311 : decode cX11_clumps 311 = .ok (.if_icmp .le 8, 3) := by decide +kernel
theorem dX11_clumps_314 : decode cX11_clumps 314 = .ok (.iload 9, 2) := by decide +kernel
theorem dX11_clumps_316 : decode cX11_clumps 316 = .ok (.goto 5, 3) := by decide +kernel
theorem dX11_clumps_319 : decode cX11_clumps 319 = .ok (.iload 6, 2) := by decide +kernel
theorem dX11_clumps_321 : decode cX11_clumps 321 = .ok (.istore 6, 2) := by decide +kernel
theorem dX11_clumps_323 : decode cX11_clumps 323 = .ok (.iload 7, 2) := by decide +kernel
theorem dX11_clumps_325 : decode cX11_clumps 325 = .ok (.iload 10, 2) := by decide +kernel
theorem dX11_clumps_327 : decode cX11_clumps 327 = .ok (.ifCond .eq 7, 3) := by decide +kernel
theorem dX11_clumps_330 : decode cX11_clumps 330 = .ok (.iconst 1, 1) := by decide +kernel
theorem dX11_clumps_331 : decode cX11_clumps 331 = .ok (.goto 4, 3) := by decide +kernel
theorem dX11_clumps_334 : decode cX11_clumps 334 = .ok (.iconst 0, 1) := by decide +kernel
theorem dX11_clumps_335 : decode cX11_clumps 335 = .ok (.iadd, 1) := by decide +kernel
theorem dX11_clumps_336 : decode cX11_clumps 336 = .ok (.istore 7, 2) := by decide +kernel
theorem dX11_clumps_338 : decode cX11_clumps 338 = .ok (.iinc 8 1, 3) := by decide +kernel
theorem dX11_clumps_341 : decode cX11_clumps 341 = .ok (.goto (-113), 3) := by decide +kernel
theorem dX11_clumps_344 : decode cX11_clumps 344 = .ok (.iload 4, 2) := by decide +kernel
theorem dX11_clumps_346 : decode cX11_clumps 346 = .ok (.ifCond .ne 8, 3) := by decide +kernel
theorem dX11_clumps_349 : decode cX11_clumps 349 = .ok (.iload 5, 2) := by decide +kernel
theorem dX11_clumps_351 : decode cX11_clumps 351 = .ok (.goto 16, 3) := by decide +kernel
theorem dX11_clumps_354 : decode cX11_clumps 354 = .ok (.iload 4, 2) := by decide +kernel
theorem dX11_clumps_356 : decode cX11_clumps 356 = .ok (.iconst 1, 1) := by decide +kernel
theorem dX11_clumps_357 : decode cX11_clumps 357 = .ok (.if_icmp .ne 8, 3) := by decide +kernel
theorem dX11_clumps_360 : decode cX11_clumps 360 = .ok (.iload 6, 2) := by decide +kernel
theorem dX11_clumps_362 : decode cX11_clumps 362 = .ok (.goto 5, 3) := by decide +kernel
theorem dX11_clumps_365 : decode cX11_clumps 365 = .ok (.iload 7, 2) := by decide +kernel
theorem dX11_clumps_367 : decode cX11_clumps 367 = .ok (.ireturn, 1) := by decide +kernel
theorem dX11_lamp_0 : decode cX11_lamp 0 = .ok (.aload_n 0, 1) := by decide +kernel
theorem dX11_lamp_1 : decode cX11_lamp 1 = .ok (.iconst 0, 1) := by decide +kernel
theorem dX11_lamp_2 : decode cX11_lamp 2 = .ok (.putfield 1, 3) := by decide +kernel
theorem dX11_lamp_5 : decode cX11_lamp 5 = .ok (.iload_n 3, 1) := by decide +kernel
theorem dX11_lamp_6 : decode cX11_lamp 6 = .ok (.i2l, 1) := by decide +kernel
theorem dX11_lamp_7 : decode cX11_lamp 7 = .ok (.lconst 0, 1) := by decide +kernel
theorem dX11_lamp_8 : decode cX11_lamp 8 = .ok (.lconst 1, 1) := by decide +kernel
theorem dX11_lamp_9 : decode cX11_lamp 9 = .ok (.invokestatic 152, 3) := by decide +kernel
theorem dX11_lamp_12 : decode cX11_lamp 12 = .ok (.ifCond .ne 10, 3) := by decide +kernel
theorem dX11_lamp_15 : decode cX11_lamp 15 = .ok (.aload_n 0, 1) := by decide +kernel
theorem dX11_lamp_16 : decode cX11_lamp 16 = .ok (.bipush (-2), 2) := by decide +kernel
theorem dX11_lamp_18 : decode cX11_lamp 18 = .ok (.invokevirtual 89, 3) := by decide +kernel
theorem dX11_lamp_21 : decode cX11_lamp 21 = .ok (.ireturn, 1) := by decide +kernel
theorem dX11_lamp_22 : decode cX11_lamp 22 = .ok (.iload_n 1, 1) := by decide +kernel
theorem dX11_lamp_23 : decode cX11_lamp 23 = .ok (.i2l, 1) := by decide +kernel
theorem dX11_lamp_24 : decode cX11_lamp 24 = .ok (.lconst 0, 1) := by decide +kernel
theorem dX11_lamp_25 : decode cX11_lamp 25 = .ok (.ldc2_w 353, 3) := by decide +kernel
theorem dX11_lamp_28 : decode cX11_lamp 28 = .ok (.invokestatic 152, 3) := by decide +kernel
theorem dX11_lamp_31 : decode cX11_lamp 31 = .ok (.ifCond .eq 15, 3) := by decide +kernel
theorem dX11_lamp_34 : decode cX11_lamp 34 = .ok (.iload_n 2, 1) := by decide +kernel
theorem dX11_lamp_35 : decode cX11_lamp 35 = .ok (.i2l, 1) := by decide +kernel
theorem dX11_lamp_36 : decode cX11_lamp 36 = .ok (.lconst 0, 1) := by decide +kernel
theorem dX11_lamp_37 : decode cX11_lamp 37 = .ok (.ldc2_w 353, 3) := by decide +kernel
theorem dX11_lamp_40 : decode cX11_lamp 40 = .ok (.invokestatic 152, 3) := by decide +kernel
theorem dX11_lamp_43 : decode cX11_lamp 43 = .ok (.ifCond .ne 10, 3) := by decide +kernel
theorem dX11_lamp_46 : decode cX11_lamp 46 = .ok (.aload_n 0, 1) := by decide +kernel
theorem dX11_lamp_47 : decode cX11_lamp 47 = .ok (.bipush (-3), 2) := by decide +kernel
theorem dX11_lamp_49 : decode cX11_lamp 49 = .ok (.invokevirtual 89, 3) := by decide +kernel
theorem dX11_lamp_52 : decode cX11_lamp 52 = .ok (.ireturn, 1) := by decide +kernel
theorem dX11_lamp_53 : decode cX11_lamp 53 = .ok (.iconst 0, 1) := by decide +kernel
theorem dX11_lamp_54 : decode cX11_lamp 54 = .ok (.istore 4, 2) := by decide +kernel
theorem dX11_lamp_56 : decode cX11_lamp 56 = .ok (.iconst 0, 1) := by decide +kernel
theorem dX11_lamp_57 : decode cX11_lamp 57 = .ok (.istore 5, 2) := by decide +kernel
theorem dX11_lamp_59 : decode cX11_lamp 59 = .ok (.lconst 0, 1) := by decide +kernel
theorem dX11_lamp_60 : decode cX11_lamp 60 = .ok (.lstore 6, 2) := by decide +kernel
theorem dX11_lamp_62 : decode cX11_lamp 62 = .ok (.bipush 20, 2) := by decide +kernel
theorem dX11_lamp_64 : decode cX11_lamp 64 = .ok (.istore 8, 2) := by decide +kernel
theorem dX11_lamp_66 : decode cX11_lamp 66 = .ok (.iload 8, 2) := by decide +kernel
theorem dX11_lamp_68 : decode cX11_lamp 68 = .ok (.bipush 120, 2) := by decide +kernel
theorem dX11_lamp_70 : decode cX11_lamp 70 = .ok (.if_icmp .gt 93, 3) := by decide +kernel
theorem dX11_lamp_73 : decode cX11_lamp 73 = .ok (.iconst 5, 1) := by decide +kernel
theorem dX11_lamp_74 : decode cX11_lamp 74 = .ok (.istore 9, 2) := by decide +kernel
theorem dX11_lamp_76 : decode cX11_lamp 76 = .ok (.iload 9, 2) := by decide +kernel
theorem dX11_lamp_78 : decode cX11_lamp 78 = .ok (.iload 8, 2) := by decide +kernel
theorem dX11_lamp_80 : decode cX11_lamp 80 = .ok (.bipush 10, 2) := by decide +kernel
theorem dX11_lamp_82 : decode cX11_lamp 82 = .ok (.isub, 1) := by decide +kernel
theorem dX11_lamp_83 : decode cX11_lamp 83 = .ok (.if_icmp .gt 74, 3) := by decide +kernel
theorem dX11_lamp_86 : decode cX11_lamp 86 = .ok (.iload_n 1, 1) := by decide +kernel
theorem dX11_lamp_87 : decode cX11_lamp 87 = .ok (.i2l, 1) := by decide +kernel
theorem dX11_lamp_88 : decode cX11_lamp 88 = .ok (.iload 9, 2) := by decide +kernel
theorem dX11_lamp_90 : decode cX11_lamp 90 = .ok (.i2l, 1) := by decide +kernel
theorem dX11_lamp_91 : decode cX11_lamp 91 = .ok (.lmul, 1) := by decide +kernel
theorem dX11_lamp_92 : decode cX11_lamp 92 = .ok (.iload 9, 2) := by decide +kernel
theorem dX11_lamp_94 : decode cX11_lamp 94 = .ok (.i2l, 1) := by decide +kernel
theorem dX11_lamp_95 : decode cX11_lamp 95 = .ok (.lmul, 1) := by decide +kernel
theorem dX11_lamp_96 : decode cX11_lamp 96 = .ok (.iload_n 2, 1) := by decide +kernel
theorem dX11_lamp_97 : decode cX11_lamp 97 = .ok (.i2l, 1) := by decide +kernel
theorem dX11_lamp_98 : decode cX11_lamp 98 = .ok (.iload 8, 2) := by decide +kernel
theorem dX11_lamp_100 : decode cX11_lamp 100 = .ok (.iload 9, 2) := by decide +kernel
theorem dX11_lamp_102 : decode cX11_lamp 102 = .ok (.isub, 1) := by decide +kernel
theorem dX11_lamp_103 : decode cX11_lamp 103 = .ok (.i2l, 1) := by decide +kernel
theorem dX11_lamp_104 : decode cX11_lamp 104 = .ok (.lmul, 1) := by decide +kernel
theorem dX11_lamp_105 : decode cX11_lamp 105 = .ok (.iload 8, 2) := by decide +kernel
theorem dX11_lamp_107 : decode cX11_lamp 107 = .ok (.iload 9, 2) := by decide +kernel
theorem dX11_lamp_109 : decode cX11_lamp 109 = .ok (.isub, 1) := by decide +kernel
theorem dX11_lamp_110 : decode cX11_lamp 110 = .ok (.i2l, 1) := by decide +kernel
theorem dX11_lamp_111 : decode cX11_lamp 111 = .ok (.lmul, 1) := by decide +kernel
theorem dX11_lamp_112 : decode cX11_lamp 112 = .ok (.ladd, 1) := by decide +kernel
theorem dX11_lamp_113 : decode cX11_lamp 113 = .ok (.lstore 10, 2) := by decide +kernel
theorem dX11_lamp_115 : decode cX11_lamp 115 = .ok (.iload 4, 2) := by decide +kernel
theorem dX11_lamp_117 : decode cX11_lamp 117 = .ok (.ifCond .le 22, 3) := by decide +kernel
theorem dX11_lamp_120 : decode cX11_lamp 120 = .ok (.lload 10, 2) := by decide +kernel
theorem dX11_lamp_122 : decode cX11_lamp 122 = .ok (.iload 4, 2) := by decide +kernel
theorem dX11_lamp_124 : decode cX11_lamp 124 = .ok (.i2l, 1) := by decide +kernel
theorem dX11_lamp_125 : decode cX11_lamp 125 = .ok (.lmul, 1) := by decide +kernel
theorem dX11_lamp_126 : decode cX11_lamp 126 = .ok (.lload 6, 2) := by decide +kernel
theorem dX11_lamp_128 : decode cX11_lamp 128 = .ok (.iload 8, 2) := by decide +kernel
theorem dX11_lamp_130 : decode cX11_lamp 130 = .ok (.i2l, 1) := by decide +kernel
theorem dX11_lamp_131 : decode cX11_lamp 131 = .ok (.lmul, 1) := by decide +kernel
theorem dX11_lamp_132 : decode cX11_lamp 132 = .ok (.lcmp, 1) := by decide +kernel
theorem dX11_lamp_133 : decode cX11_lamp 133 = .ok (.ifCond .lt 6, 3) := by decide +kernel
theorem dX11_lamp_136 : decode cX11_lamp 136 = .ok (.goto 15, 3) := by decide +kernel
theorem dX11_lamp_139 : decode cX11_lamp 139 = .ok (.iload 8, 2) := by decide +kernel
theorem dX11_lamp_141 : decode cX11_lamp 141 = .ok (.istore 4, 2) := by decide +kernel
theorem dX11_lamp_143 : decode cX11_lamp 143 = .ok (.iload 9, 2) := by decide +kernel
theorem dX11_lamp_145 : decode cX11_lamp 145 = .ok (.istore 5, 2) := by decide +kernel
theorem dX11_lamp_147 : decode cX11_lamp 147 = .ok (.lload 10, 2) := by decide +kernel
theorem dX11_lamp_149 : decode cX11_lamp 149 = .ok (.lstore 6, 2) := by decide +kernel
theorem dX11_lamp_151 : decode cX11_lamp 151 = .ok (.iinc 9 1, 3) := by decide +kernel
theorem dX11_lamp_154 : decode cX11_lamp 154 = .ok (.goto (-78), 3) := by decide +kernel
theorem dX11_lamp_157 : decode cX11_lamp 157 = .ok (.iinc 8 1, 3) := by decide +kernel
theorem dX11_lamp_160 : decode cX11_lamp 160 = .ok (.goto (-94), 3) := by decide +kernel
theorem dX11_lamp_163 : decode cX11_lamp 163 = .ok (.iload_n 3, 1) := by decide +kernel
theorem dX11_lamp_164 : decode cX11_lamp 164 = .ok (.ifCond .ne 8, 3) := by decide +kernel
theorem dX11_lamp_167 : decode cX11_lamp 167 = .ok (.iload 4, 2) := by decide +kernel
theorem dX11_lamp_169 : decode cX11_lamp 169 = .ok (.goto 5, 3) := by decide +kernel
theorem dX11_lamp_172 : decode cX11_lamp 172 = .ok (.iload 5, 2) := by decide +kernel
theorem dX11_lamp_174 : decode cX11_lamp 174 = .ok (.ireturn, 1) := by decide +kernel
theorem dX11_payAt_0 : decode cX11_payAt 0 = .ok (.sipush 558, 3) := by decide +kernel
theorem dX11_payAt_3 : decode cX11_payAt 3 = .ok (.bipush 10, 2) := by decide +kernel
theorem dX11_payAt_5 : decode cX11_payAt 5 = .ok (.iload_n 1, 1) := by decide +kernel
theorem dX11_payAt_6 : decode cX11_payAt 6 = .ok (.imul, 1) := by decide +kernel
theorem dX11_payAt_7 : decode cX11_payAt 7 = .ok (.iadd, 1) := by decide +kernel
theorem dX11_payAt_8 : decode cX11_payAt 8 = .ok (.iconst 5, 1) := by decide +kernel
theorem dX11_payAt_9 : decode cX11_payAt 9 = .ok (.iload_n 2, 1) := by decide +kernel
theorem dX11_payAt_10 : decode cX11_payAt 10 = .ok (.imul, 1) := by decide +kernel
theorem dX11_payAt_11 : decode cX11_payAt 11 = .ok (.iadd, 1) := by decide +kernel
theorem dX11_payAt_12 : decode cX11_payAt 12 = .ok (.iload_n 3, 1) := by decide +kernel
theorem dX11_payAt_13 : decode cX11_payAt 13 = .ok (.iadd, 1) := by decide +kernel
theorem dX11_payAt_14 : decode cX11_payAt 14 = .ok (.ireturn, 1) := by decide +kernel
theorem dX11_pay_0 : decode cX11_pay 0 = .ok (.aload_n 0, 1) := by decide +kernel
theorem dX11_pay_1 : decode cX11_pay 1 = .ok (.iconst 0, 1) := by decide +kernel
theorem dX11_pay_2 : decode cX11_pay 2 = .ok (.putfield 1, 3) := by decide +kernel
theorem dX11_pay_5 : decode cX11_pay 5 = .ok (.iload_n 1, 1) := by decide +kernel
theorem dX11_pay_6 : decode cX11_pay 6 = .ok (.i2l, 1) := by decide +kernel
theorem dX11_pay_7 : decode cX11_pay 7 = .ok (.lconst 0, 1) := by decide +kernel
theorem dX11_pay_8 : decode cX11_pay 8 = .ok (.lconst 1, 1) := by decide +kernel
theorem dX11_pay_9 : decode cX11_pay 9 = .ok (.invokestatic 152, 3) := by decide +kernel
theorem dX11_pay_12 : decode cX11_pay 12 = .ok (.ifCond .eq 40, 3) := by decide +kernel
theorem dX11_pay_15 : decode cX11_pay 15 = .ok (.iload_n 2, 1) := by decide +kernel
theorem dX11_pay_16 : decode cX11_pay 16 = .ok (.i2l, 1) := by decide +kernel
theorem dX11_pay_17 : decode cX11_pay 17 = .ok (.lconst 0, 1) := by decide +kernel
theorem dX11_pay_18 : decode cX11_pay 18 = .ok (.lconst 1, 1) := by decide +kernel
theorem dX11_pay_19 : decode cX11_pay 19 = .ok (.invokestatic 152, 3) := by decide +kernel
theorem dX11_pay_22 : decode cX11_pay 22 = .ok (.ifCond .eq 30, 3) := by decide +kernel
theorem dX11_pay_25 : decode cX11_pay 25 = .ok (.iload_n 3, 1) := by decide +kernel
theorem dX11_pay_26 : decode cX11_pay 26 = .ok (.i2l, 1) := by decide +kernel
theorem dX11_pay_27 : decode cX11_pay 27 = .ok (.lconst 0, 1) := by decide +kernel
theorem dX11_pay_28 : decode cX11_pay 28 = .ok (.ldc2_w 361, 3) := by decide +kernel
theorem dX11_pay_31 : decode cX11_pay 31 = .ok (.invokestatic 152, 3) := by decide +kernel
theorem dX11_pay_34 : decode cX11_pay 34 = .ok (.ifCond .eq 18, 3) := by decide +kernel
theorem dX11_pay_37 : decode cX11_pay 37 = .ok (.iload 4, 2) := by decide +kernel
theorem dX11_pay_39 : decode cX11_pay 39 = .ok (.i2l, 1) := by decide +kernel
theorem dX11_pay_40 : decode cX11_pay 40 = .ok (.ldc2_w 367, 3) := by decide +kernel
theorem dX11_pay_43 : decode cX11_pay 43 = .ok (.ldc2_w 281, 3) := by decide +kernel
theorem dX11_pay_46 : decode cX11_pay 46 = .ok (.invokestatic 152, 3) := by decide +kernel
theorem dX11_pay_49 : decode cX11_pay 49 = .ok (.ifCond .ne 11, 3) := by decide +kernel
theorem dX11_pay_52 : decode cX11_pay 52 = .ok (.aload_n 0, 1) := by decide +kernel
theorem dX11_pay_53 : decode cX11_pay 53 = .ok (.sipush (-1000), 3) := by decide +kernel
theorem dX11_pay_56 : decode cX11_pay 56 = .ok (.invokevirtual 283, 3) := by decide +kernel
theorem dX11_pay_59 : decode cX11_pay 59 = .ok (.ireturn, 1) := by decide +kernel
theorem dX11_pay_60 : decode cX11_pay 60 = .ok (.aload_n 0, 1) := by decide +kernel
theorem dX11_pay_61 : decode cX11_pay 61 = .ok (.getfield 17, 3) := by decide +kernel
theorem dX11_pay_64 : decode cX11_pay 64 = .ok (.aload_n 0, 1) := by decide +kernel
theorem dX11_pay_65 : decode cX11_pay 65 = .ok (.iload_n 1, 1) := by decide +kernel
theorem dX11_pay_66 : decode cX11_pay 66 = .ok (.iload_n 2, 1) := by decide +kernel
theorem dX11_pay_67 : decode cX11_pay 67 = .ok (.iload_n 3, 1) := by decide +kernel
theorem dX11_pay_68 : decode cX11_pay 68 = .ok (.invokevirtual 369, 3) := by decide +kernel
theorem dX11_pay_71 : decode cX11_pay 71 = .ok (.iaload, 1) := by decide +kernel
theorem dX11_pay_72 : decode cX11_pay 72 = .ok (.istore 5, 2) := by decide +kernel
theorem dX11_pay_74 : decode cX11_pay 74 = .ok (.aload_n 0, 1) := by decide +kernel
theorem dX11_pay_75 : decode cX11_pay 75 = .ok (.getfield 17, 3) := by decide +kernel
theorem dX11_pay_78 : decode cX11_pay 78 = .ok (.aload_n 0, 1) := by decide +kernel
theorem dX11_pay_79 : decode cX11_pay 79 = .ok (.iload_n 1, 1) := by decide +kernel
theorem dX11_pay_80 : decode cX11_pay 80 = .ok (.iload_n 2, 1) := by decide +kernel
theorem dX11_pay_81 : decode cX11_pay 81 = .ok (.iload_n 3, 1) := by decide +kernel
theorem dX11_pay_82 : decode cX11_pay 82 = .ok (.invokevirtual 369, 3) := by decide +kernel
theorem dX11_pay_85 : decode cX11_pay 85 = .ok (.iload 4, 2) := by decide +kernel
theorem dX11_pay_87 : decode cX11_pay 87 = .ok (.iastore, 1) := by decide +kernel
theorem dX11_pay_88 : decode cX11_pay 88 = .ok (.iload 5, 2) := by decide +kernel
theorem dX11_pay_90 : decode cX11_pay 90 = .ok (.ireturn, 1) := by decide +kernel
theorem dX11_isRest_0 : decode cX11_isRest 0 = .ok (.aload_n 0, 1) := by decide +kernel
theorem dX11_isRest_1 : decode cX11_isRest 1 = .ok (.getfield 17, 3) := by decide +kernel
theorem dX11_isRest_4 : decode cX11_isRest 4 = .ok (.aload_n 0, 1) := by decide +kernel
theorem dX11_isRest_5 : decode cX11_isRest 5 = .ok (.iload_n 1, 1) := by decide +kernel
theorem dX11_isRest_6 : decode cX11_isRest 6 = .ok (.iconst 1, 1) := by decide +kernel
theorem dX11_isRest_7 : decode cX11_isRest 7 = .ok (.iload 4, 2) := by decide +kernel
theorem dX11_isRest_9 : decode cX11_isRest 9 = .ok (.invokevirtual 369, 3) := by decide +kernel
theorem dX11_isRest_12 : decode cX11_isRest 12 = .ok (.iaload, 1) := by decide +kernel
theorem dX11_isRest_13 : decode cX11_isRest 13 = .ok (.istore 5, 2) := by decide +kernel
theorem dX11_isRest_15 : decode cX11_isRest 15 = .ok (.aload_n 0, 1) := by decide +kernel
theorem dX11_isRest_16 : decode cX11_isRest 16 = .ok (.getfield 17, 3) := by decide +kernel
theorem dX11_isRest_19 : decode cX11_isRest 19 = .ok (.aload_n 0, 1) := by decide +kernel
theorem dX11_isRest_20 : decode cX11_isRest 20 = .ok (.iload_n 1, 1) := by decide +kernel
theorem dX11_isRest_21 : decode cX11_isRest 21 = .ok (.iconst 0, 1) := by decide +kernel
theorem dX11_isRest_22 : decode cX11_isRest 22 = .ok (.iload 4, 2) := by decide +kernel
theorem dX11_isRest_24 : decode cX11_isRest 24 = .ok (.invokevirtual 369, 3) := by decide +kernel
theorem dX11_isRest_27 : decode cX11_isRest 27 = .ok (.iaload, 1) := by decide +kernel
theorem dX11_isRest_28 : decode cX11_isRest 28 = .ok (.istore 6, 2) := by decide +kernel
theorem dX11_isRest_30 : decode cX11_isRest 30 = .ok (.iload_n 2, 1) := by decide +kernel
theorem dX11_isRest_31 : decode cX11_isRest 31 = .ok (.ifCond .eq 10, 3) := by decide +kernel
theorem dX11_isRest_34 : decode cX11_isRest 34 = .ok (.iload 5, 2) := by decide +kernel
theorem dX11_isRest_36 : decode cX11_isRest 36 = .ok (.iload 6, 2) := by decide +kernel
theorem dX11_isRest_38 : decode cX11_isRest 38 = .ok (.if_icmp .lt 19, 3) := by decide +kernel
theorem dX11_isRest_41 : decode cX11_isRest 41 = .ok (.iload_n 2, 1) := by decide +kernel
theorem dX11_isRest_42 : decode cX11_isRest 42 = .ok (.iload_n 3, 1) := by decide +kernel
theorem dX11_isRest_43 : decode cX11_isRest 43 = .ok (.if_icmp .eq 10, 3) := by decide +kernel
theorem dX11_isRest_46 : decode cX11_isRest 46 = .ok (.iload 6, 2) := by decide +kernel
theorem dX11_isRest_48 : decode cX11_isRest 48 = .ok (.iload 5, 2) := by decide +kernel
theorem dX11_isRest_50 : decode cX11_isRest 50 = .ok (.if_icmp .lt 7, 3) := by decide +kernel
theorem dX11_isRest_53 : decode cX11_isRest 53 = .ok (.iconst 1, 1) := by decide +kernel
theorem dX11_isRest_54 : decode cX11_isRest 54 = .ok (.goto 4, 3) := by decide +kernel
theorem dX11_isRest_57 : decode cX11_isRest 57 = .ok (.iconst 0, 1) := by decide +kernel
theorem dX11_isRest_58 : decode cX11_isRest 58 = .ok (.ireturn, 1) := by decide +kernel
theorem dX11_rests_0 : decode cX11_rests 0 = .ok (.aload_n 0, 1) := by decide +kernel
theorem dX11_rests_1 : decode cX11_rests 1 = .ok (.iconst 0, 1) := by decide +kernel
theorem dX11_rests_2 : decode cX11_rests 2 = .ok (.putfield 1, 3) := by decide +kernel
theorem dX11_rests_5 : decode cX11_rests 5 = .ok (.iload_n 3, 1) := by decide +kernel
theorem dX11_rests_6 : decode cX11_rests 6 = .ok (.i2l, 1) := by decide +kernel
theorem dX11_rests_7 : decode cX11_rests 7 = .ok (.lconst 0, 1) := by decide +kernel
theorem dX11_rests_8 : decode cX11_rests 8 = .ok (.lconst 1, 1) := by decide +kernel
theorem dX11_rests_9 : decode cX11_rests 9 = .ok (.invokestatic 152, 3) := by decide +kernel
theorem dX11_rests_12 : decode cX11_rests 12 = .ok (.ifCond .ne 10, 3) := by decide +kernel
theorem dX11_rests_15 : decode cX11_rests 15 = .ok (.aload_n 0, 1) := by decide +kernel
theorem dX11_rests_16 : decode cX11_rests 16 = .ok (.bipush (-2), 2) := by decide +kernel
theorem dX11_rests_18 : decode cX11_rests 18 = .ok (.invokevirtual 89, 3) := by decide +kernel
theorem dX11_rests_21 : decode cX11_rests 21 = .ok (.ireturn, 1) := by decide +kernel
theorem dX11_rests_22 : decode cX11_rests 22 = .ok (.iload_n 1, 1) := by decide +kernel
theorem dX11_rests_23 : decode cX11_rests 23 = .ok (.i2l, 1) := by decide +kernel
theorem dX11_rests_24 : decode cX11_rests 24 = .ok (.lconst 0, 1) := by decide +kernel
theorem dX11_rests_25 : decode cX11_rests 25 = .ok (.ldc2_w 361, 3) := by decide +kernel
