theorem dX10_numbers_40 : decode cX10_numbers 40 = .ok (.getfield 81, 3) := by decide +kernel
theorem dX10_numbers_43 : decode cX10_numbers 43 = .ok (.iload_n 1, 1) := by decide +kernel
theorem dX10_numbers_44 : decode cX10_numbers 44 = .ok (.aaload, 1) := by decide +kernel
theorem dX10_numbers_45 : decode cX10_numbers 45 = .ok (.iconst 1, 1) := by decide +kernel
theorem dX10_numbers_46 : decode cX10_numbers 46 = .ok (.putfield 392, 3) := by decide +kernel
theorem dX10_numbers_49 : decode cX10_numbers 49 = .ok (.aload_n 0, 1) := by decide +kernel
theorem dX10_numbers_50 : decode cX10_numbers 50 = .ok (.getfield 81, 3) := by decide +kernel
theorem dX10_numbers_53 : decode cX10_numbers 53 = .ok (.iload_n 1, 1) := by decide +kernel
theorem dX10_numbers_54 : decode cX10_numbers 54 = .ok (.aaload, 1) := by decide +kernel
theorem dX10_numbers_55 : decode cX10_numbers 55 = .ok (.iload_n 2, 1) := by decide +kernel
theorem dX10_numbers_56 : decode cX10_numbers 56 = .ok (.putfield 442, 3) := by decide +kernel
theorem dX10_numbers_59 : decode cX10_numbers 59 = .ok (.aload_n 0, 1) := by decide +kernel
theorem dX10_numbers_60 : decode cX10_numbers 60 = .ok (.getfield 81, 3) := by decide +kernel
theorem dX10_numbers_63 : decode cX10_numbers 63 = .ok (.iload_n 1, 1) := by decide +kernel
theorem dX10_numbers_64 : decode cX10_numbers 64 = .ok (.aaload, 1) := by decide +kernel
theorem dX10_numbers_65 : decode cX10_numbers 65 = .ok (.iload_n 3, 1) := by decide +kernel
theorem dX10_numbers_66 : decode cX10_numbers 66 = .ok (.putfield 400, 3) := by decide +kernel
theorem dX10_numbers_69 : decode cX10_numbers 69 = .ok (.aload_n 0, 1) := by decide +kernel
theorem dX10_numbers_70 : decode cX10_numbers 70 = .ok (.getfield 81, 3) := by decide +kernel
theorem dX10_numbers_73 : decode cX10_numbers 73 = .ok (.iload_n 1, 1) := by decide +kernel
theorem dX10_numbers_74 : decode cX10_numbers 74 = .ok (.aaload, 1) := by decide +kernel
theorem dX10_numbers_75 : decode cX10_numbers 75 = .ok (.getfield 401, 3) := by decide +kernel
theorem dX10_numbers_78 : decode cX10_numbers 78 = .ok (.lconst 0, 1) := by decide +kernel
theorem dX10_numbers_79 : decode cX10_numbers 79 = .ok (.invokestatic 245, 3) := by decide +kernel
theorem dX10_numbers_82 : decode cX10_numbers 82 = .ok (.iconst 0, 1) := by decide +kernel
theorem dX10_numbers_83 : decode cX10_numbers 83 = .ok (.ireturn, 1) := by decide +kernel
theorem dX10_write_0 : decode cX10_write 0 = .ok (.iload_n 1, 1) := by decide +kernel
theorem dX10_write_1 : decode cX10_write 1 = .ok (.invokestatic 389, 3) := by decide +kernel
theorem dX10_write_4 : decode cX10_write 4 = .ok (.ifCond .ne 11, 3) := by decide +kernel
theorem dX10_write_7 : decode cX10_write 7 = .ok (.aload_n 0, 1) := by decide +kernel
theorem dX10_write_8 : decode cX10_write 8 = .ok (.bipush (-2), 2) := by decide +kernel
theorem dX10_write_10 : decode cX10_write 10 = .ok (.invokevirtual 97, 3) := by decide +kernel
theorem dX10_write_13 : decode cX10_write 13 = .ok (.i2l, 1) := by decide +kernel
theorem dX10_write_14 : decode cX10_write 14 = .ok (.lreturn, 1) := by decide +kernel
theorem dX10_write_15 : decode cX10_write 15 = .ok (.aload_n 0, 1) := by decide +kernel
theorem dX10_write_16 : decode cX10_write 16 = .ok (.getfield 81, 3) := by decide +kernel
theorem dX10_write_19 : decode cX10_write 19 = .ok (.iload_n 1, 1) := by decide +kernel
theorem dX10_write_20 : decode cX10_write 20 = .ok (.aaload, 1) := by decide +kernel
theorem dX10_write_21 : decode cX10_write 21 = .ok (.getfield 392, 3) := by decide +kernel
theorem dX10_write_24 : decode cX10_write 24 = .ok (.ifCond .ne 11, 3) := by decide +kernel
theorem dX10_write_27 : decode cX10_write 27 = .ok (.aload_n 0, 1) := by decide +kernel
theorem dX10_write_28 : decode cX10_write 28 = .ok (.bipush (-6), 2) := by decide +kernel
theorem dX10_write_30 : decode cX10_write 30 = .ok (.invokevirtual 97, 3) := by decide +kernel
theorem dX10_write_33 : decode cX10_write 33 = .ok (.i2l, 1) := by decide +kernel
theorem dX10_write_34 : decode cX10_write 34 = .ok (.lreturn, 1) := by decide +kernel
theorem dX10_write_35 : decode cX10_write 35 = .ok (.iload_n 2, 1) := by decide +kernel
theorem dX10_write_36 : decode cX10_write 36 = .ok (.ifCond .lt 16, 3) := by decide +kernel
theorem dX10_write_39 : decode cX10_write 39 = .ok (.iload_n 2, 1) := by decide +kernel
theorem dX10_write_40 : decode cX10_write 40 = .ok (.aload_n 0, 1) := by decide +kernel
theorem dX10_write_41 : decode cX10_write 41 = .ok (.getfield 81, 3) := by decide +kernel
theorem dX10_write_44 : decode cX10_write 44 = .ok (.iload_n 1, 1) := by decide +kernel
theorem dX10_write_45 : decode cX10_write 45 = .ok (.aaload, 1) := by decide +kernel
theorem dX10_write_46 : decode cX10_write 46 = .ok (.getfield 400, 3) := by decide +kernel
theorem dX10_write_49 : decode cX10_write 49 = .ok (.if_icmp .lt 11, 3) := by decide +kernel
theorem dX10_write_52 : decode cX10_write 52 = .ok (.aload_n 0, 1) := by decide +kernel
theorem dX10_write_53 : decode cX10_write 53 = .ok (.bipush (-7), 2) := by decide +kernel
theorem dX10_write_55 : decode cX10_write 55 = .ok (.invokevirtual 97, 3) := by decide +kernel
theorem dX10_write_58 : decode cX10_write 58 = .ok (.i2l, 1) := by decide +kernel
theorem dX10_write_59 : decode cX10_write 59 = .ok (.lreturn, 1) := by decide +kernel
theorem dX10_write_60 : decode cX10_write 60 = .ok (.aload_n 0, 1) := by decide +kernel
theorem dX10_write_61 : decode cX10_write 61 = .ok (.getfield 81, 3) := by decide +kernel
theorem dX10_write_64 : decode cX10_write 64 = .ok (.iload_n 1, 1) := by decide +kernel
theorem dX10_write_65 : decode cX10_write 65 = .ok (.aaload, 1) := by decide +kernel
theorem dX10_write_66 : decode cX10_write 66 = .ok (.getfield 401, 3) := by decide +kernel
theorem dX10_write_69 : decode cX10_write 69 = .ok (.iload_n 2, 1) := by decide +kernel
theorem dX10_write_70 : decode cX10_write 70 = .ok (.aload_n 0, 1) := by decide +kernel
theorem dX10_write_71 : decode cX10_write 71 = .ok (.getfield 81, 3) := by decide +kernel
theorem dX10_write_74 : decode cX10_write 74 = .ok (.iload_n 1, 1) := by decide +kernel
theorem dX10_write_75 : decode cX10_write 75 = .ok (.aaload, 1) := by decide +kernel
theorem dX10_write_76 : decode cX10_write 76 = .ok (.lload_n 3, 1) := by decide +kernel
theorem dX10_write_77 : decode cX10_write 77 = .ok (.invokevirtual 445, 3) := by decide +kernel
theorem dX10_write_80 : decode cX10_write 80 = .ok (.lastore, 1) := by decide +kernel
theorem dX10_write_81 : decode cX10_write 81 = .ok (.aload_n 0, 1) := by decide +kernel
theorem dX10_write_82 : decode cX10_write 82 = .ok (.getfield 81, 3) := by decide +kernel
theorem dX10_write_85 : decode cX10_write 85 = .ok (.iload_n 1, 1) := by decide +kernel
theorem dX10_write_86 : decode cX10_write 86 = .ok (.aaload, 1) := by decide +kernel
theorem dX10_write_87 : decode cX10_write 87 = .ok (.getfield 401, 3) := by decide +kernel
theorem dX10_write_90 : decode cX10_write 90 = .ok (.iload_n 2, 1) := by decide +kernel
theorem dX10_write_91 : decode cX10_write 91 = .ok (.laload, 1) := by decide +kernel
theorem dX10_write_92 : decode cX10_write 92 = .ok (.lreturn, 1) := by decide +kernel
theorem dX10_image_0 : decode cX10_image 0 = .ok (.iload_n 1, 1) := by decide +kernel
theorem dX10_image_1 : decode cX10_image 1 = .ok (.ifCond .lt 8, 3) := by decide +kernel
theorem dX10_image_4 : decode cX10_image 4 = .ok (.iload_n 1, 1) := by decide +kernel
theorem dX10_image_5 : decode cX10_image 5 = .ok (.iconst 2, 1) := by decide +kernel
theorem dX10_image_6 : decode cX10_image 6 = .ok (.if_icmp .lt 10, 3) := by decide +kernel
theorem dX10_image_9 : decode cX10_image 9 = .ok (.aload_n 0, 1) := by decide +kernel
theorem dX10_image_10 : decode cX10_image 10 = .ok (.bipush (-2), 2) := by decide +kernel
theorem dX10_image_12 : decode cX10_image 12 = .ok (.invokevirtual 97, 3) := by decide +kernel
theorem dX10_image_15 : decode cX10_image 15 = .ok (.ireturn, 1) := by decide +kernel
theorem dX10_image_16 : decode cX10_image 16 = .ok (.aload_n 0, 1) := by decide +kernel
theorem dX10_image_17 : decode cX10_image 17 = .ok (.getfield 27, 3) := by decide +kernel
theorem dX10_image_20 : decode cX10_image 20 = .ok (.iload_n 1, 1) := by decide +kernel
theorem dX10_image_21 : decode cX10_image 21 = .ok (.aaload, 1) := by decide +kernel
theorem dX10_image_22 : decode cX10_image 22 = .ok (.aload_n 0, 1) := by decide +kernel
theorem dX10_image_23 : decode cX10_image 23 = .ok (.getfield 23, 3) := by decide +kernel
theorem dX10_image_26 : decode cX10_image 26 = .ok (.invokevirtual 449, 3) := by decide +kernel
theorem dX10_image_29 : decode cX10_image 29 = .ok (.aload_n 0, 1) := by decide +kernel
theorem dX10_image_30 : decode cX10_image 30 = .ok (.getfield 31, 3) := by decide +kernel
theorem dX10_image_33 : decode cX10_image 33 = .ok (.iload_n 1, 1) := by decide +kernel
theorem dX10_image_34 : decode cX10_image 34 = .ok (.iconst 1, 1) := by decide +kernel
theorem dX10_image_35 : decode cX10_image 35 = .ok (.bastore, 1) := by decide +kernel
theorem dX10_image_36 : decode cX10_image 36 = .ok (.iconst 0, 1) := by decide +kernel
theorem dX10_image_37 : decode cX10_image 37 = .ok (.ireturn, 1) := by decide +kernel
theorem dX10_restore_0 : decode cX10_restore 0 = .ok (.iload_n 1, 1) := by decide +kernel
theorem dX10_restore_1 : decode cX10_restore 1 = .ok (.ifCond .lt 8, 3) := by decide +kernel
theorem dX10_restore_4 : decode cX10_restore 4 = .ok (.iload_n 1, 1) := by decide +kernel
theorem dX10_restore_5 : decode cX10_restore 5 = .ok (.iconst 2, 1) := by decide +kernel
theorem dX10_restore_6 : decode cX10_restore 6 = .ok (.if_icmp .lt 10, 3) := by decide +kernel
theorem dX10_restore_9 : decode cX10_restore 9 = .ok (.aload_n 0, 1) := by decide +kernel
theorem dX10_restore_10 : decode cX10_restore 10 = .ok (.bipush (-2), 2) := by decide +kernel
theorem dX10_restore_12 : decode cX10_restore 12 = .ok (.invokevirtual 97, 3) := by decide +kernel
theorem dX10_restore_15 : decode cX10_restore 15 = .ok (.ireturn, 1) := by decide +kernel
theorem dX10_restore_16 : decode cX10_restore 16 = .ok (.aload_n 0, 1) := by decide +kernel
theorem dX10_restore_17 : decode cX10_restore 17 = .ok (.getfield 31, 3) := by decide +kernel
theorem dX10_restore_20 : decode cX10_restore 20 = .ok (.iload_n 1, 1) := by decide +kernel
theorem dX10_restore_21 : decode cX10_restore 21 = .ok (.baload, 1) := by decide +kernel
theorem dX10_restore_22 : decode cX10_restore 22 = .ok (.ifCond .ne 10, 3) := by decide +kernel
theorem dX10_restore_25 : decode cX10_restore 25 = .ok (.aload_n 0, 1) := by decide +kernel
theorem dX10_restore_26 : decode cX10_restore 26 = .ok (.bipush (-5), 2) := by decide +kernel
theorem dX10_restore_28 : decode cX10_restore 28 = .ok (.invokevirtual 97, 3) := by decide +kernel
theorem dX10_restore_31 : decode cX10_restore 31 = .ok (.ireturn, 1) := by decide +kernel
theorem dX10_restore_32 : decode cX10_restore 32 = .ok (.aload_n 0, 1) := by decide +kernel
theorem dX10_restore_33 : decode cX10_restore 33 = .ok (.getfield 23, 3) := by decide +kernel
theorem dX10_restore_36 : decode cX10_restore 36 = .ok (.aload_n 0, 1) := by decide +kernel
theorem dX10_restore_37 : decode cX10_restore 37 = .ok (.getfield 27, 3) := by decide +kernel
theorem dX10_restore_40 : decode cX10_restore 40 = .ok (.iload_n 1, 1) := by decide +kernel
theorem dX10_restore_41 : decode cX10_restore 41 = .ok (.aaload, 1) := by decide +kernel
theorem dX10_restore_42 : decode cX10_restore 42 = .ok (.invokevirtual 449, 3) := by decide +kernel
theorem dX10_restore_45 : decode cX10_restore 45 = .ok (.aload_n 0, 1) := by decide +kernel
theorem dX10_restore_46 : decode cX10_restore 46 = .ok (.iconst 0, 1) := by decide +kernel
theorem dX10_restore_47 : decode cX10_restore 47 = .ok (.putfield 115, 3) := by decide +kernel
theorem dX10_restore_50 : decode cX10_restore 50 = .ok (.aload_n 0, 1) := by decide +kernel
theorem dX10_restore_51 : decode cX10_restore 51 = .ok (.getfield 75, 3) := by decide +kernel
theorem dX10_restore_54 : decode cX10_restore 54 = .ok (.iconst (-1), 1) := by decide +kernel
theorem dX10_restore_55 : decode cX10_restore 55 = .ok (.putfield 306, 3) := by decide +kernel
theorem dX10_restore_58 : decode cX10_restore 58 = .ok (.iconst 0, 1) := by decide +kernel
theorem dX10_restore_59 : decode cX10_restore 59 = .ok (.ireturn, 1) := by decide +kernel
theorem dX10_status_0 : decode cX10_status 0 = .ok (.iload_n 1, 1) := by decide +kernel
theorem dX10_status_1 : decode cX10_status 1 = .ok (.ifCond .lt 21, 3) := by decide +kernel
theorem dX10_status_4 : decode cX10_status 4 = .ok (.iload_n 1, 1) := by decide +kernel
theorem dX10_status_5 : decode cX10_status 5 = .ok (.aload_n 0, 1) := by decide +kernel
theorem dX10_status_6 : decode cX10_status 6 = .ok (.getfield 89, 3) := by decide +kernel
theorem dX10_status_9 : decode cX10_status 9 = .ok (.arraylength, 1) := by decide +kernel
theorem dX10_status_10 : decode cX10_status 10 = .ok (.if_icmp .ge 12, 3) := by decide +kernel
theorem dX10_status_13 : decode cX10_status 13 = .ok (.aload_n 0, 1) := by decide +kernel
theorem dX10_status_14 : decode cX10_status 14 = .ok (.getfield 89, 3) := by decide +kernel
theorem dX10_status_17 : decode cX10_status 17 = .ok (.iload_n 1, 1) := by decide +kernel
theorem dX10_status_18 : decode cX10_status 18 = .ok (.iaload, 1) := by decide +kernel
theorem dX10_status_19 : decode cX10_status 19 = .ok (.goto 4, 3) := by decide +kernel
theorem dX10_status_22 : decode cX10_status 22 = .ok (.iconst (-1), 1) := by decide +kernel
theorem dX10_status_23 : decode cX10_status 23 = .ok (.ireturn, 1) := by decide +kernel
theorem dX10_count_0 : decode cX10_count 0 = .ok (.aload_n 0, 1) := by decide +kernel
theorem dX10_count_1 : decode cX10_count 1 = .ok (.getfield 23, 3) := by decide +kernel
theorem dX10_count_4 : decode cX10_count 4 = .ok (.getfield 37, 3) := by decide +kernel
theorem dX10_count_7 : decode cX10_count 7 = .ok (.astore_n 2, 1) := by decide +kernel
theorem dX10_count_8 : decode cX10_count 8 = .ok (.iload_n 1, 1) := by decide +kernel
theorem dX10_count_9 : decode cX10_count 9 = .ok (.tableswitch 126 0 10 #[59, 64, 69, 74, 79, 84, 89, 94, 105, 116, 121], 59) := by decide +kernel
theorem dX10_count_68 : decode cX10_count 68 = .ok (.aload_n 2, 1) := by decide +kernel
theorem dX10_count_69 : decode cX10_count 69 = .ok (.getfield 452, 3) := by decide +kernel
theorem dX10_count_72 : decode cX10_count 72 = .ok (.ireturn, 1) := by decide +kernel
theorem dX10_count_73 : decode cX10_count 73 = .ok (.aload_n 2, 1) := by decide +kernel
theorem dX10_count_74 : decode cX10_count 74 = .ok (.getfield 455, 3) := by decide +kernel
theorem dX10_count_77 : decode cX10_count 77 = .ok (.ireturn, 1) := by decide +kernel
theorem dX10_count_78 : decode cX10_count 78 = .ok (.aload_n 2, 1) := by decide +kernel
theorem dX10_count_79 : decode cX10_count 79 = .ok (.getfield 153, 3) := by decide +kernel
theorem dX10_count_82 : decode cX10_count 82 = .ok (.ireturn, 1) := by decide +kernel
theorem dX10_count_83 : decode cX10_count 83 = .ok (.aload_n 2, 1) := by decide +kernel
theorem dX10_count_84 : decode cX10_count 84 = .ok (.getfield 256, 3) := by decide +kernel
theorem dX10_count_87 : decode cX10_count 87 = .ok (.ireturn, 1) := by decide +kernel
theorem dX10_count_88 : decode cX10_count 88 = .ok (.aload_n 2, 1) := by decide +kernel
theorem dX10_count_89 : decode cX10_count 89 = .ok (.getfield 458, 3) := by decide +kernel
theorem dX10_count_92 : decode cX10_count 92 = .ok (.ireturn, 1) := by decide +kernel
theorem dX10_count_93 : decode cX10_count 93 = .ok (.aload_n 2, 1) := by decide +kernel
theorem dX10_count_94 : decode cX10_count 94 = .ok (.getfield 461, 3) := by decide +kernel
theorem dX10_count_97 : decode cX10_count 97 = .ok (.ireturn, 1) := by decide +kernel
theorem dX10_count_98 : decode cX10_count 98 = .ok (.aload_n 2, 1) := by decide +kernel
theorem dX10_count_99 : decode cX10_count 99 = .ok (.getfield 464, 3) := by decide +kernel
theorem dX10_count_102 : decode cX10_count 102 = .ok (.ireturn, 1) := by decide +kernel
theorem dX10_count_103 : decode cX10_count 103 = .ok (.aload_n 0, 1) := by decide +kernel
theorem dX10_count_104 : decode cX10_count 104 = .ok (.getfield 23, 3) := by decide +kernel
theorem dX10_count_107 : decode cX10_count 107 = .ok (.getfield 41, 3) := by decide +kernel
theorem dX10_count_110 : decode cX10_count 110 = .ok (.getfield 133, 3) := by decide +kernel
theorem dX10_count_113 : decode cX10_count 113 = .ok (.ireturn, 1) := by decide +kernel
theorem dX10_count_114 : decode cX10_count 114 = .ok (.aload_n 0, 1) := by decide +kernel
theorem dX10_count_115 : decode cX10_count 115 = .ok (.getfield 23, 3) := by decide +kernel
theorem dX10_count_118 : decode cX10_count 118 = .ok (.getfield 293, 3) := by decide +kernel
theorem dX10_count_121 : decode cX10_count 121 = .ok (.getfield 297, 3) := by decide +kernel
theorem dX10_count_124 : decode cX10_count 124 = .ok (.ireturn, 1) := by decide +kernel
theorem dX10_count_125 : decode cX10_count 125 = .ok (.aload_n 0, 1) := by decide +kernel
theorem dX10_count_126 : decode cX10_count 126 = .ok (.getfield 93, 3) := by decide +kernel
theorem dX10_count_129 : decode cX10_count 129 = .ok (.ireturn, 1) := by decide +kernel
theorem dX10_count_130 : decode cX10_count 130 = .ok (.aload_n 2, 1) := by decide +kernel
theorem dX10_count_131 : decode cX10_count 131 = .ok (.getfield 124, 3) := by decide +kernel
theorem dX10_count_134 : decode cX10_count 134 = .ok (.ireturn, 1) := by decide +kernel
theorem dX10_count_135 : decode cX10_count 135 = .ok (.iconst (-1), 1) := by decide +kernel
theorem dX10_count_136 : decode cX10_count 136 = .ok (.ireturn, 1) := by decide +kernel
theorem dX10_refuse_0 : decode cX10_refuse 0 = .ok (.iload_n 1, 1) := by decide +kernel
theorem dX10_refuse_1 : decode cX10_refuse 1 = .ok (.tableswitch 104 (-7) (-2) #[91, 78, 65, 104, 52, 39], 39) := by decide +kernel
theorem dX10_refuse_40 : decode cX10_refuse 40 = .ok (.aload_n 0, 1) := by decide +kernel
theorem dX10_refuse_41 : decode cX10_refuse 41 = .ok (.getfield 89, 3) := by decide +kernel
theorem dX10_refuse_44 : decode cX10_refuse 44 = .ok (.iconst 0, 1) := by decide +kernel
theorem dX10_refuse_45 : decode cX10_refuse 45 = .ok (.dup2, 1) := by decide +kernel
theorem dX10_refuse_46 : decode cX10_refuse 46 = .ok (.iaload, 1) := by decide +kernel
theorem dX10_refuse_47 : decode cX10_refuse 47 = .ok (.iconst 1, 1) := by decide +kernel
theorem dX10_refuse_48 : decode cX10_refuse 48 = .ok (.iadd, 1) := by decide +kernel
theorem dX10_refuse_49 : decode cX10_refuse 49 = .ok (.iastore, 1) := by decide +kernel
theorem dX10_refuse_50 : decode cX10_refuse 50 = .ok (.goto 65, 3) := by decide +kernel
theorem dX10_refuse_53 : decode cX10_refuse 53 = .ok (.aload_n 0, 1) := by decide +kernel
theorem dX10_refuse_54 : decode cX10_refuse 54 = .ok (.getfield 89, 3) := by decide +kernel
theorem dX10_refuse_57 : decode cX10_refuse 57 = .ok (.iconst 1, 1) := by decide +kernel
theorem dX10_refuse_58 : decode cX10_refuse 58 = .ok (.dup2, 1) := by decide +kernel
theorem dX10_refuse_59 : decode cX10_refuse 59 = .ok (.iaload, 1) := by decide +kernel
theorem dX10_refuse_60 : decode cX10_refuse 60 = .ok (.iconst 1, 1) := by decide +kernel
theorem dX10_refuse_61 : decode cX10_refuse 61 = .ok (.iadd, 1) := by decide +kernel
theorem dX10_refuse_62 : decode cX10_refuse 62 = .ok (.iastore, 1) := by decide +kernel
theorem dX10_refuse_63 : decode cX10_refuse 63 = .ok (.goto 52, 3) := by decide +kernel
theorem dX10_refuse_66 : decode cX10_refuse 66 = .ok (.aload_n 0, 1) := by decide +kernel
theorem dX10_refuse_67 : decode cX10_refuse 67 = .ok (.getfield 89, 3) := by decide +kernel
theorem dX10_refuse_70 : decode cX10_refuse 70 = .ok (.iconst 2, 1) := by decide +kernel
theorem dX10_refuse_71 : decode cX10_refuse 71 = .ok (.dup2, 1) := by decide +kernel
theorem dX10_refuse_72 : decode cX10_refuse 72 = .ok (.iaload, 1) := by decide +kernel
theorem dX10_refuse_73 : decode cX10_refuse 73 = .ok (.iconst 1, 1) := by decide +kernel
theorem dX10_refuse_74 : decode cX10_refuse 74 = .ok (.iadd, 1) := by decide +kernel
theorem dX10_refuse_75 : decode cX10_refuse 75 = .ok (.iastore, 1) := by decide +kernel
theorem dX10_refuse_76 : decode cX10_refuse 76 = .ok (.goto 39, 3) := by decide +kernel
theorem dX10_refuse_79 : decode cX10_refuse 79 = .ok (.aload_n 0, 1) := by decide +kernel
theorem dX10_refuse_80 : decode cX10_refuse 80 = .ok (.getfield 89, 3) := by decide +kernel
theorem dX10_refuse_83 : decode cX10_refuse 83 = .ok (.iconst 3, 1) := by decide +kernel
theorem dX10_refuse_84 : decode cX10_refuse 84 = .ok (.dup2, 1) := by decide +kernel
theorem dX10_refuse_85 : decode cX10_refuse 85 = .ok (.iaload, 1) := by decide +kernel
theorem dX10_refuse_86 : decode cX10_refuse 86 = .ok (.iconst 1, 1) := by decide +kernel
theorem dX10_refuse_87 : decode cX10_refuse 87 = .ok (.iadd, 1) := by decide +kernel
theorem dX10_refuse_88 : decode cX10_refuse 88 = .ok (.iastore, 1) := by decide +kernel
theorem dX10_refuse_89 : decode cX10_refuse 89 = .ok (.goto 26, 3) := by decide +kernel
theorem dX10_refuse_92 : decode cX10_refuse 92 = .ok (.aload_n 0, 1) := by decide +kernel
theorem dX10_refuse_93 : decode cX10_refuse 93 = .ok (.getfield 89, 3) := by decide +kernel
theorem dX10_refuse_96 : decode cX10_refuse 96 = .ok (.iconst 4, 1) := by decide +kernel
theorem dX10_refuse_97 : decode cX10_refuse 97 = .ok (.dup2, 1) := by decide +kernel
theorem dX10_refuse_98 : decode cX10_refuse 98 = .ok (.iaload, 1) := by decide +kernel
theorem dX10_refuse_99 : decode cX10_refuse 99 = .ok (.iconst 1, 1) := by decide +kernel
theorem dX10_refuse_100 : decode cX10_refuse 100 = .ok (.iadd, 1) := by decide +kernel
theorem dX10_refuse_101 : decode cX10_refuse 101 = .ok (.iastore, 1) := by decide +kernel
theorem dX10_refuse_102 : decode cX10_refuse 102 = .ok (.goto 13, 3) := by decide +kernel
theorem dX10_refuse_105 : decode cX10_refuse 105 = .ok (.aload_n 0, 1) := by decide +kernel
theorem dX10_refuse_106 : decode cX10_refuse 106 = .ok (.getfield 89, 3) := by decide +kernel
theorem dX10_refuse_109 : decode cX10_refuse 109 = .ok (.iconst 5, 1) := by decide +kernel
theorem dX10_refuse_110 : decode cX10_refuse 110 = .ok (.dup2, 1) := by decide +kernel
theorem dX10_refuse_111 : decode cX10_refuse 111 = .ok (.iaload, 1) := by decide +kernel
theorem dX10_refuse_112 : decode cX10_refuse 112 = .ok (.iconst 1, 1) := by decide +kernel
theorem dX10_refuse_113 : decode cX10_refuse 113 = .ok (.iadd, 1) := by decide +kernel
theorem dX10_refuse_114 : decode cX10_refuse 114 = .ok (.iastore, 1) := by decide +kernel
theorem dX10_refuse_115 : decode cX10_refuse 115 = .ok (.iload_n 1, 1) := by decide +kernel
theorem dX10_refuse_116 : decode cX10_refuse 116 = .ok (.ireturn, 1) := by decide +kernel
theorem dX10_refuseAs_0 : decode cX10_refuseAs 0 = .ok (.aload_n 0, 1) := by decide +kernel
theorem dX10_refuseAs_1 : decode cX10_refuseAs 1 = .ok (.getfield 89, 3) := by decide +kernel
theorem dX10_refuseAs_4 : decode cX10_refuseAs 4 = .ok (.iconst 0, 1) := by decide +kernel
theorem dX10_refuseAs_5 : decode cX10_refuseAs 5 = .ok (.dup2, 1) := by decide +kernel
theorem dX10_refuseAs_6 : decode cX10_refuseAs 6 = .ok (.iaload, 1) := by decide +kernel
theorem dX10_refuseAs_7 : decode cX10_refuseAs 7 = .ok (.iconst 1, 1) := by decide +kernel
theorem dX10_refuseAs_8 : decode cX10_refuseAs 8 = .ok (.iadd, 1) := by decide +kernel
theorem dX10_refuseAs_9 : decode cX10_refuseAs 9 = .ok (.iastore, 1) := by decide +kernel
theorem dX10_refuseAs_10 : decode cX10_refuseAs 10 = .ok (.iload_n 1, 1) := by decide +kernel
theorem dX10_refuseAs_11 : decode cX10_refuseAs 11 = .ok (.ireturn, 1) := by decide +kernel
theorem dX10_putOnTape_0 : decode cX10_putOnTape 0 = .ok (.bipush 24, 2) := by decide +kernel
theorem dX10_putOnTape_2 : decode cX10_putOnTape 2 = .ok (.istore_n 2, 1) := by decide +kernel
theorem dX10_putOnTape_3 : decode cX10_putOnTape 3 = .ok (.iload_n 2, 1) := by decide +kernel
theorem dX10_putOnTape_4 : decode cX10_putOnTape 4 = .ok (.ifCond .lt 42, 3) := by decide +kernel
theorem dX10_putOnTape_7 : decode cX10_putOnTape 7 = .ok (.aload_n 0, 1) := by decide +kernel
theorem dX10_putOnTape_8 : decode cX10_putOnTape 8 = .ok (.getfield 93, 3) := by decide +kernel
theorem dX10_putOnTape_11 : decode cX10_putOnTape 11 = .ok (.sipush 400, 3) := by decide +kernel
theorem dX10_putOnTape_14 : decode cX10_putOnTape 14 = .ok (.if_icmp .ge 32, 3) := by decide +kernel
theorem dX10_putOnTape_17 : decode cX10_putOnTape 17 = .ok (.aload_n 0, 1) := by decide +kernel
theorem dX10_putOnTape_18 : decode cX10_putOnTape 18 = .ok (.getfield 9, 3) := by decide +kernel
theorem dX10_putOnTape_21 : decode cX10_putOnTape 21 = .ok (.aload_n 0, 1) := by decide +kernel
theorem dX10_putOnTape_22 : decode cX10_putOnTape 22 = .ok (.getfield 93, 3) := by decide +kernel
theorem dX10_putOnTape_25 : decode cX10_putOnTape 25 = .ok (.iload_n 1, 1) := by decide +kernel
theorem dX10_putOnTape_26 : decode cX10_putOnTape 26 = .ok (.iload_n 2, 1) := by decide +kernel
theorem dX10_putOnTape_27 : decode cX10_putOnTape 27 = .ok (.ishr, 1) := by decide +kernel
theorem dX10_putOnTape_28 : decode cX10_putOnTape 28 = .ok (.i2b, 1) := by decide +kernel
theorem dX10_putOnTape_29 : decode cX10_putOnTape 29 = .ok (.bastore, 1) := by decide +kernel
theorem dX10_putOnTape_30 : decode cX10_putOnTape 30 = .ok (.aload_n 0, 1) := by decide +kernel
theorem dX10_putOnTape_31 : decode cX10_putOnTape 31 = .ok (.dup, 1) := by decide +kernel
theorem dX10_putOnTape_32 : decode cX10_putOnTape 32 = .ok (.getfield 93, 3) := by decide +kernel
theorem dX10_putOnTape_35 : decode cX10_putOnTape 35 = .ok (.iconst 1, 1) := by decide +kernel
theorem dX10_putOnTape_36 : decode cX10_putOnTape 36 = .ok (.iadd, 1) := by decide +kernel
theorem dX10_putOnTape_37 : decode cX10_putOnTape 37 = .ok (.putfield 93, 3) := by decide +kernel
theorem dX10_putOnTape_40 : decode cX10_putOnTape 40 = .ok (.iinc 2 (-8), 3) := by decide +kernel
theorem dX10_putOnTape_43 : decode cX10_putOnTape 43 = .ok (.goto (-40), 3) := by decide +kernel
theorem dX10_putOnTape_46 : decode cX10_putOnTape 46 = .ok (.return_, 1) := by decide +kernel
theorem dX10_isCar_0 : decode cX10_isCar 0 = .ok (.iload_n 1, 1) := by decide +kernel
theorem dX10_isCar_1 : decode cX10_isCar 1 = .ok (.ifCond .lt 21, 3) := by decide +kernel
theorem dX10_isCar_4 : decode cX10_isCar 4 = .ok (.iload_n 1, 1) := by decide +kernel
theorem dX10_isCar_5 : decode cX10_isCar 5 = .ok (.aload_n 0, 1) := by decide +kernel
theorem dX10_isCar_6 : decode cX10_isCar 6 = .ok (.getfield 23, 3) := by decide +kernel
theorem dX10_isCar_9 : decode cX10_isCar 9 = .ok (.getfield 37, 3) := by decide +kernel
theorem dX10_isCar_12 : decode cX10_isCar 12 = .ok (.getfield 455, 3) := by decide +kernel
theorem dX10_isCar_15 : decode cX10_isCar 15 = .ok (.if_icmp .ge 7, 3) := by decide +kernel
theorem dX10_isCar_18 : decode cX10_isCar 18 = .ok (.iconst 1, 1) := by decide +kernel
theorem dX10_isCar_19 : decode cX10_isCar 19 = .ok (.goto 4, 3) := by decide +kernel
theorem dX10_isCar_22 : decode cX10_isCar 22 = .ok (.iconst 0, 1) := by decide +kernel
theorem dX10_isCar_23 : decode cX10_isCar 23 = .ok (.ireturn, 1) := by decide +kernel
theorem dX10_isPlace_0 : decode cX10_isPlace 0 = .ok (.iload_n 1, 1) := by decide +kernel
theorem dX10_isPlace_1 : decode cX10_isPlace 1 = .ok (.ifCond .lt 21, 3) := by decide +kernel
theorem dX10_isPlace_4 : decode cX10_isPlace 4 = .ok (.iload_n 1, 1) := by decide +kernel
theorem dX10_isPlace_5 : decode cX10_isPlace 5 = .ok (.aload_n 0, 1) := by decide +kernel
theorem dX10_isPlace_6 : decode cX10_isPlace 6 = .ok (.getfield 23, 3) := by decide +kernel
theorem dX10_isPlace_9 : decode cX10_isPlace 9 = .ok (.getfield 293, 3) := by decide +kernel
theorem dX10_isPlace_12 : decode cX10_isPlace 12 = .ok (.getfield 297, 3) := by decide +kernel
theorem dX10_isPlace_15 : decode cX10_isPlace 15 = .ok (.if_icmp .ge 7, 3) := by decide +kernel
theorem dX10_isPlace_18 : decode cX10_isPlace 18 = .ok (.iconst 1, 1) := by decide +kernel
theorem dX10_isPlace_19 : decode cX10_isPlace 19 = .ok (.goto 4, 3) := by decide +kernel
theorem dX10_isPlace_22 : decode cX10_isPlace 22 = .ok (.iconst 0, 1) := by decide +kernel
theorem dX10_isPlace_23 : decode cX10_isPlace 23 = .ok (.ireturn, 1) := by decide +kernel
theorem dX10_isRow_0 : decode cX10_isRow 0 = .ok (.iload_n 0, 1) := by decide +kernel
theorem dX10_isRow_1 : decode cX10_isRow 1 = .ok (.ifCond .lt 12, 3) := by decide +kernel
theorem dX10_isRow_4 : decode cX10_isRow 4 = .ok (.iload_n 0, 1) := by decide +kernel
theorem dX10_isRow_5 : decode cX10_isRow 5 = .ok (.iconst 4, 1) := by decide +kernel
theorem dX10_isRow_6 : decode cX10_isRow 6 = .ok (.if_icmp .ge 7, 3) := by decide +kernel
theorem dX10_isRow_9 : decode cX10_isRow 9 = .ok (.iconst 1, 1) := by decide +kernel
theorem dX10_isRow_10 : decode cX10_isRow 10 = .ok (.goto 4, 3) := by decide +kernel
theorem dX10_isRow_13 : decode cX10_isRow 13 = .ok (.iconst 0, 1) := by decide +kernel
theorem dX10_isRow_14 : decode cX10_isRow 14 = .ok (.ireturn, 1) := by decide +kernel
theorem dX10_isWithin_0 : decode cX10_isWithin 0 = .ok (.iload_n 0, 1) := by decide +kernel
theorem dX10_isWithin_1 : decode cX10_isWithin 1 = .ok (.ifCond .lt 12, 3) := by decide +kernel
theorem dX10_isWithin_4 : decode cX10_isWithin 4 = .ok (.iload_n 0, 1) := by decide +kernel
theorem dX10_isWithin_5 : decode cX10_isWithin 5 = .ok (.iload_n 1, 1) := by decide +kernel
theorem dX10_isWithin_6 : decode cX10_isWithin 6 = .ok (.if_icmp .gt 7, 3) := by decide +kernel
theorem dX10_isWithin_9 : decode cX10_isWithin 9 = .ok (.iconst 1, 1) := by decide +kernel
theorem dX10_isWithin_10 : decode cX10_isWithin 10 = .ok (.goto 4, 3) := by decide +kernel
theorem dX10_isWithin_13 : decode cX10_isWithin 13 = .ok (.iconst 0, 1) := by decide +kernel
theorem dX10_isWithin_14 : decode cX10_isWithin 14 = .ok (.ireturn, 1) := by decide +kernel
theorem dX10_isFine_0 : decode cX10_isFine 0 = .ok (.iload_n 0, 1) := by decide +kernel
theorem dX10_isFine_1 : decode cX10_isFine 1 = .ok (.sipush 1000, 3) := by decide +kernel
theorem dX10_isFine_4 : decode cX10_isFine 4 = .ok (.invokestatic 302, 3) := by decide +kernel
theorem dX10_isFine_7 : decode cX10_isFine 7 = .ok (.ifCond .eq 26, 3) := by decide +kernel
theorem dX10_isFine_10 : decode cX10_isFine 10 = .ok (.iload_n 1, 1) := by decide +kernel
theorem dX10_isFine_11 : decode cX10_isFine 11 = .ok (.sipush 1000, 3) := by decide +kernel
theorem dX10_isFine_14 : decode cX10_isFine 14 = .ok (.invokestatic 302, 3) := by decide +kernel
theorem dX10_isFine_17 : decode cX10_isFine 17 = .ok (.ifCond .eq 16, 3) := by decide +kernel
theorem dX10_isFine_20 : decode cX10_isFine 20 = .ok (.iload_n 2, 1) := by decide +kernel
theorem dX10_isFine_21 : decode cX10_isFine 21 = .ok (.bipush 100, 2) := by decide +kernel
theorem dX10_isFine_23 : decode cX10_isFine 23 = .ok (.invokestatic 302, 3) := by decide +kernel
theorem dX10_isFine_26 : decode cX10_isFine 26 = .ok (.ifCond .eq 7, 3) := by decide +kernel
theorem dX10_isFine_29 : decode cX10_isFine 29 = .ok (.iconst 1, 1) := by decide +kernel
theorem dX10_isFine_30 : decode cX10_isFine 30 = .ok (.goto 4, 3) := by decide +kernel
theorem dX10_isFine_33 : decode cX10_isFine 33 = .ok (.iconst 0, 1) := by decide +kernel
theorem dX10_isFine_34 : decode cX10_isFine 34 = .ok (.ireturn, 1) := by decide +kernel
theorem dX10_leastOf_0 : decode cX10_leastOf 0 = .ok (.iload_n 0, 1) := by decide +kernel
theorem dX10_leastOf_1 : decode cX10_leastOf 1 = .ok (.iconst 3, 1) := by decide +kernel
theorem dX10_leastOf_2 : decode cX10_leastOf 2 = .ok (.if_icmp .ne 7, 3) := by decide +kernel
theorem dX10_leastOf_5 : decode cX10_leastOf 5 = .ok (.iconst 1, 1) := by decide +kernel
theorem dX10_leastOf_6 : decode cX10_leastOf 6 = .ok (.goto 4, 3) := by decide +kernel
theorem dX10_leastOf_9 : decode cX10_leastOf 9 = .ok (.iconst 0, 1) := by decide +kernel
theorem dX10_leastOf_10 : decode cX10_leastOf 10 = .ok (.ireturn, 1) := by decide +kernel
theorem dX10_mostOf_0 : decode cX10_mostOf 0 = .ok (.iload_n 0, 1) := by decide +kernel
theorem dX10_mostOf_1 : decode cX10_mostOf 1 = .ok (.tableswitch 36 0 2 #[27, 30, 33], 27) := by decide +kernel
theorem dX10_mostOf_28 : decode cX10_mostOf 28 = .ok (.bipush 30, 2) := by decide +kernel
theorem dX10_mostOf_30 : decode cX10_mostOf 30 = .ok (.ireturn, 1) := by decide +kernel
theorem dX10_mostOf_31 : decode cX10_mostOf 31 = .ok (.bipush 20, 2) := by decide +kernel
theorem dX10_mostOf_33 : decode cX10_mostOf 33 = .ok (.ireturn, 1) := by decide +kernel
theorem dX10_mostOf_34 : decode cX10_mostOf 34 = .ok (.bipush 60, 2) := by decide +kernel
theorem dX10_mostOf_36 : decode cX10_mostOf 36 = .ok (.ireturn, 1) := by decide +kernel
theorem dX10_mostOf_37 : decode cX10_mostOf 37 = .ok (.sipush 200, 3) := by decide +kernel
theorem dX10_mostOf_40 : decode cX10_mostOf 40 = .ok (.ireturn, 1) := by decide +kernel
theorem dX10_play_0 : decode cX10_play 0 = .ok (.aload_n 0, 1) := by decide +kernel
theorem dX10_play_1 : decode cX10_play 1 = .ok (.getfield 48, 3) := by decide +kernel
theorem dX10_play_4 : decode cX10_play 4 = .ok (.getfield 278, 3) := by decide +kernel
theorem dX10_play_7 : decode cX10_play 7 = .ok (.iload_n 1, 1) := by decide +kernel
theorem dX10_play_8 : decode cX10_play 8 = .ok (.invokevirtual 282, 3) := by decide +kernel
theorem dX10_play_11 : decode cX10_play 11 = .ok (.aload_n 0, 1) := by decide +kernel
theorem dX10_play_12 : decode cX10_play 12 = .ok (.getfield 48, 3) := by decide +kernel
theorem dX10_play_15 : decode cX10_play 15 = .ok (.aload_n 0, 1) := by decide +kernel
theorem dX10_play_16 : decode cX10_play 16 = .ok (.getfield 23, 3) := by decide +kernel
theorem dX10_play_19 : decode cX10_play 19 = .ok (.getfield 37, 3) := by decide +kernel
theorem dX10_play_22 : decode cX10_play 22 = .ok (.iconst (-1), 1) := by decide +kernel
theorem dX10_play_23 : decode cX10_play 23 = .ok (.invokevirtual 166, 3) := by decide +kernel
theorem dX10_play_26 : decode cX10_play 26 = .ok (.iconst 0, 1) := by decide +kernel
theorem dX10_play_27 : decode cX10_play 27 = .ok (.istore_n 3, 1) := by decide +kernel
theorem dX10_play_28 : decode cX10_play 28 = .ok (.iload_n 3, 1) := by decide +kernel
theorem dX10_play_29 : decode cX10_play 29 = .ok (.iload_n 2, 1) := by decide +kernel
theorem dX10_play_30 : decode cX10_play 30 = .ok (.if_icmp .ge 26, 3) := by decide +kernel
theorem dX10_play_33 : decode cX10_play 33 = .ok (.aload_n 0, 1) := by decide +kernel
theorem dX10_play_34 : decode cX10_play 34 = .ok (.getfield 48, 3) := by decide +kernel
theorem dX10_play_37 : decode cX10_play 37 = .ok (.getfield 180, 3) := by decide +kernel
theorem dX10_play_40 : decode cX10_play 40 = .ok (.ifCond .ne 16, 3) := by decide +kernel
theorem dX10_play_43 : decode cX10_play 43 = .ok (.aload_n 0, 1) := by decide +kernel
theorem dX10_play_44 : decode cX10_play 44 = .ok (.getfield 48, 3) := by decide +kernel
theorem dX10_play_47 : decode cX10_play 47 = .ok (.invokevirtual 287, 3) := by decide +kernel
theorem dX10_play_50 : decode cX10_play 50 = .ok (.iinc 3 1, 3) := by decide +kernel
theorem dX10_play_53 : decode cX10_play 53 = .ok (.goto (-25), 3) := by decide +kernel
theorem dX10_play_56 : decode cX10_play 56 = .ok (.return_, 1) := by decide +kernel
theorem dX10_weighNow_0 : decode cX10_weighNow 0 = .ok (.aload_n 0, 1) := by decide +kernel
theorem dX10_weighNow_1 : decode cX10_weighNow 1 = .ok (.getfield 115, 3) := by decide +kernel
theorem dX10_weighNow_4 : decode cX10_weighNow 4 = .ok (.ifCond .ne 27, 3) := by decide +kernel
theorem dX10_weighNow_7 : decode cX10_weighNow 7 = .ok (.aload_n 0, 1) := by decide +kernel
theorem dX10_weighNow_8 : decode cX10_weighNow 8 = .ok (.getfield 55, 3) := by decide +kernel
theorem dX10_weighNow_11 : decode cX10_weighNow 11 = .ok (.aload_n 0, 1) := by decide +kernel
theorem dX10_weighNow_12 : decode cX10_weighNow 12 = .ok (.getfield 48, 3) := by decide +kernel
theorem dX10_weighNow_15 : decode cX10_weighNow 15 = .ok (.aload_n 0, 1) := by decide +kernel
theorem dX10_weighNow_16 : decode cX10_weighNow 16 = .ok (.getfield 23, 3) := by decide +kernel
theorem dX10_weighNow_19 : decode cX10_weighNow 19 = .ok (.getfield 37, 3) := by decide +kernel
theorem dX10_weighNow_22 : decode cX10_weighNow 22 = .ok (.iconst (-1), 1) := by decide +kernel
theorem dX10_weighNow_23 : decode cX10_weighNow 23 = .ok (.invokevirtual 236, 3) := by decide +kernel
theorem dX10_weighNow_26 : decode cX10_weighNow 26 = .ok (.aload_n 0, 1) := by decide +kernel
theorem dX10_weighNow_27 : decode cX10_weighNow 27 = .ok (.iconst 1, 1) := by decide +kernel
theorem dX10_weighNow_28 : decode cX10_weighNow 28 = .ok (.putfield 115, 3) := by decide +kernel
theorem dX10_weighNow_31 : decode cX10_weighNow 31 = .ok (.return_, 1) := by decide +kernel
theorem dX10_commonDivisor_0 : decode cX10_commonDivisor 0 = .ok (.lload_n 0, 1) := by decide +kernel
theorem dX10_commonDivisor_1 : decode cX10_commonDivisor 1 = .ok (.lstore 4, 2) := by decide +kernel
theorem dX10_commonDivisor_3 : decode cX10_commonDivisor 3 = .ok (.lload_n 2, 1) := by decide +kernel
theorem dX10_commonDivisor_4 : decode cX10_commonDivisor 4 = .ok (.lstore 6, 2) := by decide +kernel
theorem dX10_commonDivisor_6 : decode cX10_commonDivisor 6 = .ok (.iconst 0, 1) := by decide +kernel
theorem dX10_commonDivisor_7 : decode cX10_commonDivisor 7 = .ok (.istore 8, 2) := by decide +kernel
theorem dX10_commonDivisor_9 : decode cX10_commonDivisor 9 = .ok (.iload 8, 2) := by decide +kernel
theorem dX10_commonDivisor_11 : decode cX10_commonDivisor 11 = .ok (.sipush 200, 3) := by decide +kernel
theorem dX10_commonDivisor_14 : decode cX10_commonDivisor 14 = .ok (.if_icmp .ge 31, 3) := by decide +kernel
theorem dX10_commonDivisor_17 : decode cX10_commonDivisor 17 = .ok (.lload 6, 2) := by decide +kernel
theorem dX10_commonDivisor_19 : decode cX10_commonDivisor 19 = .ok (.lconst 0, 1) := by decide +kernel
theorem dX10_commonDivisor_20 : decode cX10_commonDivisor 20 = .ok (.lcmp, 1) := by decide +kernel
theorem dX10_commonDivisor_21 : decode cX10_commonDivisor 21 = .ok (.ifCond .eq 24, 3) := by decide +kernel
theorem dX10_commonDivisor_24 : decode cX10_commonDivisor 24 = .ok (.lload 4, 2) := by decide +kernel
theorem dX10_commonDivisor_26 : decode cX10_commonDivisor 26 = .ok (.lload 6, 2) := by decide +kernel
theorem dX10_commonDivisor_28 : decode cX10_commonDivisor 28 = .ok (.lrem, 1) := by decide +kernel
theorem dX10_commonDivisor_29 : decode cX10_commonDivisor 29 = .ok (.lstore 9, 2) := by decide +kernel
theorem dX10_commonDivisor_31 : decode cX10_commonDivisor 31 = .ok (.lload 6, 2) := by decide +kernel
theorem dX10_commonDivisor_33 : decode cX10_commonDivisor 33 = .ok (.lstore 4, 2) := by decide +kernel
theorem dX10_commonDivisor_35 : decode cX10_commonDivisor 35 = .ok (.lload 9, 2) := by decide +kernel
theorem dX10_commonDivisor_37 : decode cX10_commonDivisor 37 = .ok (.lstore 6, 2) := by decide +kernel
theorem dX10_commonDivisor_39 : decode cX10_commonDivisor 39 = .ok (.iinc 8 1, 3) := by decide +kernel
theorem dX10_commonDivisor_42 : decode cX10_commonDivisor 42 = .ok (.goto (-33), 3) := by decide +kernel
theorem dX10_commonDivisor_45 : decode cX10_commonDivisor 45 = .ok (.lload 4, 2) := by decide +kernel
theorem dX10_commonDivisor_47 : decode cX10_commonDivisor 47 = .ok (.lconst 1, 1) := by decide +kernel
theorem dX10_commonDivisor_48 : decode cX10_commonDivisor 48 = .ok (.invokestatic 467, 3) := by decide +kernel
theorem dX10_commonDivisor_51 : decode cX10_commonDivisor 51 = .ok (.lreturn, 1) := by decide +kernel
theorem dX10_monthOn_0 : decode cX10_monthOn 0 = .ok (.iload_n 0, 1) := by decide +kernel
theorem dX10_monthOn_1 : decode cX10_monthOn 1 = .ok (.iload_n 1, 1) := by decide +kernel
theorem dX10_monthOn_2 : decode cX10_monthOn 2 = .ok (.iload_n 0, 1) := by decide +kernel
theorem dX10_monthOn_3 : decode cX10_monthOn 3 = .ok (.isub, 1) := by decide +kernel
theorem dX10_monthOn_4 : decode cX10_monthOn 4 = .ok (.iload_n 2, 1) := by decide +kernel
theorem dX10_monthOn_5 : decode cX10_monthOn 5 = .ok (.imul, 1) := by decide +kernel
theorem dX10_monthOn_6 : decode cX10_monthOn 6 = .ok (.bipush 100, 2) := by decide +kernel
theorem dX10_monthOn_8 : decode cX10_monthOn 8 = .ok (.idiv, 1) := by decide +kernel
theorem dX10_monthOn_9 : decode cX10_monthOn 9 = .ok (.iadd, 1) := by decide +kernel
theorem dX10_monthOn_10 : decode cX10_monthOn 10 = .ok (.ireturn, 1) := by decide +kernel
theorem dX10_greatestClump_0 : decode cX10_greatestClump 0 = .ok (.iconst 0, 1) := by decide +kernel
theorem dX10_greatestClump_1 : decode cX10_greatestClump 1 = .ok (.istore_n 2, 1) := by decide +kernel
theorem dX10_greatestClump_2 : decode cX10_greatestClump 2 = .ok (.iconst 0, 1) := by decide +kernel
theorem dX10_greatestClump_3 : decode cX10_greatestClump 3 = .ok (.istore_n 3, 1) := by decide +kernel
theorem dX10_greatestClump_4 : decode cX10_greatestClump 4 = .ok (.iload_n 3, 1) := by decide +kernel
theorem dX10_greatestClump_5 : decode cX10_greatestClump 5 = .ok (.iload_n 1, 1) := by decide +kernel
theorem dX10_greatestClump_6 : decode cX10_greatestClump 6 = .ok (.if_icmp .ge 60, 3) := by decide +kernel
theorem dX10_greatestClump_9 : decode cX10_greatestClump 9 = .ok (.iconst 0, 1) := by decide +kernel
theorem dX10_greatestClump_10 : decode cX10_greatestClump 10 = .ok (.istore 4, 2) := by decide +kernel
theorem dX10_greatestClump_12 : decode cX10_greatestClump 12 = .ok (.iconst 0, 1) := by decide +kernel
theorem dX10_greatestClump_13 : decode cX10_greatestClump 13 = .ok (.istore 5, 2) := by decide +kernel
theorem dX10_greatestClump_15 : decode cX10_greatestClump 15 = .ok (.iload 5, 2) := by decide +kernel
theorem dX10_greatestClump_17 : decode cX10_greatestClump 17 = .ok (.iload_n 1, 1) := by decide +kernel
theorem dX10_greatestClump_18 : decode cX10_greatestClump 18 = .ok (.if_icmp .ge 35, 3) := by decide +kernel
theorem dX10_greatestClump_21 : decode cX10_greatestClump 21 = .ok (.iload 4, 2) := by decide +kernel
theorem dX10_greatestClump_23 : decode cX10_greatestClump 23 = .ok (.aload_n 0, 1) := by decide +kernel
theorem dX10_greatestClump_24 : decode cX10_greatestClump 24 = .ok (.getfield 85, 3) := by decide +kernel
theorem dX10_greatestClump_27 : decode cX10_greatestClump 27 = .ok (.iload 5, 2) := by decide +kernel
theorem dX10_greatestClump_29 : decode cX10_greatestClump 29 = .ok (.iaload, 1) := by decide +kernel
theorem dX10_greatestClump_30 : decode cX10_greatestClump 30 = .ok (.aload_n 0, 1) := by decide +kernel
theorem dX10_greatestClump_31 : decode cX10_greatestClump 31 = .ok (.getfield 85, 3) := by decide +kernel
theorem dX10_greatestClump_34 : decode cX10_greatestClump 34 = .ok (.iload_n 3, 1) := by decide +kernel
theorem dX10_greatestClump_35 : decode cX10_greatestClump 35 = .ok (.iaload, 1) := by decide +kernel
theorem dX10_greatestClump_36 : decode cX10_greatestClump 36 = .ok (.if_icmp .ne 7, 3) := by decide +kernel
theorem dX10_greatestClump_39 : decode cX10_greatestClump 39 = .ok (.iconst 1, 1) := by decide +kernel
theorem dX10_greatestClump_40 : decode cX10_greatestClump 40 = .ok (.goto 4, 3) := by decide +kernel
theorem dX10_greatestClump_43 : decode cX10_greatestClump 43 = .ok (.iconst 0, 1) := by decide +kernel
theorem dX10_greatestClump_44 : decode cX10_greatestClump 44 = .ok (.iadd, 1) := by decide +kernel
theorem dX10_greatestClump_45 : decode cX10_greatestClump 45 = .ok (.istore 4, 2) := by decide +kernel
theorem dX10_greatestClump_47 : decode cX10_greatestClump 47 = .ok (.iinc 5 1, 3) := by decide +kernel
theorem dX10_greatestClump_50 : decode cX10_greatestClump 50 = .ok (.goto (-35), 3) := by decide +kernel
theorem dX10_greatestClump_53 : decode cX10_greatestClump 53 = .ok (.iload_n 2, 1) := by decide +kernel
theorem dX10_greatestClump_54 : decode cX10_greatestClump 54 = .ok (.iload 4, 2) := by decide +kernel
theorem dX10_greatestClump_56 : decode cX10_greatestClump 56 = .ok (.invokestatic 470, 3) := by decide +kernel
theorem dX10_greatestClump_59 : decode cX10_greatestClump 59 = .ok (.istore_n 2, 1) := by decide +kernel
theorem dX10_greatestClump_60 : decode cX10_greatestClump 60 = .ok (.iinc 3 1, 3) := by decide +kernel
theorem dX10_greatestClump_63 : decode cX10_greatestClump 63 = .ok (.goto (-59), 3) := by decide +kernel
theorem dX10_greatestClump_66 : decode cX10_greatestClump 66 = .ok (.iload_n 2, 1) := by decide +kernel
theorem dX10_greatestClump_67 : decode cX10_greatestClump 67 = .ok (.ireturn, 1) := by decide +kernel
theorem dX10_differentGoes_0 : decode cX10_differentGoes 0 = .ok (.iconst 0, 1) := by decide +kernel
theorem dX10_differentGoes_1 : decode cX10_differentGoes 1 = .ok (.istore_n 2, 1) := by decide +kernel
theorem dX10_differentGoes_2 : decode cX10_differentGoes 2 = .ok (.iconst 0, 1) := by decide +kernel
theorem dX10_differentGoes_3 : decode cX10_differentGoes 3 = .ok (.istore_n 3, 1) := by decide +kernel
theorem dX10_differentGoes_4 : decode cX10_differentGoes 4 = .ok (.iload_n 3, 1) := by decide +kernel
theorem dX10_differentGoes_5 : decode cX10_differentGoes 5 = .ok (.iload_n 1, 1) := by decide +kernel
theorem dX10_differentGoes_6 : decode cX10_differentGoes 6 = .ok (.if_icmp .ge 68, 3) := by decide +kernel
theorem dX10_differentGoes_9 : decode cX10_differentGoes 9 = .ok (.iconst 1, 1) := by decide +kernel
theorem dX10_differentGoes_10 : decode cX10_differentGoes 10 = .ok (.istore 4, 2) := by decide +kernel
theorem dX10_differentGoes_12 : decode cX10_differentGoes 12 = .ok (.iconst 0, 1) := by decide +kernel
theorem dX10_differentGoes_13 : decode cX10_differentGoes 13 = .ok (.istore 5, 2) := by decide +kernel
theorem dX10_differentGoes_15 : decode cX10_differentGoes 15 = .ok (.iload 5, 2) := by decide +kernel
theorem dX10_differentGoes_17 : decode cX10_differentGoes 17 = .ok (.iload_n 3, 1) := by decide +kernel
theorem dX10_differentGoes_18 : decode cX10_differentGoes 18 = .ok (.if_icmp .ge 37, 3) := by decide +kernel
theorem dX10_differentGoes_21 : decode cX10_differentGoes 21 = .ok (.iload 4, 2) := by decide +kernel
theorem dX10_differentGoes_23 : decode cX10_differentGoes 23 = .ok (.ifCond .eq 23, 3) := by decide +kernel
theorem dX10_differentGoes_26 : decode cX10_differentGoes 26 = .ok (.aload_n 0, 1) := by decide +kernel
theorem dX10_differentGoes_27 : decode cX10_differentGoes 27 = .ok (.getfield 85, 3) := by decide +kernel
theorem dX10_differentGoes_30 : decode cX10_differentGoes 30 = .ok (.iload 5, 2) := by decide +kernel
theorem dX10_differentGoes_32 : decode cX10_differentGoes 32 = .ok (.iaload, 1) := by decide +kernel
theorem dX10_differentGoes_33 : decode cX10_differentGoes 33 = .ok (.aload_n 0, 1) := by decide +kernel
theorem dX10_differentGoes_34 : decode cX10_differentGoes 34 = .ok (.getfield 85, 3) := by decide +kernel
theorem dX10_differentGoes_37 : decode cX10_differentGoes 37 = .ok (.iload_n 3, 1) := by decide +kernel
theorem dX10_differentGoes_38 : decode cX10_differentGoes 38 = .ok (.iaload, 1) := by decide +kernel
theorem dX10_differentGoes_39 : decode cX10_differentGoes 39 = .ok (.if_icmp .eq 7, 3) := by decide +kernel
theorem dX10_differentGoes_42 : decode cX10_differentGoes 42 = .ok (.iconst 1, 1) := by decide +kernel
theorem dX10_differentGoes_43 : decode cX10_differentGoes 43 = .ok (.goto 4, 3) := by decide +kernel
theorem dX10_differentGoes_46 : decode cX10_differentGoes 46 = .ok (.iconst 0, 1) := by decide +kernel
theorem dX10_differentGoes_47 : decode cX10_differentGoes 47 = .ok (.istore 4, 2) := by decide +kernel
theorem dX10_differentGoes_49 : decode cX10_differentGoes 49 = .ok (.iinc 5 1, 3) := by decide +kernel
theorem dX10_differentGoes_52 : decode cX10_differentGoes 52 = .ok (.goto (-37), 3) := by decide +kernel
theorem dX10_differentGoes_55 : decode cX10_differentGoes 55 = .ok (.iload_n 2, 1) := by decide +kernel
theorem dX10_differentGoes_56 : decode cX10_differentGoes 56 = .ok (.iload 4, 2) := by decide +kernel
theorem dX10_differentGoes_58 : decode cX10_differentGoes 58 = .ok (.ifCond .eq 7, 3) := by decide +kernel
theorem dX10_differentGoes_61 : decode cX10_differentGoes 61 = .ok (.iconst 1, 1) := by decide +kernel
theorem dX10_differentGoes_62 : decode cX10_differentGoes 62 = .ok (.goto 4, 3) := by decide +kernel
theorem dX10_differentGoes_65 : decode cX10_differentGoes 65 = .ok (.iconst 0, 1) := by decide +kernel
theorem dX10_differentGoes_66 : decode cX10_differentGoes 66 = .ok (.iadd, 1) := by decide +kernel
theorem dX10_differentGoes_67 : decode cX10_differentGoes 67 = .ok (.istore_n 2, 1) := by decide +kernel
theorem dX10_differentGoes_68 : decode cX10_differentGoes 68 = .ok (.iinc 3 1, 3) := by decide +kernel
theorem dX10_differentGoes_71 : decode cX10_differentGoes 71 = .ok (.goto (-67), 3) := by decide +kernel
theorem dX10_differentGoes_74 : decode cX10_differentGoes 74 = .ok (.iload_n 2, 1) := by decide +kernel
theorem dX10_differentGoes_75 : decode cX10_differentGoes 75 = .ok (.ireturn, 1) := by decide +kernel
theorem dX11_no_0 : decode cX11_no 0 = .ok (.aload_n 0, 1) := by decide +kernel
theorem dX11_no_1 : decode cX11_no 1 = .ok (.getfield 7, 3) := by decide +kernel
theorem dX11_no_4 : decode cX11_no 4 = .ok (.iload_n 1, 1) := by decide +kernel
theorem dX11_no_5 : decode cX11_no 5 = .ok (.bipush (-2), 2) := by decide +kernel
theorem dX11_no_7 : decode cX11_no 7 = .ok (.if_icmp .ne 7, 3) := by decide +kernel
theorem dX11_no_10 : decode cX11_no 10 = .ok (.iconst 0, 1) := by decide +kernel
theorem dX11_no_11 : decode cX11_no 11 = .ok (.goto 44, 3) := by decide +kernel
theorem dX11_no_14 : decode cX11_no 14 = .ok (.iload_n 1, 1) := by decide +kernel
theorem dX11_no_15 : decode cX11_no 15 = .ok (.bipush (-3), 2) := by decide +kernel
theorem dX11_no_17 : decode cX11_no 17 = .ok (.if_icmp .ne 7, 3) := by decide +kernel
theorem dX11_no_20 : decode cX11_no 20 = .ok (.iconst 1, 1) := by decide +kernel
theorem dX11_no_21 : decode cX11_no 21 = .ok (.goto 34, 3) := by decide +kernel
theorem dX11_no_24 : decode cX11_no 24 = .ok (.iload_n 1, 1) := by decide +kernel
theorem dX11_no_25 : decode cX11_no 25 = .ok (.bipush (-5), 2) := by decide +kernel
theorem dX11_no_27 : decode cX11_no 27 = .ok (.if_icmp .ne 7, 3) := by decide +kernel
theorem dX11_no_30 : decode cX11_no 30 = .ok (.iconst 2, 1) := by decide +kernel
theorem dX11_no_31 : decode cX11_no 31 = .ok (.goto 24, 3) := by decide +kernel
theorem dX11_no_34 : decode cX11_no 34 = .ok (.iload_n 1, 1) := by decide +kernel
theorem dX11_no_35 : decode cX11_no 35 = .ok (.bipush (-6), 2) := by decide +kernel
theorem dX11_no_37 : decode cX11_no 37 = .ok (.if_icmp .ne 7, 3) := by decide +kernel
theorem dX11_no_40 : decode cX11_no 40 = .ok (.iconst 3, 1) := by decide +kernel
theorem dX11_no_41 : decode cX11_no 41 = .ok (.goto 14, 3) := by decide +kernel
theorem dX11_no_44 : decode cX11_no 44 = .ok (.iload_n 1, 1) := by decide +kernel
theorem dX11_no_45 : decode cX11_no 45 = .ok (.bipush (-7), 2) := by decide +kernel
theorem dX11_no_47 : decode cX11_no 47 = .ok (.if_icmp .ne 7, 3) := by decide +kernel
theorem dX11_no_50 : decode cX11_no 50 = .ok (.iconst 4, 1) := by decide +kernel
theorem dX11_no_51 : decode cX11_no 51 = .ok (.goto 4, 3) := by decide +kernel
theorem dX11_no_54 : decode cX11_no 54 = .ok (.iconst 5, 1) := by decide +kernel
theorem dX11_no_55 : decode cX11_no 55 = .ok (.dup2, 1) := by decide +kernel
theorem dX11_no_56 : decode cX11_no 56 = .ok (.iaload, 1) := by decide +kernel
theorem dX11_no_57 : decode cX11_no 57 = .ok (.iconst 1, 1) := by decide +kernel
theorem dX11_no_58 : decode cX11_no 58 = .ok (.iadd, 1) := by decide +kernel
theorem dX11_no_59 : decode cX11_no 59 = .ok (.iastore, 1) := by decide +kernel
theorem dX11_no_60 : decode cX11_no 60 = .ok (.iload_n 1, 1) := by decide +kernel
theorem dX11_no_61 : decode cX11_no 61 = .ok (.ireturn, 1) := by decide +kernel
theorem dX11_none_0 : decode cX11_none 0 = .ok (.aload_n 0, 1) := by decide +kernel
theorem dX11_none_1 : decode cX11_none 1 = .ok (.getfield 7, 3) := by decide +kernel
theorem dX11_none_4 : decode cX11_none 4 = .ok (.iconst 0, 1) := by decide +kernel
theorem dX11_none_5 : decode cX11_none 5 = .ok (.dup2, 1) := by decide +kernel
theorem dX11_none_6 : decode cX11_none 6 = .ok (.iaload, 1) := by decide +kernel
theorem dX11_none_7 : decode cX11_none 7 = .ok (.iconst 1, 1) := by decide +kernel
theorem dX11_none_8 : decode cX11_none 8 = .ok (.iadd, 1) := by decide +kernel
theorem dX11_none_9 : decode cX11_none 9 = .ok (.iastore, 1) := by decide +kernel
theorem dX11_none_10 : decode cX11_none 10 = .ok (.iload_n 1, 1) := by decide +kernel
theorem dX11_none_11 : decode cX11_none 11 = .ok (.ireturn, 1) := by decide +kernel
theorem dX11_within_0 : decode cX11_within 0 = .ok (.lload_n 0, 1) := by decide +kernel
theorem dX11_within_1 : decode cX11_within 1 = .ok (.lload_n 2, 1) := by decide +kernel
theorem dX11_within_2 : decode cX11_within 2 = .ok (.lcmp, 1) := by decide +kernel
theorem dX11_within_3 : decode cX11_within 3 = .ok (.ifCond .lt 14, 3) := by decide +kernel
theorem dX11_within_6 : decode cX11_within 6 = .ok (.lload_n 0, 1) := by decide +kernel
theorem dX11_within_7 : decode cX11_within 7 = .ok (.lload 4, 2) := by decide +kernel
theorem dX11_within_9 : decode cX11_within 9 = .ok (.lcmp, 1) := by decide +kernel
theorem dX11_within_10 : decode cX11_within 10 = .ok (.ifCond .gt 7, 3) := by decide +kernel
theorem dX11_within_13 : decode cX11_within 13 = .ok (.iconst 1, 1) := by decide +kernel
theorem dX11_within_14 : decode cX11_within 14 = .ok (.goto 4, 3) := by decide +kernel
theorem dX11_within_17 : decode cX11_within 17 = .ok (.iconst 0, 1) := by decide +kernel
theorem dX11_within_18 : decode cX11_within 18 = .ok (.ireturn, 1) := by decide +kernel
theorem dX11_init_0 : decode cX11_init 0 = .ok (.aload_n 0, 1) := by decide +kernel
theorem dX11_init_1 : decode cX11_init 1 = .ok (.invokespecial 11, 3) := by decide +kernel
theorem dX11_init_4 : decode cX11_init 4 = .ok (.aload_n 0, 1) := by decide +kernel
theorem dX11_init_5 : decode cX11_init 5 = .ok (.bipush 6, 2) := by decide +kernel
theorem dX11_init_7 : decode cX11_init 7 = .ok (.newarray .int, 2) := by decide +kernel
theorem dX11_init_9 : decode cX11_init 9 = .ok (.putfield 7, 3) := by decide +kernel
theorem dX11_init_12 : decode cX11_init 12 = .ok (.aload_n 0, 1) := by decide +kernel
theorem dX11_init_13 : decode cX11_init 13 = .ok (.sipush 1734, 3) := by decide +kernel
theorem dX11_init_16 : decode cX11_init 16 = .ok (.newarray .int, 2) := by decide +kernel
theorem dX11_init_18 : decode cX11_init 18 = .ok (.putfield 17, 3) := by decide +kernel
theorem dX11_init_21 : decode cX11_init 21 = .ok (.aload_n 0, 1) := by decide +kernel
theorem dX11_init_22 : decode cX11_init 22 = .ok (.iconst 2, 1) := by decide +kernel
theorem dX11_init_23 : decode cX11_init 23 = .ok (.newarray .boolean, 2) := by decide +kernel
theorem dX11_init_25 : decode cX11_init 25 = .ok (.putfield 20, 3) := by decide +kernel
theorem dX11_init_28 : decode cX11_init 28 = .ok (.aload_n 0, 1) := by decide +kernel
theorem dX11_init_29 : decode cX11_init 29 = .ok (.sipush 400, 3) := by decide +kernel
theorem dX11_init_32 : decode cX11_init 32 = .ok (.newarray .int, 2) := by decide +kernel
theorem dX11_init_34 : decode cX11_init 34 = .ok (.putfield 24, 3) := by decide +kernel
theorem dX11_init_37 : decode cX11_init 37 = .ok (.aload_n 0, 1) := by decide +kernel
theorem dX11_init_38 : decode cX11_init 38 = .ok (.sipush 477, 3) := by decide +kernel
theorem dX11_init_41 : decode cX11_init 41 = .ok (.newarray .int, 2) := by decide +kernel
theorem dX11_init_43 : decode cX11_init 43 = .ok (.putfield 27, 3) := by decide +kernel
theorem dX11_init_46 : decode cX11_init 46 = .ok (.aload_n 0, 1) := by decide +kernel
theorem dX11_init_47 : decode cX11_init 47 = .ok (.iconst (-1), 1) := by decide +kernel
theorem dX11_init_48 : decode cX11_init 48 = .ok (.putfield 30, 3) := by decide +kernel
theorem dX11_init_51 : decode cX11_init 51 = .ok (.aload_n 0, 1) := by decide +kernel
theorem dX11_init_52 : decode cX11_init 52 = .ok (.bipush 42, 2) := by decide +kernel
theorem dX11_init_54 : decode cX11_init 54 = .ok (.newarray .int, 2) := by decide +kernel
theorem dX11_init_56 : decode cX11_init 56 = .ok (.putfield 33, 3) := by decide +kernel
theorem dX11_init_59 : decode cX11_init 59 = .ok (.aload_n 0, 1) := by decide +kernel
theorem dX11_init_60 : decode cX11_init 60 = .ok (.sipush 504, 3) := by decide +kernel
theorem dX11_init_63 : decode cX11_init 63 = .ok (.newarray .int, 2) := by decide +kernel
theorem dX11_init_65 : decode cX11_init 65 = .ok (.putfield 36, 3) := by decide +kernel
theorem dX11_init_68 : decode cX11_init 68 = .ok (.aload_n 0, 1) := by decide +kernel
theorem dX11_init_69 : decode cX11_init 69 = .ok (.sipush 220, 3) := by decide +kernel
theorem dX11_init_72 : decode cX11_init 72 = .ok (.newarray .boolean, 2) := by decide +kernel
theorem dX11_init_74 : decode cX11_init 74 = .ok (.putfield 39, 3) := by decide +kernel
theorem dX11_init_77 : decode cX11_init 77 = .ok (.aload_n 0, 1) := by decide +kernel
theorem dX11_init_78 : decode cX11_init 78 = .ok (.iconst (-1), 1) := by decide +kernel
theorem dX11_init_79 : decode cX11_init 79 = .ok (.putfield 42, 3) := by decide +kernel
theorem dX11_init_82 : decode cX11_init 82 = .ok (.aload_n 0, 1) := by decide +kernel
theorem dX11_init_83 : decode cX11_init 83 = .ok (.iconst (-1), 1) := by decide +kernel
theorem dX11_init_84 : decode cX11_init 84 = .ok (.putfield 45, 3) := by decide +kernel
theorem dX11_init_87 : decode cX11_init 87 = .ok (.aload_n 0, 1) := by decide +kernel
theorem dX11_init_88 : decode cX11_init 88 = .ok (.bipush 8, 2) := by decide +kernel
theorem dX11_init_90 : decode cX11_init 90 = .ok (.newarray .boolean, 2) := by decide +kernel
theorem dX11_init_92 : decode cX11_init 92 = .ok (.putfield 48, 3) := by decide +kernel
theorem dX11_init_95 : decode cX11_init 95 = .ok (.aload_n 0, 1) := by decide +kernel
theorem dX11_init_96 : decode cX11_init 96 = .ok (.bipush 8, 2) := by decide +kernel
theorem dX11_init_98 : decode cX11_init 98 = .ok (.newarray .boolean, 2) := by decide +kernel
theorem dX11_init_100 : decode cX11_init 100 = .ok (.putfield 51, 3) := by decide +kernel
theorem dX11_init_103 : decode cX11_init 103 = .ok (.aload_n 0, 1) := by decide +kernel
theorem dX11_init_104 : decode cX11_init 104 = .ok (.iconst 5, 1) := by decide +kernel
theorem dX11_init_105 : decode cX11_init 105 = .ok (.newarray .long, 2) := by decide +kernel
theorem dX11_init_107 : decode cX11_init 107 = .ok (.putfield 54, 3) := by decide +kernel
theorem dX11_init_110 : decode cX11_init 110 = .ok (.aload_n 0, 1) := by decide +kernel
theorem dX11_init_111 : decode cX11_init 111 = .ok (.bipush 8, 2) := by decide +kernel
theorem dX11_init_113 : decode cX11_init 113 = .ok (.newarray .long, 2) := by decide +kernel
theorem dX11_init_115 : decode cX11_init 115 = .ok (.putfield 58, 3) := by decide +kernel
theorem dX11_init_118 : decode cX11_init 118 = .ok (.aload_n 0, 1) := by decide +kernel
theorem dX11_init_119 : decode cX11_init 119 = .ok (.bipush 8, 2) := by decide +kernel
theorem dX11_init_121 : decode cX11_init 121 = .ok (.newarray .long, 2) := by decide +kernel
theorem dX11_init_123 : decode cX11_init 123 = .ok (.putfield 61, 3) := by decide +kernel
theorem dX11_init_126 : decode cX11_init 126 = .ok (.aload_n 0, 1) := by decide +kernel
theorem dX11_init_127 : decode cX11_init 127 = .ok (.sipush 13000, 3) := by decide +kernel
theorem dX11_init_130 : decode cX11_init 130 = .ok (.newarray .int, 2) := by decide +kernel
theorem dX11_init_132 : decode cX11_init 132 = .ok (.putfield 64, 3) := by decide +kernel
theorem dX11_init_135 : decode cX11_init 135 = .ok (.aload_n 0, 1) := by decide +kernel
theorem dX11_init_136 : decode cX11_init 136 = .ok (.sipush 13000, 3) := by decide +kernel
theorem dX11_init_139 : decode cX11_init 139 = .ok (.newarray .int, 2) := by decide +kernel
theorem dX11_init_141 : decode cX11_init 141 = .ok (.putfield 67, 3) := by decide +kernel
theorem dX11_init_144 : decode cX11_init 144 = .ok (.aload_n 0, 1) := by decide +kernel
theorem dX11_init_145 : decode cX11_init 145 = .ok (.bipush 40, 2) := by decide +kernel
theorem dX11_init_147 : decode cX11_init 147 = .ok (.newarray .int, 2) := by decide +kernel
theorem dX11_init_149 : decode cX11_init 149 = .ok (.putfield 70, 3) := by decide +kernel
theorem dX11_init_152 : decode cX11_init 152 = .ok (.aload_n 0, 1) := by decide +kernel
theorem dX11_init_153 : decode cX11_init 153 = .ok (.iconst 4, 1) := by decide +kernel
theorem dX11_init_154 : decode cX11_init 154 = .ok (.newarray .int, 2) := by decide +kernel
theorem dX11_init_156 : decode cX11_init 156 = .ok (.dup, 1) := by decide +kernel
theorem dX11_init_157 : decode cX11_init 157 = .ok (.iconst 0, 1) := by decide +kernel
theorem dX11_init_158 : decode cX11_init 158 = .ok (.iconst (-1), 1) := by decide +kernel
theorem dX11_init_159 : decode cX11_init 159 = .ok (.iastore, 1) := by decide +kernel
theorem dX11_init_160 : decode cX11_init 160 = .ok (.dup, 1) := by decide +kernel
theorem dX11_init_161 : decode cX11_init 161 = .ok (.iconst 1, 1) := by decide +kernel
theorem dX11_init_162 : decode cX11_init 162 = .ok (.iconst (-1), 1) := by decide +kernel
theorem dX11_init_163 : decode cX11_init 163 = .ok (.iastore, 1) := by decide +kernel
theorem dX11_init_164 : decode cX11_init 164 = .ok (.dup, 1) := by decide +kernel
theorem dX11_init_165 : decode cX11_init 165 = .ok (.iconst 2, 1) := by decide +kernel
theorem dX11_init_166 : decode cX11_init 166 = .ok (.iconst (-1), 1) := by decide +kernel
theorem dX11_init_167 : decode cX11_init 167 = .ok (.iastore, 1) := by decide +kernel
theorem dX11_init_168 : decode cX11_init 168 = .ok (.dup, 1) := by decide +kernel
theorem dX11_init_169 : decode cX11_init 169 = .ok (.iconst 3, 1) := by decide +kernel
theorem dX11_init_170 : decode cX11_init 170 = .ok (.iconst (-1), 1) := by decide +kernel
theorem dX11_init_171 : decode cX11_init 171 = .ok (.iastore, 1) := by decide +kernel
theorem dX11_init_172 : decode cX11_init 172 = .ok (.putfield 73, 3) := by decide +kernel
theorem dX11_init_175 : decode cX11_init 175 = .ok (.aload_n 0, 1) := by decide +kernel
theorem dX11_init_176 : decode cX11_init 176 = .ok (.iconst 4, 1) := by decide +kernel
theorem dX11_init_177 : decode cX11_init 177 = .ok (.newarray .int, 2) := by decide +kernel
theorem dX11_init_179 : decode cX11_init 179 = .ok (.putfield 76, 3) := by decide +kernel
theorem dX11_init_182 : decode cX11_init 182 = .ok (.aload_n 0, 1) := by decide +kernel
theorem dX11_init_183 : decode cX11_init 183 = .ok (.sipush 160, 3) := by decide +kernel
theorem dX11_init_186 : decode cX11_init 186 = .ok (.newarray .long, 2) := by decide +kernel
theorem dX11_init_188 : decode cX11_init 188 = .ok (.putfield 79, 3) := by decide +kernel
theorem dX11_init_191 : decode cX11_init 191 = .ok (.aload_n 0, 1) := by decide +kernel
theorem dX11_init_192 : decode cX11_init 192 = .ok (.getfield 17, 3) := by decide +kernel
theorem dX11_init_195 : decode cX11_init 195 = .ok (.invokestatic 82, 3) := by decide +kernel
theorem dX11_init_198 : decode cX11_init 198 = .ok (.iconst 0, 1) := by decide +kernel
theorem dX11_init_199 : decode cX11_init 199 = .ok (.istore_n 1, 1) := by decide +kernel
theorem dX11_init_200 : decode cX11_init 200 = .ok (.iload_n 1, 1) := by decide +kernel
theorem dX11_init_201 : decode cX11_init 201 = .ok (.iconst 4, 1) := by decide +kernel
theorem dX11_init_202 : decode cX11_init 202 = .ok (.if_icmp .ge 32, 3) := by decide +kernel
theorem dX11_init_205 : decode cX11_init 205 = .ok (.aload_n 0, 1) := by decide +kernel
theorem dX11_init_206 : decode cX11_init 206 = .ok (.getfield 17, 3) := by decide +kernel
theorem dX11_init_209 : decode cX11_init 209 = .ok (.sipush 550, 3) := by decide +kernel
theorem dX11_init_212 : decode cX11_init 212 = .ok (.iload_n 1, 1) := by decide +kernel
theorem dX11_init_213 : decode cX11_init 213 = .ok (.iadd, 1) := by decide +kernel
theorem dX11_init_214 : decode cX11_init 214 = .ok (.iconst 1, 1) := by decide +kernel
theorem dX11_init_215 : decode cX11_init 215 = .ok (.iastore, 1) := by decide +kernel
theorem dX11_init_216 : decode cX11_init 216 = .ok (.aload_n 0, 1) := by decide +kernel
theorem dX11_init_217 : decode cX11_init 217 = .ok (.getfield 17, 3) := by decide +kernel
theorem dX11_init_220 : decode cX11_init 220 = .ok (.sipush 554, 3) := by decide +kernel
theorem dX11_init_223 : decode cX11_init 223 = .ok (.iload_n 1, 1) := by decide +kernel
theorem dX11_init_224 : decode cX11_init 224 = .ok (.iadd, 1) := by decide +kernel
theorem dX11_init_225 : decode cX11_init 225 = .ok (.bipush 100, 2) := by decide +kernel
theorem dX11_init_227 : decode cX11_init 227 = .ok (.iastore, 1) := by decide +kernel
theorem dX11_init_228 : decode cX11_init 228 = .ok (.iinc 1 1, 3) := by decide +kernel
theorem dX11_init_231 : decode cX11_init 231 = .ok (.goto (-31), 3) := by decide +kernel
theorem dX11_init_234 : decode cX11_init 234 = .ok (.return_, 1) := by decide +kernel
theorem dX11_plain_0 : decode cX11_plain 0 = .ok (.iconst 0, 1) := by decide +kernel
theorem dX11_plain_1 : decode cX11_plain 1 = .ok (.istore_n 1, 1) := by decide +kernel
theorem dX11_plain_2 : decode cX11_plain 2 = .ok (.iload_n 1, 1) := by decide +kernel
theorem dX11_plain_3 : decode cX11_plain 3 = .ok (.sipush 477, 3) := by decide +kernel
theorem dX11_plain_6 : decode cX11_plain 6 = .ok (.if_icmp .ge 53, 3) := by decide +kernel
theorem dX11_plain_9 : decode cX11_plain 9 = .ok (.aload_n 0, 1) := by decide +kernel
theorem dX11_plain_10 : decode cX11_plain 10 = .ok (.iload_n 1, 1) := by decide +kernel
theorem dX11_plain_11 : decode cX11_plain 11 = .ok (.iload_n 1, 1) := by decide +kernel
theorem dX11_plain_12 : decode cX11_plain 12 = .ok (.ifCond .ne 7, 3) := by decide +kernel
theorem dX11_plain_15 : decode cX11_plain 15 = .ok (.iconst 1, 1) := by decide +kernel
theorem dX11_plain_16 : decode cX11_plain 16 = .ok (.goto 36, 3) := by decide +kernel
theorem dX11_plain_19 : decode cX11_plain 19 = .ok (.iload_n 1, 1) := by decide +kernel
theorem dX11_plain_20 : decode cX11_plain 20 = .ok (.bipush 36, 2) := by decide +kernel
theorem dX11_plain_22 : decode cX11_plain 22 = .ok (.if_icmp .ne 7, 3) := by decide +kernel
theorem dX11_plain_25 : decode cX11_plain 25 = .ok (.iconst 3, 1) := by decide +kernel
theorem dX11_plain_26 : decode cX11_plain 26 = .ok (.goto 26, 3) := by decide +kernel
theorem dX11_plain_29 : decode cX11_plain 29 = .ok (.iload_n 1, 1) := by decide +kernel
theorem dX11_plain_30 : decode cX11_plain 30 = .ok (.bipush 37, 2) := by decide +kernel
theorem dX11_plain_32 : decode cX11_plain 32 = .ok (.if_icmp .ne 8, 3) := by decide +kernel
theorem dX11_plain_35 : decode cX11_plain 35 = .ok (.bipush 20, 2) := by decide +kernel
theorem dX11_plain_37 : decode cX11_plain 37 = .ok (.goto 15, 3) := by decide +kernel
theorem dX11_plain_40 : decode cX11_plain 40 = .ok (.iload_n 1, 1) := by decide +kernel
theorem dX11_plain_41 : decode cX11_plain 41 = .ok (.bipush 38, 2) := by decide +kernel
theorem dX11_plain_43 : decode cX11_plain 43 = .ok (.if_icmp .ne 8, 3) := by decide +kernel
theorem dX11_plain_46 : decode cX11_plain 46 = .ok (.bipush 40, 2) := by decide +kernel
theorem dX11_plain_48 : decode cX11_plain 48 = .ok (.goto 4, 3) := by decide +kernel
theorem dX11_plain_51 : decode cX11_plain 51 = .ok (.iconst 0, 1) := by decide +kernel
theorem dX11_plain_52 : decode cX11_plain 52 = .ok (.iastore, 1) := by decide +kernel
theorem dX11_plain_53 : decode cX11_plain 53 = .ok (.iinc 1 1, 3) := by decide +kernel
theorem dX11_plain_56 : decode cX11_plain 56 = .ok (.goto (-54), 3) := by decide +kernel
theorem dX11_plain_59 : decode cX11_plain 59 = .ok (.return_, 1) := by decide +kernel
theorem dX11_feed_0 : decode cX11_feed 0 = .ok (.aload_n 0, 1) := by decide +kernel
theorem dX11_feed_1 : decode cX11_feed 1 = .ok (.iconst 0, 1) := by decide +kernel
theorem dX11_feed_2 : decode cX11_feed 2 = .ok (.putfield 1, 3) := by decide +kernel
theorem dX11_feed_5 : decode cX11_feed 5 = .ok (.aload_n 0, 1) := by decide +kernel
theorem dX11_feed_6 : decode cX11_feed 6 = .ok (.getfield 86, 3) := by decide +kernel
theorem dX11_feed_9 : decode cX11_feed 9 = .ok (.bipush 20, 2) := by decide +kernel
theorem dX11_feed_11 : decode cX11_feed 11 = .ok (.iadd, 1) := by decide +kernel
theorem dX11_feed_12 : decode cX11_feed 12 = .ok (.sipush 400, 3) := by decide +kernel
theorem dX11_feed_15 : decode cX11_feed 15 = .ok (.if_icmp .le 10, 3) := by decide +kernel
theorem dX11_feed_18 : decode cX11_feed 18 = .ok (.aload_n 0, 1) := by decide +kernel
theorem dX11_feed_19 : decode cX11_feed 19 = .ok (.bipush (-5), 2) := by decide +kernel
theorem dX11_feed_21 : decode cX11_feed 21 = .ok (.invokevirtual 89, 3) := by decide +kernel
theorem dX11_feed_24 : decode cX11_feed 24 = .ok (.ireturn, 1) := by decide +kernel
theorem dX11_feed_25 : decode cX11_feed 25 = .ok (.iconst 0, 1) := by decide +kernel
theorem dX11_feed_26 : decode cX11_feed 26 = .ok (.istore 6, 2) := by decide +kernel
theorem dX11_feed_28 : decode cX11_feed 28 = .ok (.iload 6, 2) := by decide +kernel
theorem dX11_feed_30 : decode cX11_feed 30 = .ok (.bipush 20, 2) := by decide +kernel
theorem dX11_feed_32 : decode cX11_feed 32 = .ok (.if_icmp .ge 93, 3) := by decide +kernel
theorem dX11_feed_35 : decode cX11_feed 35 = .ok (.iload 6, 2) := by decide +kernel
theorem dX11_feed_37 : decode cX11_feed 37 = .ok (.iconst 4, 1) := by decide +kernel
theorem dX11_feed_38 : decode cX11_feed 38 = .ok (.if_icmp .ge 7, 3) := by decide +kernel
theorem dX11_feed_41 : decode cX11_feed 41 = .ok (.iload_n 1, 1) := by decide +kernel
theorem dX11_feed_42 : decode cX11_feed 42 = .ok (.goto 39, 3) := by decide +kernel
theorem dX11_feed_45 : decode cX11_feed 45 = .ok (.iload 6, 2) := by decide +kernel
theorem dX11_feed_47 : decode cX11_feed 47 = .ok (.bipush 8, 2) := by decide +kernel
theorem dX11_feed_49 : decode cX11_feed 49 = .ok (.if_icmp .ge 7, 3) := by decide +kernel
theorem dX11_feed_52 : decode cX11_feed 52 = .ok (.iload_n 2, 1) := by decide +kernel
theorem dX11_feed_53 : decode cX11_feed 53 = .ok (.goto 28, 3) := by decide +kernel
theorem dX11_feed_56 : decode cX11_feed 56 = .ok (.iload 6, 2) := by decide +kernel
theorem dX11_feed_58 : decode cX11_feed 58 = .ok (.bipush 12, 2) := by decide +kernel
theorem dX11_feed_60 : decode cX11_feed 60 = .ok (.if_icmp .ge 7, 3) := by decide +kernel
theorem dX11_feed_63 : decode cX11_feed 63 = .ok (.iload_n 3, 1) := by decide +kernel
theorem dX11_feed_64 : decode cX11_feed 64 = .ok (.goto 17, 3) := by decide +kernel
theorem dX11_feed_67 : decode cX11_feed 67 = .ok (.iload 6, 2) := by decide +kernel
theorem dX11_feed_69 : decode cX11_feed 69 = .ok (.bipush 16, 2) := by decide +kernel
theorem dX11_feed_71 : decode cX11_feed 71 = .ok (.if_icmp .ge 8, 3) := by decide +kernel
theorem dX11_feed_74 : decode cX11_feed 74 = .ok (.iload 4, 2) := by decide +kernel
theorem dX11_feed_76 : decode cX11_feed 76 = .ok (.goto 5, 3) := by decide +kernel
theorem dX11_feed_79 : decode cX11_feed 79 = .ok (.iload 5, 2) := by decide +kernel
theorem dX11_feed_81 : decode cX11_feed 81 = .ok (.istore 7, 2) := by decide +kernel
theorem dX11_feed_83 : decode cX11_feed 83 = .ok (.aload_n 0, 1) := by decide +kernel
theorem dX11_feed_84 : decode cX11_feed 84 = .ok (.getfield 24, 3) := by decide +kernel
theorem dX11_feed_87 : decode cX11_feed 87 = .ok (.aload_n 0, 1) := by decide +kernel
theorem dX11_feed_88 : decode cX11_feed 88 = .ok (.getfield 86, 3) := by decide +kernel
theorem dX11_feed_91 : decode cX11_feed 91 = .ok (.iload 7, 2) := by decide +kernel
theorem dX11_feed_93 : decode cX11_feed 93 = .ok (.bipush 24, 2) := by decide +kernel
theorem dX11_feed_95 : decode cX11_feed 95 = .ok (.bipush 8, 2) := by decide +kernel
theorem dX11_feed_97 : decode cX11_feed 97 = .ok (.iload 6, 2) := by decide +kernel
theorem dX11_feed_99 : decode cX11_feed 99 = .ok (.iconst 4, 1) := by decide +kernel
theorem dX11_feed_100 : decode cX11_feed 100 = .ok (.irem, 1) := by decide +kernel
theorem dX11_feed_101 : decode cX11_feed 101 = .ok (.imul, 1) := by decide +kernel
theorem dX11_feed_102 : decode cX11_feed 102 = .ok (.isub, 1) := by decide +kernel
theorem dX11_feed_103 : decode cX11_feed 103 = .ok (.ishr, 1) := by decide +kernel
theorem dX11_feed_104 : decode cX11_feed 104 = .ok (.sipush 255, 3) := by decide +kernel
theorem dX11_feed_107 : decode cX11_feed 107 = .ok (.iand, 1) := by decide +kernel
theorem dX11_feed_108 : decode cX11_feed 108 = .ok (.iastore, 1) := by decide +kernel
theorem dX11_feed_109 : decode cX11_feed 109 = .ok (.aload_n 0, 1) := by decide +kernel
theorem dX11_feed_110 : decode cX11_feed 110 = .ok (.dup, 1) := by decide +kernel
theorem dX11_feed_111 : decode cX11_feed 111 = .ok (.getfield 86, 3) := by decide +kernel
theorem dX11_feed_114 : decode cX11_feed 114 = .ok (.iconst 1, 1) := by decide +kernel
theorem dX11_feed_115 : decode cX11_feed 115 = .ok (.iadd, 1) := by decide +kernel
theorem dX11_feed_116 : decode cX11_feed 116 = .ok (.putfield 86, 3) := by decide +kernel
theorem dX11_feed_119 : decode cX11_feed 119 = .ok (.iinc 6 1, 3) := by decide +kernel
theorem dX11_feed_122 : decode cX11_feed 122 = .ok (.goto (-94), 3) := by decide +kernel
theorem dX11_feed_125 : decode cX11_feed 125 = .ok (.aload_n 0, 1) := by decide +kernel
theorem dX11_feed_126 : decode cX11_feed 126 = .ok (.getfield 86, 3) := by decide +kernel
theorem dX11_feed_129 : decode cX11_feed 129 = .ok (.ireturn, 1) := by decide +kernel
theorem dX11_see_0 : decode cX11_see 0 = .ok (.iload_n 1, 1) := by decide +kernel
theorem dX11_see_1 : decode cX11_see 1 = .ok (.aload_n 0, 1) := by decide +kernel
theorem dX11_see_2 : decode cX11_see 2 = .ok (.getfield 93, 3) := by decide +kernel
theorem dX11_see_5 : decode cX11_see 5 = .ok (.if_icmp .ge 12, 3) := by decide +kernel
theorem dX11_see_8 : decode cX11_see 8 = .ok (.aload_n 0, 1) := by decide +kernel
theorem dX11_see_9 : decode cX11_see 9 = .ok (.getfield 24, 3) := by decide +kernel
theorem dX11_see_12 : decode cX11_see 12 = .ok (.iload_n 1, 1) := by decide +kernel
theorem dX11_see_13 : decode cX11_see 13 = .ok (.iaload, 1) := by decide +kernel
theorem dX11_see_14 : decode cX11_see 14 = .ok (.goto 4, 3) := by decide +kernel
theorem dX11_see_17 : decode cX11_see 17 = .ok (.iconst (-1), 1) := by decide +kernel
theorem dX11_see_18 : decode cX11_see 18 = .ok (.ireturn, 1) := by decide +kernel
theorem dX11_isSmall_0 : decode cX11_isSmall 0 = .ok (.iload_n 0, 1) := by decide +kernel
theorem dX11_isSmall_1 : decode cX11_isSmall 1 = .ok (.bipush 97, 2) := by decide +kernel
theorem dX11_isSmall_3 : decode cX11_isSmall 3 = .ok (.if_icmp .lt 13, 3) := by decide +kernel
theorem dX11_isSmall_6 : decode cX11_isSmall 6 = .ok (.iload_n 0, 1) := by decide +kernel
theorem dX11_isSmall_7 : decode cX11_isSmall 7 = .ok (.bipush 122, 2) := by decide +kernel
theorem dX11_isSmall_9 : decode cX11_isSmall 9 = .ok (.if_icmp .gt 7, 3) := by decide +kernel
theorem dX11_isSmall_12 : decode cX11_isSmall 12 = .ok (.iconst 1, 1) := by decide +kernel
theorem dX11_isSmall_13 : decode cX11_isSmall 13 = .ok (.goto 4, 3) := by decide +kernel
theorem dX11_isSmall_16 : decode cX11_isSmall 16 = .ok (.iconst 0, 1) := by decide +kernel
theorem dX11_isSmall_17 : decode cX11_isSmall 17 = .ok (.ireturn, 1) := by decide +kernel
theorem dX11_isDigit_0 : decode cX11_isDigit 0 = .ok (.iload_n 0, 1) := by decide +kernel
theorem dX11_isDigit_1 : decode cX11_isDigit 1 = .ok (.bipush 48, 2) := by decide +kernel
theorem dX11_isDigit_3 : decode cX11_isDigit 3 = .ok (.if_icmp .lt 13, 3) := by decide +kernel
theorem dX11_isDigit_6 : decode cX11_isDigit 6 = .ok (.iload_n 0, 1) := by decide +kernel
theorem dX11_isDigit_7 : decode cX11_isDigit 7 = .ok (.bipush 57, 2) := by decide +kernel
theorem dX11_isDigit_9 : decode cX11_isDigit 9 = .ok (.if_icmp .gt 7, 3) := by decide +kernel
theorem dX11_isDigit_12 : decode cX11_isDigit 12 = .ok (.iconst 1, 1) := by decide +kernel
theorem dX11_isDigit_13 : decode cX11_isDigit 13 = .ok (.goto 4, 3) := by decide +kernel
theorem dX11_isDigit_16 : decode cX11_isDigit 16 = .ok (.iconst 0, 1) := by decide +kernel
theorem dX11_isDigit_17 : decode cX11_isDigit 17 = .ok (.ireturn, 1) := by decide +kernel
theorem dX11_keyAt_0 : decode cX11_keyAt 0 = .ok (.iconst 0, 1) := by decide +kernel
theorem dX11_keyAt_1 : decode cX11_keyAt 1 = .ok (.istore_n 1, 1) := by decide +kernel
theorem dX11_keyAt_2 : decode cX11_keyAt 2 = .ok (.iconst 1, 1) := by decide +kernel
theorem dX11_keyAt_3 : decode cX11_keyAt 3 = .ok (.istore_n 2, 1) := by decide +kernel
theorem dX11_keyAt_4 : decode cX11_keyAt 4 = .ok (.iload_n 2, 1) := by decide +kernel
theorem dX11_keyAt_5 : decode cX11_keyAt 5 = .ok (.ldc 96, 2) := by decide +kernel
theorem dX11_keyAt_7 : decode cX11_keyAt 7 = .ok (.invokevirtual 98, 3) := by decide +kernel
theorem dX11_keyAt_10 : decode cX11_keyAt 10 = .ok (.if_icmp .ge 113, 3) := by decide +kernel
theorem dX11_keyAt_13 : decode cX11_keyAt 13 = .ok (.iconst 0, 1) := by decide +kernel
theorem dX11_keyAt_14 : decode cX11_keyAt 14 = .ok (.istore_n 3, 1) := by decide +kernel
theorem dX11_keyAt_15 : decode cX11_keyAt 15 = .ok (.ldc 96, 2) := by decide +kernel
theorem dX11_keyAt_17 : decode cX11_keyAt 17 = .ok (.iload_n 2, 1) := by decide +kernel
theorem dX11_keyAt_18 : decode cX11_keyAt 18 = .ok (.iload_n 3, 1) := by decide +kernel
theorem dX11_keyAt_19 : decode cX11_keyAt 19 = .ok (.iadd, 1) := by decide +kernel
theorem dX11_keyAt_20 : decode cX11_keyAt 20 = .ok (.invokevirtual 104, 3) := by decide +kernel
theorem dX11_keyAt_23 : decode cX11_keyAt 23 = .ok (.bipush 32, 2) := by decide +kernel
theorem dX11_keyAt_25 : decode cX11_keyAt 25 = .ok (.if_icmp .eq 44, 3) := by decide +kernel
theorem dX11_keyAt_28 : decode cX11_keyAt 28 = .ok (.aload_n 0, 1) := by decide +kernel
theorem dX11_keyAt_29 : decode cX11_keyAt 29 = .ok (.getfield 108, 3) := by decide +kernel
theorem dX11_keyAt_32 : decode cX11_keyAt 32 = .ok (.iload_n 3, 1) := by decide +kernel
theorem dX11_keyAt_33 : decode cX11_keyAt 33 = .ok (.iadd, 1) := by decide +kernel
theorem dX11_keyAt_34 : decode cX11_keyAt 34 = .ok (.aload_n 0, 1) := by decide +kernel
theorem dX11_keyAt_35 : decode cX11_keyAt 35 = .ok (.getfield 111, 3) := by decide +kernel
theorem dX11_keyAt_38 : decode cX11_keyAt 38 = .ok (.if_icmp .ge 31, 3) := by decide +kernel
theorem dX11_keyAt_41 : decode cX11_keyAt 41 = .ok (.aload_n 0, 1) := by decide +kernel
theorem dX11_keyAt_42 : decode cX11_keyAt 42 = .ok (.getfield 24, 3) := by decide +kernel
theorem dX11_keyAt_45 : decode cX11_keyAt 45 = .ok (.aload_n 0, 1) := by decide +kernel
theorem dX11_keyAt_46 : decode cX11_keyAt 46 = .ok (.getfield 108, 3) := by decide +kernel
theorem dX11_keyAt_49 : decode cX11_keyAt 49 = .ok (.iload_n 3, 1) := by decide +kernel
theorem dX11_keyAt_50 : decode cX11_keyAt 50 = .ok (.iadd, 1) := by decide +kernel
theorem dX11_keyAt_51 : decode cX11_keyAt 51 = .ok (.iaload, 1) := by decide +kernel
theorem dX11_keyAt_52 : decode cX11_keyAt 52 = .ok (.ldc 96, 2) := by decide +kernel
theorem dX11_keyAt_54 : decode cX11_keyAt 54 = .ok (.iload_n 2, 1) := by decide +kernel
theorem dX11_keyAt_55 : decode cX11_keyAt 55 = .ok (.iload_n 3, 1) := by decide +kernel
theorem dX11_keyAt_56 : decode cX11_keyAt 56 = .ok (.iadd, 1) := by decide +kernel
theorem dX11_keyAt_57 : decode cX11_keyAt 57 = .ok (.invokevirtual 104, 3) := by decide +kernel
theorem dX11_keyAt_60 : decode cX11_keyAt 60 = .ok (.if_icmp .ne 9, 3) := by decide +kernel
theorem dX11_keyAt_63 : decode cX11_keyAt 63 = .ok (.iinc 3 1, 3) := by decide +kernel
theorem dX11_keyAt_66 : decode cX11_keyAt 66 = .ok (.goto (-51), 3) := by decide +kernel
theorem dX11_keyAt_69 : decode cX11_keyAt 69 = .ok (.ldc 96, 2) := by decide +kernel
theorem dX11_keyAt_71 : decode cX11_keyAt 71 = .ok (.iload_n 2, 1) := by decide +kernel
theorem dX11_keyAt_72 : decode cX11_keyAt 72 = .ok (.iload_n 3, 1) := by decide +kernel
theorem dX11_keyAt_73 : decode cX11_keyAt 73 = .ok (.iadd, 1) := by decide +kernel
theorem dX11_keyAt_74 : decode cX11_keyAt 74 = .ok (.invokevirtual 104, 3) := by decide +kernel
theorem dX11_keyAt_77 : decode cX11_keyAt 77 = .ok (.bipush 32, 2) := by decide +kernel
theorem dX11_keyAt_79 : decode cX11_keyAt 79 = .ok (.if_icmp .ne 18, 3) := by decide +kernel
theorem dX11_keyAt_82 : decode cX11_keyAt 82 = .ok (.aload_n 0, 1) := by decide +kernel
theorem dX11_keyAt_83 : decode cX11_keyAt 83 = .ok (.getfield 108, 3) := by decide +kernel
theorem dX11_keyAt_86 : decode cX11_keyAt 86 = .ok (.iload_n 3, 1) := by decide +kernel
theorem dX11_keyAt_87 : decode cX11_keyAt 87 = .ok (.iadd, 1) := by decide +kernel
theorem dX11_keyAt_88 : decode cX11_keyAt 88 = .ok (.aload_n 0, 1) := by decide +kernel
theorem dX11_keyAt_89 : decode cX11_keyAt 89 = .ok (.getfield 111, 3) := by decide +kernel
theorem dX11_keyAt_92 : decode cX11_keyAt 92 = .ok (.if_icmp .ne 5, 3) := by decide +kernel
theorem dX11_keyAt_95 : decode cX11_keyAt 95 = .ok (.iload_n 1, 1) := by decide +kernel
theorem dX11_keyAt_96 : decode cX11_keyAt 96 = .ok (.ireturn, 1) := by decide +kernel
theorem dX11_keyAt_97 : decode cX11_keyAt 97 = .ok (.ldc 96, 2) := by decide +kernel
theorem dX11_keyAt_99 : decode cX11_keyAt 99 = .ok (.iload_n 2, 1) := by decide +kernel
theorem dX11_keyAt_100 : decode cX11_keyAt 100 = .ok (.invokevirtual 104, 3) := by decide +kernel
theorem dX11_keyAt_103 : decode cX11_keyAt 103 = .ok (.bipush 32, 2) := by decide +kernel
theorem dX11_keyAt_105 : decode cX11_keyAt 105 = .ok (.if_icmp .eq 9, 3) := by decide +kernel
theorem dX11_keyAt_108 : decode cX11_keyAt 108 = .ok (.iinc 2 1, 3) := by decide +kernel
theorem dX11_keyAt_111 : decode cX11_keyAt 111 = .ok (.goto (-14), 3) := by decide +kernel
theorem dX11_keyAt_114 : decode cX11_keyAt 114 = .ok (.iinc 2 1, 3) := by decide +kernel
theorem dX11_keyAt_117 : decode cX11_keyAt 117 = .ok (.iinc 1 1, 3) := by decide +kernel
theorem dX11_keyAt_120 : decode cX11_keyAt 120 = .ok (.goto (-116), 3) := by decide +kernel
theorem dX11_keyAt_123 : decode cX11_keyAt 123 = .ok (.bipush 29, 2) := by decide +kernel
theorem dX11_keyAt_125 : decode cX11_keyAt 125 = .ok (.ireturn, 1) := by decide +kernel
theorem dX11_next_0 : decode cX11_next 0 = .ok (.aload_n 0, 1) := by decide +kernel
theorem dX11_next_1 : decode cX11_next 1 = .ok (.aload_n 0, 1) := by decide +kernel
theorem dX11_next_2 : decode cX11_next 2 = .ok (.getfield 111, 3) := by decide +kernel
theorem dX11_next_5 : decode cX11_next 5 = .ok (.putfield 108, 3) := by decide +kernel
theorem dX11_next_8 : decode cX11_next 8 = .ok (.aload_n 0, 1) := by decide +kernel
theorem dX11_next_9 : decode cX11_next 9 = .ok (.aload_n 0, 1) := by decide +kernel
theorem dX11_next_10 : decode cX11_next 10 = .ok (.getfield 108, 3) := by decide +kernel
theorem dX11_next_13 : decode cX11_next 13 = .ok (.invokevirtual 114, 3) := by decide +kernel
theorem dX11_next_16 : decode cX11_next 16 = .ok (.bipush 10, 2) := by decide +kernel
theorem dX11_next_18 : decode cX11_next 18 = .ok (.if_icmp .eq 16, 3) := by decide +kernel
theorem dX11_next_21 : decode cX11_next 21 = .ok (.aload_n 0, 1) := by decide +kernel
theorem dX11_next_22 : decode cX11_next 22 = .ok (.aload_n 0, 1) := by decide +kernel
theorem dX11_next_23 : decode cX11_next 23 = .ok (.getfield 108, 3) := by decide +kernel
theorem dX11_next_26 : decode cX11_next 26 = .ok (.invokevirtual 114, 3) := by decide +kernel
theorem dX11_next_29 : decode cX11_next 29 = .ok (.bipush 32, 2) := by decide +kernel
theorem dX11_next_31 : decode cX11_next 31 = .ok (.if_icmp .ne 16, 3) := by decide +kernel
theorem dX11_next_34 : decode cX11_next 34 = .ok (.aload_n 0, 1) := by decide +kernel
theorem dX11_next_35 : decode cX11_next 35 = .ok (.dup, 1) := by decide +kernel
theorem dX11_next_36 : decode cX11_next 36 = .ok (.getfield 108, 3) := by decide +kernel
theorem dX11_next_39 : decode cX11_next 39 = .ok (.iconst 1, 1) := by decide +kernel
theorem dX11_next_40 : decode cX11_next 40 = .ok (.iadd, 1) := by decide +kernel
theorem dX11_next_41 : decode cX11_next 41 = .ok (.putfield 108, 3) := by decide +kernel
theorem dX11_next_44 : decode cX11_next 44 = .ok (.goto (-36), 3) := by decide +kernel
theorem dX11_next_47 : decode cX11_next 47 = .ok (.aload_n 0, 1) := by decide +kernel
theorem dX11_next_48 : decode cX11_next 48 = .ok (.aload_n 0, 1) := by decide +kernel
theorem dX11_next_49 : decode cX11_next 49 = .ok (.getfield 108, 3) := by decide +kernel
theorem dX11_next_52 : decode cX11_next 52 = .ok (.putfield 111, 3) := by decide +kernel
theorem dX11_next_55 : decode cX11_next 55 = .ok (.aload_n 0, 1) := by decide +kernel
theorem dX11_next_56 : decode cX11_next 56 = .ok (.getfield 108, 3) := by decide +kernel
theorem dX11_next_59 : decode cX11_next 59 = .ok (.aload_n 0, 1) := by decide +kernel
theorem dX11_next_60 : decode cX11_next 60 = .ok (.getfield 93, 3) := by decide +kernel
theorem dX11_next_63 : decode cX11_next 63 = .ok (.if_icmp .lt 12, 3) := by decide +kernel
theorem dX11_next_66 : decode cX11_next 66 = .ok (.aload_n 0, 1) := by decide +kernel
theorem dX11_next_67 : decode cX11_next 67 = .ok (.bipush 34, 2) := by decide +kernel
theorem dX11_next_69 : decode cX11_next 69 = .ok (.putfield 117, 3) := by decide +kernel
theorem dX11_next_72 : decode cX11_next 72 = .ok (.goto 234, 3) := by decide +kernel
theorem dX11_next_75 : decode cX11_next 75 = .ok (.aload_n 0, 1) := by decide +kernel
theorem dX11_next_76 : decode cX11_next 76 = .ok (.aload_n 0, 1) := by decide +kernel
theorem dX11_next_77 : decode cX11_next 77 = .ok (.getfield 108, 3) := by decide +kernel
theorem dX11_next_80 : decode cX11_next 80 = .ok (.invokevirtual 114, 3) := by decide +kernel
theorem dX11_next_83 : decode cX11_next 83 = .ok (.invokestatic 120, 3) := by decide +kernel
theorem dX11_next_86 : decode cX11_next 86 = .ok (.ifCond .eq 41, 3) := by decide +kernel
theorem dX11_next_89 : decode cX11_next 89 = .ok (.aload_n 0, 1) := by decide +kernel
theorem dX11_next_90 : decode cX11_next 90 = .ok (.aload_n 0, 1) := by decide +kernel
theorem dX11_next_91 : decode cX11_next 91 = .ok (.getfield 111, 3) := by decide +kernel
theorem dX11_next_94 : decode cX11_next 94 = .ok (.invokevirtual 114, 3) := by decide +kernel
theorem dX11_next_97 : decode cX11_next 97 = .ok (.invokestatic 120, 3) := by decide +kernel
theorem dX11_next_100 : decode cX11_next 100 = .ok (.ifCond .eq 16, 3) := by decide +kernel
theorem dX11_next_103 : decode cX11_next 103 = .ok (.aload_n 0, 1) := by decide +kernel
theorem dX11_next_104 : decode cX11_next 104 = .ok (.dup, 1) := by decide +kernel
theorem dX11_next_105 : decode cX11_next 105 = .ok (.getfield 111, 3) := by decide +kernel
theorem dX11_next_108 : decode cX11_next 108 = .ok (.iconst 1, 1) := by decide +kernel
theorem dX11_next_109 : decode cX11_next 109 = .ok (.iadd, 1) := by decide +kernel
theorem dX11_next_110 : decode cX11_next 110 = .ok (.putfield 111, 3) := by decide +kernel
theorem dX11_next_113 : decode cX11_next 113 = .ok (.goto (-24), 3) := by decide +kernel
theorem dX11_next_116 : decode cX11_next 116 = .ok (.aload_n 0, 1) := by decide +kernel
theorem dX11_next_117 : decode cX11_next 117 = .ok (.aload_n 0, 1) := by decide +kernel
theorem dX11_next_118 : decode cX11_next 118 = .ok (.invokevirtual 124, 3) := by decide +kernel
theorem dX11_next_121 : decode cX11_next 121 = .ok (.putfield 117, 3) := by decide +kernel
theorem dX11_next_124 : decode cX11_next 124 = .ok (.goto 182, 3) := by decide +kernel
theorem dX11_next_127 : decode cX11_next 127 = .ok (.aload_n 0, 1) := by decide +kernel
theorem dX11_next_128 : decode cX11_next 128 = .ok (.aload_n 0, 1) := by decide +kernel
theorem dX11_next_129 : decode cX11_next 129 = .ok (.getfield 108, 3) := by decide +kernel
theorem dX11_next_132 : decode cX11_next 132 = .ok (.invokevirtual 114, 3) := by decide +kernel
theorem dX11_next_135 : decode cX11_next 135 = .ok (.invokestatic 127, 3) := by decide +kernel
theorem dX11_next_138 : decode cX11_next 138 = .ok (.ifCond .eq 98, 3) := by decide +kernel
theorem dX11_next_141 : decode cX11_next 141 = .ok (.aload_n 0, 1) := by decide +kernel
theorem dX11_next_142 : decode cX11_next 142 = .ok (.iconst 0, 1) := by decide +kernel
theorem dX11_next_143 : decode cX11_next 143 = .ok (.putfield 130, 3) := by decide +kernel
theorem dX11_next_146 : decode cX11_next 146 = .ok (.aload_n 0, 1) := by decide +kernel
theorem dX11_next_147 : decode cX11_next 147 = .ok (.aload_n 0, 1) := by decide +kernel
theorem dX11_next_148 : decode cX11_next 148 = .ok (.getfield 111, 3) := by decide +kernel
theorem dX11_next_151 : decode cX11_next 151 = .ok (.invokevirtual 114, 3) := by decide +kernel
theorem dX11_next_154 : decode cX11_next 154 = .ok (.invokestatic 127, 3) := by decide +kernel
theorem dX11_next_157 : decode cX11_next 157 = .ok (.ifCond .eq 52, 3) := by decide +kernel
theorem dX11_next_160 : decode cX11_next 160 = .ok (.aload_n 0, 1) := by decide +kernel
theorem dX11_next_161 : decode cX11_next 161 = .ok (.getfield 111, 3) := by decide +kernel
theorem dX11_next_164 : decode cX11_next 164 = .ok (.aload_n 0, 1) := by decide +kernel
theorem dX11_next_165 : decode cX11_next 165 = .ok (.getfield 108, 3) := by decide +kernel
theorem dX11_next_168 : decode cX11_next 168 = .ok (.isub, 1) := by decide +kernel
theorem dX11_next_169 : decode cX11_next 169 = .ok (.iconst 3, 1) := by decide +kernel
theorem dX11_next_170 : decode cX11_next 170 = .ok (.if_icmp .ge 26, 3) := by decide +kernel
theorem dX11_next_173 : decode cX11_next 173 = .ok (.aload_n 0, 1) := by decide +kernel
theorem dX11_next_174 : decode cX11_next 174 = .ok (.bipush 10, 2) := by decide +kernel
theorem dX11_next_176 : decode cX11_next 176 = .ok (.aload_n 0, 1) := by decide +kernel
theorem dX11_next_177 : decode cX11_next 177 = .ok (.getfield 130, 3) := by decide +kernel
theorem dX11_next_180 : decode cX11_next 180 = .ok (.imul, 1) := by decide +kernel
theorem dX11_next_181 : decode cX11_next 181 = .ok (.aload_n 0, 1) := by decide +kernel
theorem dX11_next_182 : decode cX11_next 182 = .ok (.aload_n 0, 1) := by decide +kernel
theorem dX11_next_183 : decode cX11_next 183 = .ok (.getfield 111, 3) := by decide +kernel
theorem dX11_next_186 : decode cX11_next 186 = .ok (.invokevirtual 114, 3) := by decide +kernel
theorem dX11_next_189 : decode cX11_next 189 = .ok (.iadd, 1) := by decide +kernel
theorem dX11_next_190 : decode cX11_next 190 = .ok (.bipush 48, 2) := by decide +kernel
theorem dX11_next_192 : decode cX11_next 192 = .ok (.isub, 1) := by decide +kernel
theorem dX11_next_193 : decode cX11_next 193 = .ok (.putfield 130, 3) := by decide +kernel
theorem dX11_next_196 : decode cX11_next 196 = .ok (.aload_n 0, 1) := by decide +kernel
theorem dX11_next_197 : decode cX11_next 197 = .ok (.dup, 1) := by decide +kernel
theorem dX11_next_198 : decode cX11_next 198 = .ok (.getfield 111, 3) := by decide +kernel
theorem dX11_next_201 : decode cX11_next 201 = .ok (.iconst 1, 1) := by decide +kernel
theorem dX11_next_202 : decode cX11_next 202 = .ok (.iadd, 1) := by decide +kernel
theorem dX11_next_203 : decode cX11_next 203 = .ok (.putfield 111, 3) := by decide +kernel
theorem dX11_next_206 : decode cX11_next 206 = .ok (.goto (-60), 3) := by decide +kernel
theorem dX11_next_209 : decode cX11_next 209 = .ok (.aload_n 0, 1) := by decide +kernel
theorem dX11_next_210 : decode cX11_next 210 = .ok (.aload_n 0, 1) := by decide +kernel
theorem dX11_next_211 : decode cX11_next 211 = .ok (.getfield 111, 3) := by decide +kernel
theorem dX11_next_214 : decode cX11_next 214 = .ok (.aload_n 0, 1) := by decide +kernel
theorem dX11_next_215 : decode cX11_next 215 = .ok (.getfield 108, 3) := by decide +kernel
theorem dX11_next_218 : decode cX11_next 218 = .ok (.isub, 1) := by decide +kernel
theorem dX11_next_219 : decode cX11_next 219 = .ok (.iconst 3, 1) := by decide +kernel
theorem dX11_next_220 : decode cX11_next 220 = .ok (.if_icmp .le 8, 3) := by decide +kernel
theorem dX11_next_223 : decode cX11_next 223 = .ok (.bipush 35, 2) := by decide +kernel
theorem dX11_next_225 : decode cX11_next 225 = .ok (.goto 5, 3) := by decide +kernel
theorem dX11_next_228 : decode cX11_next 228 = .ok (.bipush 30, 2) := by decide +kernel
theorem dX11_next_230 : decode cX11_next 230 = .ok (.putfield 117, 3) := by decide +kernel
theorem dX11_next_233 : decode cX11_next 233 = .ok (.goto 73, 3) := by decide +kernel
theorem dX11_next_236 : decode cX11_next 236 = .ok (.aload_n 0, 1) := by decide +kernel
theorem dX11_next_237 : decode cX11_next 237 = .ok (.dup, 1) := by decide +kernel
theorem dX11_next_238 : decode cX11_next 238 = .ok (.getfield 111, 3) := by decide +kernel
theorem dX11_next_241 : decode cX11_next 241 = .ok (.iconst 1, 1) := by decide +kernel
theorem dX11_next_242 : decode cX11_next 242 = .ok (.iadd, 1) := by decide +kernel
theorem dX11_next_243 : decode cX11_next 243 = .ok (.putfield 111, 3) := by decide +kernel
theorem dX11_next_246 : decode cX11_next 246 = .ok (.aload_n 0, 1) := by decide +kernel
theorem dX11_next_247 : decode cX11_next 247 = .ok (.aload_n 0, 1) := by decide +kernel
theorem dX11_next_248 : decode cX11_next 248 = .ok (.aload_n 0, 1) := by decide +kernel
theorem dX11_next_249 : decode cX11_next 249 = .ok (.getfield 108, 3) := by decide +kernel
theorem dX11_next_252 : decode cX11_next 252 = .ok (.invokevirtual 114, 3) := by decide +kernel
theorem dX11_next_255 : decode cX11_next 255 = .ok (.bipush 59, 2) := by decide +kernel
theorem dX11_next_257 : decode cX11_next 257 = .ok (.if_icmp .ne 8, 3) := by decide +kernel
theorem dX11_next_260 : decode cX11_next 260 = .ok (.bipush 31, 2) := by decide +kernel
theorem dX11_next_262 : decode cX11_next 262 = .ok (.goto 41, 3) := by decide +kernel
theorem dX11_next_265 : decode cX11_next 265 = .ok (.aload_n 0, 1) := by decide +kernel
theorem dX11_next_266 : decode cX11_next 266 = .ok (.aload_n 0, 1) := by decide +kernel
theorem dX11_next_267 : decode cX11_next 267 = .ok (.getfield 108, 3) := by decide +kernel
theorem dX11_next_270 : decode cX11_next 270 = .ok (.invokevirtual 114, 3) := by decide +kernel
theorem dX11_next_273 : decode cX11_next 273 = .ok (.bipush 40, 2) := by decide +kernel
theorem dX11_next_275 : decode cX11_next 275 = .ok (.if_icmp .ne 8, 3) := by decide +kernel
theorem dX11_next_278 : decode cX11_next 278 = .ok (.bipush 32, 2) := by decide +kernel
theorem dX11_next_280 : decode cX11_next 280 = .ok (.goto 23, 3) := by decide +kernel
theorem dX11_next_283 : decode cX11_next 283 = .ok (.aload_n 0, 1) := by decide +kernel
theorem dX11_next_284 : decode cX11_next 284 = .ok (.aload_n 0, 1) := by decide +kernel
theorem dX11_next_285 : decode cX11_next 285 = .ok (.getfield 108, 3) := by decide +kernel
theorem dX11_next_288 : decode cX11_next 288 = .ok (.invokevirtual 114, 3) := by decide +kernel
theorem dX11_next_291 : decode cX11_next 291 = .ok (.bipush 41, 2) := by decide +kernel
theorem dX11_next_293 : decode cX11_next 293 = .ok (.if_icmp .ne 8, 3) := by decide +kernel
theorem dX11_next_296 : decode cX11_next 296 = .ok (.bipush 33, 2) := by decide +kernel
theorem dX11_next_298 : decode cX11_next 298 = .ok (.goto 5, 3) := by decide +kernel
theorem dX11_next_301 : decode cX11_next 301 = .ok (.bipush 35, 2) := by decide +kernel
theorem dX11_next_303 : decode cX11_next 303 = .ok (.putfield 117, 3) := by decide +kernel
theorem dX11_next_306 : decode cX11_next 306 = .ok (.return_, 1) := by decide +kernel
theorem dX11_fails_0 : decode cX11_fails 0 = .ok (.aload_n 0, 1) := by decide +kernel
theorem dX11_fails_1 : decode cX11_fails 1 = .ok (.getfield 133, 3) := by decide +kernel
theorem dX11_fails_4 : decode cX11_fails 4 = .ok (.ifCond .eq 4, 3) := by decide +kernel
theorem dX11_fails_7 : decode cX11_fails 7 = .ok (.return_, 1) := by decide +kernel
theorem dX11_fails_8 : decode cX11_fails 8 = .ok (.aload_n 0, 1) := by decide +kernel
theorem dX11_fails_9 : decode cX11_fails 9 = .ok (.aload_n 0, 1) := by decide +kernel
theorem dX11_fails_10 : decode cX11_fails 10 = .ok (.getfield 117, 3) := by decide +kernel
theorem dX11_fails_13 : decode cX11_fails 13 = .ok (.bipush 35, 2) := by decide +kernel
theorem dX11_fails_15 : decode cX11_fails 15 = .ok (.if_icmp .ne 7, 3) := by decide +kernel
theorem dX11_fails_18 : decode cX11_fails 18 = .ok (.iconst 1, 1) := by decide +kernel
theorem dX11_fails_19 : decode cX11_fails 19 = .ok (.goto 4, 3) := by decide +kernel
theorem dX11_fails_22 : decode cX11_fails 22 = .ok (.iload_n 1, 1) := by decide +kernel
theorem dX11_fails_23 : decode cX11_fails 23 = .ok (.putfield 133, 3) := by decide +kernel
theorem dX11_fails_26 : decode cX11_fails 26 = .ok (.aload_n 0, 1) := by decide +kernel
theorem dX11_fails_27 : decode cX11_fails 27 = .ok (.aload_n 0, 1) := by decide +kernel
theorem dX11_fails_28 : decode cX11_fails 28 = .ok (.getfield 108, 3) := by decide +kernel
theorem dX11_fails_31 : decode cX11_fails 31 = .ok (.putfield 136, 3) := by decide +kernel
theorem dX11_fails_34 : decode cX11_fails 34 = .ok (.return_, 1) := by decide +kernel
theorem dX11_is_0 : decode cX11_is 0 = .ok (.aload_n 0, 1) := by decide +kernel
theorem dX11_is_1 : decode cX11_is 1 = .ok (.getfield 133, 3) := by decide +kernel
theorem dX11_is_4 : decode cX11_is 4 = .ok (.ifCond .ne 15, 3) := by decide +kernel
theorem dX11_is_7 : decode cX11_is 7 = .ok (.aload_n 0, 1) := by decide +kernel
theorem dX11_is_8 : decode cX11_is 8 = .ok (.getfield 117, 3) := by decide +kernel
theorem dX11_is_11 : decode cX11_is 11 = .ok (.iload_n 1, 1) := by decide +kernel
theorem dX11_is_12 : decode cX11_is 12 = .ok (.if_icmp .ne 7, 3) := by decide +kernel
theorem dX11_is_15 : decode cX11_is 15 = .ok (.iconst 1, 1) := by decide +kernel
theorem dX11_is_16 : decode cX11_is 16 = .ok (.goto 4, 3) := by decide +kernel
theorem dX11_is_19 : decode cX11_is 19 = .ok (.iconst 0, 1) := by decide +kernel
theorem dX11_is_20 : decode cX11_is 20 = .ok (.ireturn, 1) := by decide +kernel
theorem dX11_eats_0 : decode cX11_eats 0 = .ok (.aload_n 0, 1) := by decide +kernel
theorem dX11_eats_1 : decode cX11_eats 1 = .ok (.iload_n 1, 1) := by decide +kernel
theorem dX11_eats_2 : decode cX11_eats 2 = .ok (.invokevirtual 139, 3) := by decide +kernel
theorem dX11_eats_5 : decode cX11_eats 5 = .ok (.ifCond .ne 5, 3) := by decide +kernel
theorem dX11_eats_8 : decode cX11_eats 8 = .ok (.iconst 0, 1) := by decide +kernel
theorem dX11_eats_9 : decode cX11_eats 9 = .ok (.ireturn, 1) := by decide +kernel
theorem dX11_eats_10 : decode cX11_eats 10 = .ok (.aload_n 0, 1) := by decide +kernel
theorem dX11_eats_11 : decode cX11_eats 11 = .ok (.invokevirtual 142, 3) := by decide +kernel
theorem dX11_eats_14 : decode cX11_eats 14 = .ok (.iconst 1, 1) := by decide +kernel
theorem dX11_eats_15 : decode cX11_eats 15 = .ok (.ireturn, 1) := by decide +kernel
theorem dX11_needs_0 : decode cX11_needs 0 = .ok (.aload_n 0, 1) := by decide +kernel
theorem dX11_needs_1 : decode cX11_needs 1 = .ok (.iload_n 1, 1) := by decide +kernel
theorem dX11_needs_2 : decode cX11_needs 2 = .ok (.invokevirtual 145, 3) := by decide +kernel
theorem dX11_needs_5 : decode cX11_needs 5 = .ok (.ifCond .ne 8, 3) := by decide +kernel
theorem dX11_needs_8 : decode cX11_needs 8 = .ok (.aload_n 0, 1) := by decide +kernel
theorem dX11_needs_9 : decode cX11_needs 9 = .ok (.iconst 2, 1) := by decide +kernel
theorem dX11_needs_10 : decode cX11_needs 10 = .ok (.invokevirtual 148, 3) := by decide +kernel
theorem dX11_needs_13 : decode cX11_needs 13 = .ok (.return_, 1) := by decide +kernel
theorem dX11_takes_0 : decode cX11_takes 0 = .ok (.aload_n 0, 1) := by decide +kernel
theorem dX11_takes_1 : decode cX11_takes 1 = .ok (.bipush 30, 2) := by decide +kernel
theorem dX11_takes_3 : decode cX11_takes 3 = .ok (.invokevirtual 139, 3) := by decide +kernel
theorem dX11_takes_6 : decode cX11_takes 6 = .ok (.ifCond .ne 11, 3) := by decide +kernel
theorem dX11_takes_9 : decode cX11_takes 9 = .ok (.aload_n 0, 1) := by decide +kernel
theorem dX11_takes_10 : decode cX11_takes 10 = .ok (.iconst 2, 1) := by decide +kernel
theorem dX11_takes_11 : decode cX11_takes 11 = .ok (.invokevirtual 148, 3) := by decide +kernel
theorem dX11_takes_14 : decode cX11_takes 14 = .ok (.goto 23, 3) := by decide +kernel
theorem dX11_takes_17 : decode cX11_takes 17 = .ok (.aload_n 0, 1) := by decide +kernel
theorem dX11_takes_18 : decode cX11_takes 18 = .ok (.getfield 130, 3) := by decide +kernel
theorem dX11_takes_21 : decode cX11_takes 21 = .ok (.i2l, 1) := by decide +kernel
theorem dX11_takes_22 : decode cX11_takes 22 = .ok (.iload_n 1, 1) := by decide +kernel
theorem dX11_takes_23 : decode cX11_takes 23 = .ok (.i2l, 1) := by decide +kernel
theorem dX11_takes_24 : decode cX11_takes 24 = .ok (.iload_n 2, 1) := by decide +kernel
theorem dX11_takes_25 : decode cX11_takes 25 = .ok (.i2l, 1) := by decide +kernel
theorem dX11_takes_26 : decode cX11_takes 26 = .ok (.invokestatic 152, 3) := by decide +kernel
theorem dX11_takes_29 : decode cX11_takes 29 = .ok (.ifCond .ne 8, 3) := by decide +kernel
theorem dX11_takes_32 : decode cX11_takes 32 = .ok (.aload_n 0, 1) := by decide +kernel
theorem dX11_takes_33 : decode cX11_takes 33 = .ok (.iconst 3, 1) := by decide +kernel
theorem dX11_takes_34 : decode cX11_takes 34 = .ok (.invokevirtual 148, 3) := by decide +kernel
theorem dX11_takes_37 : decode cX11_takes 37 = .ok (.aload_n 0, 1) := by decide +kernel
theorem dX11_takes_38 : decode cX11_takes 38 = .ok (.getfield 130, 3) := by decide +kernel
theorem dX11_takes_41 : decode cX11_takes 41 = .ok (.istore_n 3, 1) := by decide +kernel
theorem dX11_takes_42 : decode cX11_takes 42 = .ok (.aload_n 0, 1) := by decide +kernel
theorem dX11_takes_43 : decode cX11_takes 43 = .ok (.getfield 133, 3) := by decide +kernel
theorem dX11_takes_46 : decode cX11_takes 46 = .ok (.ifCond .ne 7, 3) := by decide +kernel
theorem dX11_takes_49 : decode cX11_takes 49 = .ok (.aload_n 0, 1) := by decide +kernel
theorem dX11_takes_50 : decode cX11_takes 50 = .ok (.invokevirtual 142, 3) := by decide +kernel
theorem dX11_takes_53 : decode cX11_takes 53 = .ok (.iload_n 3, 1) := by decide +kernel
theorem dX11_takes_54 : decode cX11_takes 54 = .ok (.ireturn, 1) := by decide +kernel
theorem dX11_readCar_0 : decode cX11_readCar 0 = .ok (.aload_n 0, 1) := by decide +kernel
theorem dX11_readCar_1 : decode cX11_readCar 1 = .ok (.getfield 27, 3) := by decide +kernel
theorem dX11_readCar_4 : decode cX11_readCar 4 = .ok (.iconst 1, 1) := by decide +kernel
theorem dX11_readCar_5 : decode cX11_readCar 5 = .ok (.iaload, 1) := by decide +kernel
theorem dX11_readCar_6 : decode cX11_readCar 6 = .ok (.istore_n 1, 1) := by decide +kernel
theorem dX11_readCar_7 : decode cX11_readCar 7 = .ok (.iload_n 1, 1) := by decide +kernel
theorem dX11_readCar_8 : decode cX11_readCar 8 = .ok (.bipush 8, 2) := by decide +kernel
theorem dX11_readCar_10 : decode cX11_readCar 10 = .ok (.if_icmp .ne 8, 3) := by decide +kernel
theorem dX11_readCar_13 : decode cX11_readCar 13 = .ok (.aload_n 0, 1) := by decide +kernel
theorem dX11_readCar_14 : decode cX11_readCar 14 = .ok (.iconst 4, 1) := by decide +kernel
theorem dX11_readCar_15 : decode cX11_readCar 15 = .ok (.invokevirtual 148, 3) := by decide +kernel
theorem dX11_readCar_18 : decode cX11_readCar 18 = .ok (.aload_n 0, 1) := by decide +kernel
theorem dX11_readCar_19 : decode cX11_readCar 19 = .ok (.getfield 133, 3) := by decide +kernel
theorem dX11_readCar_22 : decode cX11_readCar 22 = .ok (.ifCond .eq 4, 3) := by decide +kernel
theorem dX11_readCar_25 : decode cX11_readCar 25 = .ok (.return_, 1) := by decide +kernel
theorem dX11_readCar_26 : decode cX11_readCar 26 = .ok (.aload_n 0, 1) := by decide +kernel
theorem dX11_readCar_27 : decode cX11_readCar 27 = .ok (.invokevirtual 142, 3) := by decide +kernel
theorem dX11_readCar_30 : decode cX11_readCar 30 = .ok (.aload_n 0, 1) := by decide +kernel
theorem dX11_readCar_31 : decode cX11_readCar 31 = .ok (.getfield 27, 3) := by decide +kernel
theorem dX11_readCar_34 : decode cX11_readCar 34 = .ok (.iconst 2, 1) := by decide +kernel
theorem dX11_readCar_35 : decode cX11_readCar 35 = .ok (.iload_n 1, 1) := by decide +kernel
theorem dX11_readCar_36 : decode cX11_readCar 36 = .ok (.iadd, 1) := by decide +kernel
theorem dX11_readCar_37 : decode cX11_readCar 37 = .ok (.aload_n 0, 1) := by decide +kernel
theorem dX11_readCar_38 : decode cX11_readCar 38 = .ok (.iconst 0, 1) := by decide +kernel
theorem dX11_readCar_39 : decode cX11_readCar 39 = .ok (.aload_n 0, 1) := by decide +kernel
theorem dX11_readCar_40 : decode cX11_readCar 40 = .ok (.getfield 27, 3) := by decide +kernel
theorem dX11_readCar_43 : decode cX11_readCar 43 = .ok (.iconst 0, 1) := by decide +kernel
theorem dX11_readCar_44 : decode cX11_readCar 44 = .ok (.iaload, 1) := by decide +kernel
theorem dX11_readCar_45 : decode cX11_readCar 45 = .ok (.iconst 1, 1) := by decide +kernel
theorem dX11_readCar_46 : decode cX11_readCar 46 = .ok (.isub, 1) := by decide +kernel
theorem dX11_readCar_47 : decode cX11_readCar 47 = .ok (.invokevirtual 156, 3) := by decide +kernel
theorem dX11_readCar_50 : decode cX11_readCar 50 = .ok (.iastore, 1) := by decide +kernel
theorem dX11_readCar_51 : decode cX11_readCar 51 = .ok (.aload_n 0, 1) := by decide +kernel
theorem dX11_readCar_52 : decode cX11_readCar 52 = .ok (.iconst 2, 1) := by decide +kernel
theorem dX11_readCar_53 : decode cX11_readCar 53 = .ok (.invokevirtual 160, 3) := by decide +kernel
theorem dX11_readCar_56 : decode cX11_readCar 56 = .ok (.aload_n 0, 1) := by decide +kernel
theorem dX11_readCar_57 : decode cX11_readCar 57 = .ok (.getfield 27, 3) := by decide +kernel
theorem dX11_readCar_60 : decode cX11_readCar 60 = .ok (.bipush 10, 2) := by decide +kernel
theorem dX11_readCar_62 : decode cX11_readCar 62 = .ok (.iload_n 1, 1) := by decide +kernel
theorem dX11_readCar_63 : decode cX11_readCar 63 = .ok (.iadd, 1) := by decide +kernel
theorem dX11_readCar_64 : decode cX11_readCar 64 = .ok (.aload_n 0, 1) := by decide +kernel
theorem dX11_readCar_65 : decode cX11_readCar 65 = .ok (.iconst 1, 1) := by decide +kernel
theorem dX11_readCar_66 : decode cX11_readCar 66 = .ok (.sipush 200, 3) := by decide +kernel
theorem dX11_readCar_69 : decode cX11_readCar 69 = .ok (.invokevirtual 156, 3) := by decide +kernel
theorem dX11_readCar_72 : decode cX11_readCar 72 = .ok (.iastore, 1) := by decide +kernel
theorem dX11_readCar_73 : decode cX11_readCar 73 = .ok (.aload_n 0, 1) := by decide +kernel
theorem dX11_readCar_74 : decode cX11_readCar 74 = .ok (.iconst 3, 1) := by decide +kernel
theorem dX11_readCar_75 : decode cX11_readCar 75 = .ok (.invokevirtual 160, 3) := by decide +kernel
theorem dX11_readCar_78 : decode cX11_readCar 78 = .ok (.aload_n 0, 1) := by decide +kernel
theorem dX11_readCar_79 : decode cX11_readCar 79 = .ok (.getfield 27, 3) := by decide +kernel
theorem dX11_readCar_82 : decode cX11_readCar 82 = .ok (.bipush 18, 2) := by decide +kernel
theorem dX11_readCar_84 : decode cX11_readCar 84 = .ok (.iload_n 1, 1) := by decide +kernel
theorem dX11_readCar_85 : decode cX11_readCar 85 = .ok (.iadd, 1) := by decide +kernel
theorem dX11_readCar_86 : decode cX11_readCar 86 = .ok (.aload_n 0, 1) := by decide +kernel
theorem dX11_readCar_87 : decode cX11_readCar 87 = .ok (.iconst 1, 1) := by decide +kernel
theorem dX11_readCar_88 : decode cX11_readCar 88 = .ok (.bipush 9, 2) := by decide +kernel
theorem dX11_readCar_90 : decode cX11_readCar 90 = .ok (.invokevirtual 156, 3) := by decide +kernel
theorem dX11_readCar_93 : decode cX11_readCar 93 = .ok (.iastore, 1) := by decide +kernel
theorem dX11_readCar_94 : decode cX11_readCar 94 = .ok (.aload_n 0, 1) := by decide +kernel
theorem dX11_readCar_95 : decode cX11_readCar 95 = .ok (.iconst 4, 1) := by decide +kernel
theorem dX11_readCar_96 : decode cX11_readCar 96 = .ok (.invokevirtual 160, 3) := by decide +kernel
theorem dX11_readCar_99 : decode cX11_readCar 99 = .ok (.aload_n 0, 1) := by decide +kernel
theorem dX11_readCar_100 : decode cX11_readCar 100 = .ok (.getfield 27, 3) := by decide +kernel
theorem dX11_readCar_103 : decode cX11_readCar 103 = .ok (.bipush 26, 2) := by decide +kernel
theorem dX11_readCar_105 : decode cX11_readCar 105 = .ok (.iload_n 1, 1) := by decide +kernel
theorem dX11_readCar_106 : decode cX11_readCar 106 = .ok (.iadd, 1) := by decide +kernel
theorem dX11_readCar_107 : decode cX11_readCar 107 = .ok (.aload_n 0, 1) := by decide +kernel
theorem dX11_readCar_108 : decode cX11_readCar 108 = .ok (.iconst 0, 1) := by decide +kernel
theorem dX11_readCar_109 : decode cX11_readCar 109 = .ok (.iconst 3, 1) := by decide +kernel
theorem dX11_readCar_110 : decode cX11_readCar 110 = .ok (.invokevirtual 156, 3) := by decide +kernel
theorem dX11_readCar_113 : decode cX11_readCar 113 = .ok (.iastore, 1) := by decide +kernel
theorem dX11_readCar_114 : decode cX11_readCar 114 = .ok (.aload_n 0, 1) := by decide +kernel
theorem dX11_readCar_115 : decode cX11_readCar 115 = .ok (.getfield 27, 3) := by decide +kernel
theorem dX11_readCar_118 : decode cX11_readCar 118 = .ok (.iconst 1, 1) := by decide +kernel
theorem dX11_readCar_119 : decode cX11_readCar 119 = .ok (.dup2, 1) := by decide +kernel
theorem dX11_readCar_120 : decode cX11_readCar 120 = .ok (.iaload, 1) := by decide +kernel
theorem dX11_readCar_121 : decode cX11_readCar 121 = .ok (.iconst 1, 1) := by decide +kernel
theorem dX11_readCar_122 : decode cX11_readCar 122 = .ok (.iadd, 1) := by decide +kernel
theorem dX11_readCar_123 : decode cX11_readCar 123 = .ok (.iastore, 1) := by decide +kernel
theorem dX11_readCar_124 : decode cX11_readCar 124 = .ok (.return_, 1) := by decide +kernel
theorem dX11_lanesNeeded_0 : decode cX11_lanesNeeded 0 = .ok (.iconst 1, 1) := by decide +kernel
theorem dX11_lanesNeeded_1 : decode cX11_lanesNeeded 1 = .ok (.istore_n 1, 1) := by decide +kernel
theorem dX11_lanesNeeded_2 : decode cX11_lanesNeeded 2 = .ok (.iconst 0, 1) := by decide +kernel
theorem dX11_lanesNeeded_3 : decode cX11_lanesNeeded 3 = .ok (.istore_n 2, 1) := by decide +kernel
theorem dX11_lanesNeeded_4 : decode cX11_lanesNeeded 4 = .ok (.iload_n 2, 1) := by decide +kernel
theorem dX11_lanesNeeded_5 : decode cX11_lanesNeeded 5 = .ok (.aload_n 0, 1) := by decide +kernel
theorem dX11_lanesNeeded_6 : decode cX11_lanesNeeded 6 = .ok (.getfield 27, 3) := by decide +kernel
theorem dX11_lanesNeeded_9 : decode cX11_lanesNeeded 9 = .ok (.iconst 1, 1) := by decide +kernel
theorem dX11_lanesNeeded_10 : decode cX11_lanesNeeded 10 = .ok (.iaload, 1) := by decide +kernel
theorem dX11_lanesNeeded_11 : decode cX11_lanesNeeded 11 = .ok (.if_icmp .ge 38, 3) := by decide +kernel
theorem dX11_lanesNeeded_14 : decode cX11_lanesNeeded 14 = .ok (.aload_n 0, 1) := by decide +kernel
theorem dX11_lanesNeeded_15 : decode cX11_lanesNeeded 15 = .ok (.getfield 27, 3) := by decide +kernel
theorem dX11_lanesNeeded_18 : decode cX11_lanesNeeded 18 = .ok (.iconst 2, 1) := by decide +kernel
theorem dX11_lanesNeeded_19 : decode cX11_lanesNeeded 19 = .ok (.iload_n 2, 1) := by decide +kernel
theorem dX11_lanesNeeded_20 : decode cX11_lanesNeeded 20 = .ok (.iadd, 1) := by decide +kernel
theorem dX11_lanesNeeded_21 : decode cX11_lanesNeeded 21 = .ok (.iaload, 1) := by decide +kernel
theorem dX11_lanesNeeded_22 : decode cX11_lanesNeeded 22 = .ok (.iconst 1, 1) := by decide +kernel
theorem dX11_lanesNeeded_23 : decode cX11_lanesNeeded 23 = .ok (.iadd, 1) := by decide +kernel
theorem dX11_lanesNeeded_24 : decode cX11_lanesNeeded 24 = .ok (.iload_n 1, 1) := by decide +kernel
theorem dX11_lanesNeeded_25 : decode cX11_lanesNeeded 25 = .ok (.if_icmp .le 16, 3) := by decide +kernel
theorem dX11_lanesNeeded_28 : decode cX11_lanesNeeded 28 = .ok (.aload_n 0, 1) := by decide +kernel
theorem dX11_lanesNeeded_29 : decode cX11_lanesNeeded 29 = .ok (.getfield 27, 3) := by decide +kernel
theorem dX11_lanesNeeded_32 : decode cX11_lanesNeeded 32 = .ok (.iconst 2, 1) := by decide +kernel
theorem dX11_lanesNeeded_33 : decode cX11_lanesNeeded 33 = .ok (.iload_n 2, 1) := by decide +kernel
theorem dX11_lanesNeeded_34 : decode cX11_lanesNeeded 34 = .ok (.iadd, 1) := by decide +kernel
theorem dX11_lanesNeeded_35 : decode cX11_lanesNeeded 35 = .ok (.iaload, 1) := by decide +kernel
theorem dX11_lanesNeeded_36 : decode cX11_lanesNeeded 36 = .ok (.iconst 1, 1) := by decide +kernel
theorem dX11_lanesNeeded_37 : decode cX11_lanesNeeded 37 = .ok (.iadd, 1) := by decide +kernel
theorem dX11_lanesNeeded_38 : decode cX11_lanesNeeded 38 = .ok (.goto 4, 3) := by decide +kernel
theorem dX11_lanesNeeded_41 : decode cX11_lanesNeeded 41 = .ok (.iload_n 1, 1) := by decide +kernel
theorem dX11_lanesNeeded_42 : decode cX11_lanesNeeded 42 = .ok (.istore_n 1, 1) := by decide +kernel
theorem dX11_lanesNeeded_43 : decode cX11_lanesNeeded 43 = .ok (.iinc 2 1, 3) := by decide +kernel
theorem dX11_lanesNeeded_46 : decode cX11_lanesNeeded 46 = .ok (.goto (-42), 3) := by decide +kernel
theorem dX11_lanesNeeded_49 : decode cX11_lanesNeeded 49 = .ok (.iload_n 1, 1) := by decide +kernel
theorem dX11_lanesNeeded_50 : decode cX11_lanesNeeded 50 = .ok (.ireturn, 1) := by decide +kernel
theorem dX11_readLine_0 : decode cX11_readLine 0 = .ok (.aload_n 0, 1) := by decide +kernel
theorem dX11_readLine_1 : decode cX11_readLine 1 = .ok (.iconst 0, 1) := by decide +kernel
theorem dX11_readLine_2 : decode cX11_readLine 2 = .ok (.invokevirtual 145, 3) := by decide +kernel
theorem dX11_readLine_5 : decode cX11_readLine 5 = .ok (.ifCond .eq 21, 3) := by decide +kernel
theorem dX11_readLine_8 : decode cX11_readLine 8 = .ok (.aload_n 0, 1) := by decide +kernel
theorem dX11_readLine_9 : decode cX11_readLine 9 = .ok (.getfield 27, 3) := by decide +kernel
theorem dX11_readLine_12 : decode cX11_readLine 12 = .ok (.iconst 0, 1) := by decide +kernel
theorem dX11_readLine_13 : decode cX11_readLine 13 = .ok (.aload_n 0, 1) := by decide +kernel
theorem dX11_readLine_14 : decode cX11_readLine 14 = .ok (.aload_n 0, 1) := by decide +kernel
theorem dX11_readLine_15 : decode cX11_readLine 15 = .ok (.invokevirtual 163, 3) := by decide +kernel
theorem dX11_readLine_18 : decode cX11_readLine 18 = .ok (.iconst 4, 1) := by decide +kernel
theorem dX11_readLine_19 : decode cX11_readLine 19 = .ok (.invokevirtual 156, 3) := by decide +kernel
theorem dX11_readLine_22 : decode cX11_readLine 22 = .ok (.iastore, 1) := by decide +kernel
theorem dX11_readLine_23 : decode cX11_readLine 23 = .ok (.goto 127, 3) := by decide +kernel
theorem dX11_readLine_26 : decode cX11_readLine 26 = .ok (.aload_n 0, 1) := by decide +kernel
theorem dX11_readLine_27 : decode cX11_readLine 27 = .ok (.iconst 1, 1) := by decide +kernel
theorem dX11_readLine_28 : decode cX11_readLine 28 = .ok (.invokevirtual 139, 3) := by decide +kernel
theorem dX11_readLine_31 : decode cX11_readLine 31 = .ok (.ifCond .eq 10, 3) := by decide +kernel
theorem dX11_readLine_34 : decode cX11_readLine 34 = .ok (.aload_n 0, 1) := by decide +kernel
theorem dX11_readLine_35 : decode cX11_readLine 35 = .ok (.invokevirtual 166, 3) := by decide +kernel
theorem dX11_readLine_38 : decode cX11_readLine 38 = .ok (.goto 112, 3) := by decide +kernel
theorem dX11_readLine_41 : decode cX11_readLine 41 = .ok (.aload_n 0, 1) := by decide +kernel
theorem dX11_readLine_42 : decode cX11_readLine 42 = .ok (.bipush 13, 2) := by decide +kernel
theorem dX11_readLine_44 : decode cX11_readLine 44 = .ok (.invokevirtual 145, 3) := by decide +kernel
theorem dX11_readLine_47 : decode cX11_readLine 47 = .ok (.ifCond .eq 20, 3) := by decide +kernel
theorem dX11_readLine_50 : decode cX11_readLine 50 = .ok (.aload_n 0, 1) := by decide +kernel
theorem dX11_readLine_51 : decode cX11_readLine 51 = .ok (.getfield 27, 3) := by decide +kernel
theorem dX11_readLine_54 : decode cX11_readLine 54 = .ok (.bipush 35, 2) := by decide +kernel
theorem dX11_readLine_56 : decode cX11_readLine 56 = .ok (.aload_n 0, 1) := by decide +kernel
theorem dX11_readLine_57 : decode cX11_readLine 57 = .ok (.iconst 0, 1) := by decide +kernel
theorem dX11_readLine_58 : decode cX11_readLine 58 = .ok (.bipush 30, 2) := by decide +kernel
theorem dX11_readLine_60 : decode cX11_readLine 60 = .ok (.invokevirtual 156, 3) := by decide +kernel
theorem dX11_readLine_63 : decode cX11_readLine 63 = .ok (.iastore, 1) := by decide +kernel
theorem dX11_readLine_64 : decode cX11_readLine 64 = .ok (.goto 86, 3) := by decide +kernel
theorem dX11_readLine_67 : decode cX11_readLine 67 = .ok (.aload_n 0, 1) := by decide +kernel
theorem dX11_readLine_68 : decode cX11_readLine 68 = .ok (.bipush 14, 2) := by decide +kernel
theorem dX11_readLine_70 : decode cX11_readLine 70 = .ok (.invokevirtual 145, 3) := by decide +kernel
theorem dX11_readLine_73 : decode cX11_readLine 73 = .ok (.ifCond .eq 20, 3) := by decide +kernel
theorem dX11_readLine_76 : decode cX11_readLine 76 = .ok (.aload_n 0, 1) := by decide +kernel
theorem dX11_readLine_77 : decode cX11_readLine 77 = .ok (.getfield 27, 3) := by decide +kernel
theorem dX11_readLine_80 : decode cX11_readLine 80 = .ok (.bipush 36, 2) := by decide +kernel
theorem dX11_readLine_82 : decode cX11_readLine 82 = .ok (.aload_n 0, 1) := by decide +kernel
theorem dX11_readLine_83 : decode cX11_readLine 83 = .ok (.iconst 0, 1) := by decide +kernel
theorem dX11_readLine_84 : decode cX11_readLine 84 = .ok (.bipush 20, 2) := by decide +kernel
theorem dX11_readLine_86 : decode cX11_readLine 86 = .ok (.invokevirtual 156, 3) := by decide +kernel
theorem dX11_readLine_89 : decode cX11_readLine 89 = .ok (.iastore, 1) := by decide +kernel
theorem dX11_readLine_90 : decode cX11_readLine 90 = .ok (.goto 60, 3) := by decide +kernel
theorem dX11_readLine_93 : decode cX11_readLine 93 = .ok (.aload_n 0, 1) := by decide +kernel
theorem dX11_readLine_94 : decode cX11_readLine 94 = .ok (.bipush 15, 2) := by decide +kernel
theorem dX11_readLine_96 : decode cX11_readLine 96 = .ok (.invokevirtual 145, 3) := by decide +kernel
theorem dX11_readLine_99 : decode cX11_readLine 99 = .ok (.ifCond .eq 20, 3) := by decide +kernel
theorem dX11_readLine_102 : decode cX11_readLine 102 = .ok (.aload_n 0, 1) := by decide +kernel
theorem dX11_readLine_103 : decode cX11_readLine 103 = .ok (.getfield 27, 3) := by decide +kernel
theorem dX11_readLine_106 : decode cX11_readLine 106 = .ok (.bipush 37, 2) := by decide +kernel
theorem dX11_readLine_108 : decode cX11_readLine 108 = .ok (.aload_n 0, 1) := by decide +kernel
theorem dX11_readLine_109 : decode cX11_readLine 109 = .ok (.iconst 0, 1) := by decide +kernel
theorem dX11_readLine_110 : decode cX11_readLine 110 = .ok (.bipush 60, 2) := by decide +kernel
theorem dX11_readLine_112 : decode cX11_readLine 112 = .ok (.invokevirtual 156, 3) := by decide +kernel
theorem dX11_readLine_115 : decode cX11_readLine 115 = .ok (.iastore, 1) := by decide +kernel
theorem dX11_readLine_116 : decode cX11_readLine 116 = .ok (.goto 34, 3) := by decide +kernel
theorem dX11_readLine_119 : decode cX11_readLine 119 = .ok (.aload_n 0, 1) := by decide +kernel
theorem dX11_readLine_120 : decode cX11_readLine 120 = .ok (.bipush 16, 2) := by decide +kernel
theorem dX11_readLine_122 : decode cX11_readLine 122 = .ok (.invokevirtual 145, 3) := by decide +kernel
theorem dX11_readLine_125 : decode cX11_readLine 125 = .ok (.ifCond .eq 21, 3) := by decide +kernel
theorem dX11_readLine_128 : decode cX11_readLine 128 = .ok (.aload_n 0, 1) := by decide +kernel
theorem dX11_readLine_129 : decode cX11_readLine 129 = .ok (.getfield 27, 3) := by decide +kernel
theorem dX11_readLine_132 : decode cX11_readLine 132 = .ok (.bipush 38, 2) := by decide +kernel
theorem dX11_readLine_134 : decode cX11_readLine 134 = .ok (.aload_n 0, 1) := by decide +kernel
theorem dX11_readLine_135 : decode cX11_readLine 135 = .ok (.iconst 1, 1) := by decide +kernel
theorem dX11_readLine_136 : decode cX11_readLine 136 = .ok (.sipush 200, 3) := by decide +kernel
theorem dX11_readLine_139 : decode cX11_readLine 139 = .ok (.invokevirtual 156, 3) := by decide +kernel
theorem dX11_readLine_142 : decode cX11_readLine 142 = .ok (.iastore, 1) := by decide +kernel
theorem dX11_readLine_143 : decode cX11_readLine 143 = .ok (.goto 7, 3) := by decide +kernel
theorem dX11_readLine_146 : decode cX11_readLine 146 = .ok (.aload_n 0, 1) := by decide +kernel
theorem dX11_readLine_147 : decode cX11_readLine 147 = .ok (.invokevirtual 169, 3) := by decide +kernel
theorem dX11_readLine_150 : decode cX11_readLine 150 = .ok (.aload_n 0, 1) := by decide +kernel
theorem dX11_readLine_151 : decode cX11_readLine 151 = .ok (.bipush 31, 2) := by decide +kernel
theorem dX11_readLine_153 : decode cX11_readLine 153 = .ok (.invokevirtual 160, 3) := by decide +kernel
theorem dX11_readLine_156 : decode cX11_readLine 156 = .ok (.aload_n 0, 1) := by decide +kernel
theorem dX11_readLine_157 : decode cX11_readLine 157 = .ok (.getfield 27, 3) := by decide +kernel
theorem dX11_readLine_160 : decode cX11_readLine 160 = .ok (.bipush 39, 2) := by decide +kernel
theorem dX11_readLine_162 : decode cX11_readLine 162 = .ok (.dup2, 1) := by decide +kernel
theorem dX11_readLine_163 : decode cX11_readLine 163 = .ok (.iaload, 1) := by decide +kernel
theorem dX11_readLine_164 : decode cX11_readLine 164 = .ok (.iconst 1, 1) := by decide +kernel
theorem dX11_readLine_165 : decode cX11_readLine 165 = .ok (.iadd, 1) := by decide +kernel
theorem dX11_readLine_166 : decode cX11_readLine 166 = .ok (.iastore, 1) := by decide +kernel
theorem dX11_readLine_167 : decode cX11_readLine 167 = .ok (.return_, 1) := by decide +kernel
theorem dX11_readTrait_0 : decode cX11_readTrait 0 = .ok (.aload_n 0, 1) := by decide +kernel
theorem dX11_readTrait_1 : decode cX11_readTrait 1 = .ok (.getfield 133, 3) := by decide +kernel
theorem dX11_readTrait_4 : decode cX11_readTrait 4 = .ok (.ifCond .eq 4, 3) := by decide +kernel
theorem dX11_readTrait_7 : decode cX11_readTrait 7 = .ok (.return_, 1) := by decide +kernel
theorem dX11_readTrait_8 : decode cX11_readTrait 8 = .ok (.aload_n 0, 1) := by decide +kernel
theorem dX11_readTrait_9 : decode cX11_readTrait 9 = .ok (.getfield 117, 3) := by decide +kernel
theorem dX11_readTrait_12 : decode cX11_readTrait 12 = .ok (.i2l, 1) := by decide +kernel
theorem dX11_readTrait_13 : decode cX11_readTrait 13 = .ok (.ldc2_w 172, 3) := by decide +kernel
theorem dX11_readTrait_16 : decode cX11_readTrait 16 = .ok (.ldc2_w 174, 3) := by decide +kernel
theorem dX11_readTrait_19 : decode cX11_readTrait 19 = .ok (.invokestatic 152, 3) := by decide +kernel
theorem dX11_readTrait_22 : decode cX11_readTrait 22 = .ok (.ifCond .ne 9, 3) := by decide +kernel
theorem dX11_readTrait_25 : decode cX11_readTrait 25 = .ok (.aload_n 0, 1) := by decide +kernel
theorem dX11_readTrait_26 : decode cX11_readTrait 26 = .ok (.iconst 2, 1) := by decide +kernel
theorem dX11_readTrait_27 : decode cX11_readTrait 27 = .ok (.invokevirtual 148, 3) := by decide +kernel
theorem dX11_readTrait_30 : decode cX11_readTrait 30 = .ok (.return_, 1) := by decide +kernel
theorem dX11_readTrait_31 : decode cX11_readTrait 31 = .ok (.aload_n 0, 1) := by decide +kernel
theorem dX11_readTrait_32 : decode cX11_readTrait 32 = .ok (.getfield 27, 3) := by decide +kernel
theorem dX11_readTrait_35 : decode cX11_readTrait 35 = .ok (.bipush 34, 2) := by decide +kernel
theorem dX11_readTrait_37 : decode cX11_readTrait 37 = .ok (.dup2, 1) := by decide +kernel
theorem dX11_readTrait_38 : decode cX11_readTrait 38 = .ok (.iaload, 1) := by decide +kernel
theorem dX11_readTrait_39 : decode cX11_readTrait 39 = .ok (.iconst 1, 1) := by decide +kernel
theorem dX11_readTrait_40 : decode cX11_readTrait 40 = .ok (.aload_n 0, 1) := by decide +kernel
theorem dX11_readTrait_41 : decode cX11_readTrait 41 = .ok (.getfield 117, 3) := by decide +kernel
theorem dX11_readTrait_44 : decode cX11_readTrait 44 = .ok (.iconst 5, 1) := by decide +kernel
theorem dX11_readTrait_45 : decode cX11_readTrait 45 = .ok (.isub, 1) := by decide +kernel
theorem dX11_readTrait_46 : decode cX11_readTrait 46 = .ok (.ishl, 1) := by decide +kernel
theorem dX11_readTrait_47 : decode cX11_readTrait 47 = .ok (.ior, 1) := by decide +kernel
theorem dX11_readTrait_48 : decode cX11_readTrait 48 = .ok (.iastore, 1) := by decide +kernel
theorem dX11_readTrait_49 : decode cX11_readTrait 49 = .ok (.aload_n 0, 1) := by decide +kernel
theorem dX11_readTrait_50 : decode cX11_readTrait 50 = .ok (.invokevirtual 142, 3) := by decide +kernel
theorem dX11_readTrait_53 : decode cX11_readTrait 53 = .ok (.return_, 1) := by decide +kernel
theorem dX11_emit_0 : decode cX11_emit 0 = .ok (.aload_n 0, 1) := by decide +kernel
theorem dX11_emit_1 : decode cX11_emit 1 = .ok (.getfield 27, 3) := by decide +kernel
theorem dX11_emit_4 : decode cX11_emit 4 = .ok (.bipush 77, 2) := by decide +kernel
theorem dX11_emit_6 : decode cX11_emit 6 = .ok (.iconst 2, 1) := by decide +kernel
theorem dX11_emit_7 : decode cX11_emit 7 = .ok (.aload_n 0, 1) := by decide +kernel
theorem dX11_emit_8 : decode cX11_emit 8 = .ok (.getfield 176, 3) := by decide +kernel
theorem dX11_emit_11 : decode cX11_emit 11 = .ok (.imul, 1) := by decide +kernel
theorem dX11_emit_12 : decode cX11_emit 12 = .ok (.iadd, 1) := by decide +kernel
theorem dX11_emit_13 : decode cX11_emit 13 = .ok (.iload_n 1, 1) := by decide +kernel
theorem dX11_emit_14 : decode cX11_emit 14 = .ok (.iastore, 1) := by decide +kernel
theorem dX11_emit_15 : decode cX11_emit 15 = .ok (.aload_n 0, 1) := by decide +kernel
theorem dX11_emit_16 : decode cX11_emit 16 = .ok (.getfield 27, 3) := by decide +kernel
theorem dX11_emit_19 : decode cX11_emit 19 = .ok (.bipush 77, 2) := by decide +kernel
theorem dX11_emit_21 : decode cX11_emit 21 = .ok (.iconst 2, 1) := by decide +kernel
theorem dX11_emit_22 : decode cX11_emit 22 = .ok (.aload_n 0, 1) := by decide +kernel
theorem dX11_emit_23 : decode cX11_emit 23 = .ok (.getfield 176, 3) := by decide +kernel
theorem dX11_emit_26 : decode cX11_emit 26 = .ok (.imul, 1) := by decide +kernel
theorem dX11_emit_27 : decode cX11_emit 27 = .ok (.iadd, 1) := by decide +kernel
theorem dX11_emit_28 : decode cX11_emit 28 = .ok (.iconst 1, 1) := by decide +kernel
theorem dX11_emit_29 : decode cX11_emit 29 = .ok (.iadd, 1) := by decide +kernel
theorem dX11_emit_30 : decode cX11_emit 30 = .ok (.iload_n 2, 1) := by decide +kernel
theorem dX11_emit_31 : decode cX11_emit 31 = .ok (.iastore, 1) := by decide +kernel
theorem dX11_emit_32 : decode cX11_emit 32 = .ok (.aload_n 0, 1) := by decide +kernel
theorem dX11_emit_33 : decode cX11_emit 33 = .ok (.dup, 1) := by decide +kernel
theorem dX11_emit_34 : decode cX11_emit 34 = .ok (.getfield 176, 3) := by decide +kernel
theorem dX11_emit_37 : decode cX11_emit 37 = .ok (.iconst 1, 1) := by decide +kernel
theorem dX11_emit_38 : decode cX11_emit 38 = .ok (.iadd, 1) := by decide +kernel
theorem dX11_emit_39 : decode cX11_emit 39 = .ok (.putfield 176, 3) := by decide +kernel
theorem dX11_emit_42 : decode cX11_emit 42 = .ok (.return_, 1) := by decide +kernel
theorem dX11_readTest_0 : decode cX11_readTest 0 = .ok (.aload_n 0, 1) := by decide +kernel
theorem dX11_readTest_1 : decode cX11_readTest 1 = .ok (.invokevirtual 179, 3) := by decide +kernel
theorem dX11_readTest_4 : decode cX11_readTest 4 = .ok (.aload_n 0, 1) := by decide +kernel
theorem dX11_readTest_5 : decode cX11_readTest 5 = .ok (.bipush 19, 2) := by decide +kernel
theorem dX11_readTest_7 : decode cX11_readTest 7 = .ok (.invokevirtual 145, 3) := by decide +kernel
theorem dX11_readTest_10 : decode cX11_readTest 10 = .ok (.ifCond .eq 24, 3) := by decide +kernel
theorem dX11_readTest_13 : decode cX11_readTest 13 = .ok (.aload_n 0, 1) := by decide +kernel
theorem dX11_readTest_14 : decode cX11_readTest 14 = .ok (.invokevirtual 179, 3) := by decide +kernel
theorem dX11_readTest_17 : decode cX11_readTest 17 = .ok (.aload_n 0, 1) := by decide +kernel
theorem dX11_readTest_18 : decode cX11_readTest 18 = .ok (.getfield 133, 3) := by decide +kernel
theorem dX11_readTest_21 : decode cX11_readTest 21 = .ok (.ifCond .ne (-17), 3) := by decide +kernel
theorem dX11_readTest_24 : decode cX11_readTest 24 = .ok (.aload_n 0, 1) := by decide +kernel
theorem dX11_readTest_25 : decode cX11_readTest 25 = .ok (.bipush 19, 2) := by decide +kernel
theorem dX11_readTest_27 : decode cX11_readTest 27 = .ok (.iconst 0, 1) := by decide +kernel
theorem dX11_readTest_28 : decode cX11_readTest 28 = .ok (.invokevirtual 182, 3) := by decide +kernel
theorem dX11_readTest_31 : decode cX11_readTest 31 = .ok (.goto (-27), 3) := by decide +kernel
theorem dX11_readTest_34 : decode cX11_readTest 34 = .ok (.return_, 1) := by decide +kernel
theorem dX11_readPart_0 : decode cX11_readPart 0 = .ok (.aload_n 0, 1) := by decide +kernel
theorem dX11_readPart_1 : decode cX11_readPart 1 = .ok (.invokevirtual 186, 3) := by decide +kernel
theorem dX11_readPart_4 : decode cX11_readPart 4 = .ok (.aload_n 0, 1) := by decide +kernel
theorem dX11_readPart_5 : decode cX11_readPart 5 = .ok (.bipush 20, 2) := by decide +kernel
theorem dX11_readPart_7 : decode cX11_readPart 7 = .ok (.invokevirtual 145, 3) := by decide +kernel
theorem dX11_readPart_10 : decode cX11_readPart 10 = .ok (.ifCond .eq 24, 3) := by decide +kernel
theorem dX11_readPart_13 : decode cX11_readPart 13 = .ok (.aload_n 0, 1) := by decide +kernel
theorem dX11_readPart_14 : decode cX11_readPart 14 = .ok (.invokevirtual 186, 3) := by decide +kernel
theorem dX11_readPart_17 : decode cX11_readPart 17 = .ok (.aload_n 0, 1) := by decide +kernel
theorem dX11_readPart_18 : decode cX11_readPart 18 = .ok (.getfield 133, 3) := by decide +kernel
theorem dX11_readPart_21 : decode cX11_readPart 21 = .ok (.ifCond .ne (-17), 3) := by decide +kernel
theorem dX11_readPart_24 : decode cX11_readPart 24 = .ok (.aload_n 0, 1) := by decide +kernel
theorem dX11_readPart_25 : decode cX11_readPart 25 = .ok (.bipush 20, 2) := by decide +kernel
theorem dX11_readPart_27 : decode cX11_readPart 27 = .ok (.iconst 0, 1) := by decide +kernel
theorem dX11_readPart_28 : decode cX11_readPart 28 = .ok (.invokevirtual 182, 3) := by decide +kernel
theorem dX11_readPart_31 : decode cX11_readPart 31 = .ok (.goto (-27), 3) := by decide +kernel
theorem dX11_readPart_34 : decode cX11_readPart 34 = .ok (.return_, 1) := by decide +kernel
theorem dX11_readFact_0 : decode cX11_readFact 0 = .ok (.aload_n 0, 1) := by decide +kernel
theorem dX11_readFact_1 : decode cX11_readFact 1 = .ok (.getfield 133, 3) := by decide +kernel
theorem dX11_readFact_4 : decode cX11_readFact 4 = .ok (.ifCond .eq 4, 3) := by decide +kernel
theorem dX11_readFact_7 : decode cX11_readFact 7 = .ok (.return_, 1) := by decide +kernel
theorem dX11_readFact_8 : decode cX11_readFact 8 = .ok (.aload_n 0, 1) := by decide +kernel
theorem dX11_readFact_9 : decode cX11_readFact 9 = .ok (.getfield 117, 3) := by decide +kernel
theorem dX11_readFact_12 : decode cX11_readFact 12 = .ok (.istore_n 1, 1) := by decide +kernel
theorem dX11_readFact_13 : decode cX11_readFact 13 = .ok (.iload_n 1, 1) := by decide +kernel
theorem dX11_readFact_14 : decode cX11_readFact 14 = .ok (.bipush 21, 2) := by decide +kernel
theorem dX11_readFact_16 : decode cX11_readFact 16 = .ok (.if_icmp .eq 9, 3) := by decide +kernel
theorem dX11_readFact_19 : decode cX11_readFact 19 = .ok (.iload_n 1, 1) := by decide +kernel
theorem dX11_readFact_20 : decode cX11_readFact 20 = .ok (.bipush 32, 2) := by decide +kernel
theorem dX11_readFact_22 : decode cX11_readFact 22 = .ok (.if_icmp .ne 96, 3) := by decide +kernel
theorem dX11_readFact_25 : decode cX11_readFact 25 = .ok (.aload_n 0, 1) := by decide +kernel
theorem dX11_readFact_26 : decode cX11_readFact 26 = .ok (.getfield 189, 3) := by decide +kernel
theorem dX11_readFact_29 : decode cX11_readFact 29 = .ok (.bipush 8, 2) := by decide +kernel
theorem dX11_readFact_31 : decode cX11_readFact 31 = .ok (.if_icmp .ne 8, 3) := by decide +kernel
theorem dX11_readFact_34 : decode cX11_readFact 34 = .ok (.aload_n 0, 1) := by decide +kernel
theorem dX11_readFact_35 : decode cX11_readFact 35 = .ok (.iconst 5, 1) := by decide +kernel
theorem dX11_readFact_36 : decode cX11_readFact 36 = .ok (.invokevirtual 148, 3) := by decide +kernel
theorem dX11_readFact_39 : decode cX11_readFact 39 = .ok (.aload_n 0, 1) := by decide +kernel
theorem dX11_readFact_40 : decode cX11_readFact 40 = .ok (.getfield 133, 3) := by decide +kernel
theorem dX11_readFact_43 : decode cX11_readFact 43 = .ok (.ifCond .eq 4, 3) := by decide +kernel
theorem dX11_readFact_46 : decode cX11_readFact 46 = .ok (.return_, 1) := by decide +kernel
theorem dX11_readFact_47 : decode cX11_readFact 47 = .ok (.aload_n 0, 1) := by decide +kernel
theorem dX11_readFact_48 : decode cX11_readFact 48 = .ok (.invokevirtual 142, 3) := by decide +kernel
theorem dX11_readFact_51 : decode cX11_readFact 51 = .ok (.aload_n 0, 1) := by decide +kernel
theorem dX11_readFact_52 : decode cX11_readFact 52 = .ok (.dup, 1) := by decide +kernel
theorem dX11_readFact_53 : decode cX11_readFact 53 = .ok (.getfield 189, 3) := by decide +kernel
theorem dX11_readFact_56 : decode cX11_readFact 56 = .ok (.iconst 1, 1) := by decide +kernel
theorem dX11_readFact_57 : decode cX11_readFact 57 = .ok (.iadd, 1) := by decide +kernel
theorem dX11_readFact_58 : decode cX11_readFact 58 = .ok (.putfield 189, 3) := by decide +kernel
theorem dX11_readFact_61 : decode cX11_readFact 61 = .ok (.iload_n 1, 1) := by decide +kernel
theorem dX11_readFact_62 : decode cX11_readFact 62 = .ok (.bipush 21, 2) := by decide +kernel
theorem dX11_readFact_64 : decode cX11_readFact 64 = .ok (.if_icmp .ne 10, 3) := by decide +kernel
theorem dX11_readFact_67 : decode cX11_readFact 67 = .ok (.aload_n 0, 1) := by decide +kernel
theorem dX11_readFact_68 : decode cX11_readFact 68 = .ok (.invokevirtual 186, 3) := by decide +kernel
theorem dX11_readFact_71 : decode cX11_readFact 71 = .ok (.goto 7, 3) := by decide +kernel
theorem dX11_readFact_74 : decode cX11_readFact 74 = .ok (.aload_n 0, 1) := by decide +kernel
theorem dX11_readFact_75 : decode cX11_readFact 75 = .ok (.invokevirtual 192, 3) := by decide +kernel
theorem dX11_readFact_78 : decode cX11_readFact 78 = .ok (.aload_n 0, 1) := by decide +kernel
theorem dX11_readFact_79 : decode cX11_readFact 79 = .ok (.dup, 1) := by decide +kernel
theorem dX11_readFact_80 : decode cX11_readFact 80 = .ok (.getfield 189, 3) := by decide +kernel
theorem dX11_readFact_83 : decode cX11_readFact 83 = .ok (.iconst 1, 1) := by decide +kernel
theorem dX11_readFact_84 : decode cX11_readFact 84 = .ok (.isub, 1) := by decide +kernel
theorem dX11_readFact_85 : decode cX11_readFact 85 = .ok (.putfield 189, 3) := by decide +kernel
theorem dX11_readFact_88 : decode cX11_readFact 88 = .ok (.iload_n 1, 1) := by decide +kernel
theorem dX11_readFact_89 : decode cX11_readFact 89 = .ok (.bipush 32, 2) := by decide +kernel
theorem dX11_readFact_91 : decode cX11_readFact 91 = .ok (.if_icmp .ne 12, 3) := by decide +kernel
theorem dX11_readFact_94 : decode cX11_readFact 94 = .ok (.aload_n 0, 1) := by decide +kernel
theorem dX11_readFact_95 : decode cX11_readFact 95 = .ok (.bipush 33, 2) := by decide +kernel
theorem dX11_readFact_97 : decode cX11_readFact 97 = .ok (.invokevirtual 160, 3) := by decide +kernel
theorem dX11_readFact_100 : decode cX11_readFact 100 = .ok (.goto 17, 3) := by decide +kernel
theorem dX11_readFact_103 : decode cX11_readFact 103 = .ok (.aload_n 0, 1) := by decide +kernel
theorem dX11_readFact_104 : decode cX11_readFact 104 = .ok (.getfield 133, 3) := by decide +kernel
theorem dX11_readFact_107 : decode cX11_readFact 107 = .ok (.ifCond .ne 10, 3) := by decide +kernel
theorem dX11_readFact_110 : decode cX11_readFact 110 = .ok (.aload_n 0, 1) := by decide +kernel
theorem dX11_readFact_111 : decode cX11_readFact 111 = .ok (.bipush 21, 2) := by decide +kernel
theorem dX11_readFact_113 : decode cX11_readFact 113 = .ok (.iconst 0, 1) := by decide +kernel
theorem dX11_readFact_114 : decode cX11_readFact 114 = .ok (.invokevirtual 182, 3) := by decide +kernel
theorem dX11_readFact_117 : decode cX11_readFact 117 = .ok (.return_, 1) := by decide +kernel
theorem dX11_readFact_118 : decode cX11_readFact 118 = .ok (.iload_n 1, 1) := by decide +kernel
theorem dX11_readFact_119 : decode cX11_readFact 119 = .ok (.iconst 4, 1) := by decide +kernel
theorem dX11_readFact_120 : decode cX11_readFact 120 = .ok (.if_icmp .eq 36, 3) := by decide +kernel
theorem dX11_readFact_123 : decode cX11_readFact 123 = .ok (.iload_n 1, 1) := by decide +kernel
theorem dX11_readFact_124 : decode cX11_readFact 124 = .ok (.i2l, 1) := by decide +kernel
theorem dX11_readFact_125 : decode cX11_readFact 125 = .ok (.ldc2_w 172, 3) := by decide +kernel
theorem dX11_readFact_128 : decode cX11_readFact 128 = .ok (.ldc2_w 174, 3) := by decide +kernel
theorem dX11_readFact_131 : decode cX11_readFact 131 = .ok (.invokestatic 152, 3) := by decide +kernel
theorem dX11_readFact_134 : decode cX11_readFact 134 = .ok (.ifCond .ne 22, 3) := by decide +kernel
theorem dX11_readFact_137 : decode cX11_readFact 137 = .ok (.iload_n 1, 1) := by decide +kernel
theorem dX11_readFact_138 : decode cX11_readFact 138 = .ok (.i2l, 1) := by decide +kernel
theorem dX11_readFact_139 : decode cX11_readFact 139 = .ok (.ldc2_w 195, 3) := by decide +kernel
theorem dX11_readFact_142 : decode cX11_readFact 142 = .ok (.ldc2_w 197, 3) := by decide +kernel
theorem dX11_readFact_145 : decode cX11_readFact 145 = .ok (.invokestatic 152, 3) := by decide +kernel
theorem dX11_readFact_148 : decode cX11_readFact 148 = .ok (.ifCond .ne 8, 3) := by decide +kernel
theorem dX11_readFact_151 : decode cX11_readFact 151 = .ok (.aload_n 0, 1) := by decide +kernel
theorem dX11_readFact_152 : decode cX11_readFact 152 = .ok (.iconst 2, 1) := by decide +kernel
theorem dX11_readFact_153 : decode cX11_readFact 153 = .ok (.invokevirtual 148, 3) := by decide +kernel
theorem dX11_readFact_156 : decode cX11_readFact 156 = .ok (.aload_n 0, 1) := by decide +kernel
theorem dX11_readFact_157 : decode cX11_readFact 157 = .ok (.getfield 133, 3) := by decide +kernel
theorem dX11_readFact_160 : decode cX11_readFact 160 = .ok (.ifCond .eq 4, 3) := by decide +kernel
theorem dX11_readFact_163 : decode cX11_readFact 163 = .ok (.return_, 1) := by decide +kernel
theorem dX11_readFact_164 : decode cX11_readFact 164 = .ok (.aload_n 0, 1) := by decide +kernel
theorem dX11_readFact_165 : decode cX11_readFact 165 = .ok (.invokevirtual 142, 3) := by decide +kernel
theorem dX11_readFact_168 : decode cX11_readFact 168 = .ok (.iload_n 1, 1) := by decide +kernel
theorem dX11_readFact_169 : decode cX11_readFact 169 = .ok (.iconst 4, 1) := by decide +kernel
theorem dX11_readFact_170 : decode cX11_readFact 170 = .ok (.if_icmp .eq 17, 3) := by decide +kernel
theorem dX11_readFact_173 : decode cX11_readFact 173 = .ok (.iload_n 1, 1) := by decide +kernel
theorem dX11_readFact_174 : decode cX11_readFact 174 = .ok (.i2l, 1) := by decide +kernel
theorem dX11_readFact_175 : decode cX11_readFact 175 = .ok (.ldc2_w 195, 3) := by decide +kernel
theorem dX11_readFact_178 : decode cX11_readFact 178 = .ok (.ldc2_w 199, 3) := by decide +kernel
theorem dX11_readFact_181 : decode cX11_readFact 181 = .ok (.invokestatic 152, 3) := by decide +kernel
theorem dX11_readFact_184 : decode cX11_readFact 184 = .ok (.ifCond .eq 14, 3) := by decide +kernel
theorem dX11_readFact_187 : decode cX11_readFact 187 = .ok (.aload_n 0, 1) := by decide +kernel
theorem dX11_readFact_188 : decode cX11_readFact 188 = .ok (.iconst 0, 1) := by decide +kernel
theorem dX11_readFact_189 : decode cX11_readFact 189 = .ok (.sipush 999, 3) := by decide +kernel
theorem dX11_readFact_192 : decode cX11_readFact 192 = .ok (.invokevirtual 156, 3) := by decide +kernel
theorem dX11_readFact_195 : decode cX11_readFact 195 = .ok (.goto 4, 3) := by decide +kernel
theorem dX11_readFact_198 : decode cX11_readFact 198 = .ok (.iconst 0, 1) := by decide +kernel
theorem dX11_readFact_199 : decode cX11_readFact 199 = .ok (.istore_n 2, 1) := by decide +kernel
theorem dX11_readFact_200 : decode cX11_readFact 200 = .ok (.aload_n 0, 1) := by decide +kernel
theorem dX11_readFact_201 : decode cX11_readFact 201 = .ok (.getfield 133, 3) := by decide +kernel
theorem dX11_readFact_204 : decode cX11_readFact 204 = .ok (.ifCond .ne 9, 3) := by decide +kernel
theorem dX11_readFact_207 : decode cX11_readFact 207 = .ok (.aload_n 0, 1) := by decide +kernel
theorem dX11_readFact_208 : decode cX11_readFact 208 = .ok (.iload_n 1, 1) := by decide +kernel
theorem dX11_readFact_209 : decode cX11_readFact 209 = .ok (.iload_n 2, 1) := by decide +kernel
theorem dX11_readFact_210 : decode cX11_readFact 210 = .ok (.invokevirtual 182, 3) := by decide +kernel
theorem dX11_readFact_213 : decode cX11_readFact 213 = .ok (.return_, 1) := by decide +kernel
theorem dX11_readLaw_0 : decode cX11_readLaw 0 = .ok (.aload_n 0, 1) := by decide +kernel
theorem dX11_readLaw_1 : decode cX11_readLaw 1 = .ok (.getfield 27, 3) := by decide +kernel
theorem dX11_readLaw_4 : decode cX11_readLaw 4 = .ok (.bipush 40, 2) := by decide +kernel
theorem dX11_readLaw_6 : decode cX11_readLaw 6 = .ok (.iaload, 1) := by decide +kernel
theorem dX11_readLaw_7 : decode cX11_readLaw 7 = .ok (.istore_n 1, 1) := by decide +kernel
theorem dX11_readLaw_8 : decode cX11_readLaw 8 = .ok (.aload_n 0, 1) := by decide +kernel
theorem dX11_readLaw_9 : decode cX11_readLaw 9 = .ok (.bipush 17, 2) := by decide +kernel
theorem dX11_readLaw_11 : decode cX11_readLaw 11 = .ok (.invokevirtual 139, 3) := by decide +kernel
theorem dX11_readLaw_14 : decode cX11_readLaw 14 = .ok (.ifCond .ne 11, 3) := by decide +kernel
theorem dX11_readLaw_17 : decode cX11_readLaw 17 = .ok (.aload_n 0, 1) := by decide +kernel
theorem dX11_readLaw_18 : decode cX11_readLaw 18 = .ok (.iconst 2, 1) := by decide +kernel
theorem dX11_readLaw_19 : decode cX11_readLaw 19 = .ok (.invokevirtual 148, 3) := by decide +kernel
theorem dX11_readLaw_22 : decode cX11_readLaw 22 = .ok (.goto 14, 3) := by decide +kernel
theorem dX11_readLaw_25 : decode cX11_readLaw 25 = .ok (.iload_n 1, 1) := by decide +kernel
theorem dX11_readLaw_26 : decode cX11_readLaw 26 = .ok (.bipush 12, 2) := by decide +kernel
theorem dX11_readLaw_28 : decode cX11_readLaw 28 = .ok (.if_icmp .ne 8, 3) := by decide +kernel
theorem dX11_readLaw_31 : decode cX11_readLaw 31 = .ok (.aload_n 0, 1) := by decide +kernel
theorem dX11_readLaw_32 : decode cX11_readLaw 32 = .ok (.iconst 4, 1) := by decide +kernel
theorem dX11_readLaw_33 : decode cX11_readLaw 33 = .ok (.invokevirtual 148, 3) := by decide +kernel
theorem dX11_readLaw_36 : decode cX11_readLaw 36 = .ok (.aload_n 0, 1) := by decide +kernel
theorem dX11_readLaw_37 : decode cX11_readLaw 37 = .ok (.getfield 133, 3) := by decide +kernel
theorem dX11_readLaw_40 : decode cX11_readLaw 40 = .ok (.ifCond .eq 4, 3) := by decide +kernel
theorem dX11_readLaw_43 : decode cX11_readLaw 43 = .ok (.return_, 1) := by decide +kernel
theorem dX11_readLaw_44 : decode cX11_readLaw 44 = .ok (.aload_n 0, 1) := by decide +kernel
theorem dX11_readLaw_45 : decode cX11_readLaw 45 = .ok (.invokevirtual 142, 3) := by decide +kernel
theorem dX11_readLaw_48 : decode cX11_readLaw 48 = .ok (.aload_n 0, 1) := by decide +kernel
theorem dX11_readLaw_49 : decode cX11_readLaw 49 = .ok (.getfield 27, 3) := by decide +kernel
theorem dX11_readLaw_52 : decode cX11_readLaw 52 = .ok (.bipush 41, 2) := by decide +kernel
theorem dX11_readLaw_54 : decode cX11_readLaw 54 = .ok (.iload_n 1, 1) := by decide +kernel
theorem dX11_readLaw_55 : decode cX11_readLaw 55 = .ok (.iadd, 1) := by decide +kernel
theorem dX11_readLaw_56 : decode cX11_readLaw 56 = .ok (.aload_n 0, 1) := by decide +kernel
theorem dX11_readLaw_57 : decode cX11_readLaw 57 = .ok (.iconst 0, 1) := by decide +kernel
theorem dX11_readLaw_58 : decode cX11_readLaw 58 = .ok (.bipush 100, 2) := by decide +kernel
theorem dX11_readLaw_60 : decode cX11_readLaw 60 = .ok (.invokevirtual 156, 3) := by decide +kernel
theorem dX11_readLaw_63 : decode cX11_readLaw 63 = .ok (.iastore, 1) := by decide +kernel
theorem dX11_readLaw_64 : decode cX11_readLaw 64 = .ok (.aload_n 0, 1) := by decide +kernel
theorem dX11_readLaw_65 : decode cX11_readLaw 65 = .ok (.bipush 18, 2) := by decide +kernel
theorem dX11_readLaw_67 : decode cX11_readLaw 67 = .ok (.invokevirtual 160, 3) := by decide +kernel
theorem dX11_readLaw_70 : decode cX11_readLaw 70 = .ok (.aload_n 0, 1) := by decide +kernel
theorem dX11_readLaw_71 : decode cX11_readLaw 71 = .ok (.getfield 27, 3) := by decide +kernel
theorem dX11_readLaw_74 : decode cX11_readLaw 74 = .ok (.bipush 53, 2) := by decide +kernel
theorem dX11_readLaw_76 : decode cX11_readLaw 76 = .ok (.iload_n 1, 1) := by decide +kernel
theorem dX11_readLaw_77 : decode cX11_readLaw 77 = .ok (.iadd, 1) := by decide +kernel
theorem dX11_readLaw_78 : decode cX11_readLaw 78 = .ok (.aload_n 0, 1) := by decide +kernel
theorem dX11_readLaw_79 : decode cX11_readLaw 79 = .ok (.getfield 176, 3) := by decide +kernel
theorem dX11_readLaw_82 : decode cX11_readLaw 82 = .ok (.iastore, 1) := by decide +kernel
theorem dX11_readLaw_83 : decode cX11_readLaw 83 = .ok (.aload_n 0, 1) := by decide +kernel
theorem dX11_readLaw_84 : decode cX11_readLaw 84 = .ok (.invokevirtual 192, 3) := by decide +kernel
theorem dX11_readLaw_87 : decode cX11_readLaw 87 = .ok (.aload_n 0, 1) := by decide +kernel
theorem dX11_readLaw_88 : decode cX11_readLaw 88 = .ok (.getfield 27, 3) := by decide +kernel
theorem dX11_readLaw_91 : decode cX11_readLaw 91 = .ok (.bipush 65, 2) := by decide +kernel
theorem dX11_readLaw_93 : decode cX11_readLaw 93 = .ok (.iload_n 1, 1) := by decide +kernel
theorem dX11_readLaw_94 : decode cX11_readLaw 94 = .ok (.iadd, 1) := by decide +kernel
theorem dX11_readLaw_95 : decode cX11_readLaw 95 = .ok (.aload_n 0, 1) := by decide +kernel
theorem dX11_readLaw_96 : decode cX11_readLaw 96 = .ok (.getfield 176, 3) := by decide +kernel
theorem dX11_readLaw_99 : decode cX11_readLaw 99 = .ok (.iastore, 1) := by decide +kernel
theorem dX11_readLaw_100 : decode cX11_readLaw 100 = .ok (.aload_n 0, 1) := by decide +kernel
theorem dX11_readLaw_101 : decode cX11_readLaw 101 = .ok (.bipush 31, 2) := by decide +kernel
theorem dX11_readLaw_103 : decode cX11_readLaw 103 = .ok (.invokevirtual 160, 3) := by decide +kernel
theorem dX11_readLaw_106 : decode cX11_readLaw 106 = .ok (.aload_n 0, 1) := by decide +kernel
theorem dX11_readLaw_107 : decode cX11_readLaw 107 = .ok (.getfield 27, 3) := by decide +kernel
theorem dX11_readLaw_110 : decode cX11_readLaw 110 = .ok (.bipush 40, 2) := by decide +kernel
theorem dX11_readLaw_112 : decode cX11_readLaw 112 = .ok (.dup2, 1) := by decide +kernel
theorem dX11_readLaw_113 : decode cX11_readLaw 113 = .ok (.iaload, 1) := by decide +kernel
theorem dX11_readLaw_114 : decode cX11_readLaw 114 = .ok (.iconst 1, 1) := by decide +kernel
theorem dX11_readLaw_115 : decode cX11_readLaw 115 = .ok (.iadd, 1) := by decide +kernel
theorem dX11_readLaw_116 : decode cX11_readLaw 116 = .ok (.iastore, 1) := by decide +kernel
theorem dX11_readLaw_117 : decode cX11_readLaw 117 = .ok (.return_, 1) := by decide +kernel
theorem dX11_text_0 : decode cX11_text 0 = .ok (.aload_n 0, 1) := by decide +kernel
theorem dX11_text_1 : decode cX11_text 1 = .ok (.iconst 0, 1) := by decide +kernel
theorem dX11_text_2 : decode cX11_text 2 = .ok (.putfield 1, 3) := by decide +kernel
theorem dX11_text_5 : decode cX11_text 5 = .ok (.iload_n 1, 1) := by decide +kernel
theorem dX11_text_6 : decode cX11_text 6 = .ok (.i2l, 1) := by decide +kernel
theorem dX11_text_7 : decode cX11_text 7 = .ok (.lconst 0, 1) := by decide +kernel
theorem dX11_text_8 : decode cX11_text 8 = .ok (.lconst 1, 1) := by decide +kernel
theorem dX11_text_9 : decode cX11_text 9 = .ok (.invokestatic 152, 3) := by decide +kernel
theorem dX11_text_12 : decode cX11_text 12 = .ok (.ifCond .ne 10, 3) := by decide +kernel
theorem dX11_text_15 : decode cX11_text 15 = .ok (.aload_n 0, 1) := by decide +kernel
theorem dX11_text_16 : decode cX11_text 16 = .ok (.bipush (-2), 2) := by decide +kernel
theorem dX11_text_18 : decode cX11_text 18 = .ok (.invokevirtual 89, 3) := by decide +kernel
theorem dX11_text_21 : decode cX11_text 21 = .ok (.ireturn, 1) := by decide +kernel
theorem dX11_text_22 : decode cX11_text 22 = .ok (.iload_n 2, 1) := by decide +kernel
theorem dX11_text_23 : decode cX11_text 23 = .ok (.i2l, 1) := by decide +kernel
theorem dX11_text_24 : decode cX11_text 24 = .ok (.lconst 0, 1) := by decide +kernel
theorem dX11_text_25 : decode cX11_text 25 = .ok (.aload_n 0, 1) := by decide +kernel
theorem dX11_text_26 : decode cX11_text 26 = .ok (.getfield 86, 3) := by decide +kernel
theorem dX11_text_29 : decode cX11_text 29 = .ok (.i2l, 1) := by decide +kernel
theorem dX11_text_30 : decode cX11_text 30 = .ok (.invokestatic 152, 3) := by decide +kernel
theorem dX11_text_33 : decode cX11_text 33 = .ok (.ifCond .ne 10, 3) := by decide +kernel
theorem dX11_text_36 : decode cX11_text 36 = .ok (.aload_n 0, 1) := by decide +kernel
theorem dX11_text_37 : decode cX11_text 37 = .ok (.bipush (-3), 2) := by decide +kernel
theorem dX11_text_39 : decode cX11_text 39 = .ok (.invokevirtual 89, 3) := by decide +kernel
theorem dX11_text_42 : decode cX11_text 42 = .ok (.ireturn, 1) := by decide +kernel
theorem dX11_text_43 : decode cX11_text 43 = .ok (.aload_n 0, 1) := by decide +kernel
theorem dX11_text_44 : decode cX11_text 44 = .ok (.iload_n 2, 1) := by decide +kernel
theorem dX11_text_45 : decode cX11_text 45 = .ok (.putfield 93, 3) := by decide +kernel
theorem dX11_text_48 : decode cX11_text 48 = .ok (.aload_n 0, 1) := by decide +kernel
theorem dX11_text_49 : decode cX11_text 49 = .ok (.iconst 0, 1) := by decide +kernel
theorem dX11_text_50 : decode cX11_text 50 = .ok (.putfield 86, 3) := by decide +kernel
theorem dX11_text_53 : decode cX11_text 53 = .ok (.aload_n 0, 1) := by decide +kernel
theorem dX11_text_54 : decode cX11_text 54 = .ok (.iconst 0, 1) := by decide +kernel
theorem dX11_text_55 : decode cX11_text 55 = .ok (.putfield 111, 3) := by decide +kernel
theorem dX11_text_58 : decode cX11_text 58 = .ok (.aload_n 0, 1) := by decide +kernel
theorem dX11_text_59 : decode cX11_text 59 = .ok (.iconst 0, 1) := by decide +kernel
theorem dX11_text_60 : decode cX11_text 60 = .ok (.putfield 133, 3) := by decide +kernel
theorem dX11_text_63 : decode cX11_text 63 = .ok (.aload_n 0, 1) := by decide +kernel
theorem dX11_text_64 : decode cX11_text 64 = .ok (.iconst 0, 1) := by decide +kernel
theorem dX11_text_65 : decode cX11_text 65 = .ok (.putfield 189, 3) := by decide +kernel
theorem dX11_text_68 : decode cX11_text 68 = .ok (.aload_n 0, 1) := by decide +kernel
theorem dX11_text_69 : decode cX11_text 69 = .ok (.iconst 0, 1) := by decide +kernel
theorem dX11_text_70 : decode cX11_text 70 = .ok (.putfield 176, 3) := by decide +kernel
theorem dX11_text_73 : decode cX11_text 73 = .ok (.aload_n 0, 1) := by decide +kernel
theorem dX11_text_74 : decode cX11_text 74 = .ok (.getfield 27, 3) := by decide +kernel
theorem dX11_text_77 : decode cX11_text 77 = .ok (.invokestatic 82, 3) := by decide +kernel
theorem dX11_text_80 : decode cX11_text 80 = .ok (.aload_n 0, 1) := by decide +kernel
theorem dX11_text_81 : decode cX11_text 81 = .ok (.invokevirtual 142, 3) := by decide +kernel
theorem dX11_text_84 : decode cX11_text 84 = .ok (.aload_n 0, 1) := by decide +kernel
theorem dX11_text_85 : decode cX11_text 85 = .ok (.getfield 133, 3) := by decide +kernel
theorem dX11_text_88 : decode cX11_text 88 = .ok (.ifCond .ne 30, 3) := by decide +kernel
theorem dX11_text_91 : decode cX11_text 91 = .ok (.aload_n 0, 1) := by decide +kernel
theorem dX11_text_92 : decode cX11_text 92 = .ok (.getfield 117, 3) := by decide +kernel
theorem dX11_text_95 : decode cX11_text 95 = .ok (.bipush 34, 2) := by decide +kernel
theorem dX11_text_97 : decode cX11_text 97 = .ok (.if_icmp .eq 21, 3) := by decide +kernel
theorem dX11_text_100 : decode cX11_text 100 = .ok (.iload_n 1, 1) := by decide +kernel
theorem dX11_text_101 : decode cX11_text 101 = .ok (.ifCond .ne 10, 3) := by decide +kernel
theorem dX11_text_104 : decode cX11_text 104 = .ok (.aload_n 0, 1) := by decide +kernel
theorem dX11_text_105 : decode cX11_text 105 = .ok (.invokevirtual 201, 3) := by decide +kernel
theorem dX11_text_108 : decode cX11_text 108 = .ok (.goto (-24), 3) := by decide +kernel
theorem dX11_text_111 : decode cX11_text 111 = .ok (.aload_n 0, 1) := by decide +kernel
theorem dX11_text_112 : decode cX11_text 112 = .ok (.invokevirtual 204, 3) := by decide +kernel
theorem dX11_text_115 : decode cX11_text 115 = .ok (.goto (-31), 3) := by decide +kernel
theorem dX11_text_118 : decode cX11_text 118 = .ok (.aload_n 0, 1) := by decide +kernel
theorem dX11_text_119 : decode cX11_text 119 = .ok (.aload_n 0, 1) := by decide +kernel
theorem dX11_text_120 : decode cX11_text 120 = .ok (.getfield 133, 3) := by decide +kernel
theorem dX11_text_123 : decode cX11_text 123 = .ok (.putfield 207, 3) := by decide +kernel
theorem dX11_text_126 : decode cX11_text 126 = .ok (.aload_n 0, 1) := by decide +kernel
theorem dX11_text_127 : decode cX11_text 127 = .ok (.aload_n 0, 1) := by decide +kernel
theorem dX11_text_128 : decode cX11_text 128 = .ok (.getfield 133, 3) := by decide +kernel
theorem dX11_text_131 : decode cX11_text 131 = .ok (.ifCond .ne 7, 3) := by decide +kernel
theorem dX11_text_134 : decode cX11_text 134 = .ok (.iconst (-1), 1) := by decide +kernel
theorem dX11_text_135 : decode cX11_text 135 = .ok (.goto 7, 3) := by decide +kernel
theorem dX11_text_138 : decode cX11_text 138 = .ok (.aload_n 0, 1) := by decide +kernel
theorem dX11_text_139 : decode cX11_text 139 = .ok (.getfield 136, 3) := by decide +kernel
theorem dX11_text_142 : decode cX11_text 142 = .ok (.putfield 30, 3) := by decide +kernel
theorem dX11_text_145 : decode cX11_text 145 = .ok (.aload_n 0, 1) := by decide +kernel
theorem dX11_text_146 : decode cX11_text 146 = .ok (.getfield 133, 3) := by decide +kernel
theorem dX11_text_149 : decode cX11_text 149 = .ok (.ifCond .eq 15, 3) := by decide +kernel
theorem dX11_text_152 : decode cX11_text 152 = .ok (.aload_n 0, 1) := by decide +kernel
theorem dX11_text_153 : decode cX11_text 153 = .ok (.bipush (-30), 2) := by decide +kernel
theorem dX11_text_155 : decode cX11_text 155 = .ok (.aload_n 0, 1) := by decide +kernel
theorem dX11_text_156 : decode cX11_text 156 = .ok (.getfield 133, 3) := by decide +kernel
theorem dX11_text_159 : decode cX11_text 159 = .ok (.isub, 1) := by decide +kernel
theorem dX11_text_160 : decode cX11_text 160 = .ok (.invokevirtual 89, 3) := by decide +kernel
theorem dX11_text_163 : decode cX11_text 163 = .ok (.ireturn, 1) := by decide +kernel
theorem dX11_text_164 : decode cX11_text 164 = .ok (.iload_n 1, 1) := by decide +kernel
theorem dX11_text_165 : decode cX11_text 165 = .ok (.ifCond .ne 7, 3) := by decide +kernel
theorem dX11_text_168 : decode cX11_text 168 = .ok (.iconst 0, 1) := by decide +kernel
theorem dX11_text_169 : decode cX11_text 169 = .ok (.goto 5, 3) := by decide +kernel
theorem dX11_text_172 : decode cX11_text 172 = .ok (.bipush 40, 2) := by decide +kernel
theorem dX11_text_174 : decode cX11_text 174 = .ok (.istore_n 3, 1) := by decide +kernel
theorem dX11_text_175 : decode cX11_text 175 = .ok (.iload_n 1, 1) := by decide +kernel
theorem dX11_text_176 : decode cX11_text 176 = .ok (.ifCond .ne 8, 3) := by decide +kernel
theorem dX11_text_179 : decode cX11_text 179 = .ok (.bipush 40, 2) := by decide +kernel
theorem dX11_text_181 : decode cX11_text 181 = .ok (.goto 6, 3) := by decide +kernel
theorem dX11_text_184 : decode cX11_text 184 = .ok (.sipush 477, 3) := by decide +kernel
theorem dX11_text_187 : decode cX11_text 187 = .ok (.istore 4, 2) := by decide +kernel
theorem dX11_text_189 : decode cX11_text 189 = .ok (.iload_n 3, 1) := by decide +kernel
theorem dX11_text_190 : decode cX11_text 190 = .ok (.istore 5, 2) := by decide +kernel
theorem dX11_text_192 : decode cX11_text 192 = .ok (.iload 5, 2) := by decide +kernel
theorem dX11_text_194 : decode cX11_text 194 = .ok (.iload 4, 2) := by decide +kernel
theorem dX11_text_196 : decode cX11_text 196 = .ok (.if_icmp .ge 23, 3) := by decide +kernel
theorem dX11_text_199 : decode cX11_text 199 = .ok (.aload_n 0, 1) := by decide +kernel
theorem dX11_text_200 : decode cX11_text 200 = .ok (.getfield 17, 3) := by decide +kernel
theorem dX11_text_203 : decode cX11_text 203 = .ok (.iload 5, 2) := by decide +kernel
theorem dX11_text_205 : decode cX11_text 205 = .ok (.aload_n 0, 1) := by decide +kernel
theorem dX11_text_206 : decode cX11_text 206 = .ok (.getfield 27, 3) := by decide +kernel
theorem dX11_text_209 : decode cX11_text 209 = .ok (.iload 5, 2) := by decide +kernel
theorem dX11_text_211 : decode cX11_text 211 = .ok (.iaload, 1) := by decide +kernel
theorem dX11_text_212 : decode cX11_text 212 = .ok (.iastore, 1) := by decide +kernel
theorem dX11_text_213 : decode cX11_text 213 = .ok (.iinc 5 1, 3) := by decide +kernel
theorem dX11_text_216 : decode cX11_text 216 = .ok (.goto (-24), 3) := by decide +kernel
theorem dX11_text_219 : decode cX11_text 219 = .ok (.iload_n 1, 1) := by decide +kernel
theorem dX11_text_220 : decode cX11_text 220 = .ok (.ifCond .ne 13, 3) := by decide +kernel
theorem dX11_text_223 : decode cX11_text 223 = .ok (.aload_n 0, 1) := by decide +kernel
theorem dX11_text_224 : decode cX11_text 224 = .ok (.getfield 17, 3) := by decide +kernel
theorem dX11_text_227 : decode cX11_text 227 = .ok (.bipush 39, 2) := by decide +kernel
theorem dX11_text_229 : decode cX11_text 229 = .ok (.iaload, 1) := by decide +kernel
theorem dX11_text_230 : decode cX11_text 230 = .ok (.goto 10, 3) := by decide +kernel
theorem dX11_text_233 : decode cX11_text 233 = .ok (.aload_n 0, 1) := by decide +kernel
theorem dX11_text_234 : decode cX11_text 234 = .ok (.getfield 17, 3) := by decide +kernel
theorem dX11_text_237 : decode cX11_text 237 = .ok (.bipush 40, 2) := by decide +kernel
theorem dX11_text_239 : decode cX11_text 239 = .ok (.iaload, 1) := by decide +kernel
theorem dX11_text_240 : decode cX11_text 240 = .ok (.ireturn, 1) := by decide +kernel
theorem dX11_fault_0 : decode cX11_fault 0 = .ok (.aload_n 0, 1) := by decide +kernel
theorem dX11_fault_1 : decode cX11_fault 1 = .ok (.iconst 0, 1) := by decide +kernel
theorem dX11_fault_2 : decode cX11_fault 2 = .ok (.putfield 1, 3) := by decide +kernel
theorem dX11_fault_5 : decode cX11_fault 5 = .ok (.iload_n 1, 1) := by decide +kernel
theorem dX11_fault_6 : decode cX11_fault 6 = .ok (.ifCond .ne 10, 3) := by decide +kernel
theorem dX11_fault_9 : decode cX11_fault 9 = .ok (.aload_n 0, 1) := by decide +kernel
theorem dX11_fault_10 : decode cX11_fault 10 = .ok (.getfield 207, 3) := by decide +kernel
theorem dX11_fault_13 : decode cX11_fault 13 = .ok (.goto 16, 3) := by decide +kernel
theorem dX11_fault_16 : decode cX11_fault 16 = .ok (.iload_n 1, 1) := by decide +kernel
theorem dX11_fault_17 : decode cX11_fault 17 = .ok (.iconst 1, 1) := by decide +kernel
theorem dX11_fault_18 : decode cX11_fault 18 = .ok (.if_icmp .ne 10, 3) := by decide +kernel
theorem dX11_fault_21 : decode cX11_fault 21 = .ok (.aload_n 0, 1) := by decide +kernel
theorem dX11_fault_22 : decode cX11_fault 22 = .ok (.getfield 30, 3) := by decide +kernel
theorem dX11_fault_25 : decode cX11_fault 25 = .ok (.goto 4, 3) := by decide +kernel
theorem dX11_fault_28 : decode cX11_fault 28 = .ok (.iconst (-1), 1) := by decide +kernel
theorem dX11_fault_29 : decode cX11_fault 29 = .ok (.ireturn, 1) := by decide +kernel
theorem dX11_isCar_0 : decode cX11_isCar 0 = .ok (.iload_n 1, 1) := by decide +kernel
theorem dX11_isCar_1 : decode cX11_isCar 1 = .ok (.i2l, 1) := by decide +kernel
theorem dX11_isCar_2 : decode cX11_isCar 2 = .ok (.lconst 0, 1) := by decide +kernel
theorem dX11_isCar_3 : decode cX11_isCar 3 = .ok (.aload_n 0, 1) := by decide +kernel
theorem dX11_isCar_4 : decode cX11_isCar 4 = .ok (.getfield 17, 3) := by decide +kernel
theorem dX11_isCar_7 : decode cX11_isCar 7 = .ok (.iconst 1, 1) := by decide +kernel
theorem dX11_isCar_8 : decode cX11_isCar 8 = .ok (.iaload, 1) := by decide +kernel
theorem dX11_isCar_9 : decode cX11_isCar 9 = .ok (.iconst 1, 1) := by decide +kernel
theorem dX11_isCar_10 : decode cX11_isCar 10 = .ok (.isub, 1) := by decide +kernel
theorem dX11_isCar_11 : decode cX11_isCar 11 = .ok (.i2l, 1) := by decide +kernel
theorem dX11_isCar_12 : decode cX11_isCar 12 = .ok (.invokestatic 152, 3) := by decide +kernel
theorem dX11_isCar_15 : decode cX11_isCar 15 = .ok (.ireturn, 1) := by decide +kernel
theorem dX11_car_0 : decode cX11_car 0 = .ok (.aload_n 0, 1) := by decide +kernel
theorem dX11_car_1 : decode cX11_car 1 = .ok (.iconst 0, 1) := by decide +kernel
theorem dX11_car_2 : decode cX11_car 2 = .ok (.putfield 1, 3) := by decide +kernel
theorem dX11_car_5 : decode cX11_car 5 = .ok (.aload_n 0, 1) := by decide +kernel
theorem dX11_car_6 : decode cX11_car 6 = .ok (.iload_n 1, 1) := by decide +kernel
theorem dX11_car_7 : decode cX11_car 7 = .ok (.invokevirtual 210, 3) := by decide +kernel
theorem dX11_car_10 : decode cX11_car 10 = .ok (.ifCond .eq 15, 3) := by decide +kernel
theorem dX11_car_13 : decode cX11_car 13 = .ok (.iload_n 2, 1) := by decide +kernel
theorem dX11_car_14 : decode cX11_car 14 = .ok (.i2l, 1) := by decide +kernel
theorem dX11_car_15 : decode cX11_car 15 = .ok (.lconst 0, 1) := by decide +kernel
theorem dX11_car_16 : decode cX11_car 16 = .ok (.ldc2_w 213, 3) := by decide +kernel
theorem dX11_car_19 : decode cX11_car 19 = .ok (.invokestatic 152, 3) := by decide +kernel
theorem dX11_car_22 : decode cX11_car 22 = .ok (.ifCond .ne 10, 3) := by decide +kernel
theorem dX11_car_25 : decode cX11_car 25 = .ok (.aload_n 0, 1) := by decide +kernel
theorem dX11_car_26 : decode cX11_car 26 = .ok (.bipush (-2), 2) := by decide +kernel
theorem dX11_car_28 : decode cX11_car 28 = .ok (.invokevirtual 89, 3) := by decide +kernel
theorem dX11_car_31 : decode cX11_car 31 = .ok (.ireturn, 1) := by decide +kernel
theorem dX11_car_32 : decode cX11_car 32 = .ok (.aload_n 0, 1) := by decide +kernel
theorem dX11_car_33 : decode cX11_car 33 = .ok (.getfield 17, 3) := by decide +kernel
theorem dX11_car_36 : decode cX11_car 36 = .ok (.iconst 2, 1) := by decide +kernel
theorem dX11_car_37 : decode cX11_car 37 = .ok (.bipush 8, 2) := by decide +kernel
theorem dX11_car_39 : decode cX11_car 39 = .ok (.iload_n 2, 1) := by decide +kernel
theorem dX11_car_40 : decode cX11_car 40 = .ok (.imul, 1) := by decide +kernel
theorem dX11_car_41 : decode cX11_car 41 = .ok (.iadd, 1) := by decide +kernel
theorem dX11_car_42 : decode cX11_car 42 = .ok (.iload_n 1, 1) := by decide +kernel
theorem dX11_car_43 : decode cX11_car 43 = .ok (.iadd, 1) := by decide +kernel
theorem dX11_car_44 : decode cX11_car 44 = .ok (.iaload, 1) := by decide +kernel
theorem dX11_car_45 : decode cX11_car 45 = .ok (.ireturn, 1) := by decide +kernel
theorem dX11_trait_0 : decode cX11_trait 0 = .ok (.aload_n 0, 1) := by decide +kernel
theorem dX11_trait_1 : decode cX11_trait 1 = .ok (.iconst 0, 1) := by decide +kernel
theorem dX11_trait_2 : decode cX11_trait 2 = .ok (.putfield 1, 3) := by decide +kernel
theorem dX11_trait_5 : decode cX11_trait 5 = .ok (.iload_n 1, 1) := by decide +kernel
theorem dX11_trait_6 : decode cX11_trait 6 = .ok (.i2l, 1) := by decide +kernel
theorem dX11_trait_7 : decode cX11_trait 7 = .ok (.lconst 0, 1) := by decide +kernel
theorem dX11_trait_8 : decode cX11_trait 8 = .ok (.ldc2_w 215, 3) := by decide +kernel
theorem dX11_trait_11 : decode cX11_trait 11 = .ok (.invokestatic 152, 3) := by decide +kernel
theorem dX11_trait_14 : decode cX11_trait 14 = .ok (.ifCond .ne 10, 3) := by decide +kernel
theorem dX11_trait_17 : decode cX11_trait 17 = .ok (.aload_n 0, 1) := by decide +kernel
theorem dX11_trait_18 : decode cX11_trait 18 = .ok (.bipush (-2), 2) := by decide +kernel
theorem dX11_trait_20 : decode cX11_trait 20 = .ok (.invokevirtual 89, 3) := by decide +kernel
theorem dX11_trait_23 : decode cX11_trait 23 = .ok (.ireturn, 1) := by decide +kernel
theorem dX11_trait_24 : decode cX11_trait 24 = .ok (.aload_n 0, 1) := by decide +kernel
theorem dX11_trait_25 : decode cX11_trait 25 = .ok (.getfield 17, 3) := by decide +kernel
theorem dX11_trait_28 : decode cX11_trait 28 = .ok (.bipush 34, 2) := by decide +kernel
theorem dX11_trait_30 : decode cX11_trait 30 = .ok (.iaload, 1) := by decide +kernel
theorem dX11_trait_31 : decode cX11_trait 31 = .ok (.iload_n 1, 1) := by decide +kernel
theorem dX11_trait_32 : decode cX11_trait 32 = .ok (.ishr, 1) := by decide +kernel
theorem dX11_trait_33 : decode cX11_trait 33 = .ok (.iconst 1, 1) := by decide +kernel
theorem dX11_trait_34 : decode cX11_trait 34 = .ok (.iand, 1) := by decide +kernel
theorem dX11_trait_35 : decode cX11_trait 35 = .ok (.istore_n 3, 1) := by decide +kernel
theorem dX11_trait_36 : decode cX11_trait 36 = .ok (.aload_n 0, 1) := by decide +kernel
theorem dX11_trait_37 : decode cX11_trait 37 = .ok (.getfield 17, 3) := by decide +kernel
theorem dX11_trait_40 : decode cX11_trait 40 = .ok (.bipush 34, 2) := by decide +kernel
theorem dX11_trait_42 : decode cX11_trait 42 = .ok (.iload_n 2, 1) := by decide +kernel
theorem dX11_trait_43 : decode cX11_trait 43 = .ok (.ifCond .eq 17, 3) := by decide +kernel
theorem dX11_trait_46 : decode cX11_trait 46 = .ok (.aload_n 0, 1) := by decide +kernel
theorem dX11_trait_47 : decode cX11_trait 47 = .ok (.getfield 17, 3) := by decide +kernel
theorem dX11_trait_50 : decode cX11_trait 50 = .ok (.bipush 34, 2) := by decide +kernel
theorem dX11_trait_52 : decode cX11_trait 52 = .ok (.iaload, 1) := by decide +kernel
theorem dX11_trait_53 : decode cX11_trait 53 = .ok (.iconst 1, 1) := by decide +kernel
theorem dX11_trait_54 : decode cX11_trait 54 = .ok (.iload_n 1, 1) := by decide +kernel
theorem dX11_trait_55 : decode cX11_trait 55 = .ok (.ishl, 1) := by decide +kernel
theorem dX11_trait_56 : decode cX11_trait 56 = .ok (.ior, 1) := by decide +kernel
theorem dX11_trait_57 : decode cX11_trait 57 = .ok (.goto 16, 3) := by decide +kernel
theorem dX11_trait_60 : decode cX11_trait 60 = .ok (.aload_n 0, 1) := by decide +kernel
theorem dX11_trait_61 : decode cX11_trait 61 = .ok (.getfield 17, 3) := by decide +kernel
theorem dX11_trait_64 : decode cX11_trait 64 = .ok (.bipush 34, 2) := by decide +kernel
theorem dX11_trait_66 : decode cX11_trait 66 = .ok (.iaload, 1) := by decide +kernel
theorem dX11_trait_67 : decode cX11_trait 67 = .ok (.iconst 1, 1) := by decide +kernel
theorem dX11_trait_68 : decode cX11_trait 68 = .ok (.iload_n 1, 1) := by decide +kernel
theorem dX11_trait_69 : decode cX11_trait 69 = .ok (.ishl, 1) := by decide +kernel
theorem dX11_trait_70 : decode cX11_trait 70 = .ok (.iconst (-1), 1) := by decide +kernel
theorem dX11_trait_71 : decode cX11_trait 71 = .ok (.ixor, 1) := by decide +kernel
theorem dX11_trait_72 : decode cX11_trait 72 = .ok (.iand, 1) := by decide +kernel
theorem dX11_trait_73 : decode cX11_trait 73 = .ok (.iastore, 1) := by decide +kernel
theorem dX11_trait_74 : decode cX11_trait 74 = .ok (.iload_n 3, 1) := by decide +kernel
theorem dX11_trait_75 : decode cX11_trait 75 = .ok (.ireturn, 1) := by decide +kernel
theorem dX11_set_0 : decode cX11_set 0 = .ok (.aload_n 0, 1) := by decide +kernel
theorem dX11_set_1 : decode cX11_set 1 = .ok (.iconst 0, 1) := by decide +kernel
theorem dX11_set_2 : decode cX11_set 2 = .ok (.putfield 1, 3) := by decide +kernel
theorem dX11_set_5 : decode cX11_set 5 = .ok (.iload_n 1, 1) := by decide +kernel
theorem dX11_set_6 : decode cX11_set 6 = .ok (.i2l, 1) := by decide +kernel
theorem dX11_set_7 : decode cX11_set 7 = .ok (.lconst 0, 1) := by decide +kernel
theorem dX11_set_8 : decode cX11_set 8 = .ok (.ldc2_w 213, 3) := by decide +kernel
theorem dX11_set_11 : decode cX11_set 11 = .ok (.invokestatic 152, 3) := by decide +kernel
theorem dX11_set_14 : decode cX11_set 14 = .ok (.ifCond .ne 10, 3) := by decide +kernel
theorem dX11_set_17 : decode cX11_set 17 = .ok (.aload_n 0, 1) := by decide +kernel
theorem dX11_set_18 : decode cX11_set 18 = .ok (.bipush (-2), 2) := by decide +kernel
theorem dX11_set_20 : decode cX11_set 20 = .ok (.invokevirtual 89, 3) := by decide +kernel
theorem dX11_set_23 : decode cX11_set 23 = .ok (.ireturn, 1) := by decide +kernel
theorem dX11_set_24 : decode cX11_set 24 = .ok (.iload_n 2, 1) := by decide +kernel
theorem dX11_set_25 : decode cX11_set 25 = .ok (.i2l, 1) := by decide +kernel
theorem dX11_set_26 : decode cX11_set 26 = .ok (.iload_n 1, 1) := by decide +kernel
theorem dX11_set_27 : decode cX11_set 27 = .ok (.iconst 3, 1) := by decide +kernel
theorem dX11_set_28 : decode cX11_set 28 = .ok (.if_icmp .ne 7, 3) := by decide +kernel
theorem dX11_set_31 : decode cX11_set 31 = .ok (.lconst 1, 1) := by decide +kernel
theorem dX11_set_32 : decode cX11_set 32 = .ok (.goto 4, 3) := by decide +kernel
theorem dX11_set_35 : decode cX11_set 35 = .ok (.lconst 0, 1) := by decide +kernel
theorem dX11_set_36 : decode cX11_set 36 = .ok (.iload_n 1, 1) := by decide +kernel
theorem dX11_set_37 : decode cX11_set 37 = .ok (.ifCond .ne 9, 3) := by decide +kernel
theorem dX11_set_40 : decode cX11_set 40 = .ok (.ldc2_w 217, 3) := by decide +kernel
theorem dX11_set_43 : decode cX11_set 43 = .ok (.goto 28, 3) := by decide +kernel
theorem dX11_set_46 : decode cX11_set 46 = .ok (.iload_n 1, 1) := by decide +kernel
theorem dX11_set_47 : decode cX11_set 47 = .ok (.iconst 1, 1) := by decide +kernel
theorem dX11_set_48 : decode cX11_set 48 = .ok (.if_icmp .ne 9, 3) := by decide +kernel
theorem dX11_set_51 : decode cX11_set 51 = .ok (.ldc2_w 219, 3) := by decide +kernel
theorem dX11_set_54 : decode cX11_set 54 = .ok (.goto 17, 3) := by decide +kernel
theorem dX11_set_57 : decode cX11_set 57 = .ok (.iload_n 1, 1) := by decide +kernel
theorem dX11_set_58 : decode cX11_set 58 = .ok (.iconst 2, 1) := by decide +kernel
theorem dX11_set_59 : decode cX11_set 59 = .ok (.if_icmp .ne 9, 3) := by decide +kernel
theorem dX11_set_62 : decode cX11_set 62 = .ok (.ldc2_w 221, 3) := by decide +kernel
theorem dX11_set_65 : decode cX11_set 65 = .ok (.goto 6, 3) := by decide +kernel
theorem dX11_set_68 : decode cX11_set 68 = .ok (.ldc2_w 223, 3) := by decide +kernel
theorem dX11_set_71 : decode cX11_set 71 = .ok (.invokestatic 152, 3) := by decide +kernel
theorem dX11_set_74 : decode cX11_set 74 = .ok (.ifCond .ne 10, 3) := by decide +kernel
theorem dX11_set_77 : decode cX11_set 77 = .ok (.aload_n 0, 1) := by decide +kernel
theorem dX11_set_78 : decode cX11_set 78 = .ok (.bipush (-3), 2) := by decide +kernel
theorem dX11_set_80 : decode cX11_set 80 = .ok (.invokevirtual 89, 3) := by decide +kernel
theorem dX11_set_83 : decode cX11_set 83 = .ok (.ireturn, 1) := by decide +kernel
theorem dX11_set_84 : decode cX11_set 84 = .ok (.aload_n 0, 1) := by decide +kernel
theorem dX11_set_85 : decode cX11_set 85 = .ok (.getfield 17, 3) := by decide +kernel
theorem dX11_set_88 : decode cX11_set 88 = .ok (.bipush 35, 2) := by decide +kernel
theorem dX11_set_90 : decode cX11_set 90 = .ok (.iload_n 1, 1) := by decide +kernel
theorem dX11_set_91 : decode cX11_set 91 = .ok (.iadd, 1) := by decide +kernel
theorem dX11_set_92 : decode cX11_set 92 = .ok (.iaload, 1) := by decide +kernel
theorem dX11_set_93 : decode cX11_set 93 = .ok (.istore_n 3, 1) := by decide +kernel
theorem dX11_set_94 : decode cX11_set 94 = .ok (.aload_n 0, 1) := by decide +kernel
theorem dX11_set_95 : decode cX11_set 95 = .ok (.getfield 17, 3) := by decide +kernel
theorem dX11_set_98 : decode cX11_set 98 = .ok (.bipush 35, 2) := by decide +kernel
theorem dX11_set_100 : decode cX11_set 100 = .ok (.iload_n 1, 1) := by decide +kernel
theorem dX11_set_101 : decode cX11_set 101 = .ok (.iadd, 1) := by decide +kernel
theorem dX11_set_102 : decode cX11_set 102 = .ok (.iload_n 2, 1) := by decide +kernel
theorem dX11_set_103 : decode cX11_set 103 = .ok (.iastore, 1) := by decide +kernel
theorem dX11_set_104 : decode cX11_set 104 = .ok (.iload_n 3, 1) := by decide +kernel
theorem dX11_set_105 : decode cX11_set 105 = .ok (.ireturn, 1) := by decide +kernel
theorem dX11_hasTrait_0 : decode cX11_hasTrait 0 = .ok (.aload_n 0, 1) := by decide +kernel
theorem dX11_hasTrait_1 : decode cX11_hasTrait 1 = .ok (.getfield 17, 3) := by decide +kernel
theorem dX11_hasTrait_4 : decode cX11_hasTrait 4 = .ok (.bipush 34, 2) := by decide +kernel
theorem dX11_hasTrait_6 : decode cX11_hasTrait 6 = .ok (.iaload, 1) := by decide +kernel
theorem dX11_hasTrait_7 : decode cX11_hasTrait 7 = .ok (.iload_n 1, 1) := by decide +kernel
theorem dX11_hasTrait_8 : decode cX11_hasTrait 8 = .ok (.ishr, 1) := by decide +kernel
theorem dX11_hasTrait_9 : decode cX11_hasTrait 9 = .ok (.iconst 1, 1) := by decide +kernel
theorem dX11_hasTrait_10 : decode cX11_hasTrait 10 = .ok (.iand, 1) := by decide +kernel
theorem dX11_hasTrait_11 : decode cX11_hasTrait 11 = .ok (.iconst 1, 1) := by decide +kernel
theorem dX11_hasTrait_12 : decode cX11_hasTrait 12 = .ok (.if_icmp .ne 7, 3) := by decide +kernel
theorem dX11_hasTrait_15 : decode cX11_hasTrait 15 = .ok (.iconst 1, 1) := by decide +kernel
theorem dX11_hasTrait_16 : decode cX11_hasTrait 16 = .ok (.goto 4, 3) := by decide +kernel
theorem dX11_hasTrait_19 : decode cX11_hasTrait 19 = .ok (.iconst 0, 1) := by decide +kernel
theorem dX11_hasTrait_20 : decode cX11_hasTrait 20 = .ok (.ireturn, 1) := by decide +kernel
theorem dX11_begins_0 : decode cX11_begins 0 = .ok (.iconst 0, 1) := by decide +kernel
theorem dX11_begins_1 : decode cX11_begins 1 = .ok (.istore_n 2, 1) := by decide +kernel
theorem dX11_begins_2 : decode cX11_begins 2 = .ok (.iload_n 2, 1) := by decide +kernel
theorem dX11_begins_3 : decode cX11_begins 3 = .ok (.bipush 42, 2) := by decide +kernel
theorem dX11_begins_5 : decode cX11_begins 5 = .ok (.if_icmp .ge 16, 3) := by decide +kernel
theorem dX11_begins_8 : decode cX11_begins 8 = .ok (.aload_n 0, 1) := by decide +kernel
theorem dX11_begins_9 : decode cX11_begins 9 = .ok (.getfield 33, 3) := by decide +kernel
theorem dX11_begins_12 : decode cX11_begins 12 = .ok (.iload_n 2, 1) := by decide +kernel
theorem dX11_begins_13 : decode cX11_begins 13 = .ok (.iconst 0, 1) := by decide +kernel
theorem dX11_begins_14 : decode cX11_begins 14 = .ok (.iastore, 1) := by decide +kernel
theorem dX11_begins_15 : decode cX11_begins 15 = .ok (.iinc 2 1, 3) := by decide +kernel
theorem dX11_begins_18 : decode cX11_begins 18 = .ok (.goto (-16), 3) := by decide +kernel
theorem dX11_begins_21 : decode cX11_begins 21 = .ok (.iconst 0, 1) := by decide +kernel
theorem dX11_begins_22 : decode cX11_begins 22 = .ok (.istore_n 2, 1) := by decide +kernel
theorem dX11_begins_23 : decode cX11_begins 23 = .ok (.iload_n 2, 1) := by decide +kernel
theorem dX11_begins_24 : decode cX11_begins 24 = .ok (.aload_n 0, 1) := by decide +kernel
theorem dX11_begins_25 : decode cX11_begins 25 = .ok (.getfield 17, 3) := by decide +kernel
theorem dX11_begins_28 : decode cX11_begins 28 = .ok (.iconst 1, 1) := by decide +kernel
theorem dX11_begins_29 : decode cX11_begins 29 = .ok (.iaload, 1) := by decide +kernel
theorem dX11_begins_30 : decode cX11_begins 30 = .ok (.if_icmp .ge 82, 3) := by decide +kernel
theorem dX11_begins_33 : decode cX11_begins 33 = .ok (.aload_n 0, 1) := by decide +kernel
theorem dX11_begins_34 : decode cX11_begins 34 = .ok (.getfield 33, 3) := by decide +kernel
theorem dX11_begins_37 : decode cX11_begins 37 = .ok (.iconst 0, 1) := by decide +kernel
theorem dX11_begins_38 : decode cX11_begins 38 = .ok (.iload_n 2, 1) := by decide +kernel
theorem dX11_begins_39 : decode cX11_begins 39 = .ok (.iadd, 1) := by decide +kernel
theorem dX11_begins_40 : decode cX11_begins 40 = .ok (.iload_n 2, 1) := by decide +kernel
theorem dX11_begins_41 : decode cX11_begins 41 = .ok (.aload_n 0, 1) := by decide +kernel
theorem dX11_begins_42 : decode cX11_begins 42 = .ok (.getfield 45, 3) := by decide +kernel
theorem dX11_begins_45 : decode cX11_begins 45 = .ok (.if_icmp .ne 7, 3) := by decide +kernel
theorem dX11_begins_48 : decode cX11_begins 48 = .ok (.iconst 0, 1) := by decide +kernel
theorem dX11_begins_49 : decode cX11_begins 49 = .ok (.goto 12, 3) := by decide +kernel
theorem dX11_begins_52 : decode cX11_begins 52 = .ok (.aload_n 0, 1) := by decide +kernel
theorem dX11_begins_53 : decode cX11_begins 53 = .ok (.getfield 17, 3) := by decide +kernel
theorem dX11_begins_56 : decode cX11_begins 56 = .ok (.bipush 10, 2) := by decide +kernel
theorem dX11_begins_58 : decode cX11_begins 58 = .ok (.iload_n 2, 1) := by decide +kernel
theorem dX11_begins_59 : decode cX11_begins 59 = .ok (.iadd, 1) := by decide +kernel
theorem dX11_begins_60 : decode cX11_begins 60 = .ok (.iaload, 1) := by decide +kernel
theorem dX11_begins_61 : decode cX11_begins 61 = .ok (.iastore, 1) := by decide +kernel
theorem dX11_begins_62 : decode cX11_begins 62 = .ok (.aload_n 0, 1) := by decide +kernel
theorem dX11_begins_63 : decode cX11_begins 63 = .ok (.getfield 33, 3) := by decide +kernel
theorem dX11_begins_66 : decode cX11_begins 66 = .ok (.bipush 8, 2) := by decide +kernel
theorem dX11_begins_68 : decode cX11_begins 68 = .ok (.iload_n 2, 1) := by decide +kernel
theorem dX11_begins_69 : decode cX11_begins 69 = .ok (.iadd, 1) := by decide +kernel
theorem dX11_begins_70 : decode cX11_begins 70 = .ok (.aload_n 0, 1) := by decide +kernel
theorem dX11_begins_71 : decode cX11_begins 71 = .ok (.bipush 6, 2) := by decide +kernel
theorem dX11_begins_73 : decode cX11_begins 73 = .ok (.invokevirtual 225, 3) := by decide +kernel
theorem dX11_begins_76 : decode cX11_begins 76 = .ok (.ifCond .eq 20, 3) := by decide +kernel
theorem dX11_begins_79 : decode cX11_begins 79 = .ok (.aload_n 0, 1) := by decide +kernel
theorem dX11_begins_80 : decode cX11_begins 80 = .ok (.getfield 17, 3) := by decide +kernel
theorem dX11_begins_83 : decode cX11_begins 83 = .ok (.bipush 18, 2) := by decide +kernel
theorem dX11_begins_85 : decode cX11_begins 85 = .ok (.iload_n 2, 1) := by decide +kernel
theorem dX11_begins_86 : decode cX11_begins 86 = .ok (.iadd, 1) := by decide +kernel
theorem dX11_begins_87 : decode cX11_begins 87 = .ok (.iaload, 1) := by decide +kernel
theorem dX11_begins_88 : decode cX11_begins 88 = .ok (.iconst 4, 1) := by decide +kernel
theorem dX11_begins_89 : decode cX11_begins 89 = .ok (.if_icmp .le 7, 3) := by decide +kernel
theorem dX11_begins_92 : decode cX11_begins 92 = .ok (.iconst 4, 1) := by decide +kernel
theorem dX11_begins_93 : decode cX11_begins 93 = .ok (.goto 12, 3) := by decide +kernel
theorem dX11_begins_96 : decode cX11_begins 96 = .ok (.aload_n 0, 1) := by decide +kernel
theorem dX11_begins_97 : decode cX11_begins 97 = .ok (.getfield 17, 3) := by decide +kernel
theorem dX11_begins_100 : decode cX11_begins 100 = .ok (.bipush 18, 2) := by decide +kernel
theorem dX11_begins_102 : decode cX11_begins 102 = .ok (.iload_n 2, 1) := by decide +kernel
theorem dX11_begins_103 : decode cX11_begins 103 = .ok (.iadd, 1) := by decide +kernel
theorem dX11_begins_104 : decode cX11_begins 104 = .ok (.iaload, 1) := by decide +kernel
theorem dX11_begins_105 : decode cX11_begins 105 = .ok (.iastore, 1) := by decide +kernel
theorem dX11_begins_106 : decode cX11_begins 106 = .ok (.iinc 2 1, 3) := by decide +kernel
theorem dX11_begins_109 : decode cX11_begins 109 = .ok (.goto (-86), 3) := by decide +kernel
theorem dX11_begins_112 : decode cX11_begins 112 = .ok (.aload_n 0, 1) := by decide +kernel
theorem dX11_begins_113 : decode cX11_begins 113 = .ok (.getfield 33, 3) := by decide +kernel
theorem dX11_begins_116 : decode cX11_begins 116 = .ok (.bipush 39, 2) := by decide +kernel
theorem dX11_begins_118 : decode cX11_begins 118 = .ok (.iconst (-1), 1) := by decide +kernel
theorem dX11_begins_119 : decode cX11_begins 119 = .ok (.iastore, 1) := by decide +kernel
theorem dX11_begins_120 : decode cX11_begins 120 = .ok (.aload_n 0, 1) := by decide +kernel
theorem dX11_begins_121 : decode cX11_begins 121 = .ok (.getfield 33, 3) := by decide +kernel
theorem dX11_begins_124 : decode cX11_begins 124 = .ok (.bipush 40, 2) := by decide +kernel
theorem dX11_begins_126 : decode cX11_begins 126 = .ok (.iload_n 1, 1) := by decide +kernel
theorem dX11_begins_127 : decode cX11_begins 127 = .ok (.iastore, 1) := by decide +kernel
theorem dX11_begins_128 : decode cX11_begins 128 = .ok (.return_, 1) := by decide +kernel
theorem dX11_isSome_0 : decode cX11_isSome 0 = .ok (.iconst 0, 1) := by decide +kernel
theorem dX11_isSome_1 : decode cX11_isSome 1 = .ok (.istore 6, 2) := by decide +kernel
theorem dX11_isSome_3 : decode cX11_isSome 3 = .ok (.iload 6, 2) := by decide +kernel
theorem dX11_isSome_5 : decode cX11_isSome 5 = .ok (.aload_n 0, 1) := by decide +kernel
theorem dX11_isSome_6 : decode cX11_isSome 6 = .ok (.getfield 17, 3) := by decide +kernel
theorem dX11_isSome_9 : decode cX11_isSome 9 = .ok (.iconst 1, 1) := by decide +kernel
theorem dX11_isSome_10 : decode cX11_isSome 10 = .ok (.iaload, 1) := by decide +kernel
theorem dX11_isSome_11 : decode cX11_isSome 11 = .ok (.if_icmp .ge 81, 3) := by decide +kernel
theorem dX11_isSome_14 : decode cX11_isSome 14 = .ok (.aload_n 0, 1) := by decide +kernel
theorem dX11_isSome_15 : decode cX11_isSome 15 = .ok (.getfield 17, 3) := by decide +kernel
theorem dX11_isSome_18 : decode cX11_isSome 18 = .ok (.iconst 2, 1) := by decide +kernel
theorem dX11_isSome_19 : decode cX11_isSome 19 = .ok (.iload 6, 2) := by decide +kernel
theorem dX11_isSome_21 : decode cX11_isSome 21 = .ok (.iadd, 1) := by decide +kernel
theorem dX11_isSome_22 : decode cX11_isSome 22 = .ok (.iaload, 1) := by decide +kernel
theorem dX11_isSome_23 : decode cX11_isSome 23 = .ok (.istore 7, 2) := by decide +kernel
