theorem dX10_trait_10 : decode cX10_trait 10 = .ok (.aload_n 0, 1) := by decide +kernel
theorem dX10_trait_11 : decode cX10_trait 11 = .ok (.bipush (-2), 2) := by decide +kernel
theorem dX10_trait_13 : decode cX10_trait 13 = .ok (.invokevirtual 97, 3) := by decide +kernel
theorem dX10_trait_16 : decode cX10_trait 16 = .ok (.ireturn, 1) := by decide +kernel
theorem dX10_trait_17 : decode cX10_trait 17 = .ok (.aload_n 0, 1) := by decide +kernel
theorem dX10_trait_18 : decode cX10_trait 18 = .ok (.iconst 0, 1) := by decide +kernel
theorem dX10_trait_19 : decode cX10_trait 19 = .ok (.putfield 115, 3) := by decide +kernel
theorem dX10_trait_22 : decode cX10_trait 22 = .ok (.iconst 1, 1) := by decide +kernel
theorem dX10_trait_23 : decode cX10_trait 23 = .ok (.iload_n 1, 1) := by decide +kernel
theorem dX10_trait_24 : decode cX10_trait 24 = .ok (.ishl, 1) := by decide +kernel
theorem dX10_trait_25 : decode cX10_trait 25 = .ok (.istore_n 3, 1) := by decide +kernel
theorem dX10_trait_26 : decode cX10_trait 26 = .ok (.aload_n 0, 1) := by decide +kernel
theorem dX10_trait_27 : decode cX10_trait 27 = .ok (.getfield 23, 3) := by decide +kernel
theorem dX10_trait_30 : decode cX10_trait 30 = .ok (.getfield 37, 3) := by decide +kernel
theorem dX10_trait_33 : decode cX10_trait 33 = .ok (.getfield 153, 3) := by decide +kernel
theorem dX10_trait_36 : decode cX10_trait 36 = .ok (.iload_n 3, 1) := by decide +kernel
theorem dX10_trait_37 : decode cX10_trait 37 = .ok (.iand, 1) := by decide +kernel
theorem dX10_trait_38 : decode cX10_trait 38 = .ok (.ifCond .eq 7, 3) := by decide +kernel
theorem dX10_trait_41 : decode cX10_trait 41 = .ok (.iconst 1, 1) := by decide +kernel
theorem dX10_trait_42 : decode cX10_trait 42 = .ok (.goto 4, 3) := by decide +kernel
theorem dX10_trait_45 : decode cX10_trait 45 = .ok (.iconst 0, 1) := by decide +kernel
theorem dX10_trait_46 : decode cX10_trait 46 = .ok (.istore 4, 2) := by decide +kernel
theorem dX10_trait_48 : decode cX10_trait 48 = .ok (.aload_n 0, 1) := by decide +kernel
theorem dX10_trait_49 : decode cX10_trait 49 = .ok (.getfield 23, 3) := by decide +kernel
theorem dX10_trait_52 : decode cX10_trait 52 = .ok (.getfield 37, 3) := by decide +kernel
theorem dX10_trait_55 : decode cX10_trait 55 = .ok (.iload_n 2, 1) := by decide +kernel
theorem dX10_trait_56 : decode cX10_trait 56 = .ok (.ifCond .eq 18, 3) := by decide +kernel
theorem dX10_trait_59 : decode cX10_trait 59 = .ok (.aload_n 0, 1) := by decide +kernel
theorem dX10_trait_60 : decode cX10_trait 60 = .ok (.getfield 23, 3) := by decide +kernel
theorem dX10_trait_63 : decode cX10_trait 63 = .ok (.getfield 37, 3) := by decide +kernel
theorem dX10_trait_66 : decode cX10_trait 66 = .ok (.getfield 153, 3) := by decide +kernel
theorem dX10_trait_69 : decode cX10_trait 69 = .ok (.iload_n 3, 1) := by decide +kernel
theorem dX10_trait_70 : decode cX10_trait 70 = .ok (.ior, 1) := by decide +kernel
theorem dX10_trait_71 : decode cX10_trait 71 = .ok (.goto 17, 3) := by decide +kernel
theorem dX10_trait_74 : decode cX10_trait 74 = .ok (.aload_n 0, 1) := by decide +kernel
theorem dX10_trait_75 : decode cX10_trait 75 = .ok (.getfield 23, 3) := by decide +kernel
theorem dX10_trait_78 : decode cX10_trait 78 = .ok (.getfield 37, 3) := by decide +kernel
theorem dX10_trait_81 : decode cX10_trait 81 = .ok (.getfield 153, 3) := by decide +kernel
theorem dX10_trait_84 : decode cX10_trait 84 = .ok (.iload_n 3, 1) := by decide +kernel
theorem dX10_trait_85 : decode cX10_trait 85 = .ok (.iconst (-1), 1) := by decide +kernel
theorem dX10_trait_86 : decode cX10_trait 86 = .ok (.ixor, 1) := by decide +kernel
theorem dX10_trait_87 : decode cX10_trait 87 = .ok (.iand, 1) := by decide +kernel
theorem dX10_trait_88 : decode cX10_trait 88 = .ok (.putfield 153, 3) := by decide +kernel
theorem dX10_trait_91 : decode cX10_trait 91 = .ok (.iload 4, 2) := by decide +kernel
theorem dX10_trait_93 : decode cX10_trait 93 = .ok (.ireturn, 1) := by decide +kernel
theorem dX10_set_0 : decode cX10_set 0 = .ok (.iload_n 1, 1) := by decide +kernel
theorem dX10_set_1 : decode cX10_set 1 = .ok (.ifCond .lt 8, 3) := by decide +kernel
theorem dX10_set_4 : decode cX10_set 4 = .ok (.iload_n 1, 1) := by decide +kernel
theorem dX10_set_5 : decode cX10_set 5 = .ok (.iconst 3, 1) := by decide +kernel
theorem dX10_set_6 : decode cX10_set 6 = .ok (.if_icmp .le 10, 3) := by decide +kernel
theorem dX10_set_9 : decode cX10_set 9 = .ok (.aload_n 0, 1) := by decide +kernel
theorem dX10_set_10 : decode cX10_set 10 = .ok (.bipush (-2), 2) := by decide +kernel
theorem dX10_set_12 : decode cX10_set 12 = .ok (.invokevirtual 97, 3) := by decide +kernel
theorem dX10_set_15 : decode cX10_set 15 = .ok (.ireturn, 1) := by decide +kernel
theorem dX10_set_16 : decode cX10_set 16 = .ok (.iload_n 2, 1) := by decide +kernel
theorem dX10_set_17 : decode cX10_set 17 = .ok (.iload_n 1, 1) := by decide +kernel
theorem dX10_set_18 : decode cX10_set 18 = .ok (.invokestatic 156, 3) := by decide +kernel
theorem dX10_set_21 : decode cX10_set 21 = .ok (.if_icmp .lt 11, 3) := by decide +kernel
theorem dX10_set_24 : decode cX10_set 24 = .ok (.iload_n 2, 1) := by decide +kernel
theorem dX10_set_25 : decode cX10_set 25 = .ok (.iload_n 1, 1) := by decide +kernel
theorem dX10_set_26 : decode cX10_set 26 = .ok (.invokestatic 159, 3) := by decide +kernel
theorem dX10_set_29 : decode cX10_set 29 = .ok (.if_icmp .le 10, 3) := by decide +kernel
theorem dX10_set_32 : decode cX10_set 32 = .ok (.aload_n 0, 1) := by decide +kernel
theorem dX10_set_33 : decode cX10_set 33 = .ok (.bipush (-3), 2) := by decide +kernel
theorem dX10_set_35 : decode cX10_set 35 = .ok (.invokevirtual 97, 3) := by decide +kernel
theorem dX10_set_38 : decode cX10_set 38 = .ok (.ireturn, 1) := by decide +kernel
theorem dX10_set_39 : decode cX10_set 39 = .ok (.aload_n 0, 1) := by decide +kernel
theorem dX10_set_40 : decode cX10_set 40 = .ok (.iconst 0, 1) := by decide +kernel
theorem dX10_set_41 : decode cX10_set 41 = .ok (.putfield 115, 3) := by decide +kernel
theorem dX10_set_44 : decode cX10_set 44 = .ok (.aload_n 0, 1) := by decide +kernel
theorem dX10_set_45 : decode cX10_set 45 = .ok (.getfield 23, 3) := by decide +kernel
theorem dX10_set_48 : decode cX10_set 48 = .ok (.getfield 37, 3) := by decide +kernel
theorem dX10_set_51 : decode cX10_set 51 = .ok (.iload_n 1, 1) := by decide +kernel
theorem dX10_set_52 : decode cX10_set 52 = .ok (.iload_n 2, 1) := by decide +kernel
theorem dX10_set_53 : decode cX10_set 53 = .ok (.invokevirtual 162, 3) := by decide +kernel
theorem dX10_set_56 : decode cX10_set 56 = .ok (.ireturn, 1) := by decide +kernel
theorem dX10_chance_0 : decode cX10_chance 0 = .ok (.aload_n 0, 1) := by decide +kernel
theorem dX10_chance_1 : decode cX10_chance 1 = .ok (.iload_n 1, 1) := by decide +kernel
theorem dX10_chance_2 : decode cX10_chance 2 = .ok (.invokevirtual 137, 3) := by decide +kernel
theorem dX10_chance_5 : decode cX10_chance 5 = .ok (.ifCond .ne 10, 3) := by decide +kernel
theorem dX10_chance_8 : decode cX10_chance 8 = .ok (.aload_n 0, 1) := by decide +kernel
theorem dX10_chance_9 : decode cX10_chance 9 = .ok (.bipush (-2), 2) := by decide +kernel
theorem dX10_chance_11 : decode cX10_chance 11 = .ok (.invokevirtual 97, 3) := by decide +kernel
theorem dX10_chance_14 : decode cX10_chance 14 = .ok (.ireturn, 1) := by decide +kernel
theorem dX10_chance_15 : decode cX10_chance 15 = .ok (.aload_n 0, 1) := by decide +kernel
theorem dX10_chance_16 : decode cX10_chance 16 = .ok (.getfield 48, 3) := by decide +kernel
theorem dX10_chance_19 : decode cX10_chance 19 = .ok (.aload_n 0, 1) := by decide +kernel
theorem dX10_chance_20 : decode cX10_chance 20 = .ok (.getfield 23, 3) := by decide +kernel
theorem dX10_chance_23 : decode cX10_chance 23 = .ok (.getfield 37, 3) := by decide +kernel
theorem dX10_chance_26 : decode cX10_chance 26 = .ok (.iconst (-1), 1) := by decide +kernel
theorem dX10_chance_27 : decode cX10_chance 27 = .ok (.invokevirtual 166, 3) := by decide +kernel
theorem dX10_chance_30 : decode cX10_chance 30 = .ok (.aload_n 0, 1) := by decide +kernel
theorem dX10_chance_31 : decode cX10_chance 31 = .ok (.getfield 48, 3) := by decide +kernel
theorem dX10_chance_34 : decode cX10_chance 34 = .ok (.iload_n 1, 1) := by decide +kernel
theorem dX10_chance_35 : decode cX10_chance 35 = .ok (.invokevirtual 170, 3) := by decide +kernel
theorem dX10_chance_38 : decode cX10_chance 38 = .ok (.ireturn, 1) := by decide +kernel
theorem dX10_can_0 : decode cX10_can 0 = .ok (.aload_n 0, 1) := by decide +kernel
theorem dX10_can_1 : decode cX10_can 1 = .ok (.iload_n 1, 1) := by decide +kernel
theorem dX10_can_2 : decode cX10_can 2 = .ok (.invokevirtual 137, 3) := by decide +kernel
theorem dX10_can_5 : decode cX10_can 5 = .ok (.ifCond .ne 10, 3) := by decide +kernel
theorem dX10_can_8 : decode cX10_can 8 = .ok (.aload_n 0, 1) := by decide +kernel
theorem dX10_can_9 : decode cX10_can 9 = .ok (.bipush (-2), 2) := by decide +kernel
theorem dX10_can_11 : decode cX10_can 11 = .ok (.invokevirtual 97, 3) := by decide +kernel
theorem dX10_can_14 : decode cX10_can 14 = .ok (.ireturn, 1) := by decide +kernel
theorem dX10_can_15 : decode cX10_can 15 = .ok (.aload_n 0, 1) := by decide +kernel
theorem dX10_can_16 : decode cX10_can 16 = .ok (.getfield 48, 3) := by decide +kernel
theorem dX10_can_19 : decode cX10_can 19 = .ok (.aload_n 0, 1) := by decide +kernel
theorem dX10_can_20 : decode cX10_can 20 = .ok (.getfield 23, 3) := by decide +kernel
theorem dX10_can_23 : decode cX10_can 23 = .ok (.getfield 37, 3) := by decide +kernel
theorem dX10_can_26 : decode cX10_can 26 = .ok (.iconst (-1), 1) := by decide +kernel
theorem dX10_can_27 : decode cX10_can 27 = .ok (.invokevirtual 166, 3) := by decide +kernel
theorem dX10_can_30 : decode cX10_can 30 = .ok (.aload_n 0, 1) := by decide +kernel
theorem dX10_can_31 : decode cX10_can 31 = .ok (.getfield 48, 3) := by decide +kernel
theorem dX10_can_34 : decode cX10_can 34 = .ok (.iload_n 1, 1) := by decide +kernel
theorem dX10_can_35 : decode cX10_can 35 = .ok (.invokevirtual 173, 3) := by decide +kernel
theorem dX10_can_38 : decode cX10_can 38 = .ok (.ifCond .eq 7, 3) := by decide +kernel
theorem dX10_can_41 : decode cX10_can 41 = .ok (.iconst 1, 1) := by decide +kernel
theorem dX10_can_42 : decode cX10_can 42 = .ok (.goto 4, 3) := by decide +kernel
theorem dX10_can_45 : decode cX10_can 45 = .ok (.iconst 0, 1) := by decide +kernel
theorem dX10_can_46 : decode cX10_can 46 = .ok (.ireturn, 1) := by decide +kernel
theorem dX10_run_0 : decode cX10_run 0 = .ok (.iload_n 2, 1) := by decide +kernel
theorem dX10_run_1 : decode cX10_run 1 = .ok (.ifCond .lt 8, 3) := by decide +kernel
theorem dX10_run_4 : decode cX10_run 4 = .ok (.iload_n 2, 1) := by decide +kernel
theorem dX10_run_5 : decode cX10_run 5 = .ok (.iconst 5, 1) := by decide +kernel
theorem dX10_run_6 : decode cX10_run 6 = .ok (.if_icmp .le 10, 3) := by decide +kernel
theorem dX10_run_9 : decode cX10_run 9 = .ok (.aload_n 0, 1) := by decide +kernel
theorem dX10_run_10 : decode cX10_run 10 = .ok (.bipush (-2), 2) := by decide +kernel
theorem dX10_run_12 : decode cX10_run 12 = .ok (.invokevirtual 97, 3) := by decide +kernel
theorem dX10_run_15 : decode cX10_run 15 = .ok (.ireturn, 1) := by decide +kernel
theorem dX10_run_16 : decode cX10_run 16 = .ok (.aload_n 0, 1) := by decide +kernel
theorem dX10_run_17 : decode cX10_run 17 = .ok (.iload_n 1, 1) := by decide +kernel
theorem dX10_run_18 : decode cX10_run 18 = .ok (.bipush 99, 2) := by decide +kernel
theorem dX10_run_20 : decode cX10_run 20 = .ok (.invokevirtual 176, 3) := by decide +kernel
theorem dX10_run_23 : decode cX10_run 23 = .ok (.iload_n 2, 1) := by decide +kernel
theorem dX10_run_24 : decode cX10_run 24 = .ok (.tableswitch 76 0 4 #[36, 44, 52, 60, 68], 36) := by decide +kernel
theorem dX10_run_60 : decode cX10_run 60 = .ok (.aload_n 0, 1) := by decide +kernel
theorem dX10_run_61 : decode cX10_run 61 = .ok (.getfield 48, 3) := by decide +kernel
theorem dX10_run_64 : decode cX10_run 64 = .ok (.getfield 180, 3) := by decide +kernel
theorem dX10_run_67 : decode cX10_run 67 = .ok (.ireturn, 1) := by decide +kernel
theorem dX10_run_68 : decode cX10_run 68 = .ok (.aload_n 0, 1) := by decide +kernel
theorem dX10_run_69 : decode cX10_run 69 = .ok (.getfield 48, 3) := by decide +kernel
theorem dX10_run_72 : decode cX10_run 72 = .ok (.getfield 183, 3) := by decide +kernel
theorem dX10_run_75 : decode cX10_run 75 = .ok (.ireturn, 1) := by decide +kernel
theorem dX10_run_76 : decode cX10_run 76 = .ok (.aload_n 0, 1) := by decide +kernel
theorem dX10_run_77 : decode cX10_run 77 = .ok (.getfield 48, 3) := by decide +kernel
theorem dX10_run_80 : decode cX10_run 80 = .ok (.getfield 186, 3) := by decide +kernel
theorem dX10_run_83 : decode cX10_run 83 = .ok (.ireturn, 1) := by decide +kernel
theorem dX10_run_84 : decode cX10_run 84 = .ok (.aload_n 0, 1) := by decide +kernel
theorem dX10_run_85 : decode cX10_run 85 = .ok (.getfield 48, 3) := by decide +kernel
theorem dX10_run_88 : decode cX10_run 88 = .ok (.getfield 189, 3) := by decide +kernel
theorem dX10_run_91 : decode cX10_run 91 = .ok (.ireturn, 1) := by decide +kernel
theorem dX10_run_92 : decode cX10_run 92 = .ok (.aload_n 0, 1) := by decide +kernel
theorem dX10_run_93 : decode cX10_run 93 = .ok (.getfield 48, 3) := by decide +kernel
theorem dX10_run_96 : decode cX10_run 96 = .ok (.invokevirtual 192, 3) := by decide +kernel
theorem dX10_run_99 : decode cX10_run 99 = .ok (.ireturn, 1) := by decide +kernel
theorem dX10_run_100 : decode cX10_run 100 = .ok (.aload_n 0, 1) := by decide +kernel
theorem dX10_run_101 : decode cX10_run 101 = .ok (.getfield 48, 3) := by decide +kernel
theorem dX10_run_104 : decode cX10_run 104 = .ok (.getfield 196, 3) := by decide +kernel
theorem dX10_run_107 : decode cX10_run 107 = .ok (.ireturn, 1) := by decide +kernel
theorem dX10_watch_0 : decode cX10_watch 0 = .ok (.aload_n 0, 1) := by decide +kernel
theorem dX10_watch_1 : decode cX10_watch 1 = .ok (.iload_n 3, 1) := by decide +kernel
theorem dX10_watch_2 : decode cX10_watch 2 = .ok (.invokevirtual 137, 3) := by decide +kernel
theorem dX10_watch_5 : decode cX10_watch 5 = .ok (.ifCond .eq 24, 3) := by decide +kernel
theorem dX10_watch_8 : decode cX10_watch 8 = .ok (.iload_n 2, 1) := by decide +kernel
theorem dX10_watch_9 : decode cX10_watch 9 = .ok (.ifCond .lt 20, 3) := by decide +kernel
theorem dX10_watch_12 : decode cX10_watch 12 = .ok (.iload_n 2, 1) := by decide +kernel
theorem dX10_watch_13 : decode cX10_watch 13 = .ok (.bipush 99, 2) := by decide +kernel
theorem dX10_watch_15 : decode cX10_watch 15 = .ok (.if_icmp .gt 14, 3) := by decide +kernel
theorem dX10_watch_18 : decode cX10_watch 18 = .ok (.iload 4, 2) := by decide +kernel
theorem dX10_watch_20 : decode cX10_watch 20 = .ok (.ifCond .lt 9, 3) := by decide +kernel
theorem dX10_watch_23 : decode cX10_watch 23 = .ok (.iload 4, 2) := by decide +kernel
theorem dX10_watch_25 : decode cX10_watch 25 = .ok (.iconst 3, 1) := by decide +kernel
theorem dX10_watch_26 : decode cX10_watch 26 = .ok (.if_icmp .le 11, 3) := by decide +kernel
theorem dX10_watch_29 : decode cX10_watch 29 = .ok (.aload_n 0, 1) := by decide +kernel
theorem dX10_watch_30 : decode cX10_watch 30 = .ok (.sipush (-1000), 3) := by decide +kernel
theorem dX10_watch_33 : decode cX10_watch 33 = .ok (.invokevirtual 199, 3) := by decide +kernel
theorem dX10_watch_36 : decode cX10_watch 36 = .ok (.ireturn, 1) := by decide +kernel
theorem dX10_watch_37 : decode cX10_watch 37 = .ok (.aload_n 0, 1) := by decide +kernel
theorem dX10_watch_38 : decode cX10_watch 38 = .ok (.iload_n 1, 1) := by decide +kernel
theorem dX10_watch_39 : decode cX10_watch 39 = .ok (.iload_n 2, 1) := by decide +kernel
theorem dX10_watch_40 : decode cX10_watch 40 = .ok (.invokevirtual 176, 3) := by decide +kernel
theorem dX10_watch_43 : decode cX10_watch 43 = .ok (.iload 4, 2) := by decide +kernel
theorem dX10_watch_45 : decode cX10_watch 45 = .ok (.tableswitch 57 0 2 #[27, 37, 47], 27) := by decide +kernel
theorem dX10_watch_72 : decode cX10_watch 72 = .ok (.aload_n 0, 1) := by decide +kernel
theorem dX10_watch_73 : decode cX10_watch 73 = .ok (.getfield 48, 3) := by decide +kernel
theorem dX10_watch_76 : decode cX10_watch 76 = .ok (.getfield 202, 3) := by decide +kernel
theorem dX10_watch_79 : decode cX10_watch 79 = .ok (.iload_n 3, 1) := by decide +kernel
theorem dX10_watch_80 : decode cX10_watch 80 = .ok (.iaload, 1) := by decide +kernel
theorem dX10_watch_81 : decode cX10_watch 81 = .ok (.ireturn, 1) := by decide +kernel
theorem dX10_watch_82 : decode cX10_watch 82 = .ok (.aload_n 0, 1) := by decide +kernel
theorem dX10_watch_83 : decode cX10_watch 83 = .ok (.getfield 48, 3) := by decide +kernel
theorem dX10_watch_86 : decode cX10_watch 86 = .ok (.getfield 203, 3) := by decide +kernel
theorem dX10_watch_89 : decode cX10_watch 89 = .ok (.iload_n 3, 1) := by decide +kernel
theorem dX10_watch_90 : decode cX10_watch 90 = .ok (.iaload, 1) := by decide +kernel
theorem dX10_watch_91 : decode cX10_watch 91 = .ok (.ireturn, 1) := by decide +kernel
theorem dX10_watch_92 : decode cX10_watch 92 = .ok (.aload_n 0, 1) := by decide +kernel
theorem dX10_watch_93 : decode cX10_watch 93 = .ok (.getfield 48, 3) := by decide +kernel
theorem dX10_watch_96 : decode cX10_watch 96 = .ok (.getfield 204, 3) := by decide +kernel
theorem dX10_watch_99 : decode cX10_watch 99 = .ok (.iload_n 3, 1) := by decide +kernel
theorem dX10_watch_100 : decode cX10_watch 100 = .ok (.iaload, 1) := by decide +kernel
theorem dX10_watch_101 : decode cX10_watch 101 = .ok (.ireturn, 1) := by decide +kernel
theorem dX10_watch_102 : decode cX10_watch 102 = .ok (.aload_n 0, 1) := by decide +kernel
theorem dX10_watch_103 : decode cX10_watch 103 = .ok (.getfield 48, 3) := by decide +kernel
theorem dX10_watch_106 : decode cX10_watch 106 = .ok (.getfield 207, 3) := by decide +kernel
theorem dX10_watch_109 : decode cX10_watch 109 = .ok (.iload_n 3, 1) := by decide +kernel
theorem dX10_watch_110 : decode cX10_watch 110 = .ok (.baload, 1) := by decide +kernel
theorem dX10_watch_111 : decode cX10_watch 111 = .ok (.ifCond .eq 7, 3) := by decide +kernel
theorem dX10_watch_114 : decode cX10_watch 114 = .ok (.iconst 1, 1) := by decide +kernel
theorem dX10_watch_115 : decode cX10_watch 115 = .ok (.goto 4, 3) := by decide +kernel
theorem dX10_watch_118 : decode cX10_watch 118 = .ok (.iconst 0, 1) := by decide +kernel
theorem dX10_watch_119 : decode cX10_watch 119 = .ok (.ireturn, 1) := by decide +kernel
theorem dX10_stands_0 : decode cX10_stands 0 = .ok (.iload_n 2, 1) := by decide +kernel
theorem dX10_stands_1 : decode cX10_stands 1 = .ok (.ifCond .lt 9, 3) := by decide +kernel
theorem dX10_stands_4 : decode cX10_stands 4 = .ok (.iload_n 2, 1) := by decide +kernel
theorem dX10_stands_5 : decode cX10_stands 5 = .ok (.bipush 99, 2) := by decide +kernel
theorem dX10_stands_7 : decode cX10_stands 7 = .ok (.if_icmp .le 10, 3) := by decide +kernel
theorem dX10_stands_10 : decode cX10_stands 10 = .ok (.aload_n 0, 1) := by decide +kernel
theorem dX10_stands_11 : decode cX10_stands 11 = .ok (.bipush (-3), 2) := by decide +kernel
theorem dX10_stands_13 : decode cX10_stands 13 = .ok (.invokevirtual 97, 3) := by decide +kernel
theorem dX10_stands_16 : decode cX10_stands 16 = .ok (.ireturn, 1) := by decide +kernel
theorem dX10_stands_17 : decode cX10_stands 17 = .ok (.aload_n 0, 1) := by decide +kernel
theorem dX10_stands_18 : decode cX10_stands 18 = .ok (.iload_n 1, 1) := by decide +kernel
theorem dX10_stands_19 : decode cX10_stands 19 = .ok (.iload_n 2, 1) := by decide +kernel
theorem dX10_stands_20 : decode cX10_stands 20 = .ok (.invokevirtual 176, 3) := by decide +kernel
theorem dX10_stands_23 : decode cX10_stands 23 = .ok (.bipush 10, 2) := by decide +kernel
theorem dX10_stands_25 : decode cX10_stands 25 = .ok (.aload_n 0, 1) := by decide +kernel
theorem dX10_stands_26 : decode cX10_stands 26 = .ok (.getfield 48, 3) := by decide +kernel
theorem dX10_stands_29 : decode cX10_stands 29 = .ok (.getfield 210, 3) := by decide +kernel
theorem dX10_stands_32 : decode cX10_stands 32 = .ok (.imul, 1) := by decide +kernel
theorem dX10_stands_33 : decode cX10_stands 33 = .ok (.aload_n 0, 1) := by decide +kernel
theorem dX10_stands_34 : decode cX10_stands 34 = .ok (.getfield 48, 3) := by decide +kernel
theorem dX10_stands_37 : decode cX10_stands 37 = .ok (.getfield 213, 3) := by decide +kernel
theorem dX10_stands_40 : decode cX10_stands 40 = .ok (.ifCond .eq 7, 3) := by decide +kernel
theorem dX10_stands_43 : decode cX10_stands 43 = .ok (.iconst 1, 1) := by decide +kernel
theorem dX10_stands_44 : decode cX10_stands 44 = .ok (.goto 4, 3) := by decide +kernel
theorem dX10_stands_47 : decode cX10_stands 47 = .ok (.iconst 0, 1) := by decide +kernel
theorem dX10_stands_48 : decode cX10_stands 48 = .ok (.iadd, 1) := by decide +kernel
theorem dX10_stands_49 : decode cX10_stands 49 = .ok (.ireturn, 1) := by decide +kernel
theorem dX10_tries_0 : decode cX10_tries 0 = .ok (.iload_n 3, 1) := by decide +kernel
theorem dX10_tries_1 : decode cX10_tries 1 = .ok (.iconst 1, 1) := by decide +kernel
theorem dX10_tries_2 : decode cX10_tries 2 = .ok (.if_icmp .lt 8, 3) := by decide +kernel
theorem dX10_tries_5 : decode cX10_tries 5 = .ok (.iload_n 3, 1) := by decide +kernel
theorem dX10_tries_6 : decode cX10_tries 6 = .ok (.iconst 5, 1) := by decide +kernel
theorem dX10_tries_7 : decode cX10_tries 7 = .ok (.if_icmp .le 10, 3) := by decide +kernel
theorem dX10_tries_10 : decode cX10_tries 10 = .ok (.aload_n 0, 1) := by decide +kernel
theorem dX10_tries_11 : decode cX10_tries 11 = .ok (.bipush (-2), 2) := by decide +kernel
theorem dX10_tries_13 : decode cX10_tries 13 = .ok (.invokevirtual 97, 3) := by decide +kernel
theorem dX10_tries_16 : decode cX10_tries 16 = .ok (.ireturn, 1) := by decide +kernel
theorem dX10_tries_17 : decode cX10_tries 17 = .ok (.iload_n 2, 1) := by decide +kernel
theorem dX10_tries_18 : decode cX10_tries 18 = .ok (.iconst 1, 1) := by decide +kernel
theorem dX10_tries_19 : decode cX10_tries 19 = .ok (.if_icmp .lt 9, 3) := by decide +kernel
theorem dX10_tries_22 : decode cX10_tries 22 = .ok (.iload_n 2, 1) := by decide +kernel
theorem dX10_tries_23 : decode cX10_tries 23 = .ok (.bipush 60, 2) := by decide +kernel
theorem dX10_tries_25 : decode cX10_tries 25 = .ok (.if_icmp .le 10, 3) := by decide +kernel
theorem dX10_tries_28 : decode cX10_tries 28 = .ok (.aload_n 0, 1) := by decide +kernel
theorem dX10_tries_29 : decode cX10_tries 29 = .ok (.bipush (-3), 2) := by decide +kernel
theorem dX10_tries_31 : decode cX10_tries 31 = .ok (.invokevirtual 97, 3) := by decide +kernel
theorem dX10_tries_34 : decode cX10_tries 34 = .ok (.ireturn, 1) := by decide +kernel
theorem dX10_tries_35 : decode cX10_tries 35 = .ok (.iconst 0, 1) := by decide +kernel
theorem dX10_tries_36 : decode cX10_tries 36 = .ok (.istore 4, 2) := by decide +kernel
theorem dX10_tries_38 : decode cX10_tries 38 = .ok (.iconst 0, 1) := by decide +kernel
theorem dX10_tries_39 : decode cX10_tries 39 = .ok (.istore 5, 2) := by decide +kernel
theorem dX10_tries_41 : decode cX10_tries 41 = .ok (.iload 5, 2) := by decide +kernel
theorem dX10_tries_43 : decode cX10_tries 43 = .ok (.iload_n 2, 1) := by decide +kernel
theorem dX10_tries_44 : decode cX10_tries 44 = .ok (.if_icmp .ge 73, 3) := by decide +kernel
theorem dX10_tries_47 : decode cX10_tries 47 = .ok (.aload_n 0, 1) := by decide +kernel
theorem dX10_tries_48 : decode cX10_tries 48 = .ok (.iload_n 1, 1) := by decide +kernel
theorem dX10_tries_49 : decode cX10_tries 49 = .ok (.iload 5, 2) := by decide +kernel
theorem dX10_tries_51 : decode cX10_tries 51 = .ok (.iadd, 1) := by decide +kernel
theorem dX10_tries_52 : decode cX10_tries 52 = .ok (.bipush 99, 2) := by decide +kernel
theorem dX10_tries_54 : decode cX10_tries 54 = .ok (.invokevirtual 176, 3) := by decide +kernel
theorem dX10_tries_57 : decode cX10_tries 57 = .ok (.iload_n 3, 1) := by decide +kernel
theorem dX10_tries_58 : decode cX10_tries 58 = .ok (.iconst 4, 1) := by decide +kernel
theorem dX10_tries_59 : decode cX10_tries 59 = .ok (.if_icmp .ne 18, 3) := by decide +kernel
theorem dX10_tries_62 : decode cX10_tries 62 = .ok (.iload 4, 2) := by decide +kernel
theorem dX10_tries_64 : decode cX10_tries 64 = .ok (.aload_n 0, 1) := by decide +kernel
theorem dX10_tries_65 : decode cX10_tries 65 = .ok (.getfield 48, 3) := by decide +kernel
theorem dX10_tries_68 : decode cX10_tries 68 = .ok (.getfield 186, 3) := by decide +kernel
theorem dX10_tries_71 : decode cX10_tries 71 = .ok (.iadd, 1) := by decide +kernel
theorem dX10_tries_72 : decode cX10_tries 72 = .ok (.istore 4, 2) := by decide +kernel
theorem dX10_tries_74 : decode cX10_tries 74 = .ok (.goto 37, 3) := by decide +kernel
theorem dX10_tries_77 : decode cX10_tries 77 = .ok (.iload_n 3, 1) := by decide +kernel
theorem dX10_tries_78 : decode cX10_tries 78 = .ok (.iconst 5, 1) := by decide +kernel
theorem dX10_tries_79 : decode cX10_tries 79 = .ok (.if_icmp .ne 18, 3) := by decide +kernel
theorem dX10_tries_82 : decode cX10_tries 82 = .ok (.iload 4, 2) := by decide +kernel
theorem dX10_tries_84 : decode cX10_tries 84 = .ok (.aload_n 0, 1) := by decide +kernel
theorem dX10_tries_85 : decode cX10_tries 85 = .ok (.getfield 48, 3) := by decide +kernel
theorem dX10_tries_88 : decode cX10_tries 88 = .ok (.getfield 183, 3) := by decide +kernel
theorem dX10_tries_91 : decode cX10_tries 91 = .ok (.iadd, 1) := by decide +kernel
theorem dX10_tries_92 : decode cX10_tries 92 = .ok (.istore 4, 2) := by decide +kernel
theorem dX10_tries_94 : decode cX10_tries 94 = .ok (.goto 17, 3) := by decide +kernel
theorem dX10_tries_97 : decode cX10_tries 97 = .ok (.aload_n 0, 1) := by decide +kernel
theorem dX10_tries_98 : decode cX10_tries 98 = .ok (.getfield 48, 3) := by decide +kernel
theorem dX10_tries_101 : decode cX10_tries 101 = .ok (.getfield 180, 3) := by decide +kernel
theorem dX10_tries_104 : decode cX10_tries 104 = .ok (.iload_n 3, 1) := by decide +kernel
theorem dX10_tries_105 : decode cX10_tries 105 = .ok (.if_icmp .ne 6, 3) := by decide +kernel
theorem dX10_tries_108 : decode cX10_tries 108 = .ok (.iinc 4 1, 3) := by decide +kernel
theorem dX10_tries_111 : decode cX10_tries 111 = .ok (.iinc 5 1, 3) := by decide +kernel
theorem dX10_tries_114 : decode cX10_tries 114 = .ok (.goto (-73), 3) := by decide +kernel
theorem dX10_tries_117 : decode cX10_tries 117 = .ok (.iload 4, 2) := by decide +kernel
theorem dX10_tries_119 : decode cX10_tries 119 = .ok (.ireturn, 1) := by decide +kernel
theorem dX10_odds_0 : decode cX10_odds 0 = .ok (.iload_n 1, 1) := by decide +kernel
theorem dX10_odds_1 : decode cX10_odds 1 = .ok (.ifCond .lt 8, 3) := by decide +kernel
theorem dX10_odds_4 : decode cX10_odds 4 = .ok (.iload_n 1, 1) := by decide +kernel
theorem dX10_odds_5 : decode cX10_odds 5 = .ok (.iconst 5, 1) := by decide +kernel
theorem dX10_odds_6 : decode cX10_odds 6 = .ok (.if_icmp .le 11, 3) := by decide +kernel
theorem dX10_odds_9 : decode cX10_odds 9 = .ok (.aload_n 0, 1) := by decide +kernel
theorem dX10_odds_10 : decode cX10_odds 10 = .ok (.bipush (-2), 2) := by decide +kernel
theorem dX10_odds_12 : decode cX10_odds 12 = .ok (.invokevirtual 97, 3) := by decide +kernel
theorem dX10_odds_15 : decode cX10_odds 15 = .ok (.i2l, 1) := by decide +kernel
theorem dX10_odds_16 : decode cX10_odds 16 = .ok (.lreturn, 1) := by decide +kernel
theorem dX10_odds_17 : decode cX10_odds 17 = .ok (.aload_n 0, 1) := by decide +kernel
theorem dX10_odds_18 : decode cX10_odds 18 = .ok (.invokevirtual 216, 3) := by decide +kernel
theorem dX10_odds_21 : decode cX10_odds 21 = .ok (.iload_n 1, 1) := by decide +kernel
theorem dX10_odds_22 : decode cX10_odds 22 = .ok (.tableswitch 74 0 4 #[34, 42, 50, 58, 66], 34) := by decide +kernel
theorem dX10_odds_56 : decode cX10_odds 56 = .ok (.aload_n 0, 1) := by decide +kernel
theorem dX10_odds_57 : decode cX10_odds 57 = .ok (.getfield 55, 3) := by decide +kernel
theorem dX10_odds_60 : decode cX10_odds 60 = .ok (.getfield 219, 3) := by decide +kernel
theorem dX10_odds_63 : decode cX10_odds 63 = .ok (.lreturn, 1) := by decide +kernel
theorem dX10_odds_64 : decode cX10_odds 64 = .ok (.aload_n 0, 1) := by decide +kernel
theorem dX10_odds_65 : decode cX10_odds 65 = .ok (.getfield 55, 3) := by decide +kernel
theorem dX10_odds_68 : decode cX10_odds 68 = .ok (.getfield 223, 3) := by decide +kernel
theorem dX10_odds_71 : decode cX10_odds 71 = .ok (.lreturn, 1) := by decide +kernel
theorem dX10_odds_72 : decode cX10_odds 72 = .ok (.aload_n 0, 1) := by decide +kernel
theorem dX10_odds_73 : decode cX10_odds 73 = .ok (.getfield 55, 3) := by decide +kernel
theorem dX10_odds_76 : decode cX10_odds 76 = .ok (.getfield 226, 3) := by decide +kernel
theorem dX10_odds_79 : decode cX10_odds 79 = .ok (.lreturn, 1) := by decide +kernel
theorem dX10_odds_80 : decode cX10_odds 80 = .ok (.aload_n 0, 1) := by decide +kernel
theorem dX10_odds_81 : decode cX10_odds 81 = .ok (.getfield 55, 3) := by decide +kernel
theorem dX10_odds_84 : decode cX10_odds 84 = .ok (.getfield 229, 3) := by decide +kernel
theorem dX10_odds_87 : decode cX10_odds 87 = .ok (.lreturn, 1) := by decide +kernel
theorem dX10_odds_88 : decode cX10_odds 88 = .ok (.aload_n 0, 1) := by decide +kernel
theorem dX10_odds_89 : decode cX10_odds 89 = .ok (.getfield 55, 3) := by decide +kernel
theorem dX10_odds_92 : decode cX10_odds 92 = .ok (.getfield 231, 3) := by decide +kernel
theorem dX10_odds_95 : decode cX10_odds 95 = .ok (.lreturn, 1) := by decide +kernel
theorem dX10_odds_96 : decode cX10_odds 96 = .ok (.aload_n 0, 1) := by decide +kernel
theorem dX10_odds_97 : decode cX10_odds 97 = .ok (.getfield 55, 3) := by decide +kernel
theorem dX10_odds_100 : decode cX10_odds 100 = .ok (.getfield 233, 3) := by decide +kernel
theorem dX10_odds_103 : decode cX10_odds 103 = .ok (.lreturn, 1) := by decide +kernel
theorem dX10_helps_0 : decode cX10_helps 0 = .ok (.iload_n 1, 1) := by decide +kernel
theorem dX10_helps_1 : decode cX10_helps 1 = .ok (.ifCond .lt 9, 3) := by decide +kernel
theorem dX10_helps_4 : decode cX10_helps 4 = .ok (.iload_n 1, 1) := by decide +kernel
theorem dX10_helps_5 : decode cX10_helps 5 = .ok (.bipush 8, 2) := by decide +kernel
theorem dX10_helps_7 : decode cX10_helps 7 = .ok (.if_icmp .lt 11, 3) := by decide +kernel
theorem dX10_helps_10 : decode cX10_helps 10 = .ok (.aload_n 0, 1) := by decide +kernel
theorem dX10_helps_11 : decode cX10_helps 11 = .ok (.bipush (-2), 2) := by decide +kernel
theorem dX10_helps_13 : decode cX10_helps 13 = .ok (.invokevirtual 97, 3) := by decide +kernel
theorem dX10_helps_16 : decode cX10_helps 16 = .ok (.i2l, 1) := by decide +kernel
theorem dX10_helps_17 : decode cX10_helps 17 = .ok (.lreturn, 1) := by decide +kernel
theorem dX10_helps_18 : decode cX10_helps 18 = .ok (.aload_n 0, 1) := by decide +kernel
theorem dX10_helps_19 : decode cX10_helps 19 = .ok (.invokevirtual 216, 3) := by decide +kernel
theorem dX10_helps_22 : decode cX10_helps 22 = .ok (.aload_n 0, 1) := by decide +kernel
theorem dX10_helps_23 : decode cX10_helps 23 = .ok (.getfield 62, 3) := by decide +kernel
theorem dX10_helps_26 : decode cX10_helps 26 = .ok (.aload_n 0, 1) := by decide +kernel
theorem dX10_helps_27 : decode cX10_helps 27 = .ok (.getfield 23, 3) := by decide +kernel
theorem dX10_helps_30 : decode cX10_helps 30 = .ok (.getfield 37, 3) := by decide +kernel
theorem dX10_helps_33 : decode cX10_helps 33 = .ok (.invokevirtual 120, 3) := by decide +kernel
theorem dX10_helps_36 : decode cX10_helps 36 = .ok (.aload_n 0, 1) := by decide +kernel
theorem dX10_helps_37 : decode cX10_helps 37 = .ok (.getfield 62, 3) := by decide +kernel
theorem dX10_helps_40 : decode cX10_helps 40 = .ok (.dup, 1) := by decide +kernel
theorem dX10_helps_41 : decode cX10_helps 41 = .ok (.getfield 153, 3) := by decide +kernel
theorem dX10_helps_44 : decode cX10_helps 44 = .ok (.iconst 1, 1) := by decide +kernel
theorem dX10_helps_45 : decode cX10_helps 45 = .ok (.iload_n 1, 1) := by decide +kernel
theorem dX10_helps_46 : decode cX10_helps 46 = .ok (.ishl, 1) := by decide +kernel
theorem dX10_helps_47 : decode cX10_helps 47 = .ok (.ixor, 1) := by decide +kernel
theorem dX10_helps_48 : decode cX10_helps 48 = .ok (.putfield 153, 3) := by decide +kernel
theorem dX10_helps_51 : decode cX10_helps 51 = .ok (.aload_n 0, 1) := by decide +kernel
theorem dX10_helps_52 : decode cX10_helps 52 = .ok (.getfield 65, 3) := by decide +kernel
theorem dX10_helps_55 : decode cX10_helps 55 = .ok (.aload_n 0, 1) := by decide +kernel
theorem dX10_helps_56 : decode cX10_helps 56 = .ok (.getfield 48, 3) := by decide +kernel
theorem dX10_helps_59 : decode cX10_helps 59 = .ok (.aload_n 0, 1) := by decide +kernel
theorem dX10_helps_60 : decode cX10_helps 60 = .ok (.getfield 62, 3) := by decide +kernel
theorem dX10_helps_63 : decode cX10_helps 63 = .ok (.iconst (-1), 1) := by decide +kernel
theorem dX10_helps_64 : decode cX10_helps 64 = .ok (.invokevirtual 236, 3) := by decide +kernel
theorem dX10_helps_67 : decode cX10_helps 67 = .ok (.aload_n 0, 1) := by decide +kernel
theorem dX10_helps_68 : decode cX10_helps 68 = .ok (.getfield 65, 3) := by decide +kernel
theorem dX10_helps_71 : decode cX10_helps 71 = .ok (.getfield 219, 3) := by decide +kernel
theorem dX10_helps_74 : decode cX10_helps 74 = .ok (.aload_n 0, 1) := by decide +kernel
theorem dX10_helps_75 : decode cX10_helps 75 = .ok (.getfield 55, 3) := by decide +kernel
theorem dX10_helps_78 : decode cX10_helps 78 = .ok (.getfield 219, 3) := by decide +kernel
theorem dX10_helps_81 : decode cX10_helps 81 = .ok (.lsub, 1) := by decide +kernel
theorem dX10_helps_82 : decode cX10_helps 82 = .ok (.lreturn, 1) := by decide +kernel
theorem dX10_best_0 : decode cX10_best 0 = .ok (.iload_n 1, 1) := by decide +kernel
theorem dX10_best_1 : decode cX10_best 1 = .ok (.ifCond .lt 8, 3) := by decide +kernel
theorem dX10_best_4 : decode cX10_best 4 = .ok (.iload_n 1, 1) := by decide +kernel
theorem dX10_best_5 : decode cX10_best 5 = .ok (.iconst 3, 1) := by decide +kernel
theorem dX10_best_6 : decode cX10_best 6 = .ok (.if_icmp .le 10, 3) := by decide +kernel
theorem dX10_best_9 : decode cX10_best 9 = .ok (.aload_n 0, 1) := by decide +kernel
theorem dX10_best_10 : decode cX10_best 10 = .ok (.bipush (-3), 2) := by decide +kernel
theorem dX10_best_12 : decode cX10_best 12 = .ok (.invokevirtual 97, 3) := by decide +kernel
theorem dX10_best_15 : decode cX10_best 15 = .ok (.ireturn, 1) := by decide +kernel
theorem dX10_best_16 : decode cX10_best 16 = .ok (.aload_n 0, 1) := by decide +kernel
theorem dX10_best_17 : decode cX10_best 17 = .ok (.getfield 23, 3) := by decide +kernel
theorem dX10_best_20 : decode cX10_best 20 = .ok (.getfield 41, 3) := by decide +kernel
theorem dX10_best_23 : decode cX10_best 23 = .ok (.invokevirtual 240, 3) := by decide +kernel
theorem dX10_best_26 : decode cX10_best 26 = .ok (.iconst 1, 1) := by decide +kernel
theorem dX10_best_27 : decode cX10_best 27 = .ok (.ior, 1) := by decide +kernel
theorem dX10_best_28 : decode cX10_best 28 = .ok (.bipush 64, 2) := by decide +kernel
theorem dX10_best_30 : decode cX10_best 30 = .ok (.ior, 1) := by decide +kernel
theorem dX10_best_31 : decode cX10_best 31 = .ok (.istore_n 2, 1) := by decide +kernel
theorem dX10_best_32 : decode cX10_best 32 = .ok (.aload_n 0, 1) := by decide +kernel
theorem dX10_best_33 : decode cX10_best 33 = .ok (.getfield 68, 3) := by decide +kernel
theorem dX10_best_36 : decode cX10_best 36 = .ok (.ldc2_w 243, 3) := by decide +kernel
theorem dX10_best_39 : decode cX10_best 39 = .ok (.invokestatic 245, 3) := by decide +kernel
theorem dX10_best_42 : decode cX10_best 42 = .ok (.aload_n 0, 1) := by decide +kernel
theorem dX10_best_43 : decode cX10_best 43 = .ok (.getfield 62, 3) := by decide +kernel
theorem dX10_best_46 : decode cX10_best 46 = .ok (.aload_n 0, 1) := by decide +kernel
theorem dX10_best_47 : decode cX10_best 47 = .ok (.getfield 23, 3) := by decide +kernel
theorem dX10_best_50 : decode cX10_best 50 = .ok (.getfield 37, 3) := by decide +kernel
theorem dX10_best_53 : decode cX10_best 53 = .ok (.invokevirtual 120, 3) := by decide +kernel
theorem dX10_best_56 : decode cX10_best 56 = .ok (.ldc2_w 243, 3) := by decide +kernel
theorem dX10_best_59 : decode cX10_best 59 = .ok (.lstore_n 3, 1) := by decide +kernel
theorem dX10_best_60 : decode cX10_best 60 = .ok (.iconst 0, 1) := by decide +kernel
theorem dX10_best_61 : decode cX10_best 61 = .ok (.istore 5, 2) := by decide +kernel
theorem dX10_best_63 : decode cX10_best 63 = .ok (.iconst 0, 1) := by decide +kernel
theorem dX10_best_64 : decode cX10_best 64 = .ok (.istore 6, 2) := by decide +kernel
theorem dX10_best_66 : decode cX10_best 66 = .ok (.iload 6, 2) := by decide +kernel
theorem dX10_best_68 : decode cX10_best 68 = .ok (.sipush 256, 3) := by decide +kernel
theorem dX10_best_71 : decode cX10_best 71 = .ok (.if_icmp .ge 125, 3) := by decide +kernel
theorem dX10_best_74 : decode cX10_best 74 = .ok (.iload 6, 2) := by decide +kernel
theorem dX10_best_76 : decode cX10_best 76 = .ok (.invokestatic 251, 3) := by decide +kernel
theorem dX10_best_79 : decode cX10_best 79 = .ok (.iload_n 1, 1) := by decide +kernel
theorem dX10_best_80 : decode cX10_best 80 = .ok (.if_icmp .ne 110, 3) := by decide +kernel
theorem dX10_best_83 : decode cX10_best 83 = .ok (.aload_n 0, 1) := by decide +kernel
theorem dX10_best_84 : decode cX10_best 84 = .ok (.getfield 23, 3) := by decide +kernel
theorem dX10_best_87 : decode cX10_best 87 = .ok (.getfield 37, 3) := by decide +kernel
theorem dX10_best_90 : decode cX10_best 90 = .ok (.getfield 153, 3) := by decide +kernel
theorem dX10_best_93 : decode cX10_best 93 = .ok (.iload 6, 2) := by decide +kernel
theorem dX10_best_95 : decode cX10_best 95 = .ok (.ixor, 1) := by decide +kernel
theorem dX10_best_96 : decode cX10_best 96 = .ok (.iload_n 2, 1) := by decide +kernel
theorem dX10_best_97 : decode cX10_best 97 = .ok (.iand, 1) := by decide +kernel
theorem dX10_best_98 : decode cX10_best 98 = .ok (.istore 7, 2) := by decide +kernel
theorem dX10_best_100 : decode cX10_best 100 = .ok (.aload_n 0, 1) := by decide +kernel
theorem dX10_best_101 : decode cX10_best 101 = .ok (.getfield 68, 3) := by decide +kernel
theorem dX10_best_104 : decode cX10_best 104 = .ok (.iload 7, 2) := by decide +kernel
theorem dX10_best_106 : decode cX10_best 106 = .ok (.laload, 1) := by decide +kernel
theorem dX10_best_107 : decode cX10_best 107 = .ok (.lconst 0, 1) := by decide +kernel
theorem dX10_best_108 : decode cX10_best 108 = .ok (.lcmp, 1) := by decide +kernel
theorem dX10_best_109 : decode cX10_best 109 = .ok (.ifCond .ge 42, 3) := by decide +kernel
theorem dX10_best_112 : decode cX10_best 112 = .ok (.aload_n 0, 1) := by decide +kernel
theorem dX10_best_113 : decode cX10_best 113 = .ok (.getfield 62, 3) := by decide +kernel
theorem dX10_best_116 : decode cX10_best 116 = .ok (.iload 7, 2) := by decide +kernel
theorem dX10_best_118 : decode cX10_best 118 = .ok (.putfield 153, 3) := by decide +kernel
theorem dX10_best_121 : decode cX10_best 121 = .ok (.aload_n 0, 1) := by decide +kernel
theorem dX10_best_122 : decode cX10_best 122 = .ok (.getfield 65, 3) := by decide +kernel
theorem dX10_best_125 : decode cX10_best 125 = .ok (.aload_n 0, 1) := by decide +kernel
theorem dX10_best_126 : decode cX10_best 126 = .ok (.getfield 48, 3) := by decide +kernel
theorem dX10_best_129 : decode cX10_best 129 = .ok (.aload_n 0, 1) := by decide +kernel
theorem dX10_best_130 : decode cX10_best 130 = .ok (.getfield 62, 3) := by decide +kernel
theorem dX10_best_133 : decode cX10_best 133 = .ok (.iconst (-1), 1) := by decide +kernel
theorem dX10_best_134 : decode cX10_best 134 = .ok (.invokevirtual 236, 3) := by decide +kernel
theorem dX10_best_137 : decode cX10_best 137 = .ok (.aload_n 0, 1) := by decide +kernel
theorem dX10_best_138 : decode cX10_best 138 = .ok (.getfield 68, 3) := by decide +kernel
theorem dX10_best_141 : decode cX10_best 141 = .ok (.iload 7, 2) := by decide +kernel
theorem dX10_best_143 : decode cX10_best 143 = .ok (.aload_n 0, 1) := by decide +kernel
theorem dX10_best_144 : decode cX10_best 144 = .ok (.getfield 65, 3) := by decide +kernel
theorem dX10_best_147 : decode cX10_best 147 = .ok (.getfield 219, 3) := by decide +kernel
theorem dX10_best_150 : decode cX10_best 150 = .ok (.lastore, 1) := by decide +kernel
theorem dX10_best_151 : decode cX10_best 151 = .ok (.aload_n 0, 1) := by decide +kernel
theorem dX10_best_152 : decode cX10_best 152 = .ok (.getfield 68, 3) := by decide +kernel
theorem dX10_best_155 : decode cX10_best 155 = .ok (.iload 7, 2) := by decide +kernel
theorem dX10_best_157 : decode cX10_best 157 = .ok (.laload, 1) := by decide +kernel
theorem dX10_best_158 : decode cX10_best 158 = .ok (.lload_n 3, 1) := by decide +kernel
theorem dX10_best_159 : decode cX10_best 159 = .ok (.lcmp, 1) := by decide +kernel
theorem dX10_best_160 : decode cX10_best 160 = .ok (.ifCond .le 15, 3) := by decide +kernel
theorem dX10_best_163 : decode cX10_best 163 = .ok (.aload_n 0, 1) := by decide +kernel
theorem dX10_best_164 : decode cX10_best 164 = .ok (.getfield 68, 3) := by decide +kernel
theorem dX10_best_167 : decode cX10_best 167 = .ok (.iload 7, 2) := by decide +kernel
theorem dX10_best_169 : decode cX10_best 169 = .ok (.laload, 1) := by decide +kernel
theorem dX10_best_170 : decode cX10_best 170 = .ok (.lstore_n 3, 1) := by decide +kernel
theorem dX10_best_171 : decode cX10_best 171 = .ok (.iload 6, 2) := by decide +kernel
theorem dX10_best_173 : decode cX10_best 173 = .ok (.istore 5, 2) := by decide +kernel
theorem dX10_best_175 : decode cX10_best 175 = .ok (.lload_n 3, 1) := by decide +kernel
theorem dX10_best_176 : decode cX10_best 176 = .ok (.aload_n 0, 1) := by decide +kernel
theorem dX10_best_177 : decode cX10_best 177 = .ok (.getfield 65, 3) := by decide +kernel
theorem dX10_best_180 : decode cX10_best 180 = .ok (.getfield 233, 3) := by decide +kernel
theorem dX10_best_183 : decode cX10_best 183 = .ok (.lcmp, 1) := by decide +kernel
theorem dX10_best_184 : decode cX10_best 184 = .ok (.ifCond .ne 6, 3) := by decide +kernel
theorem dX10_best_187 : decode cX10_best 187 = .ok (.iload 5, 2) := by decide +kernel
theorem dX10_best_189 : decode cX10_best 189 = .ok (.ireturn, 1) := by decide +kernel
theorem dX10_best_190 : decode cX10_best 190 = .ok (.iinc 6 1, 3) := by decide +kernel
theorem dX10_best_193 : decode cX10_best 193 = .ok (.goto (-127), 3) := by decide +kernel
theorem dX10_best_196 : decode cX10_best 196 = .ok (.iload 5, 2) := by decide +kernel
theorem dX10_best_198 : decode cX10_best 198 = .ok (.ireturn, 1) := by decide +kernel
theorem dX10_back_0 : decode cX10_back 0 = .ok (.iload_n 1, 1) := by decide +kernel
theorem dX10_back_1 : decode cX10_back 1 = .ok (.ifCond .lt 10, 3) := by decide +kernel
theorem dX10_back_4 : decode cX10_back 4 = .ok (.iload_n 1, 1) := by decide +kernel
theorem dX10_back_5 : decode cX10_back 5 = .ok (.sipush 1000, 3) := by decide +kernel
theorem dX10_back_8 : decode cX10_back 8 = .ok (.if_icmp .le 10, 3) := by decide +kernel
theorem dX10_back_11 : decode cX10_back 11 = .ok (.aload_n 0, 1) := by decide +kernel
theorem dX10_back_12 : decode cX10_back 12 = .ok (.bipush (-3), 2) := by decide +kernel
theorem dX10_back_14 : decode cX10_back 14 = .ok (.invokevirtual 97, 3) := by decide +kernel
theorem dX10_back_17 : decode cX10_back 17 = .ok (.ireturn, 1) := by decide +kernel
theorem dX10_back_18 : decode cX10_back 18 = .ok (.aload_n 0, 1) := by decide +kernel
theorem dX10_back_19 : decode cX10_back 19 = .ok (.getfield 62, 3) := by decide +kernel
theorem dX10_back_22 : decode cX10_back 22 = .ok (.aload_n 0, 1) := by decide +kernel
theorem dX10_back_23 : decode cX10_back 23 = .ok (.getfield 23, 3) := by decide +kernel
theorem dX10_back_26 : decode cX10_back 26 = .ok (.getfield 37, 3) := by decide +kernel
theorem dX10_back_29 : decode cX10_back 29 = .ok (.invokevirtual 120, 3) := by decide +kernel
theorem dX10_back_32 : decode cX10_back 32 = .ok (.iconst 0, 1) := by decide +kernel
theorem dX10_back_33 : decode cX10_back 33 = .ok (.istore_n 2, 1) := by decide +kernel
theorem dX10_back_34 : decode cX10_back 34 = .ok (.iload_n 2, 1) := by decide +kernel
theorem dX10_back_35 : decode cX10_back 35 = .ok (.bipush 30, 2) := by decide +kernel
theorem dX10_back_37 : decode cX10_back 37 = .ok (.if_icmp .gt 79, 3) := by decide +kernel
theorem dX10_back_40 : decode cX10_back 40 = .ok (.aload_n 0, 1) := by decide +kernel
theorem dX10_back_41 : decode cX10_back 41 = .ok (.getfield 62, 3) := by decide +kernel
theorem dX10_back_44 : decode cX10_back 44 = .ok (.iload_n 2, 1) := by decide +kernel
theorem dX10_back_45 : decode cX10_back 45 = .ok (.putfield 256, 3) := by decide +kernel
theorem dX10_back_48 : decode cX10_back 48 = .ok (.aload_n 0, 1) := by decide +kernel
theorem dX10_back_49 : decode cX10_back 49 = .ok (.getfield 65, 3) := by decide +kernel
theorem dX10_back_52 : decode cX10_back 52 = .ok (.aload_n 0, 1) := by decide +kernel
theorem dX10_back_53 : decode cX10_back 53 = .ok (.getfield 48, 3) := by decide +kernel
theorem dX10_back_56 : decode cX10_back 56 = .ok (.aload_n 0, 1) := by decide +kernel
theorem dX10_back_57 : decode cX10_back 57 = .ok (.getfield 62, 3) := by decide +kernel
theorem dX10_back_60 : decode cX10_back 60 = .ok (.iconst (-1), 1) := by decide +kernel
theorem dX10_back_61 : decode cX10_back 61 = .ok (.invokevirtual 236, 3) := by decide +kernel
theorem dX10_back_64 : decode cX10_back 64 = .ok (.aload_n 0, 1) := by decide +kernel
theorem dX10_back_65 : decode cX10_back 65 = .ok (.getfield 65, 3) := by decide +kernel
theorem dX10_back_68 : decode cX10_back 68 = .ok (.getfield 233, 3) := by decide +kernel
theorem dX10_back_71 : decode cX10_back 71 = .ok (.lstore_n 3, 1) := by decide +kernel
theorem dX10_back_72 : decode cX10_back 72 = .ok (.lload_n 3, 1) := by decide +kernel
theorem dX10_back_73 : decode cX10_back 73 = .ok (.ldc2_w 259, 3) := by decide +kernel
theorem dX10_back_76 : decode cX10_back 76 = .ok (.ldiv, 1) := by decide +kernel
theorem dX10_back_77 : decode cX10_back 77 = .ok (.iload_n 1, 1) := by decide +kernel
theorem dX10_back_78 : decode cX10_back 78 = .ok (.i2l, 1) := by decide +kernel
theorem dX10_back_79 : decode cX10_back 79 = .ok (.lmul, 1) := by decide +kernel
theorem dX10_back_80 : decode cX10_back 80 = .ok (.lload_n 3, 1) := by decide +kernel
theorem dX10_back_81 : decode cX10_back 81 = .ok (.ldc2_w 259, 3) := by decide +kernel
theorem dX10_back_84 : decode cX10_back 84 = .ok (.lrem, 1) := by decide +kernel
theorem dX10_back_85 : decode cX10_back 85 = .ok (.iload_n 1, 1) := by decide +kernel
theorem dX10_back_86 : decode cX10_back 86 = .ok (.i2l, 1) := by decide +kernel
theorem dX10_back_87 : decode cX10_back 87 = .ok (.lmul, 1) := by decide +kernel
theorem dX10_back_88 : decode cX10_back 88 = .ok (.ldc2_w 259, 3) := by decide +kernel
theorem dX10_back_91 : decode cX10_back 91 = .ok (.ldiv, 1) := by decide +kernel
theorem dX10_back_92 : decode cX10_back 92 = .ok (.ladd, 1) := by decide +kernel
theorem dX10_back_93 : decode cX10_back 93 = .ok (.lstore 5, 2) := by decide +kernel
theorem dX10_back_95 : decode cX10_back 95 = .ok (.aload_n 0, 1) := by decide +kernel
theorem dX10_back_96 : decode cX10_back 96 = .ok (.getfield 65, 3) := by decide +kernel
theorem dX10_back_99 : decode cX10_back 99 = .ok (.getfield 223, 3) := by decide +kernel
theorem dX10_back_102 : decode cX10_back 102 = .ok (.lload 5, 2) := by decide +kernel
theorem dX10_back_104 : decode cX10_back 104 = .ok (.lcmp, 1) := by decide +kernel
theorem dX10_back_105 : decode cX10_back 105 = .ok (.ifCond .gt 5, 3) := by decide +kernel
theorem dX10_back_108 : decode cX10_back 108 = .ok (.iload_n 2, 1) := by decide +kernel
theorem dX10_back_109 : decode cX10_back 109 = .ok (.ireturn, 1) := by decide +kernel
theorem dX10_back_110 : decode cX10_back 110 = .ok (.iinc 2 1, 3) := by decide +kernel
theorem dX10_back_113 : decode cX10_back 113 = .ok (.goto (-79), 3) := by decide +kernel
theorem dX10_back_116 : decode cX10_back 116 = .ok (.iconst (-1), 1) := by decide +kernel
theorem dX10_back_117 : decode cX10_back 117 = .ok (.ireturn, 1) := by decide +kernel
theorem dX10_wise_0 : decode cX10_wise 0 = .ok (.iload_n 1, 1) := by decide +kernel
theorem dX10_wise_1 : decode cX10_wise 1 = .ok (.ifCond .lt 8, 3) := by decide +kernel
theorem dX10_wise_4 : decode cX10_wise 4 = .ok (.iload_n 1, 1) := by decide +kernel
theorem dX10_wise_5 : decode cX10_wise 5 = .ok (.iconst 1, 1) := by decide +kernel
theorem dX10_wise_6 : decode cX10_wise 6 = .ok (.if_icmp .le 10, 3) := by decide +kernel
theorem dX10_wise_9 : decode cX10_wise 9 = .ok (.aload_n 0, 1) := by decide +kernel
theorem dX10_wise_10 : decode cX10_wise 10 = .ok (.bipush (-2), 2) := by decide +kernel
theorem dX10_wise_12 : decode cX10_wise 12 = .ok (.invokevirtual 97, 3) := by decide +kernel
theorem dX10_wise_15 : decode cX10_wise 15 = .ok (.ireturn, 1) := by decide +kernel
theorem dX10_wise_16 : decode cX10_wise 16 = .ok (.iload_n 1, 1) := by decide +kernel
theorem dX10_wise_17 : decode cX10_wise 17 = .ok (.ifCond .ne 8, 3) := by decide +kernel
theorem dX10_wise_20 : decode cX10_wise 20 = .ok (.bipush 60, 2) := by decide +kernel
theorem dX10_wise_22 : decode cX10_wise 22 = .ok (.goto 5, 3) := by decide +kernel
theorem dX10_wise_25 : decode cX10_wise 25 = .ok (.bipush 20, 2) := by decide +kernel
theorem dX10_wise_27 : decode cX10_wise 27 = .ok (.istore_n 2, 1) := by decide +kernel
theorem dX10_wise_28 : decode cX10_wise 28 = .ok (.aload_n 0, 1) := by decide +kernel
theorem dX10_wise_29 : decode cX10_wise 29 = .ok (.getfield 62, 3) := by decide +kernel
theorem dX10_wise_32 : decode cX10_wise 32 = .ok (.aload_n 0, 1) := by decide +kernel
theorem dX10_wise_33 : decode cX10_wise 33 = .ok (.getfield 23, 3) := by decide +kernel
theorem dX10_wise_36 : decode cX10_wise 36 = .ok (.getfield 37, 3) := by decide +kernel
theorem dX10_wise_39 : decode cX10_wise 39 = .ok (.invokevirtual 120, 3) := by decide +kernel
theorem dX10_wise_42 : decode cX10_wise 42 = .ok (.ldc2_w 243, 3) := by decide +kernel
theorem dX10_wise_45 : decode cX10_wise 45 = .ok (.lstore_n 3, 1) := by decide +kernel
theorem dX10_wise_46 : decode cX10_wise 46 = .ok (.iconst 0, 1) := by decide +kernel
theorem dX10_wise_47 : decode cX10_wise 47 = .ok (.istore 5, 2) := by decide +kernel
theorem dX10_wise_49 : decode cX10_wise 49 = .ok (.iconst 0, 1) := by decide +kernel
theorem dX10_wise_50 : decode cX10_wise 50 = .ok (.istore 6, 2) := by decide +kernel
theorem dX10_wise_52 : decode cX10_wise 52 = .ok (.iload 6, 2) := by decide +kernel
theorem dX10_wise_54 : decode cX10_wise 54 = .ok (.iload_n 2, 1) := by decide +kernel
theorem dX10_wise_55 : decode cX10_wise 55 = .ok (.if_icmp .gt 99, 3) := by decide +kernel
theorem dX10_wise_58 : decode cX10_wise 58 = .ok (.aload_n 0, 1) := by decide +kernel
theorem dX10_wise_59 : decode cX10_wise 59 = .ok (.getfield 62, 3) := by decide +kernel
theorem dX10_wise_62 : decode cX10_wise 62 = .ok (.iload_n 1, 1) := by decide +kernel
theorem dX10_wise_63 : decode cX10_wise 63 = .ok (.ifCond .ne 7, 3) := by decide +kernel
theorem dX10_wise_66 : decode cX10_wise 66 = .ok (.iconst 2, 1) := by decide +kernel
theorem dX10_wise_67 : decode cX10_wise 67 = .ok (.goto 4, 3) := by decide +kernel
theorem dX10_wise_70 : decode cX10_wise 70 = .ok (.iconst 1, 1) := by decide +kernel
theorem dX10_wise_71 : decode cX10_wise 71 = .ok (.iload 6, 2) := by decide +kernel
theorem dX10_wise_73 : decode cX10_wise 73 = .ok (.invokevirtual 162, 3) := by decide +kernel
theorem dX10_wise_76 : decode cX10_wise 76 = .ok (.pop, 1) := by decide +kernel
theorem dX10_wise_77 : decode cX10_wise 77 = .ok (.aload_n 0, 1) := by decide +kernel
theorem dX10_wise_78 : decode cX10_wise 78 = .ok (.getfield 65, 3) := by decide +kernel
theorem dX10_wise_81 : decode cX10_wise 81 = .ok (.aload_n 0, 1) := by decide +kernel
theorem dX10_wise_82 : decode cX10_wise 82 = .ok (.getfield 48, 3) := by decide +kernel
theorem dX10_wise_85 : decode cX10_wise 85 = .ok (.aload_n 0, 1) := by decide +kernel
theorem dX10_wise_86 : decode cX10_wise 86 = .ok (.getfield 62, 3) := by decide +kernel
theorem dX10_wise_89 : decode cX10_wise 89 = .ok (.iconst (-1), 1) := by decide +kernel
theorem dX10_wise_90 : decode cX10_wise 90 = .ok (.invokevirtual 236, 3) := by decide +kernel
theorem dX10_wise_93 : decode cX10_wise 93 = .ok (.aload_n 0, 1) := by decide +kernel
theorem dX10_wise_94 : decode cX10_wise 94 = .ok (.getfield 65, 3) := by decide +kernel
theorem dX10_wise_97 : decode cX10_wise 97 = .ok (.getfield 219, 3) := by decide +kernel
theorem dX10_wise_100 : decode cX10_wise 100 = .ok (.lload_n 3, 1) := by decide +kernel
theorem dX10_wise_101 : decode cX10_wise 101 = .ok (.lcmp, 1) := by decide +kernel
theorem dX10_wise_102 : decode cX10_wise 102 = .ok (.ifCond .le 15, 3) := by decide +kernel
theorem dX10_wise_105 : decode cX10_wise 105 = .ok (.aload_n 0, 1) := by decide +kernel
theorem dX10_wise_106 : decode cX10_wise 106 = .ok (.getfield 65, 3) := by decide +kernel
theorem dX10_wise_109 : decode cX10_wise 109 = .ok (.getfield 219, 3) := by decide +kernel
theorem dX10_wise_112 : decode cX10_wise 112 = .ok (.lstore_n 3, 1) := by decide +kernel
theorem dX10_wise_113 : decode cX10_wise 113 = .ok (.iload 6, 2) := by decide +kernel
theorem dX10_wise_115 : decode cX10_wise 115 = .ok (.istore 5, 2) := by decide +kernel
theorem dX10_wise_117 : decode cX10_wise 117 = .ok (.lload_n 3, 1) := by decide +kernel
theorem dX10_wise_118 : decode cX10_wise 118 = .ok (.aload_n 0, 1) := by decide +kernel
theorem dX10_wise_119 : decode cX10_wise 119 = .ok (.getfield 65, 3) := by decide +kernel
theorem dX10_wise_122 : decode cX10_wise 122 = .ok (.getfield 233, 3) := by decide +kernel
theorem dX10_wise_125 : decode cX10_wise 125 = .ok (.lcmp, 1) := by decide +kernel
theorem dX10_wise_126 : decode cX10_wise 126 = .ok (.ifCond .eq 19, 3) := by decide +kernel
theorem dX10_wise_129 : decode cX10_wise 129 = .ok (.iload_n 1, 1) := by decide +kernel
theorem dX10_wise_130 : decode cX10_wise 130 = .ok (.ifCond .ne 18, 3) := by decide +kernel
theorem dX10_wise_133 : decode cX10_wise 133 = .ok (.aload_n 0, 1) := by decide +kernel
theorem dX10_wise_134 : decode cX10_wise 134 = .ok (.getfield 65, 3) := by decide +kernel
theorem dX10_wise_137 : decode cX10_wise 137 = .ok (.getfield 261, 3) := by decide +kernel
theorem dX10_wise_140 : decode cX10_wise 140 = .ok (.iload 6, 2) := by decide +kernel
theorem dX10_wise_142 : decode cX10_wise 142 = .ok (.if_icmp .ge 6, 3) := by decide +kernel
theorem dX10_wise_145 : decode cX10_wise 145 = .ok (.iload 5, 2) := by decide +kernel
theorem dX10_wise_147 : decode cX10_wise 147 = .ok (.ireturn, 1) := by decide +kernel
theorem dX10_wise_148 : decode cX10_wise 148 = .ok (.iinc 6 1, 3) := by decide +kernel
theorem dX10_wise_151 : decode cX10_wise 151 = .ok (.goto (-99), 3) := by decide +kernel
theorem dX10_wise_154 : decode cX10_wise 154 = .ok (.iload 5, 2) := by decide +kernel
theorem dX10_wise_156 : decode cX10_wise 156 = .ok (.ireturn, 1) := by decide +kernel
theorem dX10_blame_0 : decode cX10_blame 0 = .ok (.aload_n 0, 1) := by decide +kernel
theorem dX10_blame_1 : decode cX10_blame 1 = .ok (.iload_n 1, 1) := by decide +kernel
theorem dX10_blame_2 : decode cX10_blame 2 = .ok (.invokevirtual 137, 3) := by decide +kernel
theorem dX10_blame_5 : decode cX10_blame 5 = .ok (.ifCond .eq 12, 3) := by decide +kernel
theorem dX10_blame_8 : decode cX10_blame 8 = .ok (.iload_n 2, 1) := by decide +kernel
theorem dX10_blame_9 : decode cX10_blame 9 = .ok (.ifCond .lt 8, 3) := by decide +kernel
theorem dX10_blame_12 : decode cX10_blame 12 = .ok (.iload_n 2, 1) := by decide +kernel
theorem dX10_blame_13 : decode cX10_blame 13 = .ok (.iconst 1, 1) := by decide +kernel
theorem dX10_blame_14 : decode cX10_blame 14 = .ok (.if_icmp .le 11, 3) := by decide +kernel
theorem dX10_blame_17 : decode cX10_blame 17 = .ok (.aload_n 0, 1) := by decide +kernel
theorem dX10_blame_18 : decode cX10_blame 18 = .ok (.bipush (-2), 2) := by decide +kernel
theorem dX10_blame_20 : decode cX10_blame 20 = .ok (.invokevirtual 97, 3) := by decide +kernel
theorem dX10_blame_23 : decode cX10_blame 23 = .ok (.i2l, 1) := by decide +kernel
theorem dX10_blame_24 : decode cX10_blame 24 = .ok (.lreturn, 1) := by decide +kernel
theorem dX10_blame_25 : decode cX10_blame 25 = .ok (.aload_n 0, 1) := by decide +kernel
theorem dX10_blame_26 : decode cX10_blame 26 = .ok (.invokevirtual 216, 3) := by decide +kernel
theorem dX10_blame_29 : decode cX10_blame 29 = .ok (.iload_n 2, 1) := by decide +kernel
theorem dX10_blame_30 : decode cX10_blame 30 = .ok (.ifCond .ne 15, 3) := by decide +kernel
theorem dX10_blame_33 : decode cX10_blame 33 = .ok (.aload_n 0, 1) := by decide +kernel
theorem dX10_blame_34 : decode cX10_blame 34 = .ok (.getfield 55, 3) := by decide +kernel
theorem dX10_blame_37 : decode cX10_blame 37 = .ok (.getfield 264, 3) := by decide +kernel
theorem dX10_blame_40 : decode cX10_blame 40 = .ok (.iload_n 1, 1) := by decide +kernel
theorem dX10_blame_41 : decode cX10_blame 41 = .ok (.laload, 1) := by decide +kernel
theorem dX10_blame_42 : decode cX10_blame 42 = .ok (.goto 12, 3) := by decide +kernel
theorem dX10_blame_45 : decode cX10_blame 45 = .ok (.aload_n 0, 1) := by decide +kernel
theorem dX10_blame_46 : decode cX10_blame 46 = .ok (.getfield 55, 3) := by decide +kernel
theorem dX10_blame_49 : decode cX10_blame 49 = .ok (.getfield 267, 3) := by decide +kernel
theorem dX10_blame_52 : decode cX10_blame 52 = .ok (.iload_n 1, 1) := by decide +kernel
theorem dX10_blame_53 : decode cX10_blame 53 = .ok (.laload, 1) := by decide +kernel
theorem dX10_blame_54 : decode cX10_blame 54 = .ok (.lreturn, 1) := by decide +kernel
theorem dX10_mean_0 : decode cX10_mean 0 = .ok (.iload_n 1, 1) := by decide +kernel
theorem dX10_mean_1 : decode cX10_mean 1 = .ok (.ifCond .lt 8, 3) := by decide +kernel
theorem dX10_mean_4 : decode cX10_mean 4 = .ok (.iload_n 1, 1) := by decide +kernel
theorem dX10_mean_5 : decode cX10_mean 5 = .ok (.iconst 1, 1) := by decide +kernel
theorem dX10_mean_6 : decode cX10_mean 6 = .ok (.if_icmp .le 11, 3) := by decide +kernel
theorem dX10_mean_9 : decode cX10_mean 9 = .ok (.aload_n 0, 1) := by decide +kernel
theorem dX10_mean_10 : decode cX10_mean 10 = .ok (.bipush (-2), 2) := by decide +kernel
theorem dX10_mean_12 : decode cX10_mean 12 = .ok (.invokevirtual 97, 3) := by decide +kernel
theorem dX10_mean_15 : decode cX10_mean 15 = .ok (.i2l, 1) := by decide +kernel
theorem dX10_mean_16 : decode cX10_mean 16 = .ok (.lreturn, 1) := by decide +kernel
theorem dX10_mean_17 : decode cX10_mean 17 = .ok (.aload_n 0, 1) := by decide +kernel
theorem dX10_mean_18 : decode cX10_mean 18 = .ok (.invokevirtual 216, 3) := by decide +kernel
theorem dX10_mean_21 : decode cX10_mean 21 = .ok (.aload_n 0, 1) := by decide +kernel
theorem dX10_mean_22 : decode cX10_mean 22 = .ok (.getfield 55, 3) := by decide +kernel
theorem dX10_mean_25 : decode cX10_mean 25 = .ok (.getfield 229, 3) := by decide +kernel
theorem dX10_mean_28 : decode cX10_mean 28 = .ok (.aload_n 0, 1) := by decide +kernel
theorem dX10_mean_29 : decode cX10_mean 29 = .ok (.getfield 55, 3) := by decide +kernel
theorem dX10_mean_32 : decode cX10_mean 32 = .ok (.getfield 233, 3) := by decide +kernel
theorem dX10_mean_35 : decode cX10_mean 35 = .ok (.invokestatic 269, 3) := by decide +kernel
theorem dX10_mean_38 : decode cX10_mean 38 = .ok (.lstore_n 2, 1) := by decide +kernel
theorem dX10_mean_39 : decode cX10_mean 39 = .ok (.iload_n 1, 1) := by decide +kernel
theorem dX10_mean_40 : decode cX10_mean 40 = .ok (.ifCond .ne 13, 3) := by decide +kernel
theorem dX10_mean_43 : decode cX10_mean 43 = .ok (.aload_n 0, 1) := by decide +kernel
theorem dX10_mean_44 : decode cX10_mean 44 = .ok (.getfield 55, 3) := by decide +kernel
theorem dX10_mean_47 : decode cX10_mean 47 = .ok (.getfield 229, 3) := by decide +kernel
theorem dX10_mean_50 : decode cX10_mean 50 = .ok (.goto 10, 3) := by decide +kernel
theorem dX10_mean_53 : decode cX10_mean 53 = .ok (.aload_n 0, 1) := by decide +kernel
theorem dX10_mean_54 : decode cX10_mean 54 = .ok (.getfield 55, 3) := by decide +kernel
theorem dX10_mean_57 : decode cX10_mean 57 = .ok (.getfield 233, 3) := by decide +kernel
theorem dX10_mean_60 : decode cX10_mean 60 = .ok (.lload_n 2, 1) := by decide +kernel
theorem dX10_mean_61 : decode cX10_mean 61 = .ok (.ldiv, 1) := by decide +kernel
theorem dX10_mean_62 : decode cX10_mean 62 = .ok (.lreturn, 1) := by decide +kernel
theorem dX10_repeals_0 : decode cX10_repeals 0 = .ok (.iload_n 1, 1) := by decide +kernel
theorem dX10_repeals_1 : decode cX10_repeals 1 = .ok (.ifCond .lt 17, 3) := by decide +kernel
theorem dX10_repeals_4 : decode cX10_repeals 4 = .ok (.iload_n 1, 1) := by decide +kernel
theorem dX10_repeals_5 : decode cX10_repeals 5 = .ok (.aload_n 0, 1) := by decide +kernel
theorem dX10_repeals_6 : decode cX10_repeals 6 = .ok (.getfield 23, 3) := by decide +kernel
theorem dX10_repeals_9 : decode cX10_repeals 9 = .ok (.getfield 41, 3) := by decide +kernel
theorem dX10_repeals_12 : decode cX10_repeals 12 = .ok (.getfield 133, 3) := by decide +kernel
theorem dX10_repeals_15 : decode cX10_repeals 15 = .ok (.if_icmp .lt 11, 3) := by decide +kernel
theorem dX10_repeals_18 : decode cX10_repeals 18 = .ok (.aload_n 0, 1) := by decide +kernel
theorem dX10_repeals_19 : decode cX10_repeals 19 = .ok (.bipush (-2), 2) := by decide +kernel
theorem dX10_repeals_21 : decode cX10_repeals 21 = .ok (.invokevirtual 97, 3) := by decide +kernel
theorem dX10_repeals_24 : decode cX10_repeals 24 = .ok (.i2l, 1) := by decide +kernel
theorem dX10_repeals_25 : decode cX10_repeals 25 = .ok (.lreturn, 1) := by decide +kernel
theorem dX10_repeals_26 : decode cX10_repeals 26 = .ok (.aload_n 0, 1) := by decide +kernel
theorem dX10_repeals_27 : decode cX10_repeals 27 = .ok (.invokevirtual 216, 3) := by decide +kernel
theorem dX10_repeals_30 : decode cX10_repeals 30 = .ok (.aload_n 0, 1) := by decide +kernel
theorem dX10_repeals_31 : decode cX10_repeals 31 = .ok (.getfield 65, 3) := by decide +kernel
theorem dX10_repeals_34 : decode cX10_repeals 34 = .ok (.aload_n 0, 1) := by decide +kernel
theorem dX10_repeals_35 : decode cX10_repeals 35 = .ok (.getfield 48, 3) := by decide +kernel
theorem dX10_repeals_38 : decode cX10_repeals 38 = .ok (.aload_n 0, 1) := by decide +kernel
theorem dX10_repeals_39 : decode cX10_repeals 39 = .ok (.getfield 23, 3) := by decide +kernel
theorem dX10_repeals_42 : decode cX10_repeals 42 = .ok (.getfield 37, 3) := by decide +kernel
theorem dX10_repeals_45 : decode cX10_repeals 45 = .ok (.iload_n 1, 1) := by decide +kernel
theorem dX10_repeals_46 : decode cX10_repeals 46 = .ok (.invokevirtual 236, 3) := by decide +kernel
theorem dX10_repeals_49 : decode cX10_repeals 49 = .ok (.aload_n 0, 1) := by decide +kernel
theorem dX10_repeals_50 : decode cX10_repeals 50 = .ok (.getfield 65, 3) := by decide +kernel
theorem dX10_repeals_53 : decode cX10_repeals 53 = .ok (.getfield 219, 3) := by decide +kernel
theorem dX10_repeals_56 : decode cX10_repeals 56 = .ok (.aload_n 0, 1) := by decide +kernel
theorem dX10_repeals_57 : decode cX10_repeals 57 = .ok (.getfield 55, 3) := by decide +kernel
theorem dX10_repeals_60 : decode cX10_repeals 60 = .ok (.getfield 219, 3) := by decide +kernel
theorem dX10_repeals_63 : decode cX10_repeals 63 = .ok (.lsub, 1) := by decide +kernel
theorem dX10_repeals_64 : decode cX10_repeals 64 = .ok (.lreturn, 1) := by decide +kernel
theorem dX10_absent_0 : decode cX10_absent 0 = .ok (.aload_n 0, 1) := by decide +kernel
theorem dX10_absent_1 : decode cX10_absent 1 = .ok (.iload_n 1, 1) := by decide +kernel
theorem dX10_absent_2 : decode cX10_absent 2 = .ok (.invokevirtual 137, 3) := by decide +kernel
theorem dX10_absent_5 : decode cX10_absent 5 = .ok (.ifCond .ne 11, 3) := by decide +kernel
theorem dX10_absent_8 : decode cX10_absent 8 = .ok (.aload_n 0, 1) := by decide +kernel
theorem dX10_absent_9 : decode cX10_absent 9 = .ok (.bipush (-2), 2) := by decide +kernel
theorem dX10_absent_11 : decode cX10_absent 11 = .ok (.invokevirtual 97, 3) := by decide +kernel
theorem dX10_absent_14 : decode cX10_absent 14 = .ok (.i2l, 1) := by decide +kernel
theorem dX10_absent_15 : decode cX10_absent 15 = .ok (.lreturn, 1) := by decide +kernel
theorem dX10_absent_16 : decode cX10_absent 16 = .ok (.aload_n 0, 1) := by decide +kernel
theorem dX10_absent_17 : decode cX10_absent 17 = .ok (.invokevirtual 216, 3) := by decide +kernel
theorem dX10_absent_20 : decode cX10_absent 20 = .ok (.aload_n 0, 1) := by decide +kernel
theorem dX10_absent_21 : decode cX10_absent 21 = .ok (.getfield 62, 3) := by decide +kernel
theorem dX10_absent_24 : decode cX10_absent 24 = .ok (.aload_n 0, 1) := by decide +kernel
theorem dX10_absent_25 : decode cX10_absent 25 = .ok (.getfield 23, 3) := by decide +kernel
theorem dX10_absent_28 : decode cX10_absent 28 = .ok (.getfield 37, 3) := by decide +kernel
theorem dX10_absent_31 : decode cX10_absent 31 = .ok (.invokevirtual 120, 3) := by decide +kernel
theorem dX10_absent_34 : decode cX10_absent 34 = .ok (.aload_n 0, 1) := by decide +kernel
theorem dX10_absent_35 : decode cX10_absent 35 = .ok (.getfield 62, 3) := by decide +kernel
theorem dX10_absent_38 : decode cX10_absent 38 = .ok (.iload_n 1, 1) := by decide +kernel
theorem dX10_absent_39 : decode cX10_absent 39 = .ok (.invokevirtual 273, 3) := by decide +kernel
theorem dX10_absent_42 : decode cX10_absent 42 = .ok (.aload_n 0, 1) := by decide +kernel
theorem dX10_absent_43 : decode cX10_absent 43 = .ok (.getfield 65, 3) := by decide +kernel
theorem dX10_absent_46 : decode cX10_absent 46 = .ok (.aload_n 0, 1) := by decide +kernel
theorem dX10_absent_47 : decode cX10_absent 47 = .ok (.getfield 48, 3) := by decide +kernel
theorem dX10_absent_50 : decode cX10_absent 50 = .ok (.aload_n 0, 1) := by decide +kernel
theorem dX10_absent_51 : decode cX10_absent 51 = .ok (.getfield 62, 3) := by decide +kernel
theorem dX10_absent_54 : decode cX10_absent 54 = .ok (.iconst (-1), 1) := by decide +kernel
theorem dX10_absent_55 : decode cX10_absent 55 = .ok (.invokevirtual 236, 3) := by decide +kernel
theorem dX10_absent_58 : decode cX10_absent 58 = .ok (.ldc2_w 276, 3) := by decide +kernel
theorem dX10_absent_61 : decode cX10_absent 61 = .ok (.aload_n 0, 1) := by decide +kernel
theorem dX10_absent_62 : decode cX10_absent 62 = .ok (.getfield 65, 3) := by decide +kernel
theorem dX10_absent_65 : decode cX10_absent 65 = .ok (.getfield 223, 3) := by decide +kernel
theorem dX10_absent_68 : decode cX10_absent 68 = .ok (.lmul, 1) := by decide +kernel
theorem dX10_absent_69 : decode cX10_absent 69 = .ok (.aload_n 0, 1) := by decide +kernel
theorem dX10_absent_70 : decode cX10_absent 70 = .ok (.getfield 55, 3) := by decide +kernel
theorem dX10_absent_73 : decode cX10_absent 73 = .ok (.getfield 223, 3) := by decide +kernel
theorem dX10_absent_76 : decode cX10_absent 76 = .ok (.lsub, 1) := by decide +kernel
theorem dX10_absent_77 : decode cX10_absent 77 = .ok (.lreturn, 1) := by decide +kernel
theorem dX10_margin_0 : decode cX10_margin 0 = .ok (.aload_n 0, 1) := by decide +kernel
theorem dX10_margin_1 : decode cX10_margin 1 = .ok (.getfield 48, 3) := by decide +kernel
theorem dX10_margin_4 : decode cX10_margin 4 = .ok (.getfield 278, 3) := by decide +kernel
theorem dX10_margin_7 : decode cX10_margin 7 = .ok (.iload_n 1, 1) := by decide +kernel
theorem dX10_margin_8 : decode cX10_margin 8 = .ok (.invokevirtual 282, 3) := by decide +kernel
theorem dX10_margin_11 : decode cX10_margin 11 = .ok (.aload_n 0, 1) := by decide +kernel
theorem dX10_margin_12 : decode cX10_margin 12 = .ok (.getfield 48, 3) := by decide +kernel
theorem dX10_margin_15 : decode cX10_margin 15 = .ok (.aload_n 0, 1) := by decide +kernel
theorem dX10_margin_16 : decode cX10_margin 16 = .ok (.getfield 23, 3) := by decide +kernel
theorem dX10_margin_19 : decode cX10_margin 19 = .ok (.getfield 37, 3) := by decide +kernel
theorem dX10_margin_22 : decode cX10_margin 22 = .ok (.iconst (-1), 1) := by decide +kernel
theorem dX10_margin_23 : decode cX10_margin 23 = .ok (.invokevirtual 166, 3) := by decide +kernel
theorem dX10_margin_26 : decode cX10_margin 26 = .ok (.iconst (-1), 1) := by decide +kernel
theorem dX10_margin_27 : decode cX10_margin 27 = .ok (.istore_n 2, 1) := by decide +kernel
theorem dX10_margin_28 : decode cX10_margin 28 = .ok (.iconst 0, 1) := by decide +kernel
theorem dX10_margin_29 : decode cX10_margin 29 = .ok (.istore_n 3, 1) := by decide +kernel
theorem dX10_margin_30 : decode cX10_margin 30 = .ok (.iload_n 3, 1) := by decide +kernel
theorem dX10_margin_31 : decode cX10_margin 31 = .ok (.bipush 99, 2) := by decide +kernel
theorem dX10_margin_33 : decode cX10_margin 33 = .ok (.if_icmp .ge 55, 3) := by decide +kernel
theorem dX10_margin_36 : decode cX10_margin 36 = .ok (.aload_n 0, 1) := by decide +kernel
theorem dX10_margin_37 : decode cX10_margin 37 = .ok (.getfield 48, 3) := by decide +kernel
theorem dX10_margin_40 : decode cX10_margin 40 = .ok (.getfield 180, 3) := by decide +kernel
theorem dX10_margin_43 : decode cX10_margin 43 = .ok (.ifCond .ne 45, 3) := by decide +kernel
theorem dX10_margin_46 : decode cX10_margin 46 = .ok (.aload_n 0, 1) := by decide +kernel
theorem dX10_margin_47 : decode cX10_margin 47 = .ok (.getfield 48, 3) := by decide +kernel
theorem dX10_margin_50 : decode cX10_margin 50 = .ok (.invokevirtual 287, 3) := by decide +kernel
theorem dX10_margin_53 : decode cX10_margin 53 = .ok (.aload_n 0, 1) := by decide +kernel
theorem dX10_margin_54 : decode cX10_margin 54 = .ok (.getfield 48, 3) := by decide +kernel
theorem dX10_margin_57 : decode cX10_margin 57 = .ok (.invokevirtual 290, 3) := by decide +kernel
theorem dX10_margin_60 : decode cX10_margin 60 = .ok (.istore 4, 2) := by decide +kernel
theorem dX10_margin_62 : decode cX10_margin 62 = .ok (.iload 4, 2) := by decide +kernel
theorem dX10_margin_64 : decode cX10_margin 64 = .ok (.iconst (-1), 1) := by decide +kernel
theorem dX10_margin_65 : decode cX10_margin 65 = .ok (.if_icmp .eq 17, 3) := by decide +kernel
theorem dX10_margin_68 : decode cX10_margin 68 = .ok (.iload_n 2, 1) := by decide +kernel
theorem dX10_margin_69 : decode cX10_margin 69 = .ok (.iconst (-1), 1) := by decide +kernel
theorem dX10_margin_70 : decode cX10_margin 70 = .ok (.if_icmp .eq 9, 3) := by decide +kernel
theorem dX10_margin_73 : decode cX10_margin 73 = .ok (.iload 4, 2) := by decide +kernel
theorem dX10_margin_75 : decode cX10_margin 75 = .ok (.iload_n 2, 1) := by decide +kernel
theorem dX10_margin_76 : decode cX10_margin 76 = .ok (.if_icmp .ge 6, 3) := by decide +kernel
theorem dX10_margin_79 : decode cX10_margin 79 = .ok (.iload 4, 2) := by decide +kernel
theorem dX10_margin_81 : decode cX10_margin 81 = .ok (.istore_n 2, 1) := by decide +kernel
theorem dX10_margin_82 : decode cX10_margin 82 = .ok (.iinc 3 1, 3) := by decide +kernel
theorem dX10_margin_85 : decode cX10_margin 85 = .ok (.goto (-55), 3) := by decide +kernel
theorem dX10_margin_88 : decode cX10_margin 88 = .ok (.iload_n 2, 1) := by decide +kernel
theorem dX10_margin_89 : decode cX10_margin 89 = .ok (.ireturn, 1) := by decide +kernel
theorem dX10_place_0 : decode cX10_place 0 = .ok (.aload_n 0, 1) := by decide +kernel
theorem dX10_place_1 : decode cX10_place 1 = .ok (.getfield 23, 3) := by decide +kernel
theorem dX10_place_4 : decode cX10_place 4 = .ok (.getfield 293, 3) := by decide +kernel
theorem dX10_place_7 : decode cX10_place 7 = .ok (.getfield 297, 3) := by decide +kernel
theorem dX10_place_10 : decode cX10_place 10 = .ok (.bipush 12, 2) := by decide +kernel
theorem dX10_place_12 : decode cX10_place 12 = .ok (.if_icmp .lt 10, 3) := by decide +kernel
theorem dX10_place_15 : decode cX10_place 15 = .ok (.aload_n 0, 1) := by decide +kernel
theorem dX10_place_16 : decode cX10_place 16 = .ok (.bipush (-5), 2) := by decide +kernel
theorem dX10_place_18 : decode cX10_place 18 = .ok (.invokevirtual 97, 3) := by decide +kernel
theorem dX10_place_21 : decode cX10_place 21 = .ok (.ireturn, 1) := by decide +kernel
theorem dX10_place_22 : decode cX10_place 22 = .ok (.iload_n 2, 1) := by decide +kernel
theorem dX10_place_23 : decode cX10_place 23 = .ok (.sipush 300, 3) := by decide +kernel
theorem dX10_place_26 : decode cX10_place 26 = .ok (.invokestatic 302, 3) := by decide +kernel
theorem dX10_place_29 : decode cX10_place 29 = .ok (.ifCond .eq 31, 3) := by decide +kernel
theorem dX10_place_32 : decode cX10_place 32 = .ok (.iload_n 3, 1) := by decide +kernel
theorem dX10_place_33 : decode cX10_place 33 = .ok (.sipush 300, 3) := by decide +kernel
theorem dX10_place_36 : decode cX10_place 36 = .ok (.invokestatic 302, 3) := by decide +kernel
theorem dX10_place_39 : decode cX10_place 39 = .ok (.ifCond .eq 21, 3) := by decide +kernel
theorem dX10_place_42 : decode cX10_place 42 = .ok (.iload 4, 2) := by decide +kernel
theorem dX10_place_44 : decode cX10_place 44 = .ok (.iload_n 2, 1) := by decide +kernel
theorem dX10_place_45 : decode cX10_place 45 = .ok (.invokestatic 302, 3) := by decide +kernel
theorem dX10_place_48 : decode cX10_place 48 = .ok (.ifCond .eq 12, 3) := by decide +kernel
theorem dX10_place_51 : decode cX10_place 51 = .ok (.iload 5, 2) := by decide +kernel
theorem dX10_place_53 : decode cX10_place 53 = .ok (.iload_n 3, 1) := by decide +kernel
theorem dX10_place_54 : decode cX10_place 54 = .ok (.invokestatic 302, 3) := by decide +kernel
theorem dX10_place_57 : decode cX10_place 57 = .ok (.ifCond .ne 10, 3) := by decide +kernel
theorem dX10_place_60 : decode cX10_place 60 = .ok (.aload_n 0, 1) := by decide +kernel
theorem dX10_place_61 : decode cX10_place 61 = .ok (.bipush (-3), 2) := by decide +kernel
theorem dX10_place_63 : decode cX10_place 63 = .ok (.invokevirtual 97, 3) := by decide +kernel
theorem dX10_place_66 : decode cX10_place 66 = .ok (.ireturn, 1) := by decide +kernel
theorem dX10_place_67 : decode cX10_place 67 = .ok (.aload_n 0, 1) := by decide +kernel
theorem dX10_place_68 : decode cX10_place 68 = .ok (.getfield 75, 3) := by decide +kernel
theorem dX10_place_71 : decode cX10_place 71 = .ok (.iconst (-1), 1) := by decide +kernel
theorem dX10_place_72 : decode cX10_place 72 = .ok (.putfield 306, 3) := by decide +kernel
theorem dX10_place_75 : decode cX10_place 75 = .ok (.aload_n 0, 1) := by decide +kernel
theorem dX10_place_76 : decode cX10_place 76 = .ok (.getfield 23, 3) := by decide +kernel
theorem dX10_place_79 : decode cX10_place 79 = .ok (.getfield 293, 3) := by decide +kernel
theorem dX10_place_82 : decode cX10_place 82 = .ok (.astore 6, 2) := by decide +kernel
theorem dX10_place_84 : decode cX10_place 84 = .ok (.aload 6, 2) := by decide +kernel
theorem dX10_place_86 : decode cX10_place 86 = .ok (.getfield 297, 3) := by decide +kernel
theorem dX10_place_89 : decode cX10_place 89 = .ok (.istore 7, 2) := by decide +kernel
theorem dX10_place_91 : decode cX10_place 91 = .ok (.aload 6, 2) := by decide +kernel
theorem dX10_place_93 : decode cX10_place 93 = .ok (.getfield 309, 3) := by decide +kernel
theorem dX10_place_96 : decode cX10_place 96 = .ok (.iload 7, 2) := by decide +kernel
theorem dX10_place_98 : decode cX10_place 98 = .ok (.iload_n 1, 1) := by decide +kernel
theorem dX10_place_99 : decode cX10_place 99 = .ok (.ifCond .eq 7, 3) := by decide +kernel
theorem dX10_place_102 : decode cX10_place 102 = .ok (.iconst 1, 1) := by decide +kernel
theorem dX10_place_103 : decode cX10_place 103 = .ok (.goto 4, 3) := by decide +kernel
theorem dX10_place_106 : decode cX10_place 106 = .ok (.iconst 0, 1) := by decide +kernel
theorem dX10_place_107 : decode cX10_place 107 = .ok (.iastore, 1) := by decide +kernel
theorem dX10_place_108 : decode cX10_place 108 = .ok (.aload 6, 2) := by decide +kernel
theorem dX10_place_110 : decode cX10_place 110 = .ok (.getfield 312, 3) := by decide +kernel
theorem dX10_place_113 : decode cX10_place 113 = .ok (.iload 7, 2) := by decide +kernel
theorem dX10_place_115 : decode cX10_place 115 = .ok (.iload_n 2, 1) := by decide +kernel
theorem dX10_place_116 : decode cX10_place 116 = .ok (.iastore, 1) := by decide +kernel
theorem dX10_place_117 : decode cX10_place 117 = .ok (.aload 6, 2) := by decide +kernel
theorem dX10_place_119 : decode cX10_place 119 = .ok (.getfield 315, 3) := by decide +kernel
theorem dX10_place_122 : decode cX10_place 122 = .ok (.iload 7, 2) := by decide +kernel
theorem dX10_place_124 : decode cX10_place 124 = .ok (.iload_n 3, 1) := by decide +kernel
theorem dX10_place_125 : decode cX10_place 125 = .ok (.iastore, 1) := by decide +kernel
theorem dX10_place_126 : decode cX10_place 126 = .ok (.aload 6, 2) := by decide +kernel
theorem dX10_place_128 : decode cX10_place 128 = .ok (.getfield 318, 3) := by decide +kernel
theorem dX10_place_131 : decode cX10_place 131 = .ok (.iload 7, 2) := by decide +kernel
theorem dX10_place_133 : decode cX10_place 133 = .ok (.iload 4, 2) := by decide +kernel
theorem dX10_place_135 : decode cX10_place 135 = .ok (.iastore, 1) := by decide +kernel
theorem dX10_place_136 : decode cX10_place 136 = .ok (.aload 6, 2) := by decide +kernel
theorem dX10_place_138 : decode cX10_place 138 = .ok (.getfield 321, 3) := by decide +kernel
theorem dX10_place_141 : decode cX10_place 141 = .ok (.iload 7, 2) := by decide +kernel
theorem dX10_place_143 : decode cX10_place 143 = .ok (.iload 5, 2) := by decide +kernel
theorem dX10_place_145 : decode cX10_place 145 = .ok (.iastore, 1) := by decide +kernel
theorem dX10_place_146 : decode cX10_place 146 = .ok (.aload 6, 2) := by decide +kernel
theorem dX10_place_148 : decode cX10_place 148 = .ok (.getfield 324, 3) := by decide +kernel
theorem dX10_place_151 : decode cX10_place 151 = .ok (.iload 7, 2) := by decide +kernel
theorem dX10_place_153 : decode cX10_place 153 = .ok (.iconst 0, 1) := by decide +kernel
theorem dX10_place_154 : decode cX10_place 154 = .ok (.iastore, 1) := by decide +kernel
theorem dX10_place_155 : decode cX10_place 155 = .ok (.aload 6, 2) := by decide +kernel
theorem dX10_place_157 : decode cX10_place 157 = .ok (.dup, 1) := by decide +kernel
theorem dX10_place_158 : decode cX10_place 158 = .ok (.getfield 297, 3) := by decide +kernel
theorem dX10_place_161 : decode cX10_place 161 = .ok (.iconst 1, 1) := by decide +kernel
theorem dX10_place_162 : decode cX10_place 162 = .ok (.iadd, 1) := by decide +kernel
theorem dX10_place_163 : decode cX10_place 163 = .ok (.putfield 297, 3) := by decide +kernel
theorem dX10_place_166 : decode cX10_place 166 = .ok (.iload 7, 2) := by decide +kernel
theorem dX10_place_168 : decode cX10_place 168 = .ok (.ireturn, 1) := by decide +kernel
theorem dX10_behind_0 : decode cX10_behind 0 = .ok (.aload_n 0, 1) := by decide +kernel
theorem dX10_behind_1 : decode cX10_behind 1 = .ok (.iload_n 1, 1) := by decide +kernel
theorem dX10_behind_2 : decode cX10_behind 2 = .ok (.invokevirtual 327, 3) := by decide +kernel
theorem dX10_behind_5 : decode cX10_behind 5 = .ok (.ifCond .ne 10, 3) := by decide +kernel
theorem dX10_behind_8 : decode cX10_behind 8 = .ok (.aload_n 0, 1) := by decide +kernel
theorem dX10_behind_9 : decode cX10_behind 9 = .ok (.bipush (-2), 2) := by decide +kernel
theorem dX10_behind_11 : decode cX10_behind 11 = .ok (.invokevirtual 97, 3) := by decide +kernel
theorem dX10_behind_14 : decode cX10_behind 14 = .ok (.ireturn, 1) := by decide +kernel
theorem dX10_behind_15 : decode cX10_behind 15 = .ok (.iload_n 2, 1) := by decide +kernel
theorem dX10_behind_16 : decode cX10_behind 16 = .ok (.sipush 600, 3) := by decide +kernel
theorem dX10_behind_19 : decode cX10_behind 19 = .ok (.invokestatic 302, 3) := by decide +kernel
theorem dX10_behind_22 : decode cX10_behind 22 = .ok (.ifCond .ne 10, 3) := by decide +kernel
theorem dX10_behind_25 : decode cX10_behind 25 = .ok (.aload_n 0, 1) := by decide +kernel
theorem dX10_behind_26 : decode cX10_behind 26 = .ok (.bipush (-3), 2) := by decide +kernel
theorem dX10_behind_28 : decode cX10_behind 28 = .ok (.invokevirtual 97, 3) := by decide +kernel
theorem dX10_behind_31 : decode cX10_behind 31 = .ok (.ireturn, 1) := by decide +kernel
theorem dX10_behind_32 : decode cX10_behind 32 = .ok (.aload_n 0, 1) := by decide +kernel
theorem dX10_behind_33 : decode cX10_behind 33 = .ok (.getfield 23, 3) := by decide +kernel
theorem dX10_behind_36 : decode cX10_behind 36 = .ok (.getfield 293, 3) := by decide +kernel
theorem dX10_behind_39 : decode cX10_behind 39 = .ok (.getfield 324, 3) := by decide +kernel
theorem dX10_behind_42 : decode cX10_behind 42 = .ok (.iload_n 1, 1) := by decide +kernel
theorem dX10_behind_43 : decode cX10_behind 43 = .ok (.iaload, 1) := by decide +kernel
theorem dX10_behind_44 : decode cX10_behind 44 = .ok (.istore_n 3, 1) := by decide +kernel
theorem dX10_behind_45 : decode cX10_behind 45 = .ok (.aload_n 0, 1) := by decide +kernel
theorem dX10_behind_46 : decode cX10_behind 46 = .ok (.getfield 23, 3) := by decide +kernel
theorem dX10_behind_49 : decode cX10_behind 49 = .ok (.getfield 293, 3) := by decide +kernel
theorem dX10_behind_52 : decode cX10_behind 52 = .ok (.getfield 324, 3) := by decide +kernel
theorem dX10_behind_55 : decode cX10_behind 55 = .ok (.iload_n 1, 1) := by decide +kernel
theorem dX10_behind_56 : decode cX10_behind 56 = .ok (.iload_n 2, 1) := by decide +kernel
theorem dX10_behind_57 : decode cX10_behind 57 = .ok (.iastore, 1) := by decide +kernel
theorem dX10_behind_58 : decode cX10_behind 58 = .ok (.iload_n 3, 1) := by decide +kernel
theorem dX10_behind_59 : decode cX10_behind 59 = .ok (.ireturn, 1) := by decide +kernel
theorem dX10_at_0 : decode cX10_at 0 = .ok (.aload_n 0, 1) := by decide +kernel
theorem dX10_at_1 : decode cX10_at 1 = .ok (.iload_n 1, 1) := by decide +kernel
theorem dX10_at_2 : decode cX10_at 2 = .ok (.invokevirtual 327, 3) := by decide +kernel
theorem dX10_at_5 : decode cX10_at 5 = .ok (.ifCond .ne 10, 3) := by decide +kernel
theorem dX10_at_8 : decode cX10_at 8 = .ok (.aload_n 0, 1) := by decide +kernel
theorem dX10_at_9 : decode cX10_at 9 = .ok (.bipush (-2), 2) := by decide +kernel
theorem dX10_at_11 : decode cX10_at 11 = .ok (.invokevirtual 97, 3) := by decide +kernel
theorem dX10_at_14 : decode cX10_at 14 = .ok (.ireturn, 1) := by decide +kernel
theorem dX10_at_15 : decode cX10_at 15 = .ok (.iload_n 2, 1) := by decide +kernel
theorem dX10_at_16 : decode cX10_at 16 = .ok (.tableswitch 118 0 5 #[40, 53, 66, 79, 92, 105], 40) := by decide +kernel
theorem dX10_at_56 : decode cX10_at 56 = .ok (.aload_n 0, 1) := by decide +kernel
theorem dX10_at_57 : decode cX10_at 57 = .ok (.getfield 23, 3) := by decide +kernel
theorem dX10_at_60 : decode cX10_at 60 = .ok (.getfield 293, 3) := by decide +kernel
theorem dX10_at_63 : decode cX10_at 63 = .ok (.getfield 309, 3) := by decide +kernel
theorem dX10_at_66 : decode cX10_at 66 = .ok (.iload_n 1, 1) := by decide +kernel
theorem dX10_at_67 : decode cX10_at 67 = .ok (.iaload, 1) := by decide +kernel
theorem dX10_at_68 : decode cX10_at 68 = .ok (.ireturn, 1) := by decide +kernel
theorem dX10_at_69 : decode cX10_at 69 = .ok (.aload_n 0, 1) := by decide +kernel
theorem dX10_at_70 : decode cX10_at 70 = .ok (.getfield 23, 3) := by decide +kernel
theorem dX10_at_73 : decode cX10_at 73 = .ok (.getfield 293, 3) := by decide +kernel
theorem dX10_at_76 : decode cX10_at 76 = .ok (.getfield 312, 3) := by decide +kernel
theorem dX10_at_79 : decode cX10_at 79 = .ok (.iload_n 1, 1) := by decide +kernel
theorem dX10_at_80 : decode cX10_at 80 = .ok (.iaload, 1) := by decide +kernel
theorem dX10_at_81 : decode cX10_at 81 = .ok (.ireturn, 1) := by decide +kernel
theorem dX10_at_82 : decode cX10_at 82 = .ok (.aload_n 0, 1) := by decide +kernel
theorem dX10_at_83 : decode cX10_at 83 = .ok (.getfield 23, 3) := by decide +kernel
theorem dX10_at_86 : decode cX10_at 86 = .ok (.getfield 293, 3) := by decide +kernel
theorem dX10_at_89 : decode cX10_at 89 = .ok (.getfield 315, 3) := by decide +kernel
theorem dX10_at_92 : decode cX10_at 92 = .ok (.iload_n 1, 1) := by decide +kernel
theorem dX10_at_93 : decode cX10_at 93 = .ok (.iaload, 1) := by decide +kernel
theorem dX10_at_94 : decode cX10_at 94 = .ok (.ireturn, 1) := by decide +kernel
theorem dX10_at_95 : decode cX10_at 95 = .ok (.aload_n 0, 1) := by decide +kernel
theorem dX10_at_96 : decode cX10_at 96 = .ok (.getfield 23, 3) := by decide +kernel
theorem dX10_at_99 : decode cX10_at 99 = .ok (.getfield 293, 3) := by decide +kernel
theorem dX10_at_102 : decode cX10_at 102 = .ok (.getfield 318, 3) := by decide +kernel
theorem dX10_at_105 : decode cX10_at 105 = .ok (.iload_n 1, 1) := by decide +kernel
theorem dX10_at_106 : decode cX10_at 106 = .ok (.iaload, 1) := by decide +kernel
theorem dX10_at_107 : decode cX10_at 107 = .ok (.ireturn, 1) := by decide +kernel
theorem dX10_at_108 : decode cX10_at 108 = .ok (.aload_n 0, 1) := by decide +kernel
theorem dX10_at_109 : decode cX10_at 109 = .ok (.getfield 23, 3) := by decide +kernel
theorem dX10_at_112 : decode cX10_at 112 = .ok (.getfield 293, 3) := by decide +kernel
theorem dX10_at_115 : decode cX10_at 115 = .ok (.getfield 321, 3) := by decide +kernel
theorem dX10_at_118 : decode cX10_at 118 = .ok (.iload_n 1, 1) := by decide +kernel
theorem dX10_at_119 : decode cX10_at 119 = .ok (.iaload, 1) := by decide +kernel
theorem dX10_at_120 : decode cX10_at 120 = .ok (.ireturn, 1) := by decide +kernel
theorem dX10_at_121 : decode cX10_at 121 = .ok (.aload_n 0, 1) := by decide +kernel
theorem dX10_at_122 : decode cX10_at 122 = .ok (.getfield 23, 3) := by decide +kernel
theorem dX10_at_125 : decode cX10_at 125 = .ok (.getfield 293, 3) := by decide +kernel
theorem dX10_at_128 : decode cX10_at 128 = .ok (.getfield 324, 3) := by decide +kernel
theorem dX10_at_131 : decode cX10_at 131 = .ok (.iload_n 1, 1) := by decide +kernel
theorem dX10_at_132 : decode cX10_at 132 = .ok (.iaload, 1) := by decide +kernel
theorem dX10_at_133 : decode cX10_at 133 = .ok (.ireturn, 1) := by decide +kernel
theorem dX10_at_134 : decode cX10_at 134 = .ok (.aload_n 0, 1) := by decide +kernel
theorem dX10_at_135 : decode cX10_at 135 = .ok (.bipush (-2), 2) := by decide +kernel
theorem dX10_at_137 : decode cX10_at 137 = .ok (.invokevirtual 97, 3) := by decide +kernel
theorem dX10_at_140 : decode cX10_at 140 = .ok (.ireturn, 1) := by decide +kernel
theorem dX10_rate_0 : decode cX10_rate 0 = .ok (.iload_n 2, 1) := by decide +kernel
theorem dX10_rate_1 : decode cX10_rate 1 = .ok (.ifCond .lt 8, 3) := by decide +kernel
theorem dX10_rate_4 : decode cX10_rate 4 = .ok (.iload_n 2, 1) := by decide +kernel
theorem dX10_rate_5 : decode cX10_rate 5 = .ok (.iconst 1, 1) := by decide +kernel
theorem dX10_rate_6 : decode cX10_rate 6 = .ok (.if_icmp .le 10, 3) := by decide +kernel
theorem dX10_rate_9 : decode cX10_rate 9 = .ok (.aload_n 0, 1) := by decide +kernel
theorem dX10_rate_10 : decode cX10_rate 10 = .ok (.bipush (-2), 2) := by decide +kernel
theorem dX10_rate_12 : decode cX10_rate 12 = .ok (.invokevirtual 97, 3) := by decide +kernel
theorem dX10_rate_15 : decode cX10_rate 15 = .ok (.ireturn, 1) := by decide +kernel
theorem dX10_rate_16 : decode cX10_rate 16 = .ok (.aload_n 0, 1) := by decide +kernel
theorem dX10_rate_17 : decode cX10_rate 17 = .ok (.getfield 23, 3) := by decide +kernel
theorem dX10_rate_20 : decode cX10_rate 20 = .ok (.getfield 293, 3) := by decide +kernel
theorem dX10_rate_23 : decode cX10_rate 23 = .ok (.astore_n 3, 1) := by decide +kernel
theorem dX10_rate_24 : decode cX10_rate 24 = .ok (.aload_n 3, 1) := by decide +kernel
theorem dX10_rate_25 : decode cX10_rate 25 = .ok (.aload_n 3, 1) := by decide +kernel
theorem dX10_rate_26 : decode cX10_rate 26 = .ok (.getfield 318, 3) := by decide +kernel
theorem dX10_rate_29 : decode cX10_rate 29 = .ok (.iload_n 1, 1) := by decide +kernel
theorem dX10_rate_30 : decode cX10_rate 30 = .ok (.invokevirtual 330, 3) := by decide +kernel
theorem dX10_rate_33 : decode cX10_rate 33 = .ok (.aload_n 3, 1) := by decide +kernel
theorem dX10_rate_34 : decode cX10_rate 34 = .ok (.aload_n 3, 1) := by decide +kernel
theorem dX10_rate_35 : decode cX10_rate 35 = .ok (.getfield 321, 3) := by decide +kernel
theorem dX10_rate_38 : decode cX10_rate 38 = .ok (.iload_n 1, 1) := by decide +kernel
theorem dX10_rate_39 : decode cX10_rate 39 = .ok (.invokevirtual 330, 3) := by decide +kernel
theorem dX10_rate_42 : decode cX10_rate 42 = .ok (.iadd, 1) := by decide +kernel
theorem dX10_rate_43 : decode cX10_rate 43 = .ok (.istore 4, 2) := by decide +kernel
theorem dX10_rate_45 : decode cX10_rate 45 = .ok (.aload_n 3, 1) := by decide +kernel
theorem dX10_rate_46 : decode cX10_rate 46 = .ok (.aload_n 3, 1) := by decide +kernel
theorem dX10_rate_47 : decode cX10_rate 47 = .ok (.getfield 312, 3) := by decide +kernel
theorem dX10_rate_50 : decode cX10_rate 50 = .ok (.iload_n 1, 1) := by decide +kernel
theorem dX10_rate_51 : decode cX10_rate 51 = .ok (.invokevirtual 330, 3) := by decide +kernel
theorem dX10_rate_54 : decode cX10_rate 54 = .ok (.aload_n 3, 1) := by decide +kernel
theorem dX10_rate_55 : decode cX10_rate 55 = .ok (.aload_n 3, 1) := by decide +kernel
theorem dX10_rate_56 : decode cX10_rate 56 = .ok (.getfield 315, 3) := by decide +kernel
theorem dX10_rate_59 : decode cX10_rate 59 = .ok (.iload_n 1, 1) := by decide +kernel
theorem dX10_rate_60 : decode cX10_rate 60 = .ok (.invokevirtual 330, 3) := by decide +kernel
theorem dX10_rate_63 : decode cX10_rate 63 = .ok (.iadd, 1) := by decide +kernel
theorem dX10_rate_64 : decode cX10_rate 64 = .ok (.istore 5, 2) := by decide +kernel
theorem dX10_rate_66 : decode cX10_rate 66 = .ok (.iload 5, 2) := by decide +kernel
theorem dX10_rate_68 : decode cX10_rate 68 = .ok (.ifCond .ne 5, 3) := by decide +kernel
theorem dX10_rate_71 : decode cX10_rate 71 = .ok (.iload_n 2, 1) := by decide +kernel
theorem dX10_rate_72 : decode cX10_rate 72 = .ok (.ireturn, 1) := by decide +kernel
theorem dX10_rate_73 : decode cX10_rate 73 = .ok (.iload_n 2, 1) := by decide +kernel
theorem dX10_rate_74 : decode cX10_rate 74 = .ok (.ifCond .ne 8, 3) := by decide +kernel
theorem dX10_rate_77 : decode cX10_rate 77 = .ok (.iload 4, 2) := by decide +kernel
theorem dX10_rate_79 : decode cX10_rate 79 = .ok (.goto 5, 3) := by decide +kernel
theorem dX10_rate_82 : decode cX10_rate 82 = .ok (.iload 5, 2) := by decide +kernel
theorem dX10_rate_84 : decode cX10_rate 84 = .ok (.iload 4, 2) := by decide +kernel
theorem dX10_rate_86 : decode cX10_rate 86 = .ok (.i2l, 1) := by decide +kernel
theorem dX10_rate_87 : decode cX10_rate 87 = .ok (.iload 5, 2) := by decide +kernel
theorem dX10_rate_89 : decode cX10_rate 89 = .ok (.i2l, 1) := by decide +kernel
theorem dX10_rate_90 : decode cX10_rate 90 = .ok (.invokestatic 269, 3) := by decide +kernel
theorem dX10_rate_93 : decode cX10_rate 93 = .ok (.l2i, 1) := by decide +kernel
theorem dX10_rate_94 : decode cX10_rate 94 = .ok (.idiv, 1) := by decide +kernel
theorem dX10_rate_95 : decode cX10_rate 95 = .ok (.ireturn, 1) := by decide +kernel
theorem dX10_parted_0 : decode cX10_parted 0 = .ok (.aload_n 0, 1) := by decide +kernel
theorem dX10_parted_1 : decode cX10_parted 1 = .ok (.getfield 23, 3) := by decide +kernel
theorem dX10_parted_4 : decode cX10_parted 4 = .ok (.getfield 293, 3) := by decide +kernel
theorem dX10_parted_7 : decode cX10_parted 7 = .ok (.astore_n 1, 1) := by decide +kernel
theorem dX10_parted_8 : decode cX10_parted 8 = .ok (.aload_n 1, 1) := by decide +kernel
theorem dX10_parted_9 : decode cX10_parted 9 = .ok (.iconst 1, 1) := by decide +kernel
theorem dX10_parted_10 : decode cX10_parted 10 = .ok (.invokevirtual 334, 3) := by decide +kernel
theorem dX10_parted_13 : decode cX10_parted 13 = .ok (.aload_n 1, 1) := by decide +kernel
theorem dX10_parted_14 : decode cX10_parted 14 = .ok (.iconst 0, 1) := by decide +kernel
theorem dX10_parted_15 : decode cX10_parted 15 = .ok (.invokevirtual 338, 3) := by decide +kernel
theorem dX10_parted_18 : decode cX10_parted 18 = .ok (.lmul, 1) := by decide +kernel
theorem dX10_parted_19 : decode cX10_parted 19 = .ok (.lstore_n 2, 1) := by decide +kernel
theorem dX10_parted_20 : decode cX10_parted 20 = .ok (.aload_n 1, 1) := by decide +kernel
theorem dX10_parted_21 : decode cX10_parted 21 = .ok (.iconst 0, 1) := by decide +kernel
theorem dX10_parted_22 : decode cX10_parted 22 = .ok (.invokevirtual 334, 3) := by decide +kernel
theorem dX10_parted_25 : decode cX10_parted 25 = .ok (.aload_n 1, 1) := by decide +kernel
theorem dX10_parted_26 : decode cX10_parted 26 = .ok (.iconst 1, 1) := by decide +kernel
theorem dX10_parted_27 : decode cX10_parted 27 = .ok (.invokevirtual 338, 3) := by decide +kernel
theorem dX10_parted_30 : decode cX10_parted 30 = .ok (.lmul, 1) := by decide +kernel
theorem dX10_parted_31 : decode cX10_parted 31 = .ok (.lstore 4, 2) := by decide +kernel
theorem dX10_parted_33 : decode cX10_parted 33 = .ok (.lload_n 2, 1) := by decide +kernel
theorem dX10_parted_34 : decode cX10_parted 34 = .ok (.lload 4, 2) := by decide +kernel
theorem dX10_parted_36 : decode cX10_parted 36 = .ok (.lcmp, 1) := by decide +kernel
theorem dX10_parted_37 : decode cX10_parted 37 = .ok (.ifCond .ne 5, 3) := by decide +kernel
theorem dX10_parted_40 : decode cX10_parted 40 = .ok (.iconst 0, 1) := by decide +kernel
theorem dX10_parted_41 : decode cX10_parted 41 = .ok (.ireturn, 1) := by decide +kernel
theorem dX10_parted_42 : decode cX10_parted 42 = .ok (.lload_n 2, 1) := by decide +kernel
theorem dX10_parted_43 : decode cX10_parted 43 = .ok (.lload 4, 2) := by decide +kernel
theorem dX10_parted_45 : decode cX10_parted 45 = .ok (.lcmp, 1) := by decide +kernel
theorem dX10_parted_46 : decode cX10_parted 46 = .ok (.ifCond .le 7, 3) := by decide +kernel
theorem dX10_parted_49 : decode cX10_parted 49 = .ok (.iconst 1, 1) := by decide +kernel
theorem dX10_parted_50 : decode cX10_parted 50 = .ok (.goto 4, 3) := by decide +kernel
theorem dX10_parted_53 : decode cX10_parted 53 = .ok (.iconst 2, 1) := by decide +kernel
theorem dX10_parted_54 : decode cX10_parted 54 = .ok (.ireturn, 1) := by decide +kernel
theorem dX10_worst_0 : decode cX10_worst 0 = .ok (.aload_n 0, 1) := by decide +kernel
theorem dX10_worst_1 : decode cX10_worst 1 = .ok (.getfield 23, 3) := by decide +kernel
theorem dX10_worst_4 : decode cX10_worst 4 = .ok (.getfield 293, 3) := by decide +kernel
theorem dX10_worst_7 : decode cX10_worst 7 = .ok (.astore_n 3, 1) := by decide +kernel
theorem dX10_worst_8 : decode cX10_worst 8 = .ok (.iload_n 1, 1) := by decide +kernel
theorem dX10_worst_9 : decode cX10_worst 9 = .ok (.aload_n 3, 1) := by decide +kernel
theorem dX10_worst_10 : decode cX10_worst 10 = .ok (.getfield 297, 3) := by decide +kernel
theorem dX10_worst_13 : decode cX10_worst 13 = .ok (.invokestatic 302, 3) := by decide +kernel
theorem dX10_worst_16 : decode cX10_worst 16 = .ok (.ifCond .eq 26, 3) := by decide +kernel
theorem dX10_worst_19 : decode cX10_worst 19 = .ok (.iload_n 2, 1) := by decide +kernel
theorem dX10_worst_20 : decode cX10_worst 20 = .ok (.iconst 3, 1) := by decide +kernel
theorem dX10_worst_21 : decode cX10_worst 21 = .ok (.invokestatic 302, 3) := by decide +kernel
theorem dX10_worst_24 : decode cX10_worst 24 = .ok (.ifCond .eq 18, 3) := by decide +kernel
theorem dX10_worst_27 : decode cX10_worst 27 = .ok (.iload_n 2, 1) := by decide +kernel
theorem dX10_worst_28 : decode cX10_worst 28 = .ok (.iconst 2, 1) := by decide +kernel
theorem dX10_worst_29 : decode cX10_worst 29 = .ok (.if_icmp .lt 21, 3) := by decide +kernel
theorem dX10_worst_32 : decode cX10_worst 32 = .ok (.aload_n 3, 1) := by decide +kernel
theorem dX10_worst_33 : decode cX10_worst 33 = .ok (.getfield 297, 3) := by decide +kernel
theorem dX10_worst_36 : decode cX10_worst 36 = .ok (.iload_n 1, 1) := by decide +kernel
theorem dX10_worst_37 : decode cX10_worst 37 = .ok (.isub, 1) := by decide +kernel
theorem dX10_worst_38 : decode cX10_worst 38 = .ok (.iload_n 1, 1) := by decide +kernel
theorem dX10_worst_39 : decode cX10_worst 39 = .ok (.if_icmp .ge 11, 3) := by decide +kernel
theorem dX10_worst_42 : decode cX10_worst 42 = .ok (.aload_n 0, 1) := by decide +kernel
theorem dX10_worst_43 : decode cX10_worst 43 = .ok (.ldc_w 341, 3) := by decide +kernel
theorem dX10_worst_46 : decode cX10_worst 46 = .ok (.invokevirtual 199, 3) := by decide +kernel
theorem dX10_worst_49 : decode cX10_worst 49 = .ok (.ireturn, 1) := by decide +kernel
theorem dX10_worst_50 : decode cX10_worst 50 = .ok (.aload_n 3, 1) := by decide +kernel
theorem dX10_worst_51 : decode cX10_worst 51 = .ok (.iload_n 1, 1) := by decide +kernel
theorem dX10_worst_52 : decode cX10_worst 52 = .ok (.invokevirtual 342, 3) := by decide +kernel
theorem dX10_worst_55 : decode cX10_worst 55 = .ok (.istore 4, 2) := by decide +kernel
theorem dX10_worst_57 : decode cX10_worst 57 = .ok (.iload_n 2, 1) := by decide +kernel
theorem dX10_worst_58 : decode cX10_worst 58 = .ok (.tableswitch 47 0 2 #[26, 29, 36], 26) := by decide +kernel
theorem dX10_worst_84 : decode cX10_worst 84 = .ok (.iload 4, 2) := by decide +kernel
theorem dX10_worst_86 : decode cX10_worst 86 = .ok (.ireturn, 1) := by decide +kernel
theorem dX10_worst_87 : decode cX10_worst 87 = .ok (.aload_n 3, 1) := by decide +kernel
theorem dX10_worst_88 : decode cX10_worst 88 = .ok (.iload 4, 2) := by decide +kernel
theorem dX10_worst_90 : decode cX10_worst 90 = .ok (.invokevirtual 345, 3) := by decide +kernel
theorem dX10_worst_93 : decode cX10_worst 93 = .ok (.ireturn, 1) := by decide +kernel
theorem dX10_worst_94 : decode cX10_worst 94 = .ok (.aload_n 3, 1) := by decide +kernel
theorem dX10_worst_95 : decode cX10_worst 95 = .ok (.aload_n 3, 1) := by decide +kernel
theorem dX10_worst_96 : decode cX10_worst 96 = .ok (.iload 4, 2) := by decide +kernel
theorem dX10_worst_98 : decode cX10_worst 98 = .ok (.invokevirtual 348, 3) := by decide +kernel
theorem dX10_worst_101 : decode cX10_worst 101 = .ok (.invokevirtual 345, 3) := by decide +kernel
theorem dX10_worst_104 : decode cX10_worst 104 = .ok (.ireturn, 1) := by decide +kernel
theorem dX10_worst_105 : decode cX10_worst 105 = .ok (.aload_n 3, 1) := by decide +kernel
theorem dX10_worst_106 : decode cX10_worst 106 = .ok (.iload 4, 2) := by decide +kernel
theorem dX10_worst_108 : decode cX10_worst 108 = .ok (.invokevirtual 348, 3) := by decide +kernel
theorem dX10_worst_111 : decode cX10_worst 111 = .ok (.ireturn, 1) := by decide +kernel
theorem dX10_ranked_0 : decode cX10_ranked 0 = .ok (.iconst 0, 1) := by decide +kernel
theorem dX10_ranked_1 : decode cX10_ranked 1 = .ok (.istore_n 2, 1) := by decide +kernel
theorem dX10_ranked_2 : decode cX10_ranked 2 = .ok (.iload_n 2, 1) := by decide +kernel
theorem dX10_ranked_3 : decode cX10_ranked 3 = .ok (.aload_n 0, 1) := by decide +kernel
theorem dX10_ranked_4 : decode cX10_ranked 4 = .ok (.getfield 23, 3) := by decide +kernel
theorem dX10_ranked_7 : decode cX10_ranked 7 = .ok (.getfield 293, 3) := by decide +kernel
theorem dX10_ranked_10 : decode cX10_ranked 10 = .ok (.getfield 297, 3) := by decide +kernel
theorem dX10_ranked_13 : decode cX10_ranked 13 = .ok (.if_icmp .ge 26, 3) := by decide +kernel
theorem dX10_ranked_16 : decode cX10_ranked 16 = .ok (.aload_n 0, 1) := by decide +kernel
theorem dX10_ranked_17 : decode cX10_ranked 17 = .ok (.getfield 23, 3) := by decide +kernel
theorem dX10_ranked_20 : decode cX10_ranked 20 = .ok (.getfield 293, 3) := by decide +kernel
theorem dX10_ranked_23 : decode cX10_ranked 23 = .ok (.iload_n 2, 1) := by decide +kernel
theorem dX10_ranked_24 : decode cX10_ranked 24 = .ok (.invokevirtual 351, 3) := by decide +kernel
theorem dX10_ranked_27 : decode cX10_ranked 27 = .ok (.iload_n 1, 1) := by decide +kernel
theorem dX10_ranked_28 : decode cX10_ranked 28 = .ok (.if_icmp .ne 5, 3) := by decide +kernel
theorem dX10_ranked_31 : decode cX10_ranked 31 = .ok (.iload_n 2, 1) := by decide +kernel
theorem dX10_ranked_32 : decode cX10_ranked 32 = .ok (.ireturn, 1) := by decide +kernel
theorem dX10_ranked_33 : decode cX10_ranked 33 = .ok (.iinc 2 1, 3) := by decide +kernel
theorem dX10_ranked_36 : decode cX10_ranked 36 = .ok (.goto (-34), 3) := by decide +kernel
theorem dX10_ranked_39 : decode cX10_ranked 39 = .ok (.iconst (-1), 1) := by decide +kernel
theorem dX10_ranked_40 : decode cX10_ranked 40 = .ok (.ireturn, 1) := by decide +kernel
theorem dX10_measure_0 : decode cX10_measure 0 = .ok (.iload_n 1, 1) := by decide +kernel
theorem dX10_measure_1 : decode cX10_measure 1 = .ok (.ifCond .lt 8, 3) := by decide +kernel
theorem dX10_measure_4 : decode cX10_measure 4 = .ok (.iload_n 1, 1) := by decide +kernel
theorem dX10_measure_5 : decode cX10_measure 5 = .ok (.iconst 4, 1) := by decide +kernel
theorem dX10_measure_6 : decode cX10_measure 6 = .ok (.if_icmp .lt 10, 3) := by decide +kernel
theorem dX10_measure_9 : decode cX10_measure 9 = .ok (.aload_n 0, 1) := by decide +kernel
theorem dX10_measure_10 : decode cX10_measure 10 = .ok (.bipush (-2), 2) := by decide +kernel
theorem dX10_measure_12 : decode cX10_measure 12 = .ok (.invokevirtual 97, 3) := by decide +kernel
theorem dX10_measure_15 : decode cX10_measure 15 = .ok (.ireturn, 1) := by decide +kernel
theorem dX10_measure_16 : decode cX10_measure 16 = .ok (.iload_n 2, 1) := by decide +kernel
theorem dX10_measure_17 : decode cX10_measure 17 = .ok (.iconst 1, 1) := by decide +kernel
theorem dX10_measure_18 : decode cX10_measure 18 = .ok (.if_icmp .lt 18, 3) := by decide +kernel
theorem dX10_measure_21 : decode cX10_measure 21 = .ok (.iload_n 2, 1) := by decide +kernel
theorem dX10_measure_22 : decode cX10_measure 22 = .ok (.bipush 99, 2) := by decide +kernel
theorem dX10_measure_24 : decode cX10_measure 24 = .ok (.if_icmp .gt 12, 3) := by decide +kernel
theorem dX10_measure_27 : decode cX10_measure 27 = .ok (.iload_n 3, 1) := by decide +kernel
theorem dX10_measure_28 : decode cX10_measure 28 = .ok (.bipush 100, 2) := by decide +kernel
theorem dX10_measure_30 : decode cX10_measure 30 = .ok (.invokestatic 302, 3) := by decide +kernel
theorem dX10_measure_33 : decode cX10_measure 33 = .ok (.ifCond .ne 10, 3) := by decide +kernel
theorem dX10_measure_36 : decode cX10_measure 36 = .ok (.aload_n 0, 1) := by decide +kernel
theorem dX10_measure_37 : decode cX10_measure 37 = .ok (.bipush (-3), 2) := by decide +kernel
theorem dX10_measure_39 : decode cX10_measure 39 = .ok (.invokevirtual 97, 3) := by decide +kernel
theorem dX10_measure_42 : decode cX10_measure 42 = .ok (.ireturn, 1) := by decide +kernel
theorem dX10_measure_43 : decode cX10_measure 43 = .ok (.aload_n 0, 1) := by decide +kernel
theorem dX10_measure_44 : decode cX10_measure 44 = .ok (.getfield 75, 3) := by decide +kernel
theorem dX10_measure_47 : decode cX10_measure 47 = .ok (.iconst (-1), 1) := by decide +kernel
theorem dX10_measure_48 : decode cX10_measure 48 = .ok (.putfield 306, 3) := by decide +kernel
theorem dX10_measure_51 : decode cX10_measure 51 = .ok (.aload_n 0, 1) := by decide +kernel
theorem dX10_measure_52 : decode cX10_measure 52 = .ok (.getfield 23, 3) := by decide +kernel
theorem dX10_measure_55 : decode cX10_measure 55 = .ok (.getfield 293, 3) := by decide +kernel
theorem dX10_measure_58 : decode cX10_measure 58 = .ok (.getfield 354, 3) := by decide +kernel
theorem dX10_measure_61 : decode cX10_measure 61 = .ok (.iload_n 1, 1) := by decide +kernel
theorem dX10_measure_62 : decode cX10_measure 62 = .ok (.iload_n 2, 1) := by decide +kernel
theorem dX10_measure_63 : decode cX10_measure 63 = .ok (.iastore, 1) := by decide +kernel
theorem dX10_measure_64 : decode cX10_measure 64 = .ok (.aload_n 0, 1) := by decide +kernel
theorem dX10_measure_65 : decode cX10_measure 65 = .ok (.getfield 23, 3) := by decide +kernel
theorem dX10_measure_68 : decode cX10_measure 68 = .ok (.getfield 293, 3) := by decide +kernel
theorem dX10_measure_71 : decode cX10_measure 71 = .ok (.getfield 357, 3) := by decide +kernel
theorem dX10_measure_74 : decode cX10_measure 74 = .ok (.iload_n 1, 1) := by decide +kernel
theorem dX10_measure_75 : decode cX10_measure 75 = .ok (.iload_n 3, 1) := by decide +kernel
theorem dX10_measure_76 : decode cX10_measure 76 = .ok (.iastore, 1) := by decide +kernel
theorem dX10_measure_77 : decode cX10_measure 77 = .ok (.iconst 0, 1) := by decide +kernel
theorem dX10_measure_78 : decode cX10_measure 78 = .ok (.ireturn, 1) := by decide +kernel
theorem dX10_spent_0 : decode cX10_spent 0 = .ok (.iload_n 2, 1) := by decide +kernel
theorem dX10_spent_1 : decode cX10_spent 1 = .ok (.iconst (-1), 1) := by decide +kernel
theorem dX10_spent_2 : decode cX10_spent 2 = .ok (.if_icmp .eq 24, 3) := by decide +kernel
theorem dX10_spent_5 : decode cX10_spent 5 = .ok (.iload_n 2, 1) := by decide +kernel
theorem dX10_spent_6 : decode cX10_spent 6 = .ok (.bipush 20, 2) := by decide +kernel
theorem dX10_spent_8 : decode cX10_spent 8 = .ok (.if_icmp .eq 18, 3) := by decide +kernel
theorem dX10_spent_11 : decode cX10_spent 11 = .ok (.aload_n 0, 1) := by decide +kernel
theorem dX10_spent_12 : decode cX10_spent 12 = .ok (.iload_n 2, 1) := by decide +kernel
theorem dX10_spent_13 : decode cX10_spent 13 = .ok (.invokevirtual 327, 3) := by decide +kernel
theorem dX10_spent_16 : decode cX10_spent 16 = .ok (.ifCond .ne 10, 3) := by decide +kernel
theorem dX10_spent_19 : decode cX10_spent 19 = .ok (.aload_n 0, 1) := by decide +kernel
theorem dX10_spent_20 : decode cX10_spent 20 = .ok (.bipush (-2), 2) := by decide +kernel
theorem dX10_spent_22 : decode cX10_spent 22 = .ok (.invokevirtual 97, 3) := by decide +kernel
theorem dX10_spent_25 : decode cX10_spent 25 = .ok (.ireturn, 1) := by decide +kernel
theorem dX10_spent_26 : decode cX10_spent 26 = .ok (.iload_n 1, 1) := by decide +kernel
theorem dX10_spent_27 : decode cX10_spent 27 = .ok (.ifCond .lt 10, 3) := by decide +kernel
theorem dX10_spent_30 : decode cX10_spent 30 = .ok (.iload_n 1, 1) := by decide +kernel
theorem dX10_spent_31 : decode cX10_spent 31 = .ok (.sipush 1000, 3) := by decide +kernel
theorem dX10_spent_34 : decode cX10_spent 34 = .ok (.if_icmp .lt 10, 3) := by decide +kernel
theorem dX10_spent_37 : decode cX10_spent 37 = .ok (.aload_n 0, 1) := by decide +kernel
theorem dX10_spent_38 : decode cX10_spent 38 = .ok (.bipush (-3), 2) := by decide +kernel
theorem dX10_spent_40 : decode cX10_spent 40 = .ok (.invokevirtual 97, 3) := by decide +kernel
theorem dX10_spent_43 : decode cX10_spent 43 = .ok (.ireturn, 1) := by decide +kernel
theorem dX10_spent_44 : decode cX10_spent 44 = .ok (.aload_n 0, 1) := by decide +kernel
theorem dX10_spent_45 : decode cX10_spent 45 = .ok (.getfield 75, 3) := by decide +kernel
theorem dX10_spent_48 : decode cX10_spent 48 = .ok (.aload_n 0, 1) := by decide +kernel
theorem dX10_spent_49 : decode cX10_spent 49 = .ok (.getfield 23, 3) := by decide +kernel
theorem dX10_spent_52 : decode cX10_spent 52 = .ok (.getfield 293, 3) := by decide +kernel
theorem dX10_spent_55 : decode cX10_spent 55 = .ok (.iload_n 1, 1) := by decide +kernel
theorem dX10_spent_56 : decode cX10_spent 56 = .ok (.invokevirtual 360, 3) := by decide +kernel
theorem dX10_spent_59 : decode cX10_spent 59 = .ok (.iload_n 2, 1) := by decide +kernel
theorem dX10_spent_60 : decode cX10_spent 60 = .ok (.iconst (-1), 1) := by decide +kernel
theorem dX10_spent_61 : decode cX10_spent 61 = .ok (.if_icmp .ne 18, 3) := by decide +kernel
theorem dX10_spent_64 : decode cX10_spent 64 = .ok (.aload_n 0, 1) := by decide +kernel
theorem dX10_spent_65 : decode cX10_spent 65 = .ok (.getfield 75, 3) := by decide +kernel
theorem dX10_spent_68 : decode cX10_spent 68 = .ok (.getfield 364, 3) := by decide +kernel
theorem dX10_spent_71 : decode cX10_spent 71 = .ok (.iload_n 1, 1) := by decide +kernel
theorem dX10_spent_72 : decode cX10_spent 72 = .ok (.laload, 1) := by decide +kernel
theorem dX10_spent_73 : decode cX10_spent 73 = .ok (.ldc2_w 259, 3) := by decide +kernel
theorem dX10_spent_76 : decode cX10_spent 76 = .ok (.ldiv, 1) := by decide +kernel
theorem dX10_spent_77 : decode cX10_spent 77 = .ok (.l2i, 1) := by decide +kernel
theorem dX10_spent_78 : decode cX10_spent 78 = .ok (.ireturn, 1) := by decide +kernel
theorem dX10_spent_79 : decode cX10_spent 79 = .ok (.iload_n 2, 1) := by decide +kernel
theorem dX10_spent_80 : decode cX10_spent 80 = .ok (.bipush 20, 2) := by decide +kernel
theorem dX10_spent_82 : decode cX10_spent 82 = .ok (.if_icmp .ne 18, 3) := by decide +kernel
theorem dX10_spent_85 : decode cX10_spent 85 = .ok (.aload_n 0, 1) := by decide +kernel
theorem dX10_spent_86 : decode cX10_spent 86 = .ok (.getfield 75, 3) := by decide +kernel
theorem dX10_spent_89 : decode cX10_spent 89 = .ok (.getfield 364, 3) := by decide +kernel
theorem dX10_spent_92 : decode cX10_spent 92 = .ok (.iload_n 1, 1) := by decide +kernel
theorem dX10_spent_93 : decode cX10_spent 93 = .ok (.laload, 1) := by decide +kernel
theorem dX10_spent_94 : decode cX10_spent 94 = .ok (.ldc2_w 259, 3) := by decide +kernel
theorem dX10_spent_97 : decode cX10_spent 97 = .ok (.lrem, 1) := by decide +kernel
theorem dX10_spent_98 : decode cX10_spent 98 = .ok (.l2i, 1) := by decide +kernel
theorem dX10_spent_99 : decode cX10_spent 99 = .ok (.ireturn, 1) := by decide +kernel
theorem dX10_spent_100 : decode cX10_spent 100 = .ok (.aload_n 0, 1) := by decide +kernel
theorem dX10_spent_101 : decode cX10_spent 101 = .ok (.getfield 75, 3) := by decide +kernel
theorem dX10_spent_104 : decode cX10_spent 104 = .ok (.getfield 367, 3) := by decide +kernel
theorem dX10_spent_107 : decode cX10_spent 107 = .ok (.iload_n 1, 1) := by decide +kernel
theorem dX10_spent_108 : decode cX10_spent 108 = .ok (.laload, 1) := by decide +kernel
theorem dX10_spent_109 : decode cX10_spent 109 = .ok (.aload_n 0, 1) := by decide +kernel
theorem dX10_spent_110 : decode cX10_spent 110 = .ok (.getfield 75, 3) := by decide +kernel
theorem dX10_spent_113 : decode cX10_spent 113 = .ok (.aload_n 0, 1) := by decide +kernel
theorem dX10_spent_114 : decode cX10_spent 114 = .ok (.getfield 23, 3) := by decide +kernel
theorem dX10_spent_117 : decode cX10_spent 117 = .ok (.getfield 293, 3) := by decide +kernel
theorem dX10_spent_120 : decode cX10_spent 120 = .ok (.iload_n 2, 1) := by decide +kernel
theorem dX10_spent_121 : decode cX10_spent 121 = .ok (.invokevirtual 370, 3) := by decide +kernel
theorem dX10_spent_124 : decode cX10_spent 124 = .ok (.lshr, 1) := by decide +kernel
theorem dX10_spent_125 : decode cX10_spent 125 = .ok (.l2i, 1) := by decide +kernel
theorem dX10_spent_126 : decode cX10_spent 126 = .ok (.bipush 15, 2) := by decide +kernel
theorem dX10_spent_128 : decode cX10_spent 128 = .ok (.iand, 1) := by decide +kernel
theorem dX10_spent_129 : decode cX10_spent 129 = .ok (.ireturn, 1) := by decide +kernel
theorem dX10_fine_0 : decode cX10_fine 0 = .ok (.iload_n 1, 1) := by decide +kernel
theorem dX10_fine_1 : decode cX10_fine 1 = .ok (.iload_n 2, 1) := by decide +kernel
theorem dX10_fine_2 : decode cX10_fine 2 = .ok (.iload_n 3, 1) := by decide +kernel
theorem dX10_fine_3 : decode cX10_fine 3 = .ok (.invokestatic 374, 3) := by decide +kernel
theorem dX10_fine_6 : decode cX10_fine 6 = .ok (.ifCond .eq 13, 3) := by decide +kernel
theorem dX10_fine_9 : decode cX10_fine 9 = .ok (.iload 4, 2) := by decide +kernel
theorem dX10_fine_11 : decode cX10_fine 11 = .ok (.bipush 60, 2) := by decide +kernel
theorem dX10_fine_13 : decode cX10_fine 13 = .ok (.invokestatic 302, 3) := by decide +kernel
theorem dX10_fine_16 : decode cX10_fine 16 = .ok (.ifCond .ne 10, 3) := by decide +kernel
theorem dX10_fine_19 : decode cX10_fine 19 = .ok (.aload_n 0, 1) := by decide +kernel
theorem dX10_fine_20 : decode cX10_fine 20 = .ok (.bipush (-3), 2) := by decide +kernel
theorem dX10_fine_22 : decode cX10_fine 22 = .ok (.invokevirtual 97, 3) := by decide +kernel
theorem dX10_fine_25 : decode cX10_fine 25 = .ok (.ireturn, 1) := by decide +kernel
theorem dX10_fine_26 : decode cX10_fine 26 = .ok (.iload_n 1, 1) := by decide +kernel
theorem dX10_fine_27 : decode cX10_fine 27 = .ok (.istore 5, 2) := by decide +kernel
theorem dX10_fine_29 : decode cX10_fine 29 = .ok (.iconst 0, 1) := by decide +kernel
theorem dX10_fine_30 : decode cX10_fine 30 = .ok (.istore 6, 2) := by decide +kernel
theorem dX10_fine_32 : decode cX10_fine 32 = .ok (.iload 6, 2) := by decide +kernel
theorem dX10_fine_34 : decode cX10_fine 34 = .ok (.iload 4, 2) := by decide +kernel
theorem dX10_fine_36 : decode cX10_fine 36 = .ok (.if_icmp .ge 18, 3) := by decide +kernel
theorem dX10_fine_39 : decode cX10_fine 39 = .ok (.iload 5, 2) := by decide +kernel
theorem dX10_fine_41 : decode cX10_fine 41 = .ok (.iload_n 2, 1) := by decide +kernel
theorem dX10_fine_42 : decode cX10_fine 42 = .ok (.iload_n 3, 1) := by decide +kernel
theorem dX10_fine_43 : decode cX10_fine 43 = .ok (.invokestatic 378, 3) := by decide +kernel
theorem dX10_fine_46 : decode cX10_fine 46 = .ok (.istore 5, 2) := by decide +kernel
theorem dX10_fine_48 : decode cX10_fine 48 = .ok (.iinc 6 1, 3) := by decide +kernel
theorem dX10_fine_51 : decode cX10_fine 51 = .ok (.goto (-19), 3) := by decide +kernel
theorem dX10_fine_54 : decode cX10_fine 54 = .ok (.iload 5, 2) := by decide +kernel
theorem dX10_fine_56 : decode cX10_fine 56 = .ok (.ireturn, 1) := by decide +kernel
theorem dX10_until_0 : decode cX10_until 0 = .ok (.iload_n 1, 1) := by decide +kernel
theorem dX10_until_1 : decode cX10_until 1 = .ok (.iload_n 2, 1) := by decide +kernel
theorem dX10_until_2 : decode cX10_until 2 = .ok (.iload_n 3, 1) := by decide +kernel
theorem dX10_until_3 : decode cX10_until 3 = .ok (.invokestatic 374, 3) := by decide +kernel
theorem dX10_until_6 : decode cX10_until 6 = .ok (.ifCond .eq 14, 3) := by decide +kernel
theorem dX10_until_9 : decode cX10_until 9 = .ok (.iload 4, 2) := by decide +kernel
theorem dX10_until_11 : decode cX10_until 11 = .ok (.sipush 1000, 3) := by decide +kernel
theorem dX10_until_14 : decode cX10_until 14 = .ok (.invokestatic 302, 3) := by decide +kernel
theorem dX10_until_17 : decode cX10_until 17 = .ok (.ifCond .ne 10, 3) := by decide +kernel
theorem dX10_until_20 : decode cX10_until 20 = .ok (.aload_n 0, 1) := by decide +kernel
theorem dX10_until_21 : decode cX10_until 21 = .ok (.bipush (-3), 2) := by decide +kernel
theorem dX10_until_23 : decode cX10_until 23 = .ok (.invokevirtual 97, 3) := by decide +kernel
theorem dX10_until_26 : decode cX10_until 26 = .ok (.ireturn, 1) := by decide +kernel
theorem dX10_until_27 : decode cX10_until 27 = .ok (.iload_n 1, 1) := by decide +kernel
theorem dX10_until_28 : decode cX10_until 28 = .ok (.istore 5, 2) := by decide +kernel
theorem dX10_until_30 : decode cX10_until 30 = .ok (.iconst 0, 1) := by decide +kernel
theorem dX10_until_31 : decode cX10_until 31 = .ok (.istore 6, 2) := by decide +kernel
theorem dX10_until_33 : decode cX10_until 33 = .ok (.iload 6, 2) := by decide +kernel
theorem dX10_until_35 : decode cX10_until 35 = .ok (.sipush 999, 3) := by decide +kernel
theorem dX10_until_38 : decode cX10_until 38 = .ok (.if_icmp .gt 33, 3) := by decide +kernel
theorem dX10_until_41 : decode cX10_until 41 = .ok (.iload 5, 2) := by decide +kernel
theorem dX10_until_43 : decode cX10_until 43 = .ok (.iload_n 2, 1) := by decide +kernel
theorem dX10_until_44 : decode cX10_until 44 = .ok (.isub, 1) := by decide +kernel
theorem dX10_until_45 : decode cX10_until 45 = .ok (.invokestatic 382, 3) := by decide +kernel
theorem dX10_until_48 : decode cX10_until 48 = .ok (.iload 4, 2) := by decide +kernel
theorem dX10_until_50 : decode cX10_until 50 = .ok (.if_icmp .gt 6, 3) := by decide +kernel
theorem dX10_until_53 : decode cX10_until 53 = .ok (.iload 6, 2) := by decide +kernel
theorem dX10_until_55 : decode cX10_until 55 = .ok (.ireturn, 1) := by decide +kernel
theorem dX10_until_56 : decode cX10_until 56 = .ok (.iload 5, 2) := by decide +kernel
theorem dX10_until_58 : decode cX10_until 58 = .ok (.iload_n 2, 1) := by decide +kernel
theorem dX10_until_59 : decode cX10_until 59 = .ok (.iload_n 3, 1) := by decide +kernel
theorem dX10_until_60 : decode cX10_until 60 = .ok (.invokestatic 378, 3) := by decide +kernel
theorem dX10_until_63 : decode cX10_until 63 = .ok (.istore 5, 2) := by decide +kernel
theorem dX10_until_65 : decode cX10_until 65 = .ok (.iinc 6 1, 3) := by decide +kernel
theorem dX10_until_68 : decode cX10_until 68 = .ok (.goto (-35), 3) := by decide +kernel
theorem dX10_until_71 : decode cX10_until 71 = .ok (.iconst (-1), 1) := by decide +kernel
theorem dX10_until_72 : decode cX10_until 72 = .ok (.ireturn, 1) := by decide +kernel
theorem dX10_lot_0 : decode cX10_lot 0 = .ok (.iload_n 1, 1) := by decide +kernel
theorem dX10_lot_1 : decode cX10_lot 1 = .ok (.sipush 1000, 3) := by decide +kernel
theorem dX10_lot_4 : decode cX10_lot 4 = .ok (.invokestatic 302, 3) := by decide +kernel
theorem dX10_lot_7 : decode cX10_lot 7 = .ok (.ifCond .eq 13, 3) := by decide +kernel
theorem dX10_lot_10 : decode cX10_lot 10 = .ok (.iload_n 2, 1) := by decide +kernel
theorem dX10_lot_11 : decode cX10_lot 11 = .ok (.sipush 1000, 3) := by decide +kernel
theorem dX10_lot_14 : decode cX10_lot 14 = .ok (.invokestatic 302, 3) := by decide +kernel
theorem dX10_lot_17 : decode cX10_lot 17 = .ok (.ifCond .ne 10, 3) := by decide +kernel
theorem dX10_lot_20 : decode cX10_lot 20 = .ok (.aload_n 0, 1) := by decide +kernel
theorem dX10_lot_21 : decode cX10_lot 21 = .ok (.bipush (-3), 2) := by decide +kernel
theorem dX10_lot_23 : decode cX10_lot 23 = .ok (.invokevirtual 97, 3) := by decide +kernel
theorem dX10_lot_26 : decode cX10_lot 26 = .ok (.ireturn, 1) := by decide +kernel
theorem dX10_lot_27 : decode cX10_lot 27 = .ok (.iload_n 1, 1) := by decide +kernel
theorem dX10_lot_28 : decode cX10_lot 28 = .ok (.iload_n 2, 1) := by decide +kernel
theorem dX10_lot_29 : decode cX10_lot 29 = .ok (.isub, 1) := by decide +kernel
theorem dX10_lot_30 : decode cX10_lot 30 = .ok (.iload_n 1, 1) := by decide +kernel
theorem dX10_lot_31 : decode cX10_lot 31 = .ok (.iload_n 2, 1) := by decide +kernel
theorem dX10_lot_32 : decode cX10_lot 32 = .ok (.isub, 1) := by decide +kernel
theorem dX10_lot_33 : decode cX10_lot 33 = .ok (.imul, 1) := by decide +kernel
theorem dX10_lot_34 : decode cX10_lot 34 = .ok (.istore_n 3, 1) := by decide +kernel
theorem dX10_lot_35 : decode cX10_lot 35 = .ok (.iconst 4, 1) := by decide +kernel
theorem dX10_lot_36 : decode cX10_lot 36 = .ok (.iload_n 1, 1) := by decide +kernel
theorem dX10_lot_37 : decode cX10_lot 37 = .ok (.sipush 1000, 3) := by decide +kernel
theorem dX10_lot_40 : decode cX10_lot 40 = .ok (.iload_n 1, 1) := by decide +kernel
theorem dX10_lot_41 : decode cX10_lot 41 = .ok (.isub, 1) := by decide +kernel
theorem dX10_lot_42 : decode cX10_lot 42 = .ok (.imul, 1) := by decide +kernel
theorem dX10_lot_43 : decode cX10_lot 43 = .ok (.iload_n 2, 1) := by decide +kernel
theorem dX10_lot_44 : decode cX10_lot 44 = .ok (.sipush 1000, 3) := by decide +kernel
theorem dX10_lot_47 : decode cX10_lot 47 = .ok (.iload_n 2, 1) := by decide +kernel
theorem dX10_lot_48 : decode cX10_lot 48 = .ok (.isub, 1) := by decide +kernel
theorem dX10_lot_49 : decode cX10_lot 49 = .ok (.imul, 1) := by decide +kernel
theorem dX10_lot_50 : decode cX10_lot 50 = .ok (.iadd, 1) := by decide +kernel
theorem dX10_lot_51 : decode cX10_lot 51 = .ok (.imul, 1) := by decide +kernel
theorem dX10_lot_52 : decode cX10_lot 52 = .ok (.istore 4, 2) := by decide +kernel
theorem dX10_lot_54 : decode cX10_lot 54 = .ok (.iload 4, 2) := by decide +kernel
theorem dX10_lot_56 : decode cX10_lot 56 = .ok (.ifCond .ne 5, 3) := by decide +kernel
theorem dX10_lot_59 : decode cX10_lot 59 = .ok (.iconst 1, 1) := by decide +kernel
theorem dX10_lot_60 : decode cX10_lot 60 = .ok (.ireturn, 1) := by decide +kernel
theorem dX10_lot_61 : decode cX10_lot 61 = .ok (.iload_n 3, 1) := by decide +kernel
theorem dX10_lot_62 : decode cX10_lot 62 = .ok (.ifCond .ne 5, 3) := by decide +kernel
theorem dX10_lot_65 : decode cX10_lot 65 = .ok (.iconst (-1), 1) := by decide +kernel
theorem dX10_lot_66 : decode cX10_lot 66 = .ok (.ireturn, 1) := by decide +kernel
theorem dX10_lot_67 : decode cX10_lot 67 = .ok (.iload 4, 2) := by decide +kernel
theorem dX10_lot_69 : decode cX10_lot 69 = .ok (.iload_n 3, 1) := by decide +kernel
theorem dX10_lot_70 : decode cX10_lot 70 = .ok (.iadd, 1) := by decide +kernel
theorem dX10_lot_71 : decode cX10_lot 71 = .ok (.iconst 1, 1) := by decide +kernel
theorem dX10_lot_72 : decode cX10_lot 72 = .ok (.isub, 1) := by decide +kernel
theorem dX10_lot_73 : decode cX10_lot 73 = .ok (.iload_n 3, 1) := by decide +kernel
theorem dX10_lot_74 : decode cX10_lot 74 = .ok (.idiv, 1) := by decide +kernel
theorem dX10_lot_75 : decode cX10_lot 75 = .ok (.istore 5, 2) := by decide +kernel
theorem dX10_lot_77 : decode cX10_lot 77 = .ok (.iload 5, 2) := by decide +kernel
theorem dX10_lot_79 : decode cX10_lot 79 = .ok (.sipush 9999, 3) := by decide +kernel
theorem dX10_lot_82 : decode cX10_lot 82 = .ok (.if_icmp .gt 8, 3) := by decide +kernel
theorem dX10_lot_85 : decode cX10_lot 85 = .ok (.iload 5, 2) := by decide +kernel
theorem dX10_lot_87 : decode cX10_lot 87 = .ok (.goto 4, 3) := by decide +kernel
theorem dX10_lot_90 : decode cX10_lot 90 = .ok (.iconst (-1), 1) := by decide +kernel
theorem dX10_lot_91 : decode cX10_lot 91 = .ok (.ireturn, 1) := by decide +kernel
theorem dX10_shown_0 : decode cX10_shown 0 = .ok (.iload_n 2, 1) := by decide +kernel
theorem dX10_shown_1 : decode cX10_shown 1 = .ok (.iconst 1, 1) := by decide +kernel
theorem dX10_shown_2 : decode cX10_shown 2 = .ok (.if_icmp .lt 41, 3) := by decide +kernel
theorem dX10_shown_5 : decode cX10_shown 5 = .ok (.iload_n 2, 1) := by decide +kernel
theorem dX10_shown_6 : decode cX10_shown 6 = .ok (.sipush 300, 3) := by decide +kernel
theorem dX10_shown_9 : decode cX10_shown 9 = .ok (.if_icmp .gt 34, 3) := by decide +kernel
theorem dX10_shown_12 : decode cX10_shown 12 = .ok (.iload 4, 2) := by decide +kernel
theorem dX10_shown_14 : decode cX10_shown 14 = .ok (.iconst 1, 1) := by decide +kernel
theorem dX10_shown_15 : decode cX10_shown 15 = .ok (.if_icmp .lt 28, 3) := by decide +kernel
theorem dX10_shown_18 : decode cX10_shown 18 = .ok (.iload 4, 2) := by decide +kernel
theorem dX10_shown_20 : decode cX10_shown 20 = .ok (.sipush 300, 3) := by decide +kernel
theorem dX10_shown_23 : decode cX10_shown 23 = .ok (.if_icmp .gt 20, 3) := by decide +kernel
theorem dX10_shown_26 : decode cX10_shown 26 = .ok (.iload_n 1, 1) := by decide +kernel
theorem dX10_shown_27 : decode cX10_shown 27 = .ok (.iload_n 2, 1) := by decide +kernel
theorem dX10_shown_28 : decode cX10_shown 28 = .ok (.invokestatic 302, 3) := by decide +kernel
theorem dX10_shown_31 : decode cX10_shown 31 = .ok (.ifCond .eq 12, 3) := by decide +kernel
theorem dX10_shown_34 : decode cX10_shown 34 = .ok (.iload_n 3, 1) := by decide +kernel
theorem dX10_shown_35 : decode cX10_shown 35 = .ok (.iload 4, 2) := by decide +kernel
theorem dX10_shown_37 : decode cX10_shown 37 = .ok (.invokestatic 302, 3) := by decide +kernel
theorem dX10_shown_40 : decode cX10_shown 40 = .ok (.ifCond .ne 10, 3) := by decide +kernel
theorem dX10_shown_43 : decode cX10_shown 43 = .ok (.aload_n 0, 1) := by decide +kernel
theorem dX10_shown_44 : decode cX10_shown 44 = .ok (.bipush (-3), 2) := by decide +kernel
theorem dX10_shown_46 : decode cX10_shown 46 = .ok (.invokevirtual 97, 3) := by decide +kernel
theorem dX10_shown_49 : decode cX10_shown 49 = .ok (.ireturn, 1) := by decide +kernel
theorem dX10_shown_50 : decode cX10_shown 50 = .ok (.iload_n 1, 1) := by decide +kernel
theorem dX10_shown_51 : decode cX10_shown 51 = .ok (.i2l, 1) := by decide +kernel
theorem dX10_shown_52 : decode cX10_shown 52 = .ok (.iload 4, 2) := by decide +kernel
theorem dX10_shown_54 : decode cX10_shown 54 = .ok (.i2l, 1) := by decide +kernel
theorem dX10_shown_55 : decode cX10_shown 55 = .ok (.lmul, 1) := by decide +kernel
theorem dX10_shown_56 : decode cX10_shown 56 = .ok (.iload_n 3, 1) := by decide +kernel
theorem dX10_shown_57 : decode cX10_shown 57 = .ok (.i2l, 1) := by decide +kernel
theorem dX10_shown_58 : decode cX10_shown 58 = .ok (.iload_n 2, 1) := by decide +kernel
theorem dX10_shown_59 : decode cX10_shown 59 = .ok (.i2l, 1) := by decide +kernel
theorem dX10_shown_60 : decode cX10_shown 60 = .ok (.lmul, 1) := by decide +kernel
theorem dX10_shown_61 : decode cX10_shown 61 = .ok (.lsub, 1) := by decide +kernel
theorem dX10_shown_62 : decode cX10_shown 62 = .ok (.lstore 5, 2) := by decide +kernel
theorem dX10_shown_64 : decode cX10_shown 64 = .ok (.iload_n 1, 1) := by decide +kernel
theorem dX10_shown_65 : decode cX10_shown 65 = .ok (.i2l, 1) := by decide +kernel
theorem dX10_shown_66 : decode cX10_shown 66 = .ok (.iload_n 2, 1) := by decide +kernel
theorem dX10_shown_67 : decode cX10_shown 67 = .ok (.iload_n 1, 1) := by decide +kernel
theorem dX10_shown_68 : decode cX10_shown 68 = .ok (.isub, 1) := by decide +kernel
theorem dX10_shown_69 : decode cX10_shown 69 = .ok (.i2l, 1) := by decide +kernel
theorem dX10_shown_70 : decode cX10_shown 70 = .ok (.lmul, 1) := by decide +kernel
theorem dX10_shown_71 : decode cX10_shown 71 = .ok (.iload 4, 2) := by decide +kernel
theorem dX10_shown_73 : decode cX10_shown 73 = .ok (.i2l, 1) := by decide +kernel
theorem dX10_shown_74 : decode cX10_shown 74 = .ok (.lmul, 1) := by decide +kernel
theorem dX10_shown_75 : decode cX10_shown 75 = .ok (.iload 4, 2) := by decide +kernel
theorem dX10_shown_77 : decode cX10_shown 77 = .ok (.i2l, 1) := by decide +kernel
theorem dX10_shown_78 : decode cX10_shown 78 = .ok (.lmul, 1) := by decide +kernel
theorem dX10_shown_79 : decode cX10_shown 79 = .ok (.iload 4, 2) := by decide +kernel
theorem dX10_shown_81 : decode cX10_shown 81 = .ok (.i2l, 1) := by decide +kernel
theorem dX10_shown_82 : decode cX10_shown 82 = .ok (.lmul, 1) := by decide +kernel
theorem dX10_shown_83 : decode cX10_shown 83 = .ok (.iload_n 3, 1) := by decide +kernel
theorem dX10_shown_84 : decode cX10_shown 84 = .ok (.i2l, 1) := by decide +kernel
theorem dX10_shown_85 : decode cX10_shown 85 = .ok (.iload 4, 2) := by decide +kernel
theorem dX10_shown_87 : decode cX10_shown 87 = .ok (.iload_n 3, 1) := by decide +kernel
theorem dX10_shown_88 : decode cX10_shown 88 = .ok (.isub, 1) := by decide +kernel
theorem dX10_shown_89 : decode cX10_shown 89 = .ok (.i2l, 1) := by decide +kernel
theorem dX10_shown_90 : decode cX10_shown 90 = .ok (.lmul, 1) := by decide +kernel
theorem dX10_shown_91 : decode cX10_shown 91 = .ok (.iload_n 2, 1) := by decide +kernel
theorem dX10_shown_92 : decode cX10_shown 92 = .ok (.i2l, 1) := by decide +kernel
theorem dX10_shown_93 : decode cX10_shown 93 = .ok (.lmul, 1) := by decide +kernel
theorem dX10_shown_94 : decode cX10_shown 94 = .ok (.iload_n 2, 1) := by decide +kernel
theorem dX10_shown_95 : decode cX10_shown 95 = .ok (.i2l, 1) := by decide +kernel
theorem dX10_shown_96 : decode cX10_shown 96 = .ok (.lmul, 1) := by decide +kernel
theorem dX10_shown_97 : decode cX10_shown 97 = .ok (.iload_n 2, 1) := by decide +kernel
theorem dX10_shown_98 : decode cX10_shown 98 = .ok (.i2l, 1) := by decide +kernel
theorem dX10_shown_99 : decode cX10_shown 99 = .ok (.lmul, 1) := by decide +kernel
theorem dX10_shown_100 : decode cX10_shown 100 = .ok (.ladd, 1) := by decide +kernel
theorem dX10_shown_101 : decode cX10_shown 101 = .ok (.lstore 7, 2) := by decide +kernel
theorem dX10_shown_103 : decode cX10_shown 103 = .ok (.lload 5, 2) := by decide +kernel
theorem dX10_shown_105 : decode cX10_shown 105 = .ok (.lconst 0, 1) := by decide +kernel
theorem dX10_shown_106 : decode cX10_shown 106 = .ok (.lcmp, 1) := by decide +kernel
theorem dX10_shown_107 : decode cX10_shown 107 = .ok (.ifCond .eq 29, 3) := by decide +kernel
theorem dX10_shown_110 : decode cX10_shown 110 = .ok (.lload 5, 2) := by decide +kernel
theorem dX10_shown_112 : decode cX10_shown 112 = .ok (.lload 5, 2) := by decide +kernel
theorem dX10_shown_114 : decode cX10_shown 114 = .ok (.lmul, 1) := by decide +kernel
theorem dX10_shown_115 : decode cX10_shown 115 = .ok (.iload_n 2, 1) := by decide +kernel
theorem dX10_shown_116 : decode cX10_shown 116 = .ok (.i2l, 1) := by decide +kernel
theorem dX10_shown_117 : decode cX10_shown 117 = .ok (.lmul, 1) := by decide +kernel
theorem dX10_shown_118 : decode cX10_shown 118 = .ok (.iload 4, 2) := by decide +kernel
theorem dX10_shown_120 : decode cX10_shown 120 = .ok (.i2l, 1) := by decide +kernel
theorem dX10_shown_121 : decode cX10_shown 121 = .ok (.lmul, 1) := by decide +kernel
theorem dX10_shown_122 : decode cX10_shown 122 = .ok (.ldc2_w 387, 3) := by decide +kernel
theorem dX10_shown_125 : decode cX10_shown 125 = .ok (.lload 7, 2) := by decide +kernel
theorem dX10_shown_127 : decode cX10_shown 127 = .ok (.lmul, 1) := by decide +kernel
theorem dX10_shown_128 : decode cX10_shown 128 = .ok (.lcmp, 1) := by decide +kernel
theorem dX10_shown_129 : decode cX10_shown 129 = .ok (.ifCond .lt 7, 3) := by decide +kernel
theorem dX10_shown_132 : decode cX10_shown 132 = .ok (.iconst 1, 1) := by decide +kernel
theorem dX10_shown_133 : decode cX10_shown 133 = .ok (.goto 4, 3) := by decide +kernel
theorem dX10_shown_136 : decode cX10_shown 136 = .ok (.iconst 0, 1) := by decide +kernel
theorem dX10_shown_137 : decode cX10_shown 137 = .ok (.ireturn, 1) := by decide +kernel
theorem dX10_clumps_0 : decode cX10_clumps 0 = .ok (.iload_n 1, 1) := by decide +kernel
theorem dX10_clumps_1 : decode cX10_clumps 1 = .ok (.invokestatic 389, 3) := by decide +kernel
theorem dX10_clumps_4 : decode cX10_clumps 4 = .ok (.ifCond .eq 14, 3) := by decide +kernel
theorem dX10_clumps_7 : decode cX10_clumps 7 = .ok (.iload 4, 2) := by decide +kernel
theorem dX10_clumps_9 : decode cX10_clumps 9 = .ok (.ifCond .lt 9, 3) := by decide +kernel
theorem dX10_clumps_12 : decode cX10_clumps 12 = .ok (.iload 4, 2) := by decide +kernel
theorem dX10_clumps_14 : decode cX10_clumps 14 = .ok (.iconst 2, 1) := by decide +kernel
theorem dX10_clumps_15 : decode cX10_clumps 15 = .ok (.if_icmp .le 10, 3) := by decide +kernel
theorem dX10_clumps_18 : decode cX10_clumps 18 = .ok (.aload_n 0, 1) := by decide +kernel
theorem dX10_clumps_19 : decode cX10_clumps 19 = .ok (.bipush (-2), 2) := by decide +kernel
theorem dX10_clumps_21 : decode cX10_clumps 21 = .ok (.invokevirtual 97, 3) := by decide +kernel
theorem dX10_clumps_24 : decode cX10_clumps 24 = .ok (.ireturn, 1) := by decide +kernel
theorem dX10_clumps_25 : decode cX10_clumps 25 = .ok (.aload_n 0, 1) := by decide +kernel
theorem dX10_clumps_26 : decode cX10_clumps 26 = .ok (.getfield 81, 3) := by decide +kernel
theorem dX10_clumps_29 : decode cX10_clumps 29 = .ok (.iload_n 1, 1) := by decide +kernel
theorem dX10_clumps_30 : decode cX10_clumps 30 = .ok (.aaload, 1) := by decide +kernel
theorem dX10_clumps_31 : decode cX10_clumps 31 = .ok (.getfield 392, 3) := by decide +kernel
theorem dX10_clumps_34 : decode cX10_clumps 34 = .ok (.ifCond .ne 10, 3) := by decide +kernel
theorem dX10_clumps_37 : decode cX10_clumps 37 = .ok (.aload_n 0, 1) := by decide +kernel
theorem dX10_clumps_38 : decode cX10_clumps 38 = .ok (.bipush (-6), 2) := by decide +kernel
theorem dX10_clumps_40 : decode cX10_clumps 40 = .ok (.invokevirtual 97, 3) := by decide +kernel
theorem dX10_clumps_43 : decode cX10_clumps 43 = .ok (.ireturn, 1) := by decide +kernel
theorem dX10_clumps_44 : decode cX10_clumps 44 = .ok (.aload_n 0, 1) := by decide +kernel
theorem dX10_clumps_45 : decode cX10_clumps 45 = .ok (.getfield 81, 3) := by decide +kernel
theorem dX10_clumps_48 : decode cX10_clumps 48 = .ok (.iload_n 1, 1) := by decide +kernel
theorem dX10_clumps_49 : decode cX10_clumps 49 = .ok (.aaload, 1) := by decide +kernel
theorem dX10_clumps_50 : decode cX10_clumps 50 = .ok (.ldc2_w 395, 3) := by decide +kernel
theorem dX10_clumps_53 : decode cX10_clumps 53 = .ok (.invokevirtual 397, 3) := by decide +kernel
theorem dX10_clumps_56 : decode cX10_clumps 56 = .ok (.ifCond .eq 25, 3) := by decide +kernel
theorem dX10_clumps_59 : decode cX10_clumps 59 = .ok (.iload_n 2, 1) := by decide +kernel
theorem dX10_clumps_60 : decode cX10_clumps 60 = .ok (.iconst 2, 1) := by decide +kernel
theorem dX10_clumps_61 : decode cX10_clumps 61 = .ok (.if_icmp .lt 20, 3) := by decide +kernel
theorem dX10_clumps_64 : decode cX10_clumps 64 = .ok (.iload_n 2, 1) := by decide +kernel
theorem dX10_clumps_65 : decode cX10_clumps 65 = .ok (.sipush 999, 3) := by decide +kernel
theorem dX10_clumps_68 : decode cX10_clumps 68 = .ok (.if_icmp .gt 13, 3) := by decide +kernel
theorem dX10_clumps_71 : decode cX10_clumps 71 = .ok (.iload_n 3, 1) := by decide +kernel
theorem dX10_clumps_72 : decode cX10_clumps 72 = .ok (.iconst 1, 1) := by decide +kernel
theorem dX10_clumps_73 : decode cX10_clumps 73 = .ok (.if_icmp .lt 8, 3) := by decide +kernel
theorem dX10_clumps_76 : decode cX10_clumps 76 = .ok (.iload_n 3, 1) := by decide +kernel
theorem dX10_clumps_77 : decode cX10_clumps 77 = .ok (.iload_n 2, 1) := by decide +kernel
theorem dX10_clumps_78 : decode cX10_clumps 78 = .ok (.if_icmp .lt 10, 3) := by decide +kernel
theorem dX10_clumps_81 : decode cX10_clumps 81 = .ok (.aload_n 0, 1) := by decide +kernel
theorem dX10_clumps_82 : decode cX10_clumps 82 = .ok (.bipush (-3), 2) := by decide +kernel
theorem dX10_clumps_84 : decode cX10_clumps 84 = .ok (.invokevirtual 97, 3) := by decide +kernel
theorem dX10_clumps_87 : decode cX10_clumps 87 = .ok (.ireturn, 1) := by decide +kernel
theorem dX10_clumps_88 : decode cX10_clumps 88 = .ok (.aload_n 0, 1) := by decide +kernel
theorem dX10_clumps_89 : decode cX10_clumps 89 = .ok (.getfield 81, 3) := by decide +kernel
theorem dX10_clumps_92 : decode cX10_clumps 92 = .ok (.iload_n 1, 1) := by decide +kernel
theorem dX10_clumps_93 : decode cX10_clumps 93 = .ok (.aaload, 1) := by decide +kernel
theorem dX10_clumps_94 : decode cX10_clumps 94 = .ok (.getfield 400, 3) := by decide +kernel
theorem dX10_clumps_97 : decode cX10_clumps 97 = .ok (.istore 5, 2) := by decide +kernel
theorem dX10_clumps_99 : decode cX10_clumps 99 = .ok (.iconst 0, 1) := by decide +kernel
theorem dX10_clumps_100 : decode cX10_clumps 100 = .ok (.istore 6, 2) := by decide +kernel
theorem dX10_clumps_102 : decode cX10_clumps 102 = .ok (.iconst 0, 1) := by decide +kernel
theorem dX10_clumps_103 : decode cX10_clumps 103 = .ok (.istore 7, 2) := by decide +kernel
theorem dX10_clumps_105 : decode cX10_clumps 105 = .ok (.iload 7, 2) := by decide +kernel
theorem dX10_clumps_107 : decode cX10_clumps 107 = .ok (.iload 5, 2) := by decide +kernel
theorem dX10_clumps_109 : decode cX10_clumps 109 = .ok (.if_icmp .ge 63, 3) := by decide +kernel
theorem dX10_clumps_112 : decode cX10_clumps 112 = .ok (.aload_n 0, 1) := by decide +kernel
theorem dX10_clumps_113 : decode cX10_clumps 113 = .ok (.getfield 81, 3) := by decide +kernel
theorem dX10_clumps_116 : decode cX10_clumps 116 = .ok (.iload_n 1, 1) := by decide +kernel
theorem dX10_clumps_117 : decode cX10_clumps 117 = .ok (.aaload, 1) := by decide +kernel
theorem dX10_clumps_118 : decode cX10_clumps 118 = .ok (.getfield 401, 3) := by decide +kernel
theorem dX10_clumps_121 : decode cX10_clumps 121 = .ok (.iload 7, 2) := by decide +kernel
theorem dX10_clumps_123 : decode cX10_clumps 123 = .ok (.laload, 1) := by decide +kernel
theorem dX10_clumps_124 : decode cX10_clumps 124 = .ok (.l2i, 1) := by decide +kernel
theorem dX10_clumps_125 : decode cX10_clumps 125 = .ok (.istore 8, 2) := by decide +kernel
theorem dX10_clumps_127 : decode cX10_clumps 127 = .ok (.iload 8, 2) := by decide +kernel
theorem dX10_clumps_129 : decode cX10_clumps 129 = .ok (.iload_n 2, 1) := by decide +kernel
theorem dX10_clumps_130 : decode cX10_clumps 130 = .ok (.irem, 1) := by decide +kernel
theorem dX10_clumps_131 : decode cX10_clumps 131 = .ok (.iload_n 3, 1) := by decide +kernel
theorem dX10_clumps_132 : decode cX10_clumps 132 = .ok (.if_icmp .ge 7, 3) := by decide +kernel
theorem dX10_clumps_135 : decode cX10_clumps 135 = .ok (.iconst 0, 1) := by decide +kernel
theorem dX10_clumps_136 : decode cX10_clumps 136 = .ok (.goto 9, 3) := by decide +kernel
theorem dX10_clumps_139 : decode cX10_clumps 139 = .ok (.iload_n 2, 1) := by decide +kernel
theorem dX10_clumps_140 : decode cX10_clumps 140 = .ok (.iload 8, 2) := by decide +kernel
theorem dX10_clumps_142 : decode cX10_clumps 142 = .ok (.iload_n 2, 1) := by decide +kernel
theorem dX10_clumps_143 : decode cX10_clumps 143 = .ok (.irem, 1) := by decide +kernel
theorem dX10_clumps_144 : decode cX10_clumps 144 = .ok (.isub, 1) := by decide +kernel
theorem dX10_clumps_145 : decode cX10_clumps 145 = .ok (.istore 9, 2) := by decide +kernel
theorem dX10_clumps_147 : decode cX10_clumps 147 = .ok (.aload_n 0, 1) := by decide +kernel
theorem dX10_clumps_148 : decode cX10_clumps 148 = .ok (.getfield 85, 3) := by decide +kernel
theorem dX10_clumps_151 : decode cX10_clumps 151 = .ok (.iload 7, 2) := by decide +kernel
theorem dX10_clumps_153 : decode cX10_clumps 153 = .ok (.iload 8, 2) := by decide +kernel
theorem dX10_clumps_155 : decode cX10_clumps 155 = .ok (.iload 9, 2) := by decide +kernel
theorem dX10_clumps_157 : decode cX10_clumps 157 = .ok (.iadd, 1) := by decide +kernel
theorem dX10_clumps_158 : decode cX10_clumps 158 = .ok (.iastore, 1) := by decide +kernel
theorem dX10_clumps_159 : decode cX10_clumps 159 = .ok (.iload 6, 2) := by decide +kernel
theorem dX10_clumps_161 : decode cX10_clumps 161 = .ok (.iload 9, 2) := by decide +kernel
theorem dX10_clumps_163 : decode cX10_clumps 163 = .ok (.iadd, 1) := by decide +kernel
theorem dX10_clumps_164 : decode cX10_clumps 164 = .ok (.istore 6, 2) := by decide +kernel
theorem dX10_clumps_166 : decode cX10_clumps 166 = .ok (.iinc 7 1, 3) := by decide +kernel
theorem dX10_clumps_169 : decode cX10_clumps 169 = .ok (.goto (-64), 3) := by decide +kernel
theorem dX10_clumps_172 : decode cX10_clumps 172 = .ok (.iload 4, 2) := by decide +kernel
theorem dX10_clumps_174 : decode cX10_clumps 174 = .ok (.ifCond .ne 6, 3) := by decide +kernel
theorem dX10_clumps_177 : decode cX10_clumps 177 = .ok (.iload 6, 2) := by decide +kernel
theorem dX10_clumps_179 : decode cX10_clumps 179 = .ok (.ireturn, 1) := by decide +kernel
theorem dX10_clumps_180 : decode cX10_clumps 180 = .ok (.iload 4, 2) := by decide +kernel
theorem dX10_clumps_182 : decode cX10_clumps 182 = .ok (.iconst 1, 1) := by decide +kernel
theorem dX10_clumps_183 : decode cX10_clumps 183 = .ok (.if_icmp .ne 12, 3) := by decide +kernel
theorem dX10_clumps_186 : decode cX10_clumps 186 = .ok (.aload_n 0, 1) := by decide +kernel
theorem dX10_clumps_187 : decode cX10_clumps 187 = .ok (.iload 5, 2) := by decide +kernel
theorem dX10_clumps_189 : decode cX10_clumps 189 = .ok (.invokevirtual 404, 3) := by decide +kernel
theorem dX10_clumps_192 : decode cX10_clumps 192 = .ok (.goto 9, 3) := by decide +kernel
theorem dX10_clumps_195 : decode cX10_clumps 195 = .ok (.aload_n 0, 1) := by decide +kernel
theorem dX10_clumps_196 : decode cX10_clumps 196 = .ok (.iload 5, 2) := by decide +kernel
theorem dX10_clumps_198 : decode cX10_clumps 198 = .ok (.invokevirtual 407, 3) := by decide +kernel
theorem dX10_clumps_201 : decode cX10_clumps 201 = .ok (.ireturn, 1) := by decide +kernel
theorem dX10_lamp_0 : decode cX10_lamp 0 = .ok (.iload_n 3, 1) := by decide +kernel
theorem dX10_lamp_1 : decode cX10_lamp 1 = .ok (.ifCond .lt 8, 3) := by decide +kernel
theorem dX10_lamp_4 : decode cX10_lamp 4 = .ok (.iload_n 3, 1) := by decide +kernel
theorem dX10_lamp_5 : decode cX10_lamp 5 = .ok (.iconst 1, 1) := by decide +kernel
theorem dX10_lamp_6 : decode cX10_lamp 6 = .ok (.if_icmp .le 10, 3) := by decide +kernel
theorem dX10_lamp_9 : decode cX10_lamp 9 = .ok (.aload_n 0, 1) := by decide +kernel
theorem dX10_lamp_10 : decode cX10_lamp 10 = .ok (.bipush (-2), 2) := by decide +kernel
theorem dX10_lamp_12 : decode cX10_lamp 12 = .ok (.invokevirtual 97, 3) := by decide +kernel
theorem dX10_lamp_15 : decode cX10_lamp 15 = .ok (.ireturn, 1) := by decide +kernel
theorem dX10_lamp_16 : decode cX10_lamp 16 = .ok (.iload_n 1, 1) := by decide +kernel
theorem dX10_lamp_17 : decode cX10_lamp 17 = .ok (.sipush 999, 3) := by decide +kernel
theorem dX10_lamp_20 : decode cX10_lamp 20 = .ok (.invokestatic 302, 3) := by decide +kernel
theorem dX10_lamp_23 : decode cX10_lamp 23 = .ok (.ifCond .eq 13, 3) := by decide +kernel
theorem dX10_lamp_26 : decode cX10_lamp 26 = .ok (.iload_n 2, 1) := by decide +kernel
theorem dX10_lamp_27 : decode cX10_lamp 27 = .ok (.sipush 999, 3) := by decide +kernel
theorem dX10_lamp_30 : decode cX10_lamp 30 = .ok (.invokestatic 302, 3) := by decide +kernel
theorem dX10_lamp_33 : decode cX10_lamp 33 = .ok (.ifCond .ne 10, 3) := by decide +kernel
theorem dX10_lamp_36 : decode cX10_lamp 36 = .ok (.aload_n 0, 1) := by decide +kernel
theorem dX10_lamp_37 : decode cX10_lamp 37 = .ok (.bipush (-3), 2) := by decide +kernel
theorem dX10_lamp_39 : decode cX10_lamp 39 = .ok (.invokevirtual 97, 3) := by decide +kernel
theorem dX10_lamp_42 : decode cX10_lamp 42 = .ok (.ireturn, 1) := by decide +kernel
theorem dX10_lamp_43 : decode cX10_lamp 43 = .ok (.iconst 0, 1) := by decide +kernel
theorem dX10_lamp_44 : decode cX10_lamp 44 = .ok (.istore 4, 2) := by decide +kernel
theorem dX10_lamp_46 : decode cX10_lamp 46 = .ok (.iconst 0, 1) := by decide +kernel
theorem dX10_lamp_47 : decode cX10_lamp 47 = .ok (.istore 5, 2) := by decide +kernel
theorem dX10_lamp_49 : decode cX10_lamp 49 = .ok (.lconst 0, 1) := by decide +kernel
theorem dX10_lamp_50 : decode cX10_lamp 50 = .ok (.lstore 6, 2) := by decide +kernel
theorem dX10_lamp_52 : decode cX10_lamp 52 = .ok (.bipush 20, 2) := by decide +kernel
theorem dX10_lamp_54 : decode cX10_lamp 54 = .ok (.istore 8, 2) := by decide +kernel
theorem dX10_lamp_56 : decode cX10_lamp 56 = .ok (.iload 8, 2) := by decide +kernel
theorem dX10_lamp_58 : decode cX10_lamp 58 = .ok (.bipush 120, 2) := by decide +kernel
theorem dX10_lamp_60 : decode cX10_lamp 60 = .ok (.if_icmp .gt 85, 3) := by decide +kernel
theorem dX10_lamp_63 : decode cX10_lamp 63 = .ok (.iconst 5, 1) := by decide +kernel
theorem dX10_lamp_64 : decode cX10_lamp 64 = .ok (.istore 9, 2) := by decide +kernel
theorem dX10_lamp_66 : decode cX10_lamp 66 = .ok (.iload 9, 2) := by decide +kernel
theorem dX10_lamp_68 : decode cX10_lamp 68 = .ok (.iload 8, 2) := by decide +kernel
theorem dX10_lamp_70 : decode cX10_lamp 70 = .ok (.bipush 10, 2) := by decide +kernel
theorem dX10_lamp_72 : decode cX10_lamp 72 = .ok (.isub, 1) := by decide +kernel
theorem dX10_lamp_73 : decode cX10_lamp 73 = .ok (.if_icmp .gt 66, 3) := by decide +kernel
theorem dX10_lamp_76 : decode cX10_lamp 76 = .ok (.iload_n 1, 1) := by decide +kernel
theorem dX10_lamp_77 : decode cX10_lamp 77 = .ok (.iload 9, 2) := by decide +kernel
theorem dX10_lamp_79 : decode cX10_lamp 79 = .ok (.imul, 1) := by decide +kernel
theorem dX10_lamp_80 : decode cX10_lamp 80 = .ok (.iload 9, 2) := by decide +kernel
theorem dX10_lamp_82 : decode cX10_lamp 82 = .ok (.imul, 1) := by decide +kernel
theorem dX10_lamp_83 : decode cX10_lamp 83 = .ok (.iload_n 2, 1) := by decide +kernel
theorem dX10_lamp_84 : decode cX10_lamp 84 = .ok (.iload 8, 2) := by decide +kernel
theorem dX10_lamp_86 : decode cX10_lamp 86 = .ok (.iload 9, 2) := by decide +kernel
theorem dX10_lamp_88 : decode cX10_lamp 88 = .ok (.isub, 1) := by decide +kernel
theorem dX10_lamp_89 : decode cX10_lamp 89 = .ok (.imul, 1) := by decide +kernel
theorem dX10_lamp_90 : decode cX10_lamp 90 = .ok (.iload 8, 2) := by decide +kernel
theorem dX10_lamp_92 : decode cX10_lamp 92 = .ok (.iload 9, 2) := by decide +kernel
theorem dX10_lamp_94 : decode cX10_lamp 94 = .ok (.isub, 1) := by decide +kernel
theorem dX10_lamp_95 : decode cX10_lamp 95 = .ok (.imul, 1) := by decide +kernel
theorem dX10_lamp_96 : decode cX10_lamp 96 = .ok (.iadd, 1) := by decide +kernel
theorem dX10_lamp_97 : decode cX10_lamp 97 = .ok (.i2l, 1) := by decide +kernel
theorem dX10_lamp_98 : decode cX10_lamp 98 = .ok (.lstore 10, 2) := by decide +kernel
theorem dX10_lamp_100 : decode cX10_lamp 100 = .ok (.iload 4, 2) := by decide +kernel
theorem dX10_lamp_102 : decode cX10_lamp 102 = .ok (.ifCond .eq 19, 3) := by decide +kernel
theorem dX10_lamp_105 : decode cX10_lamp 105 = .ok (.lload 10, 2) := by decide +kernel
theorem dX10_lamp_107 : decode cX10_lamp 107 = .ok (.iload 4, 2) := by decide +kernel
theorem dX10_lamp_109 : decode cX10_lamp 109 = .ok (.i2l, 1) := by decide +kernel
theorem dX10_lamp_110 : decode cX10_lamp 110 = .ok (.lmul, 1) := by decide +kernel
theorem dX10_lamp_111 : decode cX10_lamp 111 = .ok (.lload 6, 2) := by decide +kernel
theorem dX10_lamp_113 : decode cX10_lamp 113 = .ok (.iload 8, 2) := by decide +kernel
theorem dX10_lamp_115 : decode cX10_lamp 115 = .ok (.i2l, 1) := by decide +kernel
theorem dX10_lamp_116 : decode cX10_lamp 116 = .ok (.lmul, 1) := by decide +kernel
theorem dX10_lamp_117 : decode cX10_lamp 117 = .ok (.lcmp, 1) := by decide +kernel
theorem dX10_lamp_118 : decode cX10_lamp 118 = .ok (.ifCond .ge 15, 3) := by decide +kernel
theorem dX10_lamp_121 : decode cX10_lamp 121 = .ok (.iload 8, 2) := by decide +kernel
theorem dX10_lamp_123 : decode cX10_lamp 123 = .ok (.istore 4, 2) := by decide +kernel
theorem dX10_lamp_125 : decode cX10_lamp 125 = .ok (.iload 9, 2) := by decide +kernel
theorem dX10_lamp_127 : decode cX10_lamp 127 = .ok (.istore 5, 2) := by decide +kernel
theorem dX10_lamp_129 : decode cX10_lamp 129 = .ok (.lload 10, 2) := by decide +kernel
theorem dX10_lamp_131 : decode cX10_lamp 131 = .ok (.lstore 6, 2) := by decide +kernel
theorem dX10_lamp_133 : decode cX10_lamp 133 = .ok (.iinc 9 1, 3) := by decide +kernel
theorem dX10_lamp_136 : decode cX10_lamp 136 = .ok (.goto (-70), 3) := by decide +kernel
theorem dX10_lamp_139 : decode cX10_lamp 139 = .ok (.iinc 8 1, 3) := by decide +kernel
theorem dX10_lamp_142 : decode cX10_lamp 142 = .ok (.goto (-86), 3) := by decide +kernel
theorem dX10_lamp_145 : decode cX10_lamp 145 = .ok (.iload_n 3, 1) := by decide +kernel
theorem dX10_lamp_146 : decode cX10_lamp 146 = .ok (.ifCond .ne 8, 3) := by decide +kernel
theorem dX10_lamp_149 : decode cX10_lamp 149 = .ok (.iload 4, 2) := by decide +kernel
theorem dX10_lamp_151 : decode cX10_lamp 151 = .ok (.goto 5, 3) := by decide +kernel
theorem dX10_lamp_154 : decode cX10_lamp 154 = .ok (.iload 5, 2) := by decide +kernel
theorem dX10_lamp_156 : decode cX10_lamp 156 = .ok (.ireturn, 1) := by decide +kernel
theorem dX10_pay_0 : decode cX10_pay 0 = .ok (.iload_n 1, 1) := by decide +kernel
theorem dX10_pay_1 : decode cX10_pay 1 = .ok (.iconst 1, 1) := by decide +kernel
theorem dX10_pay_2 : decode cX10_pay 2 = .ok (.invokestatic 302, 3) := by decide +kernel
theorem dX10_pay_5 : decode cX10_pay 5 = .ok (.ifCond .eq 33, 3) := by decide +kernel
theorem dX10_pay_8 : decode cX10_pay 8 = .ok (.iload_n 2, 1) := by decide +kernel
theorem dX10_pay_9 : decode cX10_pay 9 = .ok (.iconst 1, 1) := by decide +kernel
theorem dX10_pay_10 : decode cX10_pay 10 = .ok (.invokestatic 302, 3) := by decide +kernel
theorem dX10_pay_13 : decode cX10_pay 13 = .ok (.ifCond .eq 25, 3) := by decide +kernel
theorem dX10_pay_16 : decode cX10_pay 16 = .ok (.iload_n 3, 1) := by decide +kernel
theorem dX10_pay_17 : decode cX10_pay 17 = .ok (.iconst 4, 1) := by decide +kernel
theorem dX10_pay_18 : decode cX10_pay 18 = .ok (.invokestatic 302, 3) := by decide +kernel
theorem dX10_pay_21 : decode cX10_pay 21 = .ok (.ifCond .eq 17, 3) := by decide +kernel
theorem dX10_pay_24 : decode cX10_pay 24 = .ok (.iload 4, 2) := by decide +kernel
theorem dX10_pay_26 : decode cX10_pay 26 = .ok (.bipush (-99), 2) := by decide +kernel
theorem dX10_pay_28 : decode cX10_pay 28 = .ok (.if_icmp .lt 10, 3) := by decide +kernel
theorem dX10_pay_31 : decode cX10_pay 31 = .ok (.iload 4, 2) := by decide +kernel
theorem dX10_pay_33 : decode cX10_pay 33 = .ok (.bipush 99, 2) := by decide +kernel
theorem dX10_pay_35 : decode cX10_pay 35 = .ok (.if_icmp .le 11, 3) := by decide +kernel
theorem dX10_pay_38 : decode cX10_pay 38 = .ok (.aload_n 0, 1) := by decide +kernel
theorem dX10_pay_39 : decode cX10_pay 39 = .ok (.sipush (-1000), 3) := by decide +kernel
theorem dX10_pay_42 : decode cX10_pay 42 = .ok (.invokevirtual 199, 3) := by decide +kernel
theorem dX10_pay_45 : decode cX10_pay 45 = .ok (.ireturn, 1) := by decide +kernel
theorem dX10_pay_46 : decode cX10_pay 46 = .ok (.iload_n 1, 1) := by decide +kernel
theorem dX10_pay_47 : decode cX10_pay 47 = .ok (.iload_n 2, 1) := by decide +kernel
theorem dX10_pay_48 : decode cX10_pay 48 = .ok (.iload_n 3, 1) := by decide +kernel
theorem dX10_pay_49 : decode cX10_pay 49 = .ok (.invokestatic 410, 3) := by decide +kernel
theorem dX10_pay_52 : decode cX10_pay 52 = .ok (.istore 5, 2) := by decide +kernel
theorem dX10_pay_54 : decode cX10_pay 54 = .ok (.aload_n 0, 1) := by decide +kernel
theorem dX10_pay_55 : decode cX10_pay 55 = .ok (.getfield 23, 3) := by decide +kernel
theorem dX10_pay_58 : decode cX10_pay 58 = .ok (.getfield 413, 3) := by decide +kernel
theorem dX10_pay_61 : decode cX10_pay 61 = .ok (.iload 5, 2) := by decide +kernel
theorem dX10_pay_63 : decode cX10_pay 63 = .ok (.iaload, 1) := by decide +kernel
theorem dX10_pay_64 : decode cX10_pay 64 = .ok (.istore 6, 2) := by decide +kernel
theorem dX10_pay_66 : decode cX10_pay 66 = .ok (.aload_n 0, 1) := by decide +kernel
theorem dX10_pay_67 : decode cX10_pay 67 = .ok (.getfield 23, 3) := by decide +kernel
theorem dX10_pay_70 : decode cX10_pay 70 = .ok (.getfield 413, 3) := by decide +kernel
theorem dX10_pay_73 : decode cX10_pay 73 = .ok (.iload 5, 2) := by decide +kernel
theorem dX10_pay_75 : decode cX10_pay 75 = .ok (.iload 4, 2) := by decide +kernel
theorem dX10_pay_77 : decode cX10_pay 77 = .ok (.iastore, 1) := by decide +kernel
theorem dX10_pay_78 : decode cX10_pay 78 = .ok (.iload 6, 2) := by decide +kernel
theorem dX10_pay_80 : decode cX10_pay 80 = .ok (.ireturn, 1) := by decide +kernel
theorem dX10_rests_0 : decode cX10_rests 0 = .ok (.iload_n 3, 1) := by decide +kernel
theorem dX10_rests_1 : decode cX10_rests 1 = .ok (.ifCond .lt 8, 3) := by decide +kernel
theorem dX10_rests_4 : decode cX10_rests 4 = .ok (.iload_n 3, 1) := by decide +kernel
theorem dX10_rests_5 : decode cX10_rests 5 = .ok (.iconst 1, 1) := by decide +kernel
theorem dX10_rests_6 : decode cX10_rests 6 = .ok (.if_icmp .le 10, 3) := by decide +kernel
theorem dX10_rests_9 : decode cX10_rests 9 = .ok (.aload_n 0, 1) := by decide +kernel
theorem dX10_rests_10 : decode cX10_rests 10 = .ok (.bipush (-2), 2) := by decide +kernel
theorem dX10_rests_12 : decode cX10_rests 12 = .ok (.invokevirtual 97, 3) := by decide +kernel
theorem dX10_rests_15 : decode cX10_rests 15 = .ok (.ireturn, 1) := by decide +kernel
theorem dX10_rests_16 : decode cX10_rests 16 = .ok (.iload_n 1, 1) := by decide +kernel
theorem dX10_rests_17 : decode cX10_rests 17 = .ok (.iconst 4, 1) := by decide +kernel
theorem dX10_rests_18 : decode cX10_rests 18 = .ok (.invokestatic 302, 3) := by decide +kernel
theorem dX10_rests_21 : decode cX10_rests 21 = .ok (.ifCond .eq 11, 3) := by decide +kernel
theorem dX10_rests_24 : decode cX10_rests 24 = .ok (.iload_n 2, 1) := by decide +kernel
theorem dX10_rests_25 : decode cX10_rests 25 = .ok (.iconst 4, 1) := by decide +kernel
theorem dX10_rests_26 : decode cX10_rests 26 = .ok (.invokestatic 302, 3) := by decide +kernel
theorem dX10_rests_29 : decode cX10_rests 29 = .ok (.ifCond .ne 10, 3) := by decide +kernel
theorem dX10_rests_32 : decode cX10_rests 32 = .ok (.aload_n 0, 1) := by decide +kernel
theorem dX10_rests_33 : decode cX10_rests 33 = .ok (.bipush (-3), 2) := by decide +kernel
theorem dX10_rests_35 : decode cX10_rests 35 = .ok (.invokevirtual 97, 3) := by decide +kernel
theorem dX10_rests_38 : decode cX10_rests 38 = .ok (.ireturn, 1) := by decide +kernel
theorem dX10_rests_39 : decode cX10_rests 39 = .ok (.iconst 0, 1) := by decide +kernel
theorem dX10_rests_40 : decode cX10_rests 40 = .ok (.istore 4, 2) := by decide +kernel
theorem dX10_rests_42 : decode cX10_rests 42 = .ok (.iconst (-1), 1) := by decide +kernel
theorem dX10_rests_43 : decode cX10_rests 43 = .ok (.istore 5, 2) := by decide +kernel
theorem dX10_rests_45 : decode cX10_rests 45 = .ok (.iconst 0, 1) := by decide +kernel
theorem dX10_rests_46 : decode cX10_rests 46 = .ok (.istore 6, 2) := by decide +kernel
theorem dX10_rests_48 : decode cX10_rests 48 = .ok (.iload 6, 2) := by decide +kernel
theorem dX10_rests_50 : decode cX10_rests 50 = .ok (.iload_n 1, 1) := by decide +kernel
theorem dX10_rests_51 : decode cX10_rests 51 = .ok (.if_icmp .gt 80, 3) := by decide +kernel
theorem dX10_rests_54 : decode cX10_rests 54 = .ok (.iconst 0, 1) := by decide +kernel
theorem dX10_rests_55 : decode cX10_rests 55 = .ok (.istore 7, 2) := by decide +kernel
theorem dX10_rests_57 : decode cX10_rests 57 = .ok (.iload 7, 2) := by decide +kernel
theorem dX10_rests_59 : decode cX10_rests 59 = .ok (.iload_n 2, 1) := by decide +kernel
theorem dX10_rests_60 : decode cX10_rests 60 = .ok (.if_icmp .gt 65, 3) := by decide +kernel
theorem dX10_rests_63 : decode cX10_rests 63 = .ok (.aload_n 0, 1) := by decide +kernel
theorem dX10_rests_64 : decode cX10_rests 64 = .ok (.getfield 23, 3) := by decide +kernel
theorem dX10_rests_67 : decode cX10_rests 67 = .ok (.iconst 0, 1) := by decide +kernel
theorem dX10_rests_68 : decode cX10_rests 68 = .ok (.iload 6, 2) := by decide +kernel
theorem dX10_rests_70 : decode cX10_rests 70 = .ok (.iload_n 1, 1) := by decide +kernel
theorem dX10_rests_71 : decode cX10_rests 71 = .ok (.iload 7, 2) := by decide +kernel
theorem dX10_rests_73 : decode cX10_rests 73 = .ok (.invokevirtual 416, 3) := by decide +kernel
theorem dX10_rests_76 : decode cX10_rests 76 = .ok (.ifCond .eq 43, 3) := by decide +kernel
theorem dX10_rests_79 : decode cX10_rests 79 = .ok (.aload_n 0, 1) := by decide +kernel
theorem dX10_rests_80 : decode cX10_rests 80 = .ok (.getfield 23, 3) := by decide +kernel
theorem dX10_rests_83 : decode cX10_rests 83 = .ok (.iconst 1, 1) := by decide +kernel
theorem dX10_rests_84 : decode cX10_rests 84 = .ok (.iload 7, 2) := by decide +kernel
theorem dX10_rests_86 : decode cX10_rests 86 = .ok (.iload_n 2, 1) := by decide +kernel
theorem dX10_rests_87 : decode cX10_rests 87 = .ok (.iload 6, 2) := by decide +kernel
theorem dX10_rests_89 : decode cX10_rests 89 = .ok (.invokevirtual 416, 3) := by decide +kernel
theorem dX10_rests_92 : decode cX10_rests 92 = .ok (.ifCond .eq 27, 3) := by decide +kernel
theorem dX10_rests_95 : decode cX10_rests 95 = .ok (.iinc 4 1, 3) := by decide +kernel
theorem dX10_rests_98 : decode cX10_rests 98 = .ok (.iload 5, 2) := by decide +kernel
theorem dX10_rests_100 : decode cX10_rests 100 = .ok (.iconst (-1), 1) := by decide +kernel
theorem dX10_rests_101 : decode cX10_rests 101 = .ok (.if_icmp .ne 14, 3) := by decide +kernel
theorem dX10_rests_104 : decode cX10_rests 104 = .ok (.bipush 10, 2) := by decide +kernel
theorem dX10_rests_106 : decode cX10_rests 106 = .ok (.iload 6, 2) := by decide +kernel
theorem dX10_rests_108 : decode cX10_rests 108 = .ok (.imul, 1) := by decide +kernel
theorem dX10_rests_109 : decode cX10_rests 109 = .ok (.iload 7, 2) := by decide +kernel
theorem dX10_rests_111 : decode cX10_rests 111 = .ok (.iadd, 1) := by decide +kernel
theorem dX10_rests_112 : decode cX10_rests 112 = .ok (.goto 5, 3) := by decide +kernel
theorem dX10_rests_115 : decode cX10_rests 115 = .ok (.iload 5, 2) := by decide +kernel
theorem dX10_rests_117 : decode cX10_rests 117 = .ok (.istore 5, 2) := by decide +kernel
theorem dX10_rests_119 : decode cX10_rests 119 = .ok (.iinc 7 1, 3) := by decide +kernel
theorem dX10_rests_122 : decode cX10_rests 122 = .ok (.goto (-65), 3) := by decide +kernel
theorem dX10_rests_125 : decode cX10_rests 125 = .ok (.iinc 6 1, 3) := by decide +kernel
theorem dX10_rests_128 : decode cX10_rests 128 = .ok (.goto (-80), 3) := by decide +kernel
theorem dX10_rests_131 : decode cX10_rests 131 = .ok (.iload_n 3, 1) := by decide +kernel
theorem dX10_rests_132 : decode cX10_rests 132 = .ok (.ifCond .ne 8, 3) := by decide +kernel
theorem dX10_rests_135 : decode cX10_rests 135 = .ok (.iload 4, 2) := by decide +kernel
theorem dX10_rests_137 : decode cX10_rests 137 = .ok (.goto 5, 3) := by decide +kernel
theorem dX10_rests_140 : decode cX10_rests 140 = .ok (.iload 5, 2) := by decide +kernel
theorem dX10_rests_142 : decode cX10_rests 142 = .ok (.ireturn, 1) := by decide +kernel
theorem dX10_thanks_0 : decode cX10_thanks 0 = .ok (.iload_n 1, 1) := by decide +kernel
theorem dX10_thanks_1 : decode cX10_thanks 1 = .ok (.ldc_w 420, 3) := by decide +kernel
theorem dX10_thanks_4 : decode cX10_thanks 4 = .ok (.invokestatic 302, 3) := by decide +kernel
theorem dX10_thanks_7 : decode cX10_thanks 7 = .ok (.ifCond .eq 41, 3) := by decide +kernel
theorem dX10_thanks_10 : decode cX10_thanks 10 = .ok (.iload_n 2, 1) := by decide +kernel
theorem dX10_thanks_11 : decode cX10_thanks 11 = .ok (.bipush 100, 2) := by decide +kernel
theorem dX10_thanks_13 : decode cX10_thanks 13 = .ok (.invokestatic 302, 3) := by decide +kernel
theorem dX10_thanks_16 : decode cX10_thanks 16 = .ok (.ifCond .eq 32, 3) := by decide +kernel
theorem dX10_thanks_19 : decode cX10_thanks 19 = .ok (.iload_n 3, 1) := by decide +kernel
theorem dX10_thanks_20 : decode cX10_thanks 20 = .ok (.bipush 100, 2) := by decide +kernel
theorem dX10_thanks_22 : decode cX10_thanks 22 = .ok (.invokestatic 302, 3) := by decide +kernel
theorem dX10_thanks_25 : decode cX10_thanks 25 = .ok (.ifCond .eq 23, 3) := by decide +kernel
theorem dX10_thanks_28 : decode cX10_thanks 28 = .ok (.iload 4, 2) := by decide +kernel
theorem dX10_thanks_30 : decode cX10_thanks 30 = .ok (.bipush 100, 2) := by decide +kernel
theorem dX10_thanks_32 : decode cX10_thanks 32 = .ok (.invokestatic 302, 3) := by decide +kernel
theorem dX10_thanks_35 : decode cX10_thanks 35 = .ok (.ifCond .eq 13, 3) := by decide +kernel
theorem dX10_thanks_38 : decode cX10_thanks 38 = .ok (.iload 5, 2) := by decide +kernel
theorem dX10_thanks_40 : decode cX10_thanks 40 = .ok (.bipush 99, 2) := by decide +kernel
theorem dX10_thanks_42 : decode cX10_thanks 42 = .ok (.invokestatic 302, 3) := by decide +kernel
theorem dX10_thanks_45 : decode cX10_thanks 45 = .ok (.ifCond .ne 10, 3) := by decide +kernel
theorem dX10_thanks_48 : decode cX10_thanks 48 = .ok (.aload_n 0, 1) := by decide +kernel
theorem dX10_thanks_49 : decode cX10_thanks 49 = .ok (.bipush (-3), 2) := by decide +kernel
theorem dX10_thanks_51 : decode cX10_thanks 51 = .ok (.invokevirtual 97, 3) := by decide +kernel
theorem dX10_thanks_54 : decode cX10_thanks 54 = .ok (.ireturn, 1) := by decide +kernel
theorem dX10_thanks_55 : decode cX10_thanks 55 = .ok (.iload_n 1, 1) := by decide +kernel
theorem dX10_thanks_56 : decode cX10_thanks 56 = .ok (.i2l, 1) := by decide +kernel
theorem dX10_thanks_57 : decode cX10_thanks 57 = .ok (.lstore 6, 2) := by decide +kernel
theorem dX10_thanks_59 : decode cX10_thanks 59 = .ok (.iconst 0, 1) := by decide +kernel
theorem dX10_thanks_60 : decode cX10_thanks 60 = .ok (.istore 8, 2) := by decide +kernel
theorem dX10_thanks_62 : decode cX10_thanks 62 = .ok (.iload 8, 2) := by decide +kernel
theorem dX10_thanks_64 : decode cX10_thanks 64 = .ok (.iload 5, 2) := by decide +kernel
theorem dX10_thanks_66 : decode cX10_thanks 66 = .ok (.if_icmp .ge 38, 3) := by decide +kernel
theorem dX10_thanks_69 : decode cX10_thanks 69 = .ok (.lload 6, 2) := by decide +kernel
theorem dX10_thanks_71 : decode cX10_thanks 71 = .ok (.iload_n 2, 1) := by decide +kernel
theorem dX10_thanks_72 : decode cX10_thanks 72 = .ok (.i2l, 1) := by decide +kernel
theorem dX10_thanks_73 : decode cX10_thanks 73 = .ok (.lmul, 1) := by decide +kernel
theorem dX10_thanks_74 : decode cX10_thanks 74 = .ok (.lstore 9, 2) := by decide +kernel
theorem dX10_thanks_76 : decode cX10_thanks 76 = .ok (.lload 9, 2) := by decide +kernel
theorem dX10_thanks_78 : decode cX10_thanks 78 = .ok (.iload_n 3, 1) := by decide +kernel
theorem dX10_thanks_79 : decode cX10_thanks 79 = .ok (.i2l, 1) := by decide +kernel
theorem dX10_thanks_80 : decode cX10_thanks 80 = .ok (.lmul, 1) := by decide +kernel
theorem dX10_thanks_81 : decode cX10_thanks 81 = .ok (.ldc2_w 421, 3) := by decide +kernel
theorem dX10_thanks_84 : decode cX10_thanks 84 = .ok (.lload 9, 2) := by decide +kernel
theorem dX10_thanks_86 : decode cX10_thanks 86 = .ok (.lsub, 1) := by decide +kernel
theorem dX10_thanks_87 : decode cX10_thanks 87 = .ok (.iload 4, 2) := by decide +kernel
theorem dX10_thanks_89 : decode cX10_thanks 89 = .ok (.i2l, 1) := by decide +kernel
theorem dX10_thanks_90 : decode cX10_thanks 90 = .ok (.lmul, 1) := by decide +kernel
theorem dX10_thanks_91 : decode cX10_thanks 91 = .ok (.ladd, 1) := by decide +kernel
theorem dX10_thanks_92 : decode cX10_thanks 92 = .ok (.ldc2_w 423, 3) := by decide +kernel
theorem dX10_thanks_95 : decode cX10_thanks 95 = .ok (.ldiv, 1) := by decide +kernel
theorem dX10_thanks_96 : decode cX10_thanks 96 = .ok (.lstore 6, 2) := by decide +kernel
theorem dX10_thanks_98 : decode cX10_thanks 98 = .ok (.iinc 8 1, 3) := by decide +kernel
theorem dX10_thanks_101 : decode cX10_thanks 101 = .ok (.goto (-39), 3) := by decide +kernel
theorem dX10_thanks_104 : decode cX10_thanks 104 = .ok (.lload 6, 2) := by decide +kernel
theorem dX10_thanks_106 : decode cX10_thanks 106 = .ok (.l2i, 1) := by decide +kernel
theorem dX10_thanks_107 : decode cX10_thanks 107 = .ok (.ireturn, 1) := by decide +kernel
theorem dX10_filled_0 : decode cX10_filled 0 = .ok (.iload_n 1, 1) := by decide +kernel
theorem dX10_filled_1 : decode cX10_filled 1 = .ok (.invokestatic 389, 3) := by decide +kernel
theorem dX10_filled_4 : decode cX10_filled 4 = .ok (.ifCond .ne 10, 3) := by decide +kernel
theorem dX10_filled_7 : decode cX10_filled 7 = .ok (.aload_n 0, 1) := by decide +kernel
theorem dX10_filled_8 : decode cX10_filled 8 = .ok (.bipush (-2), 2) := by decide +kernel
theorem dX10_filled_10 : decode cX10_filled 10 = .ok (.invokevirtual 97, 3) := by decide +kernel
theorem dX10_filled_13 : decode cX10_filled 13 = .ok (.ireturn, 1) := by decide +kernel
theorem dX10_filled_14 : decode cX10_filled 14 = .ok (.aload_n 0, 1) := by decide +kernel
theorem dX10_filled_15 : decode cX10_filled 15 = .ok (.getfield 81, 3) := by decide +kernel
theorem dX10_filled_18 : decode cX10_filled 18 = .ok (.iload_n 1, 1) := by decide +kernel
theorem dX10_filled_19 : decode cX10_filled 19 = .ok (.aaload, 1) := by decide +kernel
theorem dX10_filled_20 : decode cX10_filled 20 = .ok (.getfield 392, 3) := by decide +kernel
theorem dX10_filled_23 : decode cX10_filled 23 = .ok (.ifCond .ne 10, 3) := by decide +kernel
theorem dX10_filled_26 : decode cX10_filled 26 = .ok (.aload_n 0, 1) := by decide +kernel
theorem dX10_filled_27 : decode cX10_filled 27 = .ok (.bipush (-6), 2) := by decide +kernel
theorem dX10_filled_29 : decode cX10_filled 29 = .ok (.invokevirtual 97, 3) := by decide +kernel
theorem dX10_filled_32 : decode cX10_filled 32 = .ok (.ireturn, 1) := by decide +kernel
theorem dX10_filled_33 : decode cX10_filled 33 = .ok (.iload_n 2, 1) := by decide +kernel
theorem dX10_filled_34 : decode cX10_filled 34 = .ok (.ifCond .lt 16, 3) := by decide +kernel
theorem dX10_filled_37 : decode cX10_filled 37 = .ok (.iload_n 2, 1) := by decide +kernel
theorem dX10_filled_38 : decode cX10_filled 38 = .ok (.aload_n 0, 1) := by decide +kernel
theorem dX10_filled_39 : decode cX10_filled 39 = .ok (.getfield 81, 3) := by decide +kernel
theorem dX10_filled_42 : decode cX10_filled 42 = .ok (.iload_n 1, 1) := by decide +kernel
theorem dX10_filled_43 : decode cX10_filled 43 = .ok (.aaload, 1) := by decide +kernel
theorem dX10_filled_44 : decode cX10_filled 44 = .ok (.getfield 400, 3) := by decide +kernel
theorem dX10_filled_47 : decode cX10_filled 47 = .ok (.if_icmp .lt 10, 3) := by decide +kernel
theorem dX10_filled_50 : decode cX10_filled 50 = .ok (.aload_n 0, 1) := by decide +kernel
theorem dX10_filled_51 : decode cX10_filled 51 = .ok (.bipush (-7), 2) := by decide +kernel
theorem dX10_filled_53 : decode cX10_filled 53 = .ok (.invokevirtual 97, 3) := by decide +kernel
theorem dX10_filled_56 : decode cX10_filled 56 = .ok (.ireturn, 1) := by decide +kernel
theorem dX10_filled_57 : decode cX10_filled 57 = .ok (.aload_n 0, 1) := by decide +kernel
theorem dX10_filled_58 : decode cX10_filled 58 = .ok (.getfield 81, 3) := by decide +kernel
theorem dX10_filled_61 : decode cX10_filled 61 = .ok (.iload_n 1, 1) := by decide +kernel
theorem dX10_filled_62 : decode cX10_filled 62 = .ok (.aaload, 1) := by decide +kernel
theorem dX10_filled_63 : decode cX10_filled 63 = .ok (.invokevirtual 425, 3) := by decide +kernel
theorem dX10_filled_66 : decode cX10_filled 66 = .ok (.ifCond .eq 10, 3) := by decide +kernel
theorem dX10_filled_69 : decode cX10_filled 69 = .ok (.aload_n 0, 1) := by decide +kernel
theorem dX10_filled_70 : decode cX10_filled 70 = .ok (.bipush (-3), 2) := by decide +kernel
theorem dX10_filled_72 : decode cX10_filled 72 = .ok (.invokevirtual 97, 3) := by decide +kernel
theorem dX10_filled_75 : decode cX10_filled 75 = .ok (.ireturn, 1) := by decide +kernel
theorem dX10_filled_76 : decode cX10_filled 76 = .ok (.aload_n 0, 1) := by decide +kernel
theorem dX10_filled_77 : decode cX10_filled 77 = .ok (.getfield 81, 3) := by decide +kernel
theorem dX10_filled_80 : decode cX10_filled 80 = .ok (.iload_n 1, 1) := by decide +kernel
theorem dX10_filled_81 : decode cX10_filled 81 = .ok (.aaload, 1) := by decide +kernel
theorem dX10_filled_82 : decode cX10_filled 82 = .ok (.iload_n 2, 1) := by decide +kernel
theorem dX10_filled_83 : decode cX10_filled 83 = .ok (.invokevirtual 429, 3) := by decide +kernel
theorem dX10_filled_86 : decode cX10_filled 86 = .ok (.ireturn, 1) := by decide +kernel
theorem dX10_slip_0 : decode cX10_slip 0 = .ok (.iload_n 1, 1) := by decide +kernel
theorem dX10_slip_1 : decode cX10_slip 1 = .ok (.invokestatic 389, 3) := by decide +kernel
theorem dX10_slip_4 : decode cX10_slip 4 = .ok (.ifCond .eq 34, 3) := by decide +kernel
theorem dX10_slip_7 : decode cX10_slip 7 = .ok (.iload_n 2, 1) := by decide +kernel
theorem dX10_slip_8 : decode cX10_slip 8 = .ok (.invokestatic 389, 3) := by decide +kernel
theorem dX10_slip_11 : decode cX10_slip 11 = .ok (.ifCond .eq 27, 3) := by decide +kernel
theorem dX10_slip_14 : decode cX10_slip 14 = .ok (.aload_n 0, 1) := by decide +kernel
theorem dX10_slip_15 : decode cX10_slip 15 = .ok (.getfield 81, 3) := by decide +kernel
theorem dX10_slip_18 : decode cX10_slip 18 = .ok (.iload_n 1, 1) := by decide +kernel
theorem dX10_slip_19 : decode cX10_slip 19 = .ok (.aaload, 1) := by decide +kernel
theorem dX10_slip_20 : decode cX10_slip 20 = .ok (.invokevirtual 432, 3) := by decide +kernel
theorem dX10_slip_23 : decode cX10_slip 23 = .ok (.ifCond .eq 15, 3) := by decide +kernel
theorem dX10_slip_26 : decode cX10_slip 26 = .ok (.aload_n 0, 1) := by decide +kernel
theorem dX10_slip_27 : decode cX10_slip 27 = .ok (.getfield 81, 3) := by decide +kernel
theorem dX10_slip_30 : decode cX10_slip 30 = .ok (.iload_n 2, 1) := by decide +kernel
theorem dX10_slip_31 : decode cX10_slip 31 = .ok (.aaload, 1) := by decide +kernel
theorem dX10_slip_32 : decode cX10_slip 32 = .ok (.invokevirtual 432, 3) := by decide +kernel
theorem dX10_slip_35 : decode cX10_slip 35 = .ok (.ifCond .ne 10, 3) := by decide +kernel
theorem dX10_slip_38 : decode cX10_slip 38 = .ok (.aload_n 0, 1) := by decide +kernel
theorem dX10_slip_39 : decode cX10_slip 39 = .ok (.bipush (-100), 2) := by decide +kernel
theorem dX10_slip_41 : decode cX10_slip 41 = .ok (.invokevirtual 199, 3) := by decide +kernel
theorem dX10_slip_44 : decode cX10_slip 44 = .ok (.ireturn, 1) := by decide +kernel
theorem dX10_slip_45 : decode cX10_slip 45 = .ok (.iconst 0, 1) := by decide +kernel
theorem dX10_slip_46 : decode cX10_slip 46 = .ok (.istore_n 3, 1) := by decide +kernel
theorem dX10_slip_47 : decode cX10_slip 47 = .ok (.aload_n 0, 1) := by decide +kernel
theorem dX10_slip_48 : decode cX10_slip 48 = .ok (.getfield 81, 3) := by decide +kernel
theorem dX10_slip_51 : decode cX10_slip 51 = .ok (.iload_n 1, 1) := by decide +kernel
theorem dX10_slip_52 : decode cX10_slip 52 = .ok (.aaload, 1) := by decide +kernel
theorem dX10_slip_53 : decode cX10_slip 53 = .ok (.aload_n 0, 1) := by decide +kernel
theorem dX10_slip_54 : decode cX10_slip 54 = .ok (.getfield 81, 3) := by decide +kernel
theorem dX10_slip_57 : decode cX10_slip 57 = .ok (.iload_n 2, 1) := by decide +kernel
theorem dX10_slip_58 : decode cX10_slip 58 = .ok (.aaload, 1) := by decide +kernel
theorem dX10_slip_59 : decode cX10_slip 59 = .ok (.iconst 0, 1) := by decide +kernel
theorem dX10_slip_60 : decode cX10_slip 60 = .ok (.invokevirtual 435, 3) := by decide +kernel
theorem dX10_slip_63 : decode cX10_slip 63 = .ok (.lstore 4, 2) := by decide +kernel
theorem dX10_slip_65 : decode cX10_slip 65 = .ok (.aload_n 0, 1) := by decide +kernel
theorem dX10_slip_66 : decode cX10_slip 66 = .ok (.getfield 81, 3) := by decide +kernel
theorem dX10_slip_69 : decode cX10_slip 69 = .ok (.iload_n 1, 1) := by decide +kernel
theorem dX10_slip_70 : decode cX10_slip 70 = .ok (.aaload, 1) := by decide +kernel
theorem dX10_slip_71 : decode cX10_slip 71 = .ok (.aload_n 0, 1) := by decide +kernel
theorem dX10_slip_72 : decode cX10_slip 72 = .ok (.getfield 81, 3) := by decide +kernel
theorem dX10_slip_75 : decode cX10_slip 75 = .ok (.iload_n 2, 1) := by decide +kernel
theorem dX10_slip_76 : decode cX10_slip 76 = .ok (.aaload, 1) := by decide +kernel
theorem dX10_slip_77 : decode cX10_slip 77 = .ok (.iconst 0, 1) := by decide +kernel
theorem dX10_slip_78 : decode cX10_slip 78 = .ok (.invokevirtual 439, 3) := by decide +kernel
theorem dX10_slip_81 : decode cX10_slip 81 = .ok (.lstore 6, 2) := by decide +kernel
theorem dX10_slip_83 : decode cX10_slip 83 = .ok (.iconst 1, 1) := by decide +kernel
theorem dX10_slip_84 : decode cX10_slip 84 = .ok (.istore 8, 2) := by decide +kernel
theorem dX10_slip_86 : decode cX10_slip 86 = .ok (.iload 8, 2) := by decide +kernel
theorem dX10_slip_88 : decode cX10_slip 88 = .ok (.iconst 3, 1) := by decide +kernel
theorem dX10_slip_89 : decode cX10_slip 89 = .ok (.if_icmp .gt 103, 3) := by decide +kernel
theorem dX10_slip_92 : decode cX10_slip 92 = .ok (.iload 8, 2) := by decide +kernel
theorem dX10_slip_94 : decode cX10_slip 94 = .ok (.ineg, 1) := by decide +kernel
theorem dX10_slip_95 : decode cX10_slip 95 = .ok (.istore 9, 2) := by decide +kernel
theorem dX10_slip_97 : decode cX10_slip 97 = .ok (.iload 9, 2) := by decide +kernel
theorem dX10_slip_99 : decode cX10_slip 99 = .ok (.iload 8, 2) := by decide +kernel
theorem dX10_slip_101 : decode cX10_slip 101 = .ok (.if_icmp .gt 85, 3) := by decide +kernel
theorem dX10_slip_104 : decode cX10_slip 104 = .ok (.aload_n 0, 1) := by decide +kernel
theorem dX10_slip_105 : decode cX10_slip 105 = .ok (.getfield 81, 3) := by decide +kernel
theorem dX10_slip_108 : decode cX10_slip 108 = .ok (.iload_n 1, 1) := by decide +kernel
theorem dX10_slip_109 : decode cX10_slip 109 = .ok (.aaload, 1) := by decide +kernel
theorem dX10_slip_110 : decode cX10_slip 110 = .ok (.aload_n 0, 1) := by decide +kernel
theorem dX10_slip_111 : decode cX10_slip 111 = .ok (.getfield 81, 3) := by decide +kernel
theorem dX10_slip_114 : decode cX10_slip 114 = .ok (.iload_n 2, 1) := by decide +kernel
theorem dX10_slip_115 : decode cX10_slip 115 = .ok (.aaload, 1) := by decide +kernel
theorem dX10_slip_116 : decode cX10_slip 116 = .ok (.iload 9, 2) := by decide +kernel
theorem dX10_slip_118 : decode cX10_slip 118 = .ok (.invokevirtual 435, 3) := by decide +kernel
theorem dX10_slip_121 : decode cX10_slip 121 = .ok (.lstore 10, 2) := by decide +kernel
theorem dX10_slip_123 : decode cX10_slip 123 = .ok (.aload_n 0, 1) := by decide +kernel
theorem dX10_slip_124 : decode cX10_slip 124 = .ok (.getfield 81, 3) := by decide +kernel
theorem dX10_slip_127 : decode cX10_slip 127 = .ok (.iload_n 1, 1) := by decide +kernel
theorem dX10_slip_128 : decode cX10_slip 128 = .ok (.aaload, 1) := by decide +kernel
theorem dX10_slip_129 : decode cX10_slip 129 = .ok (.aload_n 0, 1) := by decide +kernel
theorem dX10_slip_130 : decode cX10_slip 130 = .ok (.getfield 81, 3) := by decide +kernel
theorem dX10_slip_133 : decode cX10_slip 133 = .ok (.iload_n 2, 1) := by decide +kernel
theorem dX10_slip_134 : decode cX10_slip 134 = .ok (.aaload, 1) := by decide +kernel
theorem dX10_slip_135 : decode cX10_slip 135 = .ok (.iload 9, 2) := by decide +kernel
theorem dX10_slip_137 : decode cX10_slip 137 = .ok (.invokevirtual 439, 3) := by decide +kernel
theorem dX10_slip_140 : decode cX10_slip 140 = .ok (.lstore 12, 2) := by decide +kernel
theorem dX10_slip_142 : decode cX10_slip 142 = .ok (.lload 12, 2) := by decide +kernel
theorem dX10_slip_144 : decode cX10_slip 144 = .ok (.lconst 0, 1) := by decide +kernel
theorem dX10_slip_145 : decode cX10_slip 145 = .ok (.lcmp, 1) := by decide +kernel
theorem dX10_slip_146 : decode cX10_slip 146 = .ok (.ifCond .le 28, 3) := by decide +kernel
theorem dX10_slip_149 : decode cX10_slip 149 = .ok (.lload 10, 2) := by decide +kernel
theorem dX10_slip_151 : decode cX10_slip 151 = .ok (.lload 6, 2) := by decide +kernel
theorem dX10_slip_153 : decode cX10_slip 153 = .ok (.lmul, 1) := by decide +kernel
theorem dX10_slip_154 : decode cX10_slip 154 = .ok (.lload 4, 2) := by decide +kernel
theorem dX10_slip_156 : decode cX10_slip 156 = .ok (.lload 12, 2) := by decide +kernel
theorem dX10_slip_158 : decode cX10_slip 158 = .ok (.lmul, 1) := by decide +kernel
theorem dX10_slip_159 : decode cX10_slip 159 = .ok (.lcmp, 1) := by decide +kernel
theorem dX10_slip_160 : decode cX10_slip 160 = .ok (.ifCond .ge 14, 3) := by decide +kernel
theorem dX10_slip_163 : decode cX10_slip 163 = .ok (.iload 9, 2) := by decide +kernel
theorem dX10_slip_165 : decode cX10_slip 165 = .ok (.istore_n 3, 1) := by decide +kernel
theorem dX10_slip_166 : decode cX10_slip 166 = .ok (.lload 10, 2) := by decide +kernel
theorem dX10_slip_168 : decode cX10_slip 168 = .ok (.lstore 4, 2) := by decide +kernel
theorem dX10_slip_170 : decode cX10_slip 170 = .ok (.lload 12, 2) := by decide +kernel
theorem dX10_slip_172 : decode cX10_slip 172 = .ok (.lstore 6, 2) := by decide +kernel
theorem dX10_slip_174 : decode cX10_slip 174 = .ok (.iload 9, 2) := by decide +kernel
theorem dX10_slip_176 : decode cX10_slip 176 = .ok (.iconst 2, 1) := by decide +kernel
theorem dX10_slip_177 : decode cX10_slip 177 = .ok (.iload 8, 2) := by decide +kernel
theorem dX10_slip_179 : decode cX10_slip 179 = .ok (.imul, 1) := by decide +kernel
theorem dX10_slip_180 : decode cX10_slip 180 = .ok (.iadd, 1) := by decide +kernel
theorem dX10_slip_181 : decode cX10_slip 181 = .ok (.istore 9, 2) := by decide +kernel
theorem dX10_slip_183 : decode cX10_slip 183 = .ok (.goto (-86), 3) := by decide +kernel
theorem dX10_slip_186 : decode cX10_slip 186 = .ok (.iinc 8 1, 3) := by decide +kernel
theorem dX10_slip_189 : decode cX10_slip 189 = .ok (.goto (-103), 3) := by decide +kernel
theorem dX10_slip_192 : decode cX10_slip 192 = .ok (.iload_n 3, 1) := by decide +kernel
theorem dX10_slip_193 : decode cX10_slip 193 = .ok (.ireturn, 1) := by decide +kernel
theorem dX10_numbers_0 : decode cX10_numbers 0 = .ok (.iload_n 1, 1) := by decide +kernel
theorem dX10_numbers_1 : decode cX10_numbers 1 = .ok (.invokestatic 389, 3) := by decide +kernel
theorem dX10_numbers_4 : decode cX10_numbers 4 = .ok (.ifCond .eq 12, 3) := by decide +kernel
theorem dX10_numbers_7 : decode cX10_numbers 7 = .ok (.iload_n 2, 1) := by decide +kernel
theorem dX10_numbers_8 : decode cX10_numbers 8 = .ok (.ifCond .lt 8, 3) := by decide +kernel
theorem dX10_numbers_11 : decode cX10_numbers 11 = .ok (.iload_n 2, 1) := by decide +kernel
theorem dX10_numbers_12 : decode cX10_numbers 12 = .ok (.iconst 3, 1) := by decide +kernel
theorem dX10_numbers_13 : decode cX10_numbers 13 = .ok (.if_icmp .le 10, 3) := by decide +kernel
theorem dX10_numbers_16 : decode cX10_numbers 16 = .ok (.aload_n 0, 1) := by decide +kernel
theorem dX10_numbers_17 : decode cX10_numbers 17 = .ok (.bipush (-2), 2) := by decide +kernel
theorem dX10_numbers_19 : decode cX10_numbers 19 = .ok (.invokevirtual 97, 3) := by decide +kernel
theorem dX10_numbers_22 : decode cX10_numbers 22 = .ok (.ireturn, 1) := by decide +kernel
theorem dX10_numbers_23 : decode cX10_numbers 23 = .ok (.iload_n 3, 1) := by decide +kernel
theorem dX10_numbers_24 : decode cX10_numbers 24 = .ok (.bipush 40, 2) := by decide +kernel
theorem dX10_numbers_26 : decode cX10_numbers 26 = .ok (.invokestatic 302, 3) := by decide +kernel
theorem dX10_numbers_29 : decode cX10_numbers 29 = .ok (.ifCond .ne 10, 3) := by decide +kernel
theorem dX10_numbers_32 : decode cX10_numbers 32 = .ok (.aload_n 0, 1) := by decide +kernel
theorem dX10_numbers_33 : decode cX10_numbers 33 = .ok (.bipush (-3), 2) := by decide +kernel
theorem dX10_numbers_35 : decode cX10_numbers 35 = .ok (.invokevirtual 97, 3) := by decide +kernel
theorem dX10_numbers_38 : decode cX10_numbers 38 = .ok (.ireturn, 1) := by decide +kernel
theorem dX10_numbers_39 : decode cX10_numbers 39 = .ok (.aload_n 0, 1) := by decide +kernel
