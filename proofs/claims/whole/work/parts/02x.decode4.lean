theorem dMo_in_0 : decode kMo_in 0 = .ok (.iload_n 0, 1) := by decide +kernel
theorem dMo_in_1 : decode kMo_in 1 = .ok (.iload_n 1, 1) := by decide +kernel
theorem dMo_in_2 : decode kMo_in 2 = .ok (.if_icmp .lt 12, 3) := by decide +kernel
theorem dMo_in_5 : decode kMo_in 5 = .ok (.iload_n 0, 1) := by decide +kernel
theorem dMo_in_6 : decode kMo_in 6 = .ok (.iload_n 2, 1) := by decide +kernel
theorem dMo_in_7 : decode kMo_in 7 = .ok (.if_icmp .gt 7, 3) := by decide +kernel
theorem dMo_in_10 : decode kMo_in 10 = .ok (.iconst 1, 1) := by decide +kernel
theorem dMo_in_11 : decode kMo_in 11 = .ok (.goto 4, 3) := by decide +kernel
theorem dMo_in_14 : decode kMo_in 14 = .ok (.iconst 0, 1) := by decide +kernel
theorem dMo_in_15 : decode kMo_in 15 = .ok (.ireturn, 1) := by decide +kernel
theorem dMo_init_0 : decode kMo_init 0 = .ok (.aload_n 0, 1) := by decide +kernel
theorem dMo_init_1 : decode kMo_init 1 = .ok (.invokespecial 7, 3) := by decide +kernel
theorem dMo_init_4 : decode kMo_init 4 = .ok (.aload_n 0, 1) := by decide +kernel
theorem dMo_init_5 : decode kMo_init 5 = .ok (.bipush 60, 2) := by decide +kernel
theorem dMo_init_7 : decode kMo_init 7 = .ok (.newarray .int, 2) := by decide +kernel
theorem dMo_init_9 : decode kMo_init 9 = .ok (.putfield 13, 3) := by decide +kernel
theorem dMo_init_12 : decode kMo_init 12 = .ok (.aload_n 0, 1) := by decide +kernel
theorem dMo_init_13 : decode kMo_init 13 = .ok (.sipush 1260, 3) := by decide +kernel
theorem dMo_init_16 : decode kMo_init 16 = .ok (.newarray .int, 2) := by decide +kernel
theorem dMo_init_18 : decode kMo_init 18 = .ok (.putfield 17, 3) := by decide +kernel
theorem dMo_init_21 : decode kMo_init 21 = .ok (.aload_n 0, 1) := by decide +kernel
theorem dMo_init_22 : decode kMo_init 22 = .ok (.bipush 21, 2) := by decide +kernel
theorem dMo_init_24 : decode kMo_init 24 = .ok (.newarray .int, 2) := by decide +kernel
theorem dMo_init_26 : decode kMo_init 26 = .ok (.putfield 20, 3) := by decide +kernel
theorem dMo_init_29 : decode kMo_init 29 = .ok (.aload_n 0, 1) := by decide +kernel
theorem dMo_init_30 : decode kMo_init 30 = .ok (.bipush 32, 2) := by decide +kernel
theorem dMo_init_32 : decode kMo_init 32 = .ok (.putfield 23, 3) := by decide +kernel
theorem dMo_init_35 : decode kMo_init 35 = .ok (.aload_n 0, 1) := by decide +kernel
theorem dMo_init_36 : decode kMo_init 36 = .ok (.sipush 4800, 3) := by decide +kernel
theorem dMo_init_39 : decode kMo_init 39 = .ok (.newarray .int, 2) := by decide +kernel
theorem dMo_init_41 : decode kMo_init 41 = .ok (.putfield 26, 3) := by decide +kernel
theorem dMo_init_44 : decode kMo_init 44 = .ok (.aload_n 0, 1) := by decide +kernel
theorem dMo_init_45 : decode kMo_init 45 = .ok (.bipush 60, 2) := by decide +kernel
theorem dMo_init_47 : decode kMo_init 47 = .ok (.newarray .int, 2) := by decide +kernel
theorem dMo_init_49 : decode kMo_init 49 = .ok (.putfield 29, 3) := by decide +kernel
theorem dMo_init_52 : decode kMo_init 52 = .ok (.aload_n 0, 1) := by decide +kernel
theorem dMo_init_53 : decode kMo_init 53 = .ok (.bipush 80, 2) := by decide +kernel
theorem dMo_init_55 : decode kMo_init 55 = .ok (.newarray .int, 2) := by decide +kernel
theorem dMo_init_57 : decode kMo_init 57 = .ok (.putfield 32, 3) := by decide +kernel
theorem dMo_init_60 : decode kMo_init 60 = .ok (.aload_n 0, 1) := by decide +kernel
theorem dMo_init_61 : decode kMo_init 61 = .ok (.bipush 64, 2) := by decide +kernel
theorem dMo_init_63 : decode kMo_init 63 = .ok (.newarray .int, 2) := by decide +kernel
theorem dMo_init_65 : decode kMo_init 65 = .ok (.putfield 35, 3) := by decide +kernel
theorem dMo_init_68 : decode kMo_init 68 = .ok (.aload_n 0, 1) := by decide +kernel
theorem dMo_init_69 : decode kMo_init 69 = .ok (.bipush 64, 2) := by decide +kernel
theorem dMo_init_71 : decode kMo_init 71 = .ok (.newarray .int, 2) := by decide +kernel
theorem dMo_init_73 : decode kMo_init 73 = .ok (.putfield 38, 3) := by decide +kernel
theorem dMo_init_76 : decode kMo_init 76 = .ok (.aload_n 0, 1) := by decide +kernel
theorem dMo_init_77 : decode kMo_init 77 = .ok (.bipush 64, 2) := by decide +kernel
theorem dMo_init_79 : decode kMo_init 79 = .ok (.newarray .int, 2) := by decide +kernel
theorem dMo_init_81 : decode kMo_init 81 = .ok (.putfield 41, 3) := by decide +kernel
theorem dMo_init_84 : decode kMo_init 84 = .ok (.aload_n 0, 1) := by decide +kernel
theorem dMo_init_85 : decode kMo_init 85 = .ok (.sipush 4800, 3) := by decide +kernel
theorem dMo_init_88 : decode kMo_init 88 = .ok (.newarray .int, 2) := by decide +kernel
theorem dMo_init_90 : decode kMo_init 90 = .ok (.putfield 44, 3) := by decide +kernel
theorem dMo_init_93 : decode kMo_init 93 = .ok (.aload_n 0, 1) := by decide +kernel
theorem dMo_init_94 : decode kMo_init 94 = .ok (.bipush 40, 2) := by decide +kernel
theorem dMo_init_96 : decode kMo_init 96 = .ok (.newarray .int, 2) := by decide +kernel
theorem dMo_init_98 : decode kMo_init 98 = .ok (.putfield 47, 3) := by decide +kernel
theorem dMo_init_101 : decode kMo_init 101 = .ok (.aload_n 0, 1) := by decide +kernel
theorem dMo_init_102 : decode kMo_init 102 = .ok (.bipush 40, 2) := by decide +kernel
theorem dMo_init_104 : decode kMo_init 104 = .ok (.newarray .int, 2) := by decide +kernel
theorem dMo_init_106 : decode kMo_init 106 = .ok (.putfield 50, 3) := by decide +kernel
theorem dMo_init_109 : decode kMo_init 109 = .ok (.aload_n 0, 1) := by decide +kernel
theorem dMo_init_110 : decode kMo_init 110 = .ok (.bipush 40, 2) := by decide +kernel
theorem dMo_init_112 : decode kMo_init 112 = .ok (.newarray .int, 2) := by decide +kernel
theorem dMo_init_114 : decode kMo_init 114 = .ok (.putfield 53, 3) := by decide +kernel
theorem dMo_init_117 : decode kMo_init 117 = .ok (.aload_n 0, 1) := by decide +kernel
theorem dMo_init_118 : decode kMo_init 118 = .ok (.bipush 60, 2) := by decide +kernel
theorem dMo_init_120 : decode kMo_init 120 = .ok (.newarray .int, 2) := by decide +kernel
theorem dMo_init_122 : decode kMo_init 122 = .ok (.putfield 56, 3) := by decide +kernel
theorem dMo_init_125 : decode kMo_init 125 = .ok (.aload_n 0, 1) := by decide +kernel
theorem dMo_init_126 : decode kMo_init 126 = .ok (.iconst 3, 1) := by decide +kernel
theorem dMo_init_127 : decode kMo_init 127 = .ok (.newarray .int, 2) := by decide +kernel
theorem dMo_init_129 : decode kMo_init 129 = .ok (.putfield 59, 3) := by decide +kernel
theorem dMo_init_132 : decode kMo_init 132 = .ok (.aload_n 0, 1) := by decide +kernel
theorem dMo_init_133 : decode kMo_init 133 = .ok (.bipush 12, 2) := by decide +kernel
theorem dMo_init_135 : decode kMo_init 135 = .ok (.newarray .int, 2) := by decide +kernel
theorem dMo_init_137 : decode kMo_init 137 = .ok (.putfield 62, 3) := by decide +kernel
theorem dMo_init_140 : decode kMo_init 140 = .ok (.aload_n 0, 1) := by decide +kernel
theorem dMo_init_141 : decode kMo_init 141 = .ok (.iconst 0, 1) := by decide +kernel
theorem dMo_init_142 : decode kMo_init 142 = .ok (.putfield 1, 3) := by decide +kernel
theorem dMo_init_145 : decode kMo_init 145 = .ok (.return_, 1) := by decide +kernel
theorem dMo_feed_0 : decode kMo_feed 0 = .ok (.aload_n 0, 1) := by decide +kernel
theorem dMo_feed_1 : decode kMo_feed 1 = .ok (.iconst 0, 1) := by decide +kernel
theorem dMo_feed_2 : decode kMo_feed 2 = .ok (.putfield 1, 3) := by decide +kernel
theorem dMo_feed_5 : decode kMo_feed 5 = .ok (.aload_n 0, 1) := by decide +kernel
theorem dMo_feed_6 : decode kMo_feed 6 = .ok (.getfield 65, 3) := by decide +kernel
theorem dMo_feed_9 : decode kMo_feed 9 = .ok (.bipush 40, 2) := by decide +kernel
theorem dMo_feed_11 : decode kMo_feed 11 = .ok (.if_icmp .le 6, 3) := by decide +kernel
theorem dMo_feed_14 : decode kMo_feed 14 = .ok (.bipush (-3), 2) := by decide +kernel
theorem dMo_feed_16 : decode kMo_feed 16 = .ok (.ireturn, 1) := by decide +kernel
theorem dMo_feed_17 : decode kMo_feed 17 = .ok (.iconst 0, 1) := by decide +kernel
theorem dMo_feed_18 : decode kMo_feed 18 = .ok (.istore 6, 2) := by decide +kernel
theorem dMo_feed_20 : decode kMo_feed 20 = .ok (.iload 6, 2) := by decide +kernel
theorem dMo_feed_22 : decode kMo_feed 22 = .ok (.bipush 20, 2) := by decide +kernel
theorem dMo_feed_24 : decode kMo_feed 24 = .ok (.if_icmp .ge 86, 3) := by decide +kernel
theorem dMo_feed_27 : decode kMo_feed 27 = .ok (.iload 6, 2) := by decide +kernel
theorem dMo_feed_29 : decode kMo_feed 29 = .ok (.iconst 4, 1) := by decide +kernel
theorem dMo_feed_30 : decode kMo_feed 30 = .ok (.if_icmp .ge 7, 3) := by decide +kernel
theorem dMo_feed_33 : decode kMo_feed 33 = .ok (.iload_n 1, 1) := by decide +kernel
theorem dMo_feed_34 : decode kMo_feed 34 = .ok (.goto 39, 3) := by decide +kernel
theorem dMo_feed_37 : decode kMo_feed 37 = .ok (.iload 6, 2) := by decide +kernel
theorem dMo_feed_39 : decode kMo_feed 39 = .ok (.bipush 8, 2) := by decide +kernel
theorem dMo_feed_41 : decode kMo_feed 41 = .ok (.if_icmp .ge 7, 3) := by decide +kernel
theorem dMo_feed_44 : decode kMo_feed 44 = .ok (.iload_n 2, 1) := by decide +kernel
theorem dMo_feed_45 : decode kMo_feed 45 = .ok (.goto 28, 3) := by decide +kernel
theorem dMo_feed_48 : decode kMo_feed 48 = .ok (.iload 6, 2) := by decide +kernel
theorem dMo_feed_50 : decode kMo_feed 50 = .ok (.bipush 12, 2) := by decide +kernel
theorem dMo_feed_52 : decode kMo_feed 52 = .ok (.if_icmp .ge 7, 3) := by decide +kernel
theorem dMo_feed_55 : decode kMo_feed 55 = .ok (.iload_n 3, 1) := by decide +kernel
theorem dMo_feed_56 : decode kMo_feed 56 = .ok (.goto 17, 3) := by decide +kernel
theorem dMo_feed_59 : decode kMo_feed 59 = .ok (.iload 6, 2) := by decide +kernel
theorem dMo_feed_61 : decode kMo_feed 61 = .ok (.bipush 16, 2) := by decide +kernel
theorem dMo_feed_63 : decode kMo_feed 63 = .ok (.if_icmp .ge 8, 3) := by decide +kernel
theorem dMo_feed_66 : decode kMo_feed 66 = .ok (.iload 4, 2) := by decide +kernel
theorem dMo_feed_68 : decode kMo_feed 68 = .ok (.goto 5, 3) := by decide +kernel
theorem dMo_feed_71 : decode kMo_feed 71 = .ok (.iload 5, 2) := by decide +kernel
theorem dMo_feed_73 : decode kMo_feed 73 = .ok (.istore 7, 2) := by decide +kernel
theorem dMo_feed_75 : decode kMo_feed 75 = .ok (.aload_n 0, 1) := by decide +kernel
theorem dMo_feed_76 : decode kMo_feed 76 = .ok (.getfield 13, 3) := by decide +kernel
theorem dMo_feed_79 : decode kMo_feed 79 = .ok (.aload_n 0, 1) := by decide +kernel
theorem dMo_feed_80 : decode kMo_feed 80 = .ok (.getfield 65, 3) := by decide +kernel
theorem dMo_feed_83 : decode kMo_feed 83 = .ok (.iload 6, 2) := by decide +kernel
theorem dMo_feed_85 : decode kMo_feed 85 = .ok (.iadd, 1) := by decide +kernel
theorem dMo_feed_86 : decode kMo_feed 86 = .ok (.iload 7, 2) := by decide +kernel
theorem dMo_feed_88 : decode kMo_feed 88 = .ok (.bipush 24, 2) := by decide +kernel
theorem dMo_feed_90 : decode kMo_feed 90 = .ok (.iload 6, 2) := by decide +kernel
theorem dMo_feed_92 : decode kMo_feed 92 = .ok (.iconst 4, 1) := by decide +kernel
theorem dMo_feed_93 : decode kMo_feed 93 = .ok (.irem, 1) := by decide +kernel
theorem dMo_feed_94 : decode kMo_feed 94 = .ok (.bipush 8, 2) := by decide +kernel
theorem dMo_feed_96 : decode kMo_feed 96 = .ok (.imul, 1) := by decide +kernel
theorem dMo_feed_97 : decode kMo_feed 97 = .ok (.isub, 1) := by decide +kernel
theorem dMo_feed_98 : decode kMo_feed 98 = .ok (.ishr, 1) := by decide +kernel
theorem dMo_feed_99 : decode kMo_feed 99 = .ok (.sipush 255, 3) := by decide +kernel
theorem dMo_feed_102 : decode kMo_feed 102 = .ok (.iand, 1) := by decide +kernel
theorem dMo_feed_103 : decode kMo_feed 103 = .ok (.iastore, 1) := by decide +kernel
theorem dMo_feed_104 : decode kMo_feed 104 = .ok (.iinc 6 1, 3) := by decide +kernel
theorem dMo_feed_107 : decode kMo_feed 107 = .ok (.goto (-87), 3) := by decide +kernel
theorem dMo_feed_110 : decode kMo_feed 110 = .ok (.aload_n 0, 1) := by decide +kernel
theorem dMo_feed_111 : decode kMo_feed 111 = .ok (.aload_n 0, 1) := by decide +kernel
theorem dMo_feed_112 : decode kMo_feed 112 = .ok (.getfield 65, 3) := by decide +kernel
theorem dMo_feed_115 : decode kMo_feed 115 = .ok (.bipush 20, 2) := by decide +kernel
theorem dMo_feed_117 : decode kMo_feed 117 = .ok (.iadd, 1) := by decide +kernel
theorem dMo_feed_118 : decode kMo_feed 118 = .ok (.putfield 65, 3) := by decide +kernel
theorem dMo_feed_121 : decode kMo_feed 121 = .ok (.aload_n 0, 1) := by decide +kernel
theorem dMo_feed_122 : decode kMo_feed 122 = .ok (.getfield 65, 3) := by decide +kernel
theorem dMo_feed_125 : decode kMo_feed 125 = .ok (.ireturn, 1) := by decide +kernel
theorem dMo_end_0 : decode kMo_end 0 = .ok (.aload_n 0, 1) := by decide +kernel
theorem dMo_end_1 : decode kMo_end 1 = .ok (.iconst 0, 1) := by decide +kernel
theorem dMo_end_2 : decode kMo_end 2 = .ok (.putfield 1, 3) := by decide +kernel
theorem dMo_end_5 : decode kMo_end 5 = .ok (.iload_n 1, 1) := by decide +kernel
theorem dMo_end_6 : decode kMo_end 6 = .ok (.iconst 0, 1) := by decide +kernel
theorem dMo_end_7 : decode kMo_end 7 = .ok (.bipush 20, 2) := by decide +kernel
theorem dMo_end_9 : decode kMo_end 9 = .ok (.invokestatic 68, 3) := by decide +kernel
theorem dMo_end_12 : decode kMo_end 12 = .ok (.ifCond .eq 12, 3) := by decide +kernel
theorem dMo_end_15 : decode kMo_end 15 = .ok (.aload_n 0, 1) := by decide +kernel
theorem dMo_end_16 : decode kMo_end 16 = .ok (.getfield 65, 3) := by decide +kernel
theorem dMo_end_19 : decode kMo_end 19 = .ok (.bipush 20, 2) := by decide +kernel
theorem dMo_end_21 : decode kMo_end 21 = .ok (.if_icmp .ge 5, 3) := by decide +kernel
theorem dMo_end_24 : decode kMo_end 24 = .ok (.iconst (-1), 1) := by decide +kernel
theorem dMo_end_25 : decode kMo_end 25 = .ok (.ireturn, 1) := by decide +kernel
theorem dMo_end_26 : decode kMo_end 26 = .ok (.aload_n 0, 1) := by decide +kernel
theorem dMo_end_27 : decode kMo_end 27 = .ok (.aload_n 0, 1) := by decide +kernel
theorem dMo_end_28 : decode kMo_end 28 = .ok (.getfield 65, 3) := by decide +kernel
theorem dMo_end_31 : decode kMo_end 31 = .ok (.bipush 20, 2) := by decide +kernel
theorem dMo_end_33 : decode kMo_end 33 = .ok (.isub, 1) := by decide +kernel
theorem dMo_end_34 : decode kMo_end 34 = .ok (.iload_n 1, 1) := by decide +kernel
theorem dMo_end_35 : decode kMo_end 35 = .ok (.iadd, 1) := by decide +kernel
theorem dMo_end_36 : decode kMo_end 36 = .ok (.putfield 65, 3) := by decide +kernel
theorem dMo_end_39 : decode kMo_end 39 = .ok (.aload_n 0, 1) := by decide +kernel
theorem dMo_end_40 : decode kMo_end 40 = .ok (.getfield 65, 3) := by decide +kernel
theorem dMo_end_43 : decode kMo_end 43 = .ok (.ireturn, 1) := by decide +kernel
theorem dMo_step_0 : decode kMo_step 0 = .ok (.bipush 33, 2) := by decide +kernel
theorem dMo_step_2 : decode kMo_step 2 = .ok (.iload_n 0, 1) := by decide +kernel
theorem dMo_step_3 : decode kMo_step 3 = .ok (.imul, 1) := by decide +kernel
theorem dMo_step_4 : decode kMo_step 4 = .ok (.iload_n 1, 1) := by decide +kernel
theorem dMo_step_5 : decode kMo_step 5 = .ok (.ixor, 1) := by decide +kernel
theorem dMo_step_6 : decode kMo_step 6 = .ok (.ldc 72, 2) := by decide +kernel
theorem dMo_step_8 : decode kMo_step 8 = .ok (.iand, 1) := by decide +kernel
theorem dMo_step_9 : decode kMo_step 9 = .ok (.ireturn, 1) := by decide +kernel
theorem dMo_sum_0 : decode kMo_sum 0 = .ok (.sipush 5381, 3) := by decide +kernel
theorem dMo_sum_3 : decode kMo_sum 3 = .ok (.istore_n 3, 1) := by decide +kernel
theorem dMo_sum_4 : decode kMo_sum 4 = .ok (.iconst 0, 1) := by decide +kernel
theorem dMo_sum_5 : decode kMo_sum 5 = .ok (.istore 4, 2) := by decide +kernel
theorem dMo_sum_7 : decode kMo_sum 7 = .ok (.iload 4, 2) := by decide +kernel
theorem dMo_sum_9 : decode kMo_sum 9 = .ok (.iload_n 2, 1) := by decide +kernel
theorem dMo_sum_10 : decode kMo_sum 10 = .ok (.if_icmp .ge 20, 3) := by decide +kernel
theorem dMo_sum_13 : decode kMo_sum 13 = .ok (.iload_n 3, 1) := by decide +kernel
theorem dMo_sum_14 : decode kMo_sum 14 = .ok (.aload_n 0, 1) := by decide +kernel
theorem dMo_sum_15 : decode kMo_sum 15 = .ok (.iload_n 1, 1) := by decide +kernel
theorem dMo_sum_16 : decode kMo_sum 16 = .ok (.iload 4, 2) := by decide +kernel
theorem dMo_sum_18 : decode kMo_sum 18 = .ok (.iadd, 1) := by decide +kernel
theorem dMo_sum_19 : decode kMo_sum 19 = .ok (.iaload, 1) := by decide +kernel
theorem dMo_sum_20 : decode kMo_sum 20 = .ok (.invokestatic 73, 3) := by decide +kernel
theorem dMo_sum_23 : decode kMo_sum 23 = .ok (.istore_n 3, 1) := by decide +kernel
theorem dMo_sum_24 : decode kMo_sum 24 = .ok (.iinc 4 1, 3) := by decide +kernel
theorem dMo_sum_27 : decode kMo_sum 27 = .ok (.goto (-20), 3) := by decide +kernel
theorem dMo_sum_30 : decode kMo_sum 30 = .ok (.iload_n 3, 1) := by decide +kernel
theorem dMo_sum_31 : decode kMo_sum 31 = .ok (.ireturn, 1) := by decide +kernel
theorem dMo_entry_0 : decode kMo_entry 0 = .ok (.aload_n 0, 1) := by decide +kernel
theorem dMo_entry_1 : decode kMo_entry 1 = .ok (.iconst 0, 1) := by decide +kernel
theorem dMo_entry_2 : decode kMo_entry 2 = .ok (.putfield 1, 3) := by decide +kernel
theorem dMo_entry_5 : decode kMo_entry 5 = .ok (.aload_n 0, 1) := by decide +kernel
theorem dMo_entry_6 : decode kMo_entry 6 = .ok (.getfield 77, 3) := by decide +kernel
theorem dMo_entry_9 : decode kMo_entry 9 = .ok (.bipush 20, 2) := by decide +kernel
theorem dMo_entry_11 : decode kMo_entry 11 = .ok (.if_icmp .ne 6, 3) := by decide +kernel
theorem dMo_entry_14 : decode kMo_entry 14 = .ok (.bipush (-3), 2) := by decide +kernel
theorem dMo_entry_16 : decode kMo_entry 16 = .ok (.ireturn, 1) := by decide +kernel
theorem dMo_entry_17 : decode kMo_entry 17 = .ok (.aload_n 0, 1) := by decide +kernel
theorem dMo_entry_18 : decode kMo_entry 18 = .ok (.getfield 20, 3) := by decide +kernel
theorem dMo_entry_21 : decode kMo_entry 21 = .ok (.aload_n 0, 1) := by decide +kernel
theorem dMo_entry_22 : decode kMo_entry 22 = .ok (.getfield 77, 3) := by decide +kernel
theorem dMo_entry_25 : decode kMo_entry 25 = .ok (.iaload, 1) := by decide +kernel
theorem dMo_entry_26 : decode kMo_entry 26 = .ok (.istore_n 1, 1) := by decide +kernel
theorem dMo_entry_27 : decode kMo_entry 27 = .ok (.aload_n 0, 1) := by decide +kernel
theorem dMo_entry_28 : decode kMo_entry 28 = .ok (.getfield 13, 3) := by decide +kernel
theorem dMo_entry_31 : decode kMo_entry 31 = .ok (.iconst 0, 1) := by decide +kernel
theorem dMo_entry_32 : decode kMo_entry 32 = .ok (.aload_n 0, 1) := by decide +kernel
theorem dMo_entry_33 : decode kMo_entry 33 = .ok (.getfield 65, 3) := by decide +kernel
theorem dMo_entry_36 : decode kMo_entry 36 = .ok (.invokestatic 80, 3) := by decide +kernel
theorem dMo_entry_39 : decode kMo_entry 39 = .ok (.istore_n 2, 1) := by decide +kernel
theorem dMo_entry_40 : decode kMo_entry 40 = .ok (.aload_n 0, 1) := by decide +kernel
theorem dMo_entry_41 : decode kMo_entry 41 = .ok (.getfield 17, 3) := by decide +kernel
theorem dMo_entry_44 : decode kMo_entry 44 = .ok (.iload_n 1, 1) := by decide +kernel
theorem dMo_entry_45 : decode kMo_entry 45 = .ok (.aload_n 0, 1) := by decide +kernel
theorem dMo_entry_46 : decode kMo_entry 46 = .ok (.getfield 65, 3) := by decide +kernel
theorem dMo_entry_49 : decode kMo_entry 49 = .ok (.iastore, 1) := by decide +kernel
theorem dMo_entry_50 : decode kMo_entry 50 = .ok (.aload_n 0, 1) := by decide +kernel
theorem dMo_entry_51 : decode kMo_entry 51 = .ok (.getfield 17, 3) := by decide +kernel
theorem dMo_entry_54 : decode kMo_entry 54 = .ok (.iload_n 1, 1) := by decide +kernel
theorem dMo_entry_55 : decode kMo_entry 55 = .ok (.iconst 1, 1) := by decide +kernel
theorem dMo_entry_56 : decode kMo_entry 56 = .ok (.iadd, 1) := by decide +kernel
theorem dMo_entry_57 : decode kMo_entry 57 = .ok (.iload_n 2, 1) := by decide +kernel
theorem dMo_entry_58 : decode kMo_entry 58 = .ok (.sipush 256, 3) := by decide +kernel
theorem dMo_entry_61 : decode kMo_entry 61 = .ok (.irem, 1) := by decide +kernel
theorem dMo_entry_62 : decode kMo_entry 62 = .ok (.iastore, 1) := by decide +kernel
theorem dMo_entry_63 : decode kMo_entry 63 = .ok (.aload_n 0, 1) := by decide +kernel
theorem dMo_entry_64 : decode kMo_entry 64 = .ok (.getfield 17, 3) := by decide +kernel
theorem dMo_entry_67 : decode kMo_entry 67 = .ok (.iload_n 1, 1) := by decide +kernel
theorem dMo_entry_68 : decode kMo_entry 68 = .ok (.iconst 2, 1) := by decide +kernel
theorem dMo_entry_69 : decode kMo_entry 69 = .ok (.iadd, 1) := by decide +kernel
theorem dMo_entry_70 : decode kMo_entry 70 = .ok (.iload_n 2, 1) := by decide +kernel
theorem dMo_entry_71 : decode kMo_entry 71 = .ok (.sipush 256, 3) := by decide +kernel
theorem dMo_entry_74 : decode kMo_entry 74 = .ok (.idiv, 1) := by decide +kernel
theorem dMo_entry_75 : decode kMo_entry 75 = .ok (.iastore, 1) := by decide +kernel
theorem dMo_entry_76 : decode kMo_entry 76 = .ok (.iconst 0, 1) := by decide +kernel
theorem dMo_entry_77 : decode kMo_entry 77 = .ok (.istore_n 3, 1) := by decide +kernel
theorem dMo_entry_78 : decode kMo_entry 78 = .ok (.iload_n 3, 1) := by decide +kernel
theorem dMo_entry_79 : decode kMo_entry 79 = .ok (.aload_n 0, 1) := by decide +kernel
theorem dMo_entry_80 : decode kMo_entry 80 = .ok (.getfield 65, 3) := by decide +kernel
theorem dMo_entry_83 : decode kMo_entry 83 = .ok (.if_icmp .ge 25, 3) := by decide +kernel
theorem dMo_entry_86 : decode kMo_entry 86 = .ok (.aload_n 0, 1) := by decide +kernel
theorem dMo_entry_87 : decode kMo_entry 87 = .ok (.getfield 17, 3) := by decide +kernel
theorem dMo_entry_90 : decode kMo_entry 90 = .ok (.iload_n 1, 1) := by decide +kernel
theorem dMo_entry_91 : decode kMo_entry 91 = .ok (.iconst 3, 1) := by decide +kernel
theorem dMo_entry_92 : decode kMo_entry 92 = .ok (.iadd, 1) := by decide +kernel
theorem dMo_entry_93 : decode kMo_entry 93 = .ok (.iload_n 3, 1) := by decide +kernel
theorem dMo_entry_94 : decode kMo_entry 94 = .ok (.iadd, 1) := by decide +kernel
theorem dMo_entry_95 : decode kMo_entry 95 = .ok (.aload_n 0, 1) := by decide +kernel
theorem dMo_entry_96 : decode kMo_entry 96 = .ok (.getfield 13, 3) := by decide +kernel
theorem dMo_entry_99 : decode kMo_entry 99 = .ok (.iload_n 3, 1) := by decide +kernel
theorem dMo_entry_100 : decode kMo_entry 100 = .ok (.iaload, 1) := by decide +kernel
theorem dMo_entry_101 : decode kMo_entry 101 = .ok (.iastore, 1) := by decide +kernel
theorem dMo_entry_102 : decode kMo_entry 102 = .ok (.iinc 3 1, 3) := by decide +kernel
theorem dMo_entry_105 : decode kMo_entry 105 = .ok (.goto (-27), 3) := by decide +kernel
theorem dMo_entry_108 : decode kMo_entry 108 = .ok (.aload_n 0, 1) := by decide +kernel
theorem dMo_entry_109 : decode kMo_entry 109 = .ok (.dup, 1) := by decide +kernel
theorem dMo_entry_110 : decode kMo_entry 110 = .ok (.getfield 77, 3) := by decide +kernel
theorem dMo_entry_113 : decode kMo_entry 113 = .ok (.iconst 1, 1) := by decide +kernel
theorem dMo_entry_114 : decode kMo_entry 114 = .ok (.iadd, 1) := by decide +kernel
theorem dMo_entry_115 : decode kMo_entry 115 = .ok (.putfield 77, 3) := by decide +kernel
theorem dMo_entry_118 : decode kMo_entry 118 = .ok (.aload_n 0, 1) := by decide +kernel
theorem dMo_entry_119 : decode kMo_entry 119 = .ok (.getfield 20, 3) := by decide +kernel
theorem dMo_entry_122 : decode kMo_entry 122 = .ok (.aload_n 0, 1) := by decide +kernel
theorem dMo_entry_123 : decode kMo_entry 123 = .ok (.getfield 77, 3) := by decide +kernel
theorem dMo_entry_126 : decode kMo_entry 126 = .ok (.iload_n 1, 1) := by decide +kernel
theorem dMo_entry_127 : decode kMo_entry 127 = .ok (.iconst 3, 1) := by decide +kernel
theorem dMo_entry_128 : decode kMo_entry 128 = .ok (.iadd, 1) := by decide +kernel
theorem dMo_entry_129 : decode kMo_entry 129 = .ok (.aload_n 0, 1) := by decide +kernel
theorem dMo_entry_130 : decode kMo_entry 130 = .ok (.getfield 65, 3) := by decide +kernel
theorem dMo_entry_133 : decode kMo_entry 133 = .ok (.iadd, 1) := by decide +kernel
theorem dMo_entry_134 : decode kMo_entry 134 = .ok (.iastore, 1) := by decide +kernel
theorem dMo_entry_135 : decode kMo_entry 135 = .ok (.aload_n 0, 1) := by decide +kernel
theorem dMo_entry_136 : decode kMo_entry 136 = .ok (.iconst 0, 1) := by decide +kernel
theorem dMo_entry_137 : decode kMo_entry 137 = .ok (.putfield 65, 3) := by decide +kernel
theorem dMo_entry_140 : decode kMo_entry 140 = .ok (.aload_n 0, 1) := by decide +kernel
theorem dMo_entry_141 : decode kMo_entry 141 = .ok (.getfield 77, 3) := by decide +kernel
theorem dMo_entry_144 : decode kMo_entry 144 = .ok (.iconst 1, 1) := by decide +kernel
theorem dMo_entry_145 : decode kMo_entry 145 = .ok (.isub, 1) := by decide +kernel
theorem dMo_entry_146 : decode kMo_entry 146 = .ok (.ireturn, 1) := by decide +kernel
theorem dMo_clear_0 : decode kMo_clear 0 = .ok (.aload_n 0, 1) := by decide +kernel
theorem dMo_clear_1 : decode kMo_clear 1 = .ok (.iconst 0, 1) := by decide +kernel
theorem dMo_clear_2 : decode kMo_clear 2 = .ok (.putfield 1, 3) := by decide +kernel
theorem dMo_clear_5 : decode kMo_clear 5 = .ok (.aload_n 0, 1) := by decide +kernel
theorem dMo_clear_6 : decode kMo_clear 6 = .ok (.getfield 77, 3) := by decide +kernel
theorem dMo_clear_9 : decode kMo_clear 9 = .ok (.istore_n 1, 1) := by decide +kernel
theorem dMo_clear_10 : decode kMo_clear 10 = .ok (.aload_n 0, 1) := by decide +kernel
theorem dMo_clear_11 : decode kMo_clear 11 = .ok (.iconst 0, 1) := by decide +kernel
theorem dMo_clear_12 : decode kMo_clear 12 = .ok (.putfield 77, 3) := by decide +kernel
theorem dMo_clear_15 : decode kMo_clear 15 = .ok (.iload_n 1, 1) := by decide +kernel
theorem dMo_clear_16 : decode kMo_clear 16 = .ok (.ireturn, 1) := by decide +kernel
theorem dMo_rule_0 : decode kMo_rule 0 = .ok (.aload_n 0, 1) := by decide +kernel
theorem dMo_rule_1 : decode kMo_rule 1 = .ok (.iconst 0, 1) := by decide +kernel
theorem dMo_rule_2 : decode kMo_rule 2 = .ok (.putfield 1, 3) := by decide +kernel
theorem dMo_rule_5 : decode kMo_rule 5 = .ok (.iload_n 1, 1) := by decide +kernel
theorem dMo_rule_6 : decode kMo_rule 6 = .ok (.ifCond .ne 14, 3) := by decide +kernel
theorem dMo_rule_9 : decode kMo_rule 9 = .ok (.iload_n 2, 1) := by decide +kernel
theorem dMo_rule_10 : decode kMo_rule 10 = .ok (.bipush 20, 2) := by decide +kernel
theorem dMo_rule_12 : decode kMo_rule 12 = .ok (.bipush 80, 2) := by decide +kernel
theorem dMo_rule_14 : decode kMo_rule 14 = .ok (.invokestatic 68, 3) := by decide +kernel
theorem dMo_rule_17 : decode kMo_rule 17 = .ok (.goto 38, 3) := by decide +kernel
theorem dMo_rule_20 : decode kMo_rule 20 = .ok (.iload_n 1, 1) := by decide +kernel
theorem dMo_rule_21 : decode kMo_rule 21 = .ok (.iconst 1, 1) := by decide +kernel
theorem dMo_rule_22 : decode kMo_rule 22 = .ok (.if_icmp .ne 12, 3) := by decide +kernel
theorem dMo_rule_25 : decode kMo_rule 25 = .ok (.iload_n 2, 1) := by decide +kernel
theorem dMo_rule_26 : decode kMo_rule 26 = .ok (.iconst 0, 1) := by decide +kernel
theorem dMo_rule_27 : decode kMo_rule 27 = .ok (.iconst 3, 1) := by decide +kernel
theorem dMo_rule_28 : decode kMo_rule 28 = .ok (.invokestatic 68, 3) := by decide +kernel
theorem dMo_rule_31 : decode kMo_rule 31 = .ok (.goto 24, 3) := by decide +kernel
theorem dMo_rule_34 : decode kMo_rule 34 = .ok (.iload_n 1, 1) := by decide +kernel
theorem dMo_rule_35 : decode kMo_rule 35 = .ok (.iconst 2, 1) := by decide +kernel
theorem dMo_rule_36 : decode kMo_rule 36 = .ok (.if_icmp .ne 18, 3) := by decide +kernel
theorem dMo_rule_39 : decode kMo_rule 39 = .ok (.iload_n 2, 1) := by decide +kernel
theorem dMo_rule_40 : decode kMo_rule 40 = .ok (.iconst 0, 1) := by decide +kernel
theorem dMo_rule_41 : decode kMo_rule 41 = .ok (.sipush 255, 3) := by decide +kernel
theorem dMo_rule_44 : decode kMo_rule 44 = .ok (.invokestatic 68, 3) := by decide +kernel
theorem dMo_rule_47 : decode kMo_rule 47 = .ok (.ifCond .eq 7, 3) := by decide +kernel
theorem dMo_rule_50 : decode kMo_rule 50 = .ok (.iconst 1, 1) := by decide +kernel
theorem dMo_rule_51 : decode kMo_rule 51 = .ok (.goto 4, 3) := by decide +kernel
theorem dMo_rule_54 : decode kMo_rule 54 = .ok (.iconst 0, 1) := by decide +kernel
theorem dMo_rule_55 : decode kMo_rule 55 = .ok (.istore_n 3, 1) := by decide +kernel
theorem dMo_rule_56 : decode kMo_rule 56 = .ok (.iload_n 3, 1) := by decide +kernel
theorem dMo_rule_57 : decode kMo_rule 57 = .ok (.ifCond .ne 5, 3) := by decide +kernel
theorem dMo_rule_60 : decode kMo_rule 60 = .ok (.iconst (-1), 1) := by decide +kernel
theorem dMo_rule_61 : decode kMo_rule 61 = .ok (.ireturn, 1) := by decide +kernel
theorem dMo_rule_62 : decode kMo_rule 62 = .ok (.iload_n 1, 1) := by decide +kernel
theorem dMo_rule_63 : decode kMo_rule 63 = .ok (.ifCond .ne 10, 3) := by decide +kernel
theorem dMo_rule_66 : decode kMo_rule 66 = .ok (.aload_n 0, 1) := by decide +kernel
theorem dMo_rule_67 : decode kMo_rule 67 = .ok (.getfield 23, 3) := by decide +kernel
theorem dMo_rule_70 : decode kMo_rule 70 = .ok (.goto 19, 3) := by decide +kernel
theorem dMo_rule_73 : decode kMo_rule 73 = .ok (.iload_n 1, 1) := by decide +kernel
theorem dMo_rule_74 : decode kMo_rule 74 = .ok (.iconst 1, 1) := by decide +kernel
theorem dMo_rule_75 : decode kMo_rule 75 = .ok (.if_icmp .ne 10, 3) := by decide +kernel
theorem dMo_rule_78 : decode kMo_rule 78 = .ok (.aload_n 0, 1) := by decide +kernel
theorem dMo_rule_79 : decode kMo_rule 79 = .ok (.getfield 84, 3) := by decide +kernel
theorem dMo_rule_82 : decode kMo_rule 82 = .ok (.goto 7, 3) := by decide +kernel
theorem dMo_rule_85 : decode kMo_rule 85 = .ok (.aload_n 0, 1) := by decide +kernel
theorem dMo_rule_86 : decode kMo_rule 86 = .ok (.getfield 87, 3) := by decide +kernel
theorem dMo_rule_89 : decode kMo_rule 89 = .ok (.istore 4, 2) := by decide +kernel
theorem dMo_rule_91 : decode kMo_rule 91 = .ok (.aload_n 0, 1) := by decide +kernel
theorem dMo_rule_92 : decode kMo_rule 92 = .ok (.iload_n 1, 1) := by decide +kernel
theorem dMo_rule_93 : decode kMo_rule 93 = .ok (.ifCond .ne 7, 3) := by decide +kernel
theorem dMo_rule_96 : decode kMo_rule 96 = .ok (.iload_n 2, 1) := by decide +kernel
theorem dMo_rule_97 : decode kMo_rule 97 = .ok (.goto 7, 3) := by decide +kernel
theorem dMo_rule_100 : decode kMo_rule 100 = .ok (.aload_n 0, 1) := by decide +kernel
theorem dMo_rule_101 : decode kMo_rule 101 = .ok (.getfield 23, 3) := by decide +kernel
theorem dMo_rule_104 : decode kMo_rule 104 = .ok (.putfield 23, 3) := by decide +kernel
theorem dMo_rule_107 : decode kMo_rule 107 = .ok (.aload_n 0, 1) := by decide +kernel
theorem dMo_rule_108 : decode kMo_rule 108 = .ok (.iload_n 1, 1) := by decide +kernel
theorem dMo_rule_109 : decode kMo_rule 109 = .ok (.iconst 1, 1) := by decide +kernel
theorem dMo_rule_110 : decode kMo_rule 110 = .ok (.if_icmp .ne 7, 3) := by decide +kernel
theorem dMo_rule_113 : decode kMo_rule 113 = .ok (.iload_n 2, 1) := by decide +kernel
theorem dMo_rule_114 : decode kMo_rule 114 = .ok (.goto 7, 3) := by decide +kernel
theorem dMo_rule_117 : decode kMo_rule 117 = .ok (.aload_n 0, 1) := by decide +kernel
theorem dMo_rule_118 : decode kMo_rule 118 = .ok (.getfield 84, 3) := by decide +kernel
theorem dMo_rule_121 : decode kMo_rule 121 = .ok (.putfield 84, 3) := by decide +kernel
theorem dMo_rule_124 : decode kMo_rule 124 = .ok (.aload_n 0, 1) := by decide +kernel
theorem dMo_rule_125 : decode kMo_rule 125 = .ok (.iload_n 1, 1) := by decide +kernel
theorem dMo_rule_126 : decode kMo_rule 126 = .ok (.iconst 2, 1) := by decide +kernel
theorem dMo_rule_127 : decode kMo_rule 127 = .ok (.if_icmp .ne 7, 3) := by decide +kernel
theorem dMo_rule_130 : decode kMo_rule 130 = .ok (.iload_n 2, 1) := by decide +kernel
theorem dMo_rule_131 : decode kMo_rule 131 = .ok (.goto 7, 3) := by decide +kernel
theorem dMo_rule_134 : decode kMo_rule 134 = .ok (.aload_n 0, 1) := by decide +kernel
theorem dMo_rule_135 : decode kMo_rule 135 = .ok (.getfield 87, 3) := by decide +kernel
theorem dMo_rule_138 : decode kMo_rule 138 = .ok (.putfield 87, 3) := by decide +kernel
theorem dMo_rule_141 : decode kMo_rule 141 = .ok (.iload 4, 2) := by decide +kernel
theorem dMo_rule_143 : decode kMo_rule 143 = .ok (.ireturn, 1) := by decide +kernel
theorem dMo_length_0 : decode kMo_length 0 = .ok (.aload_n 0, 1) := by decide +kernel
theorem dMo_length_1 : decode kMo_length 1 = .ok (.getfield 20, 3) := by decide +kernel
theorem dMo_length_4 : decode kMo_length 4 = .ok (.aload_n 0, 1) := by decide +kernel
theorem dMo_length_5 : decode kMo_length 5 = .ok (.getfield 77, 3) := by decide +kernel
theorem dMo_length_8 : decode kMo_length 8 = .ok (.iaload, 1) := by decide +kernel
theorem dMo_length_9 : decode kMo_length 9 = .ok (.ireturn, 1) := by decide +kernel
theorem dMo_piece_0 : decode kMo_piece 0 = .ok (.aload_n 0, 1) := by decide +kernel
theorem dMo_piece_1 : decode kMo_piece 1 = .ok (.getfield 23, 3) := by decide +kernel
theorem dMo_piece_4 : decode kMo_piece 4 = .ok (.bipush 12, 2) := by decide +kernel
theorem dMo_piece_6 : decode kMo_piece 6 = .ok (.isub, 1) := by decide +kernel
theorem dMo_piece_7 : decode kMo_piece 7 = .ok (.ireturn, 1) := by decide +kernel
theorem dMo_pieces_0 : decode kMo_pieces 0 = .ok (.aload_n 0, 1) := by decide +kernel
theorem dMo_pieces_1 : decode kMo_pieces 1 = .ok (.invokevirtual 90, 3) := by decide +kernel
theorem dMo_pieces_4 : decode kMo_pieces 4 = .ok (.ifCond .ne 7, 3) := by decide +kernel
theorem dMo_pieces_7 : decode kMo_pieces 7 = .ok (.iconst 1, 1) := by decide +kernel
theorem dMo_pieces_8 : decode kMo_pieces 8 = .ok (.goto 19, 3) := by decide +kernel
theorem dMo_pieces_11 : decode kMo_pieces 11 = .ok (.aload_n 0, 1) := by decide +kernel
theorem dMo_pieces_12 : decode kMo_pieces 12 = .ok (.invokevirtual 90, 3) := by decide +kernel
theorem dMo_pieces_15 : decode kMo_pieces 15 = .ok (.aload_n 0, 1) := by decide +kernel
theorem dMo_pieces_16 : decode kMo_pieces 16 = .ok (.invokevirtual 94, 3) := by decide +kernel
theorem dMo_pieces_19 : decode kMo_pieces 19 = .ok (.iadd, 1) := by decide +kernel
theorem dMo_pieces_20 : decode kMo_pieces 20 = .ok (.iconst 1, 1) := by decide +kernel
theorem dMo_pieces_21 : decode kMo_pieces 21 = .ok (.isub, 1) := by decide +kernel
theorem dMo_pieces_22 : decode kMo_pieces 22 = .ok (.aload_n 0, 1) := by decide +kernel
theorem dMo_pieces_23 : decode kMo_pieces 23 = .ok (.invokevirtual 94, 3) := by decide +kernel
theorem dMo_pieces_26 : decode kMo_pieces 26 = .ok (.idiv, 1) := by decide +kernel
theorem dMo_pieces_27 : decode kMo_pieces 27 = .ok (.ireturn, 1) := by decide +kernel
theorem dMo_volumes_0 : decode kMo_volumes 0 = .ok (.aload_n 0, 1) := by decide +kernel
theorem dMo_volumes_1 : decode kMo_volumes 1 = .ok (.iconst 0, 1) := by decide +kernel
theorem dMo_volumes_2 : decode kMo_volumes 2 = .ok (.putfield 1, 3) := by decide +kernel
theorem dMo_volumes_5 : decode kMo_volumes 5 = .ok (.aload_n 0, 1) := by decide +kernel
theorem dMo_volumes_6 : decode kMo_volumes 6 = .ok (.invokevirtual 97, 3) := by decide +kernel
theorem dMo_volumes_9 : decode kMo_volumes 9 = .ok (.aload_n 0, 1) := by decide +kernel
theorem dMo_volumes_10 : decode kMo_volumes 10 = .ok (.getfield 84, 3) := by decide +kernel
theorem dMo_volumes_13 : decode kMo_volumes 13 = .ok (.iadd, 1) := by decide +kernel
theorem dMo_volumes_14 : decode kMo_volumes 14 = .ok (.bipush 60, 2) := by decide +kernel
theorem dMo_volumes_16 : decode kMo_volumes 16 = .ok (.if_icmp .le 8, 3) := by decide +kernel
theorem dMo_volumes_19 : decode kMo_volumes 19 = .ok (.bipush (-3), 2) := by decide +kernel
theorem dMo_volumes_21 : decode kMo_volumes 21 = .ok (.goto 12, 3) := by decide +kernel
theorem dMo_volumes_24 : decode kMo_volumes 24 = .ok (.aload_n 0, 1) := by decide +kernel
theorem dMo_volumes_25 : decode kMo_volumes 25 = .ok (.invokevirtual 97, 3) := by decide +kernel
theorem dMo_volumes_28 : decode kMo_volumes 28 = .ok (.aload_n 0, 1) := by decide +kernel
theorem dMo_volumes_29 : decode kMo_volumes 29 = .ok (.getfield 84, 3) := by decide +kernel
theorem dMo_volumes_32 : decode kMo_volumes 32 = .ok (.iadd, 1) := by decide +kernel
theorem dMo_volumes_33 : decode kMo_volumes 33 = .ok (.ireturn, 1) := by decide +kernel
theorem dMo_times_0 : decode kMo_times 0 = .ok (.iconst 0, 1) := by decide +kernel
theorem dMo_times_1 : decode kMo_times 1 = .ok (.istore_n 2, 1) := by decide +kernel
theorem dMo_times_2 : decode kMo_times 2 = .ok (.iload_n 0, 1) := by decide +kernel
theorem dMo_times_3 : decode kMo_times 3 = .ok (.istore_n 3, 1) := by decide +kernel
theorem dMo_times_4 : decode kMo_times 4 = .ok (.iconst 0, 1) := by decide +kernel
theorem dMo_times_5 : decode kMo_times 5 = .ok (.istore 4, 2) := by decide +kernel
theorem dMo_times_7 : decode kMo_times 7 = .ok (.iload 4, 2) := by decide +kernel
theorem dMo_times_9 : decode kMo_times 9 = .ok (.bipush 8, 2) := by decide +kernel
theorem dMo_times_11 : decode kMo_times 11 = .ok (.if_icmp .ge 50, 3) := by decide +kernel
theorem dMo_times_14 : decode kMo_times 14 = .ok (.iload_n 1, 1) := by decide +kernel
theorem dMo_times_15 : decode kMo_times 15 = .ok (.iload 4, 2) := by decide +kernel
theorem dMo_times_17 : decode kMo_times 17 = .ok (.ishr, 1) := by decide +kernel
theorem dMo_times_18 : decode kMo_times 18 = .ok (.iconst 1, 1) := by decide +kernel
theorem dMo_times_19 : decode kMo_times 19 = .ok (.iand, 1) := by decide +kernel
theorem dMo_times_20 : decode kMo_times 20 = .ok (.iconst 1, 1) := by decide +kernel
theorem dMo_times_21 : decode kMo_times 21 = .ok (.if_icmp .ne 9, 3) := by decide +kernel
theorem dMo_times_24 : decode kMo_times 24 = .ok (.iload_n 2, 1) := by decide +kernel
theorem dMo_times_25 : decode kMo_times 25 = .ok (.iload_n 3, 1) := by decide +kernel
theorem dMo_times_26 : decode kMo_times 26 = .ok (.ixor, 1) := by decide +kernel
theorem dMo_times_27 : decode kMo_times 27 = .ok (.goto 4, 3) := by decide +kernel
theorem dMo_times_30 : decode kMo_times 30 = .ok (.iload_n 2, 1) := by decide +kernel
theorem dMo_times_31 : decode kMo_times 31 = .ok (.istore_n 2, 1) := by decide +kernel
theorem dMo_times_32 : decode kMo_times 32 = .ok (.iload_n 3, 1) := by decide +kernel
theorem dMo_times_33 : decode kMo_times 33 = .ok (.bipush 127, 2) := by decide +kernel
theorem dMo_times_35 : decode kMo_times 35 = .ok (.if_icmp .le 16, 3) := by decide +kernel
theorem dMo_times_38 : decode kMo_times 38 = .ok (.iload_n 3, 1) := by decide +kernel
theorem dMo_times_39 : decode kMo_times 39 = .ok (.iconst 1, 1) := by decide +kernel
theorem dMo_times_40 : decode kMo_times 40 = .ok (.ishl, 1) := by decide +kernel
theorem dMo_times_41 : decode kMo_times 41 = .ok (.sipush 255, 3) := by decide +kernel
theorem dMo_times_44 : decode kMo_times 44 = .ok (.iand, 1) := by decide +kernel
theorem dMo_times_45 : decode kMo_times 45 = .ok (.bipush 29, 2) := by decide +kernel
theorem dMo_times_47 : decode kMo_times 47 = .ok (.ixor, 1) := by decide +kernel
theorem dMo_times_48 : decode kMo_times 48 = .ok (.goto 6, 3) := by decide +kernel
theorem dMo_times_51 : decode kMo_times 51 = .ok (.iload_n 3, 1) := by decide +kernel
theorem dMo_times_52 : decode kMo_times 52 = .ok (.iconst 1, 1) := by decide +kernel
theorem dMo_times_53 : decode kMo_times 53 = .ok (.ishl, 1) := by decide +kernel
theorem dMo_times_54 : decode kMo_times 54 = .ok (.istore_n 3, 1) := by decide +kernel
theorem dMo_times_55 : decode kMo_times 55 = .ok (.iinc 4 1, 3) := by decide +kernel
theorem dMo_times_58 : decode kMo_times 58 = .ok (.goto (-51), 3) := by decide +kernel
theorem dMo_times_61 : decode kMo_times 61 = .ok (.iload_n 2, 1) := by decide +kernel
theorem dMo_times_62 : decode kMo_times 62 = .ok (.ireturn, 1) := by decide +kernel
theorem dMo_power_0 : decode kMo_power 0 = .ok (.iconst 1, 1) := by decide +kernel
theorem dMo_power_1 : decode kMo_power 1 = .ok (.istore_n 1, 1) := by decide +kernel
theorem dMo_power_2 : decode kMo_power 2 = .ok (.iconst 0, 1) := by decide +kernel
theorem dMo_power_3 : decode kMo_power 3 = .ok (.istore_n 2, 1) := by decide +kernel
theorem dMo_power_4 : decode kMo_power 4 = .ok (.iload_n 2, 1) := by decide +kernel
theorem dMo_power_5 : decode kMo_power 5 = .ok (.iload_n 0, 1) := by decide +kernel
theorem dMo_power_6 : decode kMo_power 6 = .ok (.sipush 255, 3) := by decide +kernel
theorem dMo_power_9 : decode kMo_power 9 = .ok (.irem, 1) := by decide +kernel
theorem dMo_power_10 : decode kMo_power 10 = .ok (.if_icmp .ge 15, 3) := by decide +kernel
theorem dMo_power_13 : decode kMo_power 13 = .ok (.iload_n 1, 1) := by decide +kernel
theorem dMo_power_14 : decode kMo_power 14 = .ok (.iconst 2, 1) := by decide +kernel
theorem dMo_power_15 : decode kMo_power 15 = .ok (.invokestatic 100, 3) := by decide +kernel
theorem dMo_power_18 : decode kMo_power 18 = .ok (.istore_n 1, 1) := by decide +kernel
theorem dMo_power_19 : decode kMo_power 19 = .ok (.iinc 2 1, 3) := by decide +kernel
theorem dMo_power_22 : decode kMo_power 22 = .ok (.goto (-18), 3) := by decide +kernel
theorem dMo_power_25 : decode kMo_power 25 = .ok (.iload_n 1, 1) := by decide +kernel
theorem dMo_power_26 : decode kMo_power 26 = .ok (.ireturn, 1) := by decide +kernel
theorem dMo_over_0 : decode kMo_over 0 = .ok (.iconst 1, 1) := by decide +kernel
theorem dMo_over_1 : decode kMo_over 1 = .ok (.istore_n 1, 1) := by decide +kernel
theorem dMo_over_2 : decode kMo_over 2 = .ok (.iconst 0, 1) := by decide +kernel
theorem dMo_over_3 : decode kMo_over 3 = .ok (.istore_n 2, 1) := by decide +kernel
theorem dMo_over_4 : decode kMo_over 4 = .ok (.iload_n 2, 1) := by decide +kernel
theorem dMo_over_5 : decode kMo_over 5 = .ok (.sipush 254, 3) := by decide +kernel
theorem dMo_over_8 : decode kMo_over 8 = .ok (.if_icmp .ge 15, 3) := by decide +kernel
theorem dMo_over_11 : decode kMo_over 11 = .ok (.iload_n 1, 1) := by decide +kernel
theorem dMo_over_12 : decode kMo_over 12 = .ok (.iload_n 0, 1) := by decide +kernel
theorem dMo_over_13 : decode kMo_over 13 = .ok (.invokestatic 100, 3) := by decide +kernel
theorem dMo_over_16 : decode kMo_over 16 = .ok (.istore_n 1, 1) := by decide +kernel
theorem dMo_over_17 : decode kMo_over 17 = .ok (.iinc 2 1, 3) := by decide +kernel
theorem dMo_over_20 : decode kMo_over 20 = .ok (.goto (-16), 3) := by decide +kernel
theorem dMo_over_23 : decode kMo_over 23 = .ok (.iload_n 1, 1) := by decide +kernel
theorem dMo_over_24 : decode kMo_over 24 = .ok (.ireturn, 1) := by decide +kernel
theorem dMo_ofPiece_0 : decode kMo_ofPiece 0 = .ok (.iload_n 1, 1) := by decide +kernel
theorem dMo_ofPiece_1 : decode kMo_ofPiece 1 = .ok (.aload_n 0, 1) := by decide +kernel
theorem dMo_ofPiece_2 : decode kMo_ofPiece 2 = .ok (.invokevirtual 94, 3) := by decide +kernel
theorem dMo_ofPiece_5 : decode kMo_ofPiece 5 = .ok (.imul, 1) := by decide +kernel
theorem dMo_ofPiece_6 : decode kMo_ofPiece 6 = .ok (.istore_n 3, 1) := by decide +kernel
theorem dMo_ofPiece_7 : decode kMo_ofPiece 7 = .ok (.aload_n 0, 1) := by decide +kernel
theorem dMo_ofPiece_8 : decode kMo_ofPiece 8 = .ok (.invokevirtual 90, 3) := by decide +kernel
theorem dMo_ofPiece_11 : decode kMo_ofPiece 11 = .ok (.iload_n 3, 1) := by decide +kernel
theorem dMo_ofPiece_12 : decode kMo_ofPiece 12 = .ok (.isub, 1) := by decide +kernel
theorem dMo_ofPiece_13 : decode kMo_ofPiece 13 = .ok (.istore 4, 2) := by decide +kernel
theorem dMo_ofPiece_15 : decode kMo_ofPiece 15 = .ok (.iload 4, 2) := by decide +kernel
theorem dMo_ofPiece_17 : decode kMo_ofPiece 17 = .ok (.aload_n 0, 1) := by decide +kernel
theorem dMo_ofPiece_18 : decode kMo_ofPiece 18 = .ok (.invokevirtual 94, 3) := by decide +kernel
theorem dMo_ofPiece_21 : decode kMo_ofPiece 21 = .ok (.if_icmp .ge 8, 3) := by decide +kernel
theorem dMo_ofPiece_24 : decode kMo_ofPiece 24 = .ok (.iload 4, 2) := by decide +kernel
theorem dMo_ofPiece_26 : decode kMo_ofPiece 26 = .ok (.goto 7, 3) := by decide +kernel
theorem dMo_ofPiece_29 : decode kMo_ofPiece 29 = .ok (.aload_n 0, 1) := by decide +kernel
theorem dMo_ofPiece_30 : decode kMo_ofPiece 30 = .ok (.invokevirtual 94, 3) := by decide +kernel
theorem dMo_ofPiece_33 : decode kMo_ofPiece 33 = .ok (.istore 5, 2) := by decide +kernel
theorem dMo_ofPiece_35 : decode kMo_ofPiece 35 = .ok (.iload_n 2, 1) := by decide +kernel
theorem dMo_ofPiece_36 : decode kMo_ofPiece 36 = .ok (.ifCond .lt 22, 3) := by decide +kernel
theorem dMo_ofPiece_39 : decode kMo_ofPiece 39 = .ok (.iload_n 2, 1) := by decide +kernel
theorem dMo_ofPiece_40 : decode kMo_ofPiece 40 = .ok (.iload 5, 2) := by decide +kernel
theorem dMo_ofPiece_42 : decode kMo_ofPiece 42 = .ok (.if_icmp .ge 14, 3) := by decide +kernel
theorem dMo_ofPiece_45 : decode kMo_ofPiece 45 = .ok (.aload_n 0, 1) := by decide +kernel
theorem dMo_ofPiece_46 : decode kMo_ofPiece 46 = .ok (.getfield 17, 3) := by decide +kernel
theorem dMo_ofPiece_49 : decode kMo_ofPiece 49 = .ok (.iload_n 3, 1) := by decide +kernel
theorem dMo_ofPiece_50 : decode kMo_ofPiece 50 = .ok (.iload_n 2, 1) := by decide +kernel
theorem dMo_ofPiece_51 : decode kMo_ofPiece 51 = .ok (.iadd, 1) := by decide +kernel
theorem dMo_ofPiece_52 : decode kMo_ofPiece 52 = .ok (.iaload, 1) := by decide +kernel
theorem dMo_ofPiece_53 : decode kMo_ofPiece 53 = .ok (.goto 4, 3) := by decide +kernel
theorem dMo_ofPiece_56 : decode kMo_ofPiece 56 = .ok (.iconst 0, 1) := by decide +kernel
theorem dMo_ofPiece_57 : decode kMo_ofPiece 57 = .ok (.ireturn, 1) := by decide +kernel
theorem dMo_ofPiece_58 : decode kMo_ofPiece 58 = .ok (.iload_n 2, 1) := by decide +kernel
theorem dMo_ofPiece_59 : decode kMo_ofPiece 59 = .ok (.iconst (-1), 1) := by decide +kernel
theorem dMo_ofPiece_60 : decode kMo_ofPiece 60 = .ok (.if_icmp .ne 6, 3) := by decide +kernel
theorem dMo_ofPiece_63 : decode kMo_ofPiece 63 = .ok (.iload 5, 2) := by decide +kernel
theorem dMo_ofPiece_65 : decode kMo_ofPiece 65 = .ok (.ireturn, 1) := by decide +kernel
theorem dMo_ofPiece_66 : decode kMo_ofPiece 66 = .ok (.iconst 0, 1) := by decide +kernel
theorem dMo_ofPiece_67 : decode kMo_ofPiece 67 = .ok (.istore 6, 2) := by decide +kernel
theorem dMo_ofPiece_69 : decode kMo_ofPiece 69 = .ok (.iload 6, 2) := by decide +kernel
theorem dMo_ofPiece_71 : decode kMo_ofPiece 71 = .ok (.aload_n 0, 1) := by decide +kernel
theorem dMo_ofPiece_72 : decode kMo_ofPiece 72 = .ok (.getfield 77, 3) := by decide +kernel
theorem dMo_ofPiece_75 : decode kMo_ofPiece 75 = .ok (.if_icmp .ge 39, 3) := by decide +kernel
theorem dMo_ofPiece_78 : decode kMo_ofPiece 78 = .ok (.aload_n 0, 1) := by decide +kernel
theorem dMo_ofPiece_79 : decode kMo_ofPiece 79 = .ok (.getfield 20, 3) := by decide +kernel
theorem dMo_ofPiece_82 : decode kMo_ofPiece 82 = .ok (.iload 6, 2) := by decide +kernel
theorem dMo_ofPiece_84 : decode kMo_ofPiece 84 = .ok (.iaload, 1) := by decide +kernel
theorem dMo_ofPiece_85 : decode kMo_ofPiece 85 = .ok (.iload_n 3, 1) := by decide +kernel
theorem dMo_ofPiece_86 : decode kMo_ofPiece 86 = .ok (.iload_n 3, 1) := by decide +kernel
theorem dMo_ofPiece_87 : decode kMo_ofPiece 87 = .ok (.iload 5, 2) := by decide +kernel
theorem dMo_ofPiece_89 : decode kMo_ofPiece 89 = .ok (.iadd, 1) := by decide +kernel
theorem dMo_ofPiece_90 : decode kMo_ofPiece 90 = .ok (.iconst 1, 1) := by decide +kernel
theorem dMo_ofPiece_91 : decode kMo_ofPiece 91 = .ok (.isub, 1) := by decide +kernel
theorem dMo_ofPiece_92 : decode kMo_ofPiece 92 = .ok (.invokestatic 68, 3) := by decide +kernel
theorem dMo_ofPiece_95 : decode kMo_ofPiece 95 = .ok (.ifCond .eq 13, 3) := by decide +kernel
theorem dMo_ofPiece_98 : decode kMo_ofPiece 98 = .ok (.aload_n 0, 1) := by decide +kernel
theorem dMo_ofPiece_99 : decode kMo_ofPiece 99 = .ok (.getfield 20, 3) := by decide +kernel
theorem dMo_ofPiece_102 : decode kMo_ofPiece 102 = .ok (.iload 6, 2) := by decide +kernel
theorem dMo_ofPiece_104 : decode kMo_ofPiece 104 = .ok (.iaload, 1) := by decide +kernel
theorem dMo_ofPiece_105 : decode kMo_ofPiece 105 = .ok (.iload_n 3, 1) := by decide +kernel
theorem dMo_ofPiece_106 : decode kMo_ofPiece 106 = .ok (.isub, 1) := by decide +kernel
theorem dMo_ofPiece_107 : decode kMo_ofPiece 107 = .ok (.ireturn, 1) := by decide +kernel
theorem dMo_ofPiece_108 : decode kMo_ofPiece 108 = .ok (.iinc 6 1, 3) := by decide +kernel
theorem dMo_ofPiece_111 : decode kMo_ofPiece 111 = .ok (.goto (-42), 3) := by decide +kernel
theorem dMo_ofPiece_114 : decode kMo_ofPiece 114 = .ok (.sipush 255, 3) := by decide +kernel
theorem dMo_ofPiece_117 : decode kMo_ofPiece 117 = .ok (.ireturn, 1) := by decide +kernel
theorem dMo_ofVolume_0 : decode kMo_ofVolume 0 = .ok (.aload_n 0, 1) := by decide +kernel
theorem dMo_ofVolume_1 : decode kMo_ofVolume 1 = .ok (.invokevirtual 97, 3) := by decide +kernel
theorem dMo_ofVolume_4 : decode kMo_ofVolume 4 = .ok (.istore_n 3, 1) := by decide +kernel
theorem dMo_ofVolume_5 : decode kMo_ofVolume 5 = .ok (.iload_n 1, 1) := by decide +kernel
theorem dMo_ofVolume_6 : decode kMo_ofVolume 6 = .ok (.iload_n 3, 1) := by decide +kernel
theorem dMo_ofVolume_7 : decode kMo_ofVolume 7 = .ok (.if_icmp .ge 10, 3) := by decide +kernel
theorem dMo_ofVolume_10 : decode kMo_ofVolume 10 = .ok (.aload_n 0, 1) := by decide +kernel
theorem dMo_ofVolume_11 : decode kMo_ofVolume 11 = .ok (.iload_n 1, 1) := by decide +kernel
theorem dMo_ofVolume_12 : decode kMo_ofVolume 12 = .ok (.iload_n 2, 1) := by decide +kernel
theorem dMo_ofVolume_13 : decode kMo_ofVolume 13 = .ok (.invokevirtual 103, 3) := by decide +kernel
theorem dMo_ofVolume_16 : decode kMo_ofVolume 16 = .ok (.ireturn, 1) := by decide +kernel
theorem dMo_ofVolume_17 : decode kMo_ofVolume 17 = .ok (.iconst 0, 1) := by decide +kernel
theorem dMo_ofVolume_18 : decode kMo_ofVolume 18 = .ok (.istore 4, 2) := by decide +kernel
theorem dMo_ofVolume_20 : decode kMo_ofVolume 20 = .ok (.iconst 1, 1) := by decide +kernel
theorem dMo_ofVolume_21 : decode kMo_ofVolume 21 = .ok (.istore 5, 2) := by decide +kernel
theorem dMo_ofVolume_23 : decode kMo_ofVolume 23 = .ok (.iload_n 1, 1) := by decide +kernel
theorem dMo_ofVolume_24 : decode kMo_ofVolume 24 = .ok (.iload_n 3, 1) := by decide +kernel
theorem dMo_ofVolume_25 : decode kMo_ofVolume 25 = .ok (.isub, 1) := by decide +kernel
theorem dMo_ofVolume_26 : decode kMo_ofVolume 26 = .ok (.invokestatic 106, 3) := by decide +kernel
theorem dMo_ofVolume_29 : decode kMo_ofVolume 29 = .ok (.istore 6, 2) := by decide +kernel
theorem dMo_ofVolume_31 : decode kMo_ofVolume 31 = .ok (.iconst 0, 1) := by decide +kernel
theorem dMo_ofVolume_32 : decode kMo_ofVolume 32 = .ok (.istore 7, 2) := by decide +kernel
theorem dMo_ofVolume_34 : decode kMo_ofVolume 34 = .ok (.iload 7, 2) := by decide +kernel
theorem dMo_ofVolume_36 : decode kMo_ofVolume 36 = .ok (.iload_n 3, 1) := by decide +kernel
theorem dMo_ofVolume_37 : decode kMo_ofVolume 37 = .ok (.if_icmp .ge 35, 3) := by decide +kernel
theorem dMo_ofVolume_40 : decode kMo_ofVolume 40 = .ok (.iload 4, 2) := by decide +kernel
theorem dMo_ofVolume_42 : decode kMo_ofVolume 42 = .ok (.iload 5, 2) := by decide +kernel
theorem dMo_ofVolume_44 : decode kMo_ofVolume 44 = .ok (.aload_n 0, 1) := by decide +kernel
theorem dMo_ofVolume_45 : decode kMo_ofVolume 45 = .ok (.iload 7, 2) := by decide +kernel
theorem dMo_ofVolume_47 : decode kMo_ofVolume 47 = .ok (.iload_n 2, 1) := by decide +kernel
theorem dMo_ofVolume_48 : decode kMo_ofVolume 48 = .ok (.invokevirtual 103, 3) := by decide +kernel
theorem dMo_ofVolume_51 : decode kMo_ofVolume 51 = .ok (.invokestatic 100, 3) := by decide +kernel
theorem dMo_ofVolume_54 : decode kMo_ofVolume 54 = .ok (.ixor, 1) := by decide +kernel
theorem dMo_ofVolume_55 : decode kMo_ofVolume 55 = .ok (.istore 4, 2) := by decide +kernel
theorem dMo_ofVolume_57 : decode kMo_ofVolume 57 = .ok (.iload 5, 2) := by decide +kernel
theorem dMo_ofVolume_59 : decode kMo_ofVolume 59 = .ok (.iload 6, 2) := by decide +kernel
theorem dMo_ofVolume_61 : decode kMo_ofVolume 61 = .ok (.invokestatic 100, 3) := by decide +kernel
theorem dMo_ofVolume_64 : decode kMo_ofVolume 64 = .ok (.istore 5, 2) := by decide +kernel
theorem dMo_ofVolume_66 : decode kMo_ofVolume 66 = .ok (.iinc 7 1, 3) := by decide +kernel
theorem dMo_ofVolume_69 : decode kMo_ofVolume 69 = .ok (.goto (-35), 3) := by decide +kernel
theorem dMo_ofVolume_72 : decode kMo_ofVolume 72 = .ok (.iload 4, 2) := by decide +kernel
theorem dMo_ofVolume_74 : decode kMo_ofVolume 74 = .ok (.ireturn, 1) := by decide +kernel
theorem dMo_make_0 : decode kMo_make 0 = .ok (.iconst 0, 1) := by decide +kernel
theorem dMo_make_1 : decode kMo_make 1 = .ok (.istore_n 2, 1) := by decide +kernel
theorem dMo_make_2 : decode kMo_make 2 = .ok (.iload_n 2, 1) := by decide +kernel
theorem dMo_make_3 : decode kMo_make 3 = .ok (.aload_n 0, 1) := by decide +kernel
theorem dMo_make_4 : decode kMo_make 4 = .ok (.invokevirtual 94, 3) := by decide +kernel
theorem dMo_make_7 : decode kMo_make 7 = .ok (.if_icmp .ge 24, 3) := by decide +kernel
theorem dMo_make_10 : decode kMo_make 10 = .ok (.aload_n 0, 1) := by decide +kernel
theorem dMo_make_11 : decode kMo_make 11 = .ok (.getfield 32, 3) := by decide +kernel
theorem dMo_make_14 : decode kMo_make 14 = .ok (.bipush 12, 2) := by decide +kernel
theorem dMo_make_16 : decode kMo_make 16 = .ok (.iload_n 2, 1) := by decide +kernel
theorem dMo_make_17 : decode kMo_make 17 = .ok (.iadd, 1) := by decide +kernel
theorem dMo_make_18 : decode kMo_make 18 = .ok (.aload_n 0, 1) := by decide +kernel
theorem dMo_make_19 : decode kMo_make 19 = .ok (.iload_n 1, 1) := by decide +kernel
theorem dMo_make_20 : decode kMo_make 20 = .ok (.iload_n 2, 1) := by decide +kernel
theorem dMo_make_21 : decode kMo_make 21 = .ok (.invokevirtual 110, 3) := by decide +kernel
theorem dMo_make_24 : decode kMo_make 24 = .ok (.iastore, 1) := by decide +kernel
theorem dMo_make_25 : decode kMo_make 25 = .ok (.iinc 2 1, 3) := by decide +kernel
theorem dMo_make_28 : decode kMo_make 28 = .ok (.goto (-26), 3) := by decide +kernel
theorem dMo_make_31 : decode kMo_make 31 = .ok (.aload_n 0, 1) := by decide +kernel
theorem dMo_make_32 : decode kMo_make 32 = .ok (.getfield 32, 3) := by decide +kernel
theorem dMo_make_35 : decode kMo_make 35 = .ok (.iconst 0, 1) := by decide +kernel
theorem dMo_make_36 : decode kMo_make 36 = .ok (.bipush 86, 2) := by decide +kernel
theorem dMo_make_38 : decode kMo_make 38 = .ok (.iastore, 1) := by decide +kernel
theorem dMo_make_39 : decode kMo_make 39 = .ok (.aload_n 0, 1) := by decide +kernel
theorem dMo_make_40 : decode kMo_make 40 = .ok (.getfield 32, 3) := by decide +kernel
theorem dMo_make_43 : decode kMo_make 43 = .ok (.iconst 1, 1) := by decide +kernel
theorem dMo_make_44 : decode kMo_make 44 = .ok (.bipush 83, 2) := by decide +kernel
theorem dMo_make_46 : decode kMo_make 46 = .ok (.iastore, 1) := by decide +kernel
theorem dMo_make_47 : decode kMo_make 47 = .ok (.aload_n 0, 1) := by decide +kernel
theorem dMo_make_48 : decode kMo_make 48 = .ok (.getfield 32, 3) := by decide +kernel
theorem dMo_make_51 : decode kMo_make 51 = .ok (.iconst 2, 1) := by decide +kernel
theorem dMo_make_52 : decode kMo_make 52 = .ok (.aload_n 0, 1) := by decide +kernel
theorem dMo_make_53 : decode kMo_make 53 = .ok (.getfield 87, 3) := by decide +kernel
theorem dMo_make_56 : decode kMo_make 56 = .ok (.iastore, 1) := by decide +kernel
theorem dMo_make_57 : decode kMo_make 57 = .ok (.aload_n 0, 1) := by decide +kernel
theorem dMo_make_58 : decode kMo_make 58 = .ok (.getfield 32, 3) := by decide +kernel
theorem dMo_make_61 : decode kMo_make 61 = .ok (.iconst 3, 1) := by decide +kernel
theorem dMo_make_62 : decode kMo_make 62 = .ok (.iload_n 1, 1) := by decide +kernel
theorem dMo_make_63 : decode kMo_make 63 = .ok (.iastore, 1) := by decide +kernel
theorem dMo_make_64 : decode kMo_make 64 = .ok (.aload_n 0, 1) := by decide +kernel
theorem dMo_make_65 : decode kMo_make 65 = .ok (.getfield 32, 3) := by decide +kernel
theorem dMo_make_68 : decode kMo_make 68 = .ok (.iconst 4, 1) := by decide +kernel
theorem dMo_make_69 : decode kMo_make 69 = .ok (.aload_n 0, 1) := by decide +kernel
theorem dMo_make_70 : decode kMo_make 70 = .ok (.invokevirtual 97, 3) := by decide +kernel
theorem dMo_make_73 : decode kMo_make 73 = .ok (.iastore, 1) := by decide +kernel
theorem dMo_make_74 : decode kMo_make 74 = .ok (.aload_n 0, 1) := by decide +kernel
theorem dMo_make_75 : decode kMo_make 75 = .ok (.getfield 32, 3) := by decide +kernel
theorem dMo_make_78 : decode kMo_make 78 = .ok (.iconst 5, 1) := by decide +kernel
theorem dMo_make_79 : decode kMo_make 79 = .ok (.aload_n 0, 1) := by decide +kernel
theorem dMo_make_80 : decode kMo_make 80 = .ok (.getfield 84, 3) := by decide +kernel
theorem dMo_make_83 : decode kMo_make 83 = .ok (.iastore, 1) := by decide +kernel
theorem dMo_make_84 : decode kMo_make 84 = .ok (.aload_n 0, 1) := by decide +kernel
theorem dMo_make_85 : decode kMo_make 85 = .ok (.getfield 32, 3) := by decide +kernel
theorem dMo_make_88 : decode kMo_make 88 = .ok (.bipush 6, 2) := by decide +kernel
theorem dMo_make_90 : decode kMo_make 90 = .ok (.aload_n 0, 1) := by decide +kernel
theorem dMo_make_91 : decode kMo_make 91 = .ok (.iload_n 1, 1) := by decide +kernel
theorem dMo_make_92 : decode kMo_make 92 = .ok (.iconst (-1), 1) := by decide +kernel
theorem dMo_make_93 : decode kMo_make 93 = .ok (.invokevirtual 110, 3) := by decide +kernel
theorem dMo_make_96 : decode kMo_make 96 = .ok (.iastore, 1) := by decide +kernel
theorem dMo_make_97 : decode kMo_make 97 = .ok (.aload_n 0, 1) := by decide +kernel
theorem dMo_make_98 : decode kMo_make 98 = .ok (.getfield 32, 3) := by decide +kernel
theorem dMo_make_101 : decode kMo_make 101 = .ok (.bipush 7, 2) := by decide +kernel
theorem dMo_make_103 : decode kMo_make 103 = .ok (.aload_n 0, 1) := by decide +kernel
theorem dMo_make_104 : decode kMo_make 104 = .ok (.iload_n 1, 1) := by decide +kernel
theorem dMo_make_105 : decode kMo_make 105 = .ok (.bipush (-2), 2) := by decide +kernel
theorem dMo_make_107 : decode kMo_make 107 = .ok (.invokevirtual 110, 3) := by decide +kernel
theorem dMo_make_110 : decode kMo_make 110 = .ok (.iastore, 1) := by decide +kernel
theorem dMo_make_111 : decode kMo_make 111 = .ok (.aload_n 0, 1) := by decide +kernel
theorem dMo_make_112 : decode kMo_make 112 = .ok (.getfield 32, 3) := by decide +kernel
theorem dMo_make_115 : decode kMo_make 115 = .ok (.bipush 12, 2) := by decide +kernel
theorem dMo_make_117 : decode kMo_make 117 = .ok (.aload_n 0, 1) := by decide +kernel
theorem dMo_make_118 : decode kMo_make 118 = .ok (.invokevirtual 94, 3) := by decide +kernel
theorem dMo_make_121 : decode kMo_make 121 = .ok (.invokestatic 80, 3) := by decide +kernel
theorem dMo_make_124 : decode kMo_make 124 = .ok (.istore_n 2, 1) := by decide +kernel
theorem dMo_make_125 : decode kMo_make 125 = .ok (.aload_n 0, 1) := by decide +kernel
theorem dMo_make_126 : decode kMo_make 126 = .ok (.getfield 32, 3) := by decide +kernel
theorem dMo_make_129 : decode kMo_make 129 = .ok (.bipush 8, 2) := by decide +kernel
theorem dMo_make_131 : decode kMo_make 131 = .ok (.iload_n 2, 1) := by decide +kernel
theorem dMo_make_132 : decode kMo_make 132 = .ok (.sipush 256, 3) := by decide +kernel
theorem dMo_make_135 : decode kMo_make 135 = .ok (.irem, 1) := by decide +kernel
theorem dMo_make_136 : decode kMo_make 136 = .ok (.iastore, 1) := by decide +kernel
theorem dMo_make_137 : decode kMo_make 137 = .ok (.aload_n 0, 1) := by decide +kernel
theorem dMo_make_138 : decode kMo_make 138 = .ok (.getfield 32, 3) := by decide +kernel
theorem dMo_make_141 : decode kMo_make 141 = .ok (.bipush 9, 2) := by decide +kernel
theorem dMo_make_143 : decode kMo_make 143 = .ok (.iload_n 2, 1) := by decide +kernel
theorem dMo_make_144 : decode kMo_make 144 = .ok (.sipush 256, 3) := by decide +kernel
theorem dMo_make_147 : decode kMo_make 147 = .ok (.idiv, 1) := by decide +kernel
theorem dMo_make_148 : decode kMo_make 148 = .ok (.iastore, 1) := by decide +kernel
theorem dMo_make_149 : decode kMo_make 149 = .ok (.aload_n 0, 1) := by decide +kernel
theorem dMo_make_150 : decode kMo_make 150 = .ok (.getfield 32, 3) := by decide +kernel
theorem dMo_make_153 : decode kMo_make 153 = .ok (.iconst 0, 1) := by decide +kernel
theorem dMo_make_154 : decode kMo_make 154 = .ok (.bipush 10, 2) := by decide +kernel
theorem dMo_make_156 : decode kMo_make 156 = .ok (.invokestatic 80, 3) := by decide +kernel
theorem dMo_make_159 : decode kMo_make 159 = .ok (.istore_n 3, 1) := by decide +kernel
theorem dMo_make_160 : decode kMo_make 160 = .ok (.aload_n 0, 1) := by decide +kernel
theorem dMo_make_161 : decode kMo_make 161 = .ok (.getfield 32, 3) := by decide +kernel
theorem dMo_make_164 : decode kMo_make 164 = .ok (.bipush 10, 2) := by decide +kernel
theorem dMo_make_166 : decode kMo_make 166 = .ok (.iload_n 3, 1) := by decide +kernel
theorem dMo_make_167 : decode kMo_make 167 = .ok (.sipush 256, 3) := by decide +kernel
theorem dMo_make_170 : decode kMo_make 170 = .ok (.irem, 1) := by decide +kernel
theorem dMo_make_171 : decode kMo_make 171 = .ok (.iastore, 1) := by decide +kernel
theorem dMo_make_172 : decode kMo_make 172 = .ok (.aload_n 0, 1) := by decide +kernel
theorem dMo_make_173 : decode kMo_make 173 = .ok (.getfield 32, 3) := by decide +kernel
theorem dMo_make_176 : decode kMo_make 176 = .ok (.bipush 11, 2) := by decide +kernel
theorem dMo_make_178 : decode kMo_make 178 = .ok (.iload_n 3, 1) := by decide +kernel
theorem dMo_make_179 : decode kMo_make 179 = .ok (.sipush 256, 3) := by decide +kernel
theorem dMo_make_182 : decode kMo_make 182 = .ok (.idiv, 1) := by decide +kernel
theorem dMo_make_183 : decode kMo_make 183 = .ok (.iastore, 1) := by decide +kernel
theorem dMo_make_184 : decode kMo_make 184 = .ok (.return_, 1) := by decide +kernel
theorem dMo_byteOf_0 : decode kMo_byteOf 0 = .ok (.aload_n 0, 1) := by decide +kernel
theorem dMo_byteOf_1 : decode kMo_byteOf 1 = .ok (.invokevirtual 113, 3) := by decide +kernel
theorem dMo_byteOf_4 : decode kMo_byteOf 4 = .ok (.istore_n 3, 1) := by decide +kernel
theorem dMo_byteOf_5 : decode kMo_byteOf 5 = .ok (.iload_n 3, 1) := by decide +kernel
theorem dMo_byteOf_6 : decode kMo_byteOf 6 = .ok (.bipush (-3), 2) := by decide +kernel
theorem dMo_byteOf_8 : decode kMo_byteOf 8 = .ok (.if_icmp .ne 6, 3) := by decide +kernel
theorem dMo_byteOf_11 : decode kMo_byteOf 11 = .ok (.bipush (-3), 2) := by decide +kernel
theorem dMo_byteOf_13 : decode kMo_byteOf 13 = .ok (.ireturn, 1) := by decide +kernel
theorem dMo_byteOf_14 : decode kMo_byteOf 14 = .ok (.iload_n 1, 1) := by decide +kernel
theorem dMo_byteOf_15 : decode kMo_byteOf 15 = .ok (.iconst 0, 1) := by decide +kernel
theorem dMo_byteOf_16 : decode kMo_byteOf 16 = .ok (.iload_n 3, 1) := by decide +kernel
theorem dMo_byteOf_17 : decode kMo_byteOf 17 = .ok (.iconst 1, 1) := by decide +kernel
theorem dMo_byteOf_18 : decode kMo_byteOf 18 = .ok (.isub, 1) := by decide +kernel
theorem dMo_byteOf_19 : decode kMo_byteOf 19 = .ok (.invokestatic 68, 3) := by decide +kernel
theorem dMo_byteOf_22 : decode kMo_byteOf 22 = .ok (.ifCond .eq 17, 3) := by decide +kernel
theorem dMo_byteOf_25 : decode kMo_byteOf 25 = .ok (.iload_n 2, 1) := by decide +kernel
theorem dMo_byteOf_26 : decode kMo_byteOf 26 = .ok (.iconst 0, 1) := by decide +kernel
theorem dMo_byteOf_27 : decode kMo_byteOf 27 = .ok (.aload_n 0, 1) := by decide +kernel
theorem dMo_byteOf_28 : decode kMo_byteOf 28 = .ok (.getfield 23, 3) := by decide +kernel
theorem dMo_byteOf_31 : decode kMo_byteOf 31 = .ok (.iconst 1, 1) := by decide +kernel
theorem dMo_byteOf_32 : decode kMo_byteOf 32 = .ok (.isub, 1) := by decide +kernel
theorem dMo_byteOf_33 : decode kMo_byteOf 33 = .ok (.invokestatic 68, 3) := by decide +kernel
theorem dMo_byteOf_36 : decode kMo_byteOf 36 = .ok (.ifCond .ne 5, 3) := by decide +kernel
theorem dMo_byteOf_39 : decode kMo_byteOf 39 = .ok (.iconst (-1), 1) := by decide +kernel
theorem dMo_byteOf_40 : decode kMo_byteOf 40 = .ok (.ireturn, 1) := by decide +kernel
theorem dMo_byteOf_41 : decode kMo_byteOf 41 = .ok (.aload_n 0, 1) := by decide +kernel
theorem dMo_byteOf_42 : decode kMo_byteOf 42 = .ok (.iload_n 1, 1) := by decide +kernel
theorem dMo_byteOf_43 : decode kMo_byteOf 43 = .ok (.invokevirtual 116, 3) := by decide +kernel
theorem dMo_byteOf_46 : decode kMo_byteOf 46 = .ok (.aload_n 0, 1) := by decide +kernel
theorem dMo_byteOf_47 : decode kMo_byteOf 47 = .ok (.getfield 32, 3) := by decide +kernel
theorem dMo_byteOf_50 : decode kMo_byteOf 50 = .ok (.iload_n 2, 1) := by decide +kernel
theorem dMo_byteOf_51 : decode kMo_byteOf 51 = .ok (.iaload, 1) := by decide +kernel
theorem dMo_byteOf_52 : decode kMo_byteOf 52 = .ok (.ireturn, 1) := by decide +kernel
theorem dMo_isThere_0 : decode kMo_isThere 0 = .ok (.iconst 0, 1) := by decide +kernel
theorem dMo_isThere_1 : decode kMo_isThere 1 = .ok (.istore_n 1, 1) := by decide +kernel
theorem dMo_isThere_2 : decode kMo_isThere 2 = .ok (.iload_n 1, 1) := by decide +kernel
theorem dMo_isThere_3 : decode kMo_isThere 3 = .ok (.bipush 60, 2) := by decide +kernel
theorem dMo_isThere_5 : decode kMo_isThere 5 = .ok (.if_icmp .ge 80, 3) := by decide +kernel
theorem dMo_isThere_8 : decode kMo_isThere 8 = .ok (.aload_n 0, 1) := by decide +kernel
theorem dMo_isThere_9 : decode kMo_isThere 9 = .ok (.getfield 29, 3) := by decide +kernel
theorem dMo_isThere_12 : decode kMo_isThere 12 = .ok (.iload_n 1, 1) := by decide +kernel
theorem dMo_isThere_13 : decode kMo_isThere 13 = .ok (.iaload, 1) := by decide +kernel
theorem dMo_isThere_14 : decode kMo_isThere 14 = .ok (.aload_n 0, 1) := by decide +kernel
theorem dMo_isThere_15 : decode kMo_isThere 15 = .ok (.getfield 23, 3) := by decide +kernel
theorem dMo_isThere_18 : decode kMo_isThere 18 = .ok (.if_icmp .ne 7, 3) := by decide +kernel
theorem dMo_isThere_21 : decode kMo_isThere 21 = .ok (.iconst 1, 1) := by decide +kernel
theorem dMo_isThere_22 : decode kMo_isThere 22 = .ok (.goto 4, 3) := by decide +kernel
theorem dMo_isThere_25 : decode kMo_isThere 25 = .ok (.iconst 0, 1) := by decide +kernel
theorem dMo_isThere_26 : decode kMo_isThere 26 = .ok (.istore_n 2, 1) := by decide +kernel
theorem dMo_isThere_27 : decode kMo_isThere 27 = .ok (.iconst 0, 1) := by decide +kernel
theorem dMo_isThere_28 : decode kMo_isThere 28 = .ok (.istore_n 3, 1) := by decide +kernel
theorem dMo_isThere_29 : decode kMo_isThere 29 = .ok (.iload_n 3, 1) := by decide +kernel
theorem dMo_isThere_30 : decode kMo_isThere 30 = .ok (.aload_n 0, 1) := by decide +kernel
theorem dMo_isThere_31 : decode kMo_isThere 31 = .ok (.getfield 23, 3) := by decide +kernel
theorem dMo_isThere_34 : decode kMo_isThere 34 = .ok (.if_icmp .ge 39, 3) := by decide +kernel
theorem dMo_isThere_37 : decode kMo_isThere 37 = .ok (.iload_n 2, 1) := by decide +kernel
theorem dMo_isThere_38 : decode kMo_isThere 38 = .ok (.ifCond .eq 35, 3) := by decide +kernel
theorem dMo_isThere_41 : decode kMo_isThere 41 = .ok (.aload_n 0, 1) := by decide +kernel
theorem dMo_isThere_42 : decode kMo_isThere 42 = .ok (.getfield 26, 3) := by decide +kernel
theorem dMo_isThere_45 : decode kMo_isThere 45 = .ok (.bipush 80, 2) := by decide +kernel
theorem dMo_isThere_47 : decode kMo_isThere 47 = .ok (.iload_n 1, 1) := by decide +kernel
theorem dMo_isThere_48 : decode kMo_isThere 48 = .ok (.imul, 1) := by decide +kernel
theorem dMo_isThere_49 : decode kMo_isThere 49 = .ok (.iload_n 3, 1) := by decide +kernel
theorem dMo_isThere_50 : decode kMo_isThere 50 = .ok (.iadd, 1) := by decide +kernel
theorem dMo_isThere_51 : decode kMo_isThere 51 = .ok (.iaload, 1) := by decide +kernel
theorem dMo_isThere_52 : decode kMo_isThere 52 = .ok (.aload_n 0, 1) := by decide +kernel
theorem dMo_isThere_53 : decode kMo_isThere 53 = .ok (.getfield 32, 3) := by decide +kernel
theorem dMo_isThere_56 : decode kMo_isThere 56 = .ok (.iload_n 3, 1) := by decide +kernel
theorem dMo_isThere_57 : decode kMo_isThere 57 = .ok (.iaload, 1) := by decide +kernel
theorem dMo_isThere_58 : decode kMo_isThere 58 = .ok (.if_icmp .ne 7, 3) := by decide +kernel
theorem dMo_isThere_61 : decode kMo_isThere 61 = .ok (.iconst 1, 1) := by decide +kernel
theorem dMo_isThere_62 : decode kMo_isThere 62 = .ok (.goto 4, 3) := by decide +kernel
theorem dMo_isThere_65 : decode kMo_isThere 65 = .ok (.iconst 0, 1) := by decide +kernel
theorem dMo_isThere_66 : decode kMo_isThere 66 = .ok (.istore_n 2, 1) := by decide +kernel
theorem dMo_isThere_67 : decode kMo_isThere 67 = .ok (.iinc 3 1, 3) := by decide +kernel
theorem dMo_isThere_70 : decode kMo_isThere 70 = .ok (.goto (-41), 3) := by decide +kernel
theorem dMo_isThere_73 : decode kMo_isThere 73 = .ok (.iload_n 2, 1) := by decide +kernel
theorem dMo_isThere_74 : decode kMo_isThere 74 = .ok (.ifCond .eq 5, 3) := by decide +kernel
theorem dMo_isThere_77 : decode kMo_isThere 77 = .ok (.iconst 1, 1) := by decide +kernel
theorem dMo_isThere_78 : decode kMo_isThere 78 = .ok (.ireturn, 1) := by decide +kernel
theorem dMo_isThere_79 : decode kMo_isThere 79 = .ok (.iinc 1 1, 3) := by decide +kernel
theorem dMo_isThere_82 : decode kMo_isThere 82 = .ok (.goto (-80), 3) := by decide +kernel
theorem dMo_isThere_85 : decode kMo_isThere 85 = .ok (.iconst 0, 1) := by decide +kernel
theorem dMo_isThere_86 : decode kMo_isThere 86 = .ok (.ireturn, 1) := by decide +kernel
theorem dMo_emptySlots_0 : decode kMo_emptySlots 0 = .ok (.iconst 0, 1) := by decide +kernel
theorem dMo_emptySlots_1 : decode kMo_emptySlots 1 = .ok (.istore_n 1, 1) := by decide +kernel
theorem dMo_emptySlots_2 : decode kMo_emptySlots 2 = .ok (.iconst 0, 1) := by decide +kernel
theorem dMo_emptySlots_3 : decode kMo_emptySlots 3 = .ok (.istore_n 2, 1) := by decide +kernel
theorem dMo_emptySlots_4 : decode kMo_emptySlots 4 = .ok (.iload_n 2, 1) := by decide +kernel
theorem dMo_emptySlots_5 : decode kMo_emptySlots 5 = .ok (.bipush 60, 2) := by decide +kernel
theorem dMo_emptySlots_7 : decode kMo_emptySlots 7 = .ok (.if_icmp .ge 26, 3) := by decide +kernel
theorem dMo_emptySlots_10 : decode kMo_emptySlots 10 = .ok (.aload_n 0, 1) := by decide +kernel
theorem dMo_emptySlots_11 : decode kMo_emptySlots 11 = .ok (.getfield 29, 3) := by decide +kernel
theorem dMo_emptySlots_14 : decode kMo_emptySlots 14 = .ok (.iload_n 2, 1) := by decide +kernel
theorem dMo_emptySlots_15 : decode kMo_emptySlots 15 = .ok (.iaload, 1) := by decide +kernel
theorem dMo_emptySlots_16 : decode kMo_emptySlots 16 = .ok (.ifCond .ne 9, 3) := by decide +kernel
theorem dMo_emptySlots_19 : decode kMo_emptySlots 19 = .ok (.iload_n 1, 1) := by decide +kernel
theorem dMo_emptySlots_20 : decode kMo_emptySlots 20 = .ok (.iconst 1, 1) := by decide +kernel
theorem dMo_emptySlots_21 : decode kMo_emptySlots 21 = .ok (.iadd, 1) := by decide +kernel
theorem dMo_emptySlots_22 : decode kMo_emptySlots 22 = .ok (.goto 4, 3) := by decide +kernel
theorem dMo_emptySlots_25 : decode kMo_emptySlots 25 = .ok (.iload_n 1, 1) := by decide +kernel
theorem dMo_emptySlots_26 : decode kMo_emptySlots 26 = .ok (.istore_n 1, 1) := by decide +kernel
theorem dMo_emptySlots_27 : decode kMo_emptySlots 27 = .ok (.iinc 2 1, 3) := by decide +kernel
theorem dMo_emptySlots_30 : decode kMo_emptySlots 30 = .ok (.goto (-26), 3) := by decide +kernel
theorem dMo_emptySlots_33 : decode kMo_emptySlots 33 = .ok (.iload_n 1, 1) := by decide +kernel
theorem dMo_emptySlots_34 : decode kMo_emptySlots 34 = .ok (.ireturn, 1) := by decide +kernel
theorem dMo_lay_0 : decode kMo_lay 0 = .ok (.iconst 0, 1) := by decide +kernel
theorem dMo_lay_1 : decode kMo_lay 1 = .ok (.istore_n 2, 1) := by decide +kernel
theorem dMo_lay_2 : decode kMo_lay 2 = .ok (.aload_n 0, 1) := by decide +kernel
theorem dMo_lay_3 : decode kMo_lay 3 = .ok (.getfield 29, 3) := by decide +kernel
theorem dMo_lay_6 : decode kMo_lay 6 = .ok (.iload_n 2, 1) := by decide +kernel
theorem dMo_lay_7 : decode kMo_lay 7 = .ok (.iaload, 1) := by decide +kernel
theorem dMo_lay_8 : decode kMo_lay 8 = .ok (.ifCond .le 9, 3) := by decide +kernel
theorem dMo_lay_11 : decode kMo_lay 11 = .ok (.iinc 2 1, 3) := by decide +kernel
theorem dMo_lay_14 : decode kMo_lay 14 = .ok (.goto (-12), 3) := by decide +kernel
theorem dMo_lay_17 : decode kMo_lay 17 = .ok (.aload_n 0, 1) := by decide +kernel
theorem dMo_lay_18 : decode kMo_lay 18 = .ok (.getfield 29, 3) := by decide +kernel
theorem dMo_lay_21 : decode kMo_lay 21 = .ok (.iload_n 2, 1) := by decide +kernel
theorem dMo_lay_22 : decode kMo_lay 22 = .ok (.aload_n 0, 1) := by decide +kernel
theorem dMo_lay_23 : decode kMo_lay 23 = .ok (.getfield 23, 3) := by decide +kernel
theorem dMo_lay_26 : decode kMo_lay 26 = .ok (.iastore, 1) := by decide +kernel
theorem dMo_lay_27 : decode kMo_lay 27 = .ok (.iconst 0, 1) := by decide +kernel
theorem dMo_lay_28 : decode kMo_lay 28 = .ok (.istore_n 3, 1) := by decide +kernel
theorem dMo_lay_29 : decode kMo_lay 29 = .ok (.iload_n 3, 1) := by decide +kernel
theorem dMo_lay_30 : decode kMo_lay 30 = .ok (.aload_n 0, 1) := by decide +kernel
theorem dMo_lay_31 : decode kMo_lay 31 = .ok (.getfield 23, 3) := by decide +kernel
theorem dMo_lay_34 : decode kMo_lay 34 = .ok (.if_icmp .ge 35, 3) := by decide +kernel
theorem dMo_lay_37 : decode kMo_lay 37 = .ok (.aload_n 0, 1) := by decide +kernel
theorem dMo_lay_38 : decode kMo_lay 38 = .ok (.getfield 26, 3) := by decide +kernel
theorem dMo_lay_41 : decode kMo_lay 41 = .ok (.bipush 80, 2) := by decide +kernel
theorem dMo_lay_43 : decode kMo_lay 43 = .ok (.iload_n 2, 1) := by decide +kernel
theorem dMo_lay_44 : decode kMo_lay 44 = .ok (.imul, 1) := by decide +kernel
theorem dMo_lay_45 : decode kMo_lay 45 = .ok (.iload_n 3, 1) := by decide +kernel
theorem dMo_lay_46 : decode kMo_lay 46 = .ok (.iadd, 1) := by decide +kernel
theorem dMo_lay_47 : decode kMo_lay 47 = .ok (.iload_n 3, 1) := by decide +kernel
theorem dMo_lay_48 : decode kMo_lay 48 = .ok (.iload_n 1, 1) := by decide +kernel
theorem dMo_lay_49 : decode kMo_lay 49 = .ok (.if_icmp .ge 12, 3) := by decide +kernel
theorem dMo_lay_52 : decode kMo_lay 52 = .ok (.aload_n 0, 1) := by decide +kernel
theorem dMo_lay_53 : decode kMo_lay 53 = .ok (.getfield 32, 3) := by decide +kernel
theorem dMo_lay_56 : decode kMo_lay 56 = .ok (.iload_n 3, 1) := by decide +kernel
theorem dMo_lay_57 : decode kMo_lay 57 = .ok (.iaload, 1) := by decide +kernel
theorem dMo_lay_58 : decode kMo_lay 58 = .ok (.goto 4, 3) := by decide +kernel
theorem dMo_lay_61 : decode kMo_lay 61 = .ok (.iconst 0, 1) := by decide +kernel
theorem dMo_lay_62 : decode kMo_lay 62 = .ok (.iastore, 1) := by decide +kernel
theorem dMo_lay_63 : decode kMo_lay 63 = .ok (.iinc 3 1, 3) := by decide +kernel
theorem dMo_lay_66 : decode kMo_lay 66 = .ok (.goto (-37), 3) := by decide +kernel
theorem dMo_lay_69 : decode kMo_lay 69 = .ok (.return_, 1) := by decide +kernel
theorem dMo_write_0 : decode kMo_write 0 = .ok (.iload_n 1, 1) := by decide +kernel
theorem dMo_write_1 : decode kMo_write 1 = .ok (.iconst (-1), 1) := by decide +kernel
theorem dMo_write_2 : decode kMo_write 2 = .ok (.bipush 60, 2) := by decide +kernel
theorem dMo_write_4 : decode kMo_write 4 = .ok (.invokestatic 68, 3) := by decide +kernel
theorem dMo_write_7 : decode kMo_write 7 = .ok (.ifCond .ne 10, 3) := by decide +kernel
theorem dMo_write_10 : decode kMo_write 10 = .ok (.aload_n 0, 1) := by decide +kernel
theorem dMo_write_11 : decode kMo_write 11 = .ok (.iconst 0, 1) := by decide +kernel
theorem dMo_write_12 : decode kMo_write 12 = .ok (.putfield 1, 3) := by decide +kernel
theorem dMo_write_15 : decode kMo_write 15 = .ok (.iconst (-1), 1) := by decide +kernel
theorem dMo_write_16 : decode kMo_write 16 = .ok (.ireturn, 1) := by decide +kernel
theorem dMo_write_17 : decode kMo_write 17 = .ok (.aload_n 0, 1) := by decide +kernel
theorem dMo_write_18 : decode kMo_write 18 = .ok (.invokevirtual 113, 3) := by decide +kernel
theorem dMo_write_21 : decode kMo_write 21 = .ok (.istore_n 2, 1) := by decide +kernel
theorem dMo_write_22 : decode kMo_write 22 = .ok (.iload_n 2, 1) := by decide +kernel
theorem dMo_write_23 : decode kMo_write 23 = .ok (.bipush (-3), 2) := by decide +kernel
theorem dMo_write_25 : decode kMo_write 25 = .ok (.if_icmp .ne 6, 3) := by decide +kernel
theorem dMo_write_28 : decode kMo_write 28 = .ok (.bipush (-3), 2) := by decide +kernel
theorem dMo_write_30 : decode kMo_write 30 = .ok (.ireturn, 1) := by decide +kernel
theorem dMo_write_31 : decode kMo_write 31 = .ok (.iconst 0, 1) := by decide +kernel
theorem dMo_write_32 : decode kMo_write 32 = .ok (.istore_n 3, 1) := by decide +kernel
theorem dMo_write_33 : decode kMo_write 33 = .ok (.iconst 0, 1) := by decide +kernel
theorem dMo_write_34 : decode kMo_write 34 = .ok (.istore 4, 2) := by decide +kernel
theorem dMo_write_36 : decode kMo_write 36 = .ok (.iload 4, 2) := by decide +kernel
theorem dMo_write_38 : decode kMo_write 38 = .ok (.iload_n 2, 1) := by decide +kernel
theorem dMo_write_39 : decode kMo_write 39 = .ok (.if_icmp .ge 30, 3) := by decide +kernel
theorem dMo_write_42 : decode kMo_write 42 = .ok (.aload_n 0, 1) := by decide +kernel
theorem dMo_write_43 : decode kMo_write 43 = .ok (.iload 4, 2) := by decide +kernel
theorem dMo_write_45 : decode kMo_write 45 = .ok (.invokevirtual 116, 3) := by decide +kernel
theorem dMo_write_48 : decode kMo_write 48 = .ok (.aload_n 0, 1) := by decide +kernel
theorem dMo_write_49 : decode kMo_write 49 = .ok (.invokevirtual 120, 3) := by decide +kernel
theorem dMo_write_52 : decode kMo_write 52 = .ok (.ifCond .eq 7, 3) := by decide +kernel
theorem dMo_write_55 : decode kMo_write 55 = .ok (.iload_n 3, 1) := by decide +kernel
theorem dMo_write_56 : decode kMo_write 56 = .ok (.goto 6, 3) := by decide +kernel
theorem dMo_write_59 : decode kMo_write 59 = .ok (.iload_n 3, 1) := by decide +kernel
theorem dMo_write_60 : decode kMo_write 60 = .ok (.iconst 1, 1) := by decide +kernel
theorem dMo_write_61 : decode kMo_write 61 = .ok (.iadd, 1) := by decide +kernel
theorem dMo_write_62 : decode kMo_write 62 = .ok (.istore_n 3, 1) := by decide +kernel
theorem dMo_write_63 : decode kMo_write 63 = .ok (.iinc 4 1, 3) := by decide +kernel
theorem dMo_write_66 : decode kMo_write 66 = .ok (.goto (-30), 3) := by decide +kernel
theorem dMo_write_69 : decode kMo_write 69 = .ok (.iload_n 1, 1) := by decide +kernel
theorem dMo_write_70 : decode kMo_write 70 = .ok (.ifCond .lt 8, 3) := by decide +kernel
theorem dMo_write_73 : decode kMo_write 73 = .ok (.iload_n 1, 1) := by decide +kernel
theorem dMo_write_74 : decode kMo_write 74 = .ok (.iload_n 3, 1) := by decide +kernel
theorem dMo_write_75 : decode kMo_write 75 = .ok (.if_icmp .le 7, 3) := by decide +kernel
theorem dMo_write_78 : decode kMo_write 78 = .ok (.iload_n 3, 1) := by decide +kernel
theorem dMo_write_79 : decode kMo_write 79 = .ok (.goto 4, 3) := by decide +kernel
theorem dMo_write_82 : decode kMo_write 82 = .ok (.iload_n 1, 1) := by decide +kernel
theorem dMo_write_83 : decode kMo_write 83 = .ok (.istore 4, 2) := by decide +kernel
theorem dMo_write_85 : decode kMo_write 85 = .ok (.aload_n 0, 1) := by decide +kernel
theorem dMo_write_86 : decode kMo_write 86 = .ok (.invokevirtual 124, 3) := by decide +kernel
theorem dMo_write_89 : decode kMo_write 89 = .ok (.iload 4, 2) := by decide +kernel
theorem dMo_write_91 : decode kMo_write 91 = .ok (.iload_n 3, 1) := by decide +kernel
theorem dMo_write_92 : decode kMo_write 92 = .ok (.if_icmp .ge 10, 3) := by decide +kernel
theorem dMo_write_95 : decode kMo_write 95 = .ok (.iload 4, 2) := by decide +kernel
theorem dMo_write_97 : decode kMo_write 97 = .ok (.iconst 1, 1) := by decide +kernel
theorem dMo_write_98 : decode kMo_write 98 = .ok (.iadd, 1) := by decide +kernel
theorem dMo_write_99 : decode kMo_write 99 = .ok (.goto 5, 3) := by decide +kernel
theorem dMo_write_102 : decode kMo_write 102 = .ok (.iload 4, 2) := by decide +kernel
theorem dMo_write_104 : decode kMo_write 104 = .ok (.if_icmp .ge 6, 3) := by decide +kernel
theorem dMo_write_107 : decode kMo_write 107 = .ok (.bipush (-3), 2) := by decide +kernel
theorem dMo_write_109 : decode kMo_write 109 = .ok (.ireturn, 1) := by decide +kernel
theorem dMo_write_110 : decode kMo_write 110 = .ok (.iconst 0, 1) := by decide +kernel
theorem dMo_write_111 : decode kMo_write 111 = .ok (.istore 5, 2) := by decide +kernel
theorem dMo_write_113 : decode kMo_write 113 = .ok (.iconst 0, 1) := by decide +kernel
theorem dMo_write_114 : decode kMo_write 114 = .ok (.istore 6, 2) := by decide +kernel
theorem dMo_write_116 : decode kMo_write 116 = .ok (.iload 6, 2) := by decide +kernel
theorem dMo_write_118 : decode kMo_write 118 = .ok (.iload_n 2, 1) := by decide +kernel
theorem dMo_write_119 : decode kMo_write 119 = .ok (.if_icmp .ge 53, 3) := by decide +kernel
theorem dMo_write_122 : decode kMo_write 122 = .ok (.aload_n 0, 1) := by decide +kernel
theorem dMo_write_123 : decode kMo_write 123 = .ok (.iload 6, 2) := by decide +kernel
theorem dMo_write_125 : decode kMo_write 125 = .ok (.invokevirtual 116, 3) := by decide +kernel
theorem dMo_write_128 : decode kMo_write 128 = .ok (.aload_n 0, 1) := by decide +kernel
theorem dMo_write_129 : decode kMo_write 129 = .ok (.invokevirtual 120, 3) := by decide +kernel
theorem dMo_write_132 : decode kMo_write 132 = .ok (.ifCond .ne 34, 3) := by decide +kernel
theorem dMo_write_135 : decode kMo_write 135 = .ok (.iload 5, 2) := by decide +kernel
theorem dMo_write_137 : decode kMo_write 137 = .ok (.iload 4, 2) := by decide +kernel
theorem dMo_write_139 : decode kMo_write 139 = .ok (.if_icmp .ne 16, 3) := by decide +kernel
theorem dMo_write_142 : decode kMo_write 142 = .ok (.aload_n 0, 1) := by decide +kernel
theorem dMo_write_143 : decode kMo_write 143 = .ok (.aload_n 0, 1) := by decide +kernel
theorem dMo_write_144 : decode kMo_write 144 = .ok (.getfield 23, 3) := by decide +kernel
theorem dMo_write_147 : decode kMo_write 147 = .ok (.iconst 2, 1) := by decide +kernel
theorem dMo_write_148 : decode kMo_write 148 = .ok (.idiv, 1) := by decide +kernel
theorem dMo_write_149 : decode kMo_write 149 = .ok (.invokevirtual 127, 3) := by decide +kernel
theorem dMo_write_152 : decode kMo_write 152 = .ok (.iload 5, 2) := by decide +kernel
theorem dMo_write_154 : decode kMo_write 154 = .ok (.ireturn, 1) := by decide +kernel
theorem dMo_write_155 : decode kMo_write 155 = .ok (.aload_n 0, 1) := by decide +kernel
theorem dMo_write_156 : decode kMo_write 156 = .ok (.aload_n 0, 1) := by decide +kernel
theorem dMo_write_157 : decode kMo_write 157 = .ok (.getfield 23, 3) := by decide +kernel
theorem dMo_write_160 : decode kMo_write 160 = .ok (.invokevirtual 127, 3) := by decide +kernel
theorem dMo_write_163 : decode kMo_write 163 = .ok (.iinc 5 1, 3) := by decide +kernel
theorem dMo_write_166 : decode kMo_write 166 = .ok (.iinc 6 1, 3) := by decide +kernel
theorem dMo_write_169 : decode kMo_write 169 = .ok (.goto (-53), 3) := by decide +kernel
theorem dMo_write_172 : decode kMo_write 172 = .ok (.iload 5, 2) := by decide +kernel
theorem dMo_write_174 : decode kMo_write 174 = .ok (.ireturn, 1) := by decide +kernel
theorem dMo_noSlot_0 : decode kMo_noSlot 0 = .ok (.iload_n 1, 1) := by decide +kernel
theorem dMo_noSlot_1 : decode kMo_noSlot 1 = .ok (.iconst 0, 1) := by decide +kernel
theorem dMo_noSlot_2 : decode kMo_noSlot 2 = .ok (.bipush 59, 2) := by decide +kernel
theorem dMo_noSlot_4 : decode kMo_noSlot 4 = .ok (.invokestatic 68, 3) := by decide +kernel
theorem dMo_noSlot_7 : decode kMo_noSlot 7 = .ok (.ifCond .ne 7, 3) := by decide +kernel
theorem dMo_noSlot_10 : decode kMo_noSlot 10 = .ok (.iconst 1, 1) := by decide +kernel
theorem dMo_noSlot_11 : decode kMo_noSlot 11 = .ok (.goto 4, 3) := by decide +kernel
theorem dMo_noSlot_14 : decode kMo_noSlot 14 = .ok (.iconst 0, 1) := by decide +kernel
theorem dMo_noSlot_15 : decode kMo_noSlot 15 = .ok (.ireturn, 1) := by decide +kernel
theorem dMo_lose_0 : decode kMo_lose 0 = .ok (.aload_n 0, 1) := by decide +kernel
theorem dMo_lose_1 : decode kMo_lose 1 = .ok (.iconst 0, 1) := by decide +kernel
theorem dMo_lose_2 : decode kMo_lose 2 = .ok (.putfield 1, 3) := by decide +kernel
theorem dMo_lose_5 : decode kMo_lose 5 = .ok (.aload_n 0, 1) := by decide +kernel
theorem dMo_lose_6 : decode kMo_lose 6 = .ok (.iload_n 1, 1) := by decide +kernel
theorem dMo_lose_7 : decode kMo_lose 7 = .ok (.invokevirtual 130, 3) := by decide +kernel
theorem dMo_lose_10 : decode kMo_lose 10 = .ok (.ifCond .ne 12, 3) := by decide +kernel
theorem dMo_lose_13 : decode kMo_lose 13 = .ok (.aload_n 0, 1) := by decide +kernel
theorem dMo_lose_14 : decode kMo_lose 14 = .ok (.getfield 29, 3) := by decide +kernel
theorem dMo_lose_17 : decode kMo_lose 17 = .ok (.iload_n 1, 1) := by decide +kernel
theorem dMo_lose_18 : decode kMo_lose 18 = .ok (.iaload, 1) := by decide +kernel
theorem dMo_lose_19 : decode kMo_lose 19 = .ok (.ifCond .ne 5, 3) := by decide +kernel
theorem dMo_lose_22 : decode kMo_lose 22 = .ok (.iconst (-1), 1) := by decide +kernel
theorem dMo_lose_23 : decode kMo_lose 23 = .ok (.ireturn, 1) := by decide +kernel
theorem dMo_lose_24 : decode kMo_lose 24 = .ok (.aload_n 0, 1) := by decide +kernel
theorem dMo_lose_25 : decode kMo_lose 25 = .ok (.getfield 29, 3) := by decide +kernel
theorem dMo_lose_28 : decode kMo_lose 28 = .ok (.iload_n 1, 1) := by decide +kernel
theorem dMo_lose_29 : decode kMo_lose 29 = .ok (.iaload, 1) := by decide +kernel
theorem dMo_lose_30 : decode kMo_lose 30 = .ok (.istore_n 2, 1) := by decide +kernel
theorem dMo_lose_31 : decode kMo_lose 31 = .ok (.aload_n 0, 1) := by decide +kernel
theorem dMo_lose_32 : decode kMo_lose 32 = .ok (.getfield 29, 3) := by decide +kernel
theorem dMo_lose_35 : decode kMo_lose 35 = .ok (.iload_n 1, 1) := by decide +kernel
theorem dMo_lose_36 : decode kMo_lose 36 = .ok (.iconst 0, 1) := by decide +kernel
theorem dMo_lose_37 : decode kMo_lose 37 = .ok (.iastore, 1) := by decide +kernel
theorem dMo_lose_38 : decode kMo_lose 38 = .ok (.iload_n 2, 1) := by decide +kernel
theorem dMo_lose_39 : decode kMo_lose 39 = .ok (.ireturn, 1) := by decide +kernel
theorem dMo_poke_0 : decode kMo_poke 0 = .ok (.aload_n 0, 1) := by decide +kernel
theorem dMo_poke_1 : decode kMo_poke 1 = .ok (.iconst 0, 1) := by decide +kernel
theorem dMo_poke_2 : decode kMo_poke 2 = .ok (.putfield 1, 3) := by decide +kernel
theorem dMo_poke_5 : decode kMo_poke 5 = .ok (.aload_n 0, 1) := by decide +kernel
theorem dMo_poke_6 : decode kMo_poke 6 = .ok (.iload_n 1, 1) := by decide +kernel
theorem dMo_poke_7 : decode kMo_poke 7 = .ok (.invokevirtual 130, 3) := by decide +kernel
theorem dMo_poke_10 : decode kMo_poke 10 = .ok (.ifCond .ne 30, 3) := by decide +kernel
theorem dMo_poke_13 : decode kMo_poke 13 = .ok (.iload_n 2, 1) := by decide +kernel
theorem dMo_poke_14 : decode kMo_poke 14 = .ok (.iconst 0, 1) := by decide +kernel
theorem dMo_poke_15 : decode kMo_poke 15 = .ok (.aload_n 0, 1) := by decide +kernel
theorem dMo_poke_16 : decode kMo_poke 16 = .ok (.getfield 29, 3) := by decide +kernel
theorem dMo_poke_19 : decode kMo_poke 19 = .ok (.iload_n 1, 1) := by decide +kernel
theorem dMo_poke_20 : decode kMo_poke 20 = .ok (.iaload, 1) := by decide +kernel
theorem dMo_poke_21 : decode kMo_poke 21 = .ok (.iconst 1, 1) := by decide +kernel
theorem dMo_poke_22 : decode kMo_poke 22 = .ok (.isub, 1) := by decide +kernel
theorem dMo_poke_23 : decode kMo_poke 23 = .ok (.invokestatic 68, 3) := by decide +kernel
theorem dMo_poke_26 : decode kMo_poke 26 = .ok (.ifCond .eq 14, 3) := by decide +kernel
theorem dMo_poke_29 : decode kMo_poke 29 = .ok (.iload_n 3, 1) := by decide +kernel
theorem dMo_poke_30 : decode kMo_poke 30 = .ok (.iconst 1, 1) := by decide +kernel
theorem dMo_poke_31 : decode kMo_poke 31 = .ok (.sipush 255, 3) := by decide +kernel
theorem dMo_poke_34 : decode kMo_poke 34 = .ok (.invokestatic 68, 3) := by decide +kernel
theorem dMo_poke_37 : decode kMo_poke 37 = .ok (.ifCond .ne 5, 3) := by decide +kernel
theorem dMo_poke_40 : decode kMo_poke 40 = .ok (.iconst (-1), 1) := by decide +kernel
theorem dMo_poke_41 : decode kMo_poke 41 = .ok (.ireturn, 1) := by decide +kernel
theorem dMo_poke_42 : decode kMo_poke 42 = .ok (.aload_n 0, 1) := by decide +kernel
theorem dMo_poke_43 : decode kMo_poke 43 = .ok (.getfield 26, 3) := by decide +kernel
theorem dMo_poke_46 : decode kMo_poke 46 = .ok (.bipush 80, 2) := by decide +kernel
theorem dMo_poke_48 : decode kMo_poke 48 = .ok (.iload_n 1, 1) := by decide +kernel
theorem dMo_poke_49 : decode kMo_poke 49 = .ok (.imul, 1) := by decide +kernel
theorem dMo_poke_50 : decode kMo_poke 50 = .ok (.iload_n 2, 1) := by decide +kernel
theorem dMo_poke_51 : decode kMo_poke 51 = .ok (.iadd, 1) := by decide +kernel
theorem dMo_poke_52 : decode kMo_poke 52 = .ok (.aload_n 0, 1) := by decide +kernel
theorem dMo_poke_53 : decode kMo_poke 53 = .ok (.getfield 26, 3) := by decide +kernel
theorem dMo_poke_56 : decode kMo_poke 56 = .ok (.bipush 80, 2) := by decide +kernel
theorem dMo_poke_58 : decode kMo_poke 58 = .ok (.iload_n 1, 1) := by decide +kernel
theorem dMo_poke_59 : decode kMo_poke 59 = .ok (.imul, 1) := by decide +kernel
theorem dMo_poke_60 : decode kMo_poke 60 = .ok (.iload_n 2, 1) := by decide +kernel
theorem dMo_poke_61 : decode kMo_poke 61 = .ok (.iadd, 1) := by decide +kernel
theorem dMo_poke_62 : decode kMo_poke 62 = .ok (.iaload, 1) := by decide +kernel
theorem dMo_poke_63 : decode kMo_poke 63 = .ok (.iload_n 3, 1) := by decide +kernel
theorem dMo_poke_64 : decode kMo_poke 64 = .ok (.ixor, 1) := by decide +kernel
theorem dMo_poke_65 : decode kMo_poke 65 = .ok (.iastore, 1) := by decide +kernel
theorem dMo_poke_66 : decode kMo_poke 66 = .ok (.aload_n 0, 1) := by decide +kernel
theorem dMo_poke_67 : decode kMo_poke 67 = .ok (.getfield 26, 3) := by decide +kernel
theorem dMo_poke_70 : decode kMo_poke 70 = .ok (.bipush 80, 2) := by decide +kernel
theorem dMo_poke_72 : decode kMo_poke 72 = .ok (.iload_n 1, 1) := by decide +kernel
theorem dMo_poke_73 : decode kMo_poke 73 = .ok (.imul, 1) := by decide +kernel
theorem dMo_poke_74 : decode kMo_poke 74 = .ok (.iload_n 2, 1) := by decide +kernel
theorem dMo_poke_75 : decode kMo_poke 75 = .ok (.iadd, 1) := by decide +kernel
theorem dMo_poke_76 : decode kMo_poke 76 = .ok (.iaload, 1) := by decide +kernel
theorem dMo_poke_77 : decode kMo_poke 77 = .ok (.ireturn, 1) := by decide +kernel
theorem dMo_swap_0 : decode kMo_swap 0 = .ok (.aload_n 0, 1) := by decide +kernel
theorem dMo_swap_1 : decode kMo_swap 1 = .ok (.iconst 0, 1) := by decide +kernel
theorem dMo_swap_2 : decode kMo_swap 2 = .ok (.putfield 1, 3) := by decide +kernel
theorem dMo_swap_5 : decode kMo_swap 5 = .ok (.aload_n 0, 1) := by decide +kernel
theorem dMo_swap_6 : decode kMo_swap 6 = .ok (.iload_n 1, 1) := by decide +kernel
theorem dMo_swap_7 : decode kMo_swap 7 = .ok (.invokevirtual 130, 3) := by decide +kernel
theorem dMo_swap_10 : decode kMo_swap 10 = .ok (.ifCond .ne 11, 3) := by decide +kernel
theorem dMo_swap_13 : decode kMo_swap 13 = .ok (.aload_n 0, 1) := by decide +kernel
theorem dMo_swap_14 : decode kMo_swap 14 = .ok (.iload_n 2, 1) := by decide +kernel
theorem dMo_swap_15 : decode kMo_swap 15 = .ok (.invokevirtual 130, 3) := by decide +kernel
theorem dMo_swap_18 : decode kMo_swap 18 = .ok (.ifCond .eq 5, 3) := by decide +kernel
theorem dMo_swap_21 : decode kMo_swap 21 = .ok (.iconst (-1), 1) := by decide +kernel
theorem dMo_swap_22 : decode kMo_swap 22 = .ok (.ireturn, 1) := by decide +kernel
theorem dMo_swap_23 : decode kMo_swap 23 = .ok (.aload_n 0, 1) := by decide +kernel
theorem dMo_swap_24 : decode kMo_swap 24 = .ok (.getfield 29, 3) := by decide +kernel
theorem dMo_swap_27 : decode kMo_swap 27 = .ok (.iload_n 1, 1) := by decide +kernel
theorem dMo_swap_28 : decode kMo_swap 28 = .ok (.iaload, 1) := by decide +kernel
theorem dMo_swap_29 : decode kMo_swap 29 = .ok (.istore_n 3, 1) := by decide +kernel
theorem dMo_swap_30 : decode kMo_swap 30 = .ok (.aload_n 0, 1) := by decide +kernel
theorem dMo_swap_31 : decode kMo_swap 31 = .ok (.getfield 29, 3) := by decide +kernel
theorem dMo_swap_34 : decode kMo_swap 34 = .ok (.iload_n 1, 1) := by decide +kernel
theorem dMo_swap_35 : decode kMo_swap 35 = .ok (.aload_n 0, 1) := by decide +kernel
theorem dMo_swap_36 : decode kMo_swap 36 = .ok (.getfield 29, 3) := by decide +kernel
theorem dMo_swap_39 : decode kMo_swap 39 = .ok (.iload_n 2, 1) := by decide +kernel
theorem dMo_swap_40 : decode kMo_swap 40 = .ok (.iaload, 1) := by decide +kernel
theorem dMo_swap_41 : decode kMo_swap 41 = .ok (.iastore, 1) := by decide +kernel
theorem dMo_swap_42 : decode kMo_swap 42 = .ok (.aload_n 0, 1) := by decide +kernel
theorem dMo_swap_43 : decode kMo_swap 43 = .ok (.getfield 29, 3) := by decide +kernel
theorem dMo_swap_46 : decode kMo_swap 46 = .ok (.iload_n 2, 1) := by decide +kernel
theorem dMo_swap_47 : decode kMo_swap 47 = .ok (.iload_n 3, 1) := by decide +kernel
theorem dMo_swap_48 : decode kMo_swap 48 = .ok (.iastore, 1) := by decide +kernel
theorem dMo_swap_49 : decode kMo_swap 49 = .ok (.iconst 0, 1) := by decide +kernel
theorem dMo_swap_50 : decode kMo_swap 50 = .ok (.istore 4, 2) := by decide +kernel
theorem dMo_swap_52 : decode kMo_swap 52 = .ok (.iload 4, 2) := by decide +kernel
theorem dMo_swap_54 : decode kMo_swap 54 = .ok (.bipush 80, 2) := by decide +kernel
theorem dMo_swap_56 : decode kMo_swap 56 = .ok (.if_icmp .ge 61, 3) := by decide +kernel
theorem dMo_swap_59 : decode kMo_swap 59 = .ok (.aload_n 0, 1) := by decide +kernel
theorem dMo_swap_60 : decode kMo_swap 60 = .ok (.getfield 26, 3) := by decide +kernel
theorem dMo_swap_63 : decode kMo_swap 63 = .ok (.bipush 80, 2) := by decide +kernel
theorem dMo_swap_65 : decode kMo_swap 65 = .ok (.iload_n 1, 1) := by decide +kernel
theorem dMo_swap_66 : decode kMo_swap 66 = .ok (.imul, 1) := by decide +kernel
theorem dMo_swap_67 : decode kMo_swap 67 = .ok (.iload 4, 2) := by decide +kernel
theorem dMo_swap_69 : decode kMo_swap 69 = .ok (.iadd, 1) := by decide +kernel
theorem dMo_swap_70 : decode kMo_swap 70 = .ok (.iaload, 1) := by decide +kernel
theorem dMo_swap_71 : decode kMo_swap 71 = .ok (.istore 5, 2) := by decide +kernel
theorem dMo_swap_73 : decode kMo_swap 73 = .ok (.aload_n 0, 1) := by decide +kernel
theorem dMo_swap_74 : decode kMo_swap 74 = .ok (.getfield 26, 3) := by decide +kernel
theorem dMo_swap_77 : decode kMo_swap 77 = .ok (.bipush 80, 2) := by decide +kernel
theorem dMo_swap_79 : decode kMo_swap 79 = .ok (.iload_n 1, 1) := by decide +kernel
theorem dMo_swap_80 : decode kMo_swap 80 = .ok (.imul, 1) := by decide +kernel
theorem dMo_swap_81 : decode kMo_swap 81 = .ok (.iload 4, 2) := by decide +kernel
theorem dMo_swap_83 : decode kMo_swap 83 = .ok (.iadd, 1) := by decide +kernel
theorem dMo_swap_84 : decode kMo_swap 84 = .ok (.aload_n 0, 1) := by decide +kernel
theorem dMo_swap_85 : decode kMo_swap 85 = .ok (.getfield 26, 3) := by decide +kernel
theorem dMo_swap_88 : decode kMo_swap 88 = .ok (.bipush 80, 2) := by decide +kernel
theorem dMo_swap_90 : decode kMo_swap 90 = .ok (.iload_n 2, 1) := by decide +kernel
theorem dMo_swap_91 : decode kMo_swap 91 = .ok (.imul, 1) := by decide +kernel
theorem dMo_swap_92 : decode kMo_swap 92 = .ok (.iload 4, 2) := by decide +kernel
theorem dMo_swap_94 : decode kMo_swap 94 = .ok (.iadd, 1) := by decide +kernel
theorem dMo_swap_95 : decode kMo_swap 95 = .ok (.iaload, 1) := by decide +kernel
theorem dMo_swap_96 : decode kMo_swap 96 = .ok (.iastore, 1) := by decide +kernel
theorem dMo_swap_97 : decode kMo_swap 97 = .ok (.aload_n 0, 1) := by decide +kernel
theorem dMo_swap_98 : decode kMo_swap 98 = .ok (.getfield 26, 3) := by decide +kernel
theorem dMo_swap_101 : decode kMo_swap 101 = .ok (.bipush 80, 2) := by decide +kernel
theorem dMo_swap_103 : decode kMo_swap 103 = .ok (.iload_n 2, 1) := by decide +kernel
theorem dMo_swap_104 : decode kMo_swap 104 = .ok (.imul, 1) := by decide +kernel
theorem dMo_swap_105 : decode kMo_swap 105 = .ok (.iload 4, 2) := by decide +kernel
theorem dMo_swap_107 : decode kMo_swap 107 = .ok (.iadd, 1) := by decide +kernel
theorem dMo_swap_108 : decode kMo_swap 108 = .ok (.iload 5, 2) := by decide +kernel
theorem dMo_swap_110 : decode kMo_swap 110 = .ok (.iastore, 1) := by decide +kernel
theorem dMo_swap_111 : decode kMo_swap 111 = .ok (.iinc 4 1, 3) := by decide +kernel
theorem dMo_swap_114 : decode kMo_swap 114 = .ok (.goto (-62), 3) := by decide +kernel
theorem dMo_swap_117 : decode kMo_swap 117 = .ok (.iconst 1, 1) := by decide +kernel
theorem dMo_swap_118 : decode kMo_swap 118 = .ok (.ireturn, 1) := by decide +kernel
theorem dMo_copy_0 : decode kMo_copy 0 = .ok (.aload_n 0, 1) := by decide +kernel
theorem dMo_copy_1 : decode kMo_copy 1 = .ok (.iconst 0, 1) := by decide +kernel
theorem dMo_copy_2 : decode kMo_copy 2 = .ok (.putfield 1, 3) := by decide +kernel
theorem dMo_copy_5 : decode kMo_copy 5 = .ok (.aload_n 0, 1) := by decide +kernel
theorem dMo_copy_6 : decode kMo_copy 6 = .ok (.iload_n 1, 1) := by decide +kernel
theorem dMo_copy_7 : decode kMo_copy 7 = .ok (.invokevirtual 130, 3) := by decide +kernel
theorem dMo_copy_10 : decode kMo_copy 10 = .ok (.ifCond .ne 29, 3) := by decide +kernel
theorem dMo_copy_13 : decode kMo_copy 13 = .ok (.aload_n 0, 1) := by decide +kernel
theorem dMo_copy_14 : decode kMo_copy 14 = .ok (.iload_n 2, 1) := by decide +kernel
theorem dMo_copy_15 : decode kMo_copy 15 = .ok (.invokevirtual 130, 3) := by decide +kernel
theorem dMo_copy_18 : decode kMo_copy 18 = .ok (.ifCond .ne 21, 3) := by decide +kernel
theorem dMo_copy_21 : decode kMo_copy 21 = .ok (.aload_n 0, 1) := by decide +kernel
theorem dMo_copy_22 : decode kMo_copy 22 = .ok (.getfield 29, 3) := by decide +kernel
theorem dMo_copy_25 : decode kMo_copy 25 = .ok (.iload_n 1, 1) := by decide +kernel
theorem dMo_copy_26 : decode kMo_copy 26 = .ok (.iaload, 1) := by decide +kernel
theorem dMo_copy_27 : decode kMo_copy 27 = .ok (.ifCond .eq 12, 3) := by decide +kernel
theorem dMo_copy_30 : decode kMo_copy 30 = .ok (.aload_n 0, 1) := by decide +kernel
theorem dMo_copy_31 : decode kMo_copy 31 = .ok (.getfield 29, 3) := by decide +kernel
theorem dMo_copy_34 : decode kMo_copy 34 = .ok (.iload_n 2, 1) := by decide +kernel
theorem dMo_copy_35 : decode kMo_copy 35 = .ok (.iaload, 1) := by decide +kernel
theorem dMo_copy_36 : decode kMo_copy 36 = .ok (.ifCond .le 5, 3) := by decide +kernel
theorem dMo_copy_39 : decode kMo_copy 39 = .ok (.iconst (-1), 1) := by decide +kernel
theorem dMo_copy_40 : decode kMo_copy 40 = .ok (.ireturn, 1) := by decide +kernel
theorem dMo_copy_41 : decode kMo_copy 41 = .ok (.aload_n 0, 1) := by decide +kernel
theorem dMo_copy_42 : decode kMo_copy 42 = .ok (.getfield 29, 3) := by decide +kernel
theorem dMo_copy_45 : decode kMo_copy 45 = .ok (.iload_n 2, 1) := by decide +kernel
theorem dMo_copy_46 : decode kMo_copy 46 = .ok (.aload_n 0, 1) := by decide +kernel
theorem dMo_copy_47 : decode kMo_copy 47 = .ok (.getfield 29, 3) := by decide +kernel
theorem dMo_copy_50 : decode kMo_copy 50 = .ok (.iload_n 1, 1) := by decide +kernel
theorem dMo_copy_51 : decode kMo_copy 51 = .ok (.iaload, 1) := by decide +kernel
theorem dMo_copy_52 : decode kMo_copy 52 = .ok (.iastore, 1) := by decide +kernel
theorem dMo_copy_53 : decode kMo_copy 53 = .ok (.iconst 0, 1) := by decide +kernel
theorem dMo_copy_54 : decode kMo_copy 54 = .ok (.istore_n 3, 1) := by decide +kernel
theorem dMo_copy_55 : decode kMo_copy 55 = .ok (.iload_n 3, 1) := by decide +kernel
theorem dMo_copy_56 : decode kMo_copy 56 = .ok (.bipush 80, 2) := by decide +kernel
theorem dMo_copy_58 : decode kMo_copy 58 = .ok (.if_icmp .ge 31, 3) := by decide +kernel
theorem dMo_copy_61 : decode kMo_copy 61 = .ok (.aload_n 0, 1) := by decide +kernel
theorem dMo_copy_62 : decode kMo_copy 62 = .ok (.getfield 26, 3) := by decide +kernel
theorem dMo_copy_65 : decode kMo_copy 65 = .ok (.bipush 80, 2) := by decide +kernel
theorem dMo_copy_67 : decode kMo_copy 67 = .ok (.iload_n 2, 1) := by decide +kernel
theorem dMo_copy_68 : decode kMo_copy 68 = .ok (.imul, 1) := by decide +kernel
theorem dMo_copy_69 : decode kMo_copy 69 = .ok (.iload_n 3, 1) := by decide +kernel
theorem dMo_copy_70 : decode kMo_copy 70 = .ok (.iadd, 1) := by decide +kernel
theorem dMo_copy_71 : decode kMo_copy 71 = .ok (.aload_n 0, 1) := by decide +kernel
theorem dMo_copy_72 : decode kMo_copy 72 = .ok (.getfield 26, 3) := by decide +kernel
theorem dMo_copy_75 : decode kMo_copy 75 = .ok (.bipush 80, 2) := by decide +kernel
theorem dMo_copy_77 : decode kMo_copy 77 = .ok (.iload_n 1, 1) := by decide +kernel
theorem dMo_copy_78 : decode kMo_copy 78 = .ok (.imul, 1) := by decide +kernel
theorem dMo_copy_79 : decode kMo_copy 79 = .ok (.iload_n 3, 1) := by decide +kernel
theorem dMo_copy_80 : decode kMo_copy 80 = .ok (.iadd, 1) := by decide +kernel
theorem dMo_copy_81 : decode kMo_copy 81 = .ok (.iaload, 1) := by decide +kernel
theorem dMo_copy_82 : decode kMo_copy 82 = .ok (.iastore, 1) := by decide +kernel
theorem dMo_copy_83 : decode kMo_copy 83 = .ok (.iinc 3 1, 3) := by decide +kernel
theorem dMo_copy_86 : decode kMo_copy 86 = .ok (.goto (-31), 3) := by decide +kernel
theorem dMo_copy_89 : decode kMo_copy 89 = .ok (.aload_n 0, 1) := by decide +kernel
theorem dMo_copy_90 : decode kMo_copy 90 = .ok (.getfield 29, 3) := by decide +kernel
theorem dMo_copy_93 : decode kMo_copy 93 = .ok (.iload_n 2, 1) := by decide +kernel
theorem dMo_copy_94 : decode kMo_copy 94 = .ok (.iaload, 1) := by decide +kernel
theorem dMo_copy_95 : decode kMo_copy 95 = .ok (.ireturn, 1) := by decide +kernel
theorem dMo_two_0 : decode kMo_two 0 = .ok (.aload_n 0, 1) := by decide +kernel
theorem dMo_two_1 : decode kMo_two 1 = .ok (.getfield 26, 3) := by decide +kernel
theorem dMo_two_4 : decode kMo_two 4 = .ok (.iload_n 1, 1) := by decide +kernel
theorem dMo_two_5 : decode kMo_two 5 = .ok (.iaload, 1) := by decide +kernel
theorem dMo_two_6 : decode kMo_two 6 = .ok (.sipush 256, 3) := by decide +kernel
theorem dMo_two_9 : decode kMo_two 9 = .ok (.aload_n 0, 1) := by decide +kernel
theorem dMo_two_10 : decode kMo_two 10 = .ok (.getfield 26, 3) := by decide +kernel
theorem dMo_two_13 : decode kMo_two 13 = .ok (.iload_n 1, 1) := by decide +kernel
theorem dMo_two_14 : decode kMo_two 14 = .ok (.iconst 1, 1) := by decide +kernel
theorem dMo_two_15 : decode kMo_two 15 = .ok (.iadd, 1) := by decide +kernel
theorem dMo_two_16 : decode kMo_two 16 = .ok (.iaload, 1) := by decide +kernel
theorem dMo_two_17 : decode kMo_two 17 = .ok (.imul, 1) := by decide +kernel
theorem dMo_two_18 : decode kMo_two 18 = .ok (.iadd, 1) := by decide +kernel
theorem dMo_two_19 : decode kMo_two 19 = .ok (.ireturn, 1) := by decide +kernel
theorem dMo_state_0 : decode kMo_state 0 = .ok (.aload_n 0, 1) := by decide +kernel
theorem dMo_state_1 : decode kMo_state 1 = .ok (.getfield 29, 3) := by decide +kernel
theorem dMo_state_4 : decode kMo_state 4 = .ok (.iload_n 1, 1) := by decide +kernel
theorem dMo_state_5 : decode kMo_state 5 = .ok (.iaload, 1) := by decide +kernel
theorem dMo_state_6 : decode kMo_state 6 = .ok (.ifCond .ne 5, 3) := by decide +kernel
theorem dMo_state_9 : decode kMo_state 9 = .ok (.iconst 0, 1) := by decide +kernel
theorem dMo_state_10 : decode kMo_state 10 = .ok (.ireturn, 1) := by decide +kernel
theorem dMo_state_11 : decode kMo_state 11 = .ok (.bipush 80, 2) := by decide +kernel
theorem dMo_state_13 : decode kMo_state 13 = .ok (.iload_n 1, 1) := by decide +kernel
theorem dMo_state_14 : decode kMo_state 14 = .ok (.imul, 1) := by decide +kernel
theorem dMo_state_15 : decode kMo_state 15 = .ok (.istore_n 2, 1) := by decide +kernel
theorem dMo_state_16 : decode kMo_state 16 = .ok (.aload_n 0, 1) := by decide +kernel
theorem dMo_state_17 : decode kMo_state 17 = .ok (.getfield 26, 3) := by decide +kernel
theorem dMo_state_20 : decode kMo_state 20 = .ok (.iload_n 2, 1) := by decide +kernel
theorem dMo_state_21 : decode kMo_state 21 = .ok (.iaload, 1) := by decide +kernel
theorem dMo_state_22 : decode kMo_state 22 = .ok (.bipush 86, 2) := by decide +kernel
theorem dMo_state_24 : decode kMo_state 24 = .ok (.if_icmp .ne 41, 3) := by decide +kernel
theorem dMo_state_27 : decode kMo_state 27 = .ok (.aload_n 0, 1) := by decide +kernel
theorem dMo_state_28 : decode kMo_state 28 = .ok (.getfield 26, 3) := by decide +kernel
theorem dMo_state_31 : decode kMo_state 31 = .ok (.iload_n 2, 1) := by decide +kernel
theorem dMo_state_32 : decode kMo_state 32 = .ok (.iconst 1, 1) := by decide +kernel
theorem dMo_state_33 : decode kMo_state 33 = .ok (.iadd, 1) := by decide +kernel
theorem dMo_state_34 : decode kMo_state 34 = .ok (.iaload, 1) := by decide +kernel
theorem dMo_state_35 : decode kMo_state 35 = .ok (.bipush 83, 2) := by decide +kernel
theorem dMo_state_37 : decode kMo_state 37 = .ok (.if_icmp .ne 28, 3) := by decide +kernel
theorem dMo_state_40 : decode kMo_state 40 = .ok (.aload_n 0, 1) := by decide +kernel
theorem dMo_state_41 : decode kMo_state 41 = .ok (.getfield 26, 3) := by decide +kernel
theorem dMo_state_44 : decode kMo_state 44 = .ok (.iload_n 2, 1) := by decide +kernel
theorem dMo_state_45 : decode kMo_state 45 = .ok (.bipush 10, 2) := by decide +kernel
theorem dMo_state_47 : decode kMo_state 47 = .ok (.invokestatic 80, 3) := by decide +kernel
theorem dMo_state_50 : decode kMo_state 50 = .ok (.aload_n 0, 1) := by decide +kernel
theorem dMo_state_51 : decode kMo_state 51 = .ok (.iload_n 2, 1) := by decide +kernel
theorem dMo_state_52 : decode kMo_state 52 = .ok (.bipush 10, 2) := by decide +kernel
theorem dMo_state_54 : decode kMo_state 54 = .ok (.iadd, 1) := by decide +kernel
theorem dMo_state_55 : decode kMo_state 55 = .ok (.invokevirtual 134, 3) := by decide +kernel
theorem dMo_state_58 : decode kMo_state 58 = .ok (.if_icmp .ne 7, 3) := by decide +kernel
theorem dMo_state_61 : decode kMo_state 61 = .ok (.iconst 1, 1) := by decide +kernel
theorem dMo_state_62 : decode kMo_state 62 = .ok (.goto 4, 3) := by decide +kernel
theorem dMo_state_65 : decode kMo_state 65 = .ok (.iconst 0, 1) := by decide +kernel
theorem dMo_state_66 : decode kMo_state 66 = .ok (.istore_n 3, 1) := by decide +kernel
theorem dMo_state_67 : decode kMo_state 67 = .ok (.iload_n 3, 1) := by decide +kernel
theorem dMo_state_68 : decode kMo_state 68 = .ok (.ifCond .eq 68, 3) := by decide +kernel
theorem dMo_state_71 : decode kMo_state 71 = .ok (.aload_n 0, 1) := by decide +kernel
theorem dMo_state_72 : decode kMo_state 72 = .ok (.getfield 26, 3) := by decide +kernel
theorem dMo_state_75 : decode kMo_state 75 = .ok (.iload_n 2, 1) := by decide +kernel
theorem dMo_state_76 : decode kMo_state 76 = .ok (.iconst 4, 1) := by decide +kernel
theorem dMo_state_77 : decode kMo_state 77 = .ok (.iadd, 1) := by decide +kernel
theorem dMo_state_78 : decode kMo_state 78 = .ok (.iaload, 1) := by decide +kernel
theorem dMo_state_79 : decode kMo_state 79 = .ok (.iconst 1, 1) := by decide +kernel
theorem dMo_state_80 : decode kMo_state 80 = .ok (.bipush 60, 2) := by decide +kernel
theorem dMo_state_82 : decode kMo_state 82 = .ok (.invokestatic 68, 3) := by decide +kernel
theorem dMo_state_85 : decode kMo_state 85 = .ok (.ifCond .eq 51, 3) := by decide +kernel
theorem dMo_state_88 : decode kMo_state 88 = .ok (.aload_n 0, 1) := by decide +kernel
theorem dMo_state_89 : decode kMo_state 89 = .ok (.getfield 26, 3) := by decide +kernel
theorem dMo_state_92 : decode kMo_state 92 = .ok (.iload_n 2, 1) := by decide +kernel
theorem dMo_state_93 : decode kMo_state 93 = .ok (.iconst 5, 1) := by decide +kernel
theorem dMo_state_94 : decode kMo_state 94 = .ok (.iadd, 1) := by decide +kernel
theorem dMo_state_95 : decode kMo_state 95 = .ok (.iaload, 1) := by decide +kernel
theorem dMo_state_96 : decode kMo_state 96 = .ok (.iconst 0, 1) := by decide +kernel
theorem dMo_state_97 : decode kMo_state 97 = .ok (.iconst 3, 1) := by decide +kernel
theorem dMo_state_98 : decode kMo_state 98 = .ok (.invokestatic 68, 3) := by decide +kernel
theorem dMo_state_101 : decode kMo_state 101 = .ok (.ifCond .eq 35, 3) := by decide +kernel
theorem dMo_state_104 : decode kMo_state 104 = .ok (.aload_n 0, 1) := by decide +kernel
theorem dMo_state_105 : decode kMo_state 105 = .ok (.getfield 26, 3) := by decide +kernel
theorem dMo_state_108 : decode kMo_state 108 = .ok (.iload_n 2, 1) := by decide +kernel
theorem dMo_state_109 : decode kMo_state 109 = .ok (.iconst 3, 1) := by decide +kernel
theorem dMo_state_110 : decode kMo_state 110 = .ok (.iadd, 1) := by decide +kernel
theorem dMo_state_111 : decode kMo_state 111 = .ok (.iaload, 1) := by decide +kernel
theorem dMo_state_112 : decode kMo_state 112 = .ok (.aload_n 0, 1) := by decide +kernel
theorem dMo_state_113 : decode kMo_state 113 = .ok (.getfield 26, 3) := by decide +kernel
theorem dMo_state_116 : decode kMo_state 116 = .ok (.iload_n 2, 1) := by decide +kernel
theorem dMo_state_117 : decode kMo_state 117 = .ok (.iconst 4, 1) := by decide +kernel
theorem dMo_state_118 : decode kMo_state 118 = .ok (.iadd, 1) := by decide +kernel
theorem dMo_state_119 : decode kMo_state 119 = .ok (.iaload, 1) := by decide +kernel
theorem dMo_state_120 : decode kMo_state 120 = .ok (.aload_n 0, 1) := by decide +kernel
theorem dMo_state_121 : decode kMo_state 121 = .ok (.getfield 26, 3) := by decide +kernel
theorem dMo_state_124 : decode kMo_state 124 = .ok (.iload_n 2, 1) := by decide +kernel
theorem dMo_state_125 : decode kMo_state 125 = .ok (.iconst 5, 1) := by decide +kernel
theorem dMo_state_126 : decode kMo_state 126 = .ok (.iadd, 1) := by decide +kernel
theorem dMo_state_127 : decode kMo_state 127 = .ok (.iaload, 1) := by decide +kernel
theorem dMo_state_128 : decode kMo_state 128 = .ok (.iadd, 1) := by decide +kernel
theorem dMo_state_129 : decode kMo_state 129 = .ok (.if_icmp .ge 7, 3) := by decide +kernel
theorem dMo_state_132 : decode kMo_state 132 = .ok (.iconst 1, 1) := by decide +kernel
theorem dMo_state_133 : decode kMo_state 133 = .ok (.goto 4, 3) := by decide +kernel
theorem dMo_state_136 : decode kMo_state 136 = .ok (.iconst 0, 1) := by decide +kernel
theorem dMo_state_137 : decode kMo_state 137 = .ok (.istore_n 3, 1) := by decide +kernel
theorem dMo_state_138 : decode kMo_state 138 = .ok (.iload_n 3, 1) := by decide +kernel
theorem dMo_state_139 : decode kMo_state 139 = .ok (.ifCond .ne 7, 3) := by decide +kernel
theorem dMo_state_142 : decode kMo_state 142 = .ok (.iconst 3, 1) := by decide +kernel
theorem dMo_state_143 : decode kMo_state 143 = .ok (.goto 39, 3) := by decide +kernel
theorem dMo_state_146 : decode kMo_state 146 = .ok (.aload_n 0, 1) := by decide +kernel
theorem dMo_state_147 : decode kMo_state 147 = .ok (.getfield 26, 3) := by decide +kernel
theorem dMo_state_150 : decode kMo_state 150 = .ok (.iload_n 2, 1) := by decide +kernel
theorem dMo_state_151 : decode kMo_state 151 = .ok (.bipush 12, 2) := by decide +kernel
theorem dMo_state_153 : decode kMo_state 153 = .ok (.iadd, 1) := by decide +kernel
theorem dMo_state_154 : decode kMo_state 154 = .ok (.aload_n 0, 1) := by decide +kernel
theorem dMo_state_155 : decode kMo_state 155 = .ok (.getfield 29, 3) := by decide +kernel
theorem dMo_state_158 : decode kMo_state 158 = .ok (.iload_n 1, 1) := by decide +kernel
theorem dMo_state_159 : decode kMo_state 159 = .ok (.iaload, 1) := by decide +kernel
theorem dMo_state_160 : decode kMo_state 160 = .ok (.bipush 12, 2) := by decide +kernel
theorem dMo_state_162 : decode kMo_state 162 = .ok (.isub, 1) := by decide +kernel
theorem dMo_state_163 : decode kMo_state 163 = .ok (.invokestatic 80, 3) := by decide +kernel
theorem dMo_state_166 : decode kMo_state 166 = .ok (.aload_n 0, 1) := by decide +kernel
theorem dMo_state_167 : decode kMo_state 167 = .ok (.iload_n 2, 1) := by decide +kernel
theorem dMo_state_168 : decode kMo_state 168 = .ok (.bipush 8, 2) := by decide +kernel
theorem dMo_state_170 : decode kMo_state 170 = .ok (.iadd, 1) := by decide +kernel
theorem dMo_state_171 : decode kMo_state 171 = .ok (.invokevirtual 134, 3) := by decide +kernel
theorem dMo_state_174 : decode kMo_state 174 = .ok (.if_icmp .ne 7, 3) := by decide +kernel
theorem dMo_state_177 : decode kMo_state 177 = .ok (.iconst 1, 1) := by decide +kernel
theorem dMo_state_178 : decode kMo_state 178 = .ok (.goto 4, 3) := by decide +kernel
theorem dMo_state_181 : decode kMo_state 181 = .ok (.iconst 2, 1) := by decide +kernel
theorem dMo_state_182 : decode kMo_state 182 = .ok (.ireturn, 1) := by decide +kernel
theorem dMo_slot_0 : decode kMo_slot 0 = .ok (.aload_n 0, 1) := by decide +kernel
theorem dMo_slot_1 : decode kMo_slot 1 = .ok (.iconst 0, 1) := by decide +kernel
theorem dMo_slot_2 : decode kMo_slot 2 = .ok (.putfield 1, 3) := by decide +kernel
theorem dMo_slot_5 : decode kMo_slot 5 = .ok (.aload_n 0, 1) := by decide +kernel
theorem dMo_slot_6 : decode kMo_slot 6 = .ok (.iload_n 1, 1) := by decide +kernel
theorem dMo_slot_7 : decode kMo_slot 7 = .ok (.invokevirtual 130, 3) := by decide +kernel
theorem dMo_slot_10 : decode kMo_slot 10 = .ok (.ifCond .ne 12, 3) := by decide +kernel
theorem dMo_slot_13 : decode kMo_slot 13 = .ok (.iload_n 2, 1) := by decide +kernel
theorem dMo_slot_14 : decode kMo_slot 14 = .ok (.iconst 0, 1) := by decide +kernel
theorem dMo_slot_15 : decode kMo_slot 15 = .ok (.iconst 5, 1) := by decide +kernel
theorem dMo_slot_16 : decode kMo_slot 16 = .ok (.invokestatic 68, 3) := by decide +kernel
theorem dMo_slot_19 : decode kMo_slot 19 = .ok (.ifCond .ne 5, 3) := by decide +kernel
theorem dMo_slot_22 : decode kMo_slot 22 = .ok (.iconst (-1), 1) := by decide +kernel
theorem dMo_slot_23 : decode kMo_slot 23 = .ok (.ireturn, 1) := by decide +kernel
theorem dMo_slot_24 : decode kMo_slot 24 = .ok (.aload_n 0, 1) := by decide +kernel
theorem dMo_slot_25 : decode kMo_slot 25 = .ok (.iload_n 1, 1) := by decide +kernel
theorem dMo_slot_26 : decode kMo_slot 26 = .ok (.invokevirtual 137, 3) := by decide +kernel
theorem dMo_slot_29 : decode kMo_slot 29 = .ok (.istore_n 3, 1) := by decide +kernel
theorem dMo_slot_30 : decode kMo_slot 30 = .ok (.iload_n 2, 1) := by decide +kernel
theorem dMo_slot_31 : decode kMo_slot 31 = .ok (.ifCond .ne 5, 3) := by decide +kernel
theorem dMo_slot_34 : decode kMo_slot 34 = .ok (.iload_n 3, 1) := by decide +kernel
theorem dMo_slot_35 : decode kMo_slot 35 = .ok (.ireturn, 1) := by decide +kernel
theorem dMo_slot_36 : decode kMo_slot 36 = .ok (.iload_n 2, 1) := by decide +kernel
theorem dMo_slot_37 : decode kMo_slot 37 = .ok (.iconst 5, 1) := by decide +kernel
theorem dMo_slot_38 : decode kMo_slot 38 = .ok (.if_icmp .ne 19, 3) := by decide +kernel
theorem dMo_slot_41 : decode kMo_slot 41 = .ok (.iload_n 3, 1) := by decide +kernel
theorem dMo_slot_42 : decode kMo_slot 42 = .ok (.ifCond .ne 8, 3) := by decide +kernel
theorem dMo_slot_45 : decode kMo_slot 45 = .ok (.bipush (-2), 2) := by decide +kernel
theorem dMo_slot_47 : decode kMo_slot 47 = .ok (.goto 9, 3) := by decide +kernel
theorem dMo_slot_50 : decode kMo_slot 50 = .ok (.aload_n 0, 1) := by decide +kernel
theorem dMo_slot_51 : decode kMo_slot 51 = .ok (.getfield 29, 3) := by decide +kernel
theorem dMo_slot_54 : decode kMo_slot 54 = .ok (.iload_n 1, 1) := by decide +kernel
theorem dMo_slot_55 : decode kMo_slot 55 = .ok (.iaload, 1) := by decide +kernel
theorem dMo_slot_56 : decode kMo_slot 56 = .ok (.ireturn, 1) := by decide +kernel
theorem dMo_slot_57 : decode kMo_slot 57 = .ok (.iload_n 3, 1) := by decide +kernel
theorem dMo_slot_58 : decode kMo_slot 58 = .ok (.iconst 1, 1) := by decide +kernel
theorem dMo_slot_59 : decode kMo_slot 59 = .ok (.iconst 2, 1) := by decide +kernel
theorem dMo_slot_60 : decode kMo_slot 60 = .ok (.invokestatic 68, 3) := by decide +kernel
theorem dMo_slot_63 : decode kMo_slot 63 = .ok (.ifCond .eq 19, 3) := by decide +kernel
theorem dMo_slot_66 : decode kMo_slot 66 = .ok (.aload_n 0, 1) := by decide +kernel
theorem dMo_slot_67 : decode kMo_slot 67 = .ok (.getfield 26, 3) := by decide +kernel
theorem dMo_slot_70 : decode kMo_slot 70 = .ok (.bipush 80, 2) := by decide +kernel
theorem dMo_slot_72 : decode kMo_slot 72 = .ok (.iload_n 1, 1) := by decide +kernel
theorem dMo_slot_73 : decode kMo_slot 73 = .ok (.imul, 1) := by decide +kernel
theorem dMo_slot_74 : decode kMo_slot 74 = .ok (.iconst 1, 1) := by decide +kernel
theorem dMo_slot_75 : decode kMo_slot 75 = .ok (.iadd, 1) := by decide +kernel
theorem dMo_slot_76 : decode kMo_slot 76 = .ok (.iload_n 2, 1) := by decide +kernel
theorem dMo_slot_77 : decode kMo_slot 77 = .ok (.iadd, 1) := by decide +kernel
theorem dMo_slot_78 : decode kMo_slot 78 = .ok (.iaload, 1) := by decide +kernel
theorem dMo_slot_79 : decode kMo_slot 79 = .ok (.goto 5, 3) := by decide +kernel
theorem dMo_slot_82 : decode kMo_slot 82 = .ok (.bipush (-2), 2) := by decide +kernel
theorem dMo_slot_84 : decode kMo_slot 84 = .ok (.ireturn, 1) := by decide +kernel
theorem dMo_read_0 : decode kMo_read 0 = .ok (.aload_n 0, 1) := by decide +kernel
theorem dMo_read_1 : decode kMo_read 1 = .ok (.iconst 0, 1) := by decide +kernel
theorem dMo_read_2 : decode kMo_read 2 = .ok (.putfield 1, 3) := by decide +kernel
theorem dMo_read_5 : decode kMo_read 5 = .ok (.iload_n 1, 1) := by decide +kernel
theorem dMo_read_6 : decode kMo_read 6 = .ok (.iconst 0, 1) := by decide +kernel
theorem dMo_read_7 : decode kMo_read 7 = .ok (.sipush 255, 3) := by decide +kernel
theorem dMo_read_10 : decode kMo_read 10 = .ok (.invokestatic 68, 3) := by decide +kernel
theorem dMo_read_13 : decode kMo_read 13 = .ok (.ifCond .ne 5, 3) := by decide +kernel
theorem dMo_read_16 : decode kMo_read 16 = .ok (.iconst (-1), 1) := by decide +kernel
theorem dMo_read_17 : decode kMo_read 17 = .ok (.ireturn, 1) := by decide +kernel
theorem dMo_read_18 : decode kMo_read 18 = .ok (.aload_n 0, 1) := by decide +kernel
theorem dMo_read_19 : decode kMo_read 19 = .ok (.iconst 0, 1) := by decide +kernel
theorem dMo_read_20 : decode kMo_read 20 = .ok (.putfield 140, 3) := by decide +kernel
theorem dMo_read_23 : decode kMo_read 23 = .ok (.iconst 0, 1) := by decide +kernel
theorem dMo_read_24 : decode kMo_read 24 = .ok (.istore_n 2, 1) := by decide +kernel
theorem dMo_read_25 : decode kMo_read 25 = .ok (.iload_n 2, 1) := by decide +kernel
theorem dMo_read_26 : decode kMo_read 26 = .ok (.bipush 60, 2) := by decide +kernel
theorem dMo_read_28 : decode kMo_read 28 = .ok (.if_icmp .ge 85, 3) := by decide +kernel
theorem dMo_read_31 : decode kMo_read 31 = .ok (.aload_n 0, 1) := by decide +kernel
theorem dMo_read_32 : decode kMo_read 32 = .ok (.getfield 140, 3) := by decide +kernel
theorem dMo_read_35 : decode kMo_read 35 = .ok (.ifCond .ne 78, 3) := by decide +kernel
theorem dMo_read_38 : decode kMo_read 38 = .ok (.aload_n 0, 1) := by decide +kernel
theorem dMo_read_39 : decode kMo_read 39 = .ok (.iload_n 2, 1) := by decide +kernel
theorem dMo_read_40 : decode kMo_read 40 = .ok (.invokevirtual 137, 3) := by decide +kernel
theorem dMo_read_43 : decode kMo_read 43 = .ok (.iconst 1, 1) := by decide +kernel
theorem dMo_read_44 : decode kMo_read 44 = .ok (.if_icmp .ne 63, 3) := by decide +kernel
theorem dMo_read_47 : decode kMo_read 47 = .ok (.aload_n 0, 1) := by decide +kernel
theorem dMo_read_48 : decode kMo_read 48 = .ok (.getfield 26, 3) := by decide +kernel
theorem dMo_read_51 : decode kMo_read 51 = .ok (.bipush 80, 2) := by decide +kernel
theorem dMo_read_53 : decode kMo_read 53 = .ok (.iload_n 2, 1) := by decide +kernel
theorem dMo_read_54 : decode kMo_read 54 = .ok (.imul, 1) := by decide +kernel
theorem dMo_read_55 : decode kMo_read 55 = .ok (.iconst 2, 1) := by decide +kernel
theorem dMo_read_56 : decode kMo_read 56 = .ok (.iadd, 1) := by decide +kernel
theorem dMo_read_57 : decode kMo_read 57 = .ok (.iaload, 1) := by decide +kernel
theorem dMo_read_58 : decode kMo_read 58 = .ok (.iload_n 1, 1) := by decide +kernel
theorem dMo_read_59 : decode kMo_read 59 = .ok (.if_icmp .ne 48, 3) := by decide +kernel
theorem dMo_read_62 : decode kMo_read 62 = .ok (.aload_n 0, 1) := by decide +kernel
theorem dMo_read_63 : decode kMo_read 63 = .ok (.iconst 1, 1) := by decide +kernel
theorem dMo_read_64 : decode kMo_read 64 = .ok (.putfield 140, 3) := by decide +kernel
theorem dMo_read_67 : decode kMo_read 67 = .ok (.aload_n 0, 1) := by decide +kernel
theorem dMo_read_68 : decode kMo_read 68 = .ok (.aload_n 0, 1) := by decide +kernel
theorem dMo_read_69 : decode kMo_read 69 = .ok (.getfield 26, 3) := by decide +kernel
theorem dMo_read_72 : decode kMo_read 72 = .ok (.bipush 80, 2) := by decide +kernel
theorem dMo_read_74 : decode kMo_read 74 = .ok (.iload_n 2, 1) := by decide +kernel
theorem dMo_read_75 : decode kMo_read 75 = .ok (.imul, 1) := by decide +kernel
theorem dMo_read_76 : decode kMo_read 76 = .ok (.iconst 4, 1) := by decide +kernel
theorem dMo_read_77 : decode kMo_read 77 = .ok (.iadd, 1) := by decide +kernel
theorem dMo_read_78 : decode kMo_read 78 = .ok (.iaload, 1) := by decide +kernel
theorem dMo_read_79 : decode kMo_read 79 = .ok (.putfield 144, 3) := by decide +kernel
theorem dMo_read_82 : decode kMo_read 82 = .ok (.aload_n 0, 1) := by decide +kernel
theorem dMo_read_83 : decode kMo_read 83 = .ok (.aload_n 0, 1) := by decide +kernel
theorem dMo_read_84 : decode kMo_read 84 = .ok (.getfield 26, 3) := by decide +kernel
theorem dMo_read_87 : decode kMo_read 87 = .ok (.bipush 80, 2) := by decide +kernel
theorem dMo_read_89 : decode kMo_read 89 = .ok (.iload_n 2, 1) := by decide +kernel
theorem dMo_read_90 : decode kMo_read 90 = .ok (.imul, 1) := by decide +kernel
theorem dMo_read_91 : decode kMo_read 91 = .ok (.iconst 5, 1) := by decide +kernel
theorem dMo_read_92 : decode kMo_read 92 = .ok (.iadd, 1) := by decide +kernel
theorem dMo_read_93 : decode kMo_read 93 = .ok (.iaload, 1) := by decide +kernel
theorem dMo_read_94 : decode kMo_read 94 = .ok (.putfield 147, 3) := by decide +kernel
theorem dMo_read_97 : decode kMo_read 97 = .ok (.aload_n 0, 1) := by decide +kernel
theorem dMo_read_98 : decode kMo_read 98 = .ok (.aload_n 0, 1) := by decide +kernel
theorem dMo_read_99 : decode kMo_read 99 = .ok (.getfield 29, 3) := by decide +kernel
theorem dMo_read_102 : decode kMo_read 102 = .ok (.iload_n 2, 1) := by decide +kernel
theorem dMo_read_103 : decode kMo_read 103 = .ok (.iaload, 1) := by decide +kernel
theorem dMo_read_104 : decode kMo_read 104 = .ok (.putfield 150, 3) := by decide +kernel
theorem dMo_read_107 : decode kMo_read 107 = .ok (.iinc 2 1, 3) := by decide +kernel
theorem dMo_read_110 : decode kMo_read 110 = .ok (.goto (-85), 3) := by decide +kernel
theorem dMo_read_113 : decode kMo_read 113 = .ok (.aload_n 0, 1) := by decide +kernel
theorem dMo_read_114 : decode kMo_read 114 = .ok (.getfield 140, 3) := by decide +kernel
theorem dMo_read_117 : decode kMo_read 117 = .ok (.ifCond .ne 6, 3) := by decide +kernel
theorem dMo_read_120 : decode kMo_read 120 = .ok (.bipush (-2), 2) := by decide +kernel
theorem dMo_read_122 : decode kMo_read 122 = .ok (.ireturn, 1) := by decide +kernel
theorem dMo_read_123 : decode kMo_read 123 = .ok (.iconst 0, 1) := by decide +kernel
theorem dMo_read_124 : decode kMo_read 124 = .ok (.istore_n 2, 1) := by decide +kernel
theorem dMo_read_125 : decode kMo_read 125 = .ok (.iload_n 2, 1) := by decide +kernel
theorem dMo_read_126 : decode kMo_read 126 = .ok (.aload_n 0, 1) := by decide +kernel
theorem dMo_read_127 : decode kMo_read 127 = .ok (.getfield 144, 3) := by decide +kernel
theorem dMo_read_130 : decode kMo_read 130 = .ok (.aload_n 0, 1) := by decide +kernel
theorem dMo_read_131 : decode kMo_read 131 = .ok (.getfield 147, 3) := by decide +kernel
theorem dMo_read_134 : decode kMo_read 134 = .ok (.iadd, 1) := by decide +kernel
theorem dMo_read_135 : decode kMo_read 135 = .ok (.if_icmp .ge 17, 3) := by decide +kernel
theorem dMo_read_138 : decode kMo_read 138 = .ok (.aload_n 0, 1) := by decide +kernel
theorem dMo_read_139 : decode kMo_read 139 = .ok (.getfield 35, 3) := by decide +kernel
theorem dMo_read_142 : decode kMo_read 142 = .ok (.iload_n 2, 1) := by decide +kernel
theorem dMo_read_143 : decode kMo_read 143 = .ok (.bipush (-2), 2) := by decide +kernel
theorem dMo_read_145 : decode kMo_read 145 = .ok (.iastore, 1) := by decide +kernel
theorem dMo_read_146 : decode kMo_read 146 = .ok (.iinc 2 1, 3) := by decide +kernel
theorem dMo_read_149 : decode kMo_read 149 = .ok (.goto (-24), 3) := by decide +kernel
theorem dMo_read_152 : decode kMo_read 152 = .ok (.bipush 59, 2) := by decide +kernel
theorem dMo_read_154 : decode kMo_read 154 = .ok (.istore_n 2, 1) := by decide +kernel
theorem dMo_read_155 : decode kMo_read 155 = .ok (.iload_n 2, 1) := by decide +kernel
theorem dMo_read_156 : decode kMo_read 156 = .ok (.ifCond .lt 92, 3) := by decide +kernel
theorem dMo_read_159 : decode kMo_read 159 = .ok (.bipush 80, 2) := by decide +kernel
theorem dMo_read_161 : decode kMo_read 161 = .ok (.iload_n 2, 1) := by decide +kernel
theorem dMo_read_162 : decode kMo_read 162 = .ok (.imul, 1) := by decide +kernel
theorem dMo_read_163 : decode kMo_read 163 = .ok (.istore_n 3, 1) := by decide +kernel
theorem dMo_read_164 : decode kMo_read 164 = .ok (.aload_n 0, 1) := by decide +kernel
theorem dMo_read_165 : decode kMo_read 165 = .ok (.iload_n 2, 1) := by decide +kernel
theorem dMo_read_166 : decode kMo_read 166 = .ok (.invokevirtual 137, 3) := by decide +kernel
theorem dMo_read_169 : decode kMo_read 169 = .ok (.iconst 1, 1) := by decide +kernel
theorem dMo_read_170 : decode kMo_read 170 = .ok (.if_icmp .ne 72, 3) := by decide +kernel
theorem dMo_read_173 : decode kMo_read 173 = .ok (.aload_n 0, 1) := by decide +kernel
theorem dMo_read_174 : decode kMo_read 174 = .ok (.getfield 26, 3) := by decide +kernel
theorem dMo_read_177 : decode kMo_read 177 = .ok (.iload_n 3, 1) := by decide +kernel
theorem dMo_read_178 : decode kMo_read 178 = .ok (.iconst 2, 1) := by decide +kernel
theorem dMo_read_179 : decode kMo_read 179 = .ok (.iadd, 1) := by decide +kernel
theorem dMo_read_180 : decode kMo_read 180 = .ok (.iaload, 1) := by decide +kernel
theorem dMo_read_181 : decode kMo_read 181 = .ok (.iload_n 1, 1) := by decide +kernel
theorem dMo_read_182 : decode kMo_read 182 = .ok (.if_icmp .ne 60, 3) := by decide +kernel
theorem dMo_read_185 : decode kMo_read 185 = .ok (.aload_n 0, 1) := by decide +kernel
theorem dMo_read_186 : decode kMo_read 186 = .ok (.getfield 26, 3) := by decide +kernel
theorem dMo_read_189 : decode kMo_read 189 = .ok (.iload_n 3, 1) := by decide +kernel
theorem dMo_read_190 : decode kMo_read 190 = .ok (.iconst 4, 1) := by decide +kernel
theorem dMo_read_191 : decode kMo_read 191 = .ok (.iadd, 1) := by decide +kernel
theorem dMo_read_192 : decode kMo_read 192 = .ok (.iaload, 1) := by decide +kernel
theorem dMo_read_193 : decode kMo_read 193 = .ok (.aload_n 0, 1) := by decide +kernel
theorem dMo_read_194 : decode kMo_read 194 = .ok (.getfield 144, 3) := by decide +kernel
theorem dMo_read_197 : decode kMo_read 197 = .ok (.if_icmp .ne 45, 3) := by decide +kernel
theorem dMo_read_200 : decode kMo_read 200 = .ok (.aload_n 0, 1) := by decide +kernel
theorem dMo_read_201 : decode kMo_read 201 = .ok (.getfield 26, 3) := by decide +kernel
theorem dMo_read_204 : decode kMo_read 204 = .ok (.iload_n 3, 1) := by decide +kernel
theorem dMo_read_205 : decode kMo_read 205 = .ok (.iconst 5, 1) := by decide +kernel
theorem dMo_read_206 : decode kMo_read 206 = .ok (.iadd, 1) := by decide +kernel
theorem dMo_read_207 : decode kMo_read 207 = .ok (.iaload, 1) := by decide +kernel
theorem dMo_read_208 : decode kMo_read 208 = .ok (.aload_n 0, 1) := by decide +kernel
theorem dMo_read_209 : decode kMo_read 209 = .ok (.getfield 147, 3) := by decide +kernel
theorem dMo_read_212 : decode kMo_read 212 = .ok (.if_icmp .ne 30, 3) := by decide +kernel
theorem dMo_read_215 : decode kMo_read 215 = .ok (.aload_n 0, 1) := by decide +kernel
theorem dMo_read_216 : decode kMo_read 216 = .ok (.getfield 29, 3) := by decide +kernel
theorem dMo_read_219 : decode kMo_read 219 = .ok (.iload_n 2, 1) := by decide +kernel
theorem dMo_read_220 : decode kMo_read 220 = .ok (.iaload, 1) := by decide +kernel
theorem dMo_read_221 : decode kMo_read 221 = .ok (.aload_n 0, 1) := by decide +kernel
theorem dMo_read_222 : decode kMo_read 222 = .ok (.getfield 150, 3) := by decide +kernel
theorem dMo_read_225 : decode kMo_read 225 = .ok (.if_icmp .ne 17, 3) := by decide +kernel
theorem dMo_read_228 : decode kMo_read 228 = .ok (.aload_n 0, 1) := by decide +kernel
theorem dMo_read_229 : decode kMo_read 229 = .ok (.getfield 35, 3) := by decide +kernel
theorem dMo_read_232 : decode kMo_read 232 = .ok (.aload_n 0, 1) := by decide +kernel
theorem dMo_read_233 : decode kMo_read 233 = .ok (.getfield 26, 3) := by decide +kernel
theorem dMo_read_236 : decode kMo_read 236 = .ok (.iload_n 3, 1) := by decide +kernel
theorem dMo_read_237 : decode kMo_read 237 = .ok (.iconst 3, 1) := by decide +kernel
theorem dMo_read_238 : decode kMo_read 238 = .ok (.iadd, 1) := by decide +kernel
theorem dMo_read_239 : decode kMo_read 239 = .ok (.iaload, 1) := by decide +kernel
theorem dMo_read_240 : decode kMo_read 240 = .ok (.iload_n 2, 1) := by decide +kernel
theorem dMo_read_241 : decode kMo_read 241 = .ok (.iastore, 1) := by decide +kernel
theorem dMo_read_242 : decode kMo_read 242 = .ok (.iinc 2 (-1), 3) := by decide +kernel
theorem dMo_read_245 : decode kMo_read 245 = .ok (.goto (-90), 3) := by decide +kernel
theorem dMo_read_248 : decode kMo_read 248 = .ok (.iconst 0, 1) := by decide +kernel
theorem dMo_read_249 : decode kMo_read 249 = .ok (.istore_n 2, 1) := by decide +kernel
theorem dMo_read_250 : decode kMo_read 250 = .ok (.iload_n 2, 1) := by decide +kernel
theorem dMo_read_251 : decode kMo_read 251 = .ok (.aload_n 0, 1) := by decide +kernel
theorem dMo_read_252 : decode kMo_read 252 = .ok (.getfield 144, 3) := by decide +kernel
theorem dMo_read_255 : decode kMo_read 255 = .ok (.if_icmp .ge 118, 3) := by decide +kernel
theorem dMo_read_258 : decode kMo_read 258 = .ok (.aload_n 0, 1) := by decide +kernel
theorem dMo_read_259 : decode kMo_read 259 = .ok (.getfield 35, 3) := by decide +kernel
theorem dMo_read_262 : decode kMo_read 262 = .ok (.iload_n 2, 1) := by decide +kernel
theorem dMo_read_263 : decode kMo_read 263 = .ok (.iaload, 1) := by decide +kernel
theorem dMo_read_264 : decode kMo_read 264 = .ok (.ifCond .lt 103, 3) := by decide +kernel
theorem dMo_read_267 : decode kMo_read 267 = .ok (.aload_n 0, 1) := by decide +kernel
theorem dMo_read_268 : decode kMo_read 268 = .ok (.getfield 38, 3) := by decide +kernel
theorem dMo_read_271 : decode kMo_read 271 = .ok (.iload_n 2, 1) := by decide +kernel
theorem dMo_read_272 : decode kMo_read 272 = .ok (.aload_n 0, 1) := by decide +kernel
theorem dMo_read_273 : decode kMo_read 273 = .ok (.getfield 26, 3) := by decide +kernel
theorem dMo_read_276 : decode kMo_read 276 = .ok (.bipush 80, 2) := by decide +kernel
theorem dMo_read_278 : decode kMo_read 278 = .ok (.aload_n 0, 1) := by decide +kernel
theorem dMo_read_279 : decode kMo_read 279 = .ok (.getfield 35, 3) := by decide +kernel
theorem dMo_read_282 : decode kMo_read 282 = .ok (.iload_n 2, 1) := by decide +kernel
theorem dMo_read_283 : decode kMo_read 283 = .ok (.iaload, 1) := by decide +kernel
theorem dMo_read_284 : decode kMo_read 284 = .ok (.imul, 1) := by decide +kernel
theorem dMo_read_285 : decode kMo_read 285 = .ok (.bipush 6, 2) := by decide +kernel
theorem dMo_read_287 : decode kMo_read 287 = .ok (.iadd, 1) := by decide +kernel
theorem dMo_read_288 : decode kMo_read 288 = .ok (.iaload, 1) := by decide +kernel
theorem dMo_read_289 : decode kMo_read 289 = .ok (.iastore, 1) := by decide +kernel
theorem dMo_read_290 : decode kMo_read 290 = .ok (.aload_n 0, 1) := by decide +kernel
theorem dMo_read_291 : decode kMo_read 291 = .ok (.getfield 41, 3) := by decide +kernel
theorem dMo_read_294 : decode kMo_read 294 = .ok (.iload_n 2, 1) := by decide +kernel
theorem dMo_read_295 : decode kMo_read 295 = .ok (.aload_n 0, 1) := by decide +kernel
theorem dMo_read_296 : decode kMo_read 296 = .ok (.getfield 26, 3) := by decide +kernel
theorem dMo_read_299 : decode kMo_read 299 = .ok (.bipush 80, 2) := by decide +kernel
theorem dMo_read_301 : decode kMo_read 301 = .ok (.aload_n 0, 1) := by decide +kernel
theorem dMo_read_302 : decode kMo_read 302 = .ok (.getfield 35, 3) := by decide +kernel
theorem dMo_read_305 : decode kMo_read 305 = .ok (.iload_n 2, 1) := by decide +kernel
theorem dMo_read_306 : decode kMo_read 306 = .ok (.iaload, 1) := by decide +kernel
theorem dMo_read_307 : decode kMo_read 307 = .ok (.imul, 1) := by decide +kernel
theorem dMo_read_308 : decode kMo_read 308 = .ok (.bipush 7, 2) := by decide +kernel
theorem dMo_read_310 : decode kMo_read 310 = .ok (.iadd, 1) := by decide +kernel
theorem dMo_read_311 : decode kMo_read 311 = .ok (.iaload, 1) := by decide +kernel
theorem dMo_read_312 : decode kMo_read 312 = .ok (.iastore, 1) := by decide +kernel
theorem dMo_read_313 : decode kMo_read 313 = .ok (.iconst 0, 1) := by decide +kernel
theorem dMo_read_314 : decode kMo_read 314 = .ok (.istore_n 3, 1) := by decide +kernel
theorem dMo_read_315 : decode kMo_read 315 = .ok (.iload_n 3, 1) := by decide +kernel
theorem dMo_read_316 : decode kMo_read 316 = .ok (.aload_n 0, 1) := by decide +kernel
theorem dMo_read_317 : decode kMo_read 317 = .ok (.getfield 150, 3) := by decide +kernel
theorem dMo_read_320 : decode kMo_read 320 = .ok (.bipush 12, 2) := by decide +kernel
theorem dMo_read_322 : decode kMo_read 322 = .ok (.isub, 1) := by decide +kernel
theorem dMo_read_323 : decode kMo_read 323 = .ok (.if_icmp .ge 44, 3) := by decide +kernel
theorem dMo_read_326 : decode kMo_read 326 = .ok (.aload_n 0, 1) := by decide +kernel
theorem dMo_read_327 : decode kMo_read 327 = .ok (.getfield 44, 3) := by decide +kernel
theorem dMo_read_330 : decode kMo_read 330 = .ok (.iload_n 2, 1) := by decide +kernel
theorem dMo_read_331 : decode kMo_read 331 = .ok (.aload_n 0, 1) := by decide +kernel
theorem dMo_read_332 : decode kMo_read 332 = .ok (.getfield 150, 3) := by decide +kernel
theorem dMo_read_335 : decode kMo_read 335 = .ok (.bipush 12, 2) := by decide +kernel
theorem dMo_read_337 : decode kMo_read 337 = .ok (.isub, 1) := by decide +kernel
theorem dMo_read_338 : decode kMo_read 338 = .ok (.imul, 1) := by decide +kernel
theorem dMo_read_339 : decode kMo_read 339 = .ok (.iload_n 3, 1) := by decide +kernel
theorem dMo_read_340 : decode kMo_read 340 = .ok (.iadd, 1) := by decide +kernel
theorem dMo_read_341 : decode kMo_read 341 = .ok (.aload_n 0, 1) := by decide +kernel
theorem dMo_read_342 : decode kMo_read 342 = .ok (.getfield 26, 3) := by decide +kernel
theorem dMo_read_345 : decode kMo_read 345 = .ok (.bipush 80, 2) := by decide +kernel
theorem dMo_read_347 : decode kMo_read 347 = .ok (.aload_n 0, 1) := by decide +kernel
theorem dMo_read_348 : decode kMo_read 348 = .ok (.getfield 35, 3) := by decide +kernel
theorem dMo_read_351 : decode kMo_read 351 = .ok (.iload_n 2, 1) := by decide +kernel
theorem dMo_read_352 : decode kMo_read 352 = .ok (.iaload, 1) := by decide +kernel
theorem dMo_read_353 : decode kMo_read 353 = .ok (.imul, 1) := by decide +kernel
theorem dMo_read_354 : decode kMo_read 354 = .ok (.bipush 12, 2) := by decide +kernel
theorem dMo_read_356 : decode kMo_read 356 = .ok (.iadd, 1) := by decide +kernel
theorem dMo_read_357 : decode kMo_read 357 = .ok (.iload_n 3, 1) := by decide +kernel
theorem dMo_read_358 : decode kMo_read 358 = .ok (.iadd, 1) := by decide +kernel
theorem dMo_read_359 : decode kMo_read 359 = .ok (.iaload, 1) := by decide +kernel
theorem dMo_read_360 : decode kMo_read 360 = .ok (.iastore, 1) := by decide +kernel
theorem dMo_read_361 : decode kMo_read 361 = .ok (.iinc 3 1, 3) := by decide +kernel
theorem dMo_read_364 : decode kMo_read 364 = .ok (.goto (-49), 3) := by decide +kernel
theorem dMo_read_367 : decode kMo_read 367 = .ok (.iinc 2 1, 3) := by decide +kernel
theorem dMo_read_370 : decode kMo_read 370 = .ok (.goto (-120), 3) := by decide +kernel
theorem dMo_read_373 : decode kMo_read 373 = .ok (.aload_n 0, 1) := by decide +kernel
theorem dMo_read_374 : decode kMo_read 374 = .ok (.invokevirtual 153, 3) := by decide +kernel
theorem dMo_read_377 : decode kMo_read 377 = .ok (.aload_n 0, 1) := by decide +kernel
theorem dMo_read_378 : decode kMo_read 378 = .ok (.invokevirtual 156, 3) := by decide +kernel
theorem dMo_read_381 : decode kMo_read 381 = .ok (.iconst 0, 1) := by decide +kernel
theorem dMo_read_382 : decode kMo_read 382 = .ok (.istore_n 2, 1) := by decide +kernel
theorem dMo_read_383 : decode kMo_read 383 = .ok (.iconst 0, 1) := by decide +kernel
theorem dMo_read_384 : decode kMo_read 384 = .ok (.istore_n 3, 1) := by decide +kernel
theorem dMo_read_385 : decode kMo_read 385 = .ok (.iload_n 3, 1) := by decide +kernel
theorem dMo_read_386 : decode kMo_read 386 = .ok (.aload_n 0, 1) := by decide +kernel
theorem dMo_read_387 : decode kMo_read 387 = .ok (.getfield 144, 3) := by decide +kernel
theorem dMo_read_390 : decode kMo_read 390 = .ok (.if_icmp .ge 28, 3) := by decide +kernel
theorem dMo_read_393 : decode kMo_read 393 = .ok (.aload_n 0, 1) := by decide +kernel
theorem dMo_read_394 : decode kMo_read 394 = .ok (.getfield 35, 3) := by decide +kernel
theorem dMo_read_397 : decode kMo_read 397 = .ok (.iload_n 3, 1) := by decide +kernel
theorem dMo_read_398 : decode kMo_read 398 = .ok (.iaload, 1) := by decide +kernel
theorem dMo_read_399 : decode kMo_read 399 = .ok (.bipush (-2), 2) := by decide +kernel
theorem dMo_read_401 : decode kMo_read 401 = .ok (.if_icmp .eq 9, 3) := by decide +kernel
theorem dMo_read_404 : decode kMo_read 404 = .ok (.iload_n 2, 1) := by decide +kernel
theorem dMo_read_405 : decode kMo_read 405 = .ok (.iconst 1, 1) := by decide +kernel
theorem dMo_read_406 : decode kMo_read 406 = .ok (.iadd, 1) := by decide +kernel
theorem dMo_read_407 : decode kMo_read 407 = .ok (.goto 4, 3) := by decide +kernel
theorem dMo_read_410 : decode kMo_read 410 = .ok (.iload_n 2, 1) := by decide +kernel
theorem dMo_read_411 : decode kMo_read 411 = .ok (.istore_n 2, 1) := by decide +kernel
theorem dMo_read_412 : decode kMo_read 412 = .ok (.iinc 3 1, 3) := by decide +kernel
theorem dMo_read_415 : decode kMo_read 415 = .ok (.goto (-30), 3) := by decide +kernel
theorem dMo_read_418 : decode kMo_read 418 = .ok (.iload_n 2, 1) := by decide +kernel
theorem dMo_read_419 : decode kMo_read 419 = .ok (.ireturn, 1) := by decide +kernel
theorem dMo_makeAgain_0 : decode kMo_makeAgain 0 = .ok (.aload_n 0, 1) := by decide +kernel
theorem dMo_makeAgain_1 : decode kMo_makeAgain 1 = .ok (.iconst 0, 1) := by decide +kernel
theorem dMo_makeAgain_2 : decode kMo_makeAgain 2 = .ok (.putfield 159, 3) := by decide +kernel
theorem dMo_makeAgain_5 : decode kMo_makeAgain 5 = .ok (.iconst 0, 1) := by decide +kernel
theorem dMo_makeAgain_6 : decode kMo_makeAgain 6 = .ok (.istore_n 1, 1) := by decide +kernel
theorem dMo_makeAgain_7 : decode kMo_makeAgain 7 = .ok (.iconst 0, 1) := by decide +kernel
theorem dMo_makeAgain_8 : decode kMo_makeAgain 8 = .ok (.istore_n 2, 1) := by decide +kernel
theorem dMo_makeAgain_9 : decode kMo_makeAgain 9 = .ok (.iload_n 2, 1) := by decide +kernel
theorem dMo_makeAgain_10 : decode kMo_makeAgain 10 = .ok (.aload_n 0, 1) := by decide +kernel
theorem dMo_makeAgain_11 : decode kMo_makeAgain 11 = .ok (.getfield 144, 3) := by decide +kernel
theorem dMo_makeAgain_14 : decode kMo_makeAgain 14 = .ok (.if_icmp .ge 30, 3) := by decide +kernel
theorem dMo_makeAgain_17 : decode kMo_makeAgain 17 = .ok (.aload_n 0, 1) := by decide +kernel
theorem dMo_makeAgain_18 : decode kMo_makeAgain 18 = .ok (.getfield 35, 3) := by decide +kernel
theorem dMo_makeAgain_21 : decode kMo_makeAgain 21 = .ok (.iload_n 2, 1) := by decide +kernel
theorem dMo_makeAgain_22 : decode kMo_makeAgain 22 = .ok (.iaload, 1) := by decide +kernel
theorem dMo_makeAgain_23 : decode kMo_makeAgain 23 = .ok (.bipush (-2), 2) := by decide +kernel
theorem dMo_makeAgain_25 : decode kMo_makeAgain 25 = .ok (.if_icmp .ne 13, 3) := by decide +kernel
theorem dMo_makeAgain_28 : decode kMo_makeAgain 28 = .ok (.aload_n 0, 1) := by decide +kernel
theorem dMo_makeAgain_29 : decode kMo_makeAgain 29 = .ok (.getfield 56, 3) := by decide +kernel
theorem dMo_makeAgain_32 : decode kMo_makeAgain 32 = .ok (.iload_n 1, 1) := by decide +kernel
theorem dMo_makeAgain_33 : decode kMo_makeAgain 33 = .ok (.iload_n 2, 1) := by decide +kernel
theorem dMo_makeAgain_34 : decode kMo_makeAgain 34 = .ok (.iastore, 1) := by decide +kernel
theorem dMo_makeAgain_35 : decode kMo_makeAgain 35 = .ok (.iinc 1 1, 3) := by decide +kernel
theorem dMo_makeAgain_38 : decode kMo_makeAgain 38 = .ok (.iinc 2 1, 3) := by decide +kernel
theorem dMo_makeAgain_41 : decode kMo_makeAgain 41 = .ok (.goto (-32), 3) := by decide +kernel
theorem dMo_makeAgain_44 : decode kMo_makeAgain 44 = .ok (.iconst 0, 1) := by decide +kernel
theorem dMo_makeAgain_45 : decode kMo_makeAgain 45 = .ok (.istore_n 2, 1) := by decide +kernel
theorem dMo_makeAgain_46 : decode kMo_makeAgain 46 = .ok (.iconst 0, 1) := by decide +kernel
theorem dMo_makeAgain_47 : decode kMo_makeAgain 47 = .ok (.istore_n 3, 1) := by decide +kernel
theorem dMo_makeAgain_48 : decode kMo_makeAgain 48 = .ok (.iload_n 3, 1) := by decide +kernel
theorem dMo_makeAgain_49 : decode kMo_makeAgain 49 = .ok (.aload_n 0, 1) := by decide +kernel
theorem dMo_makeAgain_50 : decode kMo_makeAgain 50 = .ok (.getfield 147, 3) := by decide +kernel
theorem dMo_makeAgain_53 : decode kMo_makeAgain 53 = .ok (.if_icmp .ge 40, 3) := by decide +kernel
theorem dMo_makeAgain_56 : decode kMo_makeAgain 56 = .ok (.aload_n 0, 1) := by decide +kernel
theorem dMo_makeAgain_57 : decode kMo_makeAgain 57 = .ok (.getfield 35, 3) := by decide +kernel
theorem dMo_makeAgain_60 : decode kMo_makeAgain 60 = .ok (.aload_n 0, 1) := by decide +kernel
theorem dMo_makeAgain_61 : decode kMo_makeAgain 61 = .ok (.getfield 144, 3) := by decide +kernel
theorem dMo_makeAgain_64 : decode kMo_makeAgain 64 = .ok (.iload_n 3, 1) := by decide +kernel
theorem dMo_makeAgain_65 : decode kMo_makeAgain 65 = .ok (.iadd, 1) := by decide +kernel
theorem dMo_makeAgain_66 : decode kMo_makeAgain 66 = .ok (.iaload, 1) := by decide +kernel
theorem dMo_makeAgain_67 : decode kMo_makeAgain 67 = .ok (.bipush (-2), 2) := by decide +kernel
theorem dMo_makeAgain_69 : decode kMo_makeAgain 69 = .ok (.if_icmp .eq 18, 3) := by decide +kernel
theorem dMo_makeAgain_72 : decode kMo_makeAgain 72 = .ok (.iload_n 2, 1) := by decide +kernel
theorem dMo_makeAgain_73 : decode kMo_makeAgain 73 = .ok (.iload_n 1, 1) := by decide +kernel
theorem dMo_makeAgain_74 : decode kMo_makeAgain 74 = .ok (.if_icmp .ge 13, 3) := by decide +kernel
theorem dMo_makeAgain_77 : decode kMo_makeAgain 77 = .ok (.aload_n 0, 1) := by decide +kernel
theorem dMo_makeAgain_78 : decode kMo_makeAgain 78 = .ok (.getfield 59, 3) := by decide +kernel
theorem dMo_makeAgain_81 : decode kMo_makeAgain 81 = .ok (.iload_n 2, 1) := by decide +kernel
theorem dMo_makeAgain_82 : decode kMo_makeAgain 82 = .ok (.iload_n 3, 1) := by decide +kernel
theorem dMo_makeAgain_83 : decode kMo_makeAgain 83 = .ok (.iastore, 1) := by decide +kernel
theorem dMo_makeAgain_84 : decode kMo_makeAgain 84 = .ok (.iinc 2 1, 3) := by decide +kernel
theorem dMo_makeAgain_87 : decode kMo_makeAgain 87 = .ok (.iinc 3 1, 3) := by decide +kernel
theorem dMo_makeAgain_90 : decode kMo_makeAgain 90 = .ok (.goto (-42), 3) := by decide +kernel
theorem dMo_makeAgain_93 : decode kMo_makeAgain 93 = .ok (.iload_n 2, 1) := by decide +kernel
theorem dMo_makeAgain_94 : decode kMo_makeAgain 94 = .ok (.iload_n 1, 1) := by decide +kernel
theorem dMo_makeAgain_95 : decode kMo_makeAgain 95 = .ok (.if_icmp .ge 4, 3) := by decide +kernel
theorem dMo_makeAgain_98 : decode kMo_makeAgain 98 = .ok (.return_, 1) := by decide +kernel
theorem dMo_makeAgain_99 : decode kMo_makeAgain 99 = .ok (.bipush (-2), 2) := by decide +kernel
theorem dMo_makeAgain_101 : decode kMo_makeAgain 101 = .ok (.istore_n 3, 1) := by decide +kernel
theorem dMo_makeAgain_102 : decode kMo_makeAgain 102 = .ok (.iload_n 3, 1) := by decide +kernel
theorem dMo_makeAgain_103 : decode kMo_makeAgain 103 = .ok (.aload_n 0, 1) := by decide +kernel
theorem dMo_makeAgain_104 : decode kMo_makeAgain 104 = .ok (.getfield 150, 3) := by decide +kernel
theorem dMo_makeAgain_107 : decode kMo_makeAgain 107 = .ok (.bipush 12, 2) := by decide +kernel
theorem dMo_makeAgain_109 : decode kMo_makeAgain 109 = .ok (.isub, 1) := by decide +kernel
theorem dMo_makeAgain_110 : decode kMo_makeAgain 110 = .ok (.if_icmp .ge 19, 3) := by decide +kernel
theorem dMo_makeAgain_113 : decode kMo_makeAgain 113 = .ok (.iload_n 1, 1) := by decide +kernel
theorem dMo_makeAgain_114 : decode kMo_makeAgain 114 = .ok (.ifCond .le 15, 3) := by decide +kernel
theorem dMo_makeAgain_117 : decode kMo_makeAgain 117 = .ok (.aload_n 0, 1) := by decide +kernel
theorem dMo_makeAgain_118 : decode kMo_makeAgain 118 = .ok (.iload_n 1, 1) := by decide +kernel
theorem dMo_makeAgain_119 : decode kMo_makeAgain 119 = .ok (.iload_n 3, 1) := by decide +kernel
theorem dMo_makeAgain_120 : decode kMo_makeAgain 120 = .ok (.invokevirtual 162, 3) := by decide +kernel
theorem dMo_makeAgain_123 : decode kMo_makeAgain 123 = .ok (.iinc 3 1, 3) := by decide +kernel
theorem dMo_makeAgain_126 : decode kMo_makeAgain 126 = .ok (.goto (-24), 3) := by decide +kernel
theorem dMo_makeAgain_129 : decode kMo_makeAgain 129 = .ok (.iconst 0, 1) := by decide +kernel
theorem dMo_makeAgain_130 : decode kMo_makeAgain 130 = .ok (.istore_n 3, 1) := by decide +kernel
theorem dMo_makeAgain_131 : decode kMo_makeAgain 131 = .ok (.iload_n 3, 1) := by decide +kernel
theorem dMo_makeAgain_132 : decode kMo_makeAgain 132 = .ok (.iload_n 1, 1) := by decide +kernel
theorem dMo_makeAgain_133 : decode kMo_makeAgain 133 = .ok (.if_icmp .ge 22, 3) := by decide +kernel
theorem dMo_makeAgain_136 : decode kMo_makeAgain 136 = .ok (.aload_n 0, 1) := by decide +kernel
theorem dMo_makeAgain_137 : decode kMo_makeAgain 137 = .ok (.getfield 35, 3) := by decide +kernel
theorem dMo_makeAgain_140 : decode kMo_makeAgain 140 = .ok (.aload_n 0, 1) := by decide +kernel
theorem dMo_makeAgain_141 : decode kMo_makeAgain 141 = .ok (.getfield 56, 3) := by decide +kernel
theorem dMo_makeAgain_144 : decode kMo_makeAgain 144 = .ok (.iload_n 3, 1) := by decide +kernel
theorem dMo_makeAgain_145 : decode kMo_makeAgain 145 = .ok (.iaload, 1) := by decide +kernel
theorem dMo_makeAgain_146 : decode kMo_makeAgain 146 = .ok (.bipush 100, 2) := by decide +kernel
theorem dMo_makeAgain_148 : decode kMo_makeAgain 148 = .ok (.iastore, 1) := by decide +kernel
theorem dMo_makeAgain_149 : decode kMo_makeAgain 149 = .ok (.iinc 3 1, 3) := by decide +kernel
theorem dMo_makeAgain_152 : decode kMo_makeAgain 152 = .ok (.goto (-21), 3) := by decide +kernel
theorem dMo_makeAgain_155 : decode kMo_makeAgain 155 = .ok (.aload_n 0, 1) := by decide +kernel
theorem dMo_makeAgain_156 : decode kMo_makeAgain 156 = .ok (.iload_n 1, 1) := by decide +kernel
theorem dMo_makeAgain_157 : decode kMo_makeAgain 157 = .ok (.putfield 159, 3) := by decide +kernel
theorem dMo_makeAgain_160 : decode kMo_makeAgain 160 = .ok (.return_, 1) := by decide +kernel
theorem dMo_known_0 : decode kMo_known 0 = .ok (.iload_n 2, 1) := by decide +kernel
theorem dMo_known_1 : decode kMo_known 1 = .ok (.iconst (-1), 1) := by decide +kernel
theorem dMo_known_2 : decode kMo_known 2 = .ok (.if_icmp .ne 12, 3) := by decide +kernel
theorem dMo_known_5 : decode kMo_known 5 = .ok (.aload_n 0, 1) := by decide +kernel
theorem dMo_known_6 : decode kMo_known 6 = .ok (.getfield 38, 3) := by decide +kernel
theorem dMo_known_9 : decode kMo_known 9 = .ok (.iload_n 1, 1) := by decide +kernel
theorem dMo_known_10 : decode kMo_known 10 = .ok (.iaload, 1) := by decide +kernel
theorem dMo_known_11 : decode kMo_known 11 = .ok (.goto 34, 3) := by decide +kernel
theorem dMo_known_14 : decode kMo_known 14 = .ok (.iload_n 2, 1) := by decide +kernel
theorem dMo_known_15 : decode kMo_known 15 = .ok (.bipush (-2), 2) := by decide +kernel
theorem dMo_known_17 : decode kMo_known 17 = .ok (.if_icmp .ne 12, 3) := by decide +kernel
theorem dMo_known_20 : decode kMo_known 20 = .ok (.aload_n 0, 1) := by decide +kernel
theorem dMo_known_21 : decode kMo_known 21 = .ok (.getfield 41, 3) := by decide +kernel
theorem dMo_known_24 : decode kMo_known 24 = .ok (.iload_n 1, 1) := by decide +kernel
theorem dMo_known_25 : decode kMo_known 25 = .ok (.iaload, 1) := by decide +kernel
theorem dMo_known_26 : decode kMo_known 26 = .ok (.goto 19, 3) := by decide +kernel
theorem dMo_known_29 : decode kMo_known 29 = .ok (.aload_n 0, 1) := by decide +kernel
theorem dMo_known_30 : decode kMo_known 30 = .ok (.getfield 44, 3) := by decide +kernel
theorem dMo_known_33 : decode kMo_known 33 = .ok (.iload_n 1, 1) := by decide +kernel
theorem dMo_known_34 : decode kMo_known 34 = .ok (.aload_n 0, 1) := by decide +kernel
theorem dMo_known_35 : decode kMo_known 35 = .ok (.getfield 150, 3) := by decide +kernel
theorem dMo_known_38 : decode kMo_known 38 = .ok (.bipush 12, 2) := by decide +kernel
theorem dMo_known_40 : decode kMo_known 40 = .ok (.isub, 1) := by decide +kernel
theorem dMo_known_41 : decode kMo_known 41 = .ok (.imul, 1) := by decide +kernel
theorem dMo_known_42 : decode kMo_known 42 = .ok (.iload_n 2, 1) := by decide +kernel
theorem dMo_known_43 : decode kMo_known 43 = .ok (.iadd, 1) := by decide +kernel
theorem dMo_known_44 : decode kMo_known 44 = .ok (.iaload, 1) := by decide +kernel
theorem dMo_known_45 : decode kMo_known 45 = .ok (.ireturn, 1) := by decide +kernel
theorem dMo_solve_0 : decode kMo_solve 0 = .ok (.iconst 0, 1) := by decide +kernel
theorem dMo_solve_1 : decode kMo_solve 1 = .ok (.istore_n 3, 1) := by decide +kernel
theorem dMo_solve_2 : decode kMo_solve 2 = .ok (.iload_n 3, 1) := by decide +kernel
theorem dMo_solve_3 : decode kMo_solve 3 = .ok (.iload_n 1, 1) := by decide +kernel
theorem dMo_solve_4 : decode kMo_solve 4 = .ok (.if_icmp .ge 198, 3) := by decide +kernel
theorem dMo_solve_7 : decode kMo_solve 7 = .ok (.bipush 80, 2) := by decide +kernel
theorem dMo_solve_9 : decode kMo_solve 9 = .ok (.aload_n 0, 1) := by decide +kernel
theorem dMo_solve_10 : decode kMo_solve 10 = .ok (.getfield 35, 3) := by decide +kernel
theorem dMo_solve_13 : decode kMo_solve 13 = .ok (.aload_n 0, 1) := by decide +kernel
theorem dMo_solve_14 : decode kMo_solve 14 = .ok (.getfield 144, 3) := by decide +kernel
theorem dMo_solve_17 : decode kMo_solve 17 = .ok (.aload_n 0, 1) := by decide +kernel
theorem dMo_solve_18 : decode kMo_solve 18 = .ok (.getfield 59, 3) := by decide +kernel
theorem dMo_solve_21 : decode kMo_solve 21 = .ok (.iload_n 3, 1) := by decide +kernel
theorem dMo_solve_22 : decode kMo_solve 22 = .ok (.iaload, 1) := by decide +kernel
theorem dMo_solve_23 : decode kMo_solve 23 = .ok (.iadd, 1) := by decide +kernel
theorem dMo_solve_24 : decode kMo_solve 24 = .ok (.iaload, 1) := by decide +kernel
theorem dMo_solve_25 : decode kMo_solve 25 = .ok (.imul, 1) := by decide +kernel
theorem dMo_solve_26 : decode kMo_solve 26 = .ok (.istore 4, 2) := by decide +kernel
theorem dMo_solve_28 : decode kMo_solve 28 = .ok (.iload_n 2, 1) := by decide +kernel
theorem dMo_solve_29 : decode kMo_solve 29 = .ok (.iconst (-1), 1) := by decide +kernel
theorem dMo_solve_30 : decode kMo_solve 30 = .ok (.if_icmp .ne 16, 3) := by decide +kernel
theorem dMo_solve_33 : decode kMo_solve 33 = .ok (.aload_n 0, 1) := by decide +kernel
theorem dMo_solve_34 : decode kMo_solve 34 = .ok (.getfield 26, 3) := by decide +kernel
theorem dMo_solve_37 : decode kMo_solve 37 = .ok (.iload 4, 2) := by decide +kernel
theorem dMo_solve_39 : decode kMo_solve 39 = .ok (.bipush 6, 2) := by decide +kernel
theorem dMo_solve_41 : decode kMo_solve 41 = .ok (.iadd, 1) := by decide +kernel
theorem dMo_solve_42 : decode kMo_solve 42 = .ok (.iaload, 1) := by decide +kernel
theorem dMo_solve_43 : decode kMo_solve 43 = .ok (.goto 34, 3) := by decide +kernel
theorem dMo_solve_46 : decode kMo_solve 46 = .ok (.iload_n 2, 1) := by decide +kernel
theorem dMo_solve_47 : decode kMo_solve 47 = .ok (.bipush (-2), 2) := by decide +kernel
theorem dMo_solve_49 : decode kMo_solve 49 = .ok (.if_icmp .ne 16, 3) := by decide +kernel
theorem dMo_solve_52 : decode kMo_solve 52 = .ok (.aload_n 0, 1) := by decide +kernel
theorem dMo_solve_53 : decode kMo_solve 53 = .ok (.getfield 26, 3) := by decide +kernel
theorem dMo_solve_56 : decode kMo_solve 56 = .ok (.iload 4, 2) := by decide +kernel
theorem dMo_solve_58 : decode kMo_solve 58 = .ok (.bipush 7, 2) := by decide +kernel
theorem dMo_solve_60 : decode kMo_solve 60 = .ok (.iadd, 1) := by decide +kernel
theorem dMo_solve_61 : decode kMo_solve 61 = .ok (.iaload, 1) := by decide +kernel
theorem dMo_solve_62 : decode kMo_solve 62 = .ok (.goto 15, 3) := by decide +kernel
theorem dMo_solve_65 : decode kMo_solve 65 = .ok (.aload_n 0, 1) := by decide +kernel
theorem dMo_solve_66 : decode kMo_solve 66 = .ok (.getfield 26, 3) := by decide +kernel
theorem dMo_solve_69 : decode kMo_solve 69 = .ok (.iload 4, 2) := by decide +kernel
theorem dMo_solve_71 : decode kMo_solve 71 = .ok (.bipush 12, 2) := by decide +kernel
theorem dMo_solve_73 : decode kMo_solve 73 = .ok (.iadd, 1) := by decide +kernel
theorem dMo_solve_74 : decode kMo_solve 74 = .ok (.iload_n 2, 1) := by decide +kernel
theorem dMo_solve_75 : decode kMo_solve 75 = .ok (.iadd, 1) := by decide +kernel
theorem dMo_solve_76 : decode kMo_solve 76 = .ok (.iaload, 1) := by decide +kernel
theorem dMo_solve_77 : decode kMo_solve 77 = .ok (.istore 5, 2) := by decide +kernel
theorem dMo_solve_79 : decode kMo_solve 79 = .ok (.iconst 0, 1) := by decide +kernel
theorem dMo_solve_80 : decode kMo_solve 80 = .ok (.istore 6, 2) := by decide +kernel
theorem dMo_solve_82 : decode kMo_solve 82 = .ok (.iload 6, 2) := by decide +kernel
theorem dMo_solve_84 : decode kMo_solve 84 = .ok (.aload_n 0, 1) := by decide +kernel
theorem dMo_solve_85 : decode kMo_solve 85 = .ok (.getfield 144, 3) := by decide +kernel
theorem dMo_solve_88 : decode kMo_solve 88 = .ok (.if_icmp .ge 53, 3) := by decide +kernel
theorem dMo_solve_91 : decode kMo_solve 91 = .ok (.aload_n 0, 1) := by decide +kernel
theorem dMo_solve_92 : decode kMo_solve 92 = .ok (.getfield 35, 3) := by decide +kernel
theorem dMo_solve_95 : decode kMo_solve 95 = .ok (.iload 6, 2) := by decide +kernel
theorem dMo_solve_97 : decode kMo_solve 97 = .ok (.iaload, 1) := by decide +kernel
theorem dMo_solve_98 : decode kMo_solve 98 = .ok (.bipush (-2), 2) := by decide +kernel
theorem dMo_solve_100 : decode kMo_solve 100 = .ok (.if_icmp .ne 8, 3) := by decide +kernel
theorem dMo_solve_103 : decode kMo_solve 103 = .ok (.iload 5, 2) := by decide +kernel
theorem dMo_solve_105 : decode kMo_solve 105 = .ok (.goto 28, 3) := by decide +kernel
theorem dMo_solve_108 : decode kMo_solve 108 = .ok (.iload 5, 2) := by decide +kernel
theorem dMo_solve_110 : decode kMo_solve 110 = .ok (.aload_n 0, 1) := by decide +kernel
theorem dMo_solve_111 : decode kMo_solve 111 = .ok (.getfield 59, 3) := by decide +kernel
theorem dMo_solve_114 : decode kMo_solve 114 = .ok (.iload_n 3, 1) := by decide +kernel
theorem dMo_solve_115 : decode kMo_solve 115 = .ok (.iaload, 1) := by decide +kernel
theorem dMo_solve_116 : decode kMo_solve 116 = .ok (.iload 6, 2) := by decide +kernel
theorem dMo_solve_118 : decode kMo_solve 118 = .ok (.imul, 1) := by decide +kernel
theorem dMo_solve_119 : decode kMo_solve 119 = .ok (.invokestatic 106, 3) := by decide +kernel
theorem dMo_solve_122 : decode kMo_solve 122 = .ok (.aload_n 0, 1) := by decide +kernel
theorem dMo_solve_123 : decode kMo_solve 123 = .ok (.iload 6, 2) := by decide +kernel
theorem dMo_solve_125 : decode kMo_solve 125 = .ok (.iload_n 2, 1) := by decide +kernel
theorem dMo_solve_126 : decode kMo_solve 126 = .ok (.invokevirtual 166, 3) := by decide +kernel
theorem dMo_solve_129 : decode kMo_solve 129 = .ok (.invokestatic 100, 3) := by decide +kernel
theorem dMo_solve_132 : decode kMo_solve 132 = .ok (.ixor, 1) := by decide +kernel
theorem dMo_solve_133 : decode kMo_solve 133 = .ok (.istore 5, 2) := by decide +kernel
theorem dMo_solve_135 : decode kMo_solve 135 = .ok (.iinc 6 1, 3) := by decide +kernel
theorem dMo_solve_138 : decode kMo_solve 138 = .ok (.goto (-56), 3) := by decide +kernel
theorem dMo_solve_141 : decode kMo_solve 141 = .ok (.iconst 0, 1) := by decide +kernel
theorem dMo_solve_142 : decode kMo_solve 142 = .ok (.istore 6, 2) := by decide +kernel
theorem dMo_solve_144 : decode kMo_solve 144 = .ok (.iload 6, 2) := by decide +kernel
theorem dMo_solve_146 : decode kMo_solve 146 = .ok (.iload_n 1, 1) := by decide +kernel
theorem dMo_solve_147 : decode kMo_solve 147 = .ok (.if_icmp .ge 37, 3) := by decide +kernel
theorem dMo_solve_150 : decode kMo_solve 150 = .ok (.aload_n 0, 1) := by decide +kernel
theorem dMo_solve_151 : decode kMo_solve 151 = .ok (.getfield 62, 3) := by decide +kernel
theorem dMo_solve_154 : decode kMo_solve 154 = .ok (.iconst 4, 1) := by decide +kernel
theorem dMo_solve_155 : decode kMo_solve 155 = .ok (.iload_n 3, 1) := by decide +kernel
theorem dMo_solve_156 : decode kMo_solve 156 = .ok (.imul, 1) := by decide +kernel
theorem dMo_solve_157 : decode kMo_solve 157 = .ok (.iload 6, 2) := by decide +kernel
theorem dMo_solve_159 : decode kMo_solve 159 = .ok (.iadd, 1) := by decide +kernel
theorem dMo_solve_160 : decode kMo_solve 160 = .ok (.aload_n 0, 1) := by decide +kernel
theorem dMo_solve_161 : decode kMo_solve 161 = .ok (.getfield 59, 3) := by decide +kernel
theorem dMo_solve_164 : decode kMo_solve 164 = .ok (.iload_n 3, 1) := by decide +kernel
theorem dMo_solve_165 : decode kMo_solve 165 = .ok (.iaload, 1) := by decide +kernel
theorem dMo_solve_166 : decode kMo_solve 166 = .ok (.aload_n 0, 1) := by decide +kernel
theorem dMo_solve_167 : decode kMo_solve 167 = .ok (.getfield 56, 3) := by decide +kernel
theorem dMo_solve_170 : decode kMo_solve 170 = .ok (.iload 6, 2) := by decide +kernel
theorem dMo_solve_172 : decode kMo_solve 172 = .ok (.iaload, 1) := by decide +kernel
theorem dMo_solve_173 : decode kMo_solve 173 = .ok (.imul, 1) := by decide +kernel
theorem dMo_solve_174 : decode kMo_solve 174 = .ok (.invokestatic 106, 3) := by decide +kernel
theorem dMo_solve_177 : decode kMo_solve 177 = .ok (.iastore, 1) := by decide +kernel
theorem dMo_solve_178 : decode kMo_solve 178 = .ok (.iinc 6 1, 3) := by decide +kernel
theorem dMo_solve_181 : decode kMo_solve 181 = .ok (.goto (-37), 3) := by decide +kernel
theorem dMo_solve_184 : decode kMo_solve 184 = .ok (.aload_n 0, 1) := by decide +kernel
theorem dMo_solve_185 : decode kMo_solve 185 = .ok (.getfield 62, 3) := by decide +kernel
theorem dMo_solve_188 : decode kMo_solve 188 = .ok (.iconst 4, 1) := by decide +kernel
theorem dMo_solve_189 : decode kMo_solve 189 = .ok (.iload_n 3, 1) := by decide +kernel
theorem dMo_solve_190 : decode kMo_solve 190 = .ok (.imul, 1) := by decide +kernel
theorem dMo_solve_191 : decode kMo_solve 191 = .ok (.iconst 3, 1) := by decide +kernel
theorem dMo_solve_192 : decode kMo_solve 192 = .ok (.iadd, 1) := by decide +kernel
theorem dMo_solve_193 : decode kMo_solve 193 = .ok (.iload 5, 2) := by decide +kernel
theorem dMo_solve_195 : decode kMo_solve 195 = .ok (.iastore, 1) := by decide +kernel
theorem dMo_solve_196 : decode kMo_solve 196 = .ok (.iinc 3 1, 3) := by decide +kernel
theorem dMo_solve_199 : decode kMo_solve 199 = .ok (.goto (-197), 3) := by decide +kernel
theorem dMo_solve_202 : decode kMo_solve 202 = .ok (.iconst 0, 1) := by decide +kernel
theorem dMo_solve_203 : decode kMo_solve 203 = .ok (.istore_n 3, 1) := by decide +kernel
theorem dMo_solve_204 : decode kMo_solve 204 = .ok (.iload_n 3, 1) := by decide +kernel
theorem dMo_solve_205 : decode kMo_solve 205 = .ok (.iload_n 1, 1) := by decide +kernel
theorem dMo_solve_206 : decode kMo_solve 206 = .ok (.if_icmp .ge 244, 3) := by decide +kernel
theorem dMo_solve_209 : decode kMo_solve 209 = .ok (.iload_n 3, 1) := by decide +kernel
theorem dMo_solve_210 : decode kMo_solve 210 = .ok (.istore 4, 2) := by decide +kernel
theorem dMo_solve_212 : decode kMo_solve 212 = .ok (.aload_n 0, 1) := by decide +kernel
theorem dMo_solve_213 : decode kMo_solve 213 = .ok (.getfield 62, 3) := by decide +kernel
theorem dMo_solve_216 : decode kMo_solve 216 = .ok (.iconst 4, 1) := by decide +kernel
theorem dMo_solve_217 : decode kMo_solve 217 = .ok (.iload 4, 2) := by decide +kernel
theorem dMo_solve_219 : decode kMo_solve 219 = .ok (.imul, 1) := by decide +kernel
theorem dMo_solve_220 : decode kMo_solve 220 = .ok (.iload_n 3, 1) := by decide +kernel
theorem dMo_solve_221 : decode kMo_solve 221 = .ok (.iadd, 1) := by decide +kernel
theorem dMo_solve_222 : decode kMo_solve 222 = .ok (.iaload, 1) := by decide +kernel
theorem dMo_solve_223 : decode kMo_solve 223 = .ok (.ifCond .ne 9, 3) := by decide +kernel
theorem dMo_solve_226 : decode kMo_solve 226 = .ok (.iinc 4 1, 3) := by decide +kernel
theorem dMo_solve_229 : decode kMo_solve 229 = .ok (.goto (-17), 3) := by decide +kernel
theorem dMo_solve_232 : decode kMo_solve 232 = .ok (.iconst 0, 1) := by decide +kernel
theorem dMo_solve_233 : decode kMo_solve 233 = .ok (.istore 5, 2) := by decide +kernel
theorem dMo_solve_235 : decode kMo_solve 235 = .ok (.iload 5, 2) := by decide +kernel
theorem dMo_solve_237 : decode kMo_solve 237 = .ok (.iconst 4, 1) := by decide +kernel
theorem dMo_solve_238 : decode kMo_solve 238 = .ok (.if_icmp .ge 59, 3) := by decide +kernel
theorem dMo_solve_241 : decode kMo_solve 241 = .ok (.aload_n 0, 1) := by decide +kernel
theorem dMo_solve_242 : decode kMo_solve 242 = .ok (.getfield 62, 3) := by decide +kernel
theorem dMo_solve_245 : decode kMo_solve 245 = .ok (.iconst 4, 1) := by decide +kernel
theorem dMo_solve_246 : decode kMo_solve 246 = .ok (.iload_n 3, 1) := by decide +kernel
theorem dMo_solve_247 : decode kMo_solve 247 = .ok (.imul, 1) := by decide +kernel
theorem dMo_solve_248 : decode kMo_solve 248 = .ok (.iload 5, 2) := by decide +kernel
theorem dMo_solve_250 : decode kMo_solve 250 = .ok (.iadd, 1) := by decide +kernel
theorem dMo_solve_251 : decode kMo_solve 251 = .ok (.iaload, 1) := by decide +kernel
theorem dMo_solve_252 : decode kMo_solve 252 = .ok (.istore 6, 2) := by decide +kernel
theorem dMo_solve_254 : decode kMo_solve 254 = .ok (.aload_n 0, 1) := by decide +kernel
theorem dMo_solve_255 : decode kMo_solve 255 = .ok (.getfield 62, 3) := by decide +kernel
theorem dMo_solve_258 : decode kMo_solve 258 = .ok (.iconst 4, 1) := by decide +kernel
theorem dMo_solve_259 : decode kMo_solve 259 = .ok (.iload_n 3, 1) := by decide +kernel
theorem dMo_solve_260 : decode kMo_solve 260 = .ok (.imul, 1) := by decide +kernel
theorem dMo_solve_261 : decode kMo_solve 261 = .ok (.iload 5, 2) := by decide +kernel
theorem dMo_solve_263 : decode kMo_solve 263 = .ok (.iadd, 1) := by decide +kernel
theorem dMo_solve_264 : decode kMo_solve 264 = .ok (.aload_n 0, 1) := by decide +kernel
theorem dMo_solve_265 : decode kMo_solve 265 = .ok (.getfield 62, 3) := by decide +kernel
theorem dMo_solve_268 : decode kMo_solve 268 = .ok (.iconst 4, 1) := by decide +kernel
theorem dMo_solve_269 : decode kMo_solve 269 = .ok (.iload 4, 2) := by decide +kernel
theorem dMo_solve_271 : decode kMo_solve 271 = .ok (.imul, 1) := by decide +kernel
theorem dMo_solve_272 : decode kMo_solve 272 = .ok (.iload 5, 2) := by decide +kernel
theorem dMo_solve_274 : decode kMo_solve 274 = .ok (.iadd, 1) := by decide +kernel
theorem dMo_solve_275 : decode kMo_solve 275 = .ok (.iaload, 1) := by decide +kernel
theorem dMo_solve_276 : decode kMo_solve 276 = .ok (.iastore, 1) := by decide +kernel
theorem dMo_solve_277 : decode kMo_solve 277 = .ok (.aload_n 0, 1) := by decide +kernel
theorem dMo_solve_278 : decode kMo_solve 278 = .ok (.getfield 62, 3) := by decide +kernel
theorem dMo_solve_281 : decode kMo_solve 281 = .ok (.iconst 4, 1) := by decide +kernel
theorem dMo_solve_282 : decode kMo_solve 282 = .ok (.iload 4, 2) := by decide +kernel
theorem dMo_solve_284 : decode kMo_solve 284 = .ok (.imul, 1) := by decide +kernel
theorem dMo_solve_285 : decode kMo_solve 285 = .ok (.iload 5, 2) := by decide +kernel
theorem dMo_solve_287 : decode kMo_solve 287 = .ok (.iadd, 1) := by decide +kernel
theorem dMo_solve_288 : decode kMo_solve 288 = .ok (.iload 6, 2) := by decide +kernel
theorem dMo_solve_290 : decode kMo_solve 290 = .ok (.iastore, 1) := by decide +kernel
theorem dMo_solve_291 : decode kMo_solve 291 = .ok (.iinc 5 1, 3) := by decide +kernel
theorem dMo_solve_294 : decode kMo_solve 294 = .ok (.goto (-59), 3) := by decide +kernel
theorem dMo_solve_297 : decode kMo_solve 297 = .ok (.aload_n 0, 1) := by decide +kernel
theorem dMo_solve_298 : decode kMo_solve 298 = .ok (.getfield 62, 3) := by decide +kernel
theorem dMo_solve_301 : decode kMo_solve 301 = .ok (.iconst 4, 1) := by decide +kernel
theorem dMo_solve_302 : decode kMo_solve 302 = .ok (.iload_n 3, 1) := by decide +kernel
theorem dMo_solve_303 : decode kMo_solve 303 = .ok (.imul, 1) := by decide +kernel
theorem dMo_solve_304 : decode kMo_solve 304 = .ok (.iload_n 3, 1) := by decide +kernel
theorem dMo_solve_305 : decode kMo_solve 305 = .ok (.iadd, 1) := by decide +kernel
theorem dMo_solve_306 : decode kMo_solve 306 = .ok (.iaload, 1) := by decide +kernel
theorem dMo_solve_307 : decode kMo_solve 307 = .ok (.invokestatic 169, 3) := by decide +kernel
theorem dMo_solve_310 : decode kMo_solve 310 = .ok (.istore 5, 2) := by decide +kernel
theorem dMo_solve_312 : decode kMo_solve 312 = .ok (.iconst 0, 1) := by decide +kernel
theorem dMo_solve_313 : decode kMo_solve 313 = .ok (.istore 6, 2) := by decide +kernel
theorem dMo_solve_315 : decode kMo_solve 315 = .ok (.iload 6, 2) := by decide +kernel
theorem dMo_solve_317 : decode kMo_solve 317 = .ok (.iconst 4, 1) := by decide +kernel
theorem dMo_solve_318 : decode kMo_solve 318 = .ok (.if_icmp .ge 36, 3) := by decide +kernel
theorem dMo_solve_321 : decode kMo_solve 321 = .ok (.aload_n 0, 1) := by decide +kernel
theorem dMo_solve_322 : decode kMo_solve 322 = .ok (.getfield 62, 3) := by decide +kernel
theorem dMo_solve_325 : decode kMo_solve 325 = .ok (.iconst 4, 1) := by decide +kernel
theorem dMo_solve_326 : decode kMo_solve 326 = .ok (.iload_n 3, 1) := by decide +kernel
theorem dMo_solve_327 : decode kMo_solve 327 = .ok (.imul, 1) := by decide +kernel
theorem dMo_solve_328 : decode kMo_solve 328 = .ok (.iload 6, 2) := by decide +kernel
theorem dMo_solve_330 : decode kMo_solve 330 = .ok (.iadd, 1) := by decide +kernel
theorem dMo_solve_331 : decode kMo_solve 331 = .ok (.iload 5, 2) := by decide +kernel
theorem dMo_solve_333 : decode kMo_solve 333 = .ok (.aload_n 0, 1) := by decide +kernel
theorem dMo_solve_334 : decode kMo_solve 334 = .ok (.getfield 62, 3) := by decide +kernel
theorem dMo_solve_337 : decode kMo_solve 337 = .ok (.iconst 4, 1) := by decide +kernel
theorem dMo_solve_338 : decode kMo_solve 338 = .ok (.iload_n 3, 1) := by decide +kernel
theorem dMo_solve_339 : decode kMo_solve 339 = .ok (.imul, 1) := by decide +kernel
theorem dMo_solve_340 : decode kMo_solve 340 = .ok (.iload 6, 2) := by decide +kernel
theorem dMo_solve_342 : decode kMo_solve 342 = .ok (.iadd, 1) := by decide +kernel
theorem dMo_solve_343 : decode kMo_solve 343 = .ok (.iaload, 1) := by decide +kernel
theorem dMo_solve_344 : decode kMo_solve 344 = .ok (.invokestatic 100, 3) := by decide +kernel
theorem dMo_solve_347 : decode kMo_solve 347 = .ok (.iastore, 1) := by decide +kernel
theorem dMo_solve_348 : decode kMo_solve 348 = .ok (.iinc 6 1, 3) := by decide +kernel
theorem dMo_solve_351 : decode kMo_solve 351 = .ok (.goto (-36), 3) := by decide +kernel
theorem dMo_solve_354 : decode kMo_solve 354 = .ok (.iconst 0, 1) := by decide +kernel
theorem dMo_solve_355 : decode kMo_solve 355 = .ok (.istore 6, 2) := by decide +kernel
theorem dMo_solve_357 : decode kMo_solve 357 = .ok (.iload 6, 2) := by decide +kernel
theorem dMo_solve_359 : decode kMo_solve 359 = .ok (.iload_n 1, 1) := by decide +kernel
theorem dMo_solve_360 : decode kMo_solve 360 = .ok (.if_icmp .ge 84, 3) := by decide +kernel
theorem dMo_solve_363 : decode kMo_solve 363 = .ok (.aload_n 0, 1) := by decide +kernel
theorem dMo_solve_364 : decode kMo_solve 364 = .ok (.getfield 62, 3) := by decide +kernel
theorem dMo_solve_367 : decode kMo_solve 367 = .ok (.iconst 4, 1) := by decide +kernel
theorem dMo_solve_368 : decode kMo_solve 368 = .ok (.iload 6, 2) := by decide +kernel
theorem dMo_solve_370 : decode kMo_solve 370 = .ok (.imul, 1) := by decide +kernel
theorem dMo_solve_371 : decode kMo_solve 371 = .ok (.iload_n 3, 1) := by decide +kernel
theorem dMo_solve_372 : decode kMo_solve 372 = .ok (.iadd, 1) := by decide +kernel
theorem dMo_solve_373 : decode kMo_solve 373 = .ok (.iaload, 1) := by decide +kernel
theorem dMo_solve_374 : decode kMo_solve 374 = .ok (.istore 7, 2) := by decide +kernel
theorem dMo_solve_376 : decode kMo_solve 376 = .ok (.iconst 0, 1) := by decide +kernel
theorem dMo_solve_377 : decode kMo_solve 377 = .ok (.istore 8, 2) := by decide +kernel
theorem dMo_solve_379 : decode kMo_solve 379 = .ok (.iload 8, 2) := by decide +kernel
theorem dMo_solve_381 : decode kMo_solve 381 = .ok (.iconst 4, 1) := by decide +kernel
theorem dMo_solve_382 : decode kMo_solve 382 = .ok (.if_icmp .ge 56, 3) := by decide +kernel
theorem dMo_solve_385 : decode kMo_solve 385 = .ok (.iload 6, 2) := by decide +kernel
theorem dMo_solve_387 : decode kMo_solve 387 = .ok (.iload_n 3, 1) := by decide +kernel
theorem dMo_solve_388 : decode kMo_solve 388 = .ok (.if_icmp .eq 50, 3) := by decide +kernel
theorem dMo_solve_391 : decode kMo_solve 391 = .ok (.aload_n 0, 1) := by decide +kernel
theorem dMo_solve_392 : decode kMo_solve 392 = .ok (.getfield 62, 3) := by decide +kernel
theorem dMo_solve_395 : decode kMo_solve 395 = .ok (.iconst 4, 1) := by decide +kernel
theorem dMo_solve_396 : decode kMo_solve 396 = .ok (.iload 6, 2) := by decide +kernel
theorem dMo_solve_398 : decode kMo_solve 398 = .ok (.imul, 1) := by decide +kernel
theorem dMo_solve_399 : decode kMo_solve 399 = .ok (.iload 8, 2) := by decide +kernel
theorem dMo_solve_401 : decode kMo_solve 401 = .ok (.iadd, 1) := by decide +kernel
theorem dMo_solve_402 : decode kMo_solve 402 = .ok (.aload_n 0, 1) := by decide +kernel
theorem dMo_solve_403 : decode kMo_solve 403 = .ok (.getfield 62, 3) := by decide +kernel
theorem dMo_solve_406 : decode kMo_solve 406 = .ok (.iconst 4, 1) := by decide +kernel
theorem dMo_solve_407 : decode kMo_solve 407 = .ok (.iload 6, 2) := by decide +kernel
theorem dMo_solve_409 : decode kMo_solve 409 = .ok (.imul, 1) := by decide +kernel
theorem dMo_solve_410 : decode kMo_solve 410 = .ok (.iload 8, 2) := by decide +kernel
theorem dMo_solve_412 : decode kMo_solve 412 = .ok (.iadd, 1) := by decide +kernel
theorem dMo_solve_413 : decode kMo_solve 413 = .ok (.iaload, 1) := by decide +kernel
theorem dMo_solve_414 : decode kMo_solve 414 = .ok (.iload 7, 2) := by decide +kernel
theorem dMo_solve_416 : decode kMo_solve 416 = .ok (.aload_n 0, 1) := by decide +kernel
theorem dMo_solve_417 : decode kMo_solve 417 = .ok (.getfield 62, 3) := by decide +kernel
theorem dMo_solve_420 : decode kMo_solve 420 = .ok (.iconst 4, 1) := by decide +kernel
theorem dMo_solve_421 : decode kMo_solve 421 = .ok (.iload_n 3, 1) := by decide +kernel
theorem dMo_solve_422 : decode kMo_solve 422 = .ok (.imul, 1) := by decide +kernel
theorem dMo_solve_423 : decode kMo_solve 423 = .ok (.iload 8, 2) := by decide +kernel
theorem dMo_solve_425 : decode kMo_solve 425 = .ok (.iadd, 1) := by decide +kernel
theorem dMo_solve_426 : decode kMo_solve 426 = .ok (.iaload, 1) := by decide +kernel
theorem dMo_solve_427 : decode kMo_solve 427 = .ok (.invokestatic 100, 3) := by decide +kernel
theorem dMo_solve_430 : decode kMo_solve 430 = .ok (.ixor, 1) := by decide +kernel
theorem dMo_solve_431 : decode kMo_solve 431 = .ok (.iastore, 1) := by decide +kernel
theorem dMo_solve_432 : decode kMo_solve 432 = .ok (.iinc 8 1, 3) := by decide +kernel
theorem dMo_solve_435 : decode kMo_solve 435 = .ok (.goto (-56), 3) := by decide +kernel
theorem dMo_solve_438 : decode kMo_solve 438 = .ok (.iinc 6 1, 3) := by decide +kernel
theorem dMo_solve_441 : decode kMo_solve 441 = .ok (.goto (-84), 3) := by decide +kernel
theorem dMo_solve_444 : decode kMo_solve 444 = .ok (.iinc 3 1, 3) := by decide +kernel
theorem dMo_solve_447 : decode kMo_solve 447 = .ok (.goto (-243), 3) := by decide +kernel
theorem dMo_solve_450 : decode kMo_solve 450 = .ok (.iconst 0, 1) := by decide +kernel
theorem dMo_solve_451 : decode kMo_solve 451 = .ok (.istore_n 3, 1) := by decide +kernel
theorem dMo_solve_452 : decode kMo_solve 452 = .ok (.iload_n 3, 1) := by decide +kernel
theorem dMo_solve_453 : decode kMo_solve 453 = .ok (.iload_n 1, 1) := by decide +kernel
theorem dMo_solve_454 : decode kMo_solve 454 = .ok (.if_icmp .ge 95, 3) := by decide +kernel
theorem dMo_solve_457 : decode kMo_solve 457 = .ok (.aload_n 0, 1) := by decide +kernel
theorem dMo_solve_458 : decode kMo_solve 458 = .ok (.getfield 56, 3) := by decide +kernel
theorem dMo_solve_461 : decode kMo_solve 461 = .ok (.iload_n 3, 1) := by decide +kernel
theorem dMo_solve_462 : decode kMo_solve 462 = .ok (.iaload, 1) := by decide +kernel
theorem dMo_solve_463 : decode kMo_solve 463 = .ok (.istore 4, 2) := by decide +kernel
theorem dMo_solve_465 : decode kMo_solve 465 = .ok (.iload_n 2, 1) := by decide +kernel
theorem dMo_solve_466 : decode kMo_solve 466 = .ok (.iconst (-1), 1) := by decide +kernel
theorem dMo_solve_467 : decode kMo_solve 467 = .ok (.if_icmp .ne 23, 3) := by decide +kernel
theorem dMo_solve_470 : decode kMo_solve 470 = .ok (.aload_n 0, 1) := by decide +kernel
theorem dMo_solve_471 : decode kMo_solve 471 = .ok (.getfield 38, 3) := by decide +kernel
theorem dMo_solve_474 : decode kMo_solve 474 = .ok (.iload 4, 2) := by decide +kernel
theorem dMo_solve_476 : decode kMo_solve 476 = .ok (.aload_n 0, 1) := by decide +kernel
theorem dMo_solve_477 : decode kMo_solve 477 = .ok (.getfield 62, 3) := by decide +kernel
theorem dMo_solve_480 : decode kMo_solve 480 = .ok (.iconst 4, 1) := by decide +kernel
theorem dMo_solve_481 : decode kMo_solve 481 = .ok (.iload_n 3, 1) := by decide +kernel
theorem dMo_solve_482 : decode kMo_solve 482 = .ok (.imul, 1) := by decide +kernel
theorem dMo_solve_483 : decode kMo_solve 483 = .ok (.iconst 3, 1) := by decide +kernel
theorem dMo_solve_484 : decode kMo_solve 484 = .ok (.iadd, 1) := by decide +kernel
theorem dMo_solve_485 : decode kMo_solve 485 = .ok (.iaload, 1) := by decide +kernel
theorem dMo_solve_486 : decode kMo_solve 486 = .ok (.iastore, 1) := by decide +kernel
theorem dMo_solve_487 : decode kMo_solve 487 = .ok (.goto 56, 3) := by decide +kernel
theorem dMo_solve_490 : decode kMo_solve 490 = .ok (.iload_n 2, 1) := by decide +kernel
theorem dMo_solve_491 : decode kMo_solve 491 = .ok (.bipush (-2), 2) := by decide +kernel
theorem dMo_solve_493 : decode kMo_solve 493 = .ok (.if_icmp .ne 23, 3) := by decide +kernel
theorem dMo_solve_496 : decode kMo_solve 496 = .ok (.aload_n 0, 1) := by decide +kernel
theorem dMo_solve_497 : decode kMo_solve 497 = .ok (.getfield 41, 3) := by decide +kernel
theorem dMo_solve_500 : decode kMo_solve 500 = .ok (.iload 4, 2) := by decide +kernel
theorem dMo_solve_502 : decode kMo_solve 502 = .ok (.aload_n 0, 1) := by decide +kernel
theorem dMo_solve_503 : decode kMo_solve 503 = .ok (.getfield 62, 3) := by decide +kernel
theorem dMo_solve_506 : decode kMo_solve 506 = .ok (.iconst 4, 1) := by decide +kernel
theorem dMo_solve_507 : decode kMo_solve 507 = .ok (.iload_n 3, 1) := by decide +kernel
theorem dMo_solve_508 : decode kMo_solve 508 = .ok (.imul, 1) := by decide +kernel
theorem dMo_solve_509 : decode kMo_solve 509 = .ok (.iconst 3, 1) := by decide +kernel
theorem dMo_solve_510 : decode kMo_solve 510 = .ok (.iadd, 1) := by decide +kernel
theorem dMo_solve_511 : decode kMo_solve 511 = .ok (.iaload, 1) := by decide +kernel
theorem dMo_solve_512 : decode kMo_solve 512 = .ok (.iastore, 1) := by decide +kernel
theorem dMo_solve_513 : decode kMo_solve 513 = .ok (.goto 30, 3) := by decide +kernel
theorem dMo_solve_516 : decode kMo_solve 516 = .ok (.aload_n 0, 1) := by decide +kernel
theorem dMo_solve_517 : decode kMo_solve 517 = .ok (.getfield 44, 3) := by decide +kernel
theorem dMo_solve_520 : decode kMo_solve 520 = .ok (.iload 4, 2) := by decide +kernel
theorem dMo_solve_522 : decode kMo_solve 522 = .ok (.aload_n 0, 1) := by decide +kernel
theorem dMo_solve_523 : decode kMo_solve 523 = .ok (.getfield 150, 3) := by decide +kernel
theorem dMo_solve_526 : decode kMo_solve 526 = .ok (.bipush 12, 2) := by decide +kernel
theorem dMo_solve_528 : decode kMo_solve 528 = .ok (.isub, 1) := by decide +kernel
theorem dMo_solve_529 : decode kMo_solve 529 = .ok (.imul, 1) := by decide +kernel
theorem dMo_solve_530 : decode kMo_solve 530 = .ok (.iload_n 2, 1) := by decide +kernel
theorem dMo_solve_531 : decode kMo_solve 531 = .ok (.iadd, 1) := by decide +kernel
theorem dMo_solve_532 : decode kMo_solve 532 = .ok (.aload_n 0, 1) := by decide +kernel
theorem dMo_solve_533 : decode kMo_solve 533 = .ok (.getfield 62, 3) := by decide +kernel
theorem dMo_solve_536 : decode kMo_solve 536 = .ok (.iconst 4, 1) := by decide +kernel
theorem dMo_solve_537 : decode kMo_solve 537 = .ok (.iload_n 3, 1) := by decide +kernel
theorem dMo_solve_538 : decode kMo_solve 538 = .ok (.imul, 1) := by decide +kernel
theorem dMo_solve_539 : decode kMo_solve 539 = .ok (.iconst 3, 1) := by decide +kernel
theorem dMo_solve_540 : decode kMo_solve 540 = .ok (.iadd, 1) := by decide +kernel
theorem dMo_solve_541 : decode kMo_solve 541 = .ok (.iaload, 1) := by decide +kernel
theorem dMo_solve_542 : decode kMo_solve 542 = .ok (.iastore, 1) := by decide +kernel
theorem dMo_solve_543 : decode kMo_solve 543 = .ok (.iinc 3 1, 3) := by decide +kernel
theorem dMo_solve_546 : decode kMo_solve 546 = .ok (.goto (-94), 3) := by decide +kernel
theorem dMo_solve_549 : decode kMo_solve 549 = .ok (.return_, 1) := by decide +kernel
theorem dMo_isKnown_0 : decode kMo_isKnown 0 = .ok (.iload_n 1, 1) := by decide +kernel
theorem dMo_isKnown_1 : decode kMo_isKnown 1 = .ok (.aload_n 0, 1) := by decide +kernel
theorem dMo_isKnown_2 : decode kMo_isKnown 2 = .ok (.getfield 150, 3) := by decide +kernel
theorem dMo_isKnown_5 : decode kMo_isKnown 5 = .ok (.bipush 12, 2) := by decide +kernel
theorem dMo_isKnown_7 : decode kMo_isKnown 7 = .ok (.isub, 1) := by decide +kernel
theorem dMo_isKnown_8 : decode kMo_isKnown 8 = .ok (.idiv, 1) := by decide +kernel
theorem dMo_isKnown_9 : decode kMo_isKnown 9 = .ok (.istore_n 2, 1) := by decide +kernel
theorem dMo_isKnown_10 : decode kMo_isKnown 10 = .ok (.iload_n 2, 1) := by decide +kernel
theorem dMo_isKnown_11 : decode kMo_isKnown 11 = .ok (.aload_n 0, 1) := by decide +kernel
theorem dMo_isKnown_12 : decode kMo_isKnown 12 = .ok (.getfield 144, 3) := by decide +kernel
theorem dMo_isKnown_15 : decode kMo_isKnown 15 = .ok (.if_icmp .ge 36, 3) := by decide +kernel
theorem dMo_isKnown_18 : decode kMo_isKnown 18 = .ok (.aload_n 0, 1) := by decide +kernel
theorem dMo_isKnown_19 : decode kMo_isKnown 19 = .ok (.getfield 35, 3) := by decide +kernel
theorem dMo_isKnown_22 : decode kMo_isKnown 22 = .ok (.iload_n 2, 1) := by decide +kernel
theorem dMo_isKnown_23 : decode kMo_isKnown 23 = .ok (.iaload, 1) := by decide +kernel
theorem dMo_isKnown_24 : decode kMo_isKnown 24 = .ok (.bipush (-2), 2) := by decide +kernel
theorem dMo_isKnown_26 : decode kMo_isKnown 26 = .ok (.if_icmp .eq 25, 3) := by decide +kernel
theorem dMo_isKnown_29 : decode kMo_isKnown 29 = .ok (.iload_n 1, 1) := by decide +kernel
theorem dMo_isKnown_30 : decode kMo_isKnown 30 = .ok (.aload_n 0, 1) := by decide +kernel
theorem dMo_isKnown_31 : decode kMo_isKnown 31 = .ok (.getfield 150, 3) := by decide +kernel
theorem dMo_isKnown_34 : decode kMo_isKnown 34 = .ok (.bipush 12, 2) := by decide +kernel
theorem dMo_isKnown_36 : decode kMo_isKnown 36 = .ok (.isub, 1) := by decide +kernel
theorem dMo_isKnown_37 : decode kMo_isKnown 37 = .ok (.irem, 1) := by decide +kernel
theorem dMo_isKnown_38 : decode kMo_isKnown 38 = .ok (.aload_n 0, 1) := by decide +kernel
theorem dMo_isKnown_39 : decode kMo_isKnown 39 = .ok (.getfield 38, 3) := by decide +kernel
theorem dMo_isKnown_42 : decode kMo_isKnown 42 = .ok (.iload_n 2, 1) := by decide +kernel
theorem dMo_isKnown_43 : decode kMo_isKnown 43 = .ok (.iaload, 1) := by decide +kernel
theorem dMo_isKnown_44 : decode kMo_isKnown 44 = .ok (.if_icmp .ge 7, 3) := by decide +kernel
theorem dMo_isKnown_47 : decode kMo_isKnown 47 = .ok (.iconst 1, 1) := by decide +kernel
theorem dMo_isKnown_48 : decode kMo_isKnown 48 = .ok (.goto 4, 3) := by decide +kernel
theorem dMo_isKnown_51 : decode kMo_isKnown 51 = .ok (.iconst 0, 1) := by decide +kernel
theorem dMo_isKnown_52 : decode kMo_isKnown 52 = .ok (.ireturn, 1) := by decide +kernel
theorem dMo_isWhole_0 : decode kMo_isWhole 0 = .ok (.iload_n 2, 1) := by decide +kernel
theorem dMo_isWhole_1 : decode kMo_isWhole 1 = .ok (.bipush 60, 2) := by decide +kernel
theorem dMo_isWhole_3 : decode kMo_isWhole 3 = .ok (.if_icmp .gt 7, 3) := by decide +kernel
theorem dMo_isWhole_6 : decode kMo_isWhole 6 = .ok (.iconst 1, 1) := by decide +kernel
theorem dMo_isWhole_7 : decode kMo_isWhole 7 = .ok (.goto 4, 3) := by decide +kernel
theorem dMo_isWhole_10 : decode kMo_isWhole 10 = .ok (.iconst 0, 1) := by decide +kernel
theorem dMo_isWhole_11 : decode kMo_isWhole 11 = .ok (.istore_n 3, 1) := by decide +kernel
theorem dMo_isWhole_12 : decode kMo_isWhole 12 = .ok (.iconst 0, 1) := by decide +kernel
theorem dMo_isWhole_13 : decode kMo_isWhole 13 = .ok (.istore 4, 2) := by decide +kernel
theorem dMo_isWhole_15 : decode kMo_isWhole 15 = .ok (.iload 4, 2) := by decide +kernel
theorem dMo_isWhole_17 : decode kMo_isWhole 17 = .ok (.iload_n 2, 1) := by decide +kernel
theorem dMo_isWhole_18 : decode kMo_isWhole 18 = .ok (.iconst 3, 1) := by decide +kernel
theorem dMo_isWhole_19 : decode kMo_isWhole 19 = .ok (.iadd, 1) := by decide +kernel
theorem dMo_isWhole_20 : decode kMo_isWhole 20 = .ok (.if_icmp .ge 22, 3) := by decide +kernel
theorem dMo_isWhole_23 : decode kMo_isWhole 23 = .ok (.iload_n 3, 1) := by decide +kernel
theorem dMo_isWhole_24 : decode kMo_isWhole 24 = .ok (.ifCond .eq 18, 3) := by decide +kernel
theorem dMo_isWhole_27 : decode kMo_isWhole 27 = .ok (.aload_n 0, 1) := by decide +kernel
theorem dMo_isWhole_28 : decode kMo_isWhole 28 = .ok (.iload_n 1, 1) := by decide +kernel
theorem dMo_isWhole_29 : decode kMo_isWhole 29 = .ok (.iload 4, 2) := by decide +kernel
theorem dMo_isWhole_31 : decode kMo_isWhole 31 = .ok (.iadd, 1) := by decide +kernel
theorem dMo_isWhole_32 : decode kMo_isWhole 32 = .ok (.invokevirtual 172, 3) := by decide +kernel
theorem dMo_isWhole_35 : decode kMo_isWhole 35 = .ok (.istore_n 3, 1) := by decide +kernel
theorem dMo_isWhole_36 : decode kMo_isWhole 36 = .ok (.iinc 4 1, 3) := by decide +kernel
theorem dMo_isWhole_39 : decode kMo_isWhole 39 = .ok (.goto (-24), 3) := by decide +kernel
theorem dMo_isWhole_42 : decode kMo_isWhole 42 = .ok (.iload_n 3, 1) := by decide +kernel
theorem dMo_isWhole_43 : decode kMo_isWhole 43 = .ok (.ifCond .eq 42, 3) := by decide +kernel
theorem dMo_isWhole_46 : decode kMo_isWhole 46 = .ok (.aload_n 0, 1) := by decide +kernel
theorem dMo_isWhole_47 : decode kMo_isWhole 47 = .ok (.getfield 44, 3) := by decide +kernel
theorem dMo_isWhole_50 : decode kMo_isWhole 50 = .ok (.iload_n 1, 1) := by decide +kernel
theorem dMo_isWhole_51 : decode kMo_isWhole 51 = .ok (.iconst 3, 1) := by decide +kernel
theorem dMo_isWhole_52 : decode kMo_isWhole 52 = .ok (.iadd, 1) := by decide +kernel
theorem dMo_isWhole_53 : decode kMo_isWhole 53 = .ok (.iload_n 2, 1) := by decide +kernel
theorem dMo_isWhole_54 : decode kMo_isWhole 54 = .ok (.invokestatic 80, 3) := by decide +kernel
theorem dMo_isWhole_57 : decode kMo_isWhole 57 = .ok (.aload_n 0, 1) := by decide +kernel
theorem dMo_isWhole_58 : decode kMo_isWhole 58 = .ok (.getfield 44, 3) := by decide +kernel
theorem dMo_isWhole_61 : decode kMo_isWhole 61 = .ok (.iload_n 1, 1) := by decide +kernel
theorem dMo_isWhole_62 : decode kMo_isWhole 62 = .ok (.iconst 1, 1) := by decide +kernel
theorem dMo_isWhole_63 : decode kMo_isWhole 63 = .ok (.iadd, 1) := by decide +kernel
theorem dMo_isWhole_64 : decode kMo_isWhole 64 = .ok (.iaload, 1) := by decide +kernel
theorem dMo_isWhole_65 : decode kMo_isWhole 65 = .ok (.sipush 256, 3) := by decide +kernel
theorem dMo_isWhole_68 : decode kMo_isWhole 68 = .ok (.aload_n 0, 1) := by decide +kernel
theorem dMo_isWhole_69 : decode kMo_isWhole 69 = .ok (.getfield 44, 3) := by decide +kernel
theorem dMo_isWhole_72 : decode kMo_isWhole 72 = .ok (.iload_n 1, 1) := by decide +kernel
theorem dMo_isWhole_73 : decode kMo_isWhole 73 = .ok (.iconst 2, 1) := by decide +kernel
theorem dMo_isWhole_74 : decode kMo_isWhole 74 = .ok (.iadd, 1) := by decide +kernel
theorem dMo_isWhole_75 : decode kMo_isWhole 75 = .ok (.iaload, 1) := by decide +kernel
theorem dMo_isWhole_76 : decode kMo_isWhole 76 = .ok (.imul, 1) := by decide +kernel
theorem dMo_isWhole_77 : decode kMo_isWhole 77 = .ok (.iadd, 1) := by decide +kernel
theorem dMo_isWhole_78 : decode kMo_isWhole 78 = .ok (.if_icmp .ne 7, 3) := by decide +kernel
theorem dMo_isWhole_81 : decode kMo_isWhole 81 = .ok (.iconst 1, 1) := by decide +kernel
theorem dMo_isWhole_82 : decode kMo_isWhole 82 = .ok (.goto 4, 3) := by decide +kernel
theorem dMo_isWhole_85 : decode kMo_isWhole 85 = .ok (.iconst 0, 1) := by decide +kernel
theorem dMo_isWhole_86 : decode kMo_isWhole 86 = .ok (.ireturn, 1) := by decide +kernel
theorem dMo_open_0 : decode kMo_open 0 = .ok (.aload_n 0, 1) := by decide +kernel
theorem dMo_open_1 : decode kMo_open 1 = .ok (.iconst 0, 1) := by decide +kernel
theorem dMo_open_2 : decode kMo_open 2 = .ok (.putfield 175, 3) := by decide +kernel
theorem dMo_open_5 : decode kMo_open 5 = .ok (.aload_n 0, 1) := by decide +kernel
theorem dMo_open_6 : decode kMo_open 6 = .ok (.iconst 0, 1) := by decide +kernel
theorem dMo_open_7 : decode kMo_open 7 = .ok (.putfield 178, 3) := by decide +kernel
theorem dMo_open_10 : decode kMo_open 10 = .ok (.iconst 0, 1) := by decide +kernel
theorem dMo_open_11 : decode kMo_open 11 = .ok (.istore_n 1, 1) := by decide +kernel
theorem dMo_open_12 : decode kMo_open 12 = .ok (.aload_n 0, 1) := by decide +kernel
theorem dMo_open_13 : decode kMo_open 13 = .ok (.getfield 175, 3) := by decide +kernel
theorem dMo_open_16 : decode kMo_open 16 = .ok (.bipush 40, 2) := by decide +kernel
theorem dMo_open_18 : decode kMo_open 18 = .ok (.if_icmp .ge 184, 3) := by decide +kernel
theorem dMo_open_21 : decode kMo_open 21 = .ok (.aload_n 0, 1) := by decide +kernel
theorem dMo_open_22 : decode kMo_open 22 = .ok (.iload_n 1, 1) := by decide +kernel
theorem dMo_open_23 : decode kMo_open 23 = .ok (.invokevirtual 172, 3) := by decide +kernel
theorem dMo_open_26 : decode kMo_open 26 = .ok (.ifCond .eq 95, 3) := by decide +kernel
theorem dMo_open_29 : decode kMo_open 29 = .ok (.aload_n 0, 1) := by decide +kernel
theorem dMo_open_30 : decode kMo_open 30 = .ok (.getfield 44, 3) := by decide +kernel
theorem dMo_open_33 : decode kMo_open 33 = .ok (.iload_n 1, 1) := by decide +kernel
theorem dMo_open_34 : decode kMo_open 34 = .ok (.iaload, 1) := by decide +kernel
theorem dMo_open_35 : decode kMo_open 35 = .ok (.istore_n 2, 1) := by decide +kernel
theorem dMo_open_36 : decode kMo_open 36 = .ok (.aload_n 0, 1) := by decide +kernel
theorem dMo_open_37 : decode kMo_open 37 = .ok (.iload_n 1, 1) := by decide +kernel
theorem dMo_open_38 : decode kMo_open 38 = .ok (.iload_n 2, 1) := by decide +kernel
theorem dMo_open_39 : decode kMo_open 39 = .ok (.invokevirtual 181, 3) := by decide +kernel
theorem dMo_open_42 : decode kMo_open 42 = .ok (.istore_n 3, 1) := by decide +kernel
theorem dMo_open_43 : decode kMo_open 43 = .ok (.aload_n 0, 1) := by decide +kernel
theorem dMo_open_44 : decode kMo_open 44 = .ok (.getfield 47, 3) := by decide +kernel
theorem dMo_open_47 : decode kMo_open 47 = .ok (.aload_n 0, 1) := by decide +kernel
theorem dMo_open_48 : decode kMo_open 48 = .ok (.getfield 175, 3) := by decide +kernel
theorem dMo_open_51 : decode kMo_open 51 = .ok (.iload_n 1, 1) := by decide +kernel
theorem dMo_open_52 : decode kMo_open 52 = .ok (.iastore, 1) := by decide +kernel
theorem dMo_open_53 : decode kMo_open 53 = .ok (.aload_n 0, 1) := by decide +kernel
theorem dMo_open_54 : decode kMo_open 54 = .ok (.getfield 50, 3) := by decide +kernel
theorem dMo_open_57 : decode kMo_open 57 = .ok (.aload_n 0, 1) := by decide +kernel
theorem dMo_open_58 : decode kMo_open 58 = .ok (.getfield 175, 3) := by decide +kernel
theorem dMo_open_61 : decode kMo_open 61 = .ok (.iload_n 2, 1) := by decide +kernel
theorem dMo_open_62 : decode kMo_open 62 = .ok (.iastore, 1) := by decide +kernel
theorem dMo_open_63 : decode kMo_open 63 = .ok (.aload_n 0, 1) := by decide +kernel
theorem dMo_open_64 : decode kMo_open 64 = .ok (.getfield 53, 3) := by decide +kernel
theorem dMo_open_67 : decode kMo_open 67 = .ok (.aload_n 0, 1) := by decide +kernel
theorem dMo_open_68 : decode kMo_open 68 = .ok (.getfield 175, 3) := by decide +kernel
theorem dMo_open_71 : decode kMo_open 71 = .ok (.iload_n 3, 1) := by decide +kernel
theorem dMo_open_72 : decode kMo_open 72 = .ok (.ifCond .eq 7, 3) := by decide +kernel
theorem dMo_open_75 : decode kMo_open 75 = .ok (.iconst 1, 1) := by decide +kernel
theorem dMo_open_76 : decode kMo_open 76 = .ok (.goto 4, 3) := by decide +kernel
theorem dMo_open_79 : decode kMo_open 79 = .ok (.iconst 0, 1) := by decide +kernel
theorem dMo_open_80 : decode kMo_open 80 = .ok (.iastore, 1) := by decide +kernel
theorem dMo_open_81 : decode kMo_open 81 = .ok (.aload_n 0, 1) := by decide +kernel
theorem dMo_open_82 : decode kMo_open 82 = .ok (.dup, 1) := by decide +kernel
theorem dMo_open_83 : decode kMo_open 83 = .ok (.getfield 175, 3) := by decide +kernel
theorem dMo_open_86 : decode kMo_open 86 = .ok (.iconst 1, 1) := by decide +kernel
theorem dMo_open_87 : decode kMo_open 87 = .ok (.iadd, 1) := by decide +kernel
theorem dMo_open_88 : decode kMo_open 88 = .ok (.putfield 175, 3) := by decide +kernel
theorem dMo_open_91 : decode kMo_open 91 = .ok (.aload_n 0, 1) := by decide +kernel
theorem dMo_open_92 : decode kMo_open 92 = .ok (.iload_n 3, 1) := by decide +kernel
theorem dMo_open_93 : decode kMo_open 93 = .ok (.ifCond .eq 12, 3) := by decide +kernel
theorem dMo_open_96 : decode kMo_open 96 = .ok (.aload_n 0, 1) := by decide +kernel
theorem dMo_open_97 : decode kMo_open 97 = .ok (.getfield 178, 3) := by decide +kernel
theorem dMo_open_100 : decode kMo_open 100 = .ok (.iconst 1, 1) := by decide +kernel
theorem dMo_open_101 : decode kMo_open 101 = .ok (.iadd, 1) := by decide +kernel
theorem dMo_open_102 : decode kMo_open 102 = .ok (.goto 7, 3) := by decide +kernel
theorem dMo_open_105 : decode kMo_open 105 = .ok (.aload_n 0, 1) := by decide +kernel
theorem dMo_open_106 : decode kMo_open 106 = .ok (.getfield 178, 3) := by decide +kernel
theorem dMo_open_109 : decode kMo_open 109 = .ok (.putfield 178, 3) := by decide +kernel
theorem dMo_open_112 : decode kMo_open 112 = .ok (.iload_n 1, 1) := by decide +kernel
theorem dMo_open_113 : decode kMo_open 113 = .ok (.iload_n 2, 1) := by decide +kernel
theorem dMo_open_114 : decode kMo_open 114 = .ok (.iadd, 1) := by decide +kernel
theorem dMo_open_115 : decode kMo_open 115 = .ok (.iconst 3, 1) := by decide +kernel
theorem dMo_open_116 : decode kMo_open 116 = .ok (.iadd, 1) := by decide +kernel
theorem dMo_open_117 : decode kMo_open 117 = .ok (.istore_n 1, 1) := by decide +kernel
theorem dMo_open_118 : decode kMo_open 118 = .ok (.goto (-106), 3) := by decide +kernel
theorem dMo_open_121 : decode kMo_open 121 = .ok (.iload_n 1, 1) := by decide +kernel
theorem dMo_open_122 : decode kMo_open 122 = .ok (.aload_n 0, 1) := by decide +kernel
theorem dMo_open_123 : decode kMo_open 123 = .ok (.getfield 150, 3) := by decide +kernel
theorem dMo_open_126 : decode kMo_open 126 = .ok (.bipush 12, 2) := by decide +kernel
theorem dMo_open_128 : decode kMo_open 128 = .ok (.isub, 1) := by decide +kernel
theorem dMo_open_129 : decode kMo_open 129 = .ok (.idiv, 1) := by decide +kernel
theorem dMo_open_130 : decode kMo_open 130 = .ok (.iconst 1, 1) := by decide +kernel
theorem dMo_open_131 : decode kMo_open 131 = .ok (.iadd, 1) := by decide +kernel
theorem dMo_open_132 : decode kMo_open 132 = .ok (.istore_n 2, 1) := by decide +kernel
theorem dMo_open_133 : decode kMo_open 133 = .ok (.iload_n 2, 1) := by decide +kernel
theorem dMo_open_134 : decode kMo_open 134 = .ok (.aload_n 0, 1) := by decide +kernel
theorem dMo_open_135 : decode kMo_open 135 = .ok (.getfield 144, 3) := by decide +kernel
theorem dMo_open_138 : decode kMo_open 138 = .ok (.if_icmp .ge 35, 3) := by decide +kernel
theorem dMo_open_141 : decode kMo_open 141 = .ok (.aload_n 0, 1) := by decide +kernel
theorem dMo_open_142 : decode kMo_open 142 = .ok (.getfield 35, 3) := by decide +kernel
theorem dMo_open_145 : decode kMo_open 145 = .ok (.iload_n 2, 1) := by decide +kernel
theorem dMo_open_146 : decode kMo_open 146 = .ok (.iaload, 1) := by decide +kernel
theorem dMo_open_147 : decode kMo_open 147 = .ok (.bipush (-2), 2) := by decide +kernel
theorem dMo_open_149 : decode kMo_open 149 = .ok (.if_icmp .eq 18, 3) := by decide +kernel
theorem dMo_open_152 : decode kMo_open 152 = .ok (.aload_n 0, 1) := by decide +kernel
theorem dMo_open_153 : decode kMo_open 153 = .ok (.getfield 41, 3) := by decide +kernel
theorem dMo_open_156 : decode kMo_open 156 = .ok (.iload_n 2, 1) := by decide +kernel
theorem dMo_open_157 : decode kMo_open 157 = .ok (.iaload, 1) := by decide +kernel
theorem dMo_open_158 : decode kMo_open 158 = .ok (.aload_n 0, 1) := by decide +kernel
theorem dMo_open_159 : decode kMo_open 159 = .ok (.getfield 38, 3) := by decide +kernel
theorem dMo_open_162 : decode kMo_open 162 = .ok (.iload_n 2, 1) := by decide +kernel
theorem dMo_open_163 : decode kMo_open 163 = .ok (.iaload, 1) := by decide +kernel
theorem dMo_open_164 : decode kMo_open 164 = .ok (.if_icmp .lt 9, 3) := by decide +kernel
theorem dMo_open_167 : decode kMo_open 167 = .ok (.iinc 2 1, 3) := by decide +kernel
theorem dMo_open_170 : decode kMo_open 170 = .ok (.goto (-37), 3) := by decide +kernel
theorem dMo_open_173 : decode kMo_open 173 = .ok (.iload_n 2, 1) := by decide +kernel
theorem dMo_open_174 : decode kMo_open 174 = .ok (.aload_n 0, 1) := by decide +kernel
theorem dMo_open_175 : decode kMo_open 175 = .ok (.getfield 144, 3) := by decide +kernel
theorem dMo_open_178 : decode kMo_open 178 = .ok (.if_icmp .lt 4, 3) := by decide +kernel
theorem dMo_open_181 : decode kMo_open 181 = .ok (.return_, 1) := by decide +kernel
theorem dMo_open_182 : decode kMo_open 182 = .ok (.iload_n 2, 1) := by decide +kernel
theorem dMo_open_183 : decode kMo_open 183 = .ok (.aload_n 0, 1) := by decide +kernel
theorem dMo_open_184 : decode kMo_open 184 = .ok (.getfield 150, 3) := by decide +kernel
theorem dMo_open_187 : decode kMo_open 187 = .ok (.bipush 12, 2) := by decide +kernel
theorem dMo_open_189 : decode kMo_open 189 = .ok (.isub, 1) := by decide +kernel
theorem dMo_open_190 : decode kMo_open 190 = .ok (.imul, 1) := by decide +kernel
theorem dMo_open_191 : decode kMo_open 191 = .ok (.aload_n 0, 1) := by decide +kernel
theorem dMo_open_192 : decode kMo_open 192 = .ok (.getfield 41, 3) := by decide +kernel
theorem dMo_open_195 : decode kMo_open 195 = .ok (.iload_n 2, 1) := by decide +kernel
theorem dMo_open_196 : decode kMo_open 196 = .ok (.iaload, 1) := by decide +kernel
theorem dMo_open_197 : decode kMo_open 197 = .ok (.iadd, 1) := by decide +kernel
theorem dMo_open_198 : decode kMo_open 198 = .ok (.istore_n 1, 1) := by decide +kernel
theorem dMo_open_199 : decode kMo_open 199 = .ok (.goto (-187), 3) := by decide +kernel
theorem dMo_open_202 : decode kMo_open 202 = .ok (.return_, 1) := by decide +kernel
theorem dMo_found_0 : decode kMo_found 0 = .ok (.aload_n 0, 1) := by decide +kernel
theorem dMo_found_1 : decode kMo_found 1 = .ok (.iconst 0, 1) := by decide +kernel
theorem dMo_found_2 : decode kMo_found 2 = .ok (.putfield 1, 3) := by decide +kernel
theorem dMo_found_5 : decode kMo_found 5 = .ok (.iload_n 1, 1) := by decide +kernel
theorem dMo_found_6 : decode kMo_found 6 = .ok (.iconst 0, 1) := by decide +kernel
theorem dMo_found_7 : decode kMo_found 7 = .ok (.iconst 5, 1) := by decide +kernel
theorem dMo_found_8 : decode kMo_found 8 = .ok (.invokestatic 68, 3) := by decide +kernel
theorem dMo_found_11 : decode kMo_found 11 = .ok (.ifCond .ne 5, 3) := by decide +kernel
theorem dMo_found_14 : decode kMo_found 14 = .ok (.iconst (-1), 1) := by decide +kernel
theorem dMo_found_15 : decode kMo_found 15 = .ok (.ireturn, 1) := by decide +kernel
theorem dMo_found_16 : decode kMo_found 16 = .ok (.aload_n 0, 1) := by decide +kernel
theorem dMo_found_17 : decode kMo_found 17 = .ok (.getfield 140, 3) := by decide +kernel
theorem dMo_found_20 : decode kMo_found 20 = .ok (.ifCond .ne 6, 3) := by decide +kernel
theorem dMo_found_23 : decode kMo_found 23 = .ok (.bipush (-2), 2) := by decide +kernel
theorem dMo_found_25 : decode kMo_found 25 = .ok (.ireturn, 1) := by decide +kernel
theorem dMo_found_26 : decode kMo_found 26 = .ok (.iload_n 1, 1) := by decide +kernel
theorem dMo_found_27 : decode kMo_found 27 = .ok (.ifCond .ne 10, 3) := by decide +kernel
theorem dMo_found_30 : decode kMo_found 30 = .ok (.aload_n 0, 1) := by decide +kernel
theorem dMo_found_31 : decode kMo_found 31 = .ok (.getfield 144, 3) := by decide +kernel
theorem dMo_found_34 : decode kMo_found 34 = .ok (.goto 55, 3) := by decide +kernel
theorem dMo_found_37 : decode kMo_found 37 = .ok (.iload_n 1, 1) := by decide +kernel
theorem dMo_found_38 : decode kMo_found 38 = .ok (.iconst 1, 1) := by decide +kernel
theorem dMo_found_39 : decode kMo_found 39 = .ok (.if_icmp .ne 10, 3) := by decide +kernel
theorem dMo_found_42 : decode kMo_found 42 = .ok (.aload_n 0, 1) := by decide +kernel
theorem dMo_found_43 : decode kMo_found 43 = .ok (.getfield 147, 3) := by decide +kernel
theorem dMo_found_46 : decode kMo_found 46 = .ok (.goto 43, 3) := by decide +kernel
theorem dMo_found_49 : decode kMo_found 49 = .ok (.iload_n 1, 1) := by decide +kernel
theorem dMo_found_50 : decode kMo_found 50 = .ok (.iconst 2, 1) := by decide +kernel
theorem dMo_found_51 : decode kMo_found 51 = .ok (.if_icmp .ne 10, 3) := by decide +kernel
theorem dMo_found_54 : decode kMo_found 54 = .ok (.aload_n 0, 1) := by decide +kernel
theorem dMo_found_55 : decode kMo_found 55 = .ok (.getfield 150, 3) := by decide +kernel
theorem dMo_found_58 : decode kMo_found 58 = .ok (.goto 31, 3) := by decide +kernel
theorem dMo_found_61 : decode kMo_found 61 = .ok (.iload_n 1, 1) := by decide +kernel
theorem dMo_found_62 : decode kMo_found 62 = .ok (.iconst 3, 1) := by decide +kernel
theorem dMo_found_63 : decode kMo_found 63 = .ok (.if_icmp .ne 10, 3) := by decide +kernel
theorem dMo_found_66 : decode kMo_found 66 = .ok (.aload_n 0, 1) := by decide +kernel
theorem dMo_found_67 : decode kMo_found 67 = .ok (.getfield 159, 3) := by decide +kernel
theorem dMo_found_70 : decode kMo_found 70 = .ok (.goto 19, 3) := by decide +kernel
theorem dMo_found_73 : decode kMo_found 73 = .ok (.iload_n 1, 1) := by decide +kernel
theorem dMo_found_74 : decode kMo_found 74 = .ok (.iconst 4, 1) := by decide +kernel
theorem dMo_found_75 : decode kMo_found 75 = .ok (.if_icmp .ne 10, 3) := by decide +kernel
theorem dMo_found_78 : decode kMo_found 78 = .ok (.aload_n 0, 1) := by decide +kernel
theorem dMo_found_79 : decode kMo_found 79 = .ok (.getfield 175, 3) := by decide +kernel
theorem dMo_found_82 : decode kMo_found 82 = .ok (.goto 7, 3) := by decide +kernel
theorem dMo_found_85 : decode kMo_found 85 = .ok (.aload_n 0, 1) := by decide +kernel
theorem dMo_found_86 : decode kMo_found 86 = .ok (.getfield 178, 3) := by decide +kernel
theorem dMo_found_89 : decode kMo_found 89 = .ok (.ireturn, 1) := by decide +kernel
theorem dMo_where_0 : decode kMo_where 0 = .ok (.aload_n 0, 1) := by decide +kernel
theorem dMo_where_1 : decode kMo_where 1 = .ok (.iconst 0, 1) := by decide +kernel
theorem dMo_where_2 : decode kMo_where 2 = .ok (.putfield 1, 3) := by decide +kernel
theorem dMo_where_5 : decode kMo_where 5 = .ok (.aload_n 0, 1) := by decide +kernel
theorem dMo_where_6 : decode kMo_where 6 = .ok (.getfield 140, 3) := by decide +kernel
theorem dMo_where_9 : decode kMo_where 9 = .ok (.ifCond .eq 22, 3) := by decide +kernel
theorem dMo_where_12 : decode kMo_where 12 = .ok (.iload_n 1, 1) := by decide +kernel
theorem dMo_where_13 : decode kMo_where 13 = .ok (.iconst 0, 1) := by decide +kernel
theorem dMo_where_14 : decode kMo_where 14 = .ok (.aload_n 0, 1) := by decide +kernel
theorem dMo_where_15 : decode kMo_where 15 = .ok (.getfield 144, 3) := by decide +kernel
theorem dMo_where_18 : decode kMo_where 18 = .ok (.aload_n 0, 1) := by decide +kernel
theorem dMo_where_19 : decode kMo_where 19 = .ok (.getfield 147, 3) := by decide +kernel
theorem dMo_where_22 : decode kMo_where 22 = .ok (.iadd, 1) := by decide +kernel
theorem dMo_where_23 : decode kMo_where 23 = .ok (.iconst 1, 1) := by decide +kernel
theorem dMo_where_24 : decode kMo_where 24 = .ok (.isub, 1) := by decide +kernel
theorem dMo_where_25 : decode kMo_where 25 = .ok (.invokestatic 68, 3) := by decide +kernel
theorem dMo_where_28 : decode kMo_where 28 = .ok (.ifCond .ne 7, 3) := by decide +kernel
theorem dMo_where_31 : decode kMo_where 31 = .ok (.iconst (-1), 1) := by decide +kernel
theorem dMo_where_32 : decode kMo_where 32 = .ok (.goto 9, 3) := by decide +kernel
theorem dMo_where_35 : decode kMo_where 35 = .ok (.aload_n 0, 1) := by decide +kernel
theorem dMo_where_36 : decode kMo_where 36 = .ok (.getfield 35, 3) := by decide +kernel
theorem dMo_where_39 : decode kMo_where 39 = .ok (.iload_n 1, 1) := by decide +kernel
theorem dMo_where_40 : decode kMo_where 40 = .ok (.iaload, 1) := by decide +kernel
theorem dMo_where_41 : decode kMo_where 41 = .ok (.ireturn, 1) := by decide +kernel
theorem dMo_got_0 : decode kMo_got 0 = .ok (.aload_n 0, 1) := by decide +kernel
theorem dMo_got_1 : decode kMo_got 1 = .ok (.iconst 0, 1) := by decide +kernel
theorem dMo_got_2 : decode kMo_got 2 = .ok (.putfield 1, 3) := by decide +kernel
theorem dMo_got_5 : decode kMo_got 5 = .ok (.aload_n 0, 1) := by decide +kernel
theorem dMo_got_6 : decode kMo_got 6 = .ok (.getfield 140, 3) := by decide +kernel
theorem dMo_got_9 : decode kMo_got 9 = .ok (.ifCond .eq 25, 3) := by decide +kernel
theorem dMo_got_12 : decode kMo_got 12 = .ok (.iload_n 1, 1) := by decide +kernel
theorem dMo_got_13 : decode kMo_got 13 = .ok (.iconst 0, 1) := by decide +kernel
theorem dMo_got_14 : decode kMo_got 14 = .ok (.aload_n 0, 1) := by decide +kernel
theorem dMo_got_15 : decode kMo_got 15 = .ok (.getfield 144, 3) := by decide +kernel
theorem dMo_got_18 : decode kMo_got 18 = .ok (.aload_n 0, 1) := by decide +kernel
theorem dMo_got_19 : decode kMo_got 19 = .ok (.getfield 150, 3) := by decide +kernel
theorem dMo_got_22 : decode kMo_got 22 = .ok (.bipush 12, 2) := by decide +kernel
theorem dMo_got_24 : decode kMo_got 24 = .ok (.isub, 1) := by decide +kernel
theorem dMo_got_25 : decode kMo_got 25 = .ok (.imul, 1) := by decide +kernel
theorem dMo_got_26 : decode kMo_got 26 = .ok (.iconst 1, 1) := by decide +kernel
theorem dMo_got_27 : decode kMo_got 27 = .ok (.isub, 1) := by decide +kernel
theorem dMo_got_28 : decode kMo_got 28 = .ok (.invokestatic 68, 3) := by decide +kernel
theorem dMo_got_31 : decode kMo_got 31 = .ok (.ifCond .ne 5, 3) := by decide +kernel
theorem dMo_got_34 : decode kMo_got 34 = .ok (.iconst (-1), 1) := by decide +kernel
theorem dMo_got_35 : decode kMo_got 35 = .ok (.ireturn, 1) := by decide +kernel
theorem dMo_got_36 : decode kMo_got 36 = .ok (.aload_n 0, 1) := by decide +kernel
theorem dMo_got_37 : decode kMo_got 37 = .ok (.iload_n 1, 1) := by decide +kernel
theorem dMo_got_38 : decode kMo_got 38 = .ok (.invokevirtual 172, 3) := by decide +kernel
theorem dMo_got_41 : decode kMo_got 41 = .ok (.ifCond .eq 12, 3) := by decide +kernel
theorem dMo_got_44 : decode kMo_got 44 = .ok (.aload_n 0, 1) := by decide +kernel
theorem dMo_got_45 : decode kMo_got 45 = .ok (.getfield 44, 3) := by decide +kernel
theorem dMo_got_48 : decode kMo_got 48 = .ok (.iload_n 1, 1) := by decide +kernel
theorem dMo_got_49 : decode kMo_got 49 = .ok (.iaload, 1) := by decide +kernel
theorem dMo_got_50 : decode kMo_got 50 = .ok (.goto 5, 3) := by decide +kernel
theorem dMo_got_53 : decode kMo_got 53 = .ok (.bipush (-2), 2) := by decide +kernel
theorem dMo_got_55 : decode kMo_got 55 = .ok (.ireturn, 1) := by decide +kernel
theorem dMo_opened_0 : decode kMo_opened 0 = .ok (.aload_n 0, 1) := by decide +kernel
theorem dMo_opened_1 : decode kMo_opened 1 = .ok (.iconst 0, 1) := by decide +kernel
theorem dMo_opened_2 : decode kMo_opened 2 = .ok (.putfield 1, 3) := by decide +kernel
theorem dMo_opened_5 : decode kMo_opened 5 = .ok (.aload_n 0, 1) := by decide +kernel
theorem dMo_opened_6 : decode kMo_opened 6 = .ok (.getfield 140, 3) := by decide +kernel
theorem dMo_opened_9 : decode kMo_opened 9 = .ok (.ifCond .eq 26, 3) := by decide +kernel
theorem dMo_opened_12 : decode kMo_opened 12 = .ok (.iload_n 1, 1) := by decide +kernel
theorem dMo_opened_13 : decode kMo_opened 13 = .ok (.iconst 0, 1) := by decide +kernel
theorem dMo_opened_14 : decode kMo_opened 14 = .ok (.aload_n 0, 1) := by decide +kernel
theorem dMo_opened_15 : decode kMo_opened 15 = .ok (.getfield 175, 3) := by decide +kernel
theorem dMo_opened_18 : decode kMo_opened 18 = .ok (.iconst 1, 1) := by decide +kernel
theorem dMo_opened_19 : decode kMo_opened 19 = .ok (.isub, 1) := by decide +kernel
theorem dMo_opened_20 : decode kMo_opened 20 = .ok (.invokestatic 68, 3) := by decide +kernel
theorem dMo_opened_23 : decode kMo_opened 23 = .ok (.ifCond .eq 12, 3) := by decide +kernel
theorem dMo_opened_26 : decode kMo_opened 26 = .ok (.iload_n 2, 1) := by decide +kernel
theorem dMo_opened_27 : decode kMo_opened 27 = .ok (.iconst 0, 1) := by decide +kernel
theorem dMo_opened_28 : decode kMo_opened 28 = .ok (.iconst 2, 1) := by decide +kernel
theorem dMo_opened_29 : decode kMo_opened 29 = .ok (.invokestatic 68, 3) := by decide +kernel
theorem dMo_opened_32 : decode kMo_opened 32 = .ok (.ifCond .ne 5, 3) := by decide +kernel
theorem dMo_opened_35 : decode kMo_opened 35 = .ok (.iconst (-1), 1) := by decide +kernel
theorem dMo_opened_36 : decode kMo_opened 36 = .ok (.ireturn, 1) := by decide +kernel
theorem dMo_opened_37 : decode kMo_opened 37 = .ok (.iload_n 2, 1) := by decide +kernel
theorem dMo_opened_38 : decode kMo_opened 38 = .ok (.ifCond .ne 12, 3) := by decide +kernel
theorem dMo_opened_41 : decode kMo_opened 41 = .ok (.aload_n 0, 1) := by decide +kernel
theorem dMo_opened_42 : decode kMo_opened 42 = .ok (.getfield 47, 3) := by decide +kernel
theorem dMo_opened_45 : decode kMo_opened 45 = .ok (.iload_n 1, 1) := by decide +kernel
theorem dMo_opened_46 : decode kMo_opened 46 = .ok (.iaload, 1) := by decide +kernel
theorem dMo_opened_47 : decode kMo_opened 47 = .ok (.goto 23, 3) := by decide +kernel
theorem dMo_opened_50 : decode kMo_opened 50 = .ok (.iload_n 2, 1) := by decide +kernel
theorem dMo_opened_51 : decode kMo_opened 51 = .ok (.iconst 1, 1) := by decide +kernel
theorem dMo_opened_52 : decode kMo_opened 52 = .ok (.if_icmp .ne 12, 3) := by decide +kernel
theorem dMo_opened_55 : decode kMo_opened 55 = .ok (.aload_n 0, 1) := by decide +kernel
theorem dMo_opened_56 : decode kMo_opened 56 = .ok (.getfield 50, 3) := by decide +kernel
theorem dMo_opened_59 : decode kMo_opened 59 = .ok (.iload_n 1, 1) := by decide +kernel
theorem dMo_opened_60 : decode kMo_opened 60 = .ok (.iaload, 1) := by decide +kernel
theorem dMo_opened_61 : decode kMo_opened 61 = .ok (.goto 9, 3) := by decide +kernel
theorem dMo_opened_64 : decode kMo_opened 64 = .ok (.aload_n 0, 1) := by decide +kernel
theorem dMo_opened_65 : decode kMo_opened 65 = .ok (.getfield 53, 3) := by decide +kernel
theorem dMo_opened_68 : decode kMo_opened 68 = .ok (.iload_n 1, 1) := by decide +kernel
theorem dMo_opened_69 : decode kMo_opened 69 = .ok (.iaload, 1) := by decide +kernel
theorem dMo_opened_70 : decode kMo_opened 70 = .ok (.ireturn, 1) := by decide +kernel
theorem dMo_count_0 : decode kMo_count 0 = .ok (.aload_n 0, 1) := by decide +kernel
theorem dMo_count_1 : decode kMo_count 1 = .ok (.iconst 0, 1) := by decide +kernel
theorem dMo_count_2 : decode kMo_count 2 = .ok (.putfield 1, 3) := by decide +kernel
theorem dMo_count_5 : decode kMo_count 5 = .ok (.iconst 0, 1) := by decide +kernel
theorem dMo_count_6 : decode kMo_count 6 = .ok (.istore_n 2, 1) := by decide +kernel
theorem dMo_count_7 : decode kMo_count 7 = .ok (.iload_n 1, 1) := by decide +kernel
theorem dMo_count_8 : decode kMo_count 8 = .ok (.tableswitch 125 0 8 #[52, 57, 62, 67, 75, 75, 110, 115, 120], 52) := by decide +kernel
theorem dMo_count_60 : decode kMo_count 60 = .ok (.aload_n 0, 1) := by decide +kernel
theorem dMo_count_61 : decode kMo_count 61 = .ok (.getfield 77, 3) := by decide +kernel
theorem dMo_count_64 : decode kMo_count 64 = .ok (.ireturn, 1) := by decide +kernel
theorem dMo_count_65 : decode kMo_count 65 = .ok (.aload_n 0, 1) := by decide +kernel
theorem dMo_count_66 : decode kMo_count 66 = .ok (.invokevirtual 90, 3) := by decide +kernel
theorem dMo_count_69 : decode kMo_count 69 = .ok (.ireturn, 1) := by decide +kernel
theorem dMo_count_70 : decode kMo_count 70 = .ok (.aload_n 0, 1) := by decide +kernel
theorem dMo_count_71 : decode kMo_count 71 = .ok (.getfield 65, 3) := by decide +kernel
theorem dMo_count_74 : decode kMo_count 74 = .ok (.ireturn, 1) := by decide +kernel
theorem dMo_count_75 : decode kMo_count 75 = .ok (.bipush 60, 2) := by decide +kernel
theorem dMo_count_77 : decode kMo_count 77 = .ok (.aload_n 0, 1) := by decide +kernel
theorem dMo_count_78 : decode kMo_count 78 = .ok (.invokevirtual 124, 3) := by decide +kernel
theorem dMo_count_81 : decode kMo_count 81 = .ok (.isub, 1) := by decide +kernel
theorem dMo_count_82 : decode kMo_count 82 = .ok (.ireturn, 1) := by decide +kernel
theorem dMo_count_83 : decode kMo_count 83 = .ok (.iconst 0, 1) := by decide +kernel
theorem dMo_count_84 : decode kMo_count 84 = .ok (.istore_n 3, 1) := by decide +kernel
theorem dMo_count_85 : decode kMo_count 85 = .ok (.iload_n 3, 1) := by decide +kernel
theorem dMo_count_86 : decode kMo_count 86 = .ok (.bipush 60, 2) := by decide +kernel
theorem dMo_count_88 : decode kMo_count 88 = .ok (.if_icmp .ge 28, 3) := by decide +kernel
theorem dMo_count_91 : decode kMo_count 91 = .ok (.aload_n 0, 1) := by decide +kernel
theorem dMo_count_92 : decode kMo_count 92 = .ok (.iload_n 3, 1) := by decide +kernel
theorem dMo_count_93 : decode kMo_count 93 = .ok (.invokevirtual 137, 3) := by decide +kernel
theorem dMo_count_96 : decode kMo_count 96 = .ok (.iload_n 1, 1) := by decide +kernel
theorem dMo_count_97 : decode kMo_count 97 = .ok (.iconst 3, 1) := by decide +kernel
theorem dMo_count_98 : decode kMo_count 98 = .ok (.isub, 1) := by decide +kernel
theorem dMo_count_99 : decode kMo_count 99 = .ok (.if_icmp .ne 9, 3) := by decide +kernel
theorem dMo_count_102 : decode kMo_count 102 = .ok (.iload_n 2, 1) := by decide +kernel
theorem dMo_count_103 : decode kMo_count 103 = .ok (.iconst 1, 1) := by decide +kernel
theorem dMo_count_104 : decode kMo_count 104 = .ok (.iadd, 1) := by decide +kernel
theorem dMo_count_105 : decode kMo_count 105 = .ok (.goto 4, 3) := by decide +kernel
theorem dMo_count_108 : decode kMo_count 108 = .ok (.iload_n 2, 1) := by decide +kernel
theorem dMo_count_109 : decode kMo_count 109 = .ok (.istore_n 2, 1) := by decide +kernel
theorem dMo_count_110 : decode kMo_count 110 = .ok (.iinc 3 1, 3) := by decide +kernel
theorem dMo_count_113 : decode kMo_count 113 = .ok (.goto (-28), 3) := by decide +kernel
theorem dMo_count_116 : decode kMo_count 116 = .ok (.iload_n 2, 1) := by decide +kernel
theorem dMo_count_117 : decode kMo_count 117 = .ok (.ireturn, 1) := by decide +kernel
theorem dMo_count_118 : decode kMo_count 118 = .ok (.aload_n 0, 1) := by decide +kernel
theorem dMo_count_119 : decode kMo_count 119 = .ok (.getfield 23, 3) := by decide +kernel
theorem dMo_count_122 : decode kMo_count 122 = .ok (.ireturn, 1) := by decide +kernel
theorem dMo_count_123 : decode kMo_count 123 = .ok (.aload_n 0, 1) := by decide +kernel
theorem dMo_count_124 : decode kMo_count 124 = .ok (.getfield 84, 3) := by decide +kernel
theorem dMo_count_127 : decode kMo_count 127 = .ok (.ireturn, 1) := by decide +kernel
theorem dMo_count_128 : decode kMo_count 128 = .ok (.aload_n 0, 1) := by decide +kernel
theorem dMo_count_129 : decode kMo_count 129 = .ok (.getfield 87, 3) := by decide +kernel
theorem dMo_count_132 : decode kMo_count 132 = .ok (.ireturn, 1) := by decide +kernel
theorem dMo_count_133 : decode kMo_count 133 = .ok (.iconst (-1), 1) := by decide +kernel
theorem dMo_count_134 : decode kMo_count 134 = .ok (.ireturn, 1) := by decide +kernel
