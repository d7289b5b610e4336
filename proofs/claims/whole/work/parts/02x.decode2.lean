theorem dEq_init_0 : decode kEq_init 0 = .ok (.aload_n 0, 1) := by decide +kernel
theorem dEq_init_1 : decode kEq_init 1 = .ok (.invokespecial 3, 3) := by decide +kernel
theorem dEq_init_4 : decode kEq_init 4 = .ok (.aload_n 0, 1) := by decide +kernel
theorem dEq_init_5 : decode kEq_init 5 = .ok (.iconst 3, 1) := by decide +kernel
theorem dEq_init_6 : decode kEq_init 6 = .ok (.bipush 83, 2) := by decide +kernel
theorem dEq_init_8 : decode kEq_init 8 = .ok (.multianewarray 9 2, 4) := by decide +kernel
theorem dEq_init_12 : decode kEq_init 12 = .ok (.putfield 11, 3) := by decide +kernel
theorem dEq_init_15 : decode kEq_init 15 = .ok (.aload_n 0, 1) := by decide +kernel
theorem dEq_init_16 : decode kEq_init 16 = .ok (.iconst 3, 1) := by decide +kernel
theorem dEq_init_17 : decode kEq_init 17 = .ok (.newarray .int, 2) := by decide +kernel
theorem dEq_init_19 : decode kEq_init 19 = .ok (.putfield 16, 3) := by decide +kernel
theorem dEq_init_22 : decode kEq_init 22 = .ok (.return_, 1) := by decide +kernel
theorem dEq_forgetAll_0 : decode kEq_forgetAll 0 = .ok (.aload_n 0, 1) := by decide +kernel
theorem dEq_forgetAll_1 : decode kEq_forgetAll 1 = .ok (.iconst 0, 1) := by decide +kernel
theorem dEq_forgetAll_2 : decode kEq_forgetAll 2 = .ok (.putfield 20, 3) := by decide +kernel
theorem dEq_forgetAll_5 : decode kEq_forgetAll 5 = .ok (.aload_n 0, 1) := by decide +kernel
theorem dEq_forgetAll_6 : decode kEq_forgetAll 6 = .ok (.iconst 0, 1) := by decide +kernel
theorem dEq_forgetAll_7 : decode kEq_forgetAll 7 = .ok (.putfield 24, 3) := by decide +kernel
theorem dEq_forgetAll_10 : decode kEq_forgetAll 10 = .ok (.return_, 1) := by decide +kernel
theorem dEq_addUnknown_0 : decode kEq_addUnknown 0 = .ok (.aload_n 0, 1) := by decide +kernel
theorem dEq_addUnknown_1 : decode kEq_addUnknown 1 = .ok (.getfield 20, 3) := by decide +kernel
theorem dEq_addUnknown_4 : decode kEq_addUnknown 4 = .ok (.iconst 3, 1) := by decide +kernel
theorem dEq_addUnknown_5 : decode kEq_addUnknown 5 = .ok (.if_icmp .ge 23, 3) := by decide +kernel
theorem dEq_addUnknown_8 : decode kEq_addUnknown 8 = .ok (.aload_n 0, 1) := by decide +kernel
theorem dEq_addUnknown_9 : decode kEq_addUnknown 9 = .ok (.getfield 16, 3) := by decide +kernel
theorem dEq_addUnknown_12 : decode kEq_addUnknown 12 = .ok (.aload_n 0, 1) := by decide +kernel
theorem dEq_addUnknown_13 : decode kEq_addUnknown 13 = .ok (.getfield 20, 3) := by decide +kernel
theorem dEq_addUnknown_16 : decode kEq_addUnknown 16 = .ok (.iload_n 1, 1) := by decide +kernel
theorem dEq_addUnknown_17 : decode kEq_addUnknown 17 = .ok (.iastore, 1) := by decide +kernel
theorem dEq_addUnknown_18 : decode kEq_addUnknown 18 = .ok (.aload_n 0, 1) := by decide +kernel
theorem dEq_addUnknown_19 : decode kEq_addUnknown 19 = .ok (.dup, 1) := by decide +kernel
theorem dEq_addUnknown_20 : decode kEq_addUnknown 20 = .ok (.getfield 20, 3) := by decide +kernel
theorem dEq_addUnknown_23 : decode kEq_addUnknown 23 = .ok (.iconst 1, 1) := by decide +kernel
theorem dEq_addUnknown_24 : decode kEq_addUnknown 24 = .ok (.iadd, 1) := by decide +kernel
theorem dEq_addUnknown_25 : decode kEq_addUnknown 25 = .ok (.putfield 20, 3) := by decide +kernel
theorem dEq_addUnknown_28 : decode kEq_addUnknown 28 = .ok (.return_, 1) := by decide +kernel
theorem dEq_addRepair_0 : decode kEq_addRepair 0 = .ok (.aload_n 0, 1) := by decide +kernel
theorem dEq_addRepair_1 : decode kEq_addRepair 1 = .ok (.getfield 24, 3) := by decide +kernel
theorem dEq_addRepair_4 : decode kEq_addRepair 4 = .ok (.iconst 3, 1) := by decide +kernel
theorem dEq_addRepair_5 : decode kEq_addRepair 5 = .ok (.if_icmp .lt 4, 3) := by decide +kernel
theorem dEq_addRepair_8 : decode kEq_addRepair 8 = .ok (.return_, 1) := by decide +kernel
theorem dEq_addRepair_9 : decode kEq_addRepair 9 = .ok (.aload_n 0, 1) := by decide +kernel
theorem dEq_addRepair_10 : decode kEq_addRepair 10 = .ok (.getfield 11, 3) := by decide +kernel
theorem dEq_addRepair_13 : decode kEq_addRepair 13 = .ok (.aload_n 0, 1) := by decide +kernel
theorem dEq_addRepair_14 : decode kEq_addRepair 14 = .ok (.getfield 24, 3) := by decide +kernel
theorem dEq_addRepair_17 : decode kEq_addRepair 17 = .ok (.aaload, 1) := by decide +kernel
theorem dEq_addRepair_18 : decode kEq_addRepair 18 = .ok (.astore 4, 2) := by decide +kernel
theorem dEq_addRepair_20 : decode kEq_addRepair 20 = .ok (.iconst 0, 1) := by decide +kernel
theorem dEq_addRepair_21 : decode kEq_addRepair 21 = .ok (.istore 5, 2) := by decide +kernel
theorem dEq_addRepair_23 : decode kEq_addRepair 23 = .ok (.iload 5, 2) := by decide +kernel
theorem dEq_addRepair_25 : decode kEq_addRepair 25 = .ok (.aload_n 0, 1) := by decide +kernel
theorem dEq_addRepair_26 : decode kEq_addRepair 26 = .ok (.getfield 20, 3) := by decide +kernel
theorem dEq_addRepair_29 : decode kEq_addRepair 29 = .ok (.if_icmp .ge 33, 3) := by decide +kernel
theorem dEq_addRepair_32 : decode kEq_addRepair 32 = .ok (.iload 5, 2) := by decide +kernel
theorem dEq_addRepair_34 : decode kEq_addRepair 34 = .ok (.iconst 3, 1) := by decide +kernel
theorem dEq_addRepair_35 : decode kEq_addRepair 35 = .ok (.if_icmp .ge 27, 3) := by decide +kernel
theorem dEq_addRepair_38 : decode kEq_addRepair 38 = .ok (.aload 4, 2) := by decide +kernel
theorem dEq_addRepair_40 : decode kEq_addRepair 40 = .ok (.iload 5, 2) := by decide +kernel
theorem dEq_addRepair_42 : decode kEq_addRepair 42 = .ok (.iconst 1, 1) := by decide +kernel
theorem dEq_addRepair_43 : decode kEq_addRepair 43 = .ok (.iload_n 1, 1) := by decide +kernel
theorem dEq_addRepair_44 : decode kEq_addRepair 44 = .ok (.aload_n 0, 1) := by decide +kernel
theorem dEq_addRepair_45 : decode kEq_addRepair 45 = .ok (.getfield 16, 3) := by decide +kernel
theorem dEq_addRepair_48 : decode kEq_addRepair 48 = .ok (.iload 5, 2) := by decide +kernel
theorem dEq_addRepair_50 : decode kEq_addRepair 50 = .ok (.iaload, 1) := by decide +kernel
theorem dEq_addRepair_51 : decode kEq_addRepair 51 = .ok (.imul, 1) := by decide +kernel
theorem dEq_addRepair_52 : decode kEq_addRepair 52 = .ok (.invokestatic 27, 3) := by decide +kernel
theorem dEq_addRepair_55 : decode kEq_addRepair 55 = .ok (.iastore, 1) := by decide +kernel
theorem dEq_addRepair_56 : decode kEq_addRepair 56 = .ok (.iinc 5 1, 3) := by decide +kernel
theorem dEq_addRepair_59 : decode kEq_addRepair 59 = .ok (.goto (-36), 3) := by decide +kernel
theorem dEq_addRepair_62 : decode kEq_addRepair 62 = .ok (.bipush 6, 2) := by decide +kernel
theorem dEq_addRepair_64 : decode kEq_addRepair 64 = .ok (.istore 5, 2) := by decide +kernel
theorem dEq_addRepair_66 : decode kEq_addRepair 66 = .ok (.iload 5, 2) := by decide +kernel
theorem dEq_addRepair_68 : decode kEq_addRepair 68 = .ok (.aload_n 2, 1) := by decide +kernel
theorem dEq_addRepair_69 : decode kEq_addRepair 69 = .ok (.getfield 33, 3) := by decide +kernel
theorem dEq_addRepair_72 : decode kEq_addRepair 72 = .ok (.if_icmp .ge 37, 3) := by decide +kernel
theorem dEq_addRepair_75 : decode kEq_addRepair 75 = .ok (.iload 5, 2) := by decide +kernel
theorem dEq_addRepair_77 : decode kEq_addRepair 77 = .ok (.bipush 80, 2) := by decide +kernel
theorem dEq_addRepair_79 : decode kEq_addRepair 79 = .ok (.if_icmp .ge 30, 3) := by decide +kernel
theorem dEq_addRepair_82 : decode kEq_addRepair 82 = .ok (.aload 4, 2) := by decide +kernel
theorem dEq_addRepair_84 : decode kEq_addRepair 84 = .ok (.iconst 3, 1) := by decide +kernel
theorem dEq_addRepair_85 : decode kEq_addRepair 85 = .ok (.iload 5, 2) := by decide +kernel
theorem dEq_addRepair_87 : decode kEq_addRepair 87 = .ok (.iadd, 1) := by decide +kernel
theorem dEq_addRepair_88 : decode kEq_addRepair 88 = .ok (.aload_n 2, 1) := by decide +kernel
theorem dEq_addRepair_89 : decode kEq_addRepair 89 = .ok (.iload 5, 2) := by decide +kernel
theorem dEq_addRepair_91 : decode kEq_addRepair 91 = .ok (.invokevirtual 38, 3) := by decide +kernel
theorem dEq_addRepair_94 : decode kEq_addRepair 94 = .ok (.aload_n 3, 1) := by decide +kernel
theorem dEq_addRepair_95 : decode kEq_addRepair 95 = .ok (.iload_n 1, 1) := by decide +kernel
theorem dEq_addRepair_96 : decode kEq_addRepair 96 = .ok (.iload 5, 2) := by decide +kernel
theorem dEq_addRepair_98 : decode kEq_addRepair 98 = .ok (.invokevirtual 42, 3) := by decide +kernel
theorem dEq_addRepair_101 : decode kEq_addRepair 101 = .ok (.ixor, 1) := by decide +kernel
theorem dEq_addRepair_102 : decode kEq_addRepair 102 = .ok (.iastore, 1) := by decide +kernel
theorem dEq_addRepair_103 : decode kEq_addRepair 103 = .ok (.iinc 5 1, 3) := by decide +kernel
theorem dEq_addRepair_106 : decode kEq_addRepair 106 = .ok (.goto (-40), 3) := by decide +kernel
theorem dEq_addRepair_109 : decode kEq_addRepair 109 = .ok (.aload_n 0, 1) := by decide +kernel
theorem dEq_addRepair_110 : decode kEq_addRepair 110 = .ok (.dup, 1) := by decide +kernel
theorem dEq_addRepair_111 : decode kEq_addRepair 111 = .ok (.getfield 24, 3) := by decide +kernel
theorem dEq_addRepair_114 : decode kEq_addRepair 114 = .ok (.iconst 1, 1) := by decide +kernel
theorem dEq_addRepair_115 : decode kEq_addRepair 115 = .ok (.iadd, 1) := by decide +kernel
theorem dEq_addRepair_116 : decode kEq_addRepair 116 = .ok (.putfield 24, 3) := by decide +kernel
theorem dEq_addRepair_119 : decode kEq_addRepair 119 = .ok (.return_, 1) := by decide +kernel
theorem dEq_solve_0 : decode kEq_solve 0 = .ok (.iconst 0, 1) := by decide +kernel
theorem dEq_solve_1 : decode kEq_solve 1 = .ok (.istore_n 1, 1) := by decide +kernel
theorem dEq_solve_2 : decode kEq_solve 2 = .ok (.iload_n 1, 1) := by decide +kernel
theorem dEq_solve_3 : decode kEq_solve 3 = .ok (.aload_n 0, 1) := by decide +kernel
theorem dEq_solve_4 : decode kEq_solve 4 = .ok (.getfield 20, 3) := by decide +kernel
theorem dEq_solve_7 : decode kEq_solve 7 = .ok (.if_icmp .ge 70, 3) := by decide +kernel
theorem dEq_solve_10 : decode kEq_solve 10 = .ok (.iload_n 1, 1) := by decide +kernel
theorem dEq_solve_11 : decode kEq_solve 11 = .ok (.iconst 3, 1) := by decide +kernel
theorem dEq_solve_12 : decode kEq_solve 12 = .ok (.if_icmp .ge 65, 3) := by decide +kernel
theorem dEq_solve_15 : decode kEq_solve 15 = .ok (.aload_n 0, 1) := by decide +kernel
theorem dEq_solve_16 : decode kEq_solve 16 = .ok (.iload_n 1, 1) := by decide +kernel
theorem dEq_solve_17 : decode kEq_solve 17 = .ok (.aload_n 0, 1) := by decide +kernel
theorem dEq_solve_18 : decode kEq_solve 18 = .ok (.getfield 11, 3) := by decide +kernel
theorem dEq_solve_21 : decode kEq_solve 21 = .ok (.iload_n 1, 1) := by decide +kernel
theorem dEq_solve_22 : decode kEq_solve 22 = .ok (.aaload, 1) := by decide +kernel
theorem dEq_solve_23 : decode kEq_solve 23 = .ok (.iload_n 1, 1) := by decide +kernel
theorem dEq_solve_24 : decode kEq_solve 24 = .ok (.iaload, 1) := by decide +kernel
theorem dEq_solve_25 : decode kEq_solve 25 = .ok (.invokestatic 47, 3) := by decide +kernel
theorem dEq_solve_28 : decode kEq_solve 28 = .ok (.invokevirtual 50, 3) := by decide +kernel
theorem dEq_solve_31 : decode kEq_solve 31 = .ok (.iconst 0, 1) := by decide +kernel
theorem dEq_solve_32 : decode kEq_solve 32 = .ok (.istore_n 2, 1) := by decide +kernel
theorem dEq_solve_33 : decode kEq_solve 33 = .ok (.iload_n 2, 1) := by decide +kernel
theorem dEq_solve_34 : decode kEq_solve 34 = .ok (.aload_n 0, 1) := by decide +kernel
theorem dEq_solve_35 : decode kEq_solve 35 = .ok (.getfield 20, 3) := by decide +kernel
theorem dEq_solve_38 : decode kEq_solve 38 = .ok (.if_icmp .ge 33, 3) := by decide +kernel
theorem dEq_solve_41 : decode kEq_solve 41 = .ok (.iload_n 2, 1) := by decide +kernel
theorem dEq_solve_42 : decode kEq_solve 42 = .ok (.iconst 3, 1) := by decide +kernel
theorem dEq_solve_43 : decode kEq_solve 43 = .ok (.if_icmp .ge 28, 3) := by decide +kernel
theorem dEq_solve_46 : decode kEq_solve 46 = .ok (.iload_n 2, 1) := by decide +kernel
theorem dEq_solve_47 : decode kEq_solve 47 = .ok (.iload_n 1, 1) := by decide +kernel
theorem dEq_solve_48 : decode kEq_solve 48 = .ok (.if_icmp .eq 17, 3) := by decide +kernel
theorem dEq_solve_51 : decode kEq_solve 51 = .ok (.aload_n 0, 1) := by decide +kernel
theorem dEq_solve_52 : decode kEq_solve 52 = .ok (.iload_n 2, 1) := by decide +kernel
theorem dEq_solve_53 : decode kEq_solve 53 = .ok (.iload_n 1, 1) := by decide +kernel
theorem dEq_solve_54 : decode kEq_solve 54 = .ok (.aload_n 0, 1) := by decide +kernel
theorem dEq_solve_55 : decode kEq_solve 55 = .ok (.getfield 11, 3) := by decide +kernel
theorem dEq_solve_58 : decode kEq_solve 58 = .ok (.iload_n 2, 1) := by decide +kernel
theorem dEq_solve_59 : decode kEq_solve 59 = .ok (.aaload, 1) := by decide +kernel
theorem dEq_solve_60 : decode kEq_solve 60 = .ok (.iload_n 1, 1) := by decide +kernel
theorem dEq_solve_61 : decode kEq_solve 61 = .ok (.iaload, 1) := by decide +kernel
theorem dEq_solve_62 : decode kEq_solve 62 = .ok (.invokevirtual 54, 3) := by decide +kernel
theorem dEq_solve_65 : decode kEq_solve 65 = .ok (.iinc 2 1, 3) := by decide +kernel
theorem dEq_solve_68 : decode kEq_solve 68 = .ok (.goto (-35), 3) := by decide +kernel
theorem dEq_solve_71 : decode kEq_solve 71 = .ok (.iinc 1 1, 3) := by decide +kernel
theorem dEq_solve_74 : decode kEq_solve 74 = .ok (.goto (-72), 3) := by decide +kernel
theorem dEq_solve_77 : decode kEq_solve 77 = .ok (.return_, 1) := by decide +kernel
theorem dEq_scale_0 : decode kEq_scale 0 = .ok (.aload_n 0, 1) := by decide +kernel
theorem dEq_scale_1 : decode kEq_scale 1 = .ok (.getfield 11, 3) := by decide +kernel
theorem dEq_scale_4 : decode kEq_scale 4 = .ok (.iload_n 1, 1) := by decide +kernel
theorem dEq_scale_5 : decode kEq_scale 5 = .ok (.aaload, 1) := by decide +kernel
theorem dEq_scale_6 : decode kEq_scale 6 = .ok (.astore_n 3, 1) := by decide +kernel
theorem dEq_scale_7 : decode kEq_scale 7 = .ok (.iconst 0, 1) := by decide +kernel
theorem dEq_scale_8 : decode kEq_scale 8 = .ok (.istore 4, 2) := by decide +kernel
theorem dEq_scale_10 : decode kEq_scale 10 = .ok (.iload 4, 2) := by decide +kernel
theorem dEq_scale_12 : decode kEq_scale 12 = .ok (.aload_n 3, 1) := by decide +kernel
theorem dEq_scale_13 : decode kEq_scale 13 = .ok (.arraylength, 1) := by decide +kernel
theorem dEq_scale_14 : decode kEq_scale 14 = .ok (.if_icmp .ge 21, 3) := by decide +kernel
theorem dEq_scale_17 : decode kEq_scale 17 = .ok (.aload_n 3, 1) := by decide +kernel
theorem dEq_scale_18 : decode kEq_scale 18 = .ok (.iload 4, 2) := by decide +kernel
theorem dEq_scale_20 : decode kEq_scale 20 = .ok (.aload_n 3, 1) := by decide +kernel
theorem dEq_scale_21 : decode kEq_scale 21 = .ok (.iload 4, 2) := by decide +kernel
theorem dEq_scale_23 : decode kEq_scale 23 = .ok (.iaload, 1) := by decide +kernel
theorem dEq_scale_24 : decode kEq_scale 24 = .ok (.iload_n 2, 1) := by decide +kernel
theorem dEq_scale_25 : decode kEq_scale 25 = .ok (.invokestatic 58, 3) := by decide +kernel
theorem dEq_scale_28 : decode kEq_scale 28 = .ok (.iastore, 1) := by decide +kernel
theorem dEq_scale_29 : decode kEq_scale 29 = .ok (.iinc 4 1, 3) := by decide +kernel
theorem dEq_scale_32 : decode kEq_scale 32 = .ok (.goto (-22), 3) := by decide +kernel
theorem dEq_scale_35 : decode kEq_scale 35 = .ok (.return_, 1) := by decide +kernel
theorem dEq_addTo_0 : decode kEq_addTo 0 = .ok (.aload_n 0, 1) := by decide +kernel
theorem dEq_addTo_1 : decode kEq_addTo 1 = .ok (.getfield 11, 3) := by decide +kernel
theorem dEq_addTo_4 : decode kEq_addTo 4 = .ok (.iload_n 1, 1) := by decide +kernel
theorem dEq_addTo_5 : decode kEq_addTo 5 = .ok (.aaload, 1) := by decide +kernel
theorem dEq_addTo_6 : decode kEq_addTo 6 = .ok (.astore 4, 2) := by decide +kernel
theorem dEq_addTo_8 : decode kEq_addTo 8 = .ok (.iconst 0, 1) := by decide +kernel
theorem dEq_addTo_9 : decode kEq_addTo 9 = .ok (.istore 5, 2) := by decide +kernel
theorem dEq_addTo_11 : decode kEq_addTo 11 = .ok (.iload 5, 2) := by decide +kernel
theorem dEq_addTo_13 : decode kEq_addTo 13 = .ok (.aload 4, 2) := by decide +kernel
theorem dEq_addTo_15 : decode kEq_addTo 15 = .ok (.arraylength, 1) := by decide +kernel
theorem dEq_addTo_16 : decode kEq_addTo 16 = .ok (.if_icmp .ge 30, 3) := by decide +kernel
theorem dEq_addTo_19 : decode kEq_addTo 19 = .ok (.aload 4, 2) := by decide +kernel
theorem dEq_addTo_21 : decode kEq_addTo 21 = .ok (.iload 5, 2) := by decide +kernel
theorem dEq_addTo_23 : decode kEq_addTo 23 = .ok (.dup2, 1) := by decide +kernel
theorem dEq_addTo_24 : decode kEq_addTo 24 = .ok (.iaload, 1) := by decide +kernel
theorem dEq_addTo_25 : decode kEq_addTo 25 = .ok (.aload_n 0, 1) := by decide +kernel
theorem dEq_addTo_26 : decode kEq_addTo 26 = .ok (.getfield 11, 3) := by decide +kernel
theorem dEq_addTo_29 : decode kEq_addTo 29 = .ok (.iload_n 2, 1) := by decide +kernel
theorem dEq_addTo_30 : decode kEq_addTo 30 = .ok (.aaload, 1) := by decide +kernel
theorem dEq_addTo_31 : decode kEq_addTo 31 = .ok (.iload 5, 2) := by decide +kernel
theorem dEq_addTo_33 : decode kEq_addTo 33 = .ok (.iaload, 1) := by decide +kernel
theorem dEq_addTo_34 : decode kEq_addTo 34 = .ok (.iload_n 3, 1) := by decide +kernel
theorem dEq_addTo_35 : decode kEq_addTo 35 = .ok (.invokestatic 58, 3) := by decide +kernel
theorem dEq_addTo_38 : decode kEq_addTo 38 = .ok (.ixor, 1) := by decide +kernel
theorem dEq_addTo_39 : decode kEq_addTo 39 = .ok (.iastore, 1) := by decide +kernel
theorem dEq_addTo_40 : decode kEq_addTo 40 = .ok (.iinc 5 1, 3) := by decide +kernel
theorem dEq_addTo_43 : decode kEq_addTo 43 = .ok (.goto (-32), 3) := by decide +kernel
theorem dEq_addTo_46 : decode kEq_addTo 46 = .ok (.return_, 1) := by decide +kernel
theorem dEq_numberOf_0 : decode kEq_numberOf 0 = .ok (.iload_n 1, 1) := by decide +kernel
theorem dEq_numberOf_1 : decode kEq_numberOf 1 = .ok (.ifCond .lt 8, 3) := by decide +kernel
theorem dEq_numberOf_4 : decode kEq_numberOf 4 = .ok (.iload_n 1, 1) := by decide +kernel
theorem dEq_numberOf_5 : decode kEq_numberOf 5 = .ok (.iconst 3, 1) := by decide +kernel
theorem dEq_numberOf_6 : decode kEq_numberOf 6 = .ok (.if_icmp .lt 7, 3) := by decide +kernel
theorem dEq_numberOf_9 : decode kEq_numberOf 9 = .ok (.iconst 0, 1) := by decide +kernel
theorem dEq_numberOf_10 : decode kEq_numberOf 10 = .ok (.goto 9, 3) := by decide +kernel
theorem dEq_numberOf_13 : decode kEq_numberOf 13 = .ok (.aload_n 0, 1) := by decide +kernel
theorem dEq_numberOf_14 : decode kEq_numberOf 14 = .ok (.getfield 16, 3) := by decide +kernel
theorem dEq_numberOf_17 : decode kEq_numberOf 17 = .ok (.iload_n 1, 1) := by decide +kernel
theorem dEq_numberOf_18 : decode kEq_numberOf 18 = .ok (.iaload, 1) := by decide +kernel
theorem dEq_numberOf_19 : decode kEq_numberOf 19 = .ok (.ireturn, 1) := by decide +kernel
theorem dEq_byteOfUnknown_0 : decode kEq_byteOfUnknown 0 = .ok (.iload_n 1, 1) := by decide +kernel
theorem dEq_byteOfUnknown_1 : decode kEq_byteOfUnknown 1 = .ok (.ifCond .lt 18, 3) := by decide +kernel
theorem dEq_byteOfUnknown_4 : decode kEq_byteOfUnknown 4 = .ok (.iload_n 1, 1) := by decide +kernel
theorem dEq_byteOfUnknown_5 : decode kEq_byteOfUnknown 5 = .ok (.iconst 3, 1) := by decide +kernel
theorem dEq_byteOfUnknown_6 : decode kEq_byteOfUnknown 6 = .ok (.if_icmp .ge 13, 3) := by decide +kernel
theorem dEq_byteOfUnknown_9 : decode kEq_byteOfUnknown 9 = .ok (.iload_n 2, 1) := by decide +kernel
theorem dEq_byteOfUnknown_10 : decode kEq_byteOfUnknown 10 = .ok (.ifCond .lt 9, 3) := by decide +kernel
theorem dEq_byteOfUnknown_13 : decode kEq_byteOfUnknown 13 = .ok (.iload_n 2, 1) := by decide +kernel
theorem dEq_byteOfUnknown_14 : decode kEq_byteOfUnknown 14 = .ok (.bipush 80, 2) := by decide +kernel
theorem dEq_byteOfUnknown_16 : decode kEq_byteOfUnknown 16 = .ok (.if_icmp .lt 7, 3) := by decide +kernel
theorem dEq_byteOfUnknown_19 : decode kEq_byteOfUnknown 19 = .ok (.iconst 0, 1) := by decide +kernel
theorem dEq_byteOfUnknown_20 : decode kEq_byteOfUnknown 20 = .ok (.goto 13, 3) := by decide +kernel
theorem dEq_byteOfUnknown_23 : decode kEq_byteOfUnknown 23 = .ok (.aload_n 0, 1) := by decide +kernel
theorem dEq_byteOfUnknown_24 : decode kEq_byteOfUnknown 24 = .ok (.getfield 11, 3) := by decide +kernel
theorem dEq_byteOfUnknown_27 : decode kEq_byteOfUnknown 27 = .ok (.iload_n 1, 1) := by decide +kernel
theorem dEq_byteOfUnknown_28 : decode kEq_byteOfUnknown 28 = .ok (.aaload, 1) := by decide +kernel
theorem dEq_byteOfUnknown_29 : decode kEq_byteOfUnknown 29 = .ok (.iconst 3, 1) := by decide +kernel
theorem dEq_byteOfUnknown_30 : decode kEq_byteOfUnknown 30 = .ok (.iload_n 2, 1) := by decide +kernel
theorem dEq_byteOfUnknown_31 : decode kEq_byteOfUnknown 31 = .ok (.iadd, 1) := by decide +kernel
theorem dEq_byteOfUnknown_32 : decode kEq_byteOfUnknown 32 = .ok (.iaload, 1) := by decide +kernel
theorem dEq_byteOfUnknown_33 : decode kEq_byteOfUnknown 33 = .ok (.ireturn, 1) := by decide +kernel
theorem dRd_init_0 : decode kRd_init 0 = .ok (.aload_n 0, 1) := by decide +kernel
theorem dRd_init_1 : decode kRd_init 1 = .ok (.invokespecial 3, 3) := by decide +kernel
theorem dRd_init_4 : decode kRd_init 4 = .ok (.aload_n 0, 1) := by decide +kernel
theorem dRd_init_5 : decode kRd_init 5 = .ok (.new 9, 3) := by decide +kernel
theorem dRd_init_8 : decode kRd_init 8 = .ok (.dup, 1) := by decide +kernel
theorem dRd_init_9 : decode kRd_init 9 = .ok (.sipush 4080, 3) := by decide +kernel
theorem dRd_init_12 : decode kRd_init 12 = .ok (.invokespecial 11, 3) := by decide +kernel
theorem dRd_init_15 : decode kRd_init 15 = .ok (.putfield 14, 3) := by decide +kernel
theorem dRd_init_18 : decode kRd_init 18 = .ok (.aload_n 0, 1) := by decide +kernel
theorem dRd_init_19 : decode kRd_init 19 = .ok (.bipush 63, 2) := by decide +kernel
theorem dRd_init_21 : decode kRd_init 21 = .ok (.newarray .int, 2) := by decide +kernel
theorem dRd_init_23 : decode kRd_init 23 = .ok (.putfield 20, 3) := by decide +kernel
theorem dRd_init_26 : decode kRd_init 26 = .ok (.aload_n 0, 1) := by decide +kernel
theorem dRd_init_27 : decode kRd_init 27 = .ok (.new 24, 3) := by decide +kernel
theorem dRd_init_30 : decode kRd_init 30 = .ok (.dup, 1) := by decide +kernel
theorem dRd_init_31 : decode kRd_init 31 = .ok (.invokespecial 26, 3) := by decide +kernel
theorem dRd_init_34 : decode kRd_init 34 = .ok (.putfield 27, 3) := by decide +kernel
theorem dRd_init_37 : decode kRd_init 37 = .ok (.return_, 1) := by decide +kernel
theorem dRd_gather_0 : decode kRd_gather 0 = .ok (.aload_n 1, 1) := by decide +kernel
theorem dRd_gather_1 : decode kRd_gather 1 = .ok (.iload_n 2, 1) := by decide +kernel
theorem dRd_gather_2 : decode kRd_gather 2 = .ok (.invokevirtual 31, 3) := by decide +kernel
theorem dRd_gather_5 : decode kRd_gather 5 = .ok (.astore_n 3, 1) := by decide +kernel
theorem dRd_gather_6 : decode kRd_gather 6 = .ok (.aload_n 0, 1) := by decide +kernel
theorem dRd_gather_7 : decode kRd_gather 7 = .ok (.aload_n 3, 1) := by decide +kernel
theorem dRd_gather_8 : decode kRd_gather 8 = .ok (.ifnull 7, 3) := by decide +kernel
theorem dRd_gather_11 : decode kRd_gather 11 = .ok (.iconst 1, 1) := by decide +kernel
theorem dRd_gather_12 : decode kRd_gather 12 = .ok (.goto 4, 3) := by decide +kernel
theorem dRd_gather_15 : decode kRd_gather 15 = .ok (.iconst 0, 1) := by decide +kernel
theorem dRd_gather_16 : decode kRd_gather 16 = .ok (.putfield 37, 3) := by decide +kernel
theorem dRd_gather_19 : decode kRd_gather 19 = .ok (.aload_n 3, 1) := by decide +kernel
theorem dRd_gather_20 : decode kRd_gather 20 = .ok (.ifnonnull 6, 3) := by decide +kernel
theorem dRd_gather_23 : decode kRd_gather 23 = .ok (.bipush (-2), 2) := by decide +kernel
theorem dRd_gather_25 : decode kRd_gather 25 = .ok (.ireturn, 1) := by decide +kernel
theorem dRd_gather_26 : decode kRd_gather 26 = .ok (.aload_n 0, 1) := by decide +kernel
theorem dRd_gather_27 : decode kRd_gather 27 = .ok (.aload_n 3, 1) := by decide +kernel
theorem dRd_gather_28 : decode kRd_gather 28 = .ok (.invokevirtual 41, 3) := by decide +kernel
theorem dRd_gather_31 : decode kRd_gather 31 = .ok (.iconst 0, 1) := by decide +kernel
theorem dRd_gather_32 : decode kRd_gather 32 = .ok (.istore 4, 2) := by decide +kernel
theorem dRd_gather_34 : decode kRd_gather 34 = .ok (.iload 4, 2) := by decide +kernel
theorem dRd_gather_36 : decode kRd_gather 36 = .ok (.bipush 60, 2) := by decide +kernel
theorem dRd_gather_38 : decode kRd_gather 38 = .ok (.if_icmp .ge 48, 3) := by decide +kernel
theorem dRd_gather_41 : decode kRd_gather 41 = .ok (.aload_n 1, 1) := by decide +kernel
theorem dRd_gather_42 : decode kRd_gather 42 = .ok (.iload 4, 2) := by decide +kernel
theorem dRd_gather_44 : decode kRd_gather 44 = .ok (.invokevirtual 45, 3) := by decide +kernel
theorem dRd_gather_47 : decode kRd_gather 47 = .ok (.astore 5, 2) := by decide +kernel
theorem dRd_gather_49 : decode kRd_gather 49 = .ok (.aload 5, 2) := by decide +kernel
theorem dRd_gather_51 : decode kRd_gather 51 = .ok (.ifnull 29, 3) := by decide +kernel
theorem dRd_gather_54 : decode kRd_gather 54 = .ok (.aload 5, 2) := by decide +kernel
theorem dRd_gather_56 : decode kRd_gather 56 = .ok (.iload_n 2, 1) := by decide +kernel
theorem dRd_gather_57 : decode kRd_gather 57 = .ok (.invokevirtual 48, 3) := by decide +kernel
theorem dRd_gather_60 : decode kRd_gather 60 = .ok (.ifCond .eq 20, 3) := by decide +kernel
theorem dRd_gather_63 : decode kRd_gather 63 = .ok (.aload 5, 2) := by decide +kernel
theorem dRd_gather_65 : decode kRd_gather 65 = .ok (.aload_n 3, 1) := by decide +kernel
theorem dRd_gather_66 : decode kRd_gather 66 = .ok (.invokevirtual 54, 3) := by decide +kernel
theorem dRd_gather_69 : decode kRd_gather 69 = .ok (.ifCond .eq 11, 3) := by decide +kernel
theorem dRd_gather_72 : decode kRd_gather 72 = .ok (.aload_n 0, 1) := by decide +kernel
theorem dRd_gather_73 : decode kRd_gather 73 = .ok (.aload 5, 2) := by decide +kernel
theorem dRd_gather_75 : decode kRd_gather 75 = .ok (.iload 4, 2) := by decide +kernel
theorem dRd_gather_77 : decode kRd_gather 77 = .ok (.invokevirtual 58, 3) := by decide +kernel
theorem dRd_gather_80 : decode kRd_gather 80 = .ok (.iinc 4 1, 3) := by decide +kernel
theorem dRd_gather_83 : decode kRd_gather 83 = .ok (.goto (-49), 3) := by decide +kernel
theorem dRd_gather_86 : decode kRd_gather 86 = .ok (.aload_n 0, 1) := by decide +kernel
theorem dRd_gather_87 : decode kRd_gather 87 = .ok (.aload_n 1, 1) := by decide +kernel
theorem dRd_gather_88 : decode kRd_gather 88 = .ok (.invokevirtual 62, 3) := by decide +kernel
theorem dRd_gather_91 : decode kRd_gather 91 = .ok (.aload_n 0, 1) := by decide +kernel
theorem dRd_gather_92 : decode kRd_gather 92 = .ok (.getfield 66, 3) := by decide +kernel
theorem dRd_gather_95 : decode kRd_gather 95 = .ok (.aload_n 0, 1) := by decide +kernel
theorem dRd_gather_96 : decode kRd_gather 96 = .ok (.getfield 70, 3) := by decide +kernel
theorem dRd_gather_99 : decode kRd_gather 99 = .ok (.iadd, 1) := by decide +kernel
theorem dRd_gather_100 : decode kRd_gather 100 = .ok (.ireturn, 1) := by decide +kernel
theorem dRd_begin_0 : decode kRd_begin 0 = .ok (.aload_n 0, 1) := by decide +kernel
theorem dRd_begin_1 : decode kRd_begin 1 = .ok (.getfield 14, 3) := by decide +kernel
theorem dRd_begin_4 : decode kRd_begin 4 = .ok (.invokevirtual 73, 3) := by decide +kernel
theorem dRd_begin_7 : decode kRd_begin 7 = .ok (.aload_n 0, 1) := by decide +kernel
theorem dRd_begin_8 : decode kRd_begin 8 = .ok (.getfield 20, 3) := by decide +kernel
theorem dRd_begin_11 : decode kRd_begin 11 = .ok (.bipush (-2), 2) := by decide +kernel
theorem dRd_begin_13 : decode kRd_begin 13 = .ok (.invokestatic 76, 3) := by decide +kernel
theorem dRd_begin_16 : decode kRd_begin 16 = .ok (.aload_n 0, 1) := by decide +kernel
theorem dRd_begin_17 : decode kRd_begin 17 = .ok (.aload_n 1, 1) := by decide +kernel
theorem dRd_begin_18 : decode kRd_begin 18 = .ok (.getfield 82, 3) := by decide +kernel
theorem dRd_begin_21 : decode kRd_begin 21 = .ok (.putfield 85, 3) := by decide +kernel
theorem dRd_begin_24 : decode kRd_begin 24 = .ok (.aload_n 0, 1) := by decide +kernel
theorem dRd_begin_25 : decode kRd_begin 25 = .ok (.aload_n 1, 1) := by decide +kernel
theorem dRd_begin_26 : decode kRd_begin 26 = .ok (.iconst 5, 1) := by decide +kernel
theorem dRd_begin_27 : decode kRd_begin 27 = .ok (.invokevirtual 86, 3) := by decide +kernel
theorem dRd_begin_30 : decode kRd_begin 30 = .ok (.putfield 90, 3) := by decide +kernel
theorem dRd_begin_33 : decode kRd_begin 33 = .ok (.aload_n 0, 1) := by decide +kernel
theorem dRd_begin_34 : decode kRd_begin 34 = .ok (.getfield 14, 3) := by decide +kernel
theorem dRd_begin_37 : decode kRd_begin 37 = .ok (.aload_n 1, 1) := by decide +kernel
theorem dRd_begin_38 : decode kRd_begin 38 = .ok (.iconst 4, 1) := by decide +kernel
theorem dRd_begin_39 : decode kRd_begin 39 = .ok (.invokevirtual 86, 3) := by decide +kernel
theorem dRd_begin_42 : decode kRd_begin 42 = .ok (.putfield 93, 3) := by decide +kernel
theorem dRd_begin_45 : decode kRd_begin 45 = .ok (.aload_n 0, 1) := by decide +kernel
theorem dRd_begin_46 : decode kRd_begin 46 = .ok (.getfield 14, 3) := by decide +kernel
theorem dRd_begin_49 : decode kRd_begin 49 = .ok (.aload_n 0, 1) := by decide +kernel
theorem dRd_begin_50 : decode kRd_begin 50 = .ok (.getfield 85, 3) := by decide +kernel
theorem dRd_begin_53 : decode kRd_begin 53 = .ok (.bipush 12, 2) := by decide +kernel
theorem dRd_begin_55 : decode kRd_begin 55 = .ok (.isub, 1) := by decide +kernel
theorem dRd_begin_56 : decode kRd_begin 56 = .ok (.putfield 96, 3) := by decide +kernel
theorem dRd_begin_59 : decode kRd_begin 59 = .ok (.aload_n 0, 1) := by decide +kernel
theorem dRd_begin_60 : decode kRd_begin 60 = .ok (.iconst 0, 1) := by decide +kernel
theorem dRd_begin_61 : decode kRd_begin 61 = .ok (.putfield 66, 3) := by decide +kernel
theorem dRd_begin_64 : decode kRd_begin 64 = .ok (.aload_n 0, 1) := by decide +kernel
theorem dRd_begin_65 : decode kRd_begin 65 = .ok (.iconst 0, 1) := by decide +kernel
theorem dRd_begin_66 : decode kRd_begin 66 = .ok (.putfield 70, 3) := by decide +kernel
theorem dRd_begin_69 : decode kRd_begin 69 = .ok (.return_, 1) := by decide +kernel
theorem dRd_take_0 : decode kRd_take 0 = .ok (.aload_n 1, 1) := by decide +kernel
theorem dRd_take_1 : decode kRd_take 1 = .ok (.iconst 3, 1) := by decide +kernel
theorem dRd_take_2 : decode kRd_take 2 = .ok (.invokevirtual 86, 3) := by decide +kernel
theorem dRd_take_5 : decode kRd_take 5 = .ok (.istore_n 3, 1) := by decide +kernel
theorem dRd_take_6 : decode kRd_take 6 = .ok (.aload_n 0, 1) := by decide +kernel
theorem dRd_take_7 : decode kRd_take 7 = .ok (.iload_n 3, 1) := by decide +kernel
theorem dRd_take_8 : decode kRd_take 8 = .ok (.invokevirtual 99, 3) := by decide +kernel
theorem dRd_take_11 : decode kRd_take 11 = .ok (.bipush (-2), 2) := by decide +kernel
theorem dRd_take_13 : decode kRd_take 13 = .ok (.if_icmp .eq 4, 3) := by decide +kernel
theorem dRd_take_16 : decode kRd_take 16 = .ok (.return_, 1) := by decide +kernel
theorem dRd_take_17 : decode kRd_take 17 = .ok (.aload_n 0, 1) := by decide +kernel
theorem dRd_take_18 : decode kRd_take 18 = .ok (.iload_n 3, 1) := by decide +kernel
theorem dRd_take_19 : decode kRd_take 19 = .ok (.iload_n 2, 1) := by decide +kernel
theorem dRd_take_20 : decode kRd_take 20 = .ok (.invokevirtual 102, 3) := by decide +kernel
theorem dRd_take_23 : decode kRd_take 23 = .ok (.iload_n 3, 1) := by decide +kernel
theorem dRd_take_24 : decode kRd_take 24 = .ok (.aload_n 0, 1) := by decide +kernel
theorem dRd_take_25 : decode kRd_take 25 = .ok (.getfield 14, 3) := by decide +kernel
theorem dRd_take_28 : decode kRd_take 28 = .ok (.getfield 93, 3) := by decide +kernel
theorem dRd_take_31 : decode kRd_take 31 = .ok (.if_icmp .ge 48, 3) := by decide +kernel
theorem dRd_take_34 : decode kRd_take 34 = .ok (.aload_n 0, 1) := by decide +kernel
theorem dRd_take_35 : decode kRd_take 35 = .ok (.dup, 1) := by decide +kernel
theorem dRd_take_36 : decode kRd_take 36 = .ok (.getfield 66, 3) := by decide +kernel
theorem dRd_take_39 : decode kRd_take 39 = .ok (.iconst 1, 1) := by decide +kernel
theorem dRd_take_40 : decode kRd_take 40 = .ok (.iadd, 1) := by decide +kernel
theorem dRd_take_41 : decode kRd_take 41 = .ok (.putfield 66, 3) := by decide +kernel
theorem dRd_take_44 : decode kRd_take 44 = .ok (.bipush 6, 2) := by decide +kernel
theorem dRd_take_46 : decode kRd_take 46 = .ok (.istore 4, 2) := by decide +kernel
theorem dRd_take_48 : decode kRd_take 48 = .ok (.iload 4, 2) := by decide +kernel
theorem dRd_take_50 : decode kRd_take 50 = .ok (.aload_n 0, 1) := by decide +kernel
theorem dRd_take_51 : decode kRd_take 51 = .ok (.getfield 85, 3) := by decide +kernel
theorem dRd_take_54 : decode kRd_take 54 = .ok (.if_icmp .ge 25, 3) := by decide +kernel
theorem dRd_take_57 : decode kRd_take 57 = .ok (.aload_n 0, 1) := by decide +kernel
theorem dRd_take_58 : decode kRd_take 58 = .ok (.getfield 14, 3) := by decide +kernel
theorem dRd_take_61 : decode kRd_take 61 = .ok (.iload_n 3, 1) := by decide +kernel
theorem dRd_take_62 : decode kRd_take 62 = .ok (.iload 4, 2) := by decide +kernel
theorem dRd_take_64 : decode kRd_take 64 = .ok (.aload_n 1, 1) := by decide +kernel
theorem dRd_take_65 : decode kRd_take 65 = .ok (.iload 4, 2) := by decide +kernel
theorem dRd_take_67 : decode kRd_take 67 = .ok (.invokevirtual 86, 3) := by decide +kernel
theorem dRd_take_70 : decode kRd_take 70 = .ok (.invokevirtual 106, 3) := by decide +kernel
theorem dRd_take_73 : decode kRd_take 73 = .ok (.iinc 4 1, 3) := by decide +kernel
theorem dRd_take_76 : decode kRd_take 76 = .ok (.goto (-28), 3) := by decide +kernel
theorem dRd_take_79 : decode kRd_take 79 = .ok (.return_, 1) := by decide +kernel
theorem dRd_placeOf_0 : decode kRd_placeOf 0 = .ok (.iload_n 1, 1) := by decide +kernel
theorem dRd_placeOf_1 : decode kRd_placeOf 1 = .ok (.ifCond .lt 12, 3) := by decide +kernel
theorem dRd_placeOf_4 : decode kRd_placeOf 4 = .ok (.iload_n 1, 1) := by decide +kernel
theorem dRd_placeOf_5 : decode kRd_placeOf 5 = .ok (.aload_n 0, 1) := by decide +kernel
theorem dRd_placeOf_6 : decode kRd_placeOf 6 = .ok (.getfield 20, 3) := by decide +kernel
theorem dRd_placeOf_9 : decode kRd_placeOf 9 = .ok (.arraylength, 1) := by decide +kernel
theorem dRd_placeOf_10 : decode kRd_placeOf 10 = .ok (.if_icmp .lt 8, 3) := by decide +kernel
theorem dRd_placeOf_13 : decode kRd_placeOf 13 = .ok (.bipush (-2), 2) := by decide +kernel
theorem dRd_placeOf_15 : decode kRd_placeOf 15 = .ok (.goto 9, 3) := by decide +kernel
theorem dRd_placeOf_18 : decode kRd_placeOf 18 = .ok (.aload_n 0, 1) := by decide +kernel
theorem dRd_placeOf_19 : decode kRd_placeOf 19 = .ok (.getfield 20, 3) := by decide +kernel
theorem dRd_placeOf_22 : decode kRd_placeOf 22 = .ok (.iload_n 1, 1) := by decide +kernel
theorem dRd_placeOf_23 : decode kRd_placeOf 23 = .ok (.iaload, 1) := by decide +kernel
theorem dRd_placeOf_24 : decode kRd_placeOf 24 = .ok (.ireturn, 1) := by decide +kernel
theorem dRd_setPlace_0 : decode kRd_setPlace 0 = .ok (.iload_n 1, 1) := by decide +kernel
theorem dRd_setPlace_1 : decode kRd_setPlace 1 = .ok (.ifCond .lt 19, 3) := by decide +kernel
theorem dRd_setPlace_4 : decode kRd_setPlace 4 = .ok (.iload_n 1, 1) := by decide +kernel
theorem dRd_setPlace_5 : decode kRd_setPlace 5 = .ok (.aload_n 0, 1) := by decide +kernel
theorem dRd_setPlace_6 : decode kRd_setPlace 6 = .ok (.getfield 20, 3) := by decide +kernel
theorem dRd_setPlace_9 : decode kRd_setPlace 9 = .ok (.arraylength, 1) := by decide +kernel
theorem dRd_setPlace_10 : decode kRd_setPlace 10 = .ok (.if_icmp .ge 10, 3) := by decide +kernel
theorem dRd_setPlace_13 : decode kRd_setPlace 13 = .ok (.aload_n 0, 1) := by decide +kernel
theorem dRd_setPlace_14 : decode kRd_setPlace 14 = .ok (.getfield 20, 3) := by decide +kernel
theorem dRd_setPlace_17 : decode kRd_setPlace 17 = .ok (.iload_n 1, 1) := by decide +kernel
theorem dRd_setPlace_18 : decode kRd_setPlace 18 = .ok (.iload_n 2, 1) := by decide +kernel
theorem dRd_setPlace_19 : decode kRd_setPlace 19 = .ok (.iastore, 1) := by decide +kernel
theorem dRd_setPlace_20 : decode kRd_setPlace 20 = .ok (.return_, 1) := by decide +kernel
theorem dRd_makeAgain_0 : decode kRd_makeAgain 0 = .ok (.aload_n 0, 1) := by decide +kernel
theorem dRd_makeAgain_1 : decode kRd_makeAgain 1 = .ok (.getfield 14, 3) := by decide +kernel
theorem dRd_makeAgain_4 : decode kRd_makeAgain 4 = .ok (.getfield 93, 3) := by decide +kernel
theorem dRd_makeAgain_7 : decode kRd_makeAgain 7 = .ok (.aload_n 0, 1) := by decide +kernel
theorem dRd_makeAgain_8 : decode kRd_makeAgain 8 = .ok (.getfield 66, 3) := by decide +kernel
theorem dRd_makeAgain_11 : decode kRd_makeAgain 11 = .ok (.isub, 1) := by decide +kernel
theorem dRd_makeAgain_12 : decode kRd_makeAgain 12 = .ok (.istore_n 2, 1) := by decide +kernel
theorem dRd_makeAgain_13 : decode kRd_makeAgain 13 = .ok (.iload_n 2, 1) := by decide +kernel
theorem dRd_makeAgain_14 : decode kRd_makeAgain 14 = .ok (.ifCond .eq 11, 3) := by decide +kernel
theorem dRd_makeAgain_17 : decode kRd_makeAgain 17 = .ok (.iload_n 2, 1) := by decide +kernel
theorem dRd_makeAgain_18 : decode kRd_makeAgain 18 = .ok (.aload_n 0, 1) := by decide +kernel
theorem dRd_makeAgain_19 : decode kRd_makeAgain 19 = .ok (.invokevirtual 110, 3) := by decide +kernel
theorem dRd_makeAgain_22 : decode kRd_makeAgain 22 = .ok (.if_icmp .le 4, 3) := by decide +kernel
theorem dRd_makeAgain_25 : decode kRd_makeAgain 25 = .ok (.return_, 1) := by decide +kernel
theorem dRd_makeAgain_26 : decode kRd_makeAgain 26 = .ok (.aload_n 0, 1) := by decide +kernel
theorem dRd_makeAgain_27 : decode kRd_makeAgain 27 = .ok (.getfield 27, 3) := by decide +kernel
theorem dRd_makeAgain_30 : decode kRd_makeAgain 30 = .ok (.invokevirtual 114, 3) := by decide +kernel
theorem dRd_makeAgain_33 : decode kRd_makeAgain 33 = .ok (.iconst 0, 1) := by decide +kernel
theorem dRd_makeAgain_34 : decode kRd_makeAgain 34 = .ok (.istore_n 3, 1) := by decide +kernel
theorem dRd_makeAgain_35 : decode kRd_makeAgain 35 = .ok (.iload_n 3, 1) := by decide +kernel
theorem dRd_makeAgain_36 : decode kRd_makeAgain 36 = .ok (.aload_n 0, 1) := by decide +kernel
theorem dRd_makeAgain_37 : decode kRd_makeAgain 37 = .ok (.getfield 14, 3) := by decide +kernel
theorem dRd_makeAgain_40 : decode kRd_makeAgain 40 = .ok (.getfield 93, 3) := by decide +kernel
theorem dRd_makeAgain_43 : decode kRd_makeAgain 43 = .ok (.if_icmp .ge 27, 3) := by decide +kernel
theorem dRd_makeAgain_46 : decode kRd_makeAgain 46 = .ok (.aload_n 0, 1) := by decide +kernel
theorem dRd_makeAgain_47 : decode kRd_makeAgain 47 = .ok (.iload_n 3, 1) := by decide +kernel
theorem dRd_makeAgain_48 : decode kRd_makeAgain 48 = .ok (.invokevirtual 99, 3) := by decide +kernel
theorem dRd_makeAgain_51 : decode kRd_makeAgain 51 = .ok (.bipush (-2), 2) := by decide +kernel
theorem dRd_makeAgain_53 : decode kRd_makeAgain 53 = .ok (.if_icmp .ne 11, 3) := by decide +kernel
theorem dRd_makeAgain_56 : decode kRd_makeAgain 56 = .ok (.aload_n 0, 1) := by decide +kernel
theorem dRd_makeAgain_57 : decode kRd_makeAgain 57 = .ok (.getfield 27, 3) := by decide +kernel
theorem dRd_makeAgain_60 : decode kRd_makeAgain 60 = .ok (.iload_n 3, 1) := by decide +kernel
theorem dRd_makeAgain_61 : decode kRd_makeAgain 61 = .ok (.invokevirtual 117, 3) := by decide +kernel
theorem dRd_makeAgain_64 : decode kRd_makeAgain 64 = .ok (.iinc 3 1, 3) := by decide +kernel
theorem dRd_makeAgain_67 : decode kRd_makeAgain 67 = .ok (.goto (-32), 3) := by decide +kernel
theorem dRd_makeAgain_70 : decode kRd_makeAgain 70 = .ok (.iconst 0, 1) := by decide +kernel
theorem dRd_makeAgain_71 : decode kRd_makeAgain 71 = .ok (.istore_n 3, 1) := by decide +kernel
theorem dRd_makeAgain_72 : decode kRd_makeAgain 72 = .ok (.iload_n 3, 1) := by decide +kernel
theorem dRd_makeAgain_73 : decode kRd_makeAgain 73 = .ok (.aload_n 0, 1) := by decide +kernel
theorem dRd_makeAgain_74 : decode kRd_makeAgain 74 = .ok (.getfield 90, 3) := by decide +kernel
theorem dRd_makeAgain_77 : decode kRd_makeAgain 77 = .ok (.if_icmp .ge 58, 3) := by decide +kernel
theorem dRd_makeAgain_80 : decode kRd_makeAgain 80 = .ok (.aload_n 0, 1) := by decide +kernel
theorem dRd_makeAgain_81 : decode kRd_makeAgain 81 = .ok (.getfield 27, 3) := by decide +kernel
theorem dRd_makeAgain_84 : decode kRd_makeAgain 84 = .ok (.getfield 120, 3) := by decide +kernel
theorem dRd_makeAgain_87 : decode kRd_makeAgain 87 = .ok (.iload_n 2, 1) := by decide +kernel
theorem dRd_makeAgain_88 : decode kRd_makeAgain 88 = .ok (.if_icmp .ge 47, 3) := by decide +kernel
theorem dRd_makeAgain_91 : decode kRd_makeAgain 91 = .ok (.aload_n 1, 1) := by decide +kernel
theorem dRd_makeAgain_92 : decode kRd_makeAgain 92 = .ok (.aload_n 0, 1) := by decide +kernel
theorem dRd_makeAgain_93 : decode kRd_makeAgain 93 = .ok (.aload_n 0, 1) := by decide +kernel
theorem dRd_makeAgain_94 : decode kRd_makeAgain 94 = .ok (.getfield 14, 3) := by decide +kernel
theorem dRd_makeAgain_97 : decode kRd_makeAgain 97 = .ok (.getfield 93, 3) := by decide +kernel
theorem dRd_makeAgain_100 : decode kRd_makeAgain 100 = .ok (.iload_n 3, 1) := by decide +kernel
theorem dRd_makeAgain_101 : decode kRd_makeAgain 101 = .ok (.iadd, 1) := by decide +kernel
theorem dRd_makeAgain_102 : decode kRd_makeAgain 102 = .ok (.invokevirtual 99, 3) := by decide +kernel
theorem dRd_makeAgain_105 : decode kRd_makeAgain 105 = .ok (.invokevirtual 45, 3) := by decide +kernel
theorem dRd_makeAgain_108 : decode kRd_makeAgain 108 = .ok (.astore 4, 2) := by decide +kernel
theorem dRd_makeAgain_110 : decode kRd_makeAgain 110 = .ok (.aload 4, 2) := by decide +kernel
theorem dRd_makeAgain_112 : decode kRd_makeAgain 112 = .ok (.ifnull 17, 3) := by decide +kernel
theorem dRd_makeAgain_115 : decode kRd_makeAgain 115 = .ok (.aload_n 0, 1) := by decide +kernel
theorem dRd_makeAgain_116 : decode kRd_makeAgain 116 = .ok (.getfield 27, 3) := by decide +kernel
theorem dRd_makeAgain_119 : decode kRd_makeAgain 119 = .ok (.iload_n 3, 1) := by decide +kernel
theorem dRd_makeAgain_120 : decode kRd_makeAgain 120 = .ok (.aload 4, 2) := by decide +kernel
theorem dRd_makeAgain_122 : decode kRd_makeAgain 122 = .ok (.aload_n 0, 1) := by decide +kernel
theorem dRd_makeAgain_123 : decode kRd_makeAgain 123 = .ok (.getfield 14, 3) := by decide +kernel
theorem dRd_makeAgain_126 : decode kRd_makeAgain 126 = .ok (.invokevirtual 123, 3) := by decide +kernel
theorem dRd_makeAgain_129 : decode kRd_makeAgain 129 = .ok (.iinc 3 1, 3) := by decide +kernel
theorem dRd_makeAgain_132 : decode kRd_makeAgain 132 = .ok (.goto (-60), 3) := by decide +kernel
theorem dRd_makeAgain_135 : decode kRd_makeAgain 135 = .ok (.aload_n 0, 1) := by decide +kernel
theorem dRd_makeAgain_136 : decode kRd_makeAgain 136 = .ok (.getfield 27, 3) := by decide +kernel
theorem dRd_makeAgain_139 : decode kRd_makeAgain 139 = .ok (.invokevirtual 127, 3) := by decide +kernel
theorem dRd_makeAgain_142 : decode kRd_makeAgain 142 = .ok (.aload_n 0, 1) := by decide +kernel
theorem dRd_makeAgain_143 : decode kRd_makeAgain 143 = .ok (.invokevirtual 130, 3) := by decide +kernel
theorem dRd_makeAgain_146 : decode kRd_makeAgain 146 = .ok (.return_, 1) := by decide +kernel
theorem dRd_repairsOfIt_0 : decode kRd_repairsOfIt 0 = .ok (.iconst 0, 1) := by decide +kernel
theorem dRd_repairsOfIt_1 : decode kRd_repairsOfIt 1 = .ok (.istore_n 1, 1) := by decide +kernel
theorem dRd_repairsOfIt_2 : decode kRd_repairsOfIt 2 = .ok (.iconst 0, 1) := by decide +kernel
theorem dRd_repairsOfIt_3 : decode kRd_repairsOfIt 3 = .ok (.istore_n 2, 1) := by decide +kernel
theorem dRd_repairsOfIt_4 : decode kRd_repairsOfIt 4 = .ok (.iload_n 2, 1) := by decide +kernel
theorem dRd_repairsOfIt_5 : decode kRd_repairsOfIt 5 = .ok (.aload_n 0, 1) := by decide +kernel
theorem dRd_repairsOfIt_6 : decode kRd_repairsOfIt 6 = .ok (.getfield 90, 3) := by decide +kernel
theorem dRd_repairsOfIt_9 : decode kRd_repairsOfIt 9 = .ok (.if_icmp .ge 30, 3) := by decide +kernel
theorem dRd_repairsOfIt_12 : decode kRd_repairsOfIt 12 = .ok (.aload_n 0, 1) := by decide +kernel
theorem dRd_repairsOfIt_13 : decode kRd_repairsOfIt 13 = .ok (.aload_n 0, 1) := by decide +kernel
theorem dRd_repairsOfIt_14 : decode kRd_repairsOfIt 14 = .ok (.getfield 14, 3) := by decide +kernel
theorem dRd_repairsOfIt_17 : decode kRd_repairsOfIt 17 = .ok (.getfield 93, 3) := by decide +kernel
theorem dRd_repairsOfIt_20 : decode kRd_repairsOfIt 20 = .ok (.iload_n 2, 1) := by decide +kernel
theorem dRd_repairsOfIt_21 : decode kRd_repairsOfIt 21 = .ok (.iadd, 1) := by decide +kernel
theorem dRd_repairsOfIt_22 : decode kRd_repairsOfIt 22 = .ok (.invokevirtual 99, 3) := by decide +kernel
theorem dRd_repairsOfIt_25 : decode kRd_repairsOfIt 25 = .ok (.bipush (-2), 2) := by decide +kernel
theorem dRd_repairsOfIt_27 : decode kRd_repairsOfIt 27 = .ok (.if_icmp .eq 6, 3) := by decide +kernel
theorem dRd_repairsOfIt_30 : decode kRd_repairsOfIt 30 = .ok (.iinc 1 1, 3) := by decide +kernel
theorem dRd_repairsOfIt_33 : decode kRd_repairsOfIt 33 = .ok (.iinc 2 1, 3) := by decide +kernel
theorem dRd_repairsOfIt_36 : decode kRd_repairsOfIt 36 = .ok (.goto (-32), 3) := by decide +kernel
theorem dRd_repairsOfIt_39 : decode kRd_repairsOfIt 39 = .ok (.iload_n 1, 1) := by decide +kernel
theorem dRd_repairsOfIt_40 : decode kRd_repairsOfIt 40 = .ok (.ireturn, 1) := by decide +kernel
theorem dRd_takeUnknowns_0 : decode kRd_takeUnknowns 0 = .ok (.iconst 0, 1) := by decide +kernel
theorem dRd_takeUnknowns_1 : decode kRd_takeUnknowns 1 = .ok (.istore_n 1, 1) := by decide +kernel
theorem dRd_takeUnknowns_2 : decode kRd_takeUnknowns 2 = .ok (.iload_n 1, 1) := by decide +kernel
theorem dRd_takeUnknowns_3 : decode kRd_takeUnknowns 3 = .ok (.aload_n 0, 1) := by decide +kernel
theorem dRd_takeUnknowns_4 : decode kRd_takeUnknowns 4 = .ok (.getfield 27, 3) := by decide +kernel
theorem dRd_takeUnknowns_7 : decode kRd_takeUnknowns 7 = .ok (.getfield 133, 3) := by decide +kernel
theorem dRd_takeUnknowns_10 : decode kRd_takeUnknowns 10 = .ok (.if_icmp .ge 70, 3) := by decide +kernel
theorem dRd_takeUnknowns_13 : decode kRd_takeUnknowns 13 = .ok (.aload_n 0, 1) := by decide +kernel
theorem dRd_takeUnknowns_14 : decode kRd_takeUnknowns 14 = .ok (.getfield 27, 3) := by decide +kernel
theorem dRd_takeUnknowns_17 : decode kRd_takeUnknowns 17 = .ok (.iload_n 1, 1) := by decide +kernel
theorem dRd_takeUnknowns_18 : decode kRd_takeUnknowns 18 = .ok (.invokevirtual 136, 3) := by decide +kernel
theorem dRd_takeUnknowns_21 : decode kRd_takeUnknowns 21 = .ok (.istore_n 2, 1) := by decide +kernel
theorem dRd_takeUnknowns_22 : decode kRd_takeUnknowns 22 = .ok (.aload_n 0, 1) := by decide +kernel
theorem dRd_takeUnknowns_23 : decode kRd_takeUnknowns 23 = .ok (.iload_n 2, 1) := by decide +kernel
theorem dRd_takeUnknowns_24 : decode kRd_takeUnknowns 24 = .ok (.bipush 100, 2) := by decide +kernel
theorem dRd_takeUnknowns_26 : decode kRd_takeUnknowns 26 = .ok (.invokevirtual 102, 3) := by decide +kernel
theorem dRd_takeUnknowns_29 : decode kRd_takeUnknowns 29 = .ok (.aload_n 0, 1) := by decide +kernel
theorem dRd_takeUnknowns_30 : decode kRd_takeUnknowns 30 = .ok (.dup, 1) := by decide +kernel
theorem dRd_takeUnknowns_31 : decode kRd_takeUnknowns 31 = .ok (.getfield 70, 3) := by decide +kernel
theorem dRd_takeUnknowns_34 : decode kRd_takeUnknowns 34 = .ok (.iconst 1, 1) := by decide +kernel
theorem dRd_takeUnknowns_35 : decode kRd_takeUnknowns 35 = .ok (.iadd, 1) := by decide +kernel
theorem dRd_takeUnknowns_36 : decode kRd_takeUnknowns 36 = .ok (.putfield 70, 3) := by decide +kernel
theorem dRd_takeUnknowns_39 : decode kRd_takeUnknowns 39 = .ok (.bipush 6, 2) := by decide +kernel
theorem dRd_takeUnknowns_41 : decode kRd_takeUnknowns 41 = .ok (.istore_n 3, 1) := by decide +kernel
theorem dRd_takeUnknowns_42 : decode kRd_takeUnknowns 42 = .ok (.iload_n 3, 1) := by decide +kernel
theorem dRd_takeUnknowns_43 : decode kRd_takeUnknowns 43 = .ok (.aload_n 0, 1) := by decide +kernel
theorem dRd_takeUnknowns_44 : decode kRd_takeUnknowns 44 = .ok (.getfield 85, 3) := by decide +kernel
theorem dRd_takeUnknowns_47 : decode kRd_takeUnknowns 47 = .ok (.if_icmp .ge 27, 3) := by decide +kernel
theorem dRd_takeUnknowns_50 : decode kRd_takeUnknowns 50 = .ok (.aload_n 0, 1) := by decide +kernel
theorem dRd_takeUnknowns_51 : decode kRd_takeUnknowns 51 = .ok (.getfield 14, 3) := by decide +kernel
theorem dRd_takeUnknowns_54 : decode kRd_takeUnknowns 54 = .ok (.iload_n 2, 1) := by decide +kernel
theorem dRd_takeUnknowns_55 : decode kRd_takeUnknowns 55 = .ok (.iload_n 3, 1) := by decide +kernel
theorem dRd_takeUnknowns_56 : decode kRd_takeUnknowns 56 = .ok (.aload_n 0, 1) := by decide +kernel
theorem dRd_takeUnknowns_57 : decode kRd_takeUnknowns 57 = .ok (.getfield 27, 3) := by decide +kernel
theorem dRd_takeUnknowns_60 : decode kRd_takeUnknowns 60 = .ok (.iload_n 1, 1) := by decide +kernel
theorem dRd_takeUnknowns_61 : decode kRd_takeUnknowns 61 = .ok (.iload_n 3, 1) := by decide +kernel
theorem dRd_takeUnknowns_62 : decode kRd_takeUnknowns 62 = .ok (.invokevirtual 139, 3) := by decide +kernel
theorem dRd_takeUnknowns_65 : decode kRd_takeUnknowns 65 = .ok (.invokevirtual 106, 3) := by decide +kernel
theorem dRd_takeUnknowns_68 : decode kRd_takeUnknowns 68 = .ok (.iinc 3 1, 3) := by decide +kernel
theorem dRd_takeUnknowns_71 : decode kRd_takeUnknowns 71 = .ok (.goto (-29), 3) := by decide +kernel
theorem dRd_takeUnknowns_74 : decode kRd_takeUnknowns 74 = .ok (.iinc 1 1, 3) := by decide +kernel
theorem dRd_takeUnknowns_77 : decode kRd_takeUnknowns 77 = .ok (.goto (-75), 3) := by decide +kernel
theorem dRd_takeUnknowns_80 : decode kRd_takeUnknowns 80 = .ok (.return_, 1) := by decide +kernel
theorem dOp_init_0 : decode kOp_init 0 = .ok (.aload_n 0, 1) := by decide +kernel
theorem dOp_init_1 : decode kOp_init 1 = .ok (.invokespecial 3, 3) := by decide +kernel
theorem dOp_init_4 : decode kOp_init 4 = .ok (.aload_n 0, 1) := by decide +kernel
theorem dOp_init_5 : decode kOp_init 5 = .ok (.bipush 40, 2) := by decide +kernel
theorem dOp_init_7 : decode kOp_init 7 = .ok (.newarray .int, 2) := by decide +kernel
theorem dOp_init_9 : decode kOp_init 9 = .ok (.putfield 9, 3) := by decide +kernel
theorem dOp_init_12 : decode kOp_init 12 = .ok (.aload_n 0, 1) := by decide +kernel
theorem dOp_init_13 : decode kOp_init 13 = .ok (.bipush 40, 2) := by decide +kernel
theorem dOp_init_15 : decode kOp_init 15 = .ok (.newarray .int, 2) := by decide +kernel
theorem dOp_init_17 : decode kOp_init 17 = .ok (.putfield 15, 3) := by decide +kernel
theorem dOp_init_20 : decode kOp_init 20 = .ok (.aload_n 0, 1) := by decide +kernel
theorem dOp_init_21 : decode kOp_init 21 = .ok (.bipush 40, 2) := by decide +kernel
theorem dOp_init_23 : decode kOp_init 23 = .ok (.newarray .int, 2) := by decide +kernel
theorem dOp_init_25 : decode kOp_init 25 = .ok (.putfield 18, 3) := by decide +kernel
theorem dOp_init_28 : decode kOp_init 28 = .ok (.return_, 1) := by decide +kernel
theorem dOp_open_0 : decode kOp_open 0 = .ok (.aload_n 0, 1) := by decide +kernel
theorem dOp_open_1 : decode kOp_open 1 = .ok (.iconst 0, 1) := by decide +kernel
theorem dOp_open_2 : decode kOp_open 2 = .ok (.putfield 21, 3) := by decide +kernel
theorem dOp_open_5 : decode kOp_open 5 = .ok (.aload_n 1, 1) := by decide +kernel
theorem dOp_open_6 : decode kOp_open 6 = .ok (.iconst 0, 1) := by decide +kernel
theorem dOp_open_7 : decode kOp_open 7 = .ok (.invokevirtual 25, 3) := by decide +kernel
theorem dOp_open_10 : decode kOp_open 10 = .ok (.istore_n 2, 1) := by decide +kernel
theorem dOp_open_11 : decode kOp_open 11 = .ok (.iconst 0, 1) := by decide +kernel
theorem dOp_open_12 : decode kOp_open 12 = .ok (.istore_n 3, 1) := by decide +kernel
theorem dOp_open_13 : decode kOp_open 13 = .ok (.iload_n 3, 1) := by decide +kernel
theorem dOp_open_14 : decode kOp_open 14 = .ok (.bipush 40, 2) := by decide +kernel
theorem dOp_open_16 : decode kOp_open 16 = .ok (.if_icmp .ge 74, 3) := by decide +kernel
theorem dOp_open_19 : decode kOp_open 19 = .ok (.iload_n 2, 1) := by decide +kernel
theorem dOp_open_20 : decode kOp_open 20 = .ok (.ifCond .lt 70, 3) := by decide +kernel
theorem dOp_open_23 : decode kOp_open 23 = .ok (.aload_n 1, 1) := by decide +kernel
theorem dOp_open_24 : decode kOp_open 24 = .ok (.iload_n 2, 1) := by decide +kernel
theorem dOp_open_25 : decode kOp_open 25 = .ok (.invokevirtual 31, 3) := by decide +kernel
theorem dOp_open_28 : decode kOp_open 28 = .ok (.istore 4, 2) := by decide +kernel
theorem dOp_open_30 : decode kOp_open 30 = .ok (.aload_n 0, 1) := by decide +kernel
theorem dOp_open_31 : decode kOp_open 31 = .ok (.getfield 9, 3) := by decide +kernel
theorem dOp_open_34 : decode kOp_open 34 = .ok (.iload_n 3, 1) := by decide +kernel
theorem dOp_open_35 : decode kOp_open 35 = .ok (.iload_n 2, 1) := by decide +kernel
theorem dOp_open_36 : decode kOp_open 36 = .ok (.iastore, 1) := by decide +kernel
theorem dOp_open_37 : decode kOp_open 37 = .ok (.aload_n 0, 1) := by decide +kernel
theorem dOp_open_38 : decode kOp_open 38 = .ok (.getfield 15, 3) := by decide +kernel
theorem dOp_open_41 : decode kOp_open 41 = .ok (.iload_n 3, 1) := by decide +kernel
theorem dOp_open_42 : decode kOp_open 42 = .ok (.iload 4, 2) := by decide +kernel
theorem dOp_open_44 : decode kOp_open 44 = .ok (.iastore, 1) := by decide +kernel
theorem dOp_open_45 : decode kOp_open 45 = .ok (.aload_n 0, 1) := by decide +kernel
theorem dOp_open_46 : decode kOp_open 46 = .ok (.getfield 18, 3) := by decide +kernel
theorem dOp_open_49 : decode kOp_open 49 = .ok (.iload_n 3, 1) := by decide +kernel
theorem dOp_open_50 : decode kOp_open 50 = .ok (.aload_n 1, 1) := by decide +kernel
theorem dOp_open_51 : decode kOp_open 51 = .ok (.iload_n 2, 1) := by decide +kernel
theorem dOp_open_52 : decode kOp_open 52 = .ok (.iload 4, 2) := by decide +kernel
theorem dOp_open_54 : decode kOp_open 54 = .ok (.invokestatic 34, 3) := by decide +kernel
theorem dOp_open_57 : decode kOp_open 57 = .ok (.ifCond .eq 7, 3) := by decide +kernel
theorem dOp_open_60 : decode kOp_open 60 = .ok (.iconst 1, 1) := by decide +kernel
theorem dOp_open_61 : decode kOp_open 61 = .ok (.goto 4, 3) := by decide +kernel
theorem dOp_open_64 : decode kOp_open 64 = .ok (.iconst 0, 1) := by decide +kernel
theorem dOp_open_65 : decode kOp_open 65 = .ok (.iastore, 1) := by decide +kernel
theorem dOp_open_66 : decode kOp_open 66 = .ok (.aload_n 0, 1) := by decide +kernel
theorem dOp_open_67 : decode kOp_open 67 = .ok (.iload_n 3, 1) := by decide +kernel
theorem dOp_open_68 : decode kOp_open 68 = .ok (.iconst 1, 1) := by decide +kernel
theorem dOp_open_69 : decode kOp_open 69 = .ok (.iadd, 1) := by decide +kernel
theorem dOp_open_70 : decode kOp_open 70 = .ok (.putfield 21, 3) := by decide +kernel
theorem dOp_open_73 : decode kOp_open 73 = .ok (.aload_n 1, 1) := by decide +kernel
theorem dOp_open_74 : decode kOp_open 74 = .ok (.iload_n 2, 1) := by decide +kernel
theorem dOp_open_75 : decode kOp_open 75 = .ok (.iconst 3, 1) := by decide +kernel
theorem dOp_open_76 : decode kOp_open 76 = .ok (.iadd, 1) := by decide +kernel
theorem dOp_open_77 : decode kOp_open 77 = .ok (.iload 4, 2) := by decide +kernel
theorem dOp_open_79 : decode kOp_open 79 = .ok (.iadd, 1) := by decide +kernel
theorem dOp_open_80 : decode kOp_open 80 = .ok (.invokevirtual 25, 3) := by decide +kernel
theorem dOp_open_83 : decode kOp_open 83 = .ok (.istore_n 2, 1) := by decide +kernel
theorem dOp_open_84 : decode kOp_open 84 = .ok (.iinc 3 1, 3) := by decide +kernel
theorem dOp_open_87 : decode kOp_open 87 = .ok (.goto (-74), 3) := by decide +kernel
theorem dOp_open_90 : decode kOp_open 90 = .ok (.return_, 1) := by decide +kernel
theorem dOp_isWhole_0 : decode kOp_isWhole 0 = .ok (.iload_n 1, 1) := by decide +kernel
theorem dOp_isWhole_1 : decode kOp_isWhole 1 = .ok (.iconst 3, 1) := by decide +kernel
theorem dOp_isWhole_2 : decode kOp_isWhole 2 = .ok (.iadd, 1) := by decide +kernel
theorem dOp_isWhole_3 : decode kOp_isWhole 3 = .ok (.istore_n 3, 1) := by decide +kernel
theorem dOp_isWhole_4 : decode kOp_isWhole 4 = .ok (.iload_n 3, 1) := by decide +kernel
theorem dOp_isWhole_5 : decode kOp_isWhole 5 = .ok (.iload_n 2, 1) := by decide +kernel
theorem dOp_isWhole_6 : decode kOp_isWhole 6 = .ok (.iadd, 1) := by decide +kernel
theorem dOp_isWhole_7 : decode kOp_isWhole 7 = .ok (.istore 4, 2) := by decide +kernel
theorem dOp_isWhole_9 : decode kOp_isWhole 9 = .ok (.iload_n 2, 1) := by decide +kernel
theorem dOp_isWhole_10 : decode kOp_isWhole 10 = .ok (.bipush 60, 2) := by decide +kernel
theorem dOp_isWhole_12 : decode kOp_isWhole 12 = .ok (.if_icmp .gt 13, 3) := by decide +kernel
theorem dOp_isWhole_15 : decode kOp_isWhole 15 = .ok (.aload_n 0, 1) := by decide +kernel
theorem dOp_isWhole_16 : decode kOp_isWhole 16 = .ok (.iload_n 1, 1) := by decide +kernel
theorem dOp_isWhole_17 : decode kOp_isWhole 17 = .ok (.iload 4, 2) := by decide +kernel
theorem dOp_isWhole_19 : decode kOp_isWhole 19 = .ok (.invokevirtual 38, 3) := by decide +kernel
theorem dOp_isWhole_22 : decode kOp_isWhole 22 = .ok (.ifCond .ne 5, 3) := by decide +kernel
theorem dOp_isWhole_25 : decode kOp_isWhole 25 = .ok (.iconst 0, 1) := by decide +kernel
theorem dOp_isWhole_26 : decode kOp_isWhole 26 = .ok (.ireturn, 1) := by decide +kernel
theorem dOp_isWhole_27 : decode kOp_isWhole 27 = .ok (.aload_n 0, 1) := by decide +kernel
theorem dOp_isWhole_28 : decode kOp_isWhole 28 = .ok (.iload_n 1, 1) := by decide +kernel
theorem dOp_isWhole_29 : decode kOp_isWhole 29 = .ok (.iconst 1, 1) := by decide +kernel
theorem dOp_isWhole_30 : decode kOp_isWhole 30 = .ok (.iadd, 1) := by decide +kernel
theorem dOp_isWhole_31 : decode kOp_isWhole 31 = .ok (.invokevirtual 31, 3) := by decide +kernel
theorem dOp_isWhole_34 : decode kOp_isWhole 34 = .ok (.aload_n 0, 1) := by decide +kernel
theorem dOp_isWhole_35 : decode kOp_isWhole 35 = .ok (.iload_n 1, 1) := by decide +kernel
theorem dOp_isWhole_36 : decode kOp_isWhole 36 = .ok (.iconst 2, 1) := by decide +kernel
theorem dOp_isWhole_37 : decode kOp_isWhole 37 = .ok (.iadd, 1) := by decide +kernel
theorem dOp_isWhole_38 : decode kOp_isWhole 38 = .ok (.invokevirtual 31, 3) := by decide +kernel
theorem dOp_isWhole_41 : decode kOp_isWhole 41 = .ok (.bipush 8, 2) := by decide +kernel
theorem dOp_isWhole_43 : decode kOp_isWhole 43 = .ok (.ishl, 1) := by decide +kernel
theorem dOp_isWhole_44 : decode kOp_isWhole 44 = .ok (.iadd, 1) := by decide +kernel
theorem dOp_isWhole_45 : decode kOp_isWhole 45 = .ok (.istore 5, 2) := by decide +kernel
theorem dOp_isWhole_47 : decode kOp_isWhole 47 = .ok (.iload 5, 2) := by decide +kernel
theorem dOp_isWhole_49 : decode kOp_isWhole 49 = .ok (.aload_n 0, 1) := by decide +kernel
theorem dOp_isWhole_50 : decode kOp_isWhole 50 = .ok (.iload_n 3, 1) := by decide +kernel
theorem dOp_isWhole_51 : decode kOp_isWhole 51 = .ok (.iload 4, 2) := by decide +kernel
theorem dOp_isWhole_53 : decode kOp_isWhole 53 = .ok (.invokevirtual 42, 3) := by decide +kernel
theorem dOp_isWhole_56 : decode kOp_isWhole 56 = .ok (.if_icmp .ne 7, 3) := by decide +kernel
theorem dOp_isWhole_59 : decode kOp_isWhole 59 = .ok (.iconst 1, 1) := by decide +kernel
theorem dOp_isWhole_60 : decode kOp_isWhole 60 = .ok (.goto 4, 3) := by decide +kernel
theorem dOp_isWhole_63 : decode kOp_isWhole 63 = .ok (.iconst 0, 1) := by decide +kernel
theorem dOp_isWhole_64 : decode kOp_isWhole 64 = .ok (.ireturn, 1) := by decide +kernel
theorem dOp_openedOnes_0 : decode kOp_openedOnes 0 = .ok (.iconst 0, 1) := by decide +kernel
theorem dOp_openedOnes_1 : decode kOp_openedOnes 1 = .ok (.istore_n 1, 1) := by decide +kernel
theorem dOp_openedOnes_2 : decode kOp_openedOnes 2 = .ok (.iconst 0, 1) := by decide +kernel
theorem dOp_openedOnes_3 : decode kOp_openedOnes 3 = .ok (.istore_n 2, 1) := by decide +kernel
theorem dOp_openedOnes_4 : decode kOp_openedOnes 4 = .ok (.iload_n 2, 1) := by decide +kernel
theorem dOp_openedOnes_5 : decode kOp_openedOnes 5 = .ok (.aload_n 0, 1) := by decide +kernel
theorem dOp_openedOnes_6 : decode kOp_openedOnes 6 = .ok (.getfield 21, 3) := by decide +kernel
theorem dOp_openedOnes_9 : decode kOp_openedOnes 9 = .ok (.if_icmp .ge 24, 3) := by decide +kernel
theorem dOp_openedOnes_12 : decode kOp_openedOnes 12 = .ok (.iload_n 2, 1) := by decide +kernel
theorem dOp_openedOnes_13 : decode kOp_openedOnes 13 = .ok (.bipush 40, 2) := by decide +kernel
theorem dOp_openedOnes_15 : decode kOp_openedOnes 15 = .ok (.if_icmp .ge 18, 3) := by decide +kernel
theorem dOp_openedOnes_18 : decode kOp_openedOnes 18 = .ok (.iload_n 1, 1) := by decide +kernel
theorem dOp_openedOnes_19 : decode kOp_openedOnes 19 = .ok (.aload_n 0, 1) := by decide +kernel
theorem dOp_openedOnes_20 : decode kOp_openedOnes 20 = .ok (.getfield 18, 3) := by decide +kernel
theorem dOp_openedOnes_23 : decode kOp_openedOnes 23 = .ok (.iload_n 2, 1) := by decide +kernel
theorem dOp_openedOnes_24 : decode kOp_openedOnes 24 = .ok (.iaload, 1) := by decide +kernel
theorem dOp_openedOnes_25 : decode kOp_openedOnes 25 = .ok (.iadd, 1) := by decide +kernel
theorem dOp_openedOnes_26 : decode kOp_openedOnes 26 = .ok (.istore_n 1, 1) := by decide +kernel
theorem dOp_openedOnes_27 : decode kOp_openedOnes 27 = .ok (.iinc 2 1, 3) := by decide +kernel
theorem dOp_openedOnes_30 : decode kOp_openedOnes 30 = .ok (.goto (-26), 3) := by decide +kernel
theorem dOp_openedOnes_33 : decode kOp_openedOnes 33 = .ok (.iload_n 1, 1) := by decide +kernel
theorem dOp_openedOnes_34 : decode kOp_openedOnes 34 = .ok (.ireturn, 1) := by decide +kernel
theorem dOp_tellOf_0 : decode kOp_tellOf 0 = .ok (.iload_n 1, 1) := by decide +kernel
theorem dOp_tellOf_1 : decode kOp_tellOf 1 = .ok (.ifCond .lt 17, 3) := by decide +kernel
theorem dOp_tellOf_4 : decode kOp_tellOf 4 = .ok (.iload_n 1, 1) := by decide +kernel
theorem dOp_tellOf_5 : decode kOp_tellOf 5 = .ok (.aload_n 0, 1) := by decide +kernel
theorem dOp_tellOf_6 : decode kOp_tellOf 6 = .ok (.getfield 21, 3) := by decide +kernel
theorem dOp_tellOf_9 : decode kOp_tellOf 9 = .ok (.if_icmp .ge 9, 3) := by decide +kernel
theorem dOp_tellOf_12 : decode kOp_tellOf 12 = .ok (.iload_n 1, 1) := by decide +kernel
theorem dOp_tellOf_13 : decode kOp_tellOf 13 = .ok (.bipush 40, 2) := by decide +kernel
theorem dOp_tellOf_15 : decode kOp_tellOf 15 = .ok (.if_icmp .lt 5, 3) := by decide +kernel
theorem dOp_tellOf_18 : decode kOp_tellOf 18 = .ok (.iconst (-1), 1) := by decide +kernel
theorem dOp_tellOf_19 : decode kOp_tellOf 19 = .ok (.ireturn, 1) := by decide +kernel
theorem dOp_tellOf_20 : decode kOp_tellOf 20 = .ok (.iload_n 2, 1) := by decide +kernel
theorem dOp_tellOf_21 : decode kOp_tellOf 21 = .ok (.tableswitch 48 0 2 #[27, 34, 41], 27) := by decide +kernel
theorem dOp_tellOf_48 : decode kOp_tellOf 48 = .ok (.aload_n 0, 1) := by decide +kernel
theorem dOp_tellOf_49 : decode kOp_tellOf 49 = .ok (.getfield 9, 3) := by decide +kernel
theorem dOp_tellOf_52 : decode kOp_tellOf 52 = .ok (.iload_n 1, 1) := by decide +kernel
theorem dOp_tellOf_53 : decode kOp_tellOf 53 = .ok (.iaload, 1) := by decide +kernel
theorem dOp_tellOf_54 : decode kOp_tellOf 54 = .ok (.ireturn, 1) := by decide +kernel
theorem dOp_tellOf_55 : decode kOp_tellOf 55 = .ok (.aload_n 0, 1) := by decide +kernel
theorem dOp_tellOf_56 : decode kOp_tellOf 56 = .ok (.getfield 15, 3) := by decide +kernel
theorem dOp_tellOf_59 : decode kOp_tellOf 59 = .ok (.iload_n 1, 1) := by decide +kernel
theorem dOp_tellOf_60 : decode kOp_tellOf 60 = .ok (.iaload, 1) := by decide +kernel
theorem dOp_tellOf_61 : decode kOp_tellOf 61 = .ok (.ireturn, 1) := by decide +kernel
theorem dOp_tellOf_62 : decode kOp_tellOf 62 = .ok (.aload_n 0, 1) := by decide +kernel
theorem dOp_tellOf_63 : decode kOp_tellOf 63 = .ok (.getfield 18, 3) := by decide +kernel
theorem dOp_tellOf_66 : decode kOp_tellOf 66 = .ok (.iload_n 1, 1) := by decide +kernel
theorem dOp_tellOf_67 : decode kOp_tellOf 67 = .ok (.iaload, 1) := by decide +kernel
theorem dOp_tellOf_68 : decode kOp_tellOf 68 = .ok (.ireturn, 1) := by decide +kernel
theorem dOp_tellOf_69 : decode kOp_tellOf 69 = .ok (.iconst (-1), 1) := by decide +kernel
theorem dOp_tellOf_70 : decode kOp_tellOf 70 = .ok (.ireturn, 1) := by decide +kernel
