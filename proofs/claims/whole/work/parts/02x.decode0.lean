theorem dBy_sum_0 : decode kBy_sum 0 = .ok (.sipush 5381, 3) := by decide +kernel
theorem dBy_sum_3 : decode kBy_sum 3 = .ok (.istore_n 3, 1) := by decide +kernel
theorem dBy_sum_4 : decode kBy_sum 4 = .ok (.iconst 0, 1) := by decide +kernel
theorem dBy_sum_5 : decode kBy_sum 5 = .ok (.iload_n 1, 1) := by decide +kernel
theorem dBy_sum_6 : decode kBy_sum 6 = .ok (.invokestatic 7, 3) := by decide +kernel
theorem dBy_sum_9 : decode kBy_sum 9 = .ok (.istore 4, 2) := by decide +kernel
theorem dBy_sum_11 : decode kBy_sum 11 = .ok (.iload 4, 2) := by decide +kernel
theorem dBy_sum_13 : decode kBy_sum 13 = .ok (.iload_n 2, 1) := by decide +kernel
theorem dBy_sum_14 : decode kBy_sum 14 = .ok (.if_icmp .ge 29, 3) := by decide +kernel
theorem dBy_sum_17 : decode kBy_sum 17 = .ok (.iload 4, 2) := by decide +kernel
theorem dBy_sum_19 : decode kBy_sum 19 = .ok (.aload_n 0, 1) := by decide +kernel
theorem dBy_sum_20 : decode kBy_sum 20 = .ok (.arraylength, 1) := by decide +kernel
theorem dBy_sum_21 : decode kBy_sum 21 = .ok (.if_icmp .ge 22, 3) := by decide +kernel
theorem dBy_sum_24 : decode kBy_sum 24 = .ok (.bipush 33, 2) := by decide +kernel
theorem dBy_sum_26 : decode kBy_sum 26 = .ok (.iload_n 3, 1) := by decide +kernel
theorem dBy_sum_27 : decode kBy_sum 27 = .ok (.imul, 1) := by decide +kernel
theorem dBy_sum_28 : decode kBy_sum 28 = .ok (.aload_n 0, 1) := by decide +kernel
theorem dBy_sum_29 : decode kBy_sum 29 = .ok (.iload 4, 2) := by decide +kernel
theorem dBy_sum_31 : decode kBy_sum 31 = .ok (.iaload, 1) := by decide +kernel
theorem dBy_sum_32 : decode kBy_sum 32 = .ok (.ixor, 1) := by decide +kernel
theorem dBy_sum_33 : decode kBy_sum 33 = .ok (.ldc 13, 2) := by decide +kernel
theorem dBy_sum_35 : decode kBy_sum 35 = .ok (.iand, 1) := by decide +kernel
theorem dBy_sum_36 : decode kBy_sum 36 = .ok (.istore_n 3, 1) := by decide +kernel
theorem dBy_sum_37 : decode kBy_sum 37 = .ok (.iinc 4 1, 3) := by decide +kernel
theorem dBy_sum_40 : decode kBy_sum 40 = .ok (.goto (-29), 3) := by decide +kernel
theorem dBy_sum_43 : decode kBy_sum 43 = .ok (.iload_n 3, 1) := by decide +kernel
theorem dBy_sum_44 : decode kBy_sum 44 = .ok (.ireturn, 1) := by decide +kernel
theorem dBy_twice_0 : decode kBy_twice 0 = .ok (.iload_n 0, 1) := by decide +kernel
theorem dBy_twice_1 : decode kBy_twice 1 = .ok (.iconst 1, 1) := by decide +kernel
theorem dBy_twice_2 : decode kBy_twice 2 = .ok (.ishl, 1) := by decide +kernel
theorem dBy_twice_3 : decode kBy_twice 3 = .ok (.istore_n 1, 1) := by decide +kernel
theorem dBy_twice_4 : decode kBy_twice 4 = .ok (.iload_n 1, 1) := by decide +kernel
theorem dBy_twice_5 : decode kBy_twice 5 = .ok (.sipush 255, 3) := by decide +kernel
theorem dBy_twice_8 : decode kBy_twice 8 = .ok (.if_icmp .le 11, 3) := by decide +kernel
theorem dBy_twice_11 : decode kBy_twice 11 = .ok (.iload_n 1, 1) := by decide +kernel
theorem dBy_twice_12 : decode kBy_twice 12 = .ok (.sipush 285, 3) := by decide +kernel
theorem dBy_twice_15 : decode kBy_twice 15 = .ok (.ixor, 1) := by decide +kernel
theorem dBy_twice_16 : decode kBy_twice 16 = .ok (.goto 4, 3) := by decide +kernel
theorem dBy_twice_19 : decode kBy_twice 19 = .ok (.iload_n 1, 1) := by decide +kernel
theorem dBy_twice_20 : decode kBy_twice 20 = .ok (.ireturn, 1) := by decide +kernel
theorem dBy_product_0 : decode kBy_product 0 = .ok (.iconst 0, 1) := by decide +kernel
theorem dBy_product_1 : decode kBy_product 1 = .ok (.istore_n 2, 1) := by decide +kernel
theorem dBy_product_2 : decode kBy_product 2 = .ok (.iload_n 0, 1) := by decide +kernel
theorem dBy_product_3 : decode kBy_product 3 = .ok (.istore_n 3, 1) := by decide +kernel
theorem dBy_product_4 : decode kBy_product 4 = .ok (.iconst 0, 1) := by decide +kernel
theorem dBy_product_5 : decode kBy_product 5 = .ok (.istore 4, 2) := by decide +kernel
theorem dBy_product_7 : decode kBy_product 7 = .ok (.iload 4, 2) := by decide +kernel
theorem dBy_product_9 : decode kBy_product 9 = .ok (.bipush 8, 2) := by decide +kernel
theorem dBy_product_11 : decode kBy_product 11 = .ok (.if_icmp .ge 27, 3) := by decide +kernel
theorem dBy_product_14 : decode kBy_product 14 = .ok (.iload_n 1, 1) := by decide +kernel
theorem dBy_product_15 : decode kBy_product 15 = .ok (.iload 4, 2) := by decide +kernel
theorem dBy_product_17 : decode kBy_product 17 = .ok (.iushr, 1) := by decide +kernel
theorem dBy_product_18 : decode kBy_product 18 = .ok (.iconst 1, 1) := by decide +kernel
theorem dBy_product_19 : decode kBy_product 19 = .ok (.iand, 1) := by decide +kernel
theorem dBy_product_20 : decode kBy_product 20 = .ok (.ifCond .eq 7, 3) := by decide +kernel
theorem dBy_product_23 : decode kBy_product 23 = .ok (.iload_n 2, 1) := by decide +kernel
theorem dBy_product_24 : decode kBy_product 24 = .ok (.iload_n 3, 1) := by decide +kernel
theorem dBy_product_25 : decode kBy_product 25 = .ok (.ixor, 1) := by decide +kernel
theorem dBy_product_26 : decode kBy_product 26 = .ok (.istore_n 2, 1) := by decide +kernel
theorem dBy_product_27 : decode kBy_product 27 = .ok (.iload_n 3, 1) := by decide +kernel
theorem dBy_product_28 : decode kBy_product 28 = .ok (.invokestatic 16, 3) := by decide +kernel
theorem dBy_product_31 : decode kBy_product 31 = .ok (.istore_n 3, 1) := by decide +kernel
theorem dBy_product_32 : decode kBy_product 32 = .ok (.iinc 4 1, 3) := by decide +kernel
theorem dBy_product_35 : decode kBy_product 35 = .ok (.goto (-28), 3) := by decide +kernel
theorem dBy_product_38 : decode kBy_product 38 = .ok (.iload_n 2, 1) := by decide +kernel
theorem dBy_product_39 : decode kBy_product 39 = .ok (.ireturn, 1) := by decide +kernel
theorem dBy_raised_0 : decode kBy_raised 0 = .ok (.iload_n 0, 1) := by decide +kernel
theorem dBy_raised_1 : decode kBy_raised 1 = .ok (.istore_n 2, 1) := by decide +kernel
theorem dBy_raised_2 : decode kBy_raised 2 = .ok (.iconst 0, 1) := by decide +kernel
theorem dBy_raised_3 : decode kBy_raised 3 = .ok (.istore_n 3, 1) := by decide +kernel
theorem dBy_raised_4 : decode kBy_raised 4 = .ok (.iload_n 3, 1) := by decide +kernel
theorem dBy_raised_5 : decode kBy_raised 5 = .ok (.iload_n 1, 1) := by decide +kernel
theorem dBy_raised_6 : decode kBy_raised 6 = .ok (.if_icmp .ge 14, 3) := by decide +kernel
theorem dBy_raised_9 : decode kBy_raised 9 = .ok (.iload_n 2, 1) := by decide +kernel
theorem dBy_raised_10 : decode kBy_raised 10 = .ok (.invokestatic 16, 3) := by decide +kernel
theorem dBy_raised_13 : decode kBy_raised 13 = .ok (.istore_n 2, 1) := by decide +kernel
theorem dBy_raised_14 : decode kBy_raised 14 = .ok (.iinc 3 1, 3) := by decide +kernel
theorem dBy_raised_17 : decode kBy_raised 17 = .ok (.goto (-13), 3) := by decide +kernel
theorem dBy_raised_20 : decode kBy_raised 20 = .ok (.iload_n 2, 1) := by decide +kernel
theorem dBy_raised_21 : decode kBy_raised 21 = .ok (.ireturn, 1) := by decide +kernel
theorem dBy_inverse_0 : decode kBy_inverse 0 = .ok (.iconst 1, 1) := by decide +kernel
theorem dBy_inverse_1 : decode kBy_inverse 1 = .ok (.istore_n 1, 1) := by decide +kernel
theorem dBy_inverse_2 : decode kBy_inverse 2 = .ok (.iload_n 1, 1) := by decide +kernel
theorem dBy_inverse_3 : decode kBy_inverse 3 = .ok (.sipush 256, 3) := by decide +kernel
theorem dBy_inverse_6 : decode kBy_inverse 6 = .ok (.if_icmp .ge 20, 3) := by decide +kernel
theorem dBy_inverse_9 : decode kBy_inverse 9 = .ok (.iload_n 0, 1) := by decide +kernel
theorem dBy_inverse_10 : decode kBy_inverse 10 = .ok (.iload_n 1, 1) := by decide +kernel
theorem dBy_inverse_11 : decode kBy_inverse 11 = .ok (.invokestatic 20, 3) := by decide +kernel
theorem dBy_inverse_14 : decode kBy_inverse 14 = .ok (.iconst 1, 1) := by decide +kernel
theorem dBy_inverse_15 : decode kBy_inverse 15 = .ok (.if_icmp .ne 5, 3) := by decide +kernel
theorem dBy_inverse_18 : decode kBy_inverse 18 = .ok (.iload_n 1, 1) := by decide +kernel
theorem dBy_inverse_19 : decode kBy_inverse 19 = .ok (.ireturn, 1) := by decide +kernel
theorem dBy_inverse_20 : decode kBy_inverse 20 = .ok (.iinc 1 1, 3) := by decide +kernel
theorem dBy_inverse_23 : decode kBy_inverse 23 = .ok (.goto (-21), 3) := by decide +kernel
theorem dBy_inverse_26 : decode kBy_inverse 26 = .ok (.iconst 0, 1) := by decide +kernel
theorem dBy_inverse_27 : decode kBy_inverse 27 = .ok (.ireturn, 1) := by decide +kernel
theorem dBy_quotient_0 : decode kBy_quotient 0 = .ok (.iload_n 1, 1) := by decide +kernel
theorem dBy_quotient_1 : decode kBy_quotient 1 = .ok (.ifCond .gt 7, 3) := by decide +kernel
theorem dBy_quotient_4 : decode kBy_quotient 4 = .ok (.iconst 0, 1) := by decide +kernel
theorem dBy_quotient_5 : decode kBy_quotient 5 = .ok (.goto 6, 3) := by decide +kernel
theorem dBy_quotient_8 : decode kBy_quotient 8 = .ok (.iload_n 0, 1) := by decide +kernel
theorem dBy_quotient_9 : decode kBy_quotient 9 = .ok (.iload_n 1, 1) := by decide +kernel
theorem dBy_quotient_10 : decode kBy_quotient 10 = .ok (.idiv, 1) := by decide +kernel
theorem dBy_quotient_11 : decode kBy_quotient 11 = .ok (.ireturn, 1) := by decide +kernel
theorem dTa_init_0 : decode kTa_init 0 = .ok (.aload_n 0, 1) := by decide +kernel
theorem dTa_init_1 : decode kTa_init 1 = .ok (.invokespecial 3, 3) := by decide +kernel
theorem dTa_init_4 : decode kTa_init 4 = .ok (.aload_n 0, 1) := by decide +kernel
theorem dTa_init_5 : decode kTa_init 5 = .ok (.bipush 60, 2) := by decide +kernel
theorem dTa_init_7 : decode kTa_init 7 = .ok (.newarray .int, 2) := by decide +kernel
theorem dTa_init_9 : decode kTa_init 9 = .ok (.putfield 9, 3) := by decide +kernel
theorem dTa_init_12 : decode kTa_init 12 = .ok (.return_, 1) := by decide +kernel
theorem dTa_addNumber_0 : decode kTa_addNumber 0 = .ok (.bipush 24, 2) := by decide +kernel
theorem dTa_addNumber_2 : decode kTa_addNumber 2 = .ok (.istore_n 2, 1) := by decide +kernel
theorem dTa_addNumber_3 : decode kTa_addNumber 3 = .ok (.iload_n 2, 1) := by decide +kernel
theorem dTa_addNumber_4 : decode kTa_addNumber 4 = .ok (.ifCond .lt 20, 3) := by decide +kernel
theorem dTa_addNumber_7 : decode kTa_addNumber 7 = .ok (.aload_n 0, 1) := by decide +kernel
theorem dTa_addNumber_8 : decode kTa_addNumber 8 = .ok (.iload_n 1, 1) := by decide +kernel
theorem dTa_addNumber_9 : decode kTa_addNumber 9 = .ok (.iload_n 2, 1) := by decide +kernel
theorem dTa_addNumber_10 : decode kTa_addNumber 10 = .ok (.iushr, 1) := by decide +kernel
theorem dTa_addNumber_11 : decode kTa_addNumber 11 = .ok (.sipush 255, 3) := by decide +kernel
theorem dTa_addNumber_14 : decode kTa_addNumber 14 = .ok (.iand, 1) := by decide +kernel
theorem dTa_addNumber_15 : decode kTa_addNumber 15 = .ok (.invokevirtual 15, 3) := by decide +kernel
theorem dTa_addNumber_18 : decode kTa_addNumber 18 = .ok (.iinc 2 (-8), 3) := by decide +kernel
theorem dTa_addNumber_21 : decode kTa_addNumber 21 = .ok (.goto (-18), 3) := by decide +kernel
theorem dTa_addNumber_24 : decode kTa_addNumber 24 = .ok (.return_, 1) := by decide +kernel
theorem dTa_add_0 : decode kTa_add 0 = .ok (.aload_n 0, 1) := by decide +kernel
theorem dTa_add_1 : decode kTa_add 1 = .ok (.getfield 19, 3) := by decide +kernel
theorem dTa_add_4 : decode kTa_add 4 = .ok (.ifCond .lt 32, 3) := by decide +kernel
theorem dTa_add_7 : decode kTa_add 7 = .ok (.aload_n 0, 1) := by decide +kernel
theorem dTa_add_8 : decode kTa_add 8 = .ok (.getfield 19, 3) := by decide +kernel
theorem dTa_add_11 : decode kTa_add 11 = .ok (.bipush 60, 2) := by decide +kernel
theorem dTa_add_13 : decode kTa_add 13 = .ok (.if_icmp .ge 23, 3) := by decide +kernel
theorem dTa_add_16 : decode kTa_add 16 = .ok (.aload_n 0, 1) := by decide +kernel
theorem dTa_add_17 : decode kTa_add 17 = .ok (.getfield 9, 3) := by decide +kernel
theorem dTa_add_20 : decode kTa_add 20 = .ok (.aload_n 0, 1) := by decide +kernel
theorem dTa_add_21 : decode kTa_add 21 = .ok (.getfield 19, 3) := by decide +kernel
theorem dTa_add_24 : decode kTa_add 24 = .ok (.iload_n 1, 1) := by decide +kernel
theorem dTa_add_25 : decode kTa_add 25 = .ok (.iastore, 1) := by decide +kernel
theorem dTa_add_26 : decode kTa_add 26 = .ok (.aload_n 0, 1) := by decide +kernel
theorem dTa_add_27 : decode kTa_add 27 = .ok (.dup, 1) := by decide +kernel
theorem dTa_add_28 : decode kTa_add 28 = .ok (.getfield 19, 3) := by decide +kernel
theorem dTa_add_31 : decode kTa_add 31 = .ok (.iconst 1, 1) := by decide +kernel
theorem dTa_add_32 : decode kTa_add 32 = .ok (.iadd, 1) := by decide +kernel
theorem dTa_add_33 : decode kTa_add 33 = .ok (.putfield 19, 3) := by decide +kernel
theorem dTa_add_36 : decode kTa_add 36 = .ok (.return_, 1) := by decide +kernel
theorem dTa_byteAt_0 : decode kTa_byteAt 0 = .ok (.iload_n 1, 1) := by decide +kernel
theorem dTa_byteAt_1 : decode kTa_byteAt 1 = .ok (.ifCond .lt 9, 3) := by decide +kernel
theorem dTa_byteAt_4 : decode kTa_byteAt 4 = .ok (.iload_n 1, 1) := by decide +kernel
theorem dTa_byteAt_5 : decode kTa_byteAt 5 = .ok (.bipush 60, 2) := by decide +kernel
theorem dTa_byteAt_7 : decode kTa_byteAt 7 = .ok (.if_icmp .lt 7, 3) := by decide +kernel
theorem dTa_byteAt_10 : decode kTa_byteAt 10 = .ok (.iconst 0, 1) := by decide +kernel
theorem dTa_byteAt_11 : decode kTa_byteAt 11 = .ok (.goto 9, 3) := by decide +kernel
theorem dTa_byteAt_14 : decode kTa_byteAt 14 = .ok (.aload_n 0, 1) := by decide +kernel
theorem dTa_byteAt_15 : decode kTa_byteAt 15 = .ok (.getfield 9, 3) := by decide +kernel
theorem dTa_byteAt_18 : decode kTa_byteAt 18 = .ok (.iload_n 1, 1) := by decide +kernel
theorem dTa_byteAt_19 : decode kTa_byteAt 19 = .ok (.iaload, 1) := by decide +kernel
theorem dTa_byteAt_20 : decode kTa_byteAt 20 = .ok (.ireturn, 1) := by decide +kernel
theorem dTa_sum_0 : decode kTa_sum 0 = .ok (.aload_n 0, 1) := by decide +kernel
theorem dTa_sum_1 : decode kTa_sum 1 = .ok (.getfield 9, 3) := by decide +kernel
theorem dTa_sum_4 : decode kTa_sum 4 = .ok (.iconst 0, 1) := by decide +kernel
theorem dTa_sum_5 : decode kTa_sum 5 = .ok (.aload_n 0, 1) := by decide +kernel
theorem dTa_sum_6 : decode kTa_sum 6 = .ok (.getfield 19, 3) := by decide +kernel
theorem dTa_sum_9 : decode kTa_sum 9 = .ok (.invokestatic 23, 3) := by decide +kernel
theorem dTa_sum_12 : decode kTa_sum 12 = .ok (.ireturn, 1) := by decide +kernel
theorem dRu_init_0 : decode kRu_init 0 = .ok (.aload_n 0, 1) := by decide +kernel
theorem dRu_init_1 : decode kRu_init 1 = .ok (.invokespecial 3, 3) := by decide +kernel
theorem dRu_init_4 : decode kRu_init 4 = .ok (.aload_n 0, 1) := by decide +kernel
theorem dRu_init_5 : decode kRu_init 5 = .ok (.bipush 32, 2) := by decide +kernel
theorem dRu_init_7 : decode kRu_init 7 = .ok (.putfield 9, 3) := by decide +kernel
theorem dRu_init_10 : decode kRu_init 10 = .ok (.return_, 1) := by decide +kernel
theorem dRu_width_0 : decode kRu_width 0 = .ok (.aload_n 0, 1) := by decide +kernel
theorem dRu_width_1 : decode kRu_width 1 = .ok (.getfield 9, 3) := by decide +kernel
theorem dRu_width_4 : decode kRu_width 4 = .ok (.bipush 12, 2) := by decide +kernel
theorem dRu_width_6 : decode kRu_width 6 = .ok (.isub, 1) := by decide +kernel
theorem dRu_width_7 : decode kRu_width 7 = .ok (.ireturn, 1) := by decide +kernel
theorem dRu_change_0 : decode kRu_change 0 = .ok (.iload_n 1, 1) := by decide +kernel
theorem dRu_change_1 : decode kRu_change 1 = .ok (.tableswitch 45 0 2 #[27, 33, 39], 27) := by decide +kernel
theorem dRu_change_28 : decode kRu_change 28 = .ok (.aload_n 0, 1) := by decide +kernel
theorem dRu_change_29 : decode kRu_change 29 = .ok (.iload_n 2, 1) := by decide +kernel
theorem dRu_change_30 : decode kRu_change 30 = .ok (.invokevirtual 15, 3) := by decide +kernel
theorem dRu_change_33 : decode kRu_change 33 = .ok (.ireturn, 1) := by decide +kernel
theorem dRu_change_34 : decode kRu_change 34 = .ok (.aload_n 0, 1) := by decide +kernel
theorem dRu_change_35 : decode kRu_change 35 = .ok (.iload_n 2, 1) := by decide +kernel
theorem dRu_change_36 : decode kRu_change 36 = .ok (.invokevirtual 19, 3) := by decide +kernel
theorem dRu_change_39 : decode kRu_change 39 = .ok (.ireturn, 1) := by decide +kernel
theorem dRu_change_40 : decode kRu_change 40 = .ok (.aload_n 0, 1) := by decide +kernel
theorem dRu_change_41 : decode kRu_change 41 = .ok (.iload_n 2, 1) := by decide +kernel
theorem dRu_change_42 : decode kRu_change 42 = .ok (.invokevirtual 22, 3) := by decide +kernel
theorem dRu_change_45 : decode kRu_change 45 = .ok (.ireturn, 1) := by decide +kernel
theorem dRu_change_46 : decode kRu_change 46 = .ok (.iconst (-1), 1) := by decide +kernel
theorem dRu_change_47 : decode kRu_change 47 = .ok (.ireturn, 1) := by decide +kernel
theorem dRu_changeSize_0 : decode kRu_changeSize 0 = .ok (.iload_n 1, 1) := by decide +kernel
theorem dRu_changeSize_1 : decode kRu_changeSize 1 = .ok (.bipush 20, 2) := by decide +kernel
theorem dRu_changeSize_3 : decode kRu_changeSize 3 = .ok (.if_icmp .lt 9, 3) := by decide +kernel
theorem dRu_changeSize_6 : decode kRu_changeSize 6 = .ok (.iload_n 1, 1) := by decide +kernel
theorem dRu_changeSize_7 : decode kRu_changeSize 7 = .ok (.bipush 80, 2) := by decide +kernel
theorem dRu_changeSize_9 : decode kRu_changeSize 9 = .ok (.if_icmp .le 5, 3) := by decide +kernel
theorem dRu_changeSize_12 : decode kRu_changeSize 12 = .ok (.iconst (-1), 1) := by decide +kernel
theorem dRu_changeSize_13 : decode kRu_changeSize 13 = .ok (.ireturn, 1) := by decide +kernel
theorem dRu_changeSize_14 : decode kRu_changeSize 14 = .ok (.aload_n 0, 1) := by decide +kernel
theorem dRu_changeSize_15 : decode kRu_changeSize 15 = .ok (.getfield 9, 3) := by decide +kernel
theorem dRu_changeSize_18 : decode kRu_changeSize 18 = .ok (.istore_n 2, 1) := by decide +kernel
theorem dRu_changeSize_19 : decode kRu_changeSize 19 = .ok (.aload_n 0, 1) := by decide +kernel
theorem dRu_changeSize_20 : decode kRu_changeSize 20 = .ok (.iload_n 1, 1) := by decide +kernel
theorem dRu_changeSize_21 : decode kRu_changeSize 21 = .ok (.putfield 9, 3) := by decide +kernel
theorem dRu_changeSize_24 : decode kRu_changeSize 24 = .ok (.iload_n 2, 1) := by decide +kernel
theorem dRu_changeSize_25 : decode kRu_changeSize 25 = .ok (.ireturn, 1) := by decide +kernel
theorem dRu_changeRepairs_0 : decode kRu_changeRepairs 0 = .ok (.iload_n 1, 1) := by decide +kernel
theorem dRu_changeRepairs_1 : decode kRu_changeRepairs 1 = .ok (.ifCond .lt 8, 3) := by decide +kernel
theorem dRu_changeRepairs_4 : decode kRu_changeRepairs 4 = .ok (.iload_n 1, 1) := by decide +kernel
theorem dRu_changeRepairs_5 : decode kRu_changeRepairs 5 = .ok (.iconst 3, 1) := by decide +kernel
theorem dRu_changeRepairs_6 : decode kRu_changeRepairs 6 = .ok (.if_icmp .le 5, 3) := by decide +kernel
theorem dRu_changeRepairs_9 : decode kRu_changeRepairs 9 = .ok (.iconst (-1), 1) := by decide +kernel
theorem dRu_changeRepairs_10 : decode kRu_changeRepairs 10 = .ok (.ireturn, 1) := by decide +kernel
theorem dRu_changeRepairs_11 : decode kRu_changeRepairs 11 = .ok (.aload_n 0, 1) := by decide +kernel
theorem dRu_changeRepairs_12 : decode kRu_changeRepairs 12 = .ok (.getfield 25, 3) := by decide +kernel
theorem dRu_changeRepairs_15 : decode kRu_changeRepairs 15 = .ok (.istore_n 2, 1) := by decide +kernel
theorem dRu_changeRepairs_16 : decode kRu_changeRepairs 16 = .ok (.aload_n 0, 1) := by decide +kernel
theorem dRu_changeRepairs_17 : decode kRu_changeRepairs 17 = .ok (.iload_n 1, 1) := by decide +kernel
theorem dRu_changeRepairs_18 : decode kRu_changeRepairs 18 = .ok (.putfield 25, 3) := by decide +kernel
theorem dRu_changeRepairs_21 : decode kRu_changeRepairs 21 = .ok (.iload_n 2, 1) := by decide +kernel
theorem dRu_changeRepairs_22 : decode kRu_changeRepairs 22 = .ok (.ireturn, 1) := by decide +kernel
theorem dRu_changeSet_0 : decode kRu_changeSet 0 = .ok (.iload_n 1, 1) := by decide +kernel
theorem dRu_changeSet_1 : decode kRu_changeSet 1 = .ok (.ifCond .lt 10, 3) := by decide +kernel
theorem dRu_changeSet_4 : decode kRu_changeSet 4 = .ok (.iload_n 1, 1) := by decide +kernel
theorem dRu_changeSet_5 : decode kRu_changeSet 5 = .ok (.sipush 255, 3) := by decide +kernel
theorem dRu_changeSet_8 : decode kRu_changeSet 8 = .ok (.if_icmp .le 5, 3) := by decide +kernel
theorem dRu_changeSet_11 : decode kRu_changeSet 11 = .ok (.iconst (-1), 1) := by decide +kernel
theorem dRu_changeSet_12 : decode kRu_changeSet 12 = .ok (.ireturn, 1) := by decide +kernel
theorem dRu_changeSet_13 : decode kRu_changeSet 13 = .ok (.aload_n 0, 1) := by decide +kernel
theorem dRu_changeSet_14 : decode kRu_changeSet 14 = .ok (.getfield 28, 3) := by decide +kernel
theorem dRu_changeSet_17 : decode kRu_changeSet 17 = .ok (.istore_n 2, 1) := by decide +kernel
theorem dRu_changeSet_18 : decode kRu_changeSet 18 = .ok (.aload_n 0, 1) := by decide +kernel
theorem dRu_changeSet_19 : decode kRu_changeSet 19 = .ok (.iload_n 1, 1) := by decide +kernel
theorem dRu_changeSet_20 : decode kRu_changeSet 20 = .ok (.putfield 28, 3) := by decide +kernel
theorem dRu_changeSet_23 : decode kRu_changeSet 23 = .ok (.iload_n 2, 1) := by decide +kernel
theorem dRu_changeSet_24 : decode kRu_changeSet 24 = .ok (.ireturn, 1) := by decide +kernel
theorem dVo_init_0 : decode kVo_init 0 = .ok (.aload_n 0, 1) := by decide +kernel
theorem dVo_init_1 : decode kVo_init 1 = .ok (.invokespecial 3, 3) := by decide +kernel
theorem dVo_init_4 : decode kVo_init 4 = .ok (.aload_n 0, 1) := by decide +kernel
theorem dVo_init_5 : decode kVo_init 5 = .ok (.bipush 80, 2) := by decide +kernel
theorem dVo_init_7 : decode kVo_init 7 = .ok (.newarray .int, 2) := by decide +kernel
theorem dVo_init_9 : decode kVo_init 9 = .ok (.putfield 9, 3) := by decide +kernel
theorem dVo_init_12 : decode kVo_init 12 = .ok (.return_, 1) := by decide +kernel
theorem dVo_byteAt_0 : decode kVo_byteAt 0 = .ok (.iload_n 1, 1) := by decide +kernel
theorem dVo_byteAt_1 : decode kVo_byteAt 1 = .ok (.ifCond .lt 9, 3) := by decide +kernel
theorem dVo_byteAt_4 : decode kVo_byteAt 4 = .ok (.iload_n 1, 1) := by decide +kernel
theorem dVo_byteAt_5 : decode kVo_byteAt 5 = .ok (.bipush 80, 2) := by decide +kernel
theorem dVo_byteAt_7 : decode kVo_byteAt 7 = .ok (.if_icmp .lt 7, 3) := by decide +kernel
theorem dVo_byteAt_10 : decode kVo_byteAt 10 = .ok (.iconst 0, 1) := by decide +kernel
theorem dVo_byteAt_11 : decode kVo_byteAt 11 = .ok (.goto 9, 3) := by decide +kernel
theorem dVo_byteAt_14 : decode kVo_byteAt 14 = .ok (.aload_n 0, 1) := by decide +kernel
theorem dVo_byteAt_15 : decode kVo_byteAt 15 = .ok (.getfield 9, 3) := by decide +kernel
theorem dVo_byteAt_18 : decode kVo_byteAt 18 = .ok (.iload_n 1, 1) := by decide +kernel
theorem dVo_byteAt_19 : decode kVo_byteAt 19 = .ok (.iaload, 1) := by decide +kernel
theorem dVo_byteAt_20 : decode kVo_byteAt 20 = .ok (.ireturn, 1) := by decide +kernel
theorem dVo_put_0 : decode kVo_put 0 = .ok (.iload_n 1, 1) := by decide +kernel
theorem dVo_put_1 : decode kVo_put 1 = .ok (.ifCond .lt 16, 3) := by decide +kernel
theorem dVo_put_4 : decode kVo_put 4 = .ok (.iload_n 1, 1) := by decide +kernel
theorem dVo_put_5 : decode kVo_put 5 = .ok (.bipush 80, 2) := by decide +kernel
theorem dVo_put_7 : decode kVo_put 7 = .ok (.if_icmp .ge 10, 3) := by decide +kernel
theorem dVo_put_10 : decode kVo_put 10 = .ok (.aload_n 0, 1) := by decide +kernel
theorem dVo_put_11 : decode kVo_put 11 = .ok (.getfield 9, 3) := by decide +kernel
theorem dVo_put_14 : decode kVo_put 14 = .ok (.iload_n 1, 1) := by decide +kernel
theorem dVo_put_15 : decode kVo_put 15 = .ok (.iload_n 2, 1) := by decide +kernel
theorem dVo_put_16 : decode kVo_put 16 = .ok (.iastore, 1) := by decide +kernel
theorem dVo_put_17 : decode kVo_put 17 = .ok (.return_, 1) := by decide +kernel
theorem dVo_putSum_0 : decode kVo_putSum 0 = .ok (.aload_n 0, 1) := by decide +kernel
theorem dVo_putSum_1 : decode kVo_putSum 1 = .ok (.iload_n 1, 1) := by decide +kernel
theorem dVo_putSum_2 : decode kVo_putSum 2 = .ok (.iload_n 2, 1) := by decide +kernel
theorem dVo_putSum_3 : decode kVo_putSum 3 = .ok (.sipush 255, 3) := by decide +kernel
theorem dVo_putSum_6 : decode kVo_putSum 6 = .ok (.iand, 1) := by decide +kernel
theorem dVo_putSum_7 : decode kVo_putSum 7 = .ok (.invokevirtual 15, 3) := by decide +kernel
theorem dVo_putSum_10 : decode kVo_putSum 10 = .ok (.aload_n 0, 1) := by decide +kernel
theorem dVo_putSum_11 : decode kVo_putSum 11 = .ok (.iload_n 1, 1) := by decide +kernel
theorem dVo_putSum_12 : decode kVo_putSum 12 = .ok (.iconst 1, 1) := by decide +kernel
theorem dVo_putSum_13 : decode kVo_putSum 13 = .ok (.iadd, 1) := by decide +kernel
theorem dVo_putSum_14 : decode kVo_putSum 14 = .ok (.iload_n 2, 1) := by decide +kernel
theorem dVo_putSum_15 : decode kVo_putSum 15 = .ok (.bipush 8, 2) := by decide +kernel
theorem dVo_putSum_17 : decode kVo_putSum 17 = .ok (.iushr, 1) := by decide +kernel
theorem dVo_putSum_18 : decode kVo_putSum 18 = .ok (.invokevirtual 15, 3) := by decide +kernel
theorem dVo_putSum_21 : decode kVo_putSum 21 = .ok (.return_, 1) := by decide +kernel
theorem dVo_sumAt_0 : decode kVo_sumAt 0 = .ok (.aload_n 0, 1) := by decide +kernel
theorem dVo_sumAt_1 : decode kVo_sumAt 1 = .ok (.iload_n 1, 1) := by decide +kernel
theorem dVo_sumAt_2 : decode kVo_sumAt 2 = .ok (.invokevirtual 19, 3) := by decide +kernel
theorem dVo_sumAt_5 : decode kVo_sumAt 5 = .ok (.aload_n 0, 1) := by decide +kernel
theorem dVo_sumAt_6 : decode kVo_sumAt 6 = .ok (.iload_n 1, 1) := by decide +kernel
theorem dVo_sumAt_7 : decode kVo_sumAt 7 = .ok (.iconst 1, 1) := by decide +kernel
theorem dVo_sumAt_8 : decode kVo_sumAt 8 = .ok (.iadd, 1) := by decide +kernel
theorem dVo_sumAt_9 : decode kVo_sumAt 9 = .ok (.invokevirtual 19, 3) := by decide +kernel
theorem dVo_sumAt_12 : decode kVo_sumAt 12 = .ok (.bipush 8, 2) := by decide +kernel
theorem dVo_sumAt_14 : decode kVo_sumAt 14 = .ok (.ishl, 1) := by decide +kernel
theorem dVo_sumAt_15 : decode kVo_sumAt 15 = .ok (.iadd, 1) := by decide +kernel
theorem dVo_sumAt_16 : decode kVo_sumAt 16 = .ok (.ireturn, 1) := by decide +kernel
theorem dVo_seal_0 : decode kVo_seal 0 = .ok (.aload_n 0, 1) := by decide +kernel
theorem dVo_seal_1 : decode kVo_seal 1 = .ok (.bipush 8, 2) := by decide +kernel
theorem dVo_seal_3 : decode kVo_seal 3 = .ok (.aload_n 0, 1) := by decide +kernel
theorem dVo_seal_4 : decode kVo_seal 4 = .ok (.getfield 9, 3) := by decide +kernel
theorem dVo_seal_7 : decode kVo_seal 7 = .ok (.bipush 12, 2) := by decide +kernel
theorem dVo_seal_9 : decode kVo_seal 9 = .ok (.aload_n 0, 1) := by decide +kernel
theorem dVo_seal_10 : decode kVo_seal 10 = .ok (.getfield 23, 3) := by decide +kernel
theorem dVo_seal_13 : decode kVo_seal 13 = .ok (.invokestatic 27, 3) := by decide +kernel
theorem dVo_seal_16 : decode kVo_seal 16 = .ok (.invokevirtual 33, 3) := by decide +kernel
theorem dVo_seal_19 : decode kVo_seal 19 = .ok (.aload_n 0, 1) := by decide +kernel
theorem dVo_seal_20 : decode kVo_seal 20 = .ok (.bipush 10, 2) := by decide +kernel
theorem dVo_seal_22 : decode kVo_seal 22 = .ok (.aload_n 0, 1) := by decide +kernel
theorem dVo_seal_23 : decode kVo_seal 23 = .ok (.getfield 9, 3) := by decide +kernel
theorem dVo_seal_26 : decode kVo_seal 26 = .ok (.iconst 0, 1) := by decide +kernel
theorem dVo_seal_27 : decode kVo_seal 27 = .ok (.bipush 10, 2) := by decide +kernel
theorem dVo_seal_29 : decode kVo_seal 29 = .ok (.invokestatic 27, 3) := by decide +kernel
theorem dVo_seal_32 : decode kVo_seal 32 = .ok (.invokevirtual 33, 3) := by decide +kernel
theorem dVo_seal_35 : decode kVo_seal 35 = .ok (.return_, 1) := by decide +kernel
theorem dVo_cutOff_0 : decode kVo_cutOff 0 = .ok (.aload_n 0, 1) := by decide +kernel
theorem dVo_cutOff_1 : decode kVo_cutOff 1 = .ok (.getfield 23, 3) := by decide +kernel
theorem dVo_cutOff_4 : decode kVo_cutOff 4 = .ok (.iconst 2, 1) := by decide +kernel
theorem dVo_cutOff_5 : decode kVo_cutOff 5 = .ok (.idiv, 1) := by decide +kernel
theorem dVo_cutOff_6 : decode kVo_cutOff 6 = .ok (.istore_n 1, 1) := by decide +kernel
theorem dVo_cutOff_7 : decode kVo_cutOff 7 = .ok (.iload_n 1, 1) := by decide +kernel
theorem dVo_cutOff_8 : decode kVo_cutOff 8 = .ok (.aload_n 0, 1) := by decide +kernel
theorem dVo_cutOff_9 : decode kVo_cutOff 9 = .ok (.getfield 23, 3) := by decide +kernel
theorem dVo_cutOff_12 : decode kVo_cutOff 12 = .ok (.if_icmp .ge 15, 3) := by decide +kernel
theorem dVo_cutOff_15 : decode kVo_cutOff 15 = .ok (.aload_n 0, 1) := by decide +kernel
theorem dVo_cutOff_16 : decode kVo_cutOff 16 = .ok (.iload_n 1, 1) := by decide +kernel
theorem dVo_cutOff_17 : decode kVo_cutOff 17 = .ok (.iconst 0, 1) := by decide +kernel
theorem dVo_cutOff_18 : decode kVo_cutOff 18 = .ok (.invokevirtual 15, 3) := by decide +kernel
theorem dVo_cutOff_21 : decode kVo_cutOff 21 = .ok (.iinc 1 1, 3) := by decide +kernel
theorem dVo_cutOff_24 : decode kVo_cutOff 24 = .ok (.goto (-17), 3) := by decide +kernel
theorem dVo_cutOff_27 : decode kVo_cutOff 27 = .ok (.return_, 1) := by decide +kernel
theorem dVo_become_0 : decode kVo_become 0 = .ok (.aload_n 1, 1) := by decide +kernel
theorem dVo_become_1 : decode kVo_become 1 = .ok (.getfield 9, 3) := by decide +kernel
theorem dVo_become_4 : decode kVo_become 4 = .ok (.iconst 0, 1) := by decide +kernel
theorem dVo_become_5 : decode kVo_become 5 = .ok (.aload_n 0, 1) := by decide +kernel
theorem dVo_become_6 : decode kVo_become 6 = .ok (.getfield 9, 3) := by decide +kernel
theorem dVo_become_9 : decode kVo_become 9 = .ok (.iconst 0, 1) := by decide +kernel
theorem dVo_become_10 : decode kVo_become 10 = .ok (.bipush 80, 2) := by decide +kernel
theorem dVo_become_12 : decode kVo_become 12 = .ok (.invokestatic 36, 3) := by decide +kernel
theorem dVo_become_15 : decode kVo_become 15 = .ok (.aload_n 0, 1) := by decide +kernel
theorem dVo_become_16 : decode kVo_become 16 = .ok (.aload_n 1, 1) := by decide +kernel
theorem dVo_become_17 : decode kVo_become 17 = .ok (.getfield 23, 3) := by decide +kernel
theorem dVo_become_20 : decode kVo_become 20 = .ok (.putfield 23, 3) := by decide +kernel
theorem dVo_become_23 : decode kVo_become 23 = .ok (.return_, 1) := by decide +kernel
theorem dVo_hasJustTheBytesOf_0 : decode kVo_hasJustTheBytesOf 0 = .ok (.aload_n 0, 1) := by decide +kernel
theorem dVo_hasJustTheBytesOf_1 : decode kVo_hasJustTheBytesOf 1 = .ok (.getfield 23, 3) := by decide +kernel
theorem dVo_hasJustTheBytesOf_4 : decode kVo_hasJustTheBytesOf 4 = .ok (.aload_n 1, 1) := by decide +kernel
theorem dVo_hasJustTheBytesOf_5 : decode kVo_hasJustTheBytesOf 5 = .ok (.getfield 23, 3) := by decide +kernel
theorem dVo_hasJustTheBytesOf_8 : decode kVo_hasJustTheBytesOf 8 = .ok (.if_icmp .eq 5, 3) := by decide +kernel
theorem dVo_hasJustTheBytesOf_11 : decode kVo_hasJustTheBytesOf 11 = .ok (.iconst 0, 1) := by decide +kernel
theorem dVo_hasJustTheBytesOf_12 : decode kVo_hasJustTheBytesOf 12 = .ok (.ireturn, 1) := by decide +kernel
theorem dVo_hasJustTheBytesOf_13 : decode kVo_hasJustTheBytesOf 13 = .ok (.iconst 0, 1) := by decide +kernel
theorem dVo_hasJustTheBytesOf_14 : decode kVo_hasJustTheBytesOf 14 = .ok (.istore_n 2, 1) := by decide +kernel
theorem dVo_hasJustTheBytesOf_15 : decode kVo_hasJustTheBytesOf 15 = .ok (.iload_n 2, 1) := by decide +kernel
theorem dVo_hasJustTheBytesOf_16 : decode kVo_hasJustTheBytesOf 16 = .ok (.aload_n 0, 1) := by decide +kernel
theorem dVo_hasJustTheBytesOf_17 : decode kVo_hasJustTheBytesOf 17 = .ok (.getfield 23, 3) := by decide +kernel
theorem dVo_hasJustTheBytesOf_20 : decode kVo_hasJustTheBytesOf 20 = .ok (.if_icmp .ge 24, 3) := by decide +kernel
theorem dVo_hasJustTheBytesOf_23 : decode kVo_hasJustTheBytesOf 23 = .ok (.aload_n 0, 1) := by decide +kernel
theorem dVo_hasJustTheBytesOf_24 : decode kVo_hasJustTheBytesOf 24 = .ok (.iload_n 2, 1) := by decide +kernel
theorem dVo_hasJustTheBytesOf_25 : decode kVo_hasJustTheBytesOf 25 = .ok (.invokevirtual 19, 3) := by decide +kernel
theorem dVo_hasJustTheBytesOf_28 : decode kVo_hasJustTheBytesOf 28 = .ok (.aload_n 1, 1) := by decide +kernel
theorem dVo_hasJustTheBytesOf_29 : decode kVo_hasJustTheBytesOf 29 = .ok (.iload_n 2, 1) := by decide +kernel
theorem dVo_hasJustTheBytesOf_30 : decode kVo_hasJustTheBytesOf 30 = .ok (.invokevirtual 19, 3) := by decide +kernel
theorem dVo_hasJustTheBytesOf_33 : decode kVo_hasJustTheBytesOf 33 = .ok (.if_icmp .eq 5, 3) := by decide +kernel
theorem dVo_hasJustTheBytesOf_36 : decode kVo_hasJustTheBytesOf 36 = .ok (.iconst 0, 1) := by decide +kernel
theorem dVo_hasJustTheBytesOf_37 : decode kVo_hasJustTheBytesOf 37 = .ok (.ireturn, 1) := by decide +kernel
theorem dVo_hasJustTheBytesOf_38 : decode kVo_hasJustTheBytesOf 38 = .ok (.iinc 2 1, 3) := by decide +kernel
theorem dVo_hasJustTheBytesOf_41 : decode kVo_hasJustTheBytesOf 41 = .ok (.goto (-26), 3) := by decide +kernel
theorem dVo_hasJustTheBytesOf_44 : decode kVo_hasJustTheBytesOf 44 = .ok (.iconst 1, 1) := by decide +kernel
theorem dVo_hasJustTheBytesOf_45 : decode kVo_hasJustTheBytesOf 45 = .ok (.ireturn, 1) := by decide +kernel
theorem dVo_hasHead_0 : decode kVo_hasHead 0 = .ok (.aload_n 0, 1) := by decide +kernel
theorem dVo_hasHead_1 : decode kVo_hasHead 1 = .ok (.iconst 4, 1) := by decide +kernel
theorem dVo_hasHead_2 : decode kVo_hasHead 2 = .ok (.invokevirtual 19, 3) := by decide +kernel
theorem dVo_hasHead_5 : decode kVo_hasHead 5 = .ok (.istore_n 1, 1) := by decide +kernel
theorem dVo_hasHead_6 : decode kVo_hasHead 6 = .ok (.aload_n 0, 1) := by decide +kernel
theorem dVo_hasHead_7 : decode kVo_hasHead 7 = .ok (.iconst 5, 1) := by decide +kernel
theorem dVo_hasHead_8 : decode kVo_hasHead 8 = .ok (.invokevirtual 19, 3) := by decide +kernel
theorem dVo_hasHead_11 : decode kVo_hasHead 11 = .ok (.istore_n 2, 1) := by decide +kernel
theorem dVo_hasHead_12 : decode kVo_hasHead 12 = .ok (.aload_n 0, 1) := by decide +kernel
theorem dVo_hasHead_13 : decode kVo_hasHead 13 = .ok (.getfield 23, 3) := by decide +kernel
theorem dVo_hasHead_16 : decode kVo_hasHead 16 = .ok (.bipush 12, 2) := by decide +kernel
theorem dVo_hasHead_18 : decode kVo_hasHead 18 = .ok (.if_icmp .lt 73, 3) := by decide +kernel
theorem dVo_hasHead_21 : decode kVo_hasHead 21 = .ok (.aload_n 0, 1) := by decide +kernel
theorem dVo_hasHead_22 : decode kVo_hasHead 22 = .ok (.iconst 0, 1) := by decide +kernel
theorem dVo_hasHead_23 : decode kVo_hasHead 23 = .ok (.invokevirtual 19, 3) := by decide +kernel
theorem dVo_hasHead_26 : decode kVo_hasHead 26 = .ok (.bipush 86, 2) := by decide +kernel
theorem dVo_hasHead_28 : decode kVo_hasHead 28 = .ok (.if_icmp .ne 63, 3) := by decide +kernel
theorem dVo_hasHead_31 : decode kVo_hasHead 31 = .ok (.aload_n 0, 1) := by decide +kernel
theorem dVo_hasHead_32 : decode kVo_hasHead 32 = .ok (.iconst 1, 1) := by decide +kernel
theorem dVo_hasHead_33 : decode kVo_hasHead 33 = .ok (.invokevirtual 19, 3) := by decide +kernel
theorem dVo_hasHead_36 : decode kVo_hasHead 36 = .ok (.bipush 83, 2) := by decide +kernel
theorem dVo_hasHead_38 : decode kVo_hasHead 38 = .ok (.if_icmp .ne 53, 3) := by decide +kernel
theorem dVo_hasHead_41 : decode kVo_hasHead 41 = .ok (.aload_n 0, 1) := by decide +kernel
theorem dVo_hasHead_42 : decode kVo_hasHead 42 = .ok (.bipush 10, 2) := by decide +kernel
theorem dVo_hasHead_44 : decode kVo_hasHead 44 = .ok (.invokevirtual 42, 3) := by decide +kernel
theorem dVo_hasHead_47 : decode kVo_hasHead 47 = .ok (.aload_n 0, 1) := by decide +kernel
theorem dVo_hasHead_48 : decode kVo_hasHead 48 = .ok (.getfield 9, 3) := by decide +kernel
theorem dVo_hasHead_51 : decode kVo_hasHead 51 = .ok (.iconst 0, 1) := by decide +kernel
theorem dVo_hasHead_52 : decode kVo_hasHead 52 = .ok (.bipush 10, 2) := by decide +kernel
theorem dVo_hasHead_54 : decode kVo_hasHead 54 = .ok (.invokestatic 27, 3) := by decide +kernel
theorem dVo_hasHead_57 : decode kVo_hasHead 57 = .ok (.if_icmp .ne 34, 3) := by decide +kernel
theorem dVo_hasHead_60 : decode kVo_hasHead 60 = .ok (.iload_n 1, 1) := by decide +kernel
theorem dVo_hasHead_61 : decode kVo_hasHead 61 = .ok (.iconst 1, 1) := by decide +kernel
theorem dVo_hasHead_62 : decode kVo_hasHead 62 = .ok (.if_icmp .lt 29, 3) := by decide +kernel
theorem dVo_hasHead_65 : decode kVo_hasHead 65 = .ok (.iload_n 1, 1) := by decide +kernel
theorem dVo_hasHead_66 : decode kVo_hasHead 66 = .ok (.bipush 60, 2) := by decide +kernel
theorem dVo_hasHead_68 : decode kVo_hasHead 68 = .ok (.if_icmp .gt 23, 3) := by decide +kernel
theorem dVo_hasHead_71 : decode kVo_hasHead 71 = .ok (.iload_n 2, 1) := by decide +kernel
theorem dVo_hasHead_72 : decode kVo_hasHead 72 = .ok (.iconst 3, 1) := by decide +kernel
theorem dVo_hasHead_73 : decode kVo_hasHead 73 = .ok (.if_icmp .gt 18, 3) := by decide +kernel
theorem dVo_hasHead_76 : decode kVo_hasHead 76 = .ok (.aload_n 0, 1) := by decide +kernel
theorem dVo_hasHead_77 : decode kVo_hasHead 77 = .ok (.iconst 3, 1) := by decide +kernel
theorem dVo_hasHead_78 : decode kVo_hasHead 78 = .ok (.invokevirtual 19, 3) := by decide +kernel
theorem dVo_hasHead_81 : decode kVo_hasHead 81 = .ok (.iload_n 1, 1) := by decide +kernel
theorem dVo_hasHead_82 : decode kVo_hasHead 82 = .ok (.iload_n 2, 1) := by decide +kernel
theorem dVo_hasHead_83 : decode kVo_hasHead 83 = .ok (.iadd, 1) := by decide +kernel
theorem dVo_hasHead_84 : decode kVo_hasHead 84 = .ok (.if_icmp .ge 7, 3) := by decide +kernel
theorem dVo_hasHead_87 : decode kVo_hasHead 87 = .ok (.iconst 1, 1) := by decide +kernel
theorem dVo_hasHead_88 : decode kVo_hasHead 88 = .ok (.goto 4, 3) := by decide +kernel
theorem dVo_hasHead_91 : decode kVo_hasHead 91 = .ok (.iconst 0, 1) := by decide +kernel
theorem dVo_hasHead_92 : decode kVo_hasHead 92 = .ok (.ireturn, 1) := by decide +kernel
theorem dVo_state_0 : decode kVo_state 0 = .ok (.aload_n 0, 1) := by decide +kernel
theorem dVo_state_1 : decode kVo_state 1 = .ok (.getfield 23, 3) := by decide +kernel
theorem dVo_state_4 : decode kVo_state 4 = .ok (.ifCond .ne 5, 3) := by decide +kernel
theorem dVo_state_7 : decode kVo_state 7 = .ok (.iconst 0, 1) := by decide +kernel
theorem dVo_state_8 : decode kVo_state 8 = .ok (.ireturn, 1) := by decide +kernel
theorem dVo_state_9 : decode kVo_state 9 = .ok (.aload_n 0, 1) := by decide +kernel
theorem dVo_state_10 : decode kVo_state 10 = .ok (.invokevirtual 45, 3) := by decide +kernel
theorem dVo_state_13 : decode kVo_state 13 = .ok (.ifCond .ne 5, 3) := by decide +kernel
theorem dVo_state_16 : decode kVo_state 16 = .ok (.iconst 3, 1) := by decide +kernel
theorem dVo_state_17 : decode kVo_state 17 = .ok (.ireturn, 1) := by decide +kernel
theorem dVo_state_18 : decode kVo_state 18 = .ok (.aload_n 0, 1) := by decide +kernel
theorem dVo_state_19 : decode kVo_state 19 = .ok (.bipush 8, 2) := by decide +kernel
theorem dVo_state_21 : decode kVo_state 21 = .ok (.invokevirtual 42, 3) := by decide +kernel
theorem dVo_state_24 : decode kVo_state 24 = .ok (.aload_n 0, 1) := by decide +kernel
theorem dVo_state_25 : decode kVo_state 25 = .ok (.getfield 9, 3) := by decide +kernel
theorem dVo_state_28 : decode kVo_state 28 = .ok (.bipush 12, 2) := by decide +kernel
theorem dVo_state_30 : decode kVo_state 30 = .ok (.aload_n 0, 1) := by decide +kernel
theorem dVo_state_31 : decode kVo_state 31 = .ok (.getfield 23, 3) := by decide +kernel
theorem dVo_state_34 : decode kVo_state 34 = .ok (.invokestatic 27, 3) := by decide +kernel
theorem dVo_state_37 : decode kVo_state 37 = .ok (.if_icmp .ne 7, 3) := by decide +kernel
theorem dVo_state_40 : decode kVo_state 40 = .ok (.iconst 1, 1) := by decide +kernel
theorem dVo_state_41 : decode kVo_state 41 = .ok (.goto 4, 3) := by decide +kernel
theorem dVo_state_44 : decode kVo_state 44 = .ok (.iconst 2, 1) := by decide +kernel
theorem dVo_state_45 : decode kVo_state 45 = .ok (.ireturn, 1) := by decide +kernel
theorem dVo_isGoodOf_0 : decode kVo_isGoodOf 0 = .ok (.aload_n 0, 1) := by decide +kernel
theorem dVo_isGoodOf_1 : decode kVo_isGoodOf 1 = .ok (.iconst 2, 1) := by decide +kernel
theorem dVo_isGoodOf_2 : decode kVo_isGoodOf 2 = .ok (.invokevirtual 19, 3) := by decide +kernel
theorem dVo_isGoodOf_5 : decode kVo_isGoodOf 5 = .ok (.iload_n 1, 1) := by decide +kernel
theorem dVo_isGoodOf_6 : decode kVo_isGoodOf 6 = .ok (.if_icmp .ne 15, 3) := by decide +kernel
theorem dVo_isGoodOf_9 : decode kVo_isGoodOf 9 = .ok (.aload_n 0, 1) := by decide +kernel
theorem dVo_isGoodOf_10 : decode kVo_isGoodOf 10 = .ok (.invokevirtual 49, 3) := by decide +kernel
theorem dVo_isGoodOf_13 : decode kVo_isGoodOf 13 = .ok (.iconst 1, 1) := by decide +kernel
theorem dVo_isGoodOf_14 : decode kVo_isGoodOf 14 = .ok (.if_icmp .ne 7, 3) := by decide +kernel
theorem dVo_isGoodOf_17 : decode kVo_isGoodOf 17 = .ok (.iconst 1, 1) := by decide +kernel
theorem dVo_isGoodOf_18 : decode kVo_isGoodOf 18 = .ok (.goto 4, 3) := by decide +kernel
theorem dVo_isGoodOf_21 : decode kVo_isGoodOf 21 = .ok (.iconst 0, 1) := by decide +kernel
theorem dVo_isGoodOf_22 : decode kVo_isGoodOf 22 = .ok (.ireturn, 1) := by decide +kernel
theorem dVo_isAsWideAndManyAs_0 : decode kVo_isAsWideAndManyAs 0 = .ok (.aload_n 0, 1) := by decide +kernel
theorem dVo_isAsWideAndManyAs_1 : decode kVo_isAsWideAndManyAs 1 = .ok (.getfield 23, 3) := by decide +kernel
theorem dVo_isAsWideAndManyAs_4 : decode kVo_isAsWideAndManyAs 4 = .ok (.aload_n 1, 1) := by decide +kernel
theorem dVo_isAsWideAndManyAs_5 : decode kVo_isAsWideAndManyAs 5 = .ok (.getfield 23, 3) := by decide +kernel
theorem dVo_isAsWideAndManyAs_8 : decode kVo_isAsWideAndManyAs 8 = .ok (.if_icmp .ne 33, 3) := by decide +kernel
theorem dVo_isAsWideAndManyAs_11 : decode kVo_isAsWideAndManyAs 11 = .ok (.aload_n 0, 1) := by decide +kernel
theorem dVo_isAsWideAndManyAs_12 : decode kVo_isAsWideAndManyAs 12 = .ok (.iconst 4, 1) := by decide +kernel
theorem dVo_isAsWideAndManyAs_13 : decode kVo_isAsWideAndManyAs 13 = .ok (.invokevirtual 19, 3) := by decide +kernel
theorem dVo_isAsWideAndManyAs_16 : decode kVo_isAsWideAndManyAs 16 = .ok (.aload_n 1, 1) := by decide +kernel
theorem dVo_isAsWideAndManyAs_17 : decode kVo_isAsWideAndManyAs 17 = .ok (.iconst 4, 1) := by decide +kernel
theorem dVo_isAsWideAndManyAs_18 : decode kVo_isAsWideAndManyAs 18 = .ok (.invokevirtual 19, 3) := by decide +kernel
theorem dVo_isAsWideAndManyAs_21 : decode kVo_isAsWideAndManyAs 21 = .ok (.if_icmp .ne 20, 3) := by decide +kernel
theorem dVo_isAsWideAndManyAs_24 : decode kVo_isAsWideAndManyAs 24 = .ok (.aload_n 0, 1) := by decide +kernel
theorem dVo_isAsWideAndManyAs_25 : decode kVo_isAsWideAndManyAs 25 = .ok (.iconst 5, 1) := by decide +kernel
theorem dVo_isAsWideAndManyAs_26 : decode kVo_isAsWideAndManyAs 26 = .ok (.invokevirtual 19, 3) := by decide +kernel
theorem dVo_isAsWideAndManyAs_29 : decode kVo_isAsWideAndManyAs 29 = .ok (.aload_n 1, 1) := by decide +kernel
theorem dVo_isAsWideAndManyAs_30 : decode kVo_isAsWideAndManyAs 30 = .ok (.iconst 5, 1) := by decide +kernel
theorem dVo_isAsWideAndManyAs_31 : decode kVo_isAsWideAndManyAs 31 = .ok (.invokevirtual 19, 3) := by decide +kernel
theorem dVo_isAsWideAndManyAs_34 : decode kVo_isAsWideAndManyAs 34 = .ok (.if_icmp .ne 7, 3) := by decide +kernel
theorem dVo_isAsWideAndManyAs_37 : decode kVo_isAsWideAndManyAs 37 = .ok (.iconst 1, 1) := by decide +kernel
theorem dVo_isAsWideAndManyAs_38 : decode kVo_isAsWideAndManyAs 38 = .ok (.goto 4, 3) := by decide +kernel
theorem dVo_isAsWideAndManyAs_41 : decode kVo_isAsWideAndManyAs 41 = .ok (.iconst 0, 1) := by decide +kernel
theorem dVo_isAsWideAndManyAs_42 : decode kVo_isAsWideAndManyAs 42 = .ok (.ireturn, 1) := by decide +kernel
