theorem dPc_init_0 : decode kPc_init 0 = .ok (.aload_n 0, 1) := by decide +kernel
theorem dPc_init_1 : decode kPc_init 1 = .ok (.invokespecial 3, 3) := by decide +kernel
theorem dPc_init_4 : decode kPc_init 4 = .ok (.aload_n 0, 1) := by decide +kernel
theorem dPc_init_5 : decode kPc_init 5 = .ok (.bipush 60, 2) := by decide +kernel
theorem dPc_init_7 : decode kPc_init 7 = .ok (.newarray .int, 2) := by decide +kernel
theorem dPc_init_9 : decode kPc_init 9 = .ok (.putfield 9, 3) := by decide +kernel
theorem dPc_init_12 : decode kPc_init 12 = .ok (.aload_n 0, 1) := by decide +kernel
theorem dPc_init_13 : decode kPc_init 13 = .ok (.bipush 60, 2) := by decide +kernel
theorem dPc_init_15 : decode kPc_init 15 = .ok (.newarray .int, 2) := by decide +kernel
theorem dPc_init_17 : decode kPc_init 17 = .ok (.putfield 15, 3) := by decide +kernel
theorem dPc_init_20 : decode kPc_init 20 = .ok (.aload_n 0, 1) := by decide +kernel
theorem dPc_init_21 : decode kPc_init 21 = .ok (.iconst 0, 1) := by decide +kernel
theorem dPc_init_22 : decode kPc_init 22 = .ok (.iload_n 1, 1) := by decide +kernel
theorem dPc_init_23 : decode kPc_init 23 = .ok (.invokestatic 18, 3) := by decide +kernel
theorem dPc_init_26 : decode kPc_init 26 = .ok (.newarray .int, 2) := by decide +kernel
theorem dPc_init_28 : decode kPc_init 28 = .ok (.putfield 24, 3) := by decide +kernel
theorem dPc_init_31 : decode kPc_init 31 = .ok (.return_, 1) := by decide +kernel
theorem dPc_blank_0 : decode kPc_blank 0 = .ok (.aload_n 0, 1) := by decide +kernel
theorem dPc_blank_1 : decode kPc_blank 1 = .ok (.getfield 24, 3) := by decide +kernel
theorem dPc_blank_4 : decode kPc_blank 4 = .ok (.iconst 0, 1) := by decide +kernel
theorem dPc_blank_5 : decode kPc_blank 5 = .ok (.invokestatic 27, 3) := by decide +kernel
theorem dPc_blank_8 : decode kPc_blank 8 = .ok (.aload_n 0, 1) := by decide +kernel
theorem dPc_blank_9 : decode kPc_blank 9 = .ok (.getfield 9, 3) := by decide +kernel
theorem dPc_blank_12 : decode kPc_blank 12 = .ok (.iconst 0, 1) := by decide +kernel
theorem dPc_blank_13 : decode kPc_blank 13 = .ok (.invokestatic 27, 3) := by decide +kernel
theorem dPc_blank_16 : decode kPc_blank 16 = .ok (.aload_n 0, 1) := by decide +kernel
theorem dPc_blank_17 : decode kPc_blank 17 = .ok (.getfield 15, 3) := by decide +kernel
theorem dPc_blank_20 : decode kPc_blank 20 = .ok (.iconst 0, 1) := by decide +kernel
theorem dPc_blank_21 : decode kPc_blank 21 = .ok (.invokestatic 27, 3) := by decide +kernel
theorem dPc_blank_24 : decode kPc_blank 24 = .ok (.return_, 1) := by decide +kernel
theorem dPc_room_0 : decode kPc_room 0 = .ok (.aload_n 0, 1) := by decide +kernel
theorem dPc_room_1 : decode kPc_room 1 = .ok (.getfield 33, 3) := by decide +kernel
theorem dPc_room_4 : decode kPc_room 4 = .ok (.aload_n 0, 1) := by decide +kernel
theorem dPc_room_5 : decode kPc_room 5 = .ok (.getfield 37, 3) := by decide +kernel
theorem dPc_room_8 : decode kPc_room 8 = .ok (.imul, 1) := by decide +kernel
theorem dPc_room_9 : decode kPc_room 9 = .ok (.ireturn, 1) := by decide +kernel
theorem dPc_byteAt_0 : decode kPc_byteAt 0 = .ok (.iload_n 1, 1) := by decide +kernel
theorem dPc_byteAt_1 : decode kPc_byteAt 1 = .ok (.ifCond .lt 12, 3) := by decide +kernel
theorem dPc_byteAt_4 : decode kPc_byteAt 4 = .ok (.iload_n 1, 1) := by decide +kernel
theorem dPc_byteAt_5 : decode kPc_byteAt 5 = .ok (.aload_n 0, 1) := by decide +kernel
theorem dPc_byteAt_6 : decode kPc_byteAt 6 = .ok (.getfield 24, 3) := by decide +kernel
theorem dPc_byteAt_9 : decode kPc_byteAt 9 = .ok (.arraylength, 1) := by decide +kernel
theorem dPc_byteAt_10 : decode kPc_byteAt 10 = .ok (.if_icmp .lt 7, 3) := by decide +kernel
theorem dPc_byteAt_13 : decode kPc_byteAt 13 = .ok (.iconst 0, 1) := by decide +kernel
theorem dPc_byteAt_14 : decode kPc_byteAt 14 = .ok (.goto 9, 3) := by decide +kernel
theorem dPc_byteAt_17 : decode kPc_byteAt 17 = .ok (.aload_n 0, 1) := by decide +kernel
theorem dPc_byteAt_18 : decode kPc_byteAt 18 = .ok (.getfield 24, 3) := by decide +kernel
theorem dPc_byteAt_21 : decode kPc_byteAt 21 = .ok (.iload_n 1, 1) := by decide +kernel
theorem dPc_byteAt_22 : decode kPc_byteAt 22 = .ok (.iaload, 1) := by decide +kernel
theorem dPc_byteAt_23 : decode kPc_byteAt 23 = .ok (.ireturn, 1) := by decide +kernel
theorem dPc_put_0 : decode kPc_put 0 = .ok (.iload_n 1, 1) := by decide +kernel
theorem dPc_put_1 : decode kPc_put 1 = .ok (.ifCond .lt 19, 3) := by decide +kernel
theorem dPc_put_4 : decode kPc_put 4 = .ok (.iload_n 1, 1) := by decide +kernel
theorem dPc_put_5 : decode kPc_put 5 = .ok (.aload_n 0, 1) := by decide +kernel
theorem dPc_put_6 : decode kPc_put 6 = .ok (.getfield 24, 3) := by decide +kernel
theorem dPc_put_9 : decode kPc_put 9 = .ok (.arraylength, 1) := by decide +kernel
theorem dPc_put_10 : decode kPc_put 10 = .ok (.if_icmp .ge 10, 3) := by decide +kernel
theorem dPc_put_13 : decode kPc_put 13 = .ok (.aload_n 0, 1) := by decide +kernel
theorem dPc_put_14 : decode kPc_put 14 = .ok (.getfield 24, 3) := by decide +kernel
theorem dPc_put_17 : decode kPc_put 17 = .ok (.iload_n 1, 1) := by decide +kernel
theorem dPc_put_18 : decode kPc_put 18 = .ok (.iload_n 2, 1) := by decide +kernel
theorem dPc_put_19 : decode kPc_put 19 = .ok (.iastore, 1) := by decide +kernel
theorem dPc_put_20 : decode kPc_put 20 = .ok (.return_, 1) := by decide +kernel
theorem dPc_sum_0 : decode kPc_sum 0 = .ok (.aload_n 0, 1) := by decide +kernel
theorem dPc_sum_1 : decode kPc_sum 1 = .ok (.getfield 24, 3) := by decide +kernel
theorem dPc_sum_4 : decode kPc_sum 4 = .ok (.iload_n 1, 1) := by decide +kernel
theorem dPc_sum_5 : decode kPc_sum 5 = .ok (.iload_n 2, 1) := by decide +kernel
theorem dPc_sum_6 : decode kPc_sum 6 = .ok (.invokestatic 40, 3) := by decide +kernel
theorem dPc_sum_9 : decode kPc_sum 9 = .ok (.ireturn, 1) := by decide +kernel
theorem dPc_part_0 : decode kPc_part 0 = .ok (.iload_n 1, 1) := by decide +kernel
theorem dPc_part_1 : decode kPc_part 1 = .ok (.ifCond .lt 9, 3) := by decide +kernel
theorem dPc_part_4 : decode kPc_part 4 = .ok (.iload_n 1, 1) := by decide +kernel
theorem dPc_part_5 : decode kPc_part 5 = .ok (.bipush 60, 2) := by decide +kernel
theorem dPc_part_7 : decode kPc_part 7 = .ok (.if_icmp .lt 5, 3) := by decide +kernel
theorem dPc_part_10 : decode kPc_part 10 = .ok (.iconst 0, 1) := by decide +kernel
theorem dPc_part_11 : decode kPc_part 11 = .ok (.ireturn, 1) := by decide +kernel
theorem dPc_part_12 : decode kPc_part 12 = .ok (.iload_n 2, 1) := by decide +kernel
theorem dPc_part_13 : decode kPc_part 13 = .ok (.bipush 6, 2) := by decide +kernel
theorem dPc_part_15 : decode kPc_part 15 = .ok (.if_icmp .ne 10, 3) := by decide +kernel
theorem dPc_part_18 : decode kPc_part 18 = .ok (.aload_n 0, 1) := by decide +kernel
theorem dPc_part_19 : decode kPc_part 19 = .ok (.getfield 9, 3) := by decide +kernel
theorem dPc_part_22 : decode kPc_part 22 = .ok (.iload_n 1, 1) := by decide +kernel
theorem dPc_part_23 : decode kPc_part 23 = .ok (.iaload, 1) := by decide +kernel
theorem dPc_part_24 : decode kPc_part 24 = .ok (.ireturn, 1) := by decide +kernel
theorem dPc_part_25 : decode kPc_part 25 = .ok (.iload_n 2, 1) := by decide +kernel
theorem dPc_part_26 : decode kPc_part 26 = .ok (.bipush 7, 2) := by decide +kernel
theorem dPc_part_28 : decode kPc_part 28 = .ok (.if_icmp .ne 10, 3) := by decide +kernel
theorem dPc_part_31 : decode kPc_part 31 = .ok (.aload_n 0, 1) := by decide +kernel
theorem dPc_part_32 : decode kPc_part 32 = .ok (.getfield 15, 3) := by decide +kernel
theorem dPc_part_35 : decode kPc_part 35 = .ok (.iload_n 1, 1) := by decide +kernel
theorem dPc_part_36 : decode kPc_part 36 = .ok (.iaload, 1) := by decide +kernel
theorem dPc_part_37 : decode kPc_part 37 = .ok (.ireturn, 1) := by decide +kernel
theorem dPc_part_38 : decode kPc_part 38 = .ok (.iload_n 2, 1) := by decide +kernel
theorem dPc_part_39 : decode kPc_part 39 = .ok (.bipush 12, 2) := by decide +kernel
theorem dPc_part_41 : decode kPc_part 41 = .ok (.if_icmp .ge 7, 3) := by decide +kernel
theorem dPc_part_44 : decode kPc_part 44 = .ok (.iconst 0, 1) := by decide +kernel
theorem dPc_part_45 : decode kPc_part 45 = .ok (.goto 18, 3) := by decide +kernel
theorem dPc_part_48 : decode kPc_part 48 = .ok (.aload_n 0, 1) := by decide +kernel
theorem dPc_part_49 : decode kPc_part 49 = .ok (.iload_n 1, 1) := by decide +kernel
theorem dPc_part_50 : decode kPc_part 50 = .ok (.aload_n 0, 1) := by decide +kernel
theorem dPc_part_51 : decode kPc_part 51 = .ok (.getfield 37, 3) := by decide +kernel
theorem dPc_part_54 : decode kPc_part 54 = .ok (.imul, 1) := by decide +kernel
theorem dPc_part_55 : decode kPc_part 55 = .ok (.iload_n 2, 1) := by decide +kernel
theorem dPc_part_56 : decode kPc_part 56 = .ok (.iadd, 1) := by decide +kernel
theorem dPc_part_57 : decode kPc_part 57 = .ok (.bipush 12, 2) := by decide +kernel
theorem dPc_part_59 : decode kPc_part 59 = .ok (.isub, 1) := by decide +kernel
theorem dPc_part_60 : decode kPc_part 60 = .ok (.invokevirtual 46, 3) := by decide +kernel
theorem dPc_part_63 : decode kPc_part 63 = .ok (.ireturn, 1) := by decide +kernel
theorem dPc_putPart_0 : decode kPc_putPart 0 = .ok (.iload_n 1, 1) := by decide +kernel
theorem dPc_putPart_1 : decode kPc_putPart 1 = .ok (.ifCond .lt 9, 3) := by decide +kernel
theorem dPc_putPart_4 : decode kPc_putPart 4 = .ok (.iload_n 1, 1) := by decide +kernel
theorem dPc_putPart_5 : decode kPc_putPart 5 = .ok (.bipush 60, 2) := by decide +kernel
theorem dPc_putPart_7 : decode kPc_putPart 7 = .ok (.if_icmp .lt 4, 3) := by decide +kernel
theorem dPc_putPart_10 : decode kPc_putPart 10 = .ok (.return_, 1) := by decide +kernel
theorem dPc_putPart_11 : decode kPc_putPart 11 = .ok (.iload_n 2, 1) := by decide +kernel
theorem dPc_putPart_12 : decode kPc_putPart 12 = .ok (.bipush 6, 2) := by decide +kernel
theorem dPc_putPart_14 : decode kPc_putPart 14 = .ok (.if_icmp .ne 13, 3) := by decide +kernel
theorem dPc_putPart_17 : decode kPc_putPart 17 = .ok (.aload_n 0, 1) := by decide +kernel
theorem dPc_putPart_18 : decode kPc_putPart 18 = .ok (.getfield 9, 3) := by decide +kernel
theorem dPc_putPart_21 : decode kPc_putPart 21 = .ok (.iload_n 1, 1) := by decide +kernel
theorem dPc_putPart_22 : decode kPc_putPart 22 = .ok (.iload_n 3, 1) := by decide +kernel
theorem dPc_putPart_23 : decode kPc_putPart 23 = .ok (.iastore, 1) := by decide +kernel
theorem dPc_putPart_24 : decode kPc_putPart 24 = .ok (.goto 41, 3) := by decide +kernel
theorem dPc_putPart_27 : decode kPc_putPart 27 = .ok (.iload_n 2, 1) := by decide +kernel
theorem dPc_putPart_28 : decode kPc_putPart 28 = .ok (.bipush 7, 2) := by decide +kernel
theorem dPc_putPart_30 : decode kPc_putPart 30 = .ok (.if_icmp .ne 13, 3) := by decide +kernel
theorem dPc_putPart_33 : decode kPc_putPart 33 = .ok (.aload_n 0, 1) := by decide +kernel
theorem dPc_putPart_34 : decode kPc_putPart 34 = .ok (.getfield 15, 3) := by decide +kernel
theorem dPc_putPart_37 : decode kPc_putPart 37 = .ok (.iload_n 1, 1) := by decide +kernel
theorem dPc_putPart_38 : decode kPc_putPart 38 = .ok (.iload_n 3, 1) := by decide +kernel
theorem dPc_putPart_39 : decode kPc_putPart 39 = .ok (.iastore, 1) := by decide +kernel
theorem dPc_putPart_40 : decode kPc_putPart 40 = .ok (.goto 25, 3) := by decide +kernel
theorem dPc_putPart_43 : decode kPc_putPart 43 = .ok (.iload_n 2, 1) := by decide +kernel
theorem dPc_putPart_44 : decode kPc_putPart 44 = .ok (.bipush 12, 2) := by decide +kernel
theorem dPc_putPart_46 : decode kPc_putPart 46 = .ok (.if_icmp .lt 19, 3) := by decide +kernel
theorem dPc_putPart_49 : decode kPc_putPart 49 = .ok (.aload_n 0, 1) := by decide +kernel
theorem dPc_putPart_50 : decode kPc_putPart 50 = .ok (.iload_n 1, 1) := by decide +kernel
theorem dPc_putPart_51 : decode kPc_putPart 51 = .ok (.aload_n 0, 1) := by decide +kernel
theorem dPc_putPart_52 : decode kPc_putPart 52 = .ok (.getfield 37, 3) := by decide +kernel
theorem dPc_putPart_55 : decode kPc_putPart 55 = .ok (.imul, 1) := by decide +kernel
theorem dPc_putPart_56 : decode kPc_putPart 56 = .ok (.iload_n 2, 1) := by decide +kernel
theorem dPc_putPart_57 : decode kPc_putPart 57 = .ok (.iadd, 1) := by decide +kernel
theorem dPc_putPart_58 : decode kPc_putPart 58 = .ok (.bipush 12, 2) := by decide +kernel
theorem dPc_putPart_60 : decode kPc_putPart 60 = .ok (.isub, 1) := by decide +kernel
theorem dPc_putPart_61 : decode kPc_putPart 61 = .ok (.iload_n 3, 1) := by decide +kernel
theorem dPc_putPart_62 : decode kPc_putPart 62 = .ok (.invokevirtual 50, 3) := by decide +kernel
theorem dPc_putPart_65 : decode kPc_putPart 65 = .ok (.return_, 1) := by decide +kernel
theorem dPc_mixed_0 : decode kPc_mixed 0 = .ok (.iconst 0, 1) := by decide +kernel
theorem dPc_mixed_1 : decode kPc_mixed 1 = .ok (.istore_n 3, 1) := by decide +kernel
theorem dPc_mixed_2 : decode kPc_mixed 2 = .ok (.aload_n 0, 1) := by decide +kernel
theorem dPc_mixed_3 : decode kPc_mixed 3 = .ok (.getfield 33, 3) := by decide +kernel
theorem dPc_mixed_6 : decode kPc_mixed 6 = .ok (.iconst 1, 1) := by decide +kernel
theorem dPc_mixed_7 : decode kPc_mixed 7 = .ok (.isub, 1) := by decide +kernel
theorem dPc_mixed_8 : decode kPc_mixed 8 = .ok (.istore 4, 2) := by decide +kernel
theorem dPc_mixed_10 : decode kPc_mixed 10 = .ok (.iload 4, 2) := by decide +kernel
theorem dPc_mixed_12 : decode kPc_mixed 12 = .ok (.ifCond .lt 23, 3) := by decide +kernel
theorem dPc_mixed_15 : decode kPc_mixed 15 = .ok (.iload_n 3, 1) := by decide +kernel
theorem dPc_mixed_16 : decode kPc_mixed 16 = .ok (.iload_n 1, 1) := by decide +kernel
theorem dPc_mixed_17 : decode kPc_mixed 17 = .ok (.invokestatic 54, 3) := by decide +kernel
theorem dPc_mixed_20 : decode kPc_mixed 20 = .ok (.aload_n 0, 1) := by decide +kernel
theorem dPc_mixed_21 : decode kPc_mixed 21 = .ok (.iload 4, 2) := by decide +kernel
theorem dPc_mixed_23 : decode kPc_mixed 23 = .ok (.iload_n 2, 1) := by decide +kernel
theorem dPc_mixed_24 : decode kPc_mixed 24 = .ok (.invokevirtual 57, 3) := by decide +kernel
theorem dPc_mixed_27 : decode kPc_mixed 27 = .ok (.ixor, 1) := by decide +kernel
theorem dPc_mixed_28 : decode kPc_mixed 28 = .ok (.istore_n 3, 1) := by decide +kernel
theorem dPc_mixed_29 : decode kPc_mixed 29 = .ok (.iinc 4 (-1), 3) := by decide +kernel
theorem dPc_mixed_32 : decode kPc_mixed 32 = .ok (.goto (-22), 3) := by decide +kernel
theorem dPc_mixed_35 : decode kPc_mixed 35 = .ok (.iload_n 3, 1) := by decide +kernel
theorem dPc_mixed_36 : decode kPc_mixed 36 = .ok (.ireturn, 1) := by decide +kernel
theorem dPc_isKnown_0 : decode kPc_isKnown 0 = .ok (.iload_n 1, 1) := by decide +kernel
theorem dPc_isKnown_1 : decode kPc_isKnown 1 = .ok (.ifCond .lt 11, 3) := by decide +kernel
theorem dPc_isKnown_4 : decode kPc_isKnown 4 = .ok (.iload_n 1, 1) := by decide +kernel
theorem dPc_isKnown_5 : decode kPc_isKnown 5 = .ok (.aload_n 0, 1) := by decide +kernel
theorem dPc_isKnown_6 : decode kPc_isKnown 6 = .ok (.invokevirtual 60, 3) := by decide +kernel
theorem dPc_isKnown_9 : decode kPc_isKnown 9 = .ok (.if_icmp .lt 5, 3) := by decide +kernel
theorem dPc_isKnown_12 : decode kPc_isKnown 12 = .ok (.iconst 0, 1) := by decide +kernel
theorem dPc_isKnown_13 : decode kPc_isKnown 13 = .ok (.ireturn, 1) := by decide +kernel
theorem dPc_isKnown_14 : decode kPc_isKnown 14 = .ok (.iload_n 1, 1) := by decide +kernel
theorem dPc_isKnown_15 : decode kPc_isKnown 15 = .ok (.aload_n 0, 1) := by decide +kernel
theorem dPc_isKnown_16 : decode kPc_isKnown 16 = .ok (.getfield 37, 3) := by decide +kernel
theorem dPc_isKnown_19 : decode kPc_isKnown 19 = .ok (.invokestatic 64, 3) := by decide +kernel
theorem dPc_isKnown_22 : decode kPc_isKnown 22 = .ok (.istore_n 2, 1) := by decide +kernel
theorem dPc_isKnown_23 : decode kPc_isKnown 23 = .ok (.iload_n 1, 1) := by decide +kernel
theorem dPc_isKnown_24 : decode kPc_isKnown 24 = .ok (.iload_n 2, 1) := by decide +kernel
theorem dPc_isKnown_25 : decode kPc_isKnown 25 = .ok (.aload_n 0, 1) := by decide +kernel
theorem dPc_isKnown_26 : decode kPc_isKnown 26 = .ok (.getfield 37, 3) := by decide +kernel
theorem dPc_isKnown_29 : decode kPc_isKnown 29 = .ok (.imul, 1) := by decide +kernel
theorem dPc_isKnown_30 : decode kPc_isKnown 30 = .ok (.isub, 1) := by decide +kernel
theorem dPc_isKnown_31 : decode kPc_isKnown 31 = .ok (.aload_n 0, 1) := by decide +kernel
theorem dPc_isKnown_32 : decode kPc_isKnown 32 = .ok (.iload_n 2, 1) := by decide +kernel
theorem dPc_isKnown_33 : decode kPc_isKnown 33 = .ok (.bipush 6, 2) := by decide +kernel
theorem dPc_isKnown_35 : decode kPc_isKnown 35 = .ok (.invokevirtual 57, 3) := by decide +kernel
theorem dPc_isKnown_38 : decode kPc_isKnown 38 = .ok (.if_icmp .ge 7, 3) := by decide +kernel
theorem dPc_isKnown_41 : decode kPc_isKnown 41 = .ok (.iconst 1, 1) := by decide +kernel
theorem dPc_isKnown_42 : decode kPc_isKnown 42 = .ok (.goto 4, 3) := by decide +kernel
theorem dPc_isKnown_45 : decode kPc_isKnown 45 = .ok (.iconst 0, 1) := by decide +kernel
theorem dPc_isKnown_46 : decode kPc_isKnown 46 = .ok (.ireturn, 1) := by decide +kernel
theorem dPc_areKnown_0 : decode kPc_areKnown 0 = .ok (.iload_n 1, 1) := by decide +kernel
theorem dPc_areKnown_1 : decode kPc_areKnown 1 = .ok (.istore_n 3, 1) := by decide +kernel
theorem dPc_areKnown_2 : decode kPc_areKnown 2 = .ok (.iload_n 3, 1) := by decide +kernel
theorem dPc_areKnown_3 : decode kPc_areKnown 3 = .ok (.iload_n 2, 1) := by decide +kernel
theorem dPc_areKnown_4 : decode kPc_areKnown 4 = .ok (.if_icmp .ge 19, 3) := by decide +kernel
theorem dPc_areKnown_7 : decode kPc_areKnown 7 = .ok (.aload_n 0, 1) := by decide +kernel
theorem dPc_areKnown_8 : decode kPc_areKnown 8 = .ok (.iload_n 3, 1) := by decide +kernel
theorem dPc_areKnown_9 : decode kPc_areKnown 9 = .ok (.invokevirtual 67, 3) := by decide +kernel
theorem dPc_areKnown_12 : decode kPc_areKnown 12 = .ok (.ifCond .ne 5, 3) := by decide +kernel
theorem dPc_areKnown_15 : decode kPc_areKnown 15 = .ok (.iconst 0, 1) := by decide +kernel
theorem dPc_areKnown_16 : decode kPc_areKnown 16 = .ok (.ireturn, 1) := by decide +kernel
theorem dPc_areKnown_17 : decode kPc_areKnown 17 = .ok (.iinc 3 1, 3) := by decide +kernel
theorem dPc_areKnown_20 : decode kPc_areKnown 20 = .ok (.goto (-18), 3) := by decide +kernel
theorem dPc_areKnown_23 : decode kPc_areKnown 23 = .ok (.iconst 1, 1) := by decide +kernel
theorem dPc_areKnown_24 : decode kPc_areKnown 24 = .ok (.ireturn, 1) := by decide +kernel
theorem dPc_nextKnown_0 : decode kPc_nextKnown 0 = .ok (.iload_n 1, 1) := by decide +kernel
theorem dPc_nextKnown_1 : decode kPc_nextKnown 1 = .ok (.istore_n 2, 1) := by decide +kernel
theorem dPc_nextKnown_2 : decode kPc_nextKnown 2 = .ok (.iconst 0, 1) := by decide +kernel
theorem dPc_nextKnown_3 : decode kPc_nextKnown 3 = .ok (.istore_n 3, 1) := by decide +kernel
theorem dPc_nextKnown_4 : decode kPc_nextKnown 4 = .ok (.iload_n 3, 1) := by decide +kernel
theorem dPc_nextKnown_5 : decode kPc_nextKnown 5 = .ok (.bipush 60, 2) := by decide +kernel
theorem dPc_nextKnown_7 : decode kPc_nextKnown 7 = .ok (.if_icmp .gt 29, 3) := by decide +kernel
theorem dPc_nextKnown_10 : decode kPc_nextKnown 10 = .ok (.iload_n 2, 1) := by decide +kernel
theorem dPc_nextKnown_11 : decode kPc_nextKnown 11 = .ok (.ifCond .lt 25, 3) := by decide +kernel
theorem dPc_nextKnown_14 : decode kPc_nextKnown 14 = .ok (.aload_n 0, 1) := by decide +kernel
theorem dPc_nextKnown_15 : decode kPc_nextKnown 15 = .ok (.iload_n 2, 1) := by decide +kernel
theorem dPc_nextKnown_16 : decode kPc_nextKnown 16 = .ok (.invokevirtual 67, 3) := by decide +kernel
theorem dPc_nextKnown_19 : decode kPc_nextKnown 19 = .ok (.ifCond .eq 5, 3) := by decide +kernel
theorem dPc_nextKnown_22 : decode kPc_nextKnown 22 = .ok (.iload_n 2, 1) := by decide +kernel
theorem dPc_nextKnown_23 : decode kPc_nextKnown 23 = .ok (.ireturn, 1) := by decide +kernel
theorem dPc_nextKnown_24 : decode kPc_nextKnown 24 = .ok (.aload_n 0, 1) := by decide +kernel
theorem dPc_nextKnown_25 : decode kPc_nextKnown 25 = .ok (.iload_n 2, 1) := by decide +kernel
theorem dPc_nextKnown_26 : decode kPc_nextKnown 26 = .ok (.invokevirtual 71, 3) := by decide +kernel
theorem dPc_nextKnown_29 : decode kPc_nextKnown 29 = .ok (.istore_n 2, 1) := by decide +kernel
theorem dPc_nextKnown_30 : decode kPc_nextKnown 30 = .ok (.iinc 3 1, 3) := by decide +kernel
theorem dPc_nextKnown_33 : decode kPc_nextKnown 33 = .ok (.goto (-29), 3) := by decide +kernel
theorem dPc_nextKnown_36 : decode kPc_nextKnown 36 = .ok (.bipush (-2), 2) := by decide +kernel
theorem dPc_nextKnown_38 : decode kPc_nextKnown 38 = .ok (.ireturn, 1) := by decide +kernel
theorem dPc_startBehind_0 : decode kPc_startBehind 0 = .ok (.iload_n 1, 1) := by decide +kernel
theorem dPc_startBehind_1 : decode kPc_startBehind 1 = .ok (.aload_n 0, 1) := by decide +kernel
theorem dPc_startBehind_2 : decode kPc_startBehind 2 = .ok (.getfield 37, 3) := by decide +kernel
theorem dPc_startBehind_5 : decode kPc_startBehind 5 = .ok (.invokestatic 64, 3) := by decide +kernel
theorem dPc_startBehind_8 : decode kPc_startBehind 8 = .ok (.iconst 1, 1) := by decide +kernel
theorem dPc_startBehind_9 : decode kPc_startBehind 9 = .ok (.iadd, 1) := by decide +kernel
theorem dPc_startBehind_10 : decode kPc_startBehind 10 = .ok (.istore_n 2, 1) := by decide +kernel
theorem dPc_startBehind_11 : decode kPc_startBehind 11 = .ok (.iload_n 2, 1) := by decide +kernel
theorem dPc_startBehind_12 : decode kPc_startBehind 12 = .ok (.aload_n 0, 1) := by decide +kernel
theorem dPc_startBehind_13 : decode kPc_startBehind 13 = .ok (.getfield 33, 3) := by decide +kernel
theorem dPc_startBehind_16 : decode kPc_startBehind 16 = .ok (.if_icmp .ge 37, 3) := by decide +kernel
theorem dPc_startBehind_19 : decode kPc_startBehind 19 = .ok (.aload_n 0, 1) := by decide +kernel
theorem dPc_startBehind_20 : decode kPc_startBehind 20 = .ok (.iload_n 2, 1) := by decide +kernel
theorem dPc_startBehind_21 : decode kPc_startBehind 21 = .ok (.bipush 7, 2) := by decide +kernel
theorem dPc_startBehind_23 : decode kPc_startBehind 23 = .ok (.invokevirtual 57, 3) := by decide +kernel
theorem dPc_startBehind_26 : decode kPc_startBehind 26 = .ok (.istore_n 3, 1) := by decide +kernel
theorem dPc_startBehind_27 : decode kPc_startBehind 27 = .ok (.iload_n 3, 1) := by decide +kernel
theorem dPc_startBehind_28 : decode kPc_startBehind 28 = .ok (.aload_n 0, 1) := by decide +kernel
theorem dPc_startBehind_29 : decode kPc_startBehind 29 = .ok (.iload_n 2, 1) := by decide +kernel
theorem dPc_startBehind_30 : decode kPc_startBehind 30 = .ok (.bipush 6, 2) := by decide +kernel
theorem dPc_startBehind_32 : decode kPc_startBehind 32 = .ok (.invokevirtual 57, 3) := by decide +kernel
theorem dPc_startBehind_35 : decode kPc_startBehind 35 = .ok (.if_icmp .ge 12, 3) := by decide +kernel
theorem dPc_startBehind_38 : decode kPc_startBehind 38 = .ok (.iload_n 2, 1) := by decide +kernel
theorem dPc_startBehind_39 : decode kPc_startBehind 39 = .ok (.aload_n 0, 1) := by decide +kernel
theorem dPc_startBehind_40 : decode kPc_startBehind 40 = .ok (.getfield 37, 3) := by decide +kernel
theorem dPc_startBehind_43 : decode kPc_startBehind 43 = .ok (.imul, 1) := by decide +kernel
theorem dPc_startBehind_44 : decode kPc_startBehind 44 = .ok (.iload_n 3, 1) := by decide +kernel
theorem dPc_startBehind_45 : decode kPc_startBehind 45 = .ok (.iadd, 1) := by decide +kernel
theorem dPc_startBehind_46 : decode kPc_startBehind 46 = .ok (.ireturn, 1) := by decide +kernel
theorem dPc_startBehind_47 : decode kPc_startBehind 47 = .ok (.iinc 2 1, 3) := by decide +kernel
theorem dPc_startBehind_50 : decode kPc_startBehind 50 = .ok (.goto (-39), 3) := by decide +kernel
theorem dPc_startBehind_53 : decode kPc_startBehind 53 = .ok (.bipush (-2), 2) := by decide +kernel
theorem dPc_startBehind_55 : decode kPc_startBehind 55 = .ok (.ireturn, 1) := by decide +kernel
theorem dSt_init_0 : decode kSt_init 0 = .ok (.aload_n 0, 1) := by decide +kernel
theorem dSt_init_1 : decode kSt_init 1 = .ok (.invokespecial 3, 3) := by decide +kernel
theorem dSt_init_4 : decode kSt_init 4 = .ok (.aload_n 0, 1) := by decide +kernel
theorem dSt_init_5 : decode kSt_init 5 = .ok (.new 9, 3) := by decide +kernel
theorem dSt_init_8 : decode kSt_init 8 = .ok (.dup, 1) := by decide +kernel
theorem dSt_init_9 : decode kSt_init 9 = .ok (.sipush 1340, 3) := by decide +kernel
theorem dSt_init_12 : decode kSt_init 12 = .ok (.invokespecial 13, 3) := by decide +kernel
theorem dSt_init_15 : decode kSt_init 15 = .ok (.putfield 16, 3) := by decide +kernel
theorem dSt_init_18 : decode kSt_init 18 = .ok (.aload_n 0, 1) := by decide +kernel
theorem dSt_init_19 : decode kSt_init 19 = .ok (.bipush 20, 2) := by decide +kernel
theorem dSt_init_21 : decode kSt_init 21 = .ok (.newarray .int, 2) := by decide +kernel
theorem dSt_init_23 : decode kSt_init 23 = .ok (.putfield 20, 3) := by decide +kernel
theorem dSt_init_26 : decode kSt_init 26 = .ok (.return_, 1) := by decide +kernel
theorem dSt_append_0 : decode kSt_append 0 = .ok (.aload_n 0, 1) := by decide +kernel
theorem dSt_append_1 : decode kSt_append 1 = .ok (.getfield 24, 3) := by decide +kernel
theorem dSt_append_4 : decode kSt_append 4 = .ok (.ifCond .lt 12, 3) := by decide +kernel
theorem dSt_append_7 : decode kSt_append 7 = .ok (.aload_n 0, 1) := by decide +kernel
theorem dSt_append_8 : decode kSt_append 8 = .ok (.getfield 24, 3) := by decide +kernel
theorem dSt_append_11 : decode kSt_append 11 = .ok (.bipush 20, 2) := by decide +kernel
theorem dSt_append_13 : decode kSt_append 13 = .ok (.if_icmp .lt 4, 3) := by decide +kernel
theorem dSt_append_16 : decode kSt_append 16 = .ok (.return_, 1) := by decide +kernel
theorem dSt_append_17 : decode kSt_append 17 = .ok (.aload_n 0, 1) := by decide +kernel
theorem dSt_append_18 : decode kSt_append 18 = .ok (.getfield 20, 3) := by decide +kernel
theorem dSt_append_21 : decode kSt_append 21 = .ok (.aload_n 0, 1) := by decide +kernel
theorem dSt_append_22 : decode kSt_append 22 = .ok (.getfield 24, 3) := by decide +kernel
theorem dSt_append_25 : decode kSt_append 25 = .ok (.aload_n 0, 1) := by decide +kernel
theorem dSt_append_26 : decode kSt_append 26 = .ok (.getfield 28, 3) := by decide +kernel
theorem dSt_append_29 : decode kSt_append 29 = .ok (.iastore, 1) := by decide +kernel
theorem dSt_append_30 : decode kSt_append 30 = .ok (.aload_n 0, 1) := by decide +kernel
theorem dSt_append_31 : decode kSt_append 31 = .ok (.dup, 1) := by decide +kernel
theorem dSt_append_32 : decode kSt_append 32 = .ok (.getfield 24, 3) := by decide +kernel
theorem dSt_append_35 : decode kSt_append 35 = .ok (.iconst 1, 1) := by decide +kernel
theorem dSt_append_36 : decode kSt_append 36 = .ok (.iadd, 1) := by decide +kernel
theorem dSt_append_37 : decode kSt_append 37 = .ok (.putfield 24, 3) := by decide +kernel
theorem dSt_append_40 : decode kSt_append 40 = .ok (.aload_n 1, 1) := by decide +kernel
theorem dSt_append_41 : decode kSt_append 41 = .ok (.invokevirtual 31, 3) := by decide +kernel
theorem dSt_append_44 : decode kSt_append 44 = .ok (.istore_n 2, 1) := by decide +kernel
theorem dSt_append_45 : decode kSt_append 45 = .ok (.aload_n 0, 1) := by decide +kernel
theorem dSt_append_46 : decode kSt_append 46 = .ok (.aload_n 1, 1) := by decide +kernel
theorem dSt_append_47 : decode kSt_append 47 = .ok (.getfield 37, 3) := by decide +kernel
theorem dSt_append_50 : decode kSt_append 50 = .ok (.invokevirtual 38, 3) := by decide +kernel
theorem dSt_append_53 : decode kSt_append 53 = .ok (.aload_n 0, 1) := by decide +kernel
theorem dSt_append_54 : decode kSt_append 54 = .ok (.iload_n 2, 1) := by decide +kernel
theorem dSt_append_55 : decode kSt_append 55 = .ok (.sipush 255, 3) := by decide +kernel
theorem dSt_append_58 : decode kSt_append 58 = .ok (.iand, 1) := by decide +kernel
theorem dSt_append_59 : decode kSt_append 59 = .ok (.invokevirtual 38, 3) := by decide +kernel
theorem dSt_append_62 : decode kSt_append 62 = .ok (.aload_n 0, 1) := by decide +kernel
theorem dSt_append_63 : decode kSt_append 63 = .ok (.iload_n 2, 1) := by decide +kernel
theorem dSt_append_64 : decode kSt_append 64 = .ok (.bipush 8, 2) := by decide +kernel
theorem dSt_append_66 : decode kSt_append 66 = .ok (.iushr, 1) := by decide +kernel
theorem dSt_append_67 : decode kSt_append 67 = .ok (.invokevirtual 38, 3) := by decide +kernel
theorem dSt_append_70 : decode kSt_append 70 = .ok (.iconst 0, 1) := by decide +kernel
theorem dSt_append_71 : decode kSt_append 71 = .ok (.istore_n 3, 1) := by decide +kernel
theorem dSt_append_72 : decode kSt_append 72 = .ok (.iload_n 3, 1) := by decide +kernel
theorem dSt_append_73 : decode kSt_append 73 = .ok (.aload_n 1, 1) := by decide +kernel
theorem dSt_append_74 : decode kSt_append 74 = .ok (.getfield 37, 3) := by decide +kernel
theorem dSt_append_77 : decode kSt_append 77 = .ok (.if_icmp .ge 18, 3) := by decide +kernel
theorem dSt_append_80 : decode kSt_append 80 = .ok (.aload_n 0, 1) := by decide +kernel
theorem dSt_append_81 : decode kSt_append 81 = .ok (.aload_n 1, 1) := by decide +kernel
theorem dSt_append_82 : decode kSt_append 82 = .ok (.iload_n 3, 1) := by decide +kernel
theorem dSt_append_83 : decode kSt_append 83 = .ok (.invokevirtual 41, 3) := by decide +kernel
theorem dSt_append_86 : decode kSt_append 86 = .ok (.invokevirtual 38, 3) := by decide +kernel
theorem dSt_append_89 : decode kSt_append 89 = .ok (.iinc 3 1, 3) := by decide +kernel
theorem dSt_append_92 : decode kSt_append 92 = .ok (.goto (-20), 3) := by decide +kernel
theorem dSt_append_95 : decode kSt_append 95 = .ok (.return_, 1) := by decide +kernel
theorem dSt_add_0 : decode kSt_add 0 = .ok (.aload_n 0, 1) := by decide +kernel
theorem dSt_add_1 : decode kSt_add 1 = .ok (.getfield 16, 3) := by decide +kernel
theorem dSt_add_4 : decode kSt_add 4 = .ok (.aload_n 0, 1) := by decide +kernel
theorem dSt_add_5 : decode kSt_add 5 = .ok (.getfield 28, 3) := by decide +kernel
theorem dSt_add_8 : decode kSt_add 8 = .ok (.iload_n 1, 1) := by decide +kernel
theorem dSt_add_9 : decode kSt_add 9 = .ok (.invokevirtual 45, 3) := by decide +kernel
theorem dSt_add_12 : decode kSt_add 12 = .ok (.aload_n 0, 1) := by decide +kernel
theorem dSt_add_13 : decode kSt_add 13 = .ok (.dup, 1) := by decide +kernel
theorem dSt_add_14 : decode kSt_add 14 = .ok (.getfield 28, 3) := by decide +kernel
theorem dSt_add_17 : decode kSt_add 17 = .ok (.iconst 1, 1) := by decide +kernel
theorem dSt_add_18 : decode kSt_add 18 = .ok (.iadd, 1) := by decide +kernel
theorem dSt_add_19 : decode kSt_add 19 = .ok (.putfield 28, 3) := by decide +kernel
theorem dSt_add_22 : decode kSt_add 22 = .ok (.return_, 1) := by decide +kernel
theorem dSt_forgetAll_0 : decode kSt_forgetAll 0 = .ok (.aload_n 0, 1) := by decide +kernel
theorem dSt_forgetAll_1 : decode kSt_forgetAll 1 = .ok (.getfield 16, 3) := by decide +kernel
theorem dSt_forgetAll_4 : decode kSt_forgetAll 4 = .ok (.invokevirtual 49, 3) := by decide +kernel
theorem dSt_forgetAll_7 : decode kSt_forgetAll 7 = .ok (.aload_n 0, 1) := by decide +kernel
theorem dSt_forgetAll_8 : decode kSt_forgetAll 8 = .ok (.iconst 0, 1) := by decide +kernel
theorem dSt_forgetAll_9 : decode kSt_forgetAll 9 = .ok (.putfield 24, 3) := by decide +kernel
theorem dSt_forgetAll_12 : decode kSt_forgetAll 12 = .ok (.aload_n 0, 1) := by decide +kernel
theorem dSt_forgetAll_13 : decode kSt_forgetAll 13 = .ok (.iconst 0, 1) := by decide +kernel
theorem dSt_forgetAll_14 : decode kSt_forgetAll 14 = .ok (.putfield 28, 3) := by decide +kernel
theorem dSt_forgetAll_17 : decode kSt_forgetAll 17 = .ok (.return_, 1) := by decide +kernel
theorem dSt_pieceCount_0 : decode kSt_pieceCount 0 = .ok (.iconst 1, 1) := by decide +kernel
theorem dSt_pieceCount_1 : decode kSt_pieceCount 1 = .ok (.aload_n 0, 1) := by decide +kernel
theorem dSt_pieceCount_2 : decode kSt_pieceCount 2 = .ok (.getfield 28, 3) := by decide +kernel
theorem dSt_pieceCount_5 : decode kSt_pieceCount 5 = .ok (.iload_n 1, 1) := by decide +kernel
theorem dSt_pieceCount_6 : decode kSt_pieceCount 6 = .ok (.iadd, 1) := by decide +kernel
theorem dSt_pieceCount_7 : decode kSt_pieceCount 7 = .ok (.iconst 1, 1) := by decide +kernel
theorem dSt_pieceCount_8 : decode kSt_pieceCount 8 = .ok (.isub, 1) := by decide +kernel
theorem dSt_pieceCount_9 : decode kSt_pieceCount 9 = .ok (.iload_n 1, 1) := by decide +kernel
theorem dSt_pieceCount_10 : decode kSt_pieceCount 10 = .ok (.invokestatic 52, 3) := by decide +kernel
theorem dSt_pieceCount_13 : decode kSt_pieceCount 13 = .ok (.invokestatic 58, 3) := by decide +kernel
theorem dSt_pieceCount_16 : decode kSt_pieceCount 16 = .ok (.ireturn, 1) := by decide +kernel
theorem dSt_divide_0 : decode kSt_divide 0 = .ok (.aload_n 0, 1) := by decide +kernel
theorem dSt_divide_1 : decode kSt_divide 1 = .ok (.getfield 16, 3) := by decide +kernel
theorem dSt_divide_4 : decode kSt_divide 4 = .ok (.bipush 60, 2) := by decide +kernel
theorem dSt_divide_6 : decode kSt_divide 6 = .ok (.aload_n 0, 1) := by decide +kernel
theorem dSt_divide_7 : decode kSt_divide 7 = .ok (.iload_n 1, 1) := by decide +kernel
theorem dSt_divide_8 : decode kSt_divide 8 = .ok (.invokevirtual 63, 3) := by decide +kernel
theorem dSt_divide_11 : decode kSt_divide 11 = .ok (.invokestatic 66, 3) := by decide +kernel
theorem dSt_divide_14 : decode kSt_divide 14 = .ok (.putfield 69, 3) := by decide +kernel
theorem dSt_divide_17 : decode kSt_divide 17 = .ok (.aload_n 0, 1) := by decide +kernel
theorem dSt_divide_18 : decode kSt_divide 18 = .ok (.getfield 16, 3) := by decide +kernel
theorem dSt_divide_21 : decode kSt_divide 21 = .ok (.iload_n 1, 1) := by decide +kernel
theorem dSt_divide_22 : decode kSt_divide 22 = .ok (.putfield 72, 3) := by decide +kernel
theorem dSt_divide_25 : decode kSt_divide 25 = .ok (.iconst 0, 1) := by decide +kernel
theorem dSt_divide_26 : decode kSt_divide 26 = .ok (.istore_n 2, 1) := by decide +kernel
theorem dSt_divide_27 : decode kSt_divide 27 = .ok (.iload_n 2, 1) := by decide +kernel
theorem dSt_divide_28 : decode kSt_divide 28 = .ok (.aload_n 0, 1) := by decide +kernel
theorem dSt_divide_29 : decode kSt_divide 29 = .ok (.getfield 16, 3) := by decide +kernel
theorem dSt_divide_32 : decode kSt_divide 32 = .ok (.getfield 69, 3) := by decide +kernel
theorem dSt_divide_35 : decode kSt_divide 35 = .ok (.if_icmp .ge 49, 3) := by decide +kernel
theorem dSt_divide_38 : decode kSt_divide 38 = .ok (.aload_n 0, 1) := by decide +kernel
theorem dSt_divide_39 : decode kSt_divide 39 = .ok (.getfield 16, 3) := by decide +kernel
theorem dSt_divide_42 : decode kSt_divide 42 = .ok (.iload_n 2, 1) := by decide +kernel
theorem dSt_divide_43 : decode kSt_divide 43 = .ok (.bipush 6, 2) := by decide +kernel
theorem dSt_divide_45 : decode kSt_divide 45 = .ok (.iload_n 1, 1) := by decide +kernel
theorem dSt_divide_46 : decode kSt_divide 46 = .ok (.aload_n 0, 1) := by decide +kernel
theorem dSt_divide_47 : decode kSt_divide 47 = .ok (.getfield 28, 3) := by decide +kernel
theorem dSt_divide_50 : decode kSt_divide 50 = .ok (.iload_n 2, 1) := by decide +kernel
theorem dSt_divide_51 : decode kSt_divide 51 = .ok (.iload_n 1, 1) := by decide +kernel
theorem dSt_divide_52 : decode kSt_divide 52 = .ok (.imul, 1) := by decide +kernel
theorem dSt_divide_53 : decode kSt_divide 53 = .ok (.isub, 1) := by decide +kernel
theorem dSt_divide_54 : decode kSt_divide 54 = .ok (.invokestatic 66, 3) := by decide +kernel
theorem dSt_divide_57 : decode kSt_divide 57 = .ok (.invokevirtual 75, 3) := by decide +kernel
theorem dSt_divide_60 : decode kSt_divide 60 = .ok (.aload_n 0, 1) := by decide +kernel
theorem dSt_divide_61 : decode kSt_divide 61 = .ok (.getfield 16, 3) := by decide +kernel
theorem dSt_divide_64 : decode kSt_divide 64 = .ok (.iload_n 2, 1) := by decide +kernel
theorem dSt_divide_65 : decode kSt_divide 65 = .ok (.bipush 7, 2) := by decide +kernel
theorem dSt_divide_67 : decode kSt_divide 67 = .ok (.aload_n 0, 1) := by decide +kernel
theorem dSt_divide_68 : decode kSt_divide 68 = .ok (.iload_n 2, 1) := by decide +kernel
theorem dSt_divide_69 : decode kSt_divide 69 = .ok (.iload_n 1, 1) := by decide +kernel
theorem dSt_divide_70 : decode kSt_divide 70 = .ok (.imul, 1) := by decide +kernel
theorem dSt_divide_71 : decode kSt_divide 71 = .ok (.iload_n 1, 1) := by decide +kernel
theorem dSt_divide_72 : decode kSt_divide 72 = .ok (.invokevirtual 79, 3) := by decide +kernel
theorem dSt_divide_75 : decode kSt_divide 75 = .ok (.invokevirtual 75, 3) := by decide +kernel
theorem dSt_divide_78 : decode kSt_divide 78 = .ok (.iinc 2 1, 3) := by decide +kernel
theorem dSt_divide_81 : decode kSt_divide 81 = .ok (.goto (-54), 3) := by decide +kernel
theorem dSt_divide_84 : decode kSt_divide 84 = .ok (.return_, 1) := by decide +kernel
theorem dSt_startIn_0 : decode kSt_startIn 0 = .ok (.iconst 0, 1) := by decide +kernel
theorem dSt_startIn_1 : decode kSt_startIn 1 = .ok (.istore_n 3, 1) := by decide +kernel
theorem dSt_startIn_2 : decode kSt_startIn 2 = .ok (.iload_n 3, 1) := by decide +kernel
theorem dSt_startIn_3 : decode kSt_startIn 3 = .ok (.aload_n 0, 1) := by decide +kernel
theorem dSt_startIn_4 : decode kSt_startIn 4 = .ok (.getfield 24, 3) := by decide +kernel
theorem dSt_startIn_7 : decode kSt_startIn 7 = .ok (.if_icmp .ge 39, 3) := by decide +kernel
theorem dSt_startIn_10 : decode kSt_startIn 10 = .ok (.iload_n 3, 1) := by decide +kernel
theorem dSt_startIn_11 : decode kSt_startIn 11 = .ok (.bipush 20, 2) := by decide +kernel
theorem dSt_startIn_13 : decode kSt_startIn 13 = .ok (.if_icmp .ge 33, 3) := by decide +kernel
theorem dSt_startIn_16 : decode kSt_startIn 16 = .ok (.aload_n 0, 1) := by decide +kernel
theorem dSt_startIn_17 : decode kSt_startIn 17 = .ok (.getfield 20, 3) := by decide +kernel
theorem dSt_startIn_20 : decode kSt_startIn 20 = .ok (.iload_n 3, 1) := by decide +kernel
theorem dSt_startIn_21 : decode kSt_startIn 21 = .ok (.iaload, 1) := by decide +kernel
theorem dSt_startIn_22 : decode kSt_startIn 22 = .ok (.iload_n 1, 1) := by decide +kernel
theorem dSt_startIn_23 : decode kSt_startIn 23 = .ok (.isub, 1) := by decide +kernel
theorem dSt_startIn_24 : decode kSt_startIn 24 = .ok (.istore 4, 2) := by decide +kernel
theorem dSt_startIn_26 : decode kSt_startIn 26 = .ok (.iload 4, 2) := by decide +kernel
theorem dSt_startIn_28 : decode kSt_startIn 28 = .ok (.ifCond .lt 12, 3) := by decide +kernel
theorem dSt_startIn_31 : decode kSt_startIn 31 = .ok (.iload 4, 2) := by decide +kernel
theorem dSt_startIn_33 : decode kSt_startIn 33 = .ok (.iload_n 2, 1) := by decide +kernel
theorem dSt_startIn_34 : decode kSt_startIn 34 = .ok (.if_icmp .ge 6, 3) := by decide +kernel
theorem dSt_startIn_37 : decode kSt_startIn 37 = .ok (.iload 4, 2) := by decide +kernel
theorem dSt_startIn_39 : decode kSt_startIn 39 = .ok (.ireturn, 1) := by decide +kernel
theorem dSt_startIn_40 : decode kSt_startIn 40 = .ok (.iinc 3 1, 3) := by decide +kernel
theorem dSt_startIn_43 : decode kSt_startIn 43 = .ok (.goto (-41), 3) := by decide +kernel
theorem dSt_startIn_46 : decode kSt_startIn 46 = .ok (.sipush 255, 3) := by decide +kernel
theorem dSt_startIn_49 : decode kSt_startIn 49 = .ok (.ireturn, 1) := by decide +kernel
theorem dSl_init_0 : decode kSl_init 0 = .ok (.aload_n 0, 1) := by decide +kernel
theorem dSl_init_1 : decode kSl_init 1 = .ok (.invokespecial 3, 3) := by decide +kernel
theorem dSl_init_4 : decode kSl_init 4 = .ok (.aload_n 0, 1) := by decide +kernel
theorem dSl_init_5 : decode kSl_init 5 = .ok (.bipush 60, 2) := by decide +kernel
theorem dSl_init_7 : decode kSl_init 7 = .ok (.anewarray 9, 3) := by decide +kernel
theorem dSl_init_10 : decode kSl_init 10 = .ok (.putfield 11, 3) := by decide +kernel
theorem dSl_init_13 : decode kSl_init 13 = .ok (.iconst 0, 1) := by decide +kernel
theorem dSl_init_14 : decode kSl_init 14 = .ok (.istore_n 1, 1) := by decide +kernel
theorem dSl_init_15 : decode kSl_init 15 = .ok (.iload_n 1, 1) := by decide +kernel
theorem dSl_init_16 : decode kSl_init 16 = .ok (.bipush 60, 2) := by decide +kernel
theorem dSl_init_18 : decode kSl_init 18 = .ok (.if_icmp .ge 22, 3) := by decide +kernel
theorem dSl_init_21 : decode kSl_init 21 = .ok (.aload_n 0, 1) := by decide +kernel
theorem dSl_init_22 : decode kSl_init 22 = .ok (.getfield 11, 3) := by decide +kernel
theorem dSl_init_25 : decode kSl_init 25 = .ok (.iload_n 1, 1) := by decide +kernel
theorem dSl_init_26 : decode kSl_init 26 = .ok (.new 9, 3) := by decide +kernel
theorem dSl_init_29 : decode kSl_init 29 = .ok (.dup, 1) := by decide +kernel
theorem dSl_init_30 : decode kSl_init 30 = .ok (.invokespecial 17, 3) := by decide +kernel
theorem dSl_init_33 : decode kSl_init 33 = .ok (.aastore, 1) := by decide +kernel
theorem dSl_init_34 : decode kSl_init 34 = .ok (.iinc 1 1, 3) := by decide +kernel
theorem dSl_init_37 : decode kSl_init 37 = .ok (.goto (-22), 3) := by decide +kernel
theorem dSl_init_40 : decode kSl_init 40 = .ok (.return_, 1) := by decide +kernel
theorem dSl_at_0 : decode kSl_at 0 = .ok (.iload_n 1, 1) := by decide +kernel
theorem dSl_at_1 : decode kSl_at 1 = .ok (.ifCond .lt 9, 3) := by decide +kernel
theorem dSl_at_4 : decode kSl_at 4 = .ok (.iload_n 1, 1) := by decide +kernel
theorem dSl_at_5 : decode kSl_at 5 = .ok (.bipush 60, 2) := by decide +kernel
theorem dSl_at_7 : decode kSl_at 7 = .ok (.if_icmp .lt 7, 3) := by decide +kernel
theorem dSl_at_10 : decode kSl_at 10 = .ok (.aconst_null, 1) := by decide +kernel
theorem dSl_at_11 : decode kSl_at 11 = .ok (.goto 9, 3) := by decide +kernel
theorem dSl_at_14 : decode kSl_at 14 = .ok (.aload_n 0, 1) := by decide +kernel
theorem dSl_at_15 : decode kSl_at 15 = .ok (.getfield 11, 3) := by decide +kernel
theorem dSl_at_18 : decode kSl_at 18 = .ok (.iload_n 1, 1) := by decide +kernel
theorem dSl_at_19 : decode kSl_at 19 = .ok (.aaload, 1) := by decide +kernel
theorem dSl_at_20 : decode kSl_at 20 = .ok (.areturn, 1) := by decide +kernel
theorem dSl_exchange_0 : decode kSl_exchange 0 = .ok (.aload_n 0, 1) := by decide +kernel
theorem dSl_exchange_1 : decode kSl_exchange 1 = .ok (.iload_n 1, 1) := by decide +kernel
theorem dSl_exchange_2 : decode kSl_exchange 2 = .ok (.invokevirtual 18, 3) := by decide +kernel
theorem dSl_exchange_5 : decode kSl_exchange 5 = .ok (.astore_n 3, 1) := by decide +kernel
theorem dSl_exchange_6 : decode kSl_exchange 6 = .ok (.aload_n 0, 1) := by decide +kernel
theorem dSl_exchange_7 : decode kSl_exchange 7 = .ok (.iload_n 2, 1) := by decide +kernel
theorem dSl_exchange_8 : decode kSl_exchange 8 = .ok (.invokevirtual 18, 3) := by decide +kernel
theorem dSl_exchange_11 : decode kSl_exchange 11 = .ok (.astore 4, 2) := by decide +kernel
theorem dSl_exchange_13 : decode kSl_exchange 13 = .ok (.aload_n 3, 1) := by decide +kernel
theorem dSl_exchange_14 : decode kSl_exchange 14 = .ok (.ifnull 23, 3) := by decide +kernel
theorem dSl_exchange_17 : decode kSl_exchange 17 = .ok (.aload 4, 2) := by decide +kernel
theorem dSl_exchange_19 : decode kSl_exchange 19 = .ok (.ifnull 18, 3) := by decide +kernel
theorem dSl_exchange_22 : decode kSl_exchange 22 = .ok (.aload_n 0, 1) := by decide +kernel
theorem dSl_exchange_23 : decode kSl_exchange 23 = .ok (.getfield 11, 3) := by decide +kernel
theorem dSl_exchange_26 : decode kSl_exchange 26 = .ok (.iload_n 1, 1) := by decide +kernel
theorem dSl_exchange_27 : decode kSl_exchange 27 = .ok (.aload 4, 2) := by decide +kernel
theorem dSl_exchange_29 : decode kSl_exchange 29 = .ok (.aastore, 1) := by decide +kernel
theorem dSl_exchange_30 : decode kSl_exchange 30 = .ok (.aload_n 0, 1) := by decide +kernel
theorem dSl_exchange_31 : decode kSl_exchange 31 = .ok (.getfield 11, 3) := by decide +kernel
theorem dSl_exchange_34 : decode kSl_exchange 34 = .ok (.iload_n 2, 1) := by decide +kernel
theorem dSl_exchange_35 : decode kSl_exchange 35 = .ok (.aload_n 3, 1) := by decide +kernel
theorem dSl_exchange_36 : decode kSl_exchange 36 = .ok (.aastore, 1) := by decide +kernel
theorem dSl_exchange_37 : decode kSl_exchange 37 = .ok (.return_, 1) := by decide +kernel
theorem dSl_filled_0 : decode kSl_filled 0 = .ok (.iconst 0, 1) := by decide +kernel
theorem dSl_filled_1 : decode kSl_filled 1 = .ok (.istore_n 1, 1) := by decide +kernel
theorem dSl_filled_2 : decode kSl_filled 2 = .ok (.iconst 0, 1) := by decide +kernel
theorem dSl_filled_3 : decode kSl_filled 3 = .ok (.istore_n 2, 1) := by decide +kernel
theorem dSl_filled_4 : decode kSl_filled 4 = .ok (.iload_n 2, 1) := by decide +kernel
theorem dSl_filled_5 : decode kSl_filled 5 = .ok (.bipush 60, 2) := by decide +kernel
theorem dSl_filled_7 : decode kSl_filled 7 = .ok (.if_icmp .ge 24, 3) := by decide +kernel
theorem dSl_filled_10 : decode kSl_filled 10 = .ok (.aload_n 0, 1) := by decide +kernel
theorem dSl_filled_11 : decode kSl_filled 11 = .ok (.getfield 11, 3) := by decide +kernel
theorem dSl_filled_14 : decode kSl_filled 14 = .ok (.iload_n 2, 1) := by decide +kernel
theorem dSl_filled_15 : decode kSl_filled 15 = .ok (.aaload, 1) := by decide +kernel
theorem dSl_filled_16 : decode kSl_filled 16 = .ok (.getfield 22, 3) := by decide +kernel
theorem dSl_filled_19 : decode kSl_filled 19 = .ok (.ifCond .eq 6, 3) := by decide +kernel
theorem dSl_filled_22 : decode kSl_filled 22 = .ok (.iinc 1 1, 3) := by decide +kernel
theorem dSl_filled_25 : decode kSl_filled 25 = .ok (.iinc 2 1, 3) := by decide +kernel
theorem dSl_filled_28 : decode kSl_filled 28 = .ok (.goto (-24), 3) := by decide +kernel
theorem dSl_filled_31 : decode kSl_filled 31 = .ok (.iload_n 1, 1) := by decide +kernel
theorem dSl_filled_32 : decode kSl_filled 32 = .ok (.ireturn, 1) := by decide +kernel
theorem dSl_inState_0 : decode kSl_inState 0 = .ok (.iconst 0, 1) := by decide +kernel
theorem dSl_inState_1 : decode kSl_inState 1 = .ok (.istore_n 2, 1) := by decide +kernel
theorem dSl_inState_2 : decode kSl_inState 2 = .ok (.iconst 0, 1) := by decide +kernel
theorem dSl_inState_3 : decode kSl_inState 3 = .ok (.istore_n 3, 1) := by decide +kernel
theorem dSl_inState_4 : decode kSl_inState 4 = .ok (.iload_n 3, 1) := by decide +kernel
theorem dSl_inState_5 : decode kSl_inState 5 = .ok (.bipush 60, 2) := by decide +kernel
theorem dSl_inState_7 : decode kSl_inState 7 = .ok (.if_icmp .ge 25, 3) := by decide +kernel
theorem dSl_inState_10 : decode kSl_inState 10 = .ok (.aload_n 0, 1) := by decide +kernel
theorem dSl_inState_11 : decode kSl_inState 11 = .ok (.getfield 11, 3) := by decide +kernel
theorem dSl_inState_14 : decode kSl_inState 14 = .ok (.iload_n 3, 1) := by decide +kernel
theorem dSl_inState_15 : decode kSl_inState 15 = .ok (.aaload, 1) := by decide +kernel
theorem dSl_inState_16 : decode kSl_inState 16 = .ok (.invokevirtual 26, 3) := by decide +kernel
theorem dSl_inState_19 : decode kSl_inState 19 = .ok (.iload_n 1, 1) := by decide +kernel
theorem dSl_inState_20 : decode kSl_inState 20 = .ok (.if_icmp .ne 6, 3) := by decide +kernel
theorem dSl_inState_23 : decode kSl_inState 23 = .ok (.iinc 2 1, 3) := by decide +kernel
theorem dSl_inState_26 : decode kSl_inState 26 = .ok (.iinc 3 1, 3) := by decide +kernel
theorem dSl_inState_29 : decode kSl_inState 29 = .ok (.goto (-25), 3) := by decide +kernel
theorem dSl_inState_32 : decode kSl_inState 32 = .ok (.iload_n 2, 1) := by decide +kernel
theorem dSl_inState_33 : decode kSl_inState 33 = .ok (.ireturn, 1) := by decide +kernel
theorem dSl_firstGood_0 : decode kSl_firstGood 0 = .ok (.iconst 0, 1) := by decide +kernel
theorem dSl_firstGood_1 : decode kSl_firstGood 1 = .ok (.istore_n 2, 1) := by decide +kernel
theorem dSl_firstGood_2 : decode kSl_firstGood 2 = .ok (.iload_n 2, 1) := by decide +kernel
theorem dSl_firstGood_3 : decode kSl_firstGood 3 = .ok (.bipush 60, 2) := by decide +kernel
theorem dSl_firstGood_5 : decode kSl_firstGood 5 = .ok (.if_icmp .ge 29, 3) := by decide +kernel
theorem dSl_firstGood_8 : decode kSl_firstGood 8 = .ok (.aload_n 0, 1) := by decide +kernel
theorem dSl_firstGood_9 : decode kSl_firstGood 9 = .ok (.getfield 11, 3) := by decide +kernel
theorem dSl_firstGood_12 : decode kSl_firstGood 12 = .ok (.iload_n 2, 1) := by decide +kernel
theorem dSl_firstGood_13 : decode kSl_firstGood 13 = .ok (.aaload, 1) := by decide +kernel
theorem dSl_firstGood_14 : decode kSl_firstGood 14 = .ok (.iload_n 1, 1) := by decide +kernel
theorem dSl_firstGood_15 : decode kSl_firstGood 15 = .ok (.invokevirtual 30, 3) := by decide +kernel
theorem dSl_firstGood_18 : decode kSl_firstGood 18 = .ok (.ifCond .eq 10, 3) := by decide +kernel
theorem dSl_firstGood_21 : decode kSl_firstGood 21 = .ok (.aload_n 0, 1) := by decide +kernel
theorem dSl_firstGood_22 : decode kSl_firstGood 22 = .ok (.getfield 11, 3) := by decide +kernel
theorem dSl_firstGood_25 : decode kSl_firstGood 25 = .ok (.iload_n 2, 1) := by decide +kernel
theorem dSl_firstGood_26 : decode kSl_firstGood 26 = .ok (.aaload, 1) := by decide +kernel
theorem dSl_firstGood_27 : decode kSl_firstGood 27 = .ok (.areturn, 1) := by decide +kernel
theorem dSl_firstGood_28 : decode kSl_firstGood 28 = .ok (.iinc 2 1, 3) := by decide +kernel
theorem dSl_firstGood_31 : decode kSl_firstGood 31 = .ok (.goto (-29), 3) := by decide +kernel
theorem dSl_firstGood_34 : decode kSl_firstGood 34 = .ok (.aconst_null, 1) := by decide +kernel
theorem dSl_firstGood_35 : decode kSl_firstGood 35 = .ok (.areturn, 1) := by decide +kernel
theorem dSl_hold_0 : decode kSl_hold 0 = .ok (.iconst 0, 1) := by decide +kernel
theorem dSl_hold_1 : decode kSl_hold 1 = .ok (.istore_n 2, 1) := by decide +kernel
theorem dSl_hold_2 : decode kSl_hold 2 = .ok (.iload_n 2, 1) := by decide +kernel
theorem dSl_hold_3 : decode kSl_hold 3 = .ok (.bipush 60, 2) := by decide +kernel
theorem dSl_hold_5 : decode kSl_hold 5 = .ok (.if_icmp .ge 24, 3) := by decide +kernel
theorem dSl_hold_8 : decode kSl_hold 8 = .ok (.aload_n 0, 1) := by decide +kernel
theorem dSl_hold_9 : decode kSl_hold 9 = .ok (.getfield 11, 3) := by decide +kernel
theorem dSl_hold_12 : decode kSl_hold 12 = .ok (.iload_n 2, 1) := by decide +kernel
theorem dSl_hold_13 : decode kSl_hold 13 = .ok (.aaload, 1) := by decide +kernel
theorem dSl_hold_14 : decode kSl_hold 14 = .ok (.aload_n 1, 1) := by decide +kernel
theorem dSl_hold_15 : decode kSl_hold 15 = .ok (.invokevirtual 34, 3) := by decide +kernel
theorem dSl_hold_18 : decode kSl_hold 18 = .ok (.ifCond .eq 5, 3) := by decide +kernel
theorem dSl_hold_21 : decode kSl_hold 21 = .ok (.iconst 1, 1) := by decide +kernel
theorem dSl_hold_22 : decode kSl_hold 22 = .ok (.ireturn, 1) := by decide +kernel
theorem dSl_hold_23 : decode kSl_hold 23 = .ok (.iinc 2 1, 3) := by decide +kernel
theorem dSl_hold_26 : decode kSl_hold 26 = .ok (.goto (-24), 3) := by decide +kernel
theorem dSl_hold_29 : decode kSl_hold 29 = .ok (.iconst 0, 1) := by decide +kernel
theorem dSl_hold_30 : decode kSl_hold 30 = .ok (.ireturn, 1) := by decide +kernel
theorem dSl_putIntoLeastEmpty_0 : decode kSl_putIntoLeastEmpty 0 = .ok (.iconst 0, 1) := by decide +kernel
theorem dSl_putIntoLeastEmpty_1 : decode kSl_putIntoLeastEmpty 1 = .ok (.istore_n 2, 1) := by decide +kernel
theorem dSl_putIntoLeastEmpty_2 : decode kSl_putIntoLeastEmpty 2 = .ok (.iload_n 2, 1) := by decide +kernel
theorem dSl_putIntoLeastEmpty_3 : decode kSl_putIntoLeastEmpty 3 = .ok (.bipush 60, 2) := by decide +kernel
theorem dSl_putIntoLeastEmpty_5 : decode kSl_putIntoLeastEmpty 5 = .ok (.if_icmp .ge 32, 3) := by decide +kernel
theorem dSl_putIntoLeastEmpty_8 : decode kSl_putIntoLeastEmpty 8 = .ok (.aload_n 0, 1) := by decide +kernel
theorem dSl_putIntoLeastEmpty_9 : decode kSl_putIntoLeastEmpty 9 = .ok (.getfield 11, 3) := by decide +kernel
theorem dSl_putIntoLeastEmpty_12 : decode kSl_putIntoLeastEmpty 12 = .ok (.iload_n 2, 1) := by decide +kernel
theorem dSl_putIntoLeastEmpty_13 : decode kSl_putIntoLeastEmpty 13 = .ok (.aaload, 1) := by decide +kernel
theorem dSl_putIntoLeastEmpty_14 : decode kSl_putIntoLeastEmpty 14 = .ok (.getfield 22, 3) := by decide +kernel
theorem dSl_putIntoLeastEmpty_17 : decode kSl_putIntoLeastEmpty 17 = .ok (.ifCond .ne 14, 3) := by decide +kernel
theorem dSl_putIntoLeastEmpty_20 : decode kSl_putIntoLeastEmpty 20 = .ok (.aload_n 0, 1) := by decide +kernel
theorem dSl_putIntoLeastEmpty_21 : decode kSl_putIntoLeastEmpty 21 = .ok (.getfield 11, 3) := by decide +kernel
theorem dSl_putIntoLeastEmpty_24 : decode kSl_putIntoLeastEmpty 24 = .ok (.iload_n 2, 1) := by decide +kernel
theorem dSl_putIntoLeastEmpty_25 : decode kSl_putIntoLeastEmpty 25 = .ok (.aaload, 1) := by decide +kernel
theorem dSl_putIntoLeastEmpty_26 : decode kSl_putIntoLeastEmpty 26 = .ok (.aload_n 1, 1) := by decide +kernel
theorem dSl_putIntoLeastEmpty_27 : decode kSl_putIntoLeastEmpty 27 = .ok (.invokevirtual 38, 3) := by decide +kernel
theorem dSl_putIntoLeastEmpty_30 : decode kSl_putIntoLeastEmpty 30 = .ok (.return_, 1) := by decide +kernel
theorem dSl_putIntoLeastEmpty_31 : decode kSl_putIntoLeastEmpty 31 = .ok (.iinc 2 1, 3) := by decide +kernel
theorem dSl_putIntoLeastEmpty_34 : decode kSl_putIntoLeastEmpty 34 = .ok (.goto (-32), 3) := by decide +kernel
theorem dSl_putIntoLeastEmpty_37 : decode kSl_putIntoLeastEmpty 37 = .ok (.return_, 1) := by decide +kernel
theorem dWr_init_0 : decode kWr_init 0 = .ok (.aload_n 0, 1) := by decide +kernel
theorem dWr_init_1 : decode kWr_init 1 = .ok (.invokespecial 3, 3) := by decide +kernel
theorem dWr_init_4 : decode kWr_init 4 = .ok (.aload_n 0, 1) := by decide +kernel
theorem dWr_init_5 : decode kWr_init 5 = .ok (.new 9, 3) := by decide +kernel
theorem dWr_init_8 : decode kWr_init 8 = .ok (.dup, 1) := by decide +kernel
theorem dWr_init_9 : decode kWr_init 9 = .ok (.invokespecial 11, 3) := by decide +kernel
theorem dWr_init_12 : decode kWr_init 12 = .ok (.putfield 12, 3) := by decide +kernel
theorem dWr_init_15 : decode kWr_init 15 = .ok (.return_, 1) := by decide +kernel
theorem dWr_make_0 : decode kWr_make 0 = .ok (.aload_n 0, 1) := by decide +kernel
theorem dWr_make_1 : decode kWr_make 1 = .ok (.getfield 12, 3) := by decide +kernel
theorem dWr_make_4 : decode kWr_make 4 = .ok (.aload_n 3, 1) := by decide +kernel
theorem dWr_make_5 : decode kWr_make 5 = .ok (.getfield 18, 3) := by decide +kernel
theorem dWr_make_8 : decode kWr_make 8 = .ok (.putfield 24, 3) := by decide +kernel
theorem dWr_make_11 : decode kWr_make 11 = .ok (.aload_n 0, 1) := by decide +kernel
theorem dWr_make_12 : decode kWr_make 12 = .ok (.getfield 12, 3) := by decide +kernel
theorem dWr_make_15 : decode kWr_make 15 = .ok (.iconst 0, 1) := by decide +kernel
theorem dWr_make_16 : decode kWr_make 16 = .ok (.bipush 86, 2) := by decide +kernel
theorem dWr_make_18 : decode kWr_make 18 = .ok (.invokevirtual 25, 3) := by decide +kernel
theorem dWr_make_21 : decode kWr_make 21 = .ok (.aload_n 0, 1) := by decide +kernel
theorem dWr_make_22 : decode kWr_make 22 = .ok (.getfield 12, 3) := by decide +kernel
theorem dWr_make_25 : decode kWr_make 25 = .ok (.iconst 1, 1) := by decide +kernel
theorem dWr_make_26 : decode kWr_make 26 = .ok (.bipush 83, 2) := by decide +kernel
theorem dWr_make_28 : decode kWr_make 28 = .ok (.invokevirtual 25, 3) := by decide +kernel
theorem dWr_make_31 : decode kWr_make 31 = .ok (.aload_n 0, 1) := by decide +kernel
theorem dWr_make_32 : decode kWr_make 32 = .ok (.getfield 12, 3) := by decide +kernel
theorem dWr_make_35 : decode kWr_make 35 = .ok (.iconst 2, 1) := by decide +kernel
theorem dWr_make_36 : decode kWr_make 36 = .ok (.aload_n 3, 1) := by decide +kernel
theorem dWr_make_37 : decode kWr_make 37 = .ok (.getfield 29, 3) := by decide +kernel
theorem dWr_make_40 : decode kWr_make 40 = .ok (.invokevirtual 25, 3) := by decide +kernel
theorem dWr_make_43 : decode kWr_make 43 = .ok (.aload_n 0, 1) := by decide +kernel
theorem dWr_make_44 : decode kWr_make 44 = .ok (.getfield 12, 3) := by decide +kernel
theorem dWr_make_47 : decode kWr_make 47 = .ok (.iconst 3, 1) := by decide +kernel
theorem dWr_make_48 : decode kWr_make 48 = .ok (.iload_n 1, 1) := by decide +kernel
theorem dWr_make_49 : decode kWr_make 49 = .ok (.invokevirtual 25, 3) := by decide +kernel
theorem dWr_make_52 : decode kWr_make 52 = .ok (.aload_n 0, 1) := by decide +kernel
theorem dWr_make_53 : decode kWr_make 53 = .ok (.getfield 12, 3) := by decide +kernel
theorem dWr_make_56 : decode kWr_make 56 = .ok (.iconst 4, 1) := by decide +kernel
theorem dWr_make_57 : decode kWr_make 57 = .ok (.aload_n 2, 1) := by decide +kernel
theorem dWr_make_58 : decode kWr_make 58 = .ok (.getfield 32, 3) := by decide +kernel
theorem dWr_make_61 : decode kWr_make 61 = .ok (.invokevirtual 25, 3) := by decide +kernel
theorem dWr_make_64 : decode kWr_make 64 = .ok (.aload_n 0, 1) := by decide +kernel
theorem dWr_make_65 : decode kWr_make 65 = .ok (.getfield 12, 3) := by decide +kernel
theorem dWr_make_68 : decode kWr_make 68 = .ok (.iconst 5, 1) := by decide +kernel
theorem dWr_make_69 : decode kWr_make 69 = .ok (.aload_n 3, 1) := by decide +kernel
theorem dWr_make_70 : decode kWr_make 70 = .ok (.getfield 37, 3) := by decide +kernel
theorem dWr_make_73 : decode kWr_make 73 = .ok (.invokevirtual 25, 3) := by decide +kernel
theorem dWr_make_76 : decode kWr_make 76 = .ok (.bipush 6, 2) := by decide +kernel
theorem dWr_make_78 : decode kWr_make 78 = .ok (.istore 4, 2) := by decide +kernel
theorem dWr_make_80 : decode kWr_make 80 = .ok (.iload 4, 2) := by decide +kernel
theorem dWr_make_82 : decode kWr_make 82 = .ok (.aload_n 3, 1) := by decide +kernel
theorem dWr_make_83 : decode kWr_make 83 = .ok (.getfield 18, 3) := by decide +kernel
theorem dWr_make_86 : decode kWr_make 86 = .ok (.if_icmp .ge 48, 3) := by decide +kernel
theorem dWr_make_89 : decode kWr_make 89 = .ok (.aload_n 0, 1) := by decide +kernel
theorem dWr_make_90 : decode kWr_make 90 = .ok (.getfield 12, 3) := by decide +kernel
theorem dWr_make_93 : decode kWr_make 93 = .ok (.iload 4, 2) := by decide +kernel
theorem dWr_make_95 : decode kWr_make 95 = .ok (.iload_n 1, 1) := by decide +kernel
theorem dWr_make_96 : decode kWr_make 96 = .ok (.aload_n 2, 1) := by decide +kernel
theorem dWr_make_97 : decode kWr_make 97 = .ok (.getfield 32, 3) := by decide +kernel
theorem dWr_make_100 : decode kWr_make 100 = .ok (.if_icmp .ge 13, 3) := by decide +kernel
theorem dWr_make_103 : decode kWr_make 103 = .ok (.aload_n 2, 1) := by decide +kernel
theorem dWr_make_104 : decode kWr_make 104 = .ok (.iload_n 1, 1) := by decide +kernel
theorem dWr_make_105 : decode kWr_make 105 = .ok (.iload 4, 2) := by decide +kernel
theorem dWr_make_107 : decode kWr_make 107 = .ok (.invokevirtual 40, 3) := by decide +kernel
theorem dWr_make_110 : decode kWr_make 110 = .ok (.goto 15, 3) := by decide +kernel
theorem dWr_make_113 : decode kWr_make 113 = .ok (.aload_n 2, 1) := by decide +kernel
theorem dWr_make_114 : decode kWr_make 114 = .ok (.iload_n 1, 1) := by decide +kernel
theorem dWr_make_115 : decode kWr_make 115 = .ok (.aload_n 2, 1) := by decide +kernel
theorem dWr_make_116 : decode kWr_make 116 = .ok (.getfield 32, 3) := by decide +kernel
theorem dWr_make_119 : decode kWr_make 119 = .ok (.isub, 1) := by decide +kernel
theorem dWr_make_120 : decode kWr_make 120 = .ok (.iload 4, 2) := by decide +kernel
theorem dWr_make_122 : decode kWr_make 122 = .ok (.invokevirtual 44, 3) := by decide +kernel
theorem dWr_make_125 : decode kWr_make 125 = .ok (.invokevirtual 25, 3) := by decide +kernel
theorem dWr_make_128 : decode kWr_make 128 = .ok (.iinc 4 1, 3) := by decide +kernel
theorem dWr_make_131 : decode kWr_make 131 = .ok (.goto (-51), 3) := by decide +kernel
theorem dWr_make_134 : decode kWr_make 134 = .ok (.aload_n 0, 1) := by decide +kernel
theorem dWr_make_135 : decode kWr_make 135 = .ok (.getfield 12, 3) := by decide +kernel
theorem dWr_make_138 : decode kWr_make 138 = .ok (.invokevirtual 47, 3) := by decide +kernel
theorem dWr_make_141 : decode kWr_make 141 = .ok (.return_, 1) := by decide +kernel
theorem dWr_missingIn_0 : decode kWr_missingIn 0 = .ok (.iconst 0, 1) := by decide +kernel
theorem dWr_missingIn_1 : decode kWr_missingIn 1 = .ok (.istore 4, 2) := by decide +kernel
theorem dWr_missingIn_3 : decode kWr_missingIn 3 = .ok (.iconst 0, 1) := by decide +kernel
theorem dWr_missingIn_4 : decode kWr_missingIn 4 = .ok (.istore 5, 2) := by decide +kernel
theorem dWr_missingIn_6 : decode kWr_missingIn 6 = .ok (.iload 5, 2) := by decide +kernel
theorem dWr_missingIn_8 : decode kWr_missingIn 8 = .ok (.aload_n 2, 1) := by decide +kernel
theorem dWr_missingIn_9 : decode kWr_missingIn 9 = .ok (.getfield 32, 3) := by decide +kernel
theorem dWr_missingIn_12 : decode kWr_missingIn 12 = .ok (.aload_n 3, 1) := by decide +kernel
theorem dWr_missingIn_13 : decode kWr_missingIn 13 = .ok (.getfield 37, 3) := by decide +kernel
theorem dWr_missingIn_16 : decode kWr_missingIn 16 = .ok (.iadd, 1) := by decide +kernel
theorem dWr_missingIn_17 : decode kWr_missingIn 17 = .ok (.if_icmp .ge 31, 3) := by decide +kernel
theorem dWr_missingIn_20 : decode kWr_missingIn 20 = .ok (.aload_n 0, 1) := by decide +kernel
theorem dWr_missingIn_21 : decode kWr_missingIn 21 = .ok (.iload 5, 2) := by decide +kernel
theorem dWr_missingIn_23 : decode kWr_missingIn 23 = .ok (.aload_n 2, 1) := by decide +kernel
theorem dWr_missingIn_24 : decode kWr_missingIn 24 = .ok (.aload_n 3, 1) := by decide +kernel
theorem dWr_missingIn_25 : decode kWr_missingIn 25 = .ok (.invokevirtual 50, 3) := by decide +kernel
theorem dWr_missingIn_28 : decode kWr_missingIn 28 = .ok (.aload_n 1, 1) := by decide +kernel
theorem dWr_missingIn_29 : decode kWr_missingIn 29 = .ok (.aload_n 0, 1) := by decide +kernel
theorem dWr_missingIn_30 : decode kWr_missingIn 30 = .ok (.getfield 12, 3) := by decide +kernel
theorem dWr_missingIn_33 : decode kWr_missingIn 33 = .ok (.invokevirtual 54, 3) := by decide +kernel
theorem dWr_missingIn_36 : decode kWr_missingIn 36 = .ok (.ifCond .ne 6, 3) := by decide +kernel
theorem dWr_missingIn_39 : decode kWr_missingIn 39 = .ok (.iinc 4 1, 3) := by decide +kernel
theorem dWr_missingIn_42 : decode kWr_missingIn 42 = .ok (.iinc 5 1, 3) := by decide +kernel
theorem dWr_missingIn_45 : decode kWr_missingIn 45 = .ok (.goto (-39), 3) := by decide +kernel
theorem dWr_missingIn_48 : decode kWr_missingIn 48 = .ok (.iload 4, 2) := by decide +kernel
theorem dWr_missingIn_50 : decode kWr_missingIn 50 = .ok (.ireturn, 1) := by decide +kernel
theorem dWr_fill_0 : decode kWr_fill 0 = .ok (.iconst 0, 1) := by decide +kernel
theorem dWr_fill_1 : decode kWr_fill 1 = .ok (.istore 5, 2) := by decide +kernel
theorem dWr_fill_3 : decode kWr_fill 3 = .ok (.iconst 0, 1) := by decide +kernel
theorem dWr_fill_4 : decode kWr_fill 4 = .ok (.istore 6, 2) := by decide +kernel
theorem dWr_fill_6 : decode kWr_fill 6 = .ok (.iload 6, 2) := by decide +kernel
theorem dWr_fill_8 : decode kWr_fill 8 = .ok (.aload_n 2, 1) := by decide +kernel
theorem dWr_fill_9 : decode kWr_fill 9 = .ok (.getfield 32, 3) := by decide +kernel
theorem dWr_fill_12 : decode kWr_fill 12 = .ok (.aload_n 3, 1) := by decide +kernel
theorem dWr_fill_13 : decode kWr_fill 13 = .ok (.getfield 37, 3) := by decide +kernel
theorem dWr_fill_16 : decode kWr_fill 16 = .ok (.iadd, 1) := by decide +kernel
theorem dWr_fill_17 : decode kWr_fill 17 = .ok (.if_icmp .ge 67, 3) := by decide +kernel
theorem dWr_fill_20 : decode kWr_fill 20 = .ok (.aload_n 0, 1) := by decide +kernel
theorem dWr_fill_21 : decode kWr_fill 21 = .ok (.iload 6, 2) := by decide +kernel
theorem dWr_fill_23 : decode kWr_fill 23 = .ok (.aload_n 2, 1) := by decide +kernel
theorem dWr_fill_24 : decode kWr_fill 24 = .ok (.aload_n 3, 1) := by decide +kernel
theorem dWr_fill_25 : decode kWr_fill 25 = .ok (.invokevirtual 50, 3) := by decide +kernel
theorem dWr_fill_28 : decode kWr_fill 28 = .ok (.aload_n 1, 1) := by decide +kernel
theorem dWr_fill_29 : decode kWr_fill 29 = .ok (.aload_n 0, 1) := by decide +kernel
theorem dWr_fill_30 : decode kWr_fill 30 = .ok (.getfield 12, 3) := by decide +kernel
theorem dWr_fill_33 : decode kWr_fill 33 = .ok (.invokevirtual 54, 3) := by decide +kernel
theorem dWr_fill_36 : decode kWr_fill 36 = .ok (.ifCond .eq 6, 3) := by decide +kernel
theorem dWr_fill_39 : decode kWr_fill 39 = .ok (.goto 39, 3) := by decide +kernel
theorem dWr_fill_42 : decode kWr_fill 42 = .ok (.iload 5, 2) := by decide +kernel
theorem dWr_fill_44 : decode kWr_fill 44 = .ok (.iload 4, 2) := by decide +kernel
theorem dWr_fill_46 : decode kWr_fill 46 = .ok (.if_icmp .ne 21, 3) := by decide +kernel
theorem dWr_fill_49 : decode kWr_fill 49 = .ok (.aload_n 0, 1) := by decide +kernel
theorem dWr_fill_50 : decode kWr_fill 50 = .ok (.getfield 12, 3) := by decide +kernel
theorem dWr_fill_53 : decode kWr_fill 53 = .ok (.invokevirtual 60, 3) := by decide +kernel
theorem dWr_fill_56 : decode kWr_fill 56 = .ok (.aload_n 1, 1) := by decide +kernel
theorem dWr_fill_57 : decode kWr_fill 57 = .ok (.aload_n 0, 1) := by decide +kernel
theorem dWr_fill_58 : decode kWr_fill 58 = .ok (.getfield 12, 3) := by decide +kernel
theorem dWr_fill_61 : decode kWr_fill 61 = .ok (.invokevirtual 63, 3) := by decide +kernel
theorem dWr_fill_64 : decode kWr_fill 64 = .ok (.goto 20, 3) := by decide +kernel
theorem dWr_fill_67 : decode kWr_fill 67 = .ok (.aload_n 1, 1) := by decide +kernel
theorem dWr_fill_68 : decode kWr_fill 68 = .ok (.aload_n 0, 1) := by decide +kernel
theorem dWr_fill_69 : decode kWr_fill 69 = .ok (.getfield 12, 3) := by decide +kernel
theorem dWr_fill_72 : decode kWr_fill 72 = .ok (.invokevirtual 63, 3) := by decide +kernel
theorem dWr_fill_75 : decode kWr_fill 75 = .ok (.iinc 5 1, 3) := by decide +kernel
theorem dWr_fill_78 : decode kWr_fill 78 = .ok (.iinc 6 1, 3) := by decide +kernel
theorem dWr_fill_81 : decode kWr_fill 81 = .ok (.goto (-75), 3) := by decide +kernel
theorem dWr_fill_84 : decode kWr_fill 84 = .ok (.iload 5, 2) := by decide +kernel
theorem dWr_fill_86 : decode kWr_fill 86 = .ok (.ireturn, 1) := by decide +kernel
