theorem dVS_init_0 : decode kVS_init 0 = .ok (.aload_n 0, 1) := by decide +kernel
theorem dVS_init_1 : decode kVS_init 1 = .ok (.invokespecial 1, 3) := by decide +kernel
theorem dVS_init_4 : decode kVS_init 4 = .ok (.aload_n 0, 1) := by decide +kernel
theorem dVS_init_5 : decode kVS_init 5 = .ok (.new 7, 3) := by decide +kernel
theorem dVS_init_8 : decode kVS_init 8 = .ok (.dup, 1) := by decide +kernel
theorem dVS_init_9 : decode kVS_init 9 = .ok (.invokespecial 9, 3) := by decide +kernel
theorem dVS_init_12 : decode kVS_init 12 = .ok (.putfield 10, 3) := by decide +kernel
theorem dVS_init_15 : decode kVS_init 15 = .ok (.aload_n 0, 1) := by decide +kernel
theorem dVS_init_16 : decode kVS_init 16 = .ok (.new 16, 3) := by decide +kernel
theorem dVS_init_19 : decode kVS_init 19 = .ok (.dup, 1) := by decide +kernel
theorem dVS_init_20 : decode kVS_init 20 = .ok (.invokespecial 18, 3) := by decide +kernel
theorem dVS_init_23 : decode kVS_init 23 = .ok (.putfield 19, 3) := by decide +kernel
theorem dVS_init_26 : decode kVS_init 26 = .ok (.aload_n 0, 1) := by decide +kernel
theorem dVS_init_27 : decode kVS_init 27 = .ok (.new 23, 3) := by decide +kernel
theorem dVS_init_30 : decode kVS_init 30 = .ok (.dup, 1) := by decide +kernel
theorem dVS_init_31 : decode kVS_init 31 = .ok (.invokespecial 25, 3) := by decide +kernel
theorem dVS_init_34 : decode kVS_init 34 = .ok (.putfield 26, 3) := by decide +kernel
theorem dVS_init_37 : decode kVS_init 37 = .ok (.aload_n 0, 1) := by decide +kernel
theorem dVS_init_38 : decode kVS_init 38 = .ok (.new 30, 3) := by decide +kernel
theorem dVS_init_41 : decode kVS_init 41 = .ok (.dup, 1) := by decide +kernel
theorem dVS_init_42 : decode kVS_init 42 = .ok (.invokespecial 32, 3) := by decide +kernel
theorem dVS_init_45 : decode kVS_init 45 = .ok (.putfield 33, 3) := by decide +kernel
theorem dVS_init_48 : decode kVS_init 48 = .ok (.aload_n 0, 1) := by decide +kernel
theorem dVS_init_49 : decode kVS_init 49 = .ok (.new 37, 3) := by decide +kernel
theorem dVS_init_52 : decode kVS_init 52 = .ok (.dup, 1) := by decide +kernel
theorem dVS_init_53 : decode kVS_init 53 = .ok (.invokespecial 39, 3) := by decide +kernel
theorem dVS_init_56 : decode kVS_init 56 = .ok (.putfield 40, 3) := by decide +kernel
theorem dVS_init_59 : decode kVS_init 59 = .ok (.aload_n 0, 1) := by decide +kernel
theorem dVS_init_60 : decode kVS_init 60 = .ok (.new 44, 3) := by decide +kernel
theorem dVS_init_63 : decode kVS_init 63 = .ok (.dup, 1) := by decide +kernel
theorem dVS_init_64 : decode kVS_init 64 = .ok (.invokespecial 46, 3) := by decide +kernel
theorem dVS_init_67 : decode kVS_init 67 = .ok (.putfield 47, 3) := by decide +kernel
theorem dVS_init_70 : decode kVS_init 70 = .ok (.aload_n 0, 1) := by decide +kernel
theorem dVS_init_71 : decode kVS_init 71 = .ok (.new 51, 3) := by decide +kernel
theorem dVS_init_74 : decode kVS_init 74 = .ok (.dup, 1) := by decide +kernel
theorem dVS_init_75 : decode kVS_init 75 = .ok (.invokespecial 53, 3) := by decide +kernel
theorem dVS_init_78 : decode kVS_init 78 = .ok (.putfield 54, 3) := by decide +kernel
theorem dVS_init_81 : decode kVS_init 81 = .ok (.return_, 1) := by decide +kernel
theorem dVS_feed_0 : decode kVS_feed 0 = .ok (.aload_n 0, 1) := by decide +kernel
theorem dVS_feed_1 : decode kVS_feed 1 = .ok (.getfield 10, 3) := by decide +kernel
theorem dVS_feed_4 : decode kVS_feed 4 = .ok (.getfield 58, 3) := by decide +kernel
theorem dVS_feed_7 : decode kVS_feed 7 = .ok (.bipush 20, 2) := by decide +kernel
theorem dVS_feed_9 : decode kVS_feed 9 = .ok (.iadd, 1) := by decide +kernel
theorem dVS_feed_10 : decode kVS_feed 10 = .ok (.bipush 60, 2) := by decide +kernel
theorem dVS_feed_12 : decode kVS_feed 12 = .ok (.if_icmp .le 6, 3) := by decide +kernel
theorem dVS_feed_15 : decode kVS_feed 15 = .ok (.bipush (-3), 2) := by decide +kernel
theorem dVS_feed_17 : decode kVS_feed 17 = .ok (.ireturn, 1) := by decide +kernel
theorem dVS_feed_18 : decode kVS_feed 18 = .ok (.aload_n 0, 1) := by decide +kernel
theorem dVS_feed_19 : decode kVS_feed 19 = .ok (.getfield 10, 3) := by decide +kernel
theorem dVS_feed_22 : decode kVS_feed 22 = .ok (.iload_n 1, 1) := by decide +kernel
theorem dVS_feed_23 : decode kVS_feed 23 = .ok (.invokevirtual 62, 3) := by decide +kernel
theorem dVS_feed_26 : decode kVS_feed 26 = .ok (.aload_n 0, 1) := by decide +kernel
theorem dVS_feed_27 : decode kVS_feed 27 = .ok (.getfield 10, 3) := by decide +kernel
theorem dVS_feed_30 : decode kVS_feed 30 = .ok (.iload_n 2, 1) := by decide +kernel
theorem dVS_feed_31 : decode kVS_feed 31 = .ok (.invokevirtual 62, 3) := by decide +kernel
theorem dVS_feed_34 : decode kVS_feed 34 = .ok (.aload_n 0, 1) := by decide +kernel
theorem dVS_feed_35 : decode kVS_feed 35 = .ok (.getfield 10, 3) := by decide +kernel
theorem dVS_feed_38 : decode kVS_feed 38 = .ok (.iload_n 3, 1) := by decide +kernel
theorem dVS_feed_39 : decode kVS_feed 39 = .ok (.invokevirtual 62, 3) := by decide +kernel
theorem dVS_feed_42 : decode kVS_feed 42 = .ok (.aload_n 0, 1) := by decide +kernel
theorem dVS_feed_43 : decode kVS_feed 43 = .ok (.getfield 10, 3) := by decide +kernel
theorem dVS_feed_46 : decode kVS_feed 46 = .ok (.iload 4, 2) := by decide +kernel
theorem dVS_feed_48 : decode kVS_feed 48 = .ok (.invokevirtual 62, 3) := by decide +kernel
theorem dVS_feed_51 : decode kVS_feed 51 = .ok (.aload_n 0, 1) := by decide +kernel
theorem dVS_feed_52 : decode kVS_feed 52 = .ok (.getfield 10, 3) := by decide +kernel
theorem dVS_feed_55 : decode kVS_feed 55 = .ok (.iload 5, 2) := by decide +kernel
theorem dVS_feed_57 : decode kVS_feed 57 = .ok (.invokevirtual 62, 3) := by decide +kernel
theorem dVS_feed_60 : decode kVS_feed 60 = .ok (.aload_n 0, 1) := by decide +kernel
theorem dVS_feed_61 : decode kVS_feed 61 = .ok (.getfield 10, 3) := by decide +kernel
theorem dVS_feed_64 : decode kVS_feed 64 = .ok (.getfield 58, 3) := by decide +kernel
theorem dVS_feed_67 : decode kVS_feed 67 = .ok (.ireturn, 1) := by decide +kernel
theorem dVS_end_0 : decode kVS_end 0 = .ok (.iload_n 1, 1) := by decide +kernel
theorem dVS_end_1 : decode kVS_end 1 = .ok (.ifCond .lt 21, 3) := by decide +kernel
theorem dVS_end_4 : decode kVS_end 4 = .ok (.iload_n 1, 1) := by decide +kernel
theorem dVS_end_5 : decode kVS_end 5 = .ok (.bipush 20, 2) := by decide +kernel
theorem dVS_end_7 : decode kVS_end 7 = .ok (.if_icmp .gt 15, 3) := by decide +kernel
theorem dVS_end_10 : decode kVS_end 10 = .ok (.aload_n 0, 1) := by decide +kernel
theorem dVS_end_11 : decode kVS_end 11 = .ok (.getfield 10, 3) := by decide +kernel
theorem dVS_end_14 : decode kVS_end 14 = .ok (.getfield 58, 3) := by decide +kernel
theorem dVS_end_17 : decode kVS_end 17 = .ok (.bipush 20, 2) := by decide +kernel
theorem dVS_end_19 : decode kVS_end 19 = .ok (.if_icmp .ge 5, 3) := by decide +kernel
theorem dVS_end_22 : decode kVS_end 22 = .ok (.iconst (-1), 1) := by decide +kernel
theorem dVS_end_23 : decode kVS_end 23 = .ok (.ireturn, 1) := by decide +kernel
theorem dVS_end_24 : decode kVS_end 24 = .ok (.aload_n 0, 1) := by decide +kernel
theorem dVS_end_25 : decode kVS_end 25 = .ok (.getfield 10, 3) := by decide +kernel
theorem dVS_end_28 : decode kVS_end 28 = .ok (.aload_n 0, 1) := by decide +kernel
theorem dVS_end_29 : decode kVS_end 29 = .ok (.getfield 10, 3) := by decide +kernel
theorem dVS_end_32 : decode kVS_end 32 = .ok (.getfield 58, 3) := by decide +kernel
theorem dVS_end_35 : decode kVS_end 35 = .ok (.bipush 20, 2) := by decide +kernel
theorem dVS_end_37 : decode kVS_end 37 = .ok (.isub, 1) := by decide +kernel
theorem dVS_end_38 : decode kVS_end 38 = .ok (.iload_n 1, 1) := by decide +kernel
theorem dVS_end_39 : decode kVS_end 39 = .ok (.iadd, 1) := by decide +kernel
theorem dVS_end_40 : decode kVS_end 40 = .ok (.putfield 58, 3) := by decide +kernel
theorem dVS_end_43 : decode kVS_end 43 = .ok (.aload_n 0, 1) := by decide +kernel
theorem dVS_end_44 : decode kVS_end 44 = .ok (.getfield 10, 3) := by decide +kernel
theorem dVS_end_47 : decode kVS_end 47 = .ok (.getfield 58, 3) := by decide +kernel
theorem dVS_end_50 : decode kVS_end 50 = .ok (.ireturn, 1) := by decide +kernel
theorem dVS_entry_0 : decode kVS_entry 0 = .ok (.aload_n 0, 1) := by decide +kernel
theorem dVS_entry_1 : decode kVS_entry 1 = .ok (.getfield 19, 3) := by decide +kernel
theorem dVS_entry_4 : decode kVS_entry 4 = .ok (.getfield 66, 3) := by decide +kernel
theorem dVS_entry_7 : decode kVS_entry 7 = .ok (.bipush 20, 2) := by decide +kernel
theorem dVS_entry_9 : decode kVS_entry 9 = .ok (.if_icmp .lt 6, 3) := by decide +kernel
theorem dVS_entry_12 : decode kVS_entry 12 = .ok (.bipush (-3), 2) := by decide +kernel
theorem dVS_entry_14 : decode kVS_entry 14 = .ok (.ireturn, 1) := by decide +kernel
theorem dVS_entry_15 : decode kVS_entry 15 = .ok (.aload_n 0, 1) := by decide +kernel
theorem dVS_entry_16 : decode kVS_entry 16 = .ok (.getfield 19, 3) := by decide +kernel
theorem dVS_entry_19 : decode kVS_entry 19 = .ok (.aload_n 0, 1) := by decide +kernel
theorem dVS_entry_20 : decode kVS_entry 20 = .ok (.getfield 10, 3) := by decide +kernel
theorem dVS_entry_23 : decode kVS_entry 23 = .ok (.invokevirtual 69, 3) := by decide +kernel
theorem dVS_entry_26 : decode kVS_entry 26 = .ok (.aload_n 0, 1) := by decide +kernel
theorem dVS_entry_27 : decode kVS_entry 27 = .ok (.getfield 10, 3) := by decide +kernel
theorem dVS_entry_30 : decode kVS_entry 30 = .ok (.iconst 0, 1) := by decide +kernel
theorem dVS_entry_31 : decode kVS_entry 31 = .ok (.putfield 58, 3) := by decide +kernel
theorem dVS_entry_34 : decode kVS_entry 34 = .ok (.aload_n 0, 1) := by decide +kernel
theorem dVS_entry_35 : decode kVS_entry 35 = .ok (.getfield 19, 3) := by decide +kernel
theorem dVS_entry_38 : decode kVS_entry 38 = .ok (.getfield 66, 3) := by decide +kernel
theorem dVS_entry_41 : decode kVS_entry 41 = .ok (.iconst 1, 1) := by decide +kernel
theorem dVS_entry_42 : decode kVS_entry 42 = .ok (.isub, 1) := by decide +kernel
theorem dVS_entry_43 : decode kVS_entry 43 = .ok (.ireturn, 1) := by decide +kernel
theorem dVS_clear_0 : decode kVS_clear 0 = .ok (.aload_n 0, 1) := by decide +kernel
theorem dVS_clear_1 : decode kVS_clear 1 = .ok (.getfield 19, 3) := by decide +kernel
theorem dVS_clear_4 : decode kVS_clear 4 = .ok (.getfield 66, 3) := by decide +kernel
theorem dVS_clear_7 : decode kVS_clear 7 = .ok (.istore_n 1, 1) := by decide +kernel
theorem dVS_clear_8 : decode kVS_clear 8 = .ok (.aload_n 0, 1) := by decide +kernel
theorem dVS_clear_9 : decode kVS_clear 9 = .ok (.getfield 19, 3) := by decide +kernel
theorem dVS_clear_12 : decode kVS_clear 12 = .ok (.invokevirtual 73, 3) := by decide +kernel
theorem dVS_clear_15 : decode kVS_clear 15 = .ok (.iload_n 1, 1) := by decide +kernel
theorem dVS_clear_16 : decode kVS_clear 16 = .ok (.ireturn, 1) := by decide +kernel
theorem dVS_rule_0 : decode kVS_rule 0 = .ok (.aload_n 0, 1) := by decide +kernel
theorem dVS_rule_1 : decode kVS_rule 1 = .ok (.getfield 26, 3) := by decide +kernel
theorem dVS_rule_4 : decode kVS_rule 4 = .ok (.iload_n 1, 1) := by decide +kernel
theorem dVS_rule_5 : decode kVS_rule 5 = .ok (.iload_n 2, 1) := by decide +kernel
theorem dVS_rule_6 : decode kVS_rule 6 = .ok (.invokevirtual 76, 3) := by decide +kernel
theorem dVS_rule_9 : decode kVS_rule 9 = .ok (.ireturn, 1) := by decide +kernel
theorem dVS_volumes_0 : decode kVS_volumes 0 = .ok (.aload_n 0, 1) := by decide +kernel
theorem dVS_volumes_1 : decode kVS_volumes 1 = .ok (.getfield 19, 3) := by decide +kernel
theorem dVS_volumes_4 : decode kVS_volumes 4 = .ok (.aload_n 0, 1) := by decide +kernel
theorem dVS_volumes_5 : decode kVS_volumes 5 = .ok (.getfield 26, 3) := by decide +kernel
theorem dVS_volumes_8 : decode kVS_volumes 8 = .ok (.invokevirtual 80, 3) := by decide +kernel
theorem dVS_volumes_11 : decode kVS_volumes 11 = .ok (.invokevirtual 84, 3) := by decide +kernel
theorem dVS_volumes_14 : decode kVS_volumes 14 = .ok (.aload_n 0, 1) := by decide +kernel
theorem dVS_volumes_15 : decode kVS_volumes 15 = .ok (.getfield 26, 3) := by decide +kernel
theorem dVS_volumes_18 : decode kVS_volumes 18 = .ok (.getfield 88, 3) := by decide +kernel
theorem dVS_volumes_21 : decode kVS_volumes 21 = .ok (.iadd, 1) := by decide +kernel
theorem dVS_volumes_22 : decode kVS_volumes 22 = .ok (.istore_n 1, 1) := by decide +kernel
theorem dVS_volumes_23 : decode kVS_volumes 23 = .ok (.iload_n 1, 1) := by decide +kernel
theorem dVS_volumes_24 : decode kVS_volumes 24 = .ok (.bipush 60, 2) := by decide +kernel
theorem dVS_volumes_26 : decode kVS_volumes 26 = .ok (.if_icmp .le 8, 3) := by decide +kernel
theorem dVS_volumes_29 : decode kVS_volumes 29 = .ok (.bipush (-3), 2) := by decide +kernel
theorem dVS_volumes_31 : decode kVS_volumes 31 = .ok (.goto 4, 3) := by decide +kernel
theorem dVS_volumes_34 : decode kVS_volumes 34 = .ok (.iload_n 1, 1) := by decide +kernel
theorem dVS_volumes_35 : decode kVS_volumes 35 = .ok (.ireturn, 1) := by decide +kernel
theorem dVS_byteOf_0 : decode kVS_byteOf 0 = .ok (.aload_n 0, 1) := by decide +kernel
theorem dVS_byteOf_1 : decode kVS_byteOf 1 = .ok (.invokevirtual 91, 3) := by decide +kernel
theorem dVS_byteOf_4 : decode kVS_byteOf 4 = .ok (.istore_n 3, 1) := by decide +kernel
theorem dVS_byteOf_5 : decode kVS_byteOf 5 = .ok (.iload_n 3, 1) := by decide +kernel
theorem dVS_byteOf_6 : decode kVS_byteOf 6 = .ok (.bipush (-3), 2) := by decide +kernel
theorem dVS_byteOf_8 : decode kVS_byteOf 8 = .ok (.if_icmp .ne 6, 3) := by decide +kernel
theorem dVS_byteOf_11 : decode kVS_byteOf 11 = .ok (.bipush (-3), 2) := by decide +kernel
theorem dVS_byteOf_13 : decode kVS_byteOf 13 = .ok (.ireturn, 1) := by decide +kernel
theorem dVS_byteOf_14 : decode kVS_byteOf 14 = .ok (.iload_n 1, 1) := by decide +kernel
theorem dVS_byteOf_15 : decode kVS_byteOf 15 = .ok (.ifCond .lt 23, 3) := by decide +kernel
theorem dVS_byteOf_18 : decode kVS_byteOf 18 = .ok (.iload_n 1, 1) := by decide +kernel
theorem dVS_byteOf_19 : decode kVS_byteOf 19 = .ok (.iload_n 3, 1) := by decide +kernel
theorem dVS_byteOf_20 : decode kVS_byteOf 20 = .ok (.if_icmp .ge 18, 3) := by decide +kernel
theorem dVS_byteOf_23 : decode kVS_byteOf 23 = .ok (.iload_n 2, 1) := by decide +kernel
theorem dVS_byteOf_24 : decode kVS_byteOf 24 = .ok (.ifCond .lt 14, 3) := by decide +kernel
theorem dVS_byteOf_27 : decode kVS_byteOf 27 = .ok (.iload_n 2, 1) := by decide +kernel
theorem dVS_byteOf_28 : decode kVS_byteOf 28 = .ok (.aload_n 0, 1) := by decide +kernel
theorem dVS_byteOf_29 : decode kVS_byteOf 29 = .ok (.getfield 26, 3) := by decide +kernel
theorem dVS_byteOf_32 : decode kVS_byteOf 32 = .ok (.getfield 94, 3) := by decide +kernel
theorem dVS_byteOf_35 : decode kVS_byteOf 35 = .ok (.if_icmp .lt 5, 3) := by decide +kernel
theorem dVS_byteOf_38 : decode kVS_byteOf 38 = .ok (.iconst (-1), 1) := by decide +kernel
theorem dVS_byteOf_39 : decode kVS_byteOf 39 = .ok (.ireturn, 1) := by decide +kernel
theorem dVS_byteOf_40 : decode kVS_byteOf 40 = .ok (.aload_n 0, 1) := by decide +kernel
theorem dVS_byteOf_41 : decode kVS_byteOf 41 = .ok (.getfield 19, 3) := by decide +kernel
theorem dVS_byteOf_44 : decode kVS_byteOf 44 = .ok (.aload_n 0, 1) := by decide +kernel
theorem dVS_byteOf_45 : decode kVS_byteOf 45 = .ok (.getfield 26, 3) := by decide +kernel
theorem dVS_byteOf_48 : decode kVS_byteOf 48 = .ok (.invokevirtual 80, 3) := by decide +kernel
theorem dVS_byteOf_51 : decode kVS_byteOf 51 = .ok (.invokevirtual 97, 3) := by decide +kernel
theorem dVS_byteOf_54 : decode kVS_byteOf 54 = .ok (.aload_n 0, 1) := by decide +kernel
theorem dVS_byteOf_55 : decode kVS_byteOf 55 = .ok (.getfield 33, 3) := by decide +kernel
theorem dVS_byteOf_58 : decode kVS_byteOf 58 = .ok (.iload_n 1, 1) := by decide +kernel
theorem dVS_byteOf_59 : decode kVS_byteOf 59 = .ok (.aload_n 0, 1) := by decide +kernel
theorem dVS_byteOf_60 : decode kVS_byteOf 60 = .ok (.getfield 19, 3) := by decide +kernel
theorem dVS_byteOf_63 : decode kVS_byteOf 63 = .ok (.getfield 100, 3) := by decide +kernel
theorem dVS_byteOf_66 : decode kVS_byteOf 66 = .ok (.aload_n 0, 1) := by decide +kernel
theorem dVS_byteOf_67 : decode kVS_byteOf 67 = .ok (.getfield 26, 3) := by decide +kernel
theorem dVS_byteOf_70 : decode kVS_byteOf 70 = .ok (.invokevirtual 104, 3) := by decide +kernel
theorem dVS_byteOf_73 : decode kVS_byteOf 73 = .ok (.aload_n 0, 1) := by decide +kernel
theorem dVS_byteOf_74 : decode kVS_byteOf 74 = .ok (.getfield 33, 3) := by decide +kernel
theorem dVS_byteOf_77 : decode kVS_byteOf 77 = .ok (.getfield 108, 3) := by decide +kernel
theorem dVS_byteOf_80 : decode kVS_byteOf 80 = .ok (.iload_n 2, 1) := by decide +kernel
theorem dVS_byteOf_81 : decode kVS_byteOf 81 = .ok (.invokevirtual 112, 3) := by decide +kernel
theorem dVS_byteOf_84 : decode kVS_byteOf 84 = .ok (.ireturn, 1) := by decide +kernel
theorem dVS_write_0 : decode kVS_write 0 = .ok (.iload_n 1, 1) := by decide +kernel
theorem dVS_write_1 : decode kVS_write 1 = .ok (.iconst (-1), 1) := by decide +kernel
theorem dVS_write_2 : decode kVS_write 2 = .ok (.if_icmp .lt 9, 3) := by decide +kernel
theorem dVS_write_5 : decode kVS_write 5 = .ok (.iload_n 1, 1) := by decide +kernel
theorem dVS_write_6 : decode kVS_write 6 = .ok (.bipush 60, 2) := by decide +kernel
theorem dVS_write_8 : decode kVS_write 8 = .ok (.if_icmp .le 5, 3) := by decide +kernel
theorem dVS_write_11 : decode kVS_write 11 = .ok (.iconst (-1), 1) := by decide +kernel
theorem dVS_write_12 : decode kVS_write 12 = .ok (.ireturn, 1) := by decide +kernel
theorem dVS_write_13 : decode kVS_write 13 = .ok (.aload_n 0, 1) := by decide +kernel
theorem dVS_write_14 : decode kVS_write 14 = .ok (.invokevirtual 91, 3) := by decide +kernel
theorem dVS_write_17 : decode kVS_write 17 = .ok (.bipush (-3), 2) := by decide +kernel
theorem dVS_write_19 : decode kVS_write 19 = .ok (.if_icmp .ne 6, 3) := by decide +kernel
theorem dVS_write_22 : decode kVS_write 22 = .ok (.bipush (-3), 2) := by decide +kernel
theorem dVS_write_24 : decode kVS_write 24 = .ok (.ireturn, 1) := by decide +kernel
theorem dVS_write_25 : decode kVS_write 25 = .ok (.iload_n 1, 1) := by decide +kernel
theorem dVS_write_26 : decode kVS_write 26 = .ok (.ifCond .ge 8, 3) := by decide +kernel
theorem dVS_write_29 : decode kVS_write 29 = .ok (.bipush 60, 2) := by decide +kernel
theorem dVS_write_31 : decode kVS_write 31 = .ok (.goto 4, 3) := by decide +kernel
theorem dVS_write_34 : decode kVS_write 34 = .ok (.iload_n 1, 1) := by decide +kernel
theorem dVS_write_35 : decode kVS_write 35 = .ok (.istore_n 2, 1) := by decide +kernel
theorem dVS_write_36 : decode kVS_write 36 = .ok (.aload_n 0, 1) := by decide +kernel
theorem dVS_write_37 : decode kVS_write 37 = .ok (.getfield 19, 3) := by decide +kernel
theorem dVS_write_40 : decode kVS_write 40 = .ok (.aload_n 0, 1) := by decide +kernel
theorem dVS_write_41 : decode kVS_write 41 = .ok (.getfield 26, 3) := by decide +kernel
theorem dVS_write_44 : decode kVS_write 44 = .ok (.invokevirtual 80, 3) := by decide +kernel
theorem dVS_write_47 : decode kVS_write 47 = .ok (.invokevirtual 97, 3) := by decide +kernel
theorem dVS_write_50 : decode kVS_write 50 = .ok (.aload_n 0, 1) := by decide +kernel
theorem dVS_write_51 : decode kVS_write 51 = .ok (.getfield 33, 3) := by decide +kernel
theorem dVS_write_54 : decode kVS_write 54 = .ok (.aload_n 0, 1) := by decide +kernel
theorem dVS_write_55 : decode kVS_write 55 = .ok (.getfield 40, 3) := by decide +kernel
theorem dVS_write_58 : decode kVS_write 58 = .ok (.aload_n 0, 1) := by decide +kernel
theorem dVS_write_59 : decode kVS_write 59 = .ok (.getfield 19, 3) := by decide +kernel
theorem dVS_write_62 : decode kVS_write 62 = .ok (.getfield 100, 3) := by decide +kernel
theorem dVS_write_65 : decode kVS_write 65 = .ok (.aload_n 0, 1) := by decide +kernel
theorem dVS_write_66 : decode kVS_write 66 = .ok (.getfield 26, 3) := by decide +kernel
theorem dVS_write_69 : decode kVS_write 69 = .ok (.invokevirtual 117, 3) := by decide +kernel
theorem dVS_write_72 : decode kVS_write 72 = .ok (.iload_n 2, 1) := by decide +kernel
theorem dVS_write_73 : decode kVS_write 73 = .ok (.iconst 1, 1) := by decide +kernel
theorem dVS_write_74 : decode kVS_write 74 = .ok (.iadd, 1) := by decide +kernel
theorem dVS_write_75 : decode kVS_write 75 = .ok (.invokestatic 121, 3) := by decide +kernel
theorem dVS_write_78 : decode kVS_write 78 = .ok (.istore_n 3, 1) := by decide +kernel
theorem dVS_write_79 : decode kVS_write 79 = .ok (.iload_n 3, 1) := by decide +kernel
theorem dVS_write_80 : decode kVS_write 80 = .ok (.bipush 60, 2) := by decide +kernel
theorem dVS_write_82 : decode kVS_write 82 = .ok (.aload_n 0, 1) := by decide +kernel
theorem dVS_write_83 : decode kVS_write 83 = .ok (.getfield 40, 3) := by decide +kernel
theorem dVS_write_86 : decode kVS_write 86 = .ok (.invokevirtual 126, 3) := by decide +kernel
theorem dVS_write_89 : decode kVS_write 89 = .ok (.isub, 1) := by decide +kernel
theorem dVS_write_90 : decode kVS_write 90 = .ok (.if_icmp .le 6, 3) := by decide +kernel
theorem dVS_write_93 : decode kVS_write 93 = .ok (.bipush (-3), 2) := by decide +kernel
theorem dVS_write_95 : decode kVS_write 95 = .ok (.ireturn, 1) := by decide +kernel
theorem dVS_write_96 : decode kVS_write 96 = .ok (.aload_n 0, 1) := by decide +kernel
theorem dVS_write_97 : decode kVS_write 97 = .ok (.getfield 33, 3) := by decide +kernel
theorem dVS_write_100 : decode kVS_write 100 = .ok (.aload_n 0, 1) := by decide +kernel
theorem dVS_write_101 : decode kVS_write 101 = .ok (.getfield 40, 3) := by decide +kernel
theorem dVS_write_104 : decode kVS_write 104 = .ok (.aload_n 0, 1) := by decide +kernel
theorem dVS_write_105 : decode kVS_write 105 = .ok (.getfield 19, 3) := by decide +kernel
theorem dVS_write_108 : decode kVS_write 108 = .ok (.getfield 100, 3) := by decide +kernel
theorem dVS_write_111 : decode kVS_write 111 = .ok (.aload_n 0, 1) := by decide +kernel
theorem dVS_write_112 : decode kVS_write 112 = .ok (.getfield 26, 3) := by decide +kernel
theorem dVS_write_115 : decode kVS_write 115 = .ok (.iload_n 2, 1) := by decide +kernel
theorem dVS_write_116 : decode kVS_write 116 = .ok (.invokevirtual 129, 3) := by decide +kernel
theorem dVS_write_119 : decode kVS_write 119 = .ok (.ireturn, 1) := by decide +kernel
theorem dVS_lose_0 : decode kVS_lose 0 = .ok (.aload_n 0, 1) := by decide +kernel
theorem dVS_lose_1 : decode kVS_lose 1 = .ok (.getfield 40, 3) := by decide +kernel
theorem dVS_lose_4 : decode kVS_lose 4 = .ok (.iload_n 1, 1) := by decide +kernel
theorem dVS_lose_5 : decode kVS_lose 5 = .ok (.invokevirtual 133, 3) := by decide +kernel
theorem dVS_lose_8 : decode kVS_lose 8 = .ok (.astore_n 2, 1) := by decide +kernel
theorem dVS_lose_9 : decode kVS_lose 9 = .ok (.aload_n 2, 1) := by decide +kernel
theorem dVS_lose_10 : decode kVS_lose 10 = .ok (.ifnull 10, 3) := by decide +kernel
theorem dVS_lose_13 : decode kVS_lose 13 = .ok (.aload_n 2, 1) := by decide +kernel
theorem dVS_lose_14 : decode kVS_lose 14 = .ok (.getfield 137, 3) := by decide +kernel
theorem dVS_lose_17 : decode kVS_lose 17 = .ok (.ifCond .ne 5, 3) := by decide +kernel
theorem dVS_lose_20 : decode kVS_lose 20 = .ok (.iconst (-1), 1) := by decide +kernel
theorem dVS_lose_21 : decode kVS_lose 21 = .ok (.ireturn, 1) := by decide +kernel
theorem dVS_lose_22 : decode kVS_lose 22 = .ok (.aload_n 2, 1) := by decide +kernel
theorem dVS_lose_23 : decode kVS_lose 23 = .ok (.getfield 137, 3) := by decide +kernel
theorem dVS_lose_26 : decode kVS_lose 26 = .ok (.istore_n 3, 1) := by decide +kernel
theorem dVS_lose_27 : decode kVS_lose 27 = .ok (.aload_n 2, 1) := by decide +kernel
theorem dVS_lose_28 : decode kVS_lose 28 = .ok (.iconst 0, 1) := by decide +kernel
theorem dVS_lose_29 : decode kVS_lose 29 = .ok (.putfield 137, 3) := by decide +kernel
theorem dVS_lose_32 : decode kVS_lose 32 = .ok (.iload_n 3, 1) := by decide +kernel
theorem dVS_lose_33 : decode kVS_lose 33 = .ok (.ireturn, 1) := by decide +kernel
theorem dVS_poke_0 : decode kVS_poke 0 = .ok (.aload_n 0, 1) := by decide +kernel
theorem dVS_poke_1 : decode kVS_poke 1 = .ok (.getfield 40, 3) := by decide +kernel
theorem dVS_poke_4 : decode kVS_poke 4 = .ok (.iload_n 1, 1) := by decide +kernel
theorem dVS_poke_5 : decode kVS_poke 5 = .ok (.invokevirtual 133, 3) := by decide +kernel
theorem dVS_poke_8 : decode kVS_poke 8 = .ok (.astore 4, 2) := by decide +kernel
theorem dVS_poke_10 : decode kVS_poke 10 = .ok (.aload 4, 2) := by decide +kernel
theorem dVS_poke_12 : decode kVS_poke 12 = .ok (.ifnull 28, 3) := by decide +kernel
theorem dVS_poke_15 : decode kVS_poke 15 = .ok (.iload_n 2, 1) := by decide +kernel
theorem dVS_poke_16 : decode kVS_poke 16 = .ok (.ifCond .lt 24, 3) := by decide +kernel
theorem dVS_poke_19 : decode kVS_poke 19 = .ok (.iload_n 2, 1) := by decide +kernel
theorem dVS_poke_20 : decode kVS_poke 20 = .ok (.aload 4, 2) := by decide +kernel
theorem dVS_poke_22 : decode kVS_poke 22 = .ok (.getfield 137, 3) := by decide +kernel
theorem dVS_poke_25 : decode kVS_poke 25 = .ok (.if_icmp .ge 15, 3) := by decide +kernel
theorem dVS_poke_28 : decode kVS_poke 28 = .ok (.iload_n 3, 1) := by decide +kernel
theorem dVS_poke_29 : decode kVS_poke 29 = .ok (.iconst 1, 1) := by decide +kernel
theorem dVS_poke_30 : decode kVS_poke 30 = .ok (.if_icmp .lt 10, 3) := by decide +kernel
theorem dVS_poke_33 : decode kVS_poke 33 = .ok (.iload_n 3, 1) := by decide +kernel
theorem dVS_poke_34 : decode kVS_poke 34 = .ok (.sipush 255, 3) := by decide +kernel
theorem dVS_poke_37 : decode kVS_poke 37 = .ok (.if_icmp .le 5, 3) := by decide +kernel
theorem dVS_poke_40 : decode kVS_poke 40 = .ok (.iconst (-1), 1) := by decide +kernel
theorem dVS_poke_41 : decode kVS_poke 41 = .ok (.ireturn, 1) := by decide +kernel
theorem dVS_poke_42 : decode kVS_poke 42 = .ok (.aload 4, 2) := by decide +kernel
theorem dVS_poke_44 : decode kVS_poke 44 = .ok (.iload_n 2, 1) := by decide +kernel
theorem dVS_poke_45 : decode kVS_poke 45 = .ok (.aload 4, 2) := by decide +kernel
theorem dVS_poke_47 : decode kVS_poke 47 = .ok (.iload_n 2, 1) := by decide +kernel
theorem dVS_poke_48 : decode kVS_poke 48 = .ok (.invokevirtual 112, 3) := by decide +kernel
theorem dVS_poke_51 : decode kVS_poke 51 = .ok (.iload_n 3, 1) := by decide +kernel
theorem dVS_poke_52 : decode kVS_poke 52 = .ok (.ixor, 1) := by decide +kernel
theorem dVS_poke_53 : decode kVS_poke 53 = .ok (.invokevirtual 138, 3) := by decide +kernel
theorem dVS_poke_56 : decode kVS_poke 56 = .ok (.aload 4, 2) := by decide +kernel
theorem dVS_poke_58 : decode kVS_poke 58 = .ok (.iload_n 2, 1) := by decide +kernel
theorem dVS_poke_59 : decode kVS_poke 59 = .ok (.invokevirtual 112, 3) := by decide +kernel
theorem dVS_poke_62 : decode kVS_poke 62 = .ok (.ireturn, 1) := by decide +kernel
theorem dVS_swap_0 : decode kVS_swap 0 = .ok (.aload_n 0, 1) := by decide +kernel
theorem dVS_swap_1 : decode kVS_swap 1 = .ok (.getfield 40, 3) := by decide +kernel
theorem dVS_swap_4 : decode kVS_swap 4 = .ok (.iload_n 1, 1) := by decide +kernel
theorem dVS_swap_5 : decode kVS_swap 5 = .ok (.invokevirtual 133, 3) := by decide +kernel
theorem dVS_swap_8 : decode kVS_swap 8 = .ok (.ifnull 14, 3) := by decide +kernel
theorem dVS_swap_11 : decode kVS_swap 11 = .ok (.aload_n 0, 1) := by decide +kernel
theorem dVS_swap_12 : decode kVS_swap 12 = .ok (.getfield 40, 3) := by decide +kernel
theorem dVS_swap_15 : decode kVS_swap 15 = .ok (.iload_n 2, 1) := by decide +kernel
theorem dVS_swap_16 : decode kVS_swap 16 = .ok (.invokevirtual 133, 3) := by decide +kernel
theorem dVS_swap_19 : decode kVS_swap 19 = .ok (.ifnonnull 5, 3) := by decide +kernel
theorem dVS_swap_22 : decode kVS_swap 22 = .ok (.iconst (-1), 1) := by decide +kernel
theorem dVS_swap_23 : decode kVS_swap 23 = .ok (.ireturn, 1) := by decide +kernel
theorem dVS_swap_24 : decode kVS_swap 24 = .ok (.aload_n 0, 1) := by decide +kernel
theorem dVS_swap_25 : decode kVS_swap 25 = .ok (.getfield 40, 3) := by decide +kernel
theorem dVS_swap_28 : decode kVS_swap 28 = .ok (.iload_n 1, 1) := by decide +kernel
theorem dVS_swap_29 : decode kVS_swap 29 = .ok (.iload_n 2, 1) := by decide +kernel
theorem dVS_swap_30 : decode kVS_swap 30 = .ok (.invokevirtual 142, 3) := by decide +kernel
theorem dVS_swap_33 : decode kVS_swap 33 = .ok (.iconst 1, 1) := by decide +kernel
theorem dVS_swap_34 : decode kVS_swap 34 = .ok (.ireturn, 1) := by decide +kernel
theorem dVS_copy_0 : decode kVS_copy 0 = .ok (.aload_n 0, 1) := by decide +kernel
theorem dVS_copy_1 : decode kVS_copy 1 = .ok (.getfield 40, 3) := by decide +kernel
theorem dVS_copy_4 : decode kVS_copy 4 = .ok (.iload_n 1, 1) := by decide +kernel
theorem dVS_copy_5 : decode kVS_copy 5 = .ok (.invokevirtual 133, 3) := by decide +kernel
theorem dVS_copy_8 : decode kVS_copy 8 = .ok (.astore_n 3, 1) := by decide +kernel
theorem dVS_copy_9 : decode kVS_copy 9 = .ok (.aload_n 0, 1) := by decide +kernel
theorem dVS_copy_10 : decode kVS_copy 10 = .ok (.getfield 40, 3) := by decide +kernel
theorem dVS_copy_13 : decode kVS_copy 13 = .ok (.iload_n 2, 1) := by decide +kernel
theorem dVS_copy_14 : decode kVS_copy 14 = .ok (.invokevirtual 133, 3) := by decide +kernel
theorem dVS_copy_17 : decode kVS_copy 17 = .ok (.astore 4, 2) := by decide +kernel
theorem dVS_copy_19 : decode kVS_copy 19 = .ok (.aload_n 3, 1) := by decide +kernel
theorem dVS_copy_20 : decode kVS_copy 20 = .ok (.ifnull 23, 3) := by decide +kernel
theorem dVS_copy_23 : decode kVS_copy 23 = .ok (.aload 4, 2) := by decide +kernel
theorem dVS_copy_25 : decode kVS_copy 25 = .ok (.ifnull 18, 3) := by decide +kernel
theorem dVS_copy_28 : decode kVS_copy 28 = .ok (.aload_n 3, 1) := by decide +kernel
theorem dVS_copy_29 : decode kVS_copy 29 = .ok (.getfield 137, 3) := by decide +kernel
theorem dVS_copy_32 : decode kVS_copy 32 = .ok (.ifCond .eq 11, 3) := by decide +kernel
theorem dVS_copy_35 : decode kVS_copy 35 = .ok (.aload 4, 2) := by decide +kernel
theorem dVS_copy_37 : decode kVS_copy 37 = .ok (.getfield 137, 3) := by decide +kernel
theorem dVS_copy_40 : decode kVS_copy 40 = .ok (.ifCond .eq 5, 3) := by decide +kernel
theorem dVS_copy_43 : decode kVS_copy 43 = .ok (.iconst (-1), 1) := by decide +kernel
theorem dVS_copy_44 : decode kVS_copy 44 = .ok (.ireturn, 1) := by decide +kernel
theorem dVS_copy_45 : decode kVS_copy 45 = .ok (.aload 4, 2) := by decide +kernel
theorem dVS_copy_47 : decode kVS_copy 47 = .ok (.aload_n 3, 1) := by decide +kernel
theorem dVS_copy_48 : decode kVS_copy 48 = .ok (.invokevirtual 145, 3) := by decide +kernel
theorem dVS_copy_51 : decode kVS_copy 51 = .ok (.aload 4, 2) := by decide +kernel
theorem dVS_copy_53 : decode kVS_copy 53 = .ok (.getfield 137, 3) := by decide +kernel
theorem dVS_copy_56 : decode kVS_copy 56 = .ok (.ireturn, 1) := by decide +kernel
theorem dVS_slot_0 : decode kVS_slot 0 = .ok (.aload_n 0, 1) := by decide +kernel
theorem dVS_slot_1 : decode kVS_slot 1 = .ok (.getfield 40, 3) := by decide +kernel
theorem dVS_slot_4 : decode kVS_slot 4 = .ok (.iload_n 1, 1) := by decide +kernel
theorem dVS_slot_5 : decode kVS_slot 5 = .ok (.invokevirtual 133, 3) := by decide +kernel
theorem dVS_slot_8 : decode kVS_slot 8 = .ok (.astore_n 3, 1) := by decide +kernel
theorem dVS_slot_9 : decode kVS_slot 9 = .ok (.aload_n 3, 1) := by decide +kernel
theorem dVS_slot_10 : decode kVS_slot 10 = .ok (.ifnull 12, 3) := by decide +kernel
theorem dVS_slot_13 : decode kVS_slot 13 = .ok (.iload_n 2, 1) := by decide +kernel
theorem dVS_slot_14 : decode kVS_slot 14 = .ok (.ifCond .lt 8, 3) := by decide +kernel
theorem dVS_slot_17 : decode kVS_slot 17 = .ok (.iload_n 2, 1) := by decide +kernel
theorem dVS_slot_18 : decode kVS_slot 18 = .ok (.iconst 5, 1) := by decide +kernel
theorem dVS_slot_19 : decode kVS_slot 19 = .ok (.if_icmp .le 5, 3) := by decide +kernel
theorem dVS_slot_22 : decode kVS_slot 22 = .ok (.iconst (-1), 1) := by decide +kernel
theorem dVS_slot_23 : decode kVS_slot 23 = .ok (.ireturn, 1) := by decide +kernel
theorem dVS_slot_24 : decode kVS_slot 24 = .ok (.iload_n 2, 1) := by decide +kernel
theorem dVS_slot_25 : decode kVS_slot 25 = .ok (.ifCond .ne 8, 3) := by decide +kernel
theorem dVS_slot_28 : decode kVS_slot 28 = .ok (.aload_n 3, 1) := by decide +kernel
theorem dVS_slot_29 : decode kVS_slot 29 = .ok (.invokevirtual 149, 3) := by decide +kernel
theorem dVS_slot_32 : decode kVS_slot 32 = .ok (.ireturn, 1) := by decide +kernel
theorem dVS_slot_33 : decode kVS_slot 33 = .ok (.iload_n 2, 1) := by decide +kernel
theorem dVS_slot_34 : decode kVS_slot 34 = .ok (.iconst 5, 1) := by decide +kernel
theorem dVS_slot_35 : decode kVS_slot 35 = .ok (.if_icmp .ne 20, 3) := by decide +kernel
theorem dVS_slot_38 : decode kVS_slot 38 = .ok (.aload_n 3, 1) := by decide +kernel
theorem dVS_slot_39 : decode kVS_slot 39 = .ok (.getfield 137, 3) := by decide +kernel
theorem dVS_slot_42 : decode kVS_slot 42 = .ok (.ifCond .ne 8, 3) := by decide +kernel
theorem dVS_slot_45 : decode kVS_slot 45 = .ok (.bipush (-2), 2) := by decide +kernel
theorem dVS_slot_47 : decode kVS_slot 47 = .ok (.goto 7, 3) := by decide +kernel
theorem dVS_slot_50 : decode kVS_slot 50 = .ok (.aload_n 3, 1) := by decide +kernel
theorem dVS_slot_51 : decode kVS_slot 51 = .ok (.getfield 137, 3) := by decide +kernel
theorem dVS_slot_54 : decode kVS_slot 54 = .ok (.ireturn, 1) := by decide +kernel
theorem dVS_slot_55 : decode kVS_slot 55 = .ok (.aload_n 3, 1) := by decide +kernel
theorem dVS_slot_56 : decode kVS_slot 56 = .ok (.invokevirtual 152, 3) := by decide +kernel
theorem dVS_slot_59 : decode kVS_slot 59 = .ok (.ifCond .eq 15, 3) := by decide +kernel
theorem dVS_slot_62 : decode kVS_slot 62 = .ok (.aload_n 3, 1) := by decide +kernel
theorem dVS_slot_63 : decode kVS_slot 63 = .ok (.iconst 2, 1) := by decide +kernel
theorem dVS_slot_64 : decode kVS_slot 64 = .ok (.iload_n 2, 1) := by decide +kernel
theorem dVS_slot_65 : decode kVS_slot 65 = .ok (.iadd, 1) := by decide +kernel
theorem dVS_slot_66 : decode kVS_slot 66 = .ok (.iconst 1, 1) := by decide +kernel
theorem dVS_slot_67 : decode kVS_slot 67 = .ok (.isub, 1) := by decide +kernel
theorem dVS_slot_68 : decode kVS_slot 68 = .ok (.invokevirtual 112, 3) := by decide +kernel
theorem dVS_slot_71 : decode kVS_slot 71 = .ok (.goto 5, 3) := by decide +kernel
theorem dVS_slot_74 : decode kVS_slot 74 = .ok (.bipush (-2), 2) := by decide +kernel
theorem dVS_slot_76 : decode kVS_slot 76 = .ok (.ireturn, 1) := by decide +kernel
theorem dVS_read_0 : decode kVS_read 0 = .ok (.iload_n 1, 1) := by decide +kernel
theorem dVS_read_1 : decode kVS_read 1 = .ok (.ifCond .lt 10, 3) := by decide +kernel
theorem dVS_read_4 : decode kVS_read 4 = .ok (.iload_n 1, 1) := by decide +kernel
theorem dVS_read_5 : decode kVS_read 5 = .ok (.sipush 255, 3) := by decide +kernel
theorem dVS_read_8 : decode kVS_read 8 = .ok (.if_icmp .le 5, 3) := by decide +kernel
theorem dVS_read_11 : decode kVS_read 11 = .ok (.iconst (-1), 1) := by decide +kernel
theorem dVS_read_12 : decode kVS_read 12 = .ok (.ireturn, 1) := by decide +kernel
theorem dVS_read_13 : decode kVS_read 13 = .ok (.aload_n 0, 1) := by decide +kernel
theorem dVS_read_14 : decode kVS_read 14 = .ok (.getfield 47, 3) := by decide +kernel
theorem dVS_read_17 : decode kVS_read 17 = .ok (.aload_n 0, 1) := by decide +kernel
theorem dVS_read_18 : decode kVS_read 18 = .ok (.getfield 40, 3) := by decide +kernel
theorem dVS_read_21 : decode kVS_read 21 = .ok (.iload_n 1, 1) := by decide +kernel
theorem dVS_read_22 : decode kVS_read 22 = .ok (.invokevirtual 156, 3) := by decide +kernel
theorem dVS_read_25 : decode kVS_read 25 = .ok (.istore_n 2, 1) := by decide +kernel
theorem dVS_read_26 : decode kVS_read 26 = .ok (.aload_n 0, 1) := by decide +kernel
theorem dVS_read_27 : decode kVS_read 27 = .ok (.getfield 47, 3) := by decide +kernel
theorem dVS_read_30 : decode kVS_read 30 = .ok (.getfield 160, 3) := by decide +kernel
theorem dVS_read_33 : decode kVS_read 33 = .ok (.ifCond .eq 20, 3) := by decide +kernel
theorem dVS_read_36 : decode kVS_read 36 = .ok (.aload_n 0, 1) := by decide +kernel
theorem dVS_read_37 : decode kVS_read 37 = .ok (.getfield 54, 3) := by decide +kernel
theorem dVS_read_40 : decode kVS_read 40 = .ok (.aload_n 0, 1) := by decide +kernel
theorem dVS_read_41 : decode kVS_read 41 = .ok (.getfield 47, 3) := by decide +kernel
theorem dVS_read_44 : decode kVS_read 44 = .ok (.getfield 164, 3) := by decide +kernel
theorem dVS_read_47 : decode kVS_read 47 = .ok (.invokevirtual 165, 3) := by decide +kernel
theorem dVS_read_50 : decode kVS_read 50 = .ok (.goto 11, 3) := by decide +kernel
theorem dVS_read_53 : decode kVS_read 53 = .ok (.aload_n 0, 1) := by decide +kernel
theorem dVS_read_54 : decode kVS_read 54 = .ok (.getfield 54, 3) := by decide +kernel
theorem dVS_read_57 : decode kVS_read 57 = .ok (.iconst 0, 1) := by decide +kernel
theorem dVS_read_58 : decode kVS_read 58 = .ok (.putfield 169, 3) := by decide +kernel
theorem dVS_read_61 : decode kVS_read 61 = .ok (.iload_n 2, 1) := by decide +kernel
theorem dVS_read_62 : decode kVS_read 62 = .ok (.ireturn, 1) := by decide +kernel
theorem dVS_found_0 : decode kVS_found 0 = .ok (.iload_n 1, 1) := by decide +kernel
theorem dVS_found_1 : decode kVS_found 1 = .ok (.ifCond .lt 8, 3) := by decide +kernel
theorem dVS_found_4 : decode kVS_found 4 = .ok (.iload_n 1, 1) := by decide +kernel
theorem dVS_found_5 : decode kVS_found 5 = .ok (.iconst 5, 1) := by decide +kernel
theorem dVS_found_6 : decode kVS_found 6 = .ok (.if_icmp .le 5, 3) := by decide +kernel
theorem dVS_found_9 : decode kVS_found 9 = .ok (.iconst (-1), 1) := by decide +kernel
theorem dVS_found_10 : decode kVS_found 10 = .ok (.ireturn, 1) := by decide +kernel
theorem dVS_found_11 : decode kVS_found 11 = .ok (.aload_n 0, 1) := by decide +kernel
theorem dVS_found_12 : decode kVS_found 12 = .ok (.getfield 47, 3) := by decide +kernel
theorem dVS_found_15 : decode kVS_found 15 = .ok (.getfield 160, 3) := by decide +kernel
theorem dVS_found_18 : decode kVS_found 18 = .ok (.ifCond .ne 6, 3) := by decide +kernel
theorem dVS_found_21 : decode kVS_found 21 = .ok (.bipush (-2), 2) := by decide +kernel
theorem dVS_found_23 : decode kVS_found 23 = .ok (.ireturn, 1) := by decide +kernel
theorem dVS_found_24 : decode kVS_found 24 = .ok (.iload_n 1, 1) := by decide +kernel
theorem dVS_found_25 : decode kVS_found 25 = .ok (.tableswitch 78 0 4 #[35, 46, 54, 62, 70], 35) := by decide +kernel
theorem dVS_found_60 : decode kVS_found 60 = .ok (.aload_n 0, 1) := by decide +kernel
theorem dVS_found_61 : decode kVS_found 61 = .ok (.getfield 47, 3) := by decide +kernel
theorem dVS_found_64 : decode kVS_found 64 = .ok (.getfield 164, 3) := by decide +kernel
theorem dVS_found_67 : decode kVS_found 67 = .ok (.getfield 172, 3) := by decide +kernel
theorem dVS_found_70 : decode kVS_found 70 = .ok (.ireturn, 1) := by decide +kernel
theorem dVS_found_71 : decode kVS_found 71 = .ok (.aload_n 0, 1) := by decide +kernel
theorem dVS_found_72 : decode kVS_found 72 = .ok (.getfield 47, 3) := by decide +kernel
theorem dVS_found_75 : decode kVS_found 75 = .ok (.getfield 177, 3) := by decide +kernel
theorem dVS_found_78 : decode kVS_found 78 = .ok (.ireturn, 1) := by decide +kernel
theorem dVS_found_79 : decode kVS_found 79 = .ok (.aload_n 0, 1) := by decide +kernel
theorem dVS_found_80 : decode kVS_found 80 = .ok (.getfield 47, 3) := by decide +kernel
theorem dVS_found_83 : decode kVS_found 83 = .ok (.getfield 178, 3) := by decide +kernel
theorem dVS_found_86 : decode kVS_found 86 = .ok (.ireturn, 1) := by decide +kernel
theorem dVS_found_87 : decode kVS_found 87 = .ok (.aload_n 0, 1) := by decide +kernel
theorem dVS_found_88 : decode kVS_found 88 = .ok (.getfield 47, 3) := by decide +kernel
theorem dVS_found_91 : decode kVS_found 91 = .ok (.getfield 179, 3) := by decide +kernel
theorem dVS_found_94 : decode kVS_found 94 = .ok (.ireturn, 1) := by decide +kernel
theorem dVS_found_95 : decode kVS_found 95 = .ok (.aload_n 0, 1) := by decide +kernel
theorem dVS_found_96 : decode kVS_found 96 = .ok (.getfield 54, 3) := by decide +kernel
theorem dVS_found_99 : decode kVS_found 99 = .ok (.getfield 169, 3) := by decide +kernel
theorem dVS_found_102 : decode kVS_found 102 = .ok (.ireturn, 1) := by decide +kernel
theorem dVS_found_103 : decode kVS_found 103 = .ok (.aload_n 0, 1) := by decide +kernel
theorem dVS_found_104 : decode kVS_found 104 = .ok (.getfield 54, 3) := by decide +kernel
theorem dVS_found_107 : decode kVS_found 107 = .ok (.invokevirtual 182, 3) := by decide +kernel
theorem dVS_found_110 : decode kVS_found 110 = .ok (.ireturn, 1) := by decide +kernel
theorem dVS_where_0 : decode kVS_where 0 = .ok (.aload_n 0, 1) := by decide +kernel
theorem dVS_where_1 : decode kVS_where 1 = .ok (.getfield 47, 3) := by decide +kernel
theorem dVS_where_4 : decode kVS_where 4 = .ok (.getfield 160, 3) := by decide +kernel
theorem dVS_where_7 : decode kVS_where 7 = .ok (.ifCond .eq 29, 3) := by decide +kernel
theorem dVS_where_10 : decode kVS_where 10 = .ok (.iload_n 1, 1) := by decide +kernel
theorem dVS_where_11 : decode kVS_where 11 = .ok (.ifCond .lt 25, 3) := by decide +kernel
theorem dVS_where_14 : decode kVS_where 14 = .ok (.iload_n 1, 1) := by decide +kernel
theorem dVS_where_15 : decode kVS_where 15 = .ok (.aload_n 0, 1) := by decide +kernel
theorem dVS_where_16 : decode kVS_where 16 = .ok (.getfield 47, 3) := by decide +kernel
theorem dVS_where_19 : decode kVS_where 19 = .ok (.getfield 164, 3) := by decide +kernel
theorem dVS_where_22 : decode kVS_where 22 = .ok (.getfield 172, 3) := by decide +kernel
theorem dVS_where_25 : decode kVS_where 25 = .ok (.aload_n 0, 1) := by decide +kernel
theorem dVS_where_26 : decode kVS_where 26 = .ok (.getfield 47, 3) := by decide +kernel
theorem dVS_where_29 : decode kVS_where 29 = .ok (.getfield 177, 3) := by decide +kernel
theorem dVS_where_32 : decode kVS_where 32 = .ok (.iadd, 1) := by decide +kernel
theorem dVS_where_33 : decode kVS_where 33 = .ok (.if_icmp .lt 5, 3) := by decide +kernel
theorem dVS_where_36 : decode kVS_where 36 = .ok (.iconst (-1), 1) := by decide +kernel
theorem dVS_where_37 : decode kVS_where 37 = .ok (.ireturn, 1) := by decide +kernel
theorem dVS_where_38 : decode kVS_where 38 = .ok (.aload_n 0, 1) := by decide +kernel
theorem dVS_where_39 : decode kVS_where 39 = .ok (.getfield 47, 3) := by decide +kernel
theorem dVS_where_42 : decode kVS_where 42 = .ok (.iload_n 1, 1) := by decide +kernel
theorem dVS_where_43 : decode kVS_where 43 = .ok (.invokevirtual 185, 3) := by decide +kernel
theorem dVS_where_46 : decode kVS_where 46 = .ok (.ireturn, 1) := by decide +kernel
theorem dVS_got_0 : decode kVS_got 0 = .ok (.aload_n 0, 1) := by decide +kernel
theorem dVS_got_1 : decode kVS_got 1 = .ok (.getfield 47, 3) := by decide +kernel
theorem dVS_got_4 : decode kVS_got 4 = .ok (.getfield 160, 3) := by decide +kernel
theorem dVS_got_7 : decode kVS_got 7 = .ok (.ifCond .eq 21, 3) := by decide +kernel
theorem dVS_got_10 : decode kVS_got 10 = .ok (.iload_n 1, 1) := by decide +kernel
theorem dVS_got_11 : decode kVS_got 11 = .ok (.ifCond .lt 17, 3) := by decide +kernel
theorem dVS_got_14 : decode kVS_got 14 = .ok (.iload_n 1, 1) := by decide +kernel
theorem dVS_got_15 : decode kVS_got 15 = .ok (.aload_n 0, 1) := by decide +kernel
theorem dVS_got_16 : decode kVS_got 16 = .ok (.getfield 47, 3) := by decide +kernel
theorem dVS_got_19 : decode kVS_got 19 = .ok (.getfield 164, 3) := by decide +kernel
theorem dVS_got_22 : decode kVS_got 22 = .ok (.invokevirtual 188, 3) := by decide +kernel
theorem dVS_got_25 : decode kVS_got 25 = .ok (.if_icmp .lt 5, 3) := by decide +kernel
theorem dVS_got_28 : decode kVS_got 28 = .ok (.iconst (-1), 1) := by decide +kernel
theorem dVS_got_29 : decode kVS_got 29 = .ok (.ireturn, 1) := by decide +kernel
theorem dVS_got_30 : decode kVS_got 30 = .ok (.aload_n 0, 1) := by decide +kernel
theorem dVS_got_31 : decode kVS_got 31 = .ok (.getfield 47, 3) := by decide +kernel
theorem dVS_got_34 : decode kVS_got 34 = .ok (.getfield 164, 3) := by decide +kernel
theorem dVS_got_37 : decode kVS_got 37 = .ok (.iload_n 1, 1) := by decide +kernel
theorem dVS_got_38 : decode kVS_got 38 = .ok (.invokevirtual 191, 3) := by decide +kernel
theorem dVS_got_41 : decode kVS_got 41 = .ok (.ifCond .eq 17, 3) := by decide +kernel
theorem dVS_got_44 : decode kVS_got 44 = .ok (.aload_n 0, 1) := by decide +kernel
theorem dVS_got_45 : decode kVS_got 45 = .ok (.getfield 47, 3) := by decide +kernel
theorem dVS_got_48 : decode kVS_got 48 = .ok (.getfield 164, 3) := by decide +kernel
theorem dVS_got_51 : decode kVS_got 51 = .ok (.iload_n 1, 1) := by decide +kernel
theorem dVS_got_52 : decode kVS_got 52 = .ok (.invokevirtual 195, 3) := by decide +kernel
theorem dVS_got_55 : decode kVS_got 55 = .ok (.goto 5, 3) := by decide +kernel
theorem dVS_got_58 : decode kVS_got 58 = .ok (.bipush (-2), 2) := by decide +kernel
theorem dVS_got_60 : decode kVS_got 60 = .ok (.ireturn, 1) := by decide +kernel
theorem dVS_opened_0 : decode kVS_opened 0 = .ok (.aload_n 0, 1) := by decide +kernel
theorem dVS_opened_1 : decode kVS_opened 1 = .ok (.getfield 54, 3) := by decide +kernel
theorem dVS_opened_4 : decode kVS_opened 4 = .ok (.iload_n 1, 1) := by decide +kernel
theorem dVS_opened_5 : decode kVS_opened 5 = .ok (.iload_n 2, 1) := by decide +kernel
theorem dVS_opened_6 : decode kVS_opened 6 = .ok (.invokevirtual 196, 3) := by decide +kernel
theorem dVS_opened_9 : decode kVS_opened 9 = .ok (.ireturn, 1) := by decide +kernel
theorem dVS_count_0 : decode kVS_count 0 = .ok (.iload_n 1, 1) := by decide +kernel
theorem dVS_count_1 : decode kVS_count 1 = .ok (.tableswitch 125 0 8 #[51, 59, 67, 75, 83, 92, 101, 109, 117], 51) := by decide +kernel
theorem dVS_count_52 : decode kVS_count 52 = .ok (.aload_n 0, 1) := by decide +kernel
theorem dVS_count_53 : decode kVS_count 53 = .ok (.getfield 19, 3) := by decide +kernel
theorem dVS_count_56 : decode kVS_count 56 = .ok (.getfield 66, 3) := by decide +kernel
theorem dVS_count_59 : decode kVS_count 59 = .ok (.ireturn, 1) := by decide +kernel
theorem dVS_count_60 : decode kVS_count 60 = .ok (.aload_n 0, 1) := by decide +kernel
theorem dVS_count_61 : decode kVS_count 61 = .ok (.getfield 19, 3) := by decide +kernel
theorem dVS_count_64 : decode kVS_count 64 = .ok (.getfield 199, 3) := by decide +kernel
theorem dVS_count_67 : decode kVS_count 67 = .ok (.ireturn, 1) := by decide +kernel
theorem dVS_count_68 : decode kVS_count 68 = .ok (.aload_n 0, 1) := by decide +kernel
theorem dVS_count_69 : decode kVS_count 69 = .ok (.getfield 10, 3) := by decide +kernel
theorem dVS_count_72 : decode kVS_count 72 = .ok (.getfield 58, 3) := by decide +kernel
theorem dVS_count_75 : decode kVS_count 75 = .ok (.ireturn, 1) := by decide +kernel
theorem dVS_count_76 : decode kVS_count 76 = .ok (.aload_n 0, 1) := by decide +kernel
theorem dVS_count_77 : decode kVS_count 77 = .ok (.getfield 40, 3) := by decide +kernel
theorem dVS_count_80 : decode kVS_count 80 = .ok (.invokevirtual 126, 3) := by decide +kernel
theorem dVS_count_83 : decode kVS_count 83 = .ok (.ireturn, 1) := by decide +kernel
theorem dVS_count_84 : decode kVS_count 84 = .ok (.aload_n 0, 1) := by decide +kernel
theorem dVS_count_85 : decode kVS_count 85 = .ok (.getfield 40, 3) := by decide +kernel
theorem dVS_count_88 : decode kVS_count 88 = .ok (.iconst 1, 1) := by decide +kernel
theorem dVS_count_89 : decode kVS_count 89 = .ok (.invokevirtual 200, 3) := by decide +kernel
theorem dVS_count_92 : decode kVS_count 92 = .ok (.ireturn, 1) := by decide +kernel
theorem dVS_count_93 : decode kVS_count 93 = .ok (.aload_n 0, 1) := by decide +kernel
theorem dVS_count_94 : decode kVS_count 94 = .ok (.getfield 40, 3) := by decide +kernel
theorem dVS_count_97 : decode kVS_count 97 = .ok (.iconst 2, 1) := by decide +kernel
theorem dVS_count_98 : decode kVS_count 98 = .ok (.invokevirtual 200, 3) := by decide +kernel
theorem dVS_count_101 : decode kVS_count 101 = .ok (.ireturn, 1) := by decide +kernel
theorem dVS_count_102 : decode kVS_count 102 = .ok (.aload_n 0, 1) := by decide +kernel
theorem dVS_count_103 : decode kVS_count 103 = .ok (.getfield 26, 3) := by decide +kernel
theorem dVS_count_106 : decode kVS_count 106 = .ok (.getfield 94, 3) := by decide +kernel
theorem dVS_count_109 : decode kVS_count 109 = .ok (.ireturn, 1) := by decide +kernel
theorem dVS_count_110 : decode kVS_count 110 = .ok (.aload_n 0, 1) := by decide +kernel
theorem dVS_count_111 : decode kVS_count 111 = .ok (.getfield 26, 3) := by decide +kernel
theorem dVS_count_114 : decode kVS_count 114 = .ok (.getfield 88, 3) := by decide +kernel
theorem dVS_count_117 : decode kVS_count 117 = .ok (.ireturn, 1) := by decide +kernel
theorem dVS_count_118 : decode kVS_count 118 = .ok (.aload_n 0, 1) := by decide +kernel
theorem dVS_count_119 : decode kVS_count 119 = .ok (.getfield 26, 3) := by decide +kernel
theorem dVS_count_122 : decode kVS_count 122 = .ok (.getfield 203, 3) := by decide +kernel
theorem dVS_count_125 : decode kVS_count 125 = .ok (.ireturn, 1) := by decide +kernel
theorem dVS_count_126 : decode kVS_count 126 = .ok (.iconst (-1), 1) := by decide +kernel
theorem dVS_count_127 : decode kVS_count 127 = .ok (.ireturn, 1) := by decide +kernel
