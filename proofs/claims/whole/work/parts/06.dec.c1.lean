theorem dX7_wipe_50 : decode cX7_wipe 50 = .ok (.iastore, 1) := by decide +kernel
theorem dX7_wipe_51 : decode cX7_wipe 51 = .ok (.return_, 1) := by decide +kernel
theorem dX7_write_0 : decode cX7_write 0 = .ok (.aload_n 0, 1) := by decide +kernel
theorem dX7_write_1 : decode cX7_write 1 = .ok (.getfield 100, 3) := by decide +kernel
theorem dX7_write_4 : decode cX7_write 4 = .ok (.ifCond .ne 6, 3) := by decide +kernel
theorem dX7_write_7 : decode cX7_write 7 = .ok (.bipush (-3), 2) := by decide +kernel
theorem dX7_write_9 : decode cX7_write 9 = .ok (.ireturn, 1) := by decide +kernel
theorem dX7_write_10 : decode cX7_write 10 = .ok (.iload_n 1, 1) := by decide +kernel
theorem dX7_write_11 : decode cX7_write 11 = .ok (.invokestatic 142, 3) := by decide +kernel
theorem dX7_write_14 : decode cX7_write 14 = .ok (.ifCond .ne 6, 3) := by decide +kernel
theorem dX7_write_17 : decode cX7_write 17 = .ok (.bipush (-2), 2) := by decide +kernel
theorem dX7_write_19 : decode cX7_write 19 = .ok (.ireturn, 1) := by decide +kernel
theorem dX7_write_20 : decode cX7_write 20 = .ok (.aload_n 0, 1) := by decide +kernel
theorem dX7_write_21 : decode cX7_write 21 = .ok (.invokevirtual 139, 3) := by decide +kernel
theorem dX7_write_24 : decode cX7_write 24 = .ok (.aload_n 0, 1) := by decide +kernel
theorem dX7_write_25 : decode cX7_write 25 = .ok (.iload_n 1, 1) := by decide +kernel
theorem dX7_write_26 : decode cX7_write 26 = .ok (.invokevirtual 149, 3) := by decide +kernel
theorem dX7_write_29 : decode cX7_write 29 = .ok (.ireturn, 1) := by decide +kernel
theorem dX7_erase_0 : decode cX7_erase 0 = .ok (.aload_n 0, 1) := by decide +kernel
theorem dX7_erase_1 : decode cX7_erase 1 = .ok (.getfield 100, 3) := by decide +kernel
theorem dX7_erase_4 : decode cX7_erase 4 = .ok (.ifCond .ne 6, 3) := by decide +kernel
theorem dX7_erase_7 : decode cX7_erase 7 = .ok (.bipush (-3), 2) := by decide +kernel
theorem dX7_erase_9 : decode cX7_erase 9 = .ok (.ireturn, 1) := by decide +kernel
theorem dX7_erase_10 : decode cX7_erase 10 = .ok (.iload_n 1, 1) := by decide +kernel
theorem dX7_erase_11 : decode cX7_erase 11 = .ok (.invokestatic 142, 3) := by decide +kernel
theorem dX7_erase_14 : decode cX7_erase 14 = .ok (.ifCond .ne 6, 3) := by decide +kernel
theorem dX7_erase_17 : decode cX7_erase 17 = .ok (.bipush (-2), 2) := by decide +kernel
theorem dX7_erase_19 : decode cX7_erase 19 = .ok (.ireturn, 1) := by decide +kernel
theorem dX7_erase_20 : decode cX7_erase 20 = .ok (.aload_n 0, 1) := by decide +kernel
theorem dX7_erase_21 : decode cX7_erase 21 = .ok (.iload_n 1, 1) := by decide +kernel
theorem dX7_erase_22 : decode cX7_erase 22 = .ok (.invokevirtual 152, 3) := by decide +kernel
theorem dX7_erase_25 : decode cX7_erase 25 = .ok (.aload_n 0, 1) := by decide +kernel
theorem dX7_erase_26 : decode cX7_erase 26 = .ok (.getfield 33, 3) := by decide +kernel
theorem dX7_erase_29 : decode cX7_erase 29 = .ok (.iload_n 1, 1) := by decide +kernel
theorem dX7_erase_30 : decode cX7_erase 30 = .ok (.iaload, 1) := by decide +kernel
theorem dX7_erase_31 : decode cX7_erase 31 = .ok (.ireturn, 1) := by decide +kernel
theorem dX7_flip_0 : decode cX7_flip 0 = .ok (.aload_n 0, 1) := by decide +kernel
theorem dX7_flip_1 : decode cX7_flip 1 = .ok (.getfield 100, 3) := by decide +kernel
theorem dX7_flip_4 : decode cX7_flip 4 = .ok (.ifCond .ne 6, 3) := by decide +kernel
theorem dX7_flip_7 : decode cX7_flip 7 = .ok (.bipush (-3), 2) := by decide +kernel
theorem dX7_flip_9 : decode cX7_flip 9 = .ok (.ireturn, 1) := by decide +kernel
theorem dX7_flip_10 : decode cX7_flip 10 = .ok (.aload_n 0, 1) := by decide +kernel
theorem dX7_flip_11 : decode cX7_flip 11 = .ok (.iload_n 1, 1) := by decide +kernel
theorem dX7_flip_12 : decode cX7_flip 12 = .ok (.iload_n 2, 1) := by decide +kernel
theorem dX7_flip_13 : decode cX7_flip 13 = .ok (.invokevirtual 155, 3) := by decide +kernel
theorem dX7_flip_16 : decode cX7_flip 16 = .ok (.ifCond .ne 6, 3) := by decide +kernel
theorem dX7_flip_19 : decode cX7_flip 19 = .ok (.bipush (-2), 2) := by decide +kernel
theorem dX7_flip_21 : decode cX7_flip 21 = .ok (.ireturn, 1) := by decide +kernel
theorem dX7_flip_22 : decode cX7_flip 22 = .ok (.sipush 2200, 3) := by decide +kernel
theorem dX7_flip_25 : decode cX7_flip 25 = .ok (.iload_n 1, 1) := by decide +kernel
theorem dX7_flip_26 : decode cX7_flip 26 = .ok (.imul, 1) := by decide +kernel
theorem dX7_flip_27 : decode cX7_flip 27 = .ok (.iload_n 2, 1) := by decide +kernel
theorem dX7_flip_28 : decode cX7_flip 28 = .ok (.iadd, 1) := by decide +kernel
theorem dX7_flip_29 : decode cX7_flip 29 = .ok (.istore_n 3, 1) := by decide +kernel
theorem dX7_flip_30 : decode cX7_flip 30 = .ok (.aload_n 0, 1) := by decide +kernel
theorem dX7_flip_31 : decode cX7_flip 31 = .ok (.iload_n 3, 1) := by decide +kernel
theorem dX7_flip_32 : decode cX7_flip 32 = .ok (.aload_n 0, 1) := by decide +kernel
theorem dX7_flip_33 : decode cX7_flip 33 = .ok (.getfield 23, 3) := by decide +kernel
theorem dX7_flip_36 : decode cX7_flip 36 = .ok (.iload_n 3, 1) := by decide +kernel
theorem dX7_flip_37 : decode cX7_flip 37 = .ok (.baload, 1) := by decide +kernel
theorem dX7_flip_38 : decode cX7_flip 38 = .ok (.ifCond .ne 7, 3) := by decide +kernel
theorem dX7_flip_41 : decode cX7_flip 41 = .ok (.iconst 1, 1) := by decide +kernel
theorem dX7_flip_42 : decode cX7_flip 42 = .ok (.goto 4, 3) := by decide +kernel
theorem dX7_flip_45 : decode cX7_flip 45 = .ok (.iconst 0, 1) := by decide +kernel
theorem dX7_flip_46 : decode cX7_flip 46 = .ok (.invokevirtual 145, 3) := by decide +kernel
theorem dX7_flip_49 : decode cX7_flip 49 = .ok (.aload_n 0, 1) := by decide +kernel
theorem dX7_flip_50 : decode cX7_flip 50 = .ok (.getfield 23, 3) := by decide +kernel
theorem dX7_flip_53 : decode cX7_flip 53 = .ok (.iload_n 3, 1) := by decide +kernel
theorem dX7_flip_54 : decode cX7_flip 54 = .ok (.baload, 1) := by decide +kernel
theorem dX7_flip_55 : decode cX7_flip 55 = .ok (.ifCond .eq 7, 3) := by decide +kernel
theorem dX7_flip_58 : decode cX7_flip 58 = .ok (.iconst 1, 1) := by decide +kernel
theorem dX7_flip_59 : decode cX7_flip 59 = .ok (.goto 4, 3) := by decide +kernel
theorem dX7_flip_62 : decode cX7_flip 62 = .ok (.iconst 0, 1) := by decide +kernel
theorem dX7_flip_63 : decode cX7_flip 63 = .ok (.ireturn, 1) := by decide +kernel
theorem dX7_countStuck_0 : decode cX7_countStuck 0 = .ok (.iconst 0, 1) := by decide +kernel
theorem dX7_countStuck_1 : decode cX7_countStuck 1 = .ok (.istore_n 2, 1) := by decide +kernel
theorem dX7_countStuck_2 : decode cX7_countStuck 2 = .ok (.iconst 0, 1) := by decide +kernel
theorem dX7_countStuck_3 : decode cX7_countStuck 3 = .ok (.istore_n 3, 1) := by decide +kernel
theorem dX7_countStuck_4 : decode cX7_countStuck 4 = .ok (.iload_n 3, 1) := by decide +kernel
theorem dX7_countStuck_5 : decode cX7_countStuck 5 = .ok (.aload_n 0, 1) := by decide +kernel
theorem dX7_countStuck_6 : decode cX7_countStuck 6 = .ok (.getfield 113, 3) := by decide +kernel
theorem dX7_countStuck_9 : decode cX7_countStuck 9 = .ok (.if_icmp .ge 33, 3) := by decide +kernel
theorem dX7_countStuck_12 : decode cX7_countStuck 12 = .ok (.iload_n 2, 1) := by decide +kernel
theorem dX7_countStuck_13 : decode cX7_countStuck 13 = .ok (.aload_n 0, 1) := by decide +kernel
theorem dX7_countStuck_14 : decode cX7_countStuck 14 = .ok (.getfield 27, 3) := by decide +kernel
theorem dX7_countStuck_17 : decode cX7_countStuck 17 = .ok (.sipush 2200, 3) := by decide +kernel
theorem dX7_countStuck_20 : decode cX7_countStuck 20 = .ok (.iload_n 1, 1) := by decide +kernel
theorem dX7_countStuck_21 : decode cX7_countStuck 21 = .ok (.imul, 1) := by decide +kernel
theorem dX7_countStuck_22 : decode cX7_countStuck 22 = .ok (.iload_n 3, 1) := by decide +kernel
theorem dX7_countStuck_23 : decode cX7_countStuck 23 = .ok (.iadd, 1) := by decide +kernel
theorem dX7_countStuck_24 : decode cX7_countStuck 24 = .ok (.iaload, 1) := by decide +kernel
theorem dX7_countStuck_25 : decode cX7_countStuck 25 = .ok (.iconst (-1), 1) := by decide +kernel
theorem dX7_countStuck_26 : decode cX7_countStuck 26 = .ok (.if_icmp .ne 7, 3) := by decide +kernel
theorem dX7_countStuck_29 : decode cX7_countStuck 29 = .ok (.iconst 0, 1) := by decide +kernel
theorem dX7_countStuck_30 : decode cX7_countStuck 30 = .ok (.goto 4, 3) := by decide +kernel
theorem dX7_countStuck_33 : decode cX7_countStuck 33 = .ok (.iconst 1, 1) := by decide +kernel
theorem dX7_countStuck_34 : decode cX7_countStuck 34 = .ok (.iadd, 1) := by decide +kernel
theorem dX7_countStuck_35 : decode cX7_countStuck 35 = .ok (.istore_n 2, 1) := by decide +kernel
theorem dX7_countStuck_36 : decode cX7_countStuck 36 = .ok (.iinc 3 1, 3) := by decide +kernel
theorem dX7_countStuck_39 : decode cX7_countStuck 39 = .ok (.goto (-35), 3) := by decide +kernel
theorem dX7_countStuck_42 : decode cX7_countStuck 42 = .ok (.iload_n 2, 1) := by decide +kernel
theorem dX7_countStuck_43 : decode cX7_countStuck 43 = .ok (.ireturn, 1) := by decide +kernel
theorem dX7_countMarks_0 : decode cX7_countMarks 0 = .ok (.iconst 0, 1) := by decide +kernel
theorem dX7_countMarks_1 : decode cX7_countMarks 1 = .ok (.istore_n 2, 1) := by decide +kernel
theorem dX7_countMarks_2 : decode cX7_countMarks 2 = .ok (.iconst 0, 1) := by decide +kernel
theorem dX7_countMarks_3 : decode cX7_countMarks 3 = .ok (.istore_n 3, 1) := by decide +kernel
theorem dX7_countMarks_4 : decode cX7_countMarks 4 = .ok (.iload_n 3, 1) := by decide +kernel
theorem dX7_countMarks_5 : decode cX7_countMarks 5 = .ok (.aload_n 0, 1) := by decide +kernel
theorem dX7_countMarks_6 : decode cX7_countMarks 6 = .ok (.getfield 113, 3) := by decide +kernel
theorem dX7_countMarks_9 : decode cX7_countMarks 9 = .ok (.if_icmp .ge 32, 3) := by decide +kernel
theorem dX7_countMarks_12 : decode cX7_countMarks 12 = .ok (.iload_n 2, 1) := by decide +kernel
theorem dX7_countMarks_13 : decode cX7_countMarks 13 = .ok (.aload_n 0, 1) := by decide +kernel
theorem dX7_countMarks_14 : decode cX7_countMarks 14 = .ok (.getfield 30, 3) := by decide +kernel
theorem dX7_countMarks_17 : decode cX7_countMarks 17 = .ok (.sipush 2200, 3) := by decide +kernel
theorem dX7_countMarks_20 : decode cX7_countMarks 20 = .ok (.iload_n 1, 1) := by decide +kernel
theorem dX7_countMarks_21 : decode cX7_countMarks 21 = .ok (.imul, 1) := by decide +kernel
theorem dX7_countMarks_22 : decode cX7_countMarks 22 = .ok (.iload_n 3, 1) := by decide +kernel
theorem dX7_countMarks_23 : decode cX7_countMarks 23 = .ok (.iadd, 1) := by decide +kernel
theorem dX7_countMarks_24 : decode cX7_countMarks 24 = .ok (.baload, 1) := by decide +kernel
theorem dX7_countMarks_25 : decode cX7_countMarks 25 = .ok (.ifCond .eq 7, 3) := by decide +kernel
theorem dX7_countMarks_28 : decode cX7_countMarks 28 = .ok (.iconst 1, 1) := by decide +kernel
theorem dX7_countMarks_29 : decode cX7_countMarks 29 = .ok (.goto 4, 3) := by decide +kernel
theorem dX7_countMarks_32 : decode cX7_countMarks 32 = .ok (.iconst 0, 1) := by decide +kernel
theorem dX7_countMarks_33 : decode cX7_countMarks 33 = .ok (.iadd, 1) := by decide +kernel
theorem dX7_countMarks_34 : decode cX7_countMarks 34 = .ok (.istore_n 2, 1) := by decide +kernel
theorem dX7_countMarks_35 : decode cX7_countMarks 35 = .ok (.iinc 3 1, 3) := by decide +kernel
theorem dX7_countMarks_38 : decode cX7_countMarks 38 = .ok (.goto (-34), 3) := by decide +kernel
theorem dX7_countMarks_41 : decode cX7_countMarks 41 = .ok (.iload_n 2, 1) := by decide +kernel
theorem dX7_countMarks_42 : decode cX7_countMarks 42 = .ok (.ireturn, 1) := by decide +kernel
theorem dX7_stick_0 : decode cX7_stick 0 = .ok (.aload_n 0, 1) := by decide +kernel
theorem dX7_stick_1 : decode cX7_stick 1 = .ok (.getfield 100, 3) := by decide +kernel
theorem dX7_stick_4 : decode cX7_stick 4 = .ok (.ifCond .ne 6, 3) := by decide +kernel
theorem dX7_stick_7 : decode cX7_stick 7 = .ok (.bipush (-3), 2) := by decide +kernel
theorem dX7_stick_9 : decode cX7_stick 9 = .ok (.ireturn, 1) := by decide +kernel
theorem dX7_stick_10 : decode cX7_stick 10 = .ok (.aload_n 0, 1) := by decide +kernel
theorem dX7_stick_11 : decode cX7_stick 11 = .ok (.iload_n 1, 1) := by decide +kernel
theorem dX7_stick_12 : decode cX7_stick 12 = .ok (.iload_n 2, 1) := by decide +kernel
theorem dX7_stick_13 : decode cX7_stick 13 = .ok (.invokevirtual 155, 3) := by decide +kernel
theorem dX7_stick_16 : decode cX7_stick 16 = .ok (.ifCond .eq 12, 3) := by decide +kernel
theorem dX7_stick_19 : decode cX7_stick 19 = .ok (.iload_n 3, 1) := by decide +kernel
theorem dX7_stick_20 : decode cX7_stick 20 = .ok (.iconst (-1), 1) := by decide +kernel
theorem dX7_stick_21 : decode cX7_stick 21 = .ok (.iconst 1, 1) := by decide +kernel
theorem dX7_stick_22 : decode cX7_stick 22 = .ok (.invokestatic 68, 3) := by decide +kernel
theorem dX7_stick_25 : decode cX7_stick 25 = .ok (.ifCond .ne 6, 3) := by decide +kernel
theorem dX7_stick_28 : decode cX7_stick 28 = .ok (.bipush (-2), 2) := by decide +kernel
theorem dX7_stick_30 : decode cX7_stick 30 = .ok (.ireturn, 1) := by decide +kernel
theorem dX7_stick_31 : decode cX7_stick 31 = .ok (.sipush 2200, 3) := by decide +kernel
theorem dX7_stick_34 : decode cX7_stick 34 = .ok (.iload_n 1, 1) := by decide +kernel
theorem dX7_stick_35 : decode cX7_stick 35 = .ok (.imul, 1) := by decide +kernel
theorem dX7_stick_36 : decode cX7_stick 36 = .ok (.iload_n 2, 1) := by decide +kernel
theorem dX7_stick_37 : decode cX7_stick 37 = .ok (.iadd, 1) := by decide +kernel
theorem dX7_stick_38 : decode cX7_stick 38 = .ok (.istore 4, 2) := by decide +kernel
theorem dX7_stick_40 : decode cX7_stick 40 = .ok (.aload_n 0, 1) := by decide +kernel
theorem dX7_stick_41 : decode cX7_stick 41 = .ok (.getfield 27, 3) := by decide +kernel
theorem dX7_stick_44 : decode cX7_stick 44 = .ok (.iload 4, 2) := by decide +kernel
theorem dX7_stick_46 : decode cX7_stick 46 = .ok (.iload_n 3, 1) := by decide +kernel
theorem dX7_stick_47 : decode cX7_stick 47 = .ok (.iastore, 1) := by decide +kernel
theorem dX7_stick_48 : decode cX7_stick 48 = .ok (.aload_n 0, 1) := by decide +kernel
theorem dX7_stick_49 : decode cX7_stick 49 = .ok (.getfield 23, 3) := by decide +kernel
theorem dX7_stick_52 : decode cX7_stick 52 = .ok (.iload 4, 2) := by decide +kernel
theorem dX7_stick_54 : decode cX7_stick 54 = .ok (.iload_n 3, 1) := by decide +kernel
theorem dX7_stick_55 : decode cX7_stick 55 = .ok (.iconst (-1), 1) := by decide +kernel
theorem dX7_stick_56 : decode cX7_stick 56 = .ok (.if_icmp .ne 13, 3) := by decide +kernel
theorem dX7_stick_59 : decode cX7_stick 59 = .ok (.aload_n 0, 1) := by decide +kernel
theorem dX7_stick_60 : decode cX7_stick 60 = .ok (.getfield 23, 3) := by decide +kernel
theorem dX7_stick_63 : decode cX7_stick 63 = .ok (.iload 4, 2) := by decide +kernel
theorem dX7_stick_65 : decode cX7_stick 65 = .ok (.baload, 1) := by decide +kernel
theorem dX7_stick_66 : decode cX7_stick 66 = .ok (.goto 13, 3) := by decide +kernel
theorem dX7_stick_69 : decode cX7_stick 69 = .ok (.iload_n 3, 1) := by decide +kernel
theorem dX7_stick_70 : decode cX7_stick 70 = .ok (.iconst 1, 1) := by decide +kernel
theorem dX7_stick_71 : decode cX7_stick 71 = .ok (.if_icmp .ne 7, 3) := by decide +kernel
theorem dX7_stick_74 : decode cX7_stick 74 = .ok (.iconst 1, 1) := by decide +kernel
theorem dX7_stick_75 : decode cX7_stick 75 = .ok (.goto 4, 3) := by decide +kernel
theorem dX7_stick_78 : decode cX7_stick 78 = .ok (.iconst 0, 1) := by decide +kernel
theorem dX7_stick_79 : decode cX7_stick 79 = .ok (.bastore, 1) := by decide +kernel
theorem dX7_stick_80 : decode cX7_stick 80 = .ok (.aload_n 0, 1) := by decide +kernel
theorem dX7_stick_81 : decode cX7_stick 81 = .ok (.iload_n 1, 1) := by decide +kernel
theorem dX7_stick_82 : decode cX7_stick 82 = .ok (.invokevirtual 159, 3) := by decide +kernel
theorem dX7_stick_85 : decode cX7_stick 85 = .ok (.ireturn, 1) := by decide +kernel
theorem dX7_mark_0 : decode cX7_mark 0 = .ok (.aload_n 0, 1) := by decide +kernel
theorem dX7_mark_1 : decode cX7_mark 1 = .ok (.getfield 100, 3) := by decide +kernel
theorem dX7_mark_4 : decode cX7_mark 4 = .ok (.ifCond .ne 6, 3) := by decide +kernel
theorem dX7_mark_7 : decode cX7_mark 7 = .ok (.bipush (-3), 2) := by decide +kernel
theorem dX7_mark_9 : decode cX7_mark 9 = .ok (.ireturn, 1) := by decide +kernel
theorem dX7_mark_10 : decode cX7_mark 10 = .ok (.aload_n 0, 1) := by decide +kernel
theorem dX7_mark_11 : decode cX7_mark 11 = .ok (.iload_n 1, 1) := by decide +kernel
theorem dX7_mark_12 : decode cX7_mark 12 = .ok (.iload_n 2, 1) := by decide +kernel
theorem dX7_mark_13 : decode cX7_mark 13 = .ok (.invokevirtual 155, 3) := by decide +kernel
theorem dX7_mark_16 : decode cX7_mark 16 = .ok (.ifCond .ne 6, 3) := by decide +kernel
theorem dX7_mark_19 : decode cX7_mark 19 = .ok (.bipush (-2), 2) := by decide +kernel
theorem dX7_mark_21 : decode cX7_mark 21 = .ok (.ireturn, 1) := by decide +kernel
theorem dX7_mark_22 : decode cX7_mark 22 = .ok (.aload_n 0, 1) := by decide +kernel
theorem dX7_mark_23 : decode cX7_mark 23 = .ok (.getfield 30, 3) := by decide +kernel
theorem dX7_mark_26 : decode cX7_mark 26 = .ok (.sipush 2200, 3) := by decide +kernel
theorem dX7_mark_29 : decode cX7_mark 29 = .ok (.iload_n 1, 1) := by decide +kernel
theorem dX7_mark_30 : decode cX7_mark 30 = .ok (.imul, 1) := by decide +kernel
theorem dX7_mark_31 : decode cX7_mark 31 = .ok (.iload_n 2, 1) := by decide +kernel
theorem dX7_mark_32 : decode cX7_mark 32 = .ok (.iadd, 1) := by decide +kernel
theorem dX7_mark_33 : decode cX7_mark 33 = .ok (.iload_n 3, 1) := by decide +kernel
theorem dX7_mark_34 : decode cX7_mark 34 = .ok (.bastore, 1) := by decide +kernel
theorem dX7_mark_35 : decode cX7_mark 35 = .ok (.aload_n 0, 1) := by decide +kernel
theorem dX7_mark_36 : decode cX7_mark 36 = .ok (.iload_n 1, 1) := by decide +kernel
theorem dX7_mark_37 : decode cX7_mark 37 = .ok (.invokevirtual 162, 3) := by decide +kernel
theorem dX7_mark_40 : decode cX7_mark 40 = .ok (.ireturn, 1) := by decide +kernel
theorem dX7_bit_0 : decode cX7_bit 0 = .ok (.aload_n 0, 1) := by decide +kernel
theorem dX7_bit_1 : decode cX7_bit 1 = .ok (.getfield 100, 3) := by decide +kernel
theorem dX7_bit_4 : decode cX7_bit 4 = .ok (.ifCond .ne 6, 3) := by decide +kernel
theorem dX7_bit_7 : decode cX7_bit 7 = .ok (.bipush (-3), 2) := by decide +kernel
theorem dX7_bit_9 : decode cX7_bit 9 = .ok (.ireturn, 1) := by decide +kernel
theorem dX7_bit_10 : decode cX7_bit 10 = .ok (.aload_n 0, 1) := by decide +kernel
theorem dX7_bit_11 : decode cX7_bit 11 = .ok (.iload_n 1, 1) := by decide +kernel
theorem dX7_bit_12 : decode cX7_bit 12 = .ok (.iload_n 2, 1) := by decide +kernel
theorem dX7_bit_13 : decode cX7_bit 13 = .ok (.invokevirtual 155, 3) := by decide +kernel
theorem dX7_bit_16 : decode cX7_bit 16 = .ok (.ifCond .eq 26, 3) := by decide +kernel
theorem dX7_bit_19 : decode cX7_bit 19 = .ok (.aload_n 0, 1) := by decide +kernel
theorem dX7_bit_20 : decode cX7_bit 20 = .ok (.getfield 23, 3) := by decide +kernel
theorem dX7_bit_23 : decode cX7_bit 23 = .ok (.sipush 2200, 3) := by decide +kernel
theorem dX7_bit_26 : decode cX7_bit 26 = .ok (.iload_n 1, 1) := by decide +kernel
theorem dX7_bit_27 : decode cX7_bit 27 = .ok (.imul, 1) := by decide +kernel
theorem dX7_bit_28 : decode cX7_bit 28 = .ok (.iload_n 2, 1) := by decide +kernel
theorem dX7_bit_29 : decode cX7_bit 29 = .ok (.iadd, 1) := by decide +kernel
theorem dX7_bit_30 : decode cX7_bit 30 = .ok (.baload, 1) := by decide +kernel
theorem dX7_bit_31 : decode cX7_bit 31 = .ok (.ifCond .eq 7, 3) := by decide +kernel
theorem dX7_bit_34 : decode cX7_bit 34 = .ok (.iconst 1, 1) := by decide +kernel
theorem dX7_bit_35 : decode cX7_bit 35 = .ok (.goto 9, 3) := by decide +kernel
theorem dX7_bit_38 : decode cX7_bit 38 = .ok (.iconst 0, 1) := by decide +kernel
theorem dX7_bit_39 : decode cX7_bit 39 = .ok (.goto 5, 3) := by decide +kernel
theorem dX7_bit_42 : decode cX7_bit 42 = .ok (.bipush (-2), 2) := by decide +kernel
theorem dX7_bit_44 : decode cX7_bit 44 = .ok (.ireturn, 1) := by decide +kernel
theorem dX7_isRight_0 : decode cX7_isRight 0 = .ok (.iconst 1, 1) := by decide +kernel
theorem dX7_isRight_1 : decode cX7_isRight 1 = .ok (.istore_n 1, 1) := by decide +kernel
theorem dX7_isRight_2 : decode cX7_isRight 2 = .ok (.iconst 1, 1) := by decide +kernel
theorem dX7_isRight_3 : decode cX7_isRight 3 = .ok (.istore_n 2, 1) := by decide +kernel
theorem dX7_isRight_4 : decode cX7_isRight 4 = .ok (.iload_n 2, 1) := by decide +kernel
theorem dX7_isRight_5 : decode cX7_isRight 5 = .ok (.iconst 2, 1) := by decide +kernel
theorem dX7_isRight_6 : decode cX7_isRight 6 = .ok (.aload_n 0, 1) := by decide +kernel
theorem dX7_isRight_7 : decode cX7_isRight 7 = .ok (.getfield 104, 3) := by decide +kernel
theorem dX7_isRight_10 : decode cX7_isRight 10 = .ok (.imul, 1) := by decide +kernel
theorem dX7_isRight_11 : decode cX7_isRight 11 = .ok (.if_icmp .gt 88, 3) := by decide +kernel
theorem dX7_isRight_14 : decode cX7_isRight 14 = .ok (.iconst 0, 1) := by decide +kernel
theorem dX7_isRight_15 : decode cX7_isRight 15 = .ok (.istore_n 3, 1) := by decide +kernel
theorem dX7_isRight_16 : decode cX7_isRight 16 = .ok (.iconst 0, 1) := by decide +kernel
theorem dX7_isRight_17 : decode cX7_isRight 17 = .ok (.istore 4, 2) := by decide +kernel
theorem dX7_isRight_19 : decode cX7_isRight 19 = .ok (.iload 4, 2) := by decide +kernel
theorem dX7_isRight_21 : decode cX7_isRight 21 = .ok (.aload_n 0, 1) := by decide +kernel
theorem dX7_isRight_22 : decode cX7_isRight 22 = .ok (.getfield 113, 3) := by decide +kernel
theorem dX7_isRight_25 : decode cX7_isRight 25 = .ok (.if_icmp .ge 47, 3) := by decide +kernel
theorem dX7_isRight_28 : decode cX7_isRight 28 = .ok (.iload_n 3, 1) := by decide +kernel
theorem dX7_isRight_29 : decode cX7_isRight 29 = .ok (.aload_n 0, 1) := by decide +kernel
theorem dX7_isRight_30 : decode cX7_isRight 30 = .ok (.getfield 45, 3) := by decide +kernel
theorem dX7_isRight_33 : decode cX7_isRight 33 = .ok (.iload 4, 2) := by decide +kernel
theorem dX7_isRight_35 : decode cX7_isRight 35 = .ok (.baload, 1) := by decide +kernel
theorem dX7_isRight_36 : decode cX7_isRight 36 = .ok (.ifCond .eq 7, 3) := by decide +kernel
theorem dX7_isRight_39 : decode cX7_isRight 39 = .ok (.iconst 0, 1) := by decide +kernel
theorem dX7_isRight_40 : decode cX7_isRight 40 = .ok (.goto 24, 3) := by decide +kernel
theorem dX7_isRight_43 : decode cX7_isRight 43 = .ok (.aload_n 0, 1) := by decide +kernel
theorem dX7_isRight_44 : decode cX7_isRight 44 = .ok (.getfield 7, 3) := by decide +kernel
theorem dX7_isRight_47 : decode cX7_isRight 47 = .ok (.aload_n 0, 1) := by decide +kernel
theorem dX7_isRight_48 : decode cX7_isRight 48 = .ok (.getfield 113, 3) := by decide +kernel
theorem dX7_isRight_51 : decode cX7_isRight 51 = .ok (.iconst 1, 1) := by decide +kernel
theorem dX7_isRight_52 : decode cX7_isRight 52 = .ok (.isub, 1) := by decide +kernel
theorem dX7_isRight_53 : decode cX7_isRight 53 = .ok (.iload 4, 2) := by decide +kernel
theorem dX7_isRight_55 : decode cX7_isRight 55 = .ok (.isub, 1) := by decide +kernel
theorem dX7_isRight_56 : decode cX7_isRight 56 = .ok (.iload_n 2, 1) := by decide +kernel
theorem dX7_isRight_57 : decode cX7_isRight 57 = .ok (.imul, 1) := by decide +kernel
theorem dX7_isRight_58 : decode cX7_isRight 58 = .ok (.aload_n 0, 1) := by decide +kernel
theorem dX7_isRight_59 : decode cX7_isRight 59 = .ok (.getfield 64, 3) := by decide +kernel
theorem dX7_isRight_62 : decode cX7_isRight 62 = .ok (.irem, 1) := by decide +kernel
theorem dX7_isRight_63 : decode cX7_isRight 63 = .ok (.iaload, 1) := by decide +kernel
theorem dX7_isRight_64 : decode cX7_isRight 64 = .ok (.ixor, 1) := by decide +kernel
theorem dX7_isRight_65 : decode cX7_isRight 65 = .ok (.istore_n 3, 1) := by decide +kernel
theorem dX7_isRight_66 : decode cX7_isRight 66 = .ok (.iinc 4 1, 3) := by decide +kernel
theorem dX7_isRight_69 : decode cX7_isRight 69 = .ok (.goto (-50), 3) := by decide +kernel
theorem dX7_isRight_72 : decode cX7_isRight 72 = .ok (.aload_n 0, 1) := by decide +kernel
theorem dX7_isRight_73 : decode cX7_isRight 73 = .ok (.getfield 51, 3) := by decide +kernel
theorem dX7_isRight_76 : decode cX7_isRight 76 = .ok (.iload_n 2, 1) := by decide +kernel
theorem dX7_isRight_77 : decode cX7_isRight 77 = .ok (.iload_n 3, 1) := by decide +kernel
theorem dX7_isRight_78 : decode cX7_isRight 78 = .ok (.iastore, 1) := by decide +kernel
theorem dX7_isRight_79 : decode cX7_isRight 79 = .ok (.iload_n 1, 1) := by decide +kernel
theorem dX7_isRight_80 : decode cX7_isRight 80 = .ok (.ifCond .eq 11, 3) := by decide +kernel
theorem dX7_isRight_83 : decode cX7_isRight 83 = .ok (.iload_n 3, 1) := by decide +kernel
theorem dX7_isRight_84 : decode cX7_isRight 84 = .ok (.ifCond .ne 7, 3) := by decide +kernel
theorem dX7_isRight_87 : decode cX7_isRight 87 = .ok (.iconst 1, 1) := by decide +kernel
theorem dX7_isRight_88 : decode cX7_isRight 88 = .ok (.goto 4, 3) := by decide +kernel
theorem dX7_isRight_91 : decode cX7_isRight 91 = .ok (.iconst 0, 1) := by decide +kernel
theorem dX7_isRight_92 : decode cX7_isRight 92 = .ok (.istore_n 1, 1) := by decide +kernel
theorem dX7_isRight_93 : decode cX7_isRight 93 = .ok (.iinc 2 1, 3) := by decide +kernel
theorem dX7_isRight_96 : decode cX7_isRight 96 = .ok (.goto (-92), 3) := by decide +kernel
theorem dX7_isRight_99 : decode cX7_isRight 99 = .ok (.iload_n 1, 1) := by decide +kernel
theorem dX7_isRight_100 : decode cX7_isRight 100 = .ok (.ireturn, 1) := by decide +kernel
theorem dX7_solves_0 : decode cX7_solves 0 = .ok (.iconst 0, 1) := by decide +kernel
theorem dX7_solves_1 : decode cX7_solves 1 = .ok (.istore_n 2, 1) := by decide +kernel
theorem dX7_solves_2 : decode cX7_solves 2 = .ok (.iload_n 2, 1) := by decide +kernel
theorem dX7_solves_3 : decode cX7_solves 3 = .ok (.iload_n 1, 1) := by decide +kernel
theorem dX7_solves_4 : decode cX7_solves 4 = .ok (.if_icmp .ge 43, 3) := by decide +kernel
theorem dX7_solves_7 : decode cX7_solves 7 = .ok (.iconst 0, 1) := by decide +kernel
theorem dX7_solves_8 : decode cX7_solves 8 = .ok (.istore_n 3, 1) := by decide +kernel
theorem dX7_solves_9 : decode cX7_solves 9 = .ok (.iload_n 3, 1) := by decide +kernel
theorem dX7_solves_10 : decode cX7_solves 10 = .ok (.iload_n 1, 1) := by decide +kernel
theorem dX7_solves_11 : decode cX7_solves 11 = .ok (.if_icmp .gt 30, 3) := by decide +kernel
theorem dX7_solves_14 : decode cX7_solves 14 = .ok (.aload_n 0, 1) := by decide +kernel
theorem dX7_solves_15 : decode cX7_solves 15 = .ok (.getfield 54, 3) := by decide +kernel
theorem dX7_solves_18 : decode cX7_solves 18 = .ok (.bipush 9, 2) := by decide +kernel
theorem dX7_solves_20 : decode cX7_solves 20 = .ok (.iload_n 2, 1) := by decide +kernel
theorem dX7_solves_21 : decode cX7_solves 21 = .ok (.imul, 1) := by decide +kernel
theorem dX7_solves_22 : decode cX7_solves 22 = .ok (.iload_n 3, 1) := by decide +kernel
theorem dX7_solves_23 : decode cX7_solves 23 = .ok (.iadd, 1) := by decide +kernel
theorem dX7_solves_24 : decode cX7_solves 24 = .ok (.aload_n 0, 1) := by decide +kernel
theorem dX7_solves_25 : decode cX7_solves 25 = .ok (.getfield 51, 3) := by decide +kernel
theorem dX7_solves_28 : decode cX7_solves 28 = .ok (.iconst 1, 1) := by decide +kernel
theorem dX7_solves_29 : decode cX7_solves 29 = .ok (.iload_n 2, 1) := by decide +kernel
theorem dX7_solves_30 : decode cX7_solves 30 = .ok (.iadd, 1) := by decide +kernel
theorem dX7_solves_31 : decode cX7_solves 31 = .ok (.iload_n 3, 1) := by decide +kernel
theorem dX7_solves_32 : decode cX7_solves 32 = .ok (.iadd, 1) := by decide +kernel
theorem dX7_solves_33 : decode cX7_solves 33 = .ok (.iaload, 1) := by decide +kernel
theorem dX7_solves_34 : decode cX7_solves 34 = .ok (.iastore, 1) := by decide +kernel
theorem dX7_solves_35 : decode cX7_solves 35 = .ok (.iinc 3 1, 3) := by decide +kernel
theorem dX7_solves_38 : decode cX7_solves 38 = .ok (.goto (-29), 3) := by decide +kernel
theorem dX7_solves_41 : decode cX7_solves 41 = .ok (.iinc 2 1, 3) := by decide +kernel
theorem dX7_solves_44 : decode cX7_solves 44 = .ok (.goto (-42), 3) := by decide +kernel
theorem dX7_solves_47 : decode cX7_solves 47 = .ok (.iconst 0, 1) := by decide +kernel
theorem dX7_solves_48 : decode cX7_solves 48 = .ok (.istore_n 2, 1) := by decide +kernel
theorem dX7_solves_49 : decode cX7_solves 49 = .ok (.iload_n 2, 1) := by decide +kernel
theorem dX7_solves_50 : decode cX7_solves 50 = .ok (.iload_n 1, 1) := by decide +kernel
theorem dX7_solves_51 : decode cX7_solves 51 = .ok (.if_icmp .ge 226, 3) := by decide +kernel
theorem dX7_solves_54 : decode cX7_solves 54 = .ok (.iload_n 2, 1) := by decide +kernel
theorem dX7_solves_55 : decode cX7_solves 55 = .ok (.istore_n 3, 1) := by decide +kernel
theorem dX7_solves_56 : decode cX7_solves 56 = .ok (.iload_n 3, 1) := by decide +kernel
theorem dX7_solves_57 : decode cX7_solves 57 = .ok (.iload_n 1, 1) := by decide +kernel
theorem dX7_solves_58 : decode cX7_solves 58 = .ok (.if_icmp .ge 23, 3) := by decide +kernel
theorem dX7_solves_61 : decode cX7_solves 61 = .ok (.aload_n 0, 1) := by decide +kernel
theorem dX7_solves_62 : decode cX7_solves 62 = .ok (.getfield 54, 3) := by decide +kernel
theorem dX7_solves_65 : decode cX7_solves 65 = .ok (.bipush 9, 2) := by decide +kernel
theorem dX7_solves_67 : decode cX7_solves 67 = .ok (.iload_n 3, 1) := by decide +kernel
theorem dX7_solves_68 : decode cX7_solves 68 = .ok (.imul, 1) := by decide +kernel
theorem dX7_solves_69 : decode cX7_solves 69 = .ok (.iload_n 2, 1) := by decide +kernel
theorem dX7_solves_70 : decode cX7_solves 70 = .ok (.iadd, 1) := by decide +kernel
theorem dX7_solves_71 : decode cX7_solves 71 = .ok (.iaload, 1) := by decide +kernel
theorem dX7_solves_72 : decode cX7_solves 72 = .ok (.ifCond .ne 9, 3) := by decide +kernel
theorem dX7_solves_75 : decode cX7_solves 75 = .ok (.iinc 3 1, 3) := by decide +kernel
theorem dX7_solves_78 : decode cX7_solves 78 = .ok (.goto (-22), 3) := by decide +kernel
theorem dX7_solves_81 : decode cX7_solves 81 = .ok (.iload_n 3, 1) := by decide +kernel
theorem dX7_solves_82 : decode cX7_solves 82 = .ok (.iload_n 1, 1) := by decide +kernel
theorem dX7_solves_83 : decode cX7_solves 83 = .ok (.if_icmp .ne 5, 3) := by decide +kernel
theorem dX7_solves_86 : decode cX7_solves 86 = .ok (.iconst 0, 1) := by decide +kernel
theorem dX7_solves_87 : decode cX7_solves 87 = .ok (.ireturn, 1) := by decide +kernel
theorem dX7_solves_88 : decode cX7_solves 88 = .ok (.aload_n 0, 1) := by decide +kernel
theorem dX7_solves_89 : decode cX7_solves 89 = .ok (.aload_n 0, 1) := by decide +kernel
theorem dX7_solves_90 : decode cX7_solves 90 = .ok (.getfield 54, 3) := by decide +kernel
theorem dX7_solves_93 : decode cX7_solves 93 = .ok (.bipush 9, 2) := by decide +kernel
theorem dX7_solves_95 : decode cX7_solves 95 = .ok (.iload_n 3, 1) := by decide +kernel
theorem dX7_solves_96 : decode cX7_solves 96 = .ok (.imul, 1) := by decide +kernel
theorem dX7_solves_97 : decode cX7_solves 97 = .ok (.iload_n 2, 1) := by decide +kernel
theorem dX7_solves_98 : decode cX7_solves 98 = .ok (.iadd, 1) := by decide +kernel
theorem dX7_solves_99 : decode cX7_solves 99 = .ok (.iaload, 1) := by decide +kernel
theorem dX7_solves_100 : decode cX7_solves 100 = .ok (.invokevirtual 132, 3) := by decide +kernel
theorem dX7_solves_103 : decode cX7_solves 103 = .ok (.istore 4, 2) := by decide +kernel
theorem dX7_solves_105 : decode cX7_solves 105 = .ok (.iconst 0, 1) := by decide +kernel
theorem dX7_solves_106 : decode cX7_solves 106 = .ok (.istore 5, 2) := by decide +kernel
theorem dX7_solves_108 : decode cX7_solves 108 = .ok (.iload 5, 2) := by decide +kernel
theorem dX7_solves_110 : decode cX7_solves 110 = .ok (.iload_n 1, 1) := by decide +kernel
theorem dX7_solves_111 : decode cX7_solves 111 = .ok (.if_icmp .gt 67, 3) := by decide +kernel
theorem dX7_solves_114 : decode cX7_solves 114 = .ok (.aload_n 0, 1) := by decide +kernel
theorem dX7_solves_115 : decode cX7_solves 115 = .ok (.getfield 54, 3) := by decide +kernel
theorem dX7_solves_118 : decode cX7_solves 118 = .ok (.bipush 9, 2) := by decide +kernel
theorem dX7_solves_120 : decode cX7_solves 120 = .ok (.iload_n 3, 1) := by decide +kernel
theorem dX7_solves_121 : decode cX7_solves 121 = .ok (.imul, 1) := by decide +kernel
theorem dX7_solves_122 : decode cX7_solves 122 = .ok (.iload 5, 2) := by decide +kernel
theorem dX7_solves_124 : decode cX7_solves 124 = .ok (.iadd, 1) := by decide +kernel
theorem dX7_solves_125 : decode cX7_solves 125 = .ok (.iaload, 1) := by decide +kernel
theorem dX7_solves_126 : decode cX7_solves 126 = .ok (.istore 6, 2) := by decide +kernel
theorem dX7_solves_128 : decode cX7_solves 128 = .ok (.aload_n 0, 1) := by decide +kernel
theorem dX7_solves_129 : decode cX7_solves 129 = .ok (.getfield 54, 3) := by decide +kernel
theorem dX7_solves_132 : decode cX7_solves 132 = .ok (.bipush 9, 2) := by decide +kernel
theorem dX7_solves_134 : decode cX7_solves 134 = .ok (.iload_n 3, 1) := by decide +kernel
theorem dX7_solves_135 : decode cX7_solves 135 = .ok (.imul, 1) := by decide +kernel
theorem dX7_solves_136 : decode cX7_solves 136 = .ok (.iload 5, 2) := by decide +kernel
theorem dX7_solves_138 : decode cX7_solves 138 = .ok (.iadd, 1) := by decide +kernel
theorem dX7_solves_139 : decode cX7_solves 139 = .ok (.aload_n 0, 1) := by decide +kernel
theorem dX7_solves_140 : decode cX7_solves 140 = .ok (.getfield 54, 3) := by decide +kernel
theorem dX7_solves_143 : decode cX7_solves 143 = .ok (.bipush 9, 2) := by decide +kernel
theorem dX7_solves_145 : decode cX7_solves 145 = .ok (.iload_n 2, 1) := by decide +kernel
theorem dX7_solves_146 : decode cX7_solves 146 = .ok (.imul, 1) := by decide +kernel
theorem dX7_solves_147 : decode cX7_solves 147 = .ok (.iload 5, 2) := by decide +kernel
theorem dX7_solves_149 : decode cX7_solves 149 = .ok (.iadd, 1) := by decide +kernel
theorem dX7_solves_150 : decode cX7_solves 150 = .ok (.iaload, 1) := by decide +kernel
theorem dX7_solves_151 : decode cX7_solves 151 = .ok (.iastore, 1) := by decide +kernel
theorem dX7_solves_152 : decode cX7_solves 152 = .ok (.aload_n 0, 1) := by decide +kernel
theorem dX7_solves_153 : decode cX7_solves 153 = .ok (.getfield 54, 3) := by decide +kernel
theorem dX7_solves_156 : decode cX7_solves 156 = .ok (.bipush 9, 2) := by decide +kernel
theorem dX7_solves_158 : decode cX7_solves 158 = .ok (.iload_n 2, 1) := by decide +kernel
theorem dX7_solves_159 : decode cX7_solves 159 = .ok (.imul, 1) := by decide +kernel
theorem dX7_solves_160 : decode cX7_solves 160 = .ok (.iload 5, 2) := by decide +kernel
theorem dX7_solves_162 : decode cX7_solves 162 = .ok (.iadd, 1) := by decide +kernel
theorem dX7_solves_163 : decode cX7_solves 163 = .ok (.aload_n 0, 1) := by decide +kernel
theorem dX7_solves_164 : decode cX7_solves 164 = .ok (.iload 6, 2) := by decide +kernel
theorem dX7_solves_166 : decode cX7_solves 166 = .ok (.iload 4, 2) := by decide +kernel
theorem dX7_solves_168 : decode cX7_solves 168 = .ok (.invokevirtual 72, 3) := by decide +kernel
theorem dX7_solves_171 : decode cX7_solves 171 = .ok (.iastore, 1) := by decide +kernel
theorem dX7_solves_172 : decode cX7_solves 172 = .ok (.iinc 5 1, 3) := by decide +kernel
theorem dX7_solves_175 : decode cX7_solves 175 = .ok (.goto (-67), 3) := by decide +kernel
theorem dX7_solves_178 : decode cX7_solves 178 = .ok (.iconst 0, 1) := by decide +kernel
theorem dX7_solves_179 : decode cX7_solves 179 = .ok (.istore 5, 2) := by decide +kernel
theorem dX7_solves_181 : decode cX7_solves 181 = .ok (.iload 5, 2) := by decide +kernel
theorem dX7_solves_183 : decode cX7_solves 183 = .ok (.iload_n 1, 1) := by decide +kernel
theorem dX7_solves_184 : decode cX7_solves 184 = .ok (.if_icmp .ge 87, 3) := by decide +kernel
theorem dX7_solves_187 : decode cX7_solves 187 = .ok (.iload 5, 2) := by decide +kernel
theorem dX7_solves_189 : decode cX7_solves 189 = .ok (.iload_n 2, 1) := by decide +kernel
theorem dX7_solves_190 : decode cX7_solves 190 = .ok (.if_icmp .ne 7, 3) := by decide +kernel
theorem dX7_solves_193 : decode cX7_solves 193 = .ok (.iconst 0, 1) := by decide +kernel
theorem dX7_solves_194 : decode cX7_solves 194 = .ok (.goto 15, 3) := by decide +kernel
theorem dX7_solves_197 : decode cX7_solves 197 = .ok (.aload_n 0, 1) := by decide +kernel
theorem dX7_solves_198 : decode cX7_solves 198 = .ok (.getfield 54, 3) := by decide +kernel
theorem dX7_solves_201 : decode cX7_solves 201 = .ok (.bipush 9, 2) := by decide +kernel
theorem dX7_solves_203 : decode cX7_solves 203 = .ok (.iload 5, 2) := by decide +kernel
theorem dX7_solves_205 : decode cX7_solves 205 = .ok (.imul, 1) := by decide +kernel
theorem dX7_solves_206 : decode cX7_solves 206 = .ok (.iload_n 2, 1) := by decide +kernel
theorem dX7_solves_207 : decode cX7_solves 207 = .ok (.iadd, 1) := by decide +kernel
theorem dX7_solves_208 : decode cX7_solves 208 = .ok (.iaload, 1) := by decide +kernel
theorem dX7_solves_209 : decode cX7_solves 209 = .ok (.istore 6, 2) := by decide +kernel
theorem dX7_solves_211 : decode cX7_solves 211 = .ok (.iconst 0, 1) := by decide +kernel
theorem dX7_solves_212 : decode cX7_solves 212 = .ok (.istore 7, 2) := by decide +kernel
theorem dX7_solves_214 : decode cX7_solves 214 = .ok (.iload 7, 2) := by decide +kernel
theorem dX7_solves_216 : decode cX7_solves 216 = .ok (.iload_n 1, 1) := by decide +kernel
theorem dX7_solves_217 : decode cX7_solves 217 = .ok (.if_icmp .gt 48, 3) := by decide +kernel
theorem dX7_solves_220 : decode cX7_solves 220 = .ok (.iload 6, 2) := by decide +kernel
theorem dX7_solves_222 : decode cX7_solves 222 = .ok (.ifCond .eq 43, 3) := by decide +kernel
theorem dX7_solves_225 : decode cX7_solves 225 = .ok (.aload_n 0, 1) := by decide +kernel
theorem dX7_solves_226 : decode cX7_solves 226 = .ok (.getfield 54, 3) := by decide +kernel
theorem dX7_solves_229 : decode cX7_solves 229 = .ok (.bipush 9, 2) := by decide +kernel
theorem dX7_solves_231 : decode cX7_solves 231 = .ok (.iload 5, 2) := by decide +kernel
theorem dX7_solves_233 : decode cX7_solves 233 = .ok (.imul, 1) := by decide +kernel
theorem dX7_solves_234 : decode cX7_solves 234 = .ok (.iload 7, 2) := by decide +kernel
theorem dX7_solves_236 : decode cX7_solves 236 = .ok (.iadd, 1) := by decide +kernel
theorem dX7_solves_237 : decode cX7_solves 237 = .ok (.dup2, 1) := by decide +kernel
theorem dX7_solves_238 : decode cX7_solves 238 = .ok (.iaload, 1) := by decide +kernel
theorem dX7_solves_239 : decode cX7_solves 239 = .ok (.aload_n 0, 1) := by decide +kernel
theorem dX7_solves_240 : decode cX7_solves 240 = .ok (.iload 6, 2) := by decide +kernel
theorem dX7_solves_242 : decode cX7_solves 242 = .ok (.aload_n 0, 1) := by decide +kernel
theorem dX7_solves_243 : decode cX7_solves 243 = .ok (.getfield 54, 3) := by decide +kernel
theorem dX7_solves_246 : decode cX7_solves 246 = .ok (.bipush 9, 2) := by decide +kernel
theorem dX7_solves_248 : decode cX7_solves 248 = .ok (.iload_n 2, 1) := by decide +kernel
theorem dX7_solves_249 : decode cX7_solves 249 = .ok (.imul, 1) := by decide +kernel
theorem dX7_solves_250 : decode cX7_solves 250 = .ok (.iload 7, 2) := by decide +kernel
theorem dX7_solves_252 : decode cX7_solves 252 = .ok (.iadd, 1) := by decide +kernel
theorem dX7_solves_253 : decode cX7_solves 253 = .ok (.iaload, 1) := by decide +kernel
theorem dX7_solves_254 : decode cX7_solves 254 = .ok (.invokevirtual 72, 3) := by decide +kernel
theorem dX7_solves_257 : decode cX7_solves 257 = .ok (.ixor, 1) := by decide +kernel
theorem dX7_solves_258 : decode cX7_solves 258 = .ok (.iastore, 1) := by decide +kernel
theorem dX7_solves_259 : decode cX7_solves 259 = .ok (.iinc 7 1, 3) := by decide +kernel
theorem dX7_solves_262 : decode cX7_solves 262 = .ok (.goto (-48), 3) := by decide +kernel
theorem dX7_solves_265 : decode cX7_solves 265 = .ok (.iinc 5 1, 3) := by decide +kernel
theorem dX7_solves_268 : decode cX7_solves 268 = .ok (.goto (-87), 3) := by decide +kernel
theorem dX7_solves_271 : decode cX7_solves 271 = .ok (.iinc 2 1, 3) := by decide +kernel
theorem dX7_solves_274 : decode cX7_solves 274 = .ok (.goto (-225), 3) := by decide +kernel
theorem dX7_solves_277 : decode cX7_solves 277 = .ok (.aload_n 0, 1) := by decide +kernel
theorem dX7_solves_278 : decode cX7_solves 278 = .ok (.getfield 57, 3) := by decide +kernel
theorem dX7_solves_281 : decode cX7_solves 281 = .ok (.iconst 0, 1) := by decide +kernel
theorem dX7_solves_282 : decode cX7_solves 282 = .ok (.iconst 1, 1) := by decide +kernel
theorem dX7_solves_283 : decode cX7_solves 283 = .ok (.iastore, 1) := by decide +kernel
theorem dX7_solves_284 : decode cX7_solves 284 = .ok (.iconst 0, 1) := by decide +kernel
theorem dX7_solves_285 : decode cX7_solves 285 = .ok (.istore_n 2, 1) := by decide +kernel
theorem dX7_solves_286 : decode cX7_solves 286 = .ok (.iload_n 2, 1) := by decide +kernel
theorem dX7_solves_287 : decode cX7_solves 287 = .ok (.iload_n 1, 1) := by decide +kernel
theorem dX7_solves_288 : decode cX7_solves 288 = .ok (.if_icmp .ge 28, 3) := by decide +kernel
theorem dX7_solves_291 : decode cX7_solves 291 = .ok (.aload_n 0, 1) := by decide +kernel
theorem dX7_solves_292 : decode cX7_solves 292 = .ok (.getfield 57, 3) := by decide +kernel
theorem dX7_solves_295 : decode cX7_solves 295 = .ok (.iload_n 1, 1) := by decide +kernel
theorem dX7_solves_296 : decode cX7_solves 296 = .ok (.iload_n 2, 1) := by decide +kernel
theorem dX7_solves_297 : decode cX7_solves 297 = .ok (.isub, 1) := by decide +kernel
theorem dX7_solves_298 : decode cX7_solves 298 = .ok (.aload_n 0, 1) := by decide +kernel
theorem dX7_solves_299 : decode cX7_solves 299 = .ok (.getfield 54, 3) := by decide +kernel
theorem dX7_solves_302 : decode cX7_solves 302 = .ok (.bipush 9, 2) := by decide +kernel
theorem dX7_solves_304 : decode cX7_solves 304 = .ok (.iload_n 2, 1) := by decide +kernel
theorem dX7_solves_305 : decode cX7_solves 305 = .ok (.imul, 1) := by decide +kernel
theorem dX7_solves_306 : decode cX7_solves 306 = .ok (.iload_n 1, 1) := by decide +kernel
theorem dX7_solves_307 : decode cX7_solves 307 = .ok (.iadd, 1) := by decide +kernel
theorem dX7_solves_308 : decode cX7_solves 308 = .ok (.iaload, 1) := by decide +kernel
theorem dX7_solves_309 : decode cX7_solves 309 = .ok (.iastore, 1) := by decide +kernel
theorem dX7_solves_310 : decode cX7_solves 310 = .ok (.iinc 2 1, 3) := by decide +kernel
theorem dX7_solves_313 : decode cX7_solves 313 = .ok (.goto (-27), 3) := by decide +kernel
theorem dX7_solves_316 : decode cX7_solves 316 = .ok (.iconst 1, 1) := by decide +kernel
theorem dX7_solves_317 : decode cX7_solves 317 = .ok (.ireturn, 1) := by decide +kernel
theorem dX7_isMended_0 : decode cX7_isMended 0 = .ok (.aload_n 0, 1) := by decide +kernel
theorem dX7_isMended_1 : decode cX7_isMended 1 = .ok (.invokevirtual 165, 3) := by decide +kernel
theorem dX7_isMended_4 : decode cX7_isMended 4 = .ok (.ifCond .eq 5, 3) := by decide +kernel
theorem dX7_isMended_7 : decode cX7_isMended 7 = .ok (.iconst 1, 1) := by decide +kernel
theorem dX7_isMended_8 : decode cX7_isMended 8 = .ok (.ireturn, 1) := by decide +kernel
theorem dX7_isMended_9 : decode cX7_isMended 9 = .ok (.aload_n 0, 1) := by decide +kernel
theorem dX7_isMended_10 : decode cX7_isMended 10 = .ok (.getfield 104, 3) := by decide +kernel
theorem dX7_isMended_13 : decode cX7_isMended 13 = .ok (.istore_n 1, 1) := by decide +kernel
theorem dX7_isMended_14 : decode cX7_isMended 14 = .ok (.iload_n 1, 1) := by decide +kernel
theorem dX7_isMended_15 : decode cX7_isMended 15 = .ok (.ifCond .le 17, 3) := by decide +kernel
theorem dX7_isMended_18 : decode cX7_isMended 18 = .ok (.aload_n 0, 1) := by decide +kernel
theorem dX7_isMended_19 : decode cX7_isMended 19 = .ok (.iload_n 1, 1) := by decide +kernel
theorem dX7_isMended_20 : decode cX7_isMended 20 = .ok (.invokevirtual 169, 3) := by decide +kernel
theorem dX7_isMended_23 : decode cX7_isMended 23 = .ok (.ifCond .ne 9, 3) := by decide +kernel
theorem dX7_isMended_26 : decode cX7_isMended 26 = .ok (.iinc 1 (-1), 3) := by decide +kernel
theorem dX7_isMended_29 : decode cX7_isMended 29 = .ok (.goto (-15), 3) := by decide +kernel
theorem dX7_isMended_32 : decode cX7_isMended 32 = .ok (.iconst 0, 1) := by decide +kernel
theorem dX7_isMended_33 : decode cX7_isMended 33 = .ok (.istore_n 2, 1) := by decide +kernel
theorem dX7_isMended_34 : decode cX7_isMended 34 = .ok (.iconst 0, 1) := by decide +kernel
theorem dX7_isMended_35 : decode cX7_isMended 35 = .ok (.istore_n 3, 1) := by decide +kernel
theorem dX7_isMended_36 : decode cX7_isMended 36 = .ok (.iload_n 3, 1) := by decide +kernel
theorem dX7_isMended_37 : decode cX7_isMended 37 = .ok (.aload_n 0, 1) := by decide +kernel
theorem dX7_isMended_38 : decode cX7_isMended 38 = .ok (.getfield 113, 3) := by decide +kernel
theorem dX7_isMended_41 : decode cX7_isMended 41 = .ok (.if_icmp .ge 105, 3) := by decide +kernel
theorem dX7_isMended_44 : decode cX7_isMended 44 = .ok (.iload_n 1, 1) := by decide +kernel
theorem dX7_isMended_45 : decode cX7_isMended 45 = .ok (.ifCond .le 101, 3) := by decide +kernel
theorem dX7_isMended_48 : decode cX7_isMended 48 = .ok (.iconst 0, 1) := by decide +kernel
theorem dX7_isMended_49 : decode cX7_isMended 49 = .ok (.istore 4, 2) := by decide +kernel
theorem dX7_isMended_51 : decode cX7_isMended 51 = .ok (.iconst 0, 1) := by decide +kernel
theorem dX7_isMended_52 : decode cX7_isMended 52 = .ok (.istore 5, 2) := by decide +kernel
theorem dX7_isMended_54 : decode cX7_isMended 54 = .ok (.iload 5, 2) := by decide +kernel
theorem dX7_isMended_56 : decode cX7_isMended 56 = .ok (.iload_n 1, 1) := by decide +kernel
theorem dX7_isMended_57 : decode cX7_isMended 57 = .ok (.if_icmp .gt 41, 3) := by decide +kernel
theorem dX7_isMended_60 : decode cX7_isMended 60 = .ok (.iload 4, 2) := by decide +kernel
theorem dX7_isMended_62 : decode cX7_isMended 62 = .ok (.aload_n 0, 1) := by decide +kernel
theorem dX7_isMended_63 : decode cX7_isMended 63 = .ok (.aload_n 0, 1) := by decide +kernel
theorem dX7_isMended_64 : decode cX7_isMended 64 = .ok (.getfield 57, 3) := by decide +kernel
theorem dX7_isMended_67 : decode cX7_isMended 67 = .ok (.iload 5, 2) := by decide +kernel
theorem dX7_isMended_69 : decode cX7_isMended 69 = .ok (.iaload, 1) := by decide +kernel
theorem dX7_isMended_70 : decode cX7_isMended 70 = .ok (.aload_n 0, 1) := by decide +kernel
theorem dX7_isMended_71 : decode cX7_isMended 71 = .ok (.getfield 7, 3) := by decide +kernel
theorem dX7_isMended_74 : decode cX7_isMended 74 = .ok (.aload_n 0, 1) := by decide +kernel
theorem dX7_isMended_75 : decode cX7_isMended 75 = .ok (.iload 5, 2) := by decide +kernel
theorem dX7_isMended_77 : decode cX7_isMended 77 = .ok (.i2l, 1) := by decide +kernel
theorem dX7_isMended_78 : decode cX7_isMended 78 = .ok (.lneg, 1) := by decide +kernel
theorem dX7_isMended_79 : decode cX7_isMended 79 = .ok (.iload_n 3, 1) := by decide +kernel
theorem dX7_isMended_80 : decode cX7_isMended 80 = .ok (.i2l, 1) := by decide +kernel
theorem dX7_isMended_81 : decode cX7_isMended 81 = .ok (.lmul, 1) := by decide +kernel
theorem dX7_isMended_82 : decode cX7_isMended 82 = .ok (.invokevirtual 76, 3) := by decide +kernel
theorem dX7_isMended_85 : decode cX7_isMended 85 = .ok (.iaload, 1) := by decide +kernel
theorem dX7_isMended_86 : decode cX7_isMended 86 = .ok (.invokevirtual 72, 3) := by decide +kernel
theorem dX7_isMended_89 : decode cX7_isMended 89 = .ok (.ixor, 1) := by decide +kernel
theorem dX7_isMended_90 : decode cX7_isMended 90 = .ok (.istore 4, 2) := by decide +kernel
theorem dX7_isMended_92 : decode cX7_isMended 92 = .ok (.iinc 5 1, 3) := by decide +kernel
theorem dX7_isMended_95 : decode cX7_isMended 95 = .ok (.goto (-41), 3) := by decide +kernel
theorem dX7_isMended_98 : decode cX7_isMended 98 = .ok (.iload 4, 2) := by decide +kernel
theorem dX7_isMended_100 : decode cX7_isMended 100 = .ok (.ifCond .ne 40, 3) := by decide +kernel
theorem dX7_isMended_103 : decode cX7_isMended 103 = .ok (.iinc 2 1, 3) := by decide +kernel
theorem dX7_isMended_106 : decode cX7_isMended 106 = .ok (.aload_n 0, 1) := by decide +kernel
theorem dX7_isMended_107 : decode cX7_isMended 107 = .ok (.getfield 45, 3) := by decide +kernel
theorem dX7_isMended_110 : decode cX7_isMended 110 = .ok (.aload_n 0, 1) := by decide +kernel
theorem dX7_isMended_111 : decode cX7_isMended 111 = .ok (.getfield 113, 3) := by decide +kernel
theorem dX7_isMended_114 : decode cX7_isMended 114 = .ok (.iconst 1, 1) := by decide +kernel
theorem dX7_isMended_115 : decode cX7_isMended 115 = .ok (.isub, 1) := by decide +kernel
theorem dX7_isMended_116 : decode cX7_isMended 116 = .ok (.iload_n 3, 1) := by decide +kernel
theorem dX7_isMended_117 : decode cX7_isMended 117 = .ok (.isub, 1) := by decide +kernel
theorem dX7_isMended_118 : decode cX7_isMended 118 = .ok (.aload_n 0, 1) := by decide +kernel
theorem dX7_isMended_119 : decode cX7_isMended 119 = .ok (.getfield 45, 3) := by decide +kernel
theorem dX7_isMended_122 : decode cX7_isMended 122 = .ok (.aload_n 0, 1) := by decide +kernel
theorem dX7_isMended_123 : decode cX7_isMended 123 = .ok (.getfield 113, 3) := by decide +kernel
theorem dX7_isMended_126 : decode cX7_isMended 126 = .ok (.iconst 1, 1) := by decide +kernel
theorem dX7_isMended_127 : decode cX7_isMended 127 = .ok (.isub, 1) := by decide +kernel
theorem dX7_isMended_128 : decode cX7_isMended 128 = .ok (.iload_n 3, 1) := by decide +kernel
theorem dX7_isMended_129 : decode cX7_isMended 129 = .ok (.isub, 1) := by decide +kernel
theorem dX7_isMended_130 : decode cX7_isMended 130 = .ok (.baload, 1) := by decide +kernel
theorem dX7_isMended_131 : decode cX7_isMended 131 = .ok (.ifCond .ne 7, 3) := by decide +kernel
theorem dX7_isMended_134 : decode cX7_isMended 134 = .ok (.iconst 1, 1) := by decide +kernel
theorem dX7_isMended_135 : decode cX7_isMended 135 = .ok (.goto 4, 3) := by decide +kernel
theorem dX7_isMended_138 : decode cX7_isMended 138 = .ok (.iconst 0, 1) := by decide +kernel
theorem dX7_isMended_139 : decode cX7_isMended 139 = .ok (.bastore, 1) := by decide +kernel
theorem dX7_isMended_140 : decode cX7_isMended 140 = .ok (.iinc 3 1, 3) := by decide +kernel
theorem dX7_isMended_143 : decode cX7_isMended 143 = .ok (.goto (-107), 3) := by decide +kernel
theorem dX7_isMended_146 : decode cX7_isMended 146 = .ok (.iload_n 1, 1) := by decide +kernel
theorem dX7_isMended_147 : decode cX7_isMended 147 = .ok (.ifCond .le 19, 3) := by decide +kernel
theorem dX7_isMended_150 : decode cX7_isMended 150 = .ok (.iload_n 2, 1) := by decide +kernel
theorem dX7_isMended_151 : decode cX7_isMended 151 = .ok (.iload_n 1, 1) := by decide +kernel
theorem dX7_isMended_152 : decode cX7_isMended 152 = .ok (.if_icmp .ne 14, 3) := by decide +kernel
theorem dX7_isMended_155 : decode cX7_isMended 155 = .ok (.aload_n 0, 1) := by decide +kernel
theorem dX7_isMended_156 : decode cX7_isMended 156 = .ok (.invokevirtual 165, 3) := by decide +kernel
theorem dX7_isMended_159 : decode cX7_isMended 159 = .ok (.ifCond .eq 7, 3) := by decide +kernel
theorem dX7_isMended_162 : decode cX7_isMended 162 = .ok (.iconst 1, 1) := by decide +kernel
theorem dX7_isMended_163 : decode cX7_isMended 163 = .ok (.goto 4, 3) := by decide +kernel
theorem dX7_isMended_166 : decode cX7_isMended 166 = .ok (.iconst 0, 1) := by decide +kernel
theorem dX7_isMended_167 : decode cX7_isMended 167 = .ok (.ireturn, 1) := by decide +kernel
theorem dX7_mend_0 : decode cX7_mend 0 = .ok (.aload_n 0, 1) := by decide +kernel
theorem dX7_mend_1 : decode cX7_mend 1 = .ok (.iload_n 1, 1) := by decide +kernel
theorem dX7_mend_2 : decode cX7_mend 2 = .ok (.invokevirtual 162, 3) := by decide +kernel
theorem dX7_mend_5 : decode cX7_mend 5 = .ok (.istore_n 2, 1) := by decide +kernel
theorem dX7_mend_6 : decode cX7_mend 6 = .ok (.sipush 2200, 3) := by decide +kernel
theorem dX7_mend_9 : decode cX7_mend 9 = .ok (.iload_n 1, 1) := by decide +kernel
theorem dX7_mend_10 : decode cX7_mend 10 = .ok (.imul, 1) := by decide +kernel
theorem dX7_mend_11 : decode cX7_mend 11 = .ok (.istore_n 3, 1) := by decide +kernel
theorem dX7_mend_12 : decode cX7_mend 12 = .ok (.iconst 0, 1) := by decide +kernel
theorem dX7_mend_13 : decode cX7_mend 13 = .ok (.istore 4, 2) := by decide +kernel
theorem dX7_mend_15 : decode cX7_mend 15 = .ok (.iload 4, 2) := by decide +kernel
theorem dX7_mend_17 : decode cX7_mend 17 = .ok (.iload_n 2, 1) := by decide +kernel
theorem dX7_mend_18 : decode cX7_mend 18 = .ok (.ifCond .ne 7, 3) := by decide +kernel
theorem dX7_mend_21 : decode cX7_mend 21 = .ok (.iconst 1, 1) := by decide +kernel
theorem dX7_mend_22 : decode cX7_mend 22 = .ok (.goto 4, 3) := by decide +kernel
theorem dX7_mend_25 : decode cX7_mend 25 = .ok (.iconst 2, 1) := by decide +kernel
theorem dX7_mend_26 : decode cX7_mend 26 = .ok (.if_icmp .ge 199, 3) := by decide +kernel
theorem dX7_mend_29 : decode cX7_mend 29 = .ok (.iload_n 2, 1) := by decide +kernel
theorem dX7_mend_30 : decode cX7_mend 30 = .ok (.iconst 2, 1) := by decide +kernel
theorem dX7_mend_31 : decode cX7_mend 31 = .ok (.aload_n 0, 1) := by decide +kernel
theorem dX7_mend_32 : decode cX7_mend 32 = .ok (.getfield 104, 3) := by decide +kernel
theorem dX7_mend_35 : decode cX7_mend 35 = .ok (.imul, 1) := by decide +kernel
theorem dX7_mend_36 : decode cX7_mend 36 = .ok (.if_icmp .gt 189, 3) := by decide +kernel
theorem dX7_mend_39 : decode cX7_mend 39 = .ok (.iconst 0, 1) := by decide +kernel
theorem dX7_mend_40 : decode cX7_mend 40 = .ok (.istore 5, 2) := by decide +kernel
theorem dX7_mend_42 : decode cX7_mend 42 = .ok (.iload 5, 2) := by decide +kernel
theorem dX7_mend_44 : decode cX7_mend 44 = .ok (.aload_n 0, 1) := by decide +kernel
theorem dX7_mend_45 : decode cX7_mend 45 = .ok (.getfield 113, 3) := by decide +kernel
theorem dX7_mend_48 : decode cX7_mend 48 = .ok (.if_icmp .ge 51, 3) := by decide +kernel
theorem dX7_mend_51 : decode cX7_mend 51 = .ok (.aload_n 0, 1) := by decide +kernel
theorem dX7_mend_52 : decode cX7_mend 52 = .ok (.getfield 45, 3) := by decide +kernel
theorem dX7_mend_55 : decode cX7_mend 55 = .ok (.iload 5, 2) := by decide +kernel
theorem dX7_mend_57 : decode cX7_mend 57 = .ok (.aload_n 0, 1) := by decide +kernel
theorem dX7_mend_58 : decode cX7_mend 58 = .ok (.getfield 30, 3) := by decide +kernel
theorem dX7_mend_61 : decode cX7_mend 61 = .ok (.iload_n 3, 1) := by decide +kernel
theorem dX7_mend_62 : decode cX7_mend 62 = .ok (.iload 5, 2) := by decide +kernel
theorem dX7_mend_64 : decode cX7_mend 64 = .ok (.iadd, 1) := by decide +kernel
theorem dX7_mend_65 : decode cX7_mend 65 = .ok (.baload, 1) := by decide +kernel
theorem dX7_mend_66 : decode cX7_mend 66 = .ok (.ifCond .eq 17, 3) := by decide +kernel
theorem dX7_mend_69 : decode cX7_mend 69 = .ok (.iload 4, 2) := by decide +kernel
theorem dX7_mend_71 : decode cX7_mend 71 = .ok (.iconst 1, 1) := by decide +kernel
theorem dX7_mend_72 : decode cX7_mend 72 = .ok (.if_icmp .ne 7, 3) := by decide +kernel
theorem dX7_mend_75 : decode cX7_mend 75 = .ok (.iconst 1, 1) := by decide +kernel
theorem dX7_mend_76 : decode cX7_mend 76 = .ok (.goto 16, 3) := by decide +kernel
theorem dX7_mend_79 : decode cX7_mend 79 = .ok (.iconst 0, 1) := by decide +kernel
theorem dX7_mend_80 : decode cX7_mend 80 = .ok (.goto 12, 3) := by decide +kernel
theorem dX7_mend_83 : decode cX7_mend 83 = .ok (.aload_n 0, 1) := by decide +kernel
theorem dX7_mend_84 : decode cX7_mend 84 = .ok (.getfield 23, 3) := by decide +kernel
theorem dX7_mend_87 : decode cX7_mend 87 = .ok (.iload_n 3, 1) := by decide +kernel
theorem dX7_mend_88 : decode cX7_mend 88 = .ok (.iload 5, 2) := by decide +kernel
theorem dX7_mend_90 : decode cX7_mend 90 = .ok (.iadd, 1) := by decide +kernel
theorem dX7_mend_91 : decode cX7_mend 91 = .ok (.baload, 1) := by decide +kernel
theorem dX7_mend_92 : decode cX7_mend 92 = .ok (.bastore, 1) := by decide +kernel
theorem dX7_mend_93 : decode cX7_mend 93 = .ok (.iinc 5 1, 3) := by decide +kernel
theorem dX7_mend_96 : decode cX7_mend 96 = .ok (.goto (-54), 3) := by decide +kernel
theorem dX7_mend_99 : decode cX7_mend 99 = .ok (.aload_n 0, 1) := by decide +kernel
theorem dX7_mend_100 : decode cX7_mend 100 = .ok (.invokevirtual 172, 3) := by decide +kernel
theorem dX7_mend_103 : decode cX7_mend 103 = .ok (.ifCond .ne 6, 3) := by decide +kernel
theorem dX7_mend_106 : decode cX7_mend 106 = .ok (.goto 113, 3) := by decide +kernel
theorem dX7_mend_109 : decode cX7_mend 109 = .ok (.iconst 0, 1) := by decide +kernel
theorem dX7_mend_110 : decode cX7_mend 110 = .ok (.istore 5, 2) := by decide +kernel
theorem dX7_mend_112 : decode cX7_mend 112 = .ok (.iconst 0, 1) := by decide +kernel
theorem dX7_mend_113 : decode cX7_mend 113 = .ok (.istore 6, 2) := by decide +kernel
theorem dX7_mend_115 : decode cX7_mend 115 = .ok (.iconst 0, 1) := by decide +kernel
theorem dX7_mend_116 : decode cX7_mend 116 = .ok (.istore 7, 2) := by decide +kernel
theorem dX7_mend_118 : decode cX7_mend 118 = .ok (.iload 7, 2) := by decide +kernel
theorem dX7_mend_120 : decode cX7_mend 120 = .ok (.aload_n 0, 1) := by decide +kernel
theorem dX7_mend_121 : decode cX7_mend 121 = .ok (.getfield 113, 3) := by decide +kernel
theorem dX7_mend_124 : decode cX7_mend 124 = .ok (.if_icmp .ge 77, 3) := by decide +kernel
theorem dX7_mend_127 : decode cX7_mend 127 = .ok (.aload_n 0, 1) := by decide +kernel
theorem dX7_mend_128 : decode cX7_mend 128 = .ok (.getfield 45, 3) := by decide +kernel
theorem dX7_mend_131 : decode cX7_mend 131 = .ok (.iload 7, 2) := by decide +kernel
theorem dX7_mend_133 : decode cX7_mend 133 = .ok (.baload, 1) := by decide +kernel
theorem dX7_mend_134 : decode cX7_mend 134 = .ok (.aload_n 0, 1) := by decide +kernel
theorem dX7_mend_135 : decode cX7_mend 135 = .ok (.getfield 23, 3) := by decide +kernel
theorem dX7_mend_138 : decode cX7_mend 138 = .ok (.iload_n 3, 1) := by decide +kernel
theorem dX7_mend_139 : decode cX7_mend 139 = .ok (.iload 7, 2) := by decide +kernel
theorem dX7_mend_141 : decode cX7_mend 141 = .ok (.iadd, 1) := by decide +kernel
theorem dX7_mend_142 : decode cX7_mend 142 = .ok (.baload, 1) := by decide +kernel
theorem dX7_mend_143 : decode cX7_mend 143 = .ok (.if_icmp .eq 7, 3) := by decide +kernel
theorem dX7_mend_146 : decode cX7_mend 146 = .ok (.iconst 1, 1) := by decide +kernel
theorem dX7_mend_147 : decode cX7_mend 147 = .ok (.goto 4, 3) := by decide +kernel
theorem dX7_mend_150 : decode cX7_mend 150 = .ok (.iconst 0, 1) := by decide +kernel
theorem dX7_mend_151 : decode cX7_mend 151 = .ok (.istore 8, 2) := by decide +kernel
theorem dX7_mend_153 : decode cX7_mend 153 = .ok (.iload 6, 2) := by decide +kernel
theorem dX7_mend_155 : decode cX7_mend 155 = .ok (.iload 8, 2) := by decide +kernel
theorem dX7_mend_157 : decode cX7_mend 157 = .ok (.ifCond .eq 7, 3) := by decide +kernel
theorem dX7_mend_160 : decode cX7_mend 160 = .ok (.iconst 1, 1) := by decide +kernel
theorem dX7_mend_161 : decode cX7_mend 161 = .ok (.goto 4, 3) := by decide +kernel
theorem dX7_mend_164 : decode cX7_mend 164 = .ok (.iconst 0, 1) := by decide +kernel
theorem dX7_mend_165 : decode cX7_mend 165 = .ok (.iadd, 1) := by decide +kernel
theorem dX7_mend_166 : decode cX7_mend 166 = .ok (.istore 6, 2) := by decide +kernel
theorem dX7_mend_168 : decode cX7_mend 168 = .ok (.iload 5, 2) := by decide +kernel
theorem dX7_mend_170 : decode cX7_mend 170 = .ok (.iload 8, 2) := by decide +kernel
theorem dX7_mend_172 : decode cX7_mend 172 = .ok (.ifCond .eq 19, 3) := by decide +kernel
theorem dX7_mend_175 : decode cX7_mend 175 = .ok (.aload_n 0, 1) := by decide +kernel
theorem dX7_mend_176 : decode cX7_mend 176 = .ok (.getfield 30, 3) := by decide +kernel
theorem dX7_mend_179 : decode cX7_mend 179 = .ok (.iload_n 3, 1) := by decide +kernel
theorem dX7_mend_180 : decode cX7_mend 180 = .ok (.iload 7, 2) := by decide +kernel
theorem dX7_mend_182 : decode cX7_mend 182 = .ok (.iadd, 1) := by decide +kernel
theorem dX7_mend_183 : decode cX7_mend 183 = .ok (.baload, 1) := by decide +kernel
theorem dX7_mend_184 : decode cX7_mend 184 = .ok (.ifCond .ne 7, 3) := by decide +kernel
theorem dX7_mend_187 : decode cX7_mend 187 = .ok (.iconst 1, 1) := by decide +kernel
theorem dX7_mend_188 : decode cX7_mend 188 = .ok (.goto 4, 3) := by decide +kernel
theorem dX7_mend_191 : decode cX7_mend 191 = .ok (.iconst 0, 1) := by decide +kernel
theorem dX7_mend_192 : decode cX7_mend 192 = .ok (.iadd, 1) := by decide +kernel
theorem dX7_mend_193 : decode cX7_mend 193 = .ok (.istore 5, 2) := by decide +kernel
theorem dX7_mend_195 : decode cX7_mend 195 = .ok (.iinc 7 1, 3) := by decide +kernel
theorem dX7_mend_198 : decode cX7_mend 198 = .ok (.goto (-80), 3) := by decide +kernel
theorem dX7_mend_201 : decode cX7_mend 201 = .ok (.iconst 2, 1) := by decide +kernel
theorem dX7_mend_202 : decode cX7_mend 202 = .ok (.iload 5, 2) := by decide +kernel
theorem dX7_mend_204 : decode cX7_mend 204 = .ok (.imul, 1) := by decide +kernel
theorem dX7_mend_205 : decode cX7_mend 205 = .ok (.iload_n 2, 1) := by decide +kernel
theorem dX7_mend_206 : decode cX7_mend 206 = .ok (.iadd, 1) := by decide +kernel
theorem dX7_mend_207 : decode cX7_mend 207 = .ok (.iconst 2, 1) := by decide +kernel
theorem dX7_mend_208 : decode cX7_mend 208 = .ok (.aload_n 0, 1) := by decide +kernel
theorem dX7_mend_209 : decode cX7_mend 209 = .ok (.getfield 104, 3) := by decide +kernel
theorem dX7_mend_212 : decode cX7_mend 212 = .ok (.imul, 1) := by decide +kernel
theorem dX7_mend_213 : decode cX7_mend 213 = .ok (.if_icmp .gt 6, 3) := by decide +kernel
theorem dX7_mend_216 : decode cX7_mend 216 = .ok (.iload 6, 2) := by decide +kernel
theorem dX7_mend_218 : decode cX7_mend 218 = .ok (.ireturn, 1) := by decide +kernel
theorem dX7_mend_219 : decode cX7_mend 219 = .ok (.iinc 4 1, 3) := by decide +kernel
theorem dX7_mend_222 : decode cX7_mend 222 = .ok (.goto (-207), 3) := by decide +kernel
theorem dX7_mend_225 : decode cX7_mend 225 = .ok (.bipush (-4), 2) := by decide +kernel
theorem dX7_mend_227 : decode cX7_mend 227 = .ok (.ireturn, 1) := by decide +kernel
theorem dX7_read_0 : decode cX7_read 0 = .ok (.aload_n 0, 1) := by decide +kernel
theorem dX7_read_1 : decode cX7_read 1 = .ok (.getfield 100, 3) := by decide +kernel
theorem dX7_read_4 : decode cX7_read 4 = .ok (.ifCond .ne 6, 3) := by decide +kernel
theorem dX7_read_7 : decode cX7_read 7 = .ok (.bipush (-3), 2) := by decide +kernel
theorem dX7_read_9 : decode cX7_read 9 = .ok (.ireturn, 1) := by decide +kernel
theorem dX7_read_10 : decode cX7_read 10 = .ok (.iload_n 1, 1) := by decide +kernel
theorem dX7_read_11 : decode cX7_read 11 = .ok (.invokestatic 142, 3) := by decide +kernel
theorem dX7_read_14 : decode cX7_read 14 = .ok (.ifCond .ne 6, 3) := by decide +kernel
theorem dX7_read_17 : decode cX7_read 17 = .ok (.bipush (-2), 2) := by decide +kernel
theorem dX7_read_19 : decode cX7_read 19 = .ok (.ireturn, 1) := by decide +kernel
theorem dX7_read_20 : decode cX7_read 20 = .ok (.aload_n 0, 1) := by decide +kernel
theorem dX7_read_21 : decode cX7_read 21 = .ok (.iload_n 1, 1) := by decide +kernel
theorem dX7_read_22 : decode cX7_read 22 = .ok (.invokevirtual 175, 3) := by decide +kernel
theorem dX7_read_25 : decode cX7_read 25 = .ok (.istore_n 2, 1) := by decide +kernel
theorem dX7_read_26 : decode cX7_read 26 = .ok (.iload_n 2, 1) := by decide +kernel
theorem dX7_read_27 : decode cX7_read 27 = .ok (.bipush (-4), 2) := by decide +kernel
theorem dX7_read_29 : decode cX7_read 29 = .ok (.if_icmp .ne 16, 3) := by decide +kernel
theorem dX7_read_32 : decode cX7_read 32 = .ok (.aload_n 0, 1) := by decide +kernel
theorem dX7_read_33 : decode cX7_read 33 = .ok (.dup, 1) := by decide +kernel
theorem dX7_read_34 : decode cX7_read 34 = .ok (.getfield 125, 3) := by decide +kernel
theorem dX7_read_37 : decode cX7_read 37 = .ok (.iconst 1, 1) := by decide +kernel
theorem dX7_read_38 : decode cX7_read 38 = .ok (.iadd, 1) := by decide +kernel
theorem dX7_read_39 : decode cX7_read 39 = .ok (.putfield 125, 3) := by decide +kernel
theorem dX7_read_42 : decode cX7_read 42 = .ok (.bipush (-4), 2) := by decide +kernel
theorem dX7_read_44 : decode cX7_read 44 = .ok (.ireturn, 1) := by decide +kernel
theorem dX7_read_45 : decode cX7_read 45 = .ok (.aload_n 0, 1) := by decide +kernel
theorem dX7_read_46 : decode cX7_read 46 = .ok (.dup, 1) := by decide +kernel
theorem dX7_read_47 : decode cX7_read 47 = .ok (.getfield 119, 3) := by decide +kernel
theorem dX7_read_50 : decode cX7_read 50 = .ok (.iload_n 2, 1) := by decide +kernel
theorem dX7_read_51 : decode cX7_read 51 = .ok (.ifCond .le 7, 3) := by decide +kernel
theorem dX7_read_54 : decode cX7_read 54 = .ok (.iconst 1, 1) := by decide +kernel
theorem dX7_read_55 : decode cX7_read 55 = .ok (.goto 4, 3) := by decide +kernel
theorem dX7_read_58 : decode cX7_read 58 = .ok (.iconst 0, 1) := by decide +kernel
theorem dX7_read_59 : decode cX7_read 59 = .ok (.iadd, 1) := by decide +kernel
theorem dX7_read_60 : decode cX7_read 60 = .ok (.putfield 119, 3) := by decide +kernel
theorem dX7_read_63 : decode cX7_read 63 = .ok (.aload_n 0, 1) := by decide +kernel
theorem dX7_read_64 : decode cX7_read 64 = .ok (.dup, 1) := by decide +kernel
theorem dX7_read_65 : decode cX7_read 65 = .ok (.getfield 122, 3) := by decide +kernel
theorem dX7_read_68 : decode cX7_read 68 = .ok (.iload_n 2, 1) := by decide +kernel
theorem dX7_read_69 : decode cX7_read 69 = .ok (.ifCond .ne 7, 3) := by decide +kernel
theorem dX7_read_72 : decode cX7_read 72 = .ok (.iconst 1, 1) := by decide +kernel
theorem dX7_read_73 : decode cX7_read 73 = .ok (.goto 4, 3) := by decide +kernel
theorem dX7_read_76 : decode cX7_read 76 = .ok (.iconst 0, 1) := by decide +kernel
theorem dX7_read_77 : decode cX7_read 77 = .ok (.iadd, 1) := by decide +kernel
theorem dX7_read_78 : decode cX7_read 78 = .ok (.putfield 122, 3) := by decide +kernel
theorem dX7_read_81 : decode cX7_read 81 = .ok (.aload_n 0, 1) := by decide +kernel
theorem dX7_read_82 : decode cX7_read 82 = .ok (.iconst 0, 1) := by decide +kernel
theorem dX7_read_83 : decode cX7_read 83 = .ok (.putfield 116, 3) := by decide +kernel
theorem dX7_read_86 : decode cX7_read 86 = .ok (.iconst 0, 1) := by decide +kernel
theorem dX7_read_87 : decode cX7_read 87 = .ok (.istore_n 3, 1) := by decide +kernel
theorem dX7_read_88 : decode cX7_read 88 = .ok (.iload_n 3, 1) := by decide +kernel
theorem dX7_read_89 : decode cX7_read 89 = .ok (.aload_n 0, 1) := by decide +kernel
theorem dX7_read_90 : decode cX7_read 90 = .ok (.getfield 107, 3) := by decide +kernel
theorem dX7_read_93 : decode cX7_read 93 = .ok (.if_icmp .ge 16, 3) := by decide +kernel
theorem dX7_read_96 : decode cX7_read 96 = .ok (.aload_n 0, 1) := by decide +kernel
theorem dX7_read_97 : decode cX7_read 97 = .ok (.getfield 19, 3) := by decide +kernel
theorem dX7_read_100 : decode cX7_read 100 = .ok (.iload_n 3, 1) := by decide +kernel
theorem dX7_read_101 : decode cX7_read 101 = .ok (.iconst 0, 1) := by decide +kernel
theorem dX7_read_102 : decode cX7_read 102 = .ok (.iastore, 1) := by decide +kernel
theorem dX7_read_103 : decode cX7_read 103 = .ok (.iinc 3 1, 3) := by decide +kernel
theorem dX7_read_106 : decode cX7_read 106 = .ok (.goto (-18), 3) := by decide +kernel
theorem dX7_read_109 : decode cX7_read 109 = .ok (.iconst 0, 1) := by decide +kernel
theorem dX7_read_110 : decode cX7_read 110 = .ok (.istore_n 3, 1) := by decide +kernel
theorem dX7_read_111 : decode cX7_read 111 = .ok (.iload_n 3, 1) := by decide +kernel
theorem dX7_read_112 : decode cX7_read 112 = .ok (.aload_n 0, 1) := by decide +kernel
theorem dX7_read_113 : decode cX7_read 113 = .ok (.getfield 113, 3) := by decide +kernel
theorem dX7_read_116 : decode cX7_read 116 = .ok (.if_icmp .ge 90, 3) := by decide +kernel
theorem dX7_read_119 : decode cX7_read 119 = .ok (.iload_n 3, 1) := by decide +kernel
theorem dX7_read_120 : decode cX7_read 120 = .ok (.bipush 8, 2) := by decide +kernel
theorem dX7_read_122 : decode cX7_read 122 = .ok (.aload_n 0, 1) := by decide +kernel
theorem dX7_read_123 : decode cX7_read 123 = .ok (.getfield 107, 3) := by decide +kernel
theorem dX7_read_126 : decode cX7_read 126 = .ok (.imul, 1) := by decide +kernel
theorem dX7_read_127 : decode cX7_read 127 = .ok (.if_icmp .ge 32, 3) := by decide +kernel
theorem dX7_read_130 : decode cX7_read 130 = .ok (.aload_n 0, 1) := by decide +kernel
theorem dX7_read_131 : decode cX7_read 131 = .ok (.getfield 45, 3) := by decide +kernel
theorem dX7_read_134 : decode cX7_read 134 = .ok (.iload_n 3, 1) := by decide +kernel
theorem dX7_read_135 : decode cX7_read 135 = .ok (.baload, 1) := by decide +kernel
theorem dX7_read_136 : decode cX7_read 136 = .ok (.ifCond .eq 23, 3) := by decide +kernel
theorem dX7_read_139 : decode cX7_read 139 = .ok (.aload_n 0, 1) := by decide +kernel
theorem dX7_read_140 : decode cX7_read 140 = .ok (.getfield 19, 3) := by decide +kernel
theorem dX7_read_143 : decode cX7_read 143 = .ok (.iload_n 3, 1) := by decide +kernel
theorem dX7_read_144 : decode cX7_read 144 = .ok (.bipush 8, 2) := by decide +kernel
theorem dX7_read_146 : decode cX7_read 146 = .ok (.idiv, 1) := by decide +kernel
theorem dX7_read_147 : decode cX7_read 147 = .ok (.dup2, 1) := by decide +kernel
theorem dX7_read_148 : decode cX7_read 148 = .ok (.iaload, 1) := by decide +kernel
theorem dX7_read_149 : decode cX7_read 149 = .ok (.sipush 128, 3) := by decide +kernel
theorem dX7_read_152 : decode cX7_read 152 = .ok (.iload_n 3, 1) := by decide +kernel
theorem dX7_read_153 : decode cX7_read 153 = .ok (.bipush 8, 2) := by decide +kernel
theorem dX7_read_155 : decode cX7_read 155 = .ok (.irem, 1) := by decide +kernel
theorem dX7_read_156 : decode cX7_read 156 = .ok (.ishr, 1) := by decide +kernel
theorem dX7_read_157 : decode cX7_read 157 = .ok (.ior, 1) := by decide +kernel
theorem dX7_read_158 : decode cX7_read 158 = .ok (.iastore, 1) := by decide +kernel
theorem dX7_read_159 : decode cX7_read 159 = .ok (.aload_n 0, 1) := by decide +kernel
theorem dX7_read_160 : decode cX7_read 160 = .ok (.getfield 45, 3) := by decide +kernel
theorem dX7_read_163 : decode cX7_read 163 = .ok (.iload_n 3, 1) := by decide +kernel
theorem dX7_read_164 : decode cX7_read 164 = .ok (.baload, 1) := by decide +kernel
theorem dX7_read_165 : decode cX7_read 165 = .ok (.aload_n 0, 1) := by decide +kernel
theorem dX7_read_166 : decode cX7_read 166 = .ok (.getfield 23, 3) := by decide +kernel
theorem dX7_read_169 : decode cX7_read 169 = .ok (.sipush 2200, 3) := by decide +kernel
theorem dX7_read_172 : decode cX7_read 172 = .ok (.iload_n 1, 1) := by decide +kernel
theorem dX7_read_173 : decode cX7_read 173 = .ok (.imul, 1) := by decide +kernel
theorem dX7_read_174 : decode cX7_read 174 = .ok (.iload_n 3, 1) := by decide +kernel
theorem dX7_read_175 : decode cX7_read 175 = .ok (.iadd, 1) := by decide +kernel
theorem dX7_read_176 : decode cX7_read 176 = .ok (.baload, 1) := by decide +kernel
theorem dX7_read_177 : decode cX7_read 177 = .ok (.if_icmp .eq 23, 3) := by decide +kernel
theorem dX7_read_180 : decode cX7_read 180 = .ok (.aload_n 0, 1) := by decide +kernel
theorem dX7_read_181 : decode cX7_read 181 = .ok (.getfield 36, 3) := by decide +kernel
theorem dX7_read_184 : decode cX7_read 184 = .ok (.aload_n 0, 1) := by decide +kernel
theorem dX7_read_185 : decode cX7_read 185 = .ok (.getfield 116, 3) := by decide +kernel
theorem dX7_read_188 : decode cX7_read 188 = .ok (.iload_n 3, 1) := by decide +kernel
theorem dX7_read_189 : decode cX7_read 189 = .ok (.iastore, 1) := by decide +kernel
theorem dX7_read_190 : decode cX7_read 190 = .ok (.aload_n 0, 1) := by decide +kernel
theorem dX7_read_191 : decode cX7_read 191 = .ok (.dup, 1) := by decide +kernel
theorem dX7_read_192 : decode cX7_read 192 = .ok (.getfield 116, 3) := by decide +kernel
theorem dX7_read_195 : decode cX7_read 195 = .ok (.iconst 1, 1) := by decide +kernel
theorem dX7_read_196 : decode cX7_read 196 = .ok (.iadd, 1) := by decide +kernel
theorem dX7_read_197 : decode cX7_read 197 = .ok (.putfield 116, 3) := by decide +kernel
theorem dX7_read_200 : decode cX7_read 200 = .ok (.iinc 3 1, 3) := by decide +kernel
theorem dX7_read_203 : decode cX7_read 203 = .ok (.goto (-92), 3) := by decide +kernel
theorem dX7_read_206 : decode cX7_read 206 = .ok (.iload_n 2, 1) := by decide +kernel
theorem dX7_read_207 : decode cX7_read 207 = .ok (.ireturn, 1) := by decide +kernel
theorem dX7_turned_0 : decode cX7_turned 0 = .ok (.iload_n 1, 1) := by decide +kernel
theorem dX7_turned_1 : decode cX7_turned 1 = .ok (.iconst 0, 1) := by decide +kernel
theorem dX7_turned_2 : decode cX7_turned 2 = .ok (.aload_n 0, 1) := by decide +kernel
theorem dX7_turned_3 : decode cX7_turned 3 = .ok (.getfield 116, 3) := by decide +kernel
theorem dX7_turned_6 : decode cX7_turned 6 = .ok (.iconst 1, 1) := by decide +kernel
theorem dX7_turned_7 : decode cX7_turned 7 = .ok (.isub, 1) := by decide +kernel
theorem dX7_turned_8 : decode cX7_turned 8 = .ok (.invokestatic 68, 3) := by decide +kernel
theorem dX7_turned_11 : decode cX7_turned 11 = .ok (.ifCond .eq 12, 3) := by decide +kernel
theorem dX7_turned_14 : decode cX7_turned 14 = .ok (.aload_n 0, 1) := by decide +kernel
theorem dX7_turned_15 : decode cX7_turned 15 = .ok (.getfield 36, 3) := by decide +kernel
theorem dX7_turned_18 : decode cX7_turned 18 = .ok (.iload_n 1, 1) := by decide +kernel
theorem dX7_turned_19 : decode cX7_turned 19 = .ok (.iaload, 1) := by decide +kernel
theorem dX7_turned_20 : decode cX7_turned 20 = .ok (.goto 4, 3) := by decide +kernel
theorem dX7_turned_23 : decode cX7_turned 23 = .ok (.iconst (-1), 1) := by decide +kernel
theorem dX7_turned_24 : decode cX7_turned 24 = .ok (.ireturn, 1) := by decide +kernel
theorem dX7_syndrome_0 : decode cX7_syndrome 0 = .ok (.aload_n 0, 1) := by decide +kernel
theorem dX7_syndrome_1 : decode cX7_syndrome 1 = .ok (.getfield 100, 3) := by decide +kernel
theorem dX7_syndrome_4 : decode cX7_syndrome 4 = .ok (.ifCond .ne 6, 3) := by decide +kernel
theorem dX7_syndrome_7 : decode cX7_syndrome 7 = .ok (.bipush (-3), 2) := by decide +kernel
theorem dX7_syndrome_9 : decode cX7_syndrome 9 = .ok (.ireturn, 1) := by decide +kernel
theorem dX7_syndrome_10 : decode cX7_syndrome 10 = .ok (.iload_n 1, 1) := by decide +kernel
theorem dX7_syndrome_11 : decode cX7_syndrome 11 = .ok (.invokestatic 142, 3) := by decide +kernel
theorem dX7_syndrome_14 : decode cX7_syndrome 14 = .ok (.ifCond .eq 17, 3) := by decide +kernel
theorem dX7_syndrome_17 : decode cX7_syndrome 17 = .ok (.iload_n 2, 1) := by decide +kernel
theorem dX7_syndrome_18 : decode cX7_syndrome 18 = .ok (.iconst 1, 1) := by decide +kernel
theorem dX7_syndrome_19 : decode cX7_syndrome 19 = .ok (.iconst 2, 1) := by decide +kernel
theorem dX7_syndrome_20 : decode cX7_syndrome 20 = .ok (.aload_n 0, 1) := by decide +kernel
theorem dX7_syndrome_21 : decode cX7_syndrome 21 = .ok (.getfield 104, 3) := by decide +kernel
theorem dX7_syndrome_24 : decode cX7_syndrome 24 = .ok (.imul, 1) := by decide +kernel
theorem dX7_syndrome_25 : decode cX7_syndrome 25 = .ok (.invokestatic 68, 3) := by decide +kernel
theorem dX7_syndrome_28 : decode cX7_syndrome 28 = .ok (.ifCond .ne 6, 3) := by decide +kernel
theorem dX7_syndrome_31 : decode cX7_syndrome 31 = .ok (.bipush (-2), 2) := by decide +kernel
theorem dX7_syndrome_33 : decode cX7_syndrome 33 = .ok (.ireturn, 1) := by decide +kernel
theorem dX7_syndrome_34 : decode cX7_syndrome 34 = .ok (.iconst 0, 1) := by decide +kernel
theorem dX7_syndrome_35 : decode cX7_syndrome 35 = .ok (.istore_n 3, 1) := by decide +kernel
theorem dX7_syndrome_36 : decode cX7_syndrome 36 = .ok (.iload_n 3, 1) := by decide +kernel
theorem dX7_syndrome_37 : decode cX7_syndrome 37 = .ok (.aload_n 0, 1) := by decide +kernel
theorem dX7_syndrome_38 : decode cX7_syndrome 38 = .ok (.getfield 113, 3) := by decide +kernel
theorem dX7_syndrome_41 : decode cX7_syndrome 41 = .ok (.if_icmp .ge 27, 3) := by decide +kernel
theorem dX7_syndrome_44 : decode cX7_syndrome 44 = .ok (.aload_n 0, 1) := by decide +kernel
theorem dX7_syndrome_45 : decode cX7_syndrome 45 = .ok (.getfield 45, 3) := by decide +kernel
theorem dX7_syndrome_48 : decode cX7_syndrome 48 = .ok (.iload_n 3, 1) := by decide +kernel
theorem dX7_syndrome_49 : decode cX7_syndrome 49 = .ok (.aload_n 0, 1) := by decide +kernel
theorem dX7_syndrome_50 : decode cX7_syndrome 50 = .ok (.getfield 23, 3) := by decide +kernel
theorem dX7_syndrome_53 : decode cX7_syndrome 53 = .ok (.sipush 2200, 3) := by decide +kernel
theorem dX7_syndrome_56 : decode cX7_syndrome 56 = .ok (.iload_n 1, 1) := by decide +kernel
theorem dX7_syndrome_57 : decode cX7_syndrome 57 = .ok (.imul, 1) := by decide +kernel
theorem dX7_syndrome_58 : decode cX7_syndrome 58 = .ok (.iload_n 3, 1) := by decide +kernel
theorem dX7_syndrome_59 : decode cX7_syndrome 59 = .ok (.iadd, 1) := by decide +kernel
theorem dX7_syndrome_60 : decode cX7_syndrome 60 = .ok (.baload, 1) := by decide +kernel
theorem dX7_syndrome_61 : decode cX7_syndrome 61 = .ok (.bastore, 1) := by decide +kernel
theorem dX7_syndrome_62 : decode cX7_syndrome 62 = .ok (.iinc 3 1, 3) := by decide +kernel
theorem dX7_syndrome_65 : decode cX7_syndrome 65 = .ok (.goto (-29), 3) := by decide +kernel
theorem dX7_syndrome_68 : decode cX7_syndrome 68 = .ok (.aload_n 0, 1) := by decide +kernel
theorem dX7_syndrome_69 : decode cX7_syndrome 69 = .ok (.invokevirtual 165, 3) := by decide +kernel
theorem dX7_syndrome_72 : decode cX7_syndrome 72 = .ok (.istore_n 3, 1) := by decide +kernel
theorem dX7_syndrome_73 : decode cX7_syndrome 73 = .ok (.aload_n 0, 1) := by decide +kernel
theorem dX7_syndrome_74 : decode cX7_syndrome 74 = .ok (.getfield 51, 3) := by decide +kernel
theorem dX7_syndrome_77 : decode cX7_syndrome 77 = .ok (.iload_n 2, 1) := by decide +kernel
theorem dX7_syndrome_78 : decode cX7_syndrome 78 = .ok (.iaload, 1) := by decide +kernel
theorem dX7_syndrome_79 : decode cX7_syndrome 79 = .ok (.ireturn, 1) := by decide +kernel
theorem dX7_copy_0 : decode cX7_copy 0 = .ok (.aload_n 0, 1) := by decide +kernel
theorem dX7_copy_1 : decode cX7_copy 1 = .ok (.getfield 100, 3) := by decide +kernel
theorem dX7_copy_4 : decode cX7_copy 4 = .ok (.ifCond .ne 6, 3) := by decide +kernel
theorem dX7_copy_7 : decode cX7_copy 7 = .ok (.bipush (-3), 2) := by decide +kernel
theorem dX7_copy_9 : decode cX7_copy 9 = .ok (.ireturn, 1) := by decide +kernel
theorem dX7_copy_10 : decode cX7_copy 10 = .ok (.iload_n 1, 1) := by decide +kernel
theorem dX7_copy_11 : decode cX7_copy 11 = .ok (.invokestatic 142, 3) := by decide +kernel
theorem dX7_copy_14 : decode cX7_copy 14 = .ok (.ifCond .eq 10, 3) := by decide +kernel
theorem dX7_copy_17 : decode cX7_copy 17 = .ok (.iload_n 2, 1) := by decide +kernel
theorem dX7_copy_18 : decode cX7_copy 18 = .ok (.invokestatic 142, 3) := by decide +kernel
theorem dX7_copy_21 : decode cX7_copy 21 = .ok (.ifCond .ne 6, 3) := by decide +kernel
theorem dX7_copy_24 : decode cX7_copy 24 = .ok (.bipush (-2), 2) := by decide +kernel
theorem dX7_copy_26 : decode cX7_copy 26 = .ok (.ireturn, 1) := by decide +kernel
theorem dX7_copy_27 : decode cX7_copy 27 = .ok (.aload_n 0, 1) := by decide +kernel
theorem dX7_copy_28 : decode cX7_copy 28 = .ok (.iload_n 1, 1) := by decide +kernel
theorem dX7_copy_29 : decode cX7_copy 29 = .ok (.invokevirtual 175, 3) := by decide +kernel
theorem dX7_copy_32 : decode cX7_copy 32 = .ok (.bipush (-4), 2) := by decide +kernel
theorem dX7_copy_34 : decode cX7_copy 34 = .ok (.if_icmp .ne 6, 3) := by decide +kernel
theorem dX7_copy_37 : decode cX7_copy 37 = .ok (.bipush (-4), 2) := by decide +kernel
theorem dX7_copy_39 : decode cX7_copy 39 = .ok (.ireturn, 1) := by decide +kernel
theorem dX7_copy_40 : decode cX7_copy 40 = .ok (.aload_n 0, 1) := by decide +kernel
theorem dX7_copy_41 : decode cX7_copy 41 = .ok (.iload_n 2, 1) := by decide +kernel
theorem dX7_copy_42 : decode cX7_copy 42 = .ok (.invokevirtual 152, 3) := by decide +kernel
theorem dX7_copy_45 : decode cX7_copy 45 = .ok (.aload_n 0, 1) := by decide +kernel
theorem dX7_copy_46 : decode cX7_copy 46 = .ok (.iload_n 2, 1) := by decide +kernel
theorem dX7_copy_47 : decode cX7_copy 47 = .ok (.invokevirtual 149, 3) := by decide +kernel
theorem dX7_copy_50 : decode cX7_copy 50 = .ok (.ireturn, 1) := by decide +kernel
theorem dX7_refresh_0 : decode cX7_refresh 0 = .ok (.aload_n 0, 1) := by decide +kernel
theorem dX7_refresh_1 : decode cX7_refresh 1 = .ok (.getfield 100, 3) := by decide +kernel
theorem dX7_refresh_4 : decode cX7_refresh 4 = .ok (.ifCond .ne 6, 3) := by decide +kernel
theorem dX7_refresh_7 : decode cX7_refresh 7 = .ok (.bipush (-3), 2) := by decide +kernel
theorem dX7_refresh_9 : decode cX7_refresh 9 = .ok (.ireturn, 1) := by decide +kernel
theorem dX7_refresh_10 : decode cX7_refresh 10 = .ok (.iload_n 1, 1) := by decide +kernel
theorem dX7_refresh_11 : decode cX7_refresh 11 = .ok (.iconst 0, 1) := by decide +kernel
theorem dX7_refresh_12 : decode cX7_refresh 12 = .ok (.bipush 64, 2) := by decide +kernel
theorem dX7_refresh_14 : decode cX7_refresh 14 = .ok (.invokestatic 68, 3) := by decide +kernel
theorem dX7_refresh_17 : decode cX7_refresh 17 = .ok (.ifCond .ne 6, 3) := by decide +kernel
theorem dX7_refresh_20 : decode cX7_refresh 20 = .ok (.bipush (-2), 2) := by decide +kernel
theorem dX7_refresh_22 : decode cX7_refresh 22 = .ok (.ireturn, 1) := by decide +kernel
theorem dX7_refresh_23 : decode cX7_refresh 23 = .ok (.iconst 0, 1) := by decide +kernel
theorem dX7_refresh_24 : decode cX7_refresh 24 = .ok (.istore_n 2, 1) := by decide +kernel
theorem dX7_refresh_25 : decode cX7_refresh 25 = .ok (.iconst 0, 1) := by decide +kernel
theorem dX7_refresh_26 : decode cX7_refresh 26 = .ok (.istore_n 3, 1) := by decide +kernel
theorem dX7_refresh_27 : decode cX7_refresh 27 = .ok (.iload_n 3, 1) := by decide +kernel
theorem dX7_refresh_28 : decode cX7_refresh 28 = .ok (.bipush 16, 2) := by decide +kernel
theorem dX7_refresh_30 : decode cX7_refresh 30 = .ok (.if_icmp .ge 44, 3) := by decide +kernel
theorem dX7_refresh_33 : decode cX7_refresh 33 = .ok (.aload_n 0, 1) := by decide +kernel
theorem dX7_refresh_34 : decode cX7_refresh 34 = .ok (.iload_n 3, 1) := by decide +kernel
theorem dX7_refresh_35 : decode cX7_refresh 35 = .ok (.invokevirtual 175, 3) := by decide +kernel
theorem dX7_refresh_38 : decode cX7_refresh 38 = .ok (.istore 4, 2) := by decide +kernel
theorem dX7_refresh_40 : decode cX7_refresh 40 = .ok (.iload 4, 2) := by decide +kernel
theorem dX7_refresh_42 : decode cX7_refresh 42 = .ok (.bipush (-4), 2) := by decide +kernel
theorem dX7_refresh_44 : decode cX7_refresh 44 = .ok (.if_icmp .eq 24, 3) := by decide +kernel
theorem dX7_refresh_47 : decode cX7_refresh 47 = .ok (.iload 4, 2) := by decide +kernel
theorem dX7_refresh_49 : decode cX7_refresh 49 = .ok (.iload_n 1, 1) := by decide +kernel
theorem dX7_refresh_50 : decode cX7_refresh 50 = .ok (.if_icmp .lt 18, 3) := by decide +kernel
theorem dX7_refresh_53 : decode cX7_refresh 53 = .ok (.aload_n 0, 1) := by decide +kernel
theorem dX7_refresh_54 : decode cX7_refresh 54 = .ok (.iload_n 3, 1) := by decide +kernel
theorem dX7_refresh_55 : decode cX7_refresh 55 = .ok (.invokevirtual 152, 3) := by decide +kernel
theorem dX7_refresh_58 : decode cX7_refresh 58 = .ok (.aload_n 0, 1) := by decide +kernel
theorem dX7_refresh_59 : decode cX7_refresh 59 = .ok (.iload_n 3, 1) := by decide +kernel
theorem dX7_refresh_60 : decode cX7_refresh 60 = .ok (.invokevirtual 149, 3) := by decide +kernel
theorem dX7_refresh_63 : decode cX7_refresh 63 = .ok (.istore 5, 2) := by decide +kernel
theorem dX7_refresh_65 : decode cX7_refresh 65 = .ok (.iinc 2 1, 3) := by decide +kernel
theorem dX7_refresh_68 : decode cX7_refresh 68 = .ok (.iinc 3 1, 3) := by decide +kernel
theorem dX7_refresh_71 : decode cX7_refresh 71 = .ok (.goto (-44), 3) := by decide +kernel
theorem dX7_refresh_74 : decode cX7_refresh 74 = .ok (.iload_n 2, 1) := by decide +kernel
theorem dX7_refresh_75 : decode cX7_refresh 75 = .ok (.ireturn, 1) := by decide +kernel
theorem dX7_countZeros_0 : decode cX7_countZeros 0 = .ok (.iconst 0, 1) := by decide +kernel
theorem dX7_countZeros_1 : decode cX7_countZeros 1 = .ok (.istore_n 2, 1) := by decide +kernel
theorem dX7_countZeros_2 : decode cX7_countZeros 2 = .ok (.iconst 0, 1) := by decide +kernel
theorem dX7_countZeros_3 : decode cX7_countZeros 3 = .ok (.istore_n 3, 1) := by decide +kernel
theorem dX7_countZeros_4 : decode cX7_countZeros 4 = .ok (.iload_n 3, 1) := by decide +kernel
theorem dX7_countZeros_5 : decode cX7_countZeros 5 = .ok (.aload_n 0, 1) := by decide +kernel
theorem dX7_countZeros_6 : decode cX7_countZeros 6 = .ok (.getfield 113, 3) := by decide +kernel
theorem dX7_countZeros_9 : decode cX7_countZeros 9 = .ok (.if_icmp .ge 32, 3) := by decide +kernel
theorem dX7_countZeros_12 : decode cX7_countZeros 12 = .ok (.iload_n 2, 1) := by decide +kernel
theorem dX7_countZeros_13 : decode cX7_countZeros 13 = .ok (.aload_n 0, 1) := by decide +kernel
theorem dX7_countZeros_14 : decode cX7_countZeros 14 = .ok (.getfield 23, 3) := by decide +kernel
theorem dX7_countZeros_17 : decode cX7_countZeros 17 = .ok (.sipush 2200, 3) := by decide +kernel
theorem dX7_countZeros_20 : decode cX7_countZeros 20 = .ok (.iload_n 1, 1) := by decide +kernel
theorem dX7_countZeros_21 : decode cX7_countZeros 21 = .ok (.imul, 1) := by decide +kernel
theorem dX7_countZeros_22 : decode cX7_countZeros 22 = .ok (.iload_n 3, 1) := by decide +kernel
theorem dX7_countZeros_23 : decode cX7_countZeros 23 = .ok (.iadd, 1) := by decide +kernel
theorem dX7_countZeros_24 : decode cX7_countZeros 24 = .ok (.baload, 1) := by decide +kernel
theorem dX7_countZeros_25 : decode cX7_countZeros 25 = .ok (.ifCond .eq 7, 3) := by decide +kernel
theorem dX7_countZeros_28 : decode cX7_countZeros 28 = .ok (.iconst 0, 1) := by decide +kernel
theorem dX7_countZeros_29 : decode cX7_countZeros 29 = .ok (.goto 4, 3) := by decide +kernel
theorem dX7_countZeros_32 : decode cX7_countZeros 32 = .ok (.iconst 1, 1) := by decide +kernel
theorem dX7_countZeros_33 : decode cX7_countZeros 33 = .ok (.iadd, 1) := by decide +kernel
theorem dX7_countZeros_34 : decode cX7_countZeros 34 = .ok (.istore_n 2, 1) := by decide +kernel
theorem dX7_countZeros_35 : decode cX7_countZeros 35 = .ok (.iinc 3 1, 3) := by decide +kernel
theorem dX7_countZeros_38 : decode cX7_countZeros 38 = .ok (.goto (-34), 3) := by decide +kernel
theorem dX7_countZeros_41 : decode cX7_countZeros 41 = .ok (.iload_n 2, 1) := by decide +kernel
theorem dX7_countZeros_42 : decode cX7_countZeros 42 = .ok (.ireturn, 1) := by decide +kernel
theorem dX7_told_0 : decode cX7_told 0 = .ok (.aload_n 0, 1) := by decide +kernel
theorem dX7_told_1 : decode cX7_told 1 = .ok (.getfield 100, 3) := by decide +kernel
theorem dX7_told_4 : decode cX7_told 4 = .ok (.ifCond .ne 6, 3) := by decide +kernel
theorem dX7_told_7 : decode cX7_told 7 = .ok (.bipush (-3), 2) := by decide +kernel
theorem dX7_told_9 : decode cX7_told 9 = .ok (.ireturn, 1) := by decide +kernel
theorem dX7_told_10 : decode cX7_told 10 = .ok (.iload_n 1, 1) := by decide +kernel
theorem dX7_told_11 : decode cX7_told 11 = .ok (.invokestatic 142, 3) := by decide +kernel
theorem dX7_told_14 : decode cX7_told 14 = .ok (.ifCond .eq 13, 3) := by decide +kernel
theorem dX7_told_17 : decode cX7_told 17 = .ok (.iload_n 2, 1) := by decide +kernel
theorem dX7_told_18 : decode cX7_told 18 = .ok (.iconst 0, 1) := by decide +kernel
theorem dX7_told_19 : decode cX7_told 19 = .ok (.bipush 19, 2) := by decide +kernel
theorem dX7_told_21 : decode cX7_told 21 = .ok (.invokestatic 68, 3) := by decide +kernel
theorem dX7_told_24 : decode cX7_told 24 = .ok (.ifCond .ne 6, 3) := by decide +kernel
theorem dX7_told_27 : decode cX7_told 27 = .ok (.bipush (-2), 2) := by decide +kernel
theorem dX7_told_29 : decode cX7_told 29 = .ok (.ireturn, 1) := by decide +kernel
theorem dX7_told_30 : decode cX7_told 30 = .ok (.iload_n 2, 1) := by decide +kernel
theorem dX7_told_31 : decode cX7_told 31 = .ok (.tableswitch 54 0 3 #[29, 36, 42, 48], 29) := by decide +kernel
theorem dX7_told_60 : decode cX7_told 60 = .ok (.aload_n 0, 1) := by decide +kernel
theorem dX7_told_61 : decode cX7_told 61 = .ok (.getfield 33, 3) := by decide +kernel
theorem dX7_told_64 : decode cX7_told 64 = .ok (.iload_n 1, 1) := by decide +kernel
theorem dX7_told_65 : decode cX7_told 65 = .ok (.iaload, 1) := by decide +kernel
theorem dX7_told_66 : decode cX7_told 66 = .ok (.ireturn, 1) := by decide +kernel
theorem dX7_told_67 : decode cX7_told 67 = .ok (.aload_n 0, 1) := by decide +kernel
theorem dX7_told_68 : decode cX7_told 68 = .ok (.iload_n 1, 1) := by decide +kernel
theorem dX7_told_69 : decode cX7_told 69 = .ok (.invokevirtual 162, 3) := by decide +kernel
theorem dX7_told_72 : decode cX7_told 72 = .ok (.ireturn, 1) := by decide +kernel
theorem dX7_told_73 : decode cX7_told 73 = .ok (.aload_n 0, 1) := by decide +kernel
theorem dX7_told_74 : decode cX7_told 74 = .ok (.iload_n 1, 1) := by decide +kernel
theorem dX7_told_75 : decode cX7_told 75 = .ok (.invokevirtual 159, 3) := by decide +kernel
theorem dX7_told_78 : decode cX7_told 78 = .ok (.ireturn, 1) := by decide +kernel
theorem dX7_told_79 : decode cX7_told 79 = .ok (.aload_n 0, 1) := by decide +kernel
theorem dX7_told_80 : decode cX7_told 80 = .ok (.iload_n 1, 1) := by decide +kernel
theorem dX7_told_81 : decode cX7_told 81 = .ok (.invokevirtual 178, 3) := by decide +kernel
theorem dX7_told_84 : decode cX7_told 84 = .ok (.ireturn, 1) := by decide +kernel
theorem dX7_told_85 : decode cX7_told 85 = .ok (.iload_n 1, 1) := by decide +kernel
theorem dX7_told_86 : decode cX7_told 86 = .ok (.iload_n 2, 1) := by decide +kernel
theorem dX7_told_87 : decode cX7_told 87 = .ok (.iadd, 1) := by decide +kernel
theorem dX7_told_88 : decode cX7_told 88 = .ok (.iconst 4, 1) := by decide +kernel
theorem dX7_told_89 : decode cX7_told 89 = .ok (.isub, 1) := by decide +kernel
theorem dX7_told_90 : decode cX7_told 90 = .ok (.bipush 16, 2) := by decide +kernel
theorem dX7_told_92 : decode cX7_told 92 = .ok (.irem, 1) := by decide +kernel
theorem dX7_told_93 : decode cX7_told 93 = .ok (.istore_n 3, 1) := by decide +kernel
theorem dX7_told_94 : decode cX7_told 94 = .ok (.iconst 0, 1) := by decide +kernel
theorem dX7_told_95 : decode cX7_told 95 = .ok (.istore 4, 2) := by decide +kernel
theorem dX7_told_97 : decode cX7_told 97 = .ok (.iconst 0, 1) := by decide +kernel
theorem dX7_told_98 : decode cX7_told 98 = .ok (.istore 5, 2) := by decide +kernel
theorem dX7_told_100 : decode cX7_told 100 = .ok (.iload 5, 2) := by decide +kernel
theorem dX7_told_102 : decode cX7_told 102 = .ok (.aload_n 0, 1) := by decide +kernel
theorem dX7_told_103 : decode cX7_told 103 = .ok (.getfield 113, 3) := by decide +kernel
theorem dX7_told_106 : decode cX7_told 106 = .ok (.if_icmp .ge 48, 3) := by decide +kernel
theorem dX7_told_109 : decode cX7_told 109 = .ok (.iload 4, 2) := by decide +kernel
theorem dX7_told_111 : decode cX7_told 111 = .ok (.aload_n 0, 1) := by decide +kernel
theorem dX7_told_112 : decode cX7_told 112 = .ok (.getfield 23, 3) := by decide +kernel
theorem dX7_told_115 : decode cX7_told 115 = .ok (.sipush 2200, 3) := by decide +kernel
theorem dX7_told_118 : decode cX7_told 118 = .ok (.iload_n 1, 1) := by decide +kernel
theorem dX7_told_119 : decode cX7_told 119 = .ok (.imul, 1) := by decide +kernel
theorem dX7_told_120 : decode cX7_told 120 = .ok (.iload 5, 2) := by decide +kernel
theorem dX7_told_122 : decode cX7_told 122 = .ok (.iadd, 1) := by decide +kernel
theorem dX7_told_123 : decode cX7_told 123 = .ok (.baload, 1) := by decide +kernel
theorem dX7_told_124 : decode cX7_told 124 = .ok (.aload_n 0, 1) := by decide +kernel
theorem dX7_told_125 : decode cX7_told 125 = .ok (.getfield 23, 3) := by decide +kernel
theorem dX7_told_128 : decode cX7_told 128 = .ok (.sipush 2200, 3) := by decide +kernel
theorem dX7_told_131 : decode cX7_told 131 = .ok (.iload_n 3, 1) := by decide +kernel
theorem dX7_told_132 : decode cX7_told 132 = .ok (.imul, 1) := by decide +kernel
theorem dX7_told_133 : decode cX7_told 133 = .ok (.iload 5, 2) := by decide +kernel
theorem dX7_told_135 : decode cX7_told 135 = .ok (.iadd, 1) := by decide +kernel
theorem dX7_told_136 : decode cX7_told 136 = .ok (.baload, 1) := by decide +kernel
theorem dX7_told_137 : decode cX7_told 137 = .ok (.if_icmp .eq 7, 3) := by decide +kernel
theorem dX7_told_140 : decode cX7_told 140 = .ok (.iconst 1, 1) := by decide +kernel
theorem dX7_told_141 : decode cX7_told 141 = .ok (.goto 4, 3) := by decide +kernel
theorem dX7_told_144 : decode cX7_told 144 = .ok (.iconst 0, 1) := by decide +kernel
theorem dX7_told_145 : decode cX7_told 145 = .ok (.iadd, 1) := by decide +kernel
theorem dX7_told_146 : decode cX7_told 146 = .ok (.istore 4, 2) := by decide +kernel
theorem dX7_told_148 : decode cX7_told 148 = .ok (.iinc 5 1, 3) := by decide +kernel
theorem dX7_told_151 : decode cX7_told 151 = .ok (.goto (-51), 3) := by decide +kernel
theorem dX7_told_154 : decode cX7_told 154 = .ok (.iload 4, 2) := by decide +kernel
theorem dX7_told_156 : decode cX7_told 156 = .ok (.ireturn, 1) := by decide +kernel
theorem dX7_about_0 : decode cX7_about 0 = .ok (.aload_n 0, 1) := by decide +kernel
theorem dX7_about_1 : decode cX7_about 1 = .ok (.getfield 100, 3) := by decide +kernel
theorem dX7_about_4 : decode cX7_about 4 = .ok (.ifCond .ne 6, 3) := by decide +kernel
theorem dX7_about_7 : decode cX7_about 7 = .ok (.bipush (-3), 2) := by decide +kernel
theorem dX7_about_9 : decode cX7_about 9 = .ok (.ireturn, 1) := by decide +kernel
theorem dX7_about_10 : decode cX7_about 10 = .ok (.iload_n 1, 1) := by decide +kernel
theorem dX7_about_11 : decode cX7_about 11 = .ok (.tableswitch 85 0 7 #[45, 50, 55, 60, 65, 70, 75, 80], 45) := by decide +kernel
theorem dX7_about_56 : decode cX7_about 56 = .ok (.aload_n 0, 1) := by decide +kernel
theorem dX7_about_57 : decode cX7_about 57 = .ok (.getfield 86, 3) := by decide +kernel
theorem dX7_about_60 : decode cX7_about 60 = .ok (.ireturn, 1) := by decide +kernel
theorem dX7_about_61 : decode cX7_about 61 = .ok (.aload_n 0, 1) := by decide +kernel
theorem dX7_about_62 : decode cX7_about 62 = .ok (.getfield 104, 3) := by decide +kernel
theorem dX7_about_65 : decode cX7_about 65 = .ok (.ireturn, 1) := by decide +kernel
theorem dX7_about_66 : decode cX7_about 66 = .ok (.aload_n 0, 1) := by decide +kernel
theorem dX7_about_67 : decode cX7_about 67 = .ok (.getfield 107, 3) := by decide +kernel
theorem dX7_about_70 : decode cX7_about 70 = .ok (.ireturn, 1) := by decide +kernel
theorem dX7_about_71 : decode cX7_about 71 = .ok (.aload_n 0, 1) := by decide +kernel
theorem dX7_about_72 : decode cX7_about 72 = .ok (.getfield 110, 3) := by decide +kernel
theorem dX7_about_75 : decode cX7_about 75 = .ok (.ireturn, 1) := by decide +kernel
theorem dX7_about_76 : decode cX7_about 76 = .ok (.aload_n 0, 1) := by decide +kernel
theorem dX7_about_77 : decode cX7_about 77 = .ok (.getfield 113, 3) := by decide +kernel
theorem dX7_about_80 : decode cX7_about 80 = .ok (.ireturn, 1) := by decide +kernel
theorem dX7_about_81 : decode cX7_about 81 = .ok (.aload_n 0, 1) := by decide +kernel
theorem dX7_about_82 : decode cX7_about 82 = .ok (.getfield 119, 3) := by decide +kernel
theorem dX7_about_85 : decode cX7_about 85 = .ok (.ireturn, 1) := by decide +kernel
theorem dX7_about_86 : decode cX7_about 86 = .ok (.aload_n 0, 1) := by decide +kernel
theorem dX7_about_87 : decode cX7_about 87 = .ok (.getfield 122, 3) := by decide +kernel
theorem dX7_about_90 : decode cX7_about 90 = .ok (.ireturn, 1) := by decide +kernel
theorem dX7_about_91 : decode cX7_about 91 = .ok (.aload_n 0, 1) := by decide +kernel
theorem dX7_about_92 : decode cX7_about 92 = .ok (.getfield 125, 3) := by decide +kernel
theorem dX7_about_95 : decode cX7_about 95 = .ok (.ireturn, 1) := by decide +kernel
theorem dX7_about_96 : decode cX7_about 96 = .ok (.bipush (-2), 2) := by decide +kernel
theorem dX7_about_98 : decode cX7_about 98 = .ok (.ireturn, 1) := by decide +kernel
