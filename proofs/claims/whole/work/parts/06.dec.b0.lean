theorem dX3_init_0 : decode cX3_init 0 = .ok (.aload_n 0, 1) := by decide +kernel
theorem dX3_init_1 : decode cX3_init 1 = .ok (.invokespecial 3, 3) := by decide +kernel
theorem dX3_init_4 : decode cX3_init 4 = .ok (.aload_n 0, 1) := by decide +kernel
theorem dX3_init_5 : decode cX3_init 5 = .ok (.new 9, 3) := by decide +kernel
theorem dX3_init_8 : decode cX3_init 8 = .ok (.dup, 1) := by decide +kernel
theorem dX3_init_9 : decode cX3_init 9 = .ok (.invokespecial 11, 3) := by decide +kernel
theorem dX3_init_12 : decode cX3_init 12 = .ok (.putfield 12, 3) := by decide +kernel
theorem dX3_init_15 : decode cX3_init 15 = .ok (.aload_n 0, 1) := by decide +kernel
theorem dX3_init_16 : decode cX3_init 16 = .ok (.bipush 17, 2) := by decide +kernel
theorem dX3_init_18 : decode cX3_init 18 = .ok (.newarray .int, 2) := by decide +kernel
theorem dX3_init_20 : decode cX3_init 20 = .ok (.putfield 18, 3) := by decide +kernel
theorem dX3_init_23 : decode cX3_init 23 = .ok (.aload_n 0, 1) := by decide +kernel
theorem dX3_init_24 : decode cX3_init 24 = .ok (.bipush 17, 2) := by decide +kernel
theorem dX3_init_26 : decode cX3_init 26 = .ok (.newarray .int, 2) := by decide +kernel
theorem dX3_init_28 : decode cX3_init 28 = .ok (.putfield 22, 3) := by decide +kernel
theorem dX3_init_31 : decode cX3_init 31 = .ok (.aload_n 0, 1) := by decide +kernel
theorem dX3_init_32 : decode cX3_init 32 = .ok (.bipush 17, 2) := by decide +kernel
theorem dX3_init_34 : decode cX3_init 34 = .ok (.newarray .int, 2) := by decide +kernel
theorem dX3_init_36 : decode cX3_init 36 = .ok (.putfield 25, 3) := by decide +kernel
theorem dX3_init_39 : decode cX3_init 39 = .ok (.aload_n 0, 1) := by decide +kernel
theorem dX3_init_40 : decode cX3_init 40 = .ok (.bipush 17, 2) := by decide +kernel
theorem dX3_init_42 : decode cX3_init 42 = .ok (.newarray .int, 2) := by decide +kernel
theorem dX3_init_44 : decode cX3_init 44 = .ok (.putfield 28, 3) := by decide +kernel
theorem dX3_init_47 : decode cX3_init 47 = .ok (.aload_n 0, 1) := by decide +kernel
theorem dX3_init_48 : decode cX3_init 48 = .ok (.bipush 9, 2) := by decide +kernel
theorem dX3_init_50 : decode cX3_init 50 = .ok (.newarray .int, 2) := by decide +kernel
theorem dX3_init_52 : decode cX3_init 52 = .ok (.putfield 31, 3) := by decide +kernel
theorem dX3_init_55 : decode cX3_init 55 = .ok (.aload_n 0, 1) := by decide +kernel
theorem dX3_init_56 : decode cX3_init 56 = .ok (.bipush 8, 2) := by decide +kernel
theorem dX3_init_58 : decode cX3_init 58 = .ok (.newarray .int, 2) := by decide +kernel
theorem dX3_init_60 : decode cX3_init 60 = .ok (.putfield 34, 3) := by decide +kernel
theorem dX3_init_63 : decode cX3_init 63 = .ok (.aload_n 0, 1) := by decide +kernel
theorem dX3_init_64 : decode cX3_init 64 = .ok (.aload_n 1, 1) := by decide +kernel
theorem dX3_init_65 : decode cX3_init 65 = .ok (.putfield 37, 3) := by decide +kernel
theorem dX3_init_68 : decode cX3_init 68 = .ok (.aload_n 0, 1) := by decide +kernel
theorem dX3_init_69 : decode cX3_init 69 = .ok (.aload_n 2, 1) := by decide +kernel
theorem dX3_init_70 : decode cX3_init 70 = .ok (.putfield 41, 3) := by decide +kernel
theorem dX3_init_73 : decode cX3_init 73 = .ok (.return_, 1) := by decide +kernel
theorem dX3_mend_0 : decode cX3_mend 0 = .ok (.aload_n 1, 1) := by decide +kernel
theorem dX3_mend_1 : decode cX3_mend 1 = .ok (.getfield 45, 3) := by decide +kernel
theorem dX3_mend_4 : decode cX3_mend 4 = .ok (.invokevirtual 50, 3) := by decide +kernel
theorem dX3_mend_7 : decode cX3_mend 7 = .ok (.istore_n 2, 1) := by decide +kernel
theorem dX3_mend_8 : decode cX3_mend 8 = .ok (.iload_n 2, 1) := by decide +kernel
theorem dX3_mend_9 : decode cX3_mend 9 = .ok (.iconst 2, 1) := by decide +kernel
theorem dX3_mend_10 : decode cX3_mend 10 = .ok (.aload_n 0, 1) := by decide +kernel
theorem dX3_mend_11 : decode cX3_mend 11 = .ok (.getfield 41, 3) := by decide +kernel
theorem dX3_mend_14 : decode cX3_mend 14 = .ok (.getfield 54, 3) := by decide +kernel
theorem dX3_mend_17 : decode cX3_mend 17 = .ok (.imul, 1) := by decide +kernel
theorem dX3_mend_18 : decode cX3_mend 18 = .ok (.if_icmp .le 6, 3) := by decide +kernel
theorem dX3_mend_21 : decode cX3_mend 21 = .ok (.bipush (-4), 2) := by decide +kernel
theorem dX3_mend_23 : decode cX3_mend 23 = .ok (.ireturn, 1) := by decide +kernel
theorem dX3_mend_24 : decode cX3_mend 24 = .ok (.aload_n 0, 1) := by decide +kernel
theorem dX3_mend_25 : decode cX3_mend 25 = .ok (.aload_n 1, 1) := by decide +kernel
theorem dX3_mend_26 : decode cX3_mend 26 = .ok (.iconst 0, 1) := by decide +kernel
theorem dX3_mend_27 : decode cX3_mend 27 = .ok (.iload_n 2, 1) := by decide +kernel
theorem dX3_mend_28 : decode cX3_mend 28 = .ok (.invokevirtual 60, 3) := by decide +kernel
theorem dX3_mend_31 : decode cX3_mend 31 = .ok (.ifCond .ne 17, 3) := by decide +kernel
theorem dX3_mend_34 : decode cX3_mend 34 = .ok (.iload_n 2, 1) := by decide +kernel
theorem dX3_mend_35 : decode cX3_mend 35 = .ok (.ifCond .le 17, 3) := by decide +kernel
theorem dX3_mend_38 : decode cX3_mend 38 = .ok (.aload_n 0, 1) := by decide +kernel
theorem dX3_mend_39 : decode cX3_mend 39 = .ok (.aload_n 1, 1) := by decide +kernel
theorem dX3_mend_40 : decode cX3_mend 40 = .ok (.iconst 1, 1) := by decide +kernel
theorem dX3_mend_41 : decode cX3_mend 41 = .ok (.iload_n 2, 1) := by decide +kernel
theorem dX3_mend_42 : decode cX3_mend 42 = .ok (.invokevirtual 60, 3) := by decide +kernel
theorem dX3_mend_45 : decode cX3_mend 45 = .ok (.ifCond .eq 7, 3) := by decide +kernel
theorem dX3_mend_48 : decode cX3_mend 48 = .ok (.iconst 1, 1) := by decide +kernel
theorem dX3_mend_49 : decode cX3_mend 49 = .ok (.goto 4, 3) := by decide +kernel
theorem dX3_mend_52 : decode cX3_mend 52 = .ok (.iconst 0, 1) := by decide +kernel
theorem dX3_mend_53 : decode cX3_mend 53 = .ok (.istore_n 3, 1) := by decide +kernel
theorem dX3_mend_54 : decode cX3_mend 54 = .ok (.iload_n 3, 1) := by decide +kernel
theorem dX3_mend_55 : decode cX3_mend 55 = .ok (.ifCond .eq 17, 3) := by decide +kernel
theorem dX3_mend_58 : decode cX3_mend 58 = .ok (.aload_n 0, 1) := by decide +kernel
theorem dX3_mend_59 : decode cX3_mend 59 = .ok (.getfield 12, 3) := by decide +kernel
theorem dX3_mend_62 : decode cX3_mend 62 = .ok (.aload_n 1, 1) := by decide +kernel
theorem dX3_mend_63 : decode cX3_mend 63 = .ok (.getfield 64, 3) := by decide +kernel
theorem dX3_mend_66 : decode cX3_mend 66 = .ok (.invokevirtual 67, 3) := by decide +kernel
theorem dX3_mend_69 : decode cX3_mend 69 = .ok (.goto 5, 3) := by decide +kernel
theorem dX3_mend_72 : decode cX3_mend 72 = .ok (.bipush (-4), 2) := by decide +kernel
theorem dX3_mend_74 : decode cX3_mend 74 = .ok (.ireturn, 1) := by decide +kernel
theorem dX3_isMended_0 : decode cX3_isMended 0 = .ok (.iconst 0, 1) := by decide +kernel
theorem dX3_isMended_1 : decode cX3_isMended 1 = .ok (.istore 4, 2) := by decide +kernel
theorem dX3_isMended_3 : decode cX3_isMended 3 = .ok (.iload 4, 2) := by decide +kernel
theorem dX3_isMended_5 : decode cX3_isMended 5 = .ok (.bipush 34, 2) := by decide +kernel
theorem dX3_isMended_7 : decode cX3_isMended 7 = .ok (.if_icmp .ge 64, 3) := by decide +kernel
theorem dX3_isMended_10 : decode cX3_isMended 10 = .ok (.aload_n 1, 1) := by decide +kernel
theorem dX3_isMended_11 : decode cX3_isMended 11 = .ok (.getfield 45, 3) := by decide +kernel
theorem dX3_isMended_14 : decode cX3_isMended 14 = .ok (.getfield 71, 3) := by decide +kernel
theorem dX3_isMended_17 : decode cX3_isMended 17 = .ok (.iload 4, 2) := by decide +kernel
theorem dX3_isMended_19 : decode cX3_isMended 19 = .ok (.laload, 1) := by decide +kernel
theorem dX3_isMended_20 : decode cX3_isMended 20 = .ok (.lstore 5, 2) := by decide +kernel
theorem dX3_isMended_22 : decode cX3_isMended 22 = .ok (.aload_n 1, 1) := by decide +kernel
theorem dX3_isMended_23 : decode cX3_isMended 23 = .ok (.getfield 64, 3) := by decide +kernel
theorem dX3_isMended_26 : decode cX3_isMended 26 = .ok (.getfield 71, 3) := by decide +kernel
theorem dX3_isMended_29 : decode cX3_isMended 29 = .ok (.iload 4, 2) := by decide +kernel
theorem dX3_isMended_31 : decode cX3_isMended 31 = .ok (.laload, 1) := by decide +kernel
theorem dX3_isMended_32 : decode cX3_isMended 32 = .ok (.lstore 7, 2) := by decide +kernel
theorem dX3_isMended_34 : decode cX3_isMended 34 = .ok (.aload_n 0, 1) := by decide +kernel
theorem dX3_isMended_35 : decode cX3_isMended 35 = .ok (.getfield 12, 3) := by decide +kernel
theorem dX3_isMended_38 : decode cX3_isMended 38 = .ok (.getfield 71, 3) := by decide +kernel
theorem dX3_isMended_41 : decode cX3_isMended 41 = .ok (.iload 4, 2) := by decide +kernel
theorem dX3_isMended_43 : decode cX3_isMended 43 = .ok (.iload_n 2, 1) := by decide +kernel
theorem dX3_isMended_44 : decode cX3_isMended 44 = .ok (.ifCond .eq 11, 3) := by decide +kernel
theorem dX3_isMended_47 : decode cX3_isMended 47 = .ok (.lload 7, 2) := by decide +kernel
theorem dX3_isMended_49 : decode cX3_isMended 49 = .ok (.lload 5, 2) := by decide +kernel
theorem dX3_isMended_51 : decode cX3_isMended 51 = .ok (.lor, 1) := by decide +kernel
theorem dX3_isMended_52 : decode cX3_isMended 52 = .ok (.goto 12, 3) := by decide +kernel
theorem dX3_isMended_55 : decode cX3_isMended 55 = .ok (.lload 7, 2) := by decide +kernel
theorem dX3_isMended_57 : decode cX3_isMended 57 = .ok (.lload 5, 2) := by decide +kernel
theorem dX3_isMended_59 : decode cX3_isMended 59 = .ok (.ldc2_w 75, 3) := by decide +kernel
theorem dX3_isMended_62 : decode cX3_isMended 62 = .ok (.lxor, 1) := by decide +kernel
theorem dX3_isMended_63 : decode cX3_isMended 63 = .ok (.land, 1) := by decide +kernel
theorem dX3_isMended_64 : decode cX3_isMended 64 = .ok (.lastore, 1) := by decide +kernel
theorem dX3_isMended_65 : decode cX3_isMended 65 = .ok (.iinc 4 1, 3) := by decide +kernel
theorem dX3_isMended_68 : decode cX3_isMended 68 = .ok (.goto (-65), 3) := by decide +kernel
theorem dX3_isMended_71 : decode cX3_isMended 71 = .ok (.aload_n 0, 1) := by decide +kernel
theorem dX3_isMended_72 : decode cX3_isMended 72 = .ok (.invokevirtual 77, 3) := by decide +kernel
theorem dX3_isMended_75 : decode cX3_isMended 75 = .ok (.ifCond .eq 28, 3) := by decide +kernel
theorem dX3_isMended_78 : decode cX3_isMended 78 = .ok (.iconst 2, 1) := by decide +kernel
theorem dX3_isMended_79 : decode cX3_isMended 79 = .ok (.aload_n 0, 1) := by decide +kernel
theorem dX3_isMended_80 : decode cX3_isMended 80 = .ok (.aload_n 1, 1) := by decide +kernel
theorem dX3_isMended_81 : decode cX3_isMended 81 = .ok (.invokevirtual 81, 3) := by decide +kernel
theorem dX3_isMended_84 : decode cX3_isMended 84 = .ok (.imul, 1) := by decide +kernel
theorem dX3_isMended_85 : decode cX3_isMended 85 = .ok (.iload_n 3, 1) := by decide +kernel
theorem dX3_isMended_86 : decode cX3_isMended 86 = .ok (.iadd, 1) := by decide +kernel
theorem dX3_isMended_87 : decode cX3_isMended 87 = .ok (.iconst 2, 1) := by decide +kernel
theorem dX3_isMended_88 : decode cX3_isMended 88 = .ok (.aload_n 0, 1) := by decide +kernel
theorem dX3_isMended_89 : decode cX3_isMended 89 = .ok (.getfield 41, 3) := by decide +kernel
theorem dX3_isMended_92 : decode cX3_isMended 92 = .ok (.getfield 54, 3) := by decide +kernel
theorem dX3_isMended_95 : decode cX3_isMended 95 = .ok (.imul, 1) := by decide +kernel
theorem dX3_isMended_96 : decode cX3_isMended 96 = .ok (.if_icmp .gt 7, 3) := by decide +kernel
theorem dX3_isMended_99 : decode cX3_isMended 99 = .ok (.iconst 1, 1) := by decide +kernel
theorem dX3_isMended_100 : decode cX3_isMended 100 = .ok (.goto 4, 3) := by decide +kernel
theorem dX3_isMended_103 : decode cX3_isMended 103 = .ok (.iconst 0, 1) := by decide +kernel
theorem dX3_isMended_104 : decode cX3_isMended 104 = .ok (.ireturn, 1) := by decide +kernel
theorem dX3_apartBesidesMarks_0 : decode cX3_apartBesidesMarks 0 = .ok (.iconst 0, 1) := by decide +kernel
theorem dX3_apartBesidesMarks_1 : decode cX3_apartBesidesMarks 1 = .ok (.istore_n 2, 1) := by decide +kernel
theorem dX3_apartBesidesMarks_2 : decode cX3_apartBesidesMarks 2 = .ok (.iconst 0, 1) := by decide +kernel
theorem dX3_apartBesidesMarks_3 : decode cX3_apartBesidesMarks 3 = .ok (.istore_n 3, 1) := by decide +kernel
theorem dX3_apartBesidesMarks_4 : decode cX3_apartBesidesMarks 4 = .ok (.iload_n 3, 1) := by decide +kernel
theorem dX3_apartBesidesMarks_5 : decode cX3_apartBesidesMarks 5 = .ok (.bipush 34, 2) := by decide +kernel
theorem dX3_apartBesidesMarks_7 : decode cX3_apartBesidesMarks 7 = .ok (.if_icmp .ge 48, 3) := by decide +kernel
theorem dX3_apartBesidesMarks_10 : decode cX3_apartBesidesMarks 10 = .ok (.iload_n 2, 1) := by decide +kernel
theorem dX3_apartBesidesMarks_11 : decode cX3_apartBesidesMarks 11 = .ok (.aload_n 0, 1) := by decide +kernel
theorem dX3_apartBesidesMarks_12 : decode cX3_apartBesidesMarks 12 = .ok (.getfield 12, 3) := by decide +kernel
theorem dX3_apartBesidesMarks_15 : decode cX3_apartBesidesMarks 15 = .ok (.getfield 71, 3) := by decide +kernel
theorem dX3_apartBesidesMarks_18 : decode cX3_apartBesidesMarks 18 = .ok (.iload_n 3, 1) := by decide +kernel
theorem dX3_apartBesidesMarks_19 : decode cX3_apartBesidesMarks 19 = .ok (.laload, 1) := by decide +kernel
theorem dX3_apartBesidesMarks_20 : decode cX3_apartBesidesMarks 20 = .ok (.aload_n 1, 1) := by decide +kernel
theorem dX3_apartBesidesMarks_21 : decode cX3_apartBesidesMarks 21 = .ok (.getfield 64, 3) := by decide +kernel
theorem dX3_apartBesidesMarks_24 : decode cX3_apartBesidesMarks 24 = .ok (.getfield 71, 3) := by decide +kernel
theorem dX3_apartBesidesMarks_27 : decode cX3_apartBesidesMarks 27 = .ok (.iload_n 3, 1) := by decide +kernel
theorem dX3_apartBesidesMarks_28 : decode cX3_apartBesidesMarks 28 = .ok (.laload, 1) := by decide +kernel
theorem dX3_apartBesidesMarks_29 : decode cX3_apartBesidesMarks 29 = .ok (.lxor, 1) := by decide +kernel
theorem dX3_apartBesidesMarks_30 : decode cX3_apartBesidesMarks 30 = .ok (.aload_n 1, 1) := by decide +kernel
theorem dX3_apartBesidesMarks_31 : decode cX3_apartBesidesMarks 31 = .ok (.getfield 45, 3) := by decide +kernel
theorem dX3_apartBesidesMarks_34 : decode cX3_apartBesidesMarks 34 = .ok (.getfield 71, 3) := by decide +kernel
theorem dX3_apartBesidesMarks_37 : decode cX3_apartBesidesMarks 37 = .ok (.iload_n 3, 1) := by decide +kernel
theorem dX3_apartBesidesMarks_38 : decode cX3_apartBesidesMarks 38 = .ok (.laload, 1) := by decide +kernel
theorem dX3_apartBesidesMarks_39 : decode cX3_apartBesidesMarks 39 = .ok (.ldc2_w 75, 3) := by decide +kernel
theorem dX3_apartBesidesMarks_42 : decode cX3_apartBesidesMarks 42 = .ok (.lxor, 1) := by decide +kernel
theorem dX3_apartBesidesMarks_43 : decode cX3_apartBesidesMarks 43 = .ok (.land, 1) := by decide +kernel
theorem dX3_apartBesidesMarks_44 : decode cX3_apartBesidesMarks 44 = .ok (.invokestatic 85, 3) := by decide +kernel
theorem dX3_apartBesidesMarks_47 : decode cX3_apartBesidesMarks 47 = .ok (.iadd, 1) := by decide +kernel
theorem dX3_apartBesidesMarks_48 : decode cX3_apartBesidesMarks 48 = .ok (.istore_n 2, 1) := by decide +kernel
theorem dX3_apartBesidesMarks_49 : decode cX3_apartBesidesMarks 49 = .ok (.iinc 3 1, 3) := by decide +kernel
theorem dX3_apartBesidesMarks_52 : decode cX3_apartBesidesMarks 52 = .ok (.goto (-48), 3) := by decide +kernel
theorem dX3_apartBesidesMarks_55 : decode cX3_apartBesidesMarks 55 = .ok (.iload_n 2, 1) := by decide +kernel
theorem dX3_apartBesidesMarks_56 : decode cX3_apartBesidesMarks 56 = .ok (.ireturn, 1) := by decide +kernel
theorem dX3_becomesRight_0 : decode cX3_becomesRight 0 = .ok (.aload_n 0, 1) := by decide +kernel
theorem dX3_becomesRight_1 : decode cX3_becomesRight 1 = .ok (.getfield 41, 3) := by decide +kernel
theorem dX3_becomesRight_4 : decode cX3_becomesRight 4 = .ok (.aload_n 0, 1) := by decide +kernel
theorem dX3_becomesRight_5 : decode cX3_becomesRight 5 = .ok (.getfield 12, 3) := by decide +kernel
theorem dX3_becomesRight_8 : decode cX3_becomesRight 8 = .ok (.invokevirtual 91, 3) := by decide +kernel
theorem dX3_becomesRight_11 : decode cX3_becomesRight 11 = .ok (.ifCond .eq 5, 3) := by decide +kernel
theorem dX3_becomesRight_14 : decode cX3_becomesRight 14 = .ok (.iconst 1, 1) := by decide +kernel
theorem dX3_becomesRight_15 : decode cX3_becomesRight 15 = .ok (.ireturn, 1) := by decide +kernel
theorem dX3_becomesRight_16 : decode cX3_becomesRight 16 = .ok (.aload_n 0, 1) := by decide +kernel
theorem dX3_becomesRight_17 : decode cX3_becomesRight 17 = .ok (.invokevirtual 95, 3) := by decide +kernel
theorem dX3_becomesRight_20 : decode cX3_becomesRight 20 = .ok (.aload_n 0, 1) := by decide +kernel
theorem dX3_becomesRight_21 : decode cX3_becomesRight 21 = .ok (.invokevirtual 98, 3) := by decide +kernel
theorem dX3_becomesRight_24 : decode cX3_becomesRight 24 = .ok (.istore_n 1, 1) := by decide +kernel
theorem dX3_becomesRight_25 : decode cX3_becomesRight 25 = .ok (.iload_n 1, 1) := by decide +kernel
theorem dX3_becomesRight_26 : decode cX3_becomesRight 26 = .ok (.aload_n 0, 1) := by decide +kernel
theorem dX3_becomesRight_27 : decode cX3_becomesRight 27 = .ok (.getfield 41, 3) := by decide +kernel
theorem dX3_becomesRight_30 : decode cX3_becomesRight 30 = .ok (.getfield 54, 3) := by decide +kernel
theorem dX3_becomesRight_33 : decode cX3_becomesRight 33 = .ok (.if_icmp .gt 11, 3) := by decide +kernel
theorem dX3_becomesRight_36 : decode cX3_becomesRight 36 = .ok (.aload_n 0, 1) := by decide +kernel
theorem dX3_becomesRight_37 : decode cX3_becomesRight 37 = .ok (.iload_n 1, 1) := by decide +kernel
theorem dX3_becomesRight_38 : decode cX3_becomesRight 38 = .ok (.invokevirtual 101, 3) := by decide +kernel
theorem dX3_becomesRight_41 : decode cX3_becomesRight 41 = .ok (.ifCond .ne 5, 3) := by decide +kernel
theorem dX3_becomesRight_44 : decode cX3_becomesRight 44 = .ok (.iconst 0, 1) := by decide +kernel
theorem dX3_becomesRight_45 : decode cX3_becomesRight 45 = .ok (.ireturn, 1) := by decide +kernel
theorem dX3_becomesRight_46 : decode cX3_becomesRight 46 = .ok (.iconst 0, 1) := by decide +kernel
theorem dX3_becomesRight_47 : decode cX3_becomesRight 47 = .ok (.istore_n 2, 1) := by decide +kernel
theorem dX3_becomesRight_48 : decode cX3_becomesRight 48 = .ok (.iload_n 2, 1) := by decide +kernel
theorem dX3_becomesRight_49 : decode cX3_becomesRight 49 = .ok (.iload_n 1, 1) := by decide +kernel
theorem dX3_becomesRight_50 : decode cX3_becomesRight 50 = .ok (.if_icmp .ge 37, 3) := by decide +kernel
theorem dX3_becomesRight_53 : decode cX3_becomesRight 53 = .ok (.aload_n 0, 1) := by decide +kernel
theorem dX3_becomesRight_54 : decode cX3_becomesRight 54 = .ok (.getfield 12, 3) := by decide +kernel
theorem dX3_becomesRight_57 : decode cX3_becomesRight 57 = .ok (.aload_n 0, 1) := by decide +kernel
theorem dX3_becomesRight_58 : decode cX3_becomesRight 58 = .ok (.getfield 34, 3) := by decide +kernel
theorem dX3_becomesRight_61 : decode cX3_becomesRight 61 = .ok (.iload_n 2, 1) := by decide +kernel
theorem dX3_becomesRight_62 : decode cX3_becomesRight 62 = .ok (.iaload, 1) := by decide +kernel
theorem dX3_becomesRight_63 : decode cX3_becomesRight 63 = .ok (.iconst 1, 1) := by decide +kernel
theorem dX3_becomesRight_64 : decode cX3_becomesRight 64 = .ok (.aload_n 0, 1) := by decide +kernel
theorem dX3_becomesRight_65 : decode cX3_becomesRight 65 = .ok (.getfield 12, 3) := by decide +kernel
theorem dX3_becomesRight_68 : decode cX3_becomesRight 68 = .ok (.aload_n 0, 1) := by decide +kernel
theorem dX3_becomesRight_69 : decode cX3_becomesRight 69 = .ok (.getfield 34, 3) := by decide +kernel
theorem dX3_becomesRight_72 : decode cX3_becomesRight 72 = .ok (.iload_n 2, 1) := by decide +kernel
theorem dX3_becomesRight_73 : decode cX3_becomesRight 73 = .ok (.iaload, 1) := by decide +kernel
theorem dX3_becomesRight_74 : decode cX3_becomesRight 74 = .ok (.invokevirtual 105, 3) := by decide +kernel
theorem dX3_becomesRight_77 : decode cX3_becomesRight 77 = .ok (.isub, 1) := by decide +kernel
theorem dX3_becomesRight_78 : decode cX3_becomesRight 78 = .ok (.invokevirtual 109, 3) := by decide +kernel
theorem dX3_becomesRight_81 : decode cX3_becomesRight 81 = .ok (.iinc 2 1, 3) := by decide +kernel
theorem dX3_becomesRight_84 : decode cX3_becomesRight 84 = .ok (.goto (-36), 3) := by decide +kernel
theorem dX3_becomesRight_87 : decode cX3_becomesRight 87 = .ok (.iconst 1, 1) := by decide +kernel
theorem dX3_becomesRight_88 : decode cX3_becomesRight 88 = .ok (.ireturn, 1) := by decide +kernel
theorem dX3_takeSyndromes_0 : decode cX3_takeSyndromes 0 = .ok (.iconst 1, 1) := by decide +kernel
theorem dX3_takeSyndromes_1 : decode cX3_takeSyndromes 1 = .ok (.istore_n 1, 1) := by decide +kernel
theorem dX3_takeSyndromes_2 : decode cX3_takeSyndromes 2 = .ok (.iload_n 1, 1) := by decide +kernel
theorem dX3_takeSyndromes_3 : decode cX3_takeSyndromes 3 = .ok (.iconst 2, 1) := by decide +kernel
theorem dX3_takeSyndromes_4 : decode cX3_takeSyndromes 4 = .ok (.aload_n 0, 1) := by decide +kernel
theorem dX3_takeSyndromes_5 : decode cX3_takeSyndromes 5 = .ok (.getfield 41, 3) := by decide +kernel
theorem dX3_takeSyndromes_8 : decode cX3_takeSyndromes 8 = .ok (.getfield 54, 3) := by decide +kernel
theorem dX3_takeSyndromes_11 : decode cX3_takeSyndromes 11 = .ok (.imul, 1) := by decide +kernel
theorem dX3_takeSyndromes_12 : decode cX3_takeSyndromes 12 = .ok (.if_icmp .gt 51, 3) := by decide +kernel
theorem dX3_takeSyndromes_15 : decode cX3_takeSyndromes 15 = .ok (.aload_n 0, 1) := by decide +kernel
theorem dX3_takeSyndromes_16 : decode cX3_takeSyndromes 16 = .ok (.getfield 18, 3) := by decide +kernel
theorem dX3_takeSyndromes_19 : decode cX3_takeSyndromes 19 = .ok (.iload_n 1, 1) := by decide +kernel
theorem dX3_takeSyndromes_20 : decode cX3_takeSyndromes 20 = .ok (.iconst 1, 1) := by decide +kernel
theorem dX3_takeSyndromes_21 : decode cX3_takeSyndromes 21 = .ok (.ishr, 1) := by decide +kernel
theorem dX3_takeSyndromes_22 : decode cX3_takeSyndromes 22 = .ok (.iaload, 1) := by decide +kernel
theorem dX3_takeSyndromes_23 : decode cX3_takeSyndromes 23 = .ok (.istore_n 2, 1) := by decide +kernel
theorem dX3_takeSyndromes_24 : decode cX3_takeSyndromes 24 = .ok (.aload_n 0, 1) := by decide +kernel
theorem dX3_takeSyndromes_25 : decode cX3_takeSyndromes 25 = .ok (.getfield 18, 3) := by decide +kernel
theorem dX3_takeSyndromes_28 : decode cX3_takeSyndromes 28 = .ok (.iload_n 1, 1) := by decide +kernel
theorem dX3_takeSyndromes_29 : decode cX3_takeSyndromes 29 = .ok (.iload_n 1, 1) := by decide +kernel
theorem dX3_takeSyndromes_30 : decode cX3_takeSyndromes 30 = .ok (.iconst 1, 1) := by decide +kernel
theorem dX3_takeSyndromes_31 : decode cX3_takeSyndromes 31 = .ok (.iand, 1) := by decide +kernel
theorem dX3_takeSyndromes_32 : decode cX3_takeSyndromes 32 = .ok (.iconst 1, 1) := by decide +kernel
theorem dX3_takeSyndromes_33 : decode cX3_takeSyndromes 33 = .ok (.if_icmp .ne 14, 3) := by decide +kernel
theorem dX3_takeSyndromes_36 : decode cX3_takeSyndromes 36 = .ok (.aload_n 0, 1) := by decide +kernel
theorem dX3_takeSyndromes_37 : decode cX3_takeSyndromes 37 = .ok (.getfield 41, 3) := by decide +kernel
theorem dX3_takeSyndromes_40 : decode cX3_takeSyndromes 40 = .ok (.iload_n 1, 1) := by decide +kernel
theorem dX3_takeSyndromes_41 : decode cX3_takeSyndromes 41 = .ok (.invokevirtual 113, 3) := by decide +kernel
theorem dX3_takeSyndromes_44 : decode cX3_takeSyndromes 44 = .ok (.goto 12, 3) := by decide +kernel
theorem dX3_takeSyndromes_47 : decode cX3_takeSyndromes 47 = .ok (.aload_n 0, 1) := by decide +kernel
theorem dX3_takeSyndromes_48 : decode cX3_takeSyndromes 48 = .ok (.getfield 37, 3) := by decide +kernel
theorem dX3_takeSyndromes_51 : decode cX3_takeSyndromes 51 = .ok (.iload_n 2, 1) := by decide +kernel
theorem dX3_takeSyndromes_52 : decode cX3_takeSyndromes 52 = .ok (.iload_n 2, 1) := by decide +kernel
theorem dX3_takeSyndromes_53 : decode cX3_takeSyndromes 53 = .ok (.invokevirtual 116, 3) := by decide +kernel
theorem dX3_takeSyndromes_56 : decode cX3_takeSyndromes 56 = .ok (.iastore, 1) := by decide +kernel
theorem dX3_takeSyndromes_57 : decode cX3_takeSyndromes 57 = .ok (.iinc 1 1, 3) := by decide +kernel
theorem dX3_takeSyndromes_60 : decode cX3_takeSyndromes 60 = .ok (.goto (-58), 3) := by decide +kernel
theorem dX3_takeSyndromes_63 : decode cX3_takeSyndromes 63 = .ok (.return_, 1) := by decide +kernel
theorem dX3_locate_0 : decode cX3_locate 0 = .ok (.aload_n 0, 1) := by decide +kernel
theorem dX3_locate_1 : decode cX3_locate 1 = .ok (.getfield 22, 3) := by decide +kernel
theorem dX3_locate_4 : decode cX3_locate 4 = .ok (.iconst 0, 1) := by decide +kernel
theorem dX3_locate_5 : decode cX3_locate 5 = .ok (.invokestatic 122, 3) := by decide +kernel
theorem dX3_locate_8 : decode cX3_locate 8 = .ok (.aload_n 0, 1) := by decide +kernel
theorem dX3_locate_9 : decode cX3_locate 9 = .ok (.getfield 25, 3) := by decide +kernel
theorem dX3_locate_12 : decode cX3_locate 12 = .ok (.iconst 0, 1) := by decide +kernel
theorem dX3_locate_13 : decode cX3_locate 13 = .ok (.invokestatic 122, 3) := by decide +kernel
theorem dX3_locate_16 : decode cX3_locate 16 = .ok (.aload_n 0, 1) := by decide +kernel
theorem dX3_locate_17 : decode cX3_locate 17 = .ok (.getfield 22, 3) := by decide +kernel
theorem dX3_locate_20 : decode cX3_locate 20 = .ok (.iconst 0, 1) := by decide +kernel
theorem dX3_locate_21 : decode cX3_locate 21 = .ok (.iconst 1, 1) := by decide +kernel
theorem dX3_locate_22 : decode cX3_locate 22 = .ok (.iastore, 1) := by decide +kernel
theorem dX3_locate_23 : decode cX3_locate 23 = .ok (.aload_n 0, 1) := by decide +kernel
theorem dX3_locate_24 : decode cX3_locate 24 = .ok (.getfield 25, 3) := by decide +kernel
theorem dX3_locate_27 : decode cX3_locate 27 = .ok (.iconst 0, 1) := by decide +kernel
theorem dX3_locate_28 : decode cX3_locate 28 = .ok (.iconst 1, 1) := by decide +kernel
theorem dX3_locate_29 : decode cX3_locate 29 = .ok (.iastore, 1) := by decide +kernel
theorem dX3_locate_30 : decode cX3_locate 30 = .ok (.iconst 0, 1) := by decide +kernel
theorem dX3_locate_31 : decode cX3_locate 31 = .ok (.istore_n 1, 1) := by decide +kernel
theorem dX3_locate_32 : decode cX3_locate 32 = .ok (.iconst 1, 1) := by decide +kernel
theorem dX3_locate_33 : decode cX3_locate 33 = .ok (.istore_n 2, 1) := by decide +kernel
theorem dX3_locate_34 : decode cX3_locate 34 = .ok (.iconst 1, 1) := by decide +kernel
theorem dX3_locate_35 : decode cX3_locate 35 = .ok (.istore_n 3, 1) := by decide +kernel
theorem dX3_locate_36 : decode cX3_locate 36 = .ok (.iconst 0, 1) := by decide +kernel
theorem dX3_locate_37 : decode cX3_locate 37 = .ok (.istore 4, 2) := by decide +kernel
theorem dX3_locate_39 : decode cX3_locate 39 = .ok (.iload 4, 2) := by decide +kernel
theorem dX3_locate_41 : decode cX3_locate 41 = .ok (.iconst 2, 1) := by decide +kernel
theorem dX3_locate_42 : decode cX3_locate 42 = .ok (.aload_n 0, 1) := by decide +kernel
theorem dX3_locate_43 : decode cX3_locate 43 = .ok (.getfield 41, 3) := by decide +kernel
theorem dX3_locate_46 : decode cX3_locate 46 = .ok (.getfield 54, 3) := by decide +kernel
theorem dX3_locate_49 : decode cX3_locate 49 = .ok (.imul, 1) := by decide +kernel
theorem dX3_locate_50 : decode cX3_locate 50 = .ok (.if_icmp .ge 119, 3) := by decide +kernel
theorem dX3_locate_53 : decode cX3_locate 53 = .ok (.aload_n 0, 1) := by decide +kernel
theorem dX3_locate_54 : decode cX3_locate 54 = .ok (.iload 4, 2) := by decide +kernel
theorem dX3_locate_56 : decode cX3_locate 56 = .ok (.iconst 1, 1) := by decide +kernel
theorem dX3_locate_57 : decode cX3_locate 57 = .ok (.iadd, 1) := by decide +kernel
theorem dX3_locate_58 : decode cX3_locate 58 = .ok (.iload_n 1, 1) := by decide +kernel
theorem dX3_locate_59 : decode cX3_locate 59 = .ok (.invokevirtual 128, 3) := by decide +kernel
theorem dX3_locate_62 : decode cX3_locate 62 = .ok (.istore 5, 2) := by decide +kernel
theorem dX3_locate_64 : decode cX3_locate 64 = .ok (.iload 5, 2) := by decide +kernel
theorem dX3_locate_66 : decode cX3_locate 66 = .ok (.ifCond .ne 9, 3) := by decide +kernel
theorem dX3_locate_69 : decode cX3_locate 69 = .ok (.iinc 2 1, 3) := by decide +kernel
theorem dX3_locate_72 : decode cX3_locate 72 = .ok (.goto 91, 3) := by decide +kernel
theorem dX3_locate_75 : decode cX3_locate 75 = .ok (.aload_n 0, 1) := by decide +kernel
theorem dX3_locate_76 : decode cX3_locate 76 = .ok (.getfield 37, 3) := by decide +kernel
theorem dX3_locate_79 : decode cX3_locate 79 = .ok (.iload 5, 2) := by decide +kernel
theorem dX3_locate_81 : decode cX3_locate 81 = .ok (.aload_n 0, 1) := by decide +kernel
theorem dX3_locate_82 : decode cX3_locate 82 = .ok (.getfield 37, 3) := by decide +kernel
theorem dX3_locate_85 : decode cX3_locate 85 = .ok (.iload_n 3, 1) := by decide +kernel
theorem dX3_locate_86 : decode cX3_locate 86 = .ok (.invokevirtual 131, 3) := by decide +kernel
theorem dX3_locate_89 : decode cX3_locate 89 = .ok (.invokevirtual 116, 3) := by decide +kernel
theorem dX3_locate_92 : decode cX3_locate 92 = .ok (.istore 6, 2) := by decide +kernel
theorem dX3_locate_94 : decode cX3_locate 94 = .ok (.aload_n 0, 1) := by decide +kernel
theorem dX3_locate_95 : decode cX3_locate 95 = .ok (.getfield 22, 3) := by decide +kernel
theorem dX3_locate_98 : decode cX3_locate 98 = .ok (.iconst 0, 1) := by decide +kernel
theorem dX3_locate_99 : decode cX3_locate 99 = .ok (.aload_n 0, 1) := by decide +kernel
theorem dX3_locate_100 : decode cX3_locate 100 = .ok (.getfield 28, 3) := by decide +kernel
theorem dX3_locate_103 : decode cX3_locate 103 = .ok (.iconst 0, 1) := by decide +kernel
theorem dX3_locate_104 : decode cX3_locate 104 = .ok (.aload_n 0, 1) := by decide +kernel
theorem dX3_locate_105 : decode cX3_locate 105 = .ok (.getfield 28, 3) := by decide +kernel
theorem dX3_locate_108 : decode cX3_locate 108 = .ok (.arraylength, 1) := by decide +kernel
theorem dX3_locate_109 : decode cX3_locate 109 = .ok (.invokestatic 134, 3) := by decide +kernel
theorem dX3_locate_112 : decode cX3_locate 112 = .ok (.aload_n 0, 1) := by decide +kernel
theorem dX3_locate_113 : decode cX3_locate 113 = .ok (.iload 6, 2) := by decide +kernel
theorem dX3_locate_115 : decode cX3_locate 115 = .ok (.iload_n 2, 1) := by decide +kernel
theorem dX3_locate_116 : decode cX3_locate 116 = .ok (.invokevirtual 140, 3) := by decide +kernel
theorem dX3_locate_119 : decode cX3_locate 119 = .ok (.iconst 2, 1) := by decide +kernel
theorem dX3_locate_120 : decode cX3_locate 120 = .ok (.iload_n 1, 1) := by decide +kernel
theorem dX3_locate_121 : decode cX3_locate 121 = .ok (.imul, 1) := by decide +kernel
theorem dX3_locate_122 : decode cX3_locate 122 = .ok (.iload 4, 2) := by decide +kernel
theorem dX3_locate_124 : decode cX3_locate 124 = .ok (.if_icmp .gt 36, 3) := by decide +kernel
theorem dX3_locate_127 : decode cX3_locate 127 = .ok (.iload 4, 2) := by decide +kernel
theorem dX3_locate_129 : decode cX3_locate 129 = .ok (.iconst 1, 1) := by decide +kernel
theorem dX3_locate_130 : decode cX3_locate 130 = .ok (.iadd, 1) := by decide +kernel
theorem dX3_locate_131 : decode cX3_locate 131 = .ok (.iload_n 1, 1) := by decide +kernel
theorem dX3_locate_132 : decode cX3_locate 132 = .ok (.isub, 1) := by decide +kernel
theorem dX3_locate_133 : decode cX3_locate 133 = .ok (.istore_n 1, 1) := by decide +kernel
theorem dX3_locate_134 : decode cX3_locate 134 = .ok (.aload_n 0, 1) := by decide +kernel
theorem dX3_locate_135 : decode cX3_locate 135 = .ok (.getfield 28, 3) := by decide +kernel
theorem dX3_locate_138 : decode cX3_locate 138 = .ok (.iconst 0, 1) := by decide +kernel
theorem dX3_locate_139 : decode cX3_locate 139 = .ok (.aload_n 0, 1) := by decide +kernel
theorem dX3_locate_140 : decode cX3_locate 140 = .ok (.getfield 25, 3) := by decide +kernel
theorem dX3_locate_143 : decode cX3_locate 143 = .ok (.iconst 0, 1) := by decide +kernel
theorem dX3_locate_144 : decode cX3_locate 144 = .ok (.aload_n 0, 1) := by decide +kernel
theorem dX3_locate_145 : decode cX3_locate 145 = .ok (.getfield 28, 3) := by decide +kernel
theorem dX3_locate_148 : decode cX3_locate 148 = .ok (.arraylength, 1) := by decide +kernel
theorem dX3_locate_149 : decode cX3_locate 149 = .ok (.invokestatic 134, 3) := by decide +kernel
theorem dX3_locate_152 : decode cX3_locate 152 = .ok (.iload 5, 2) := by decide +kernel
theorem dX3_locate_154 : decode cX3_locate 154 = .ok (.istore_n 3, 1) := by decide +kernel
theorem dX3_locate_155 : decode cX3_locate 155 = .ok (.iconst 1, 1) := by decide +kernel
theorem dX3_locate_156 : decode cX3_locate 156 = .ok (.istore_n 2, 1) := by decide +kernel
theorem dX3_locate_157 : decode cX3_locate 157 = .ok (.goto 6, 3) := by decide +kernel
theorem dX3_locate_160 : decode cX3_locate 160 = .ok (.iinc 2 1, 3) := by decide +kernel
theorem dX3_locate_163 : decode cX3_locate 163 = .ok (.iinc 4 1, 3) := by decide +kernel
theorem dX3_locate_166 : decode cX3_locate 166 = .ok (.goto (-127), 3) := by decide +kernel
theorem dX3_locate_169 : decode cX3_locate 169 = .ok (.iload_n 1, 1) := by decide +kernel
theorem dX3_locate_170 : decode cX3_locate 170 = .ok (.ireturn, 1) := by decide +kernel
theorem dX3_missAt_0 : decode cX3_missAt 0 = .ok (.aload_n 0, 1) := by decide +kernel
theorem dX3_missAt_1 : decode cX3_missAt 1 = .ok (.getfield 18, 3) := by decide +kernel
theorem dX3_missAt_4 : decode cX3_missAt 4 = .ok (.iload_n 1, 1) := by decide +kernel
theorem dX3_missAt_5 : decode cX3_missAt 5 = .ok (.iaload, 1) := by decide +kernel
theorem dX3_missAt_6 : decode cX3_missAt 6 = .ok (.istore_n 3, 1) := by decide +kernel
theorem dX3_missAt_7 : decode cX3_missAt 7 = .ok (.iconst 1, 1) := by decide +kernel
theorem dX3_missAt_8 : decode cX3_missAt 8 = .ok (.istore 4, 2) := by decide +kernel
theorem dX3_missAt_10 : decode cX3_missAt 10 = .ok (.iload 4, 2) := by decide +kernel
theorem dX3_missAt_12 : decode cX3_missAt 12 = .ok (.iload_n 2, 1) := by decide +kernel
theorem dX3_missAt_13 : decode cX3_missAt 13 = .ok (.if_icmp .gt 41, 3) := by decide +kernel
theorem dX3_missAt_16 : decode cX3_missAt 16 = .ok (.iload 4, 2) := by decide +kernel
theorem dX3_missAt_18 : decode cX3_missAt 18 = .ok (.iload_n 1, 1) := by decide +kernel
theorem dX3_missAt_19 : decode cX3_missAt 19 = .ok (.if_icmp .ge 35, 3) := by decide +kernel
theorem dX3_missAt_22 : decode cX3_missAt 22 = .ok (.iload_n 3, 1) := by decide +kernel
theorem dX3_missAt_23 : decode cX3_missAt 23 = .ok (.aload_n 0, 1) := by decide +kernel
theorem dX3_missAt_24 : decode cX3_missAt 24 = .ok (.getfield 37, 3) := by decide +kernel
theorem dX3_missAt_27 : decode cX3_missAt 27 = .ok (.aload_n 0, 1) := by decide +kernel
theorem dX3_missAt_28 : decode cX3_missAt 28 = .ok (.getfield 22, 3) := by decide +kernel
theorem dX3_missAt_31 : decode cX3_missAt 31 = .ok (.iload 4, 2) := by decide +kernel
theorem dX3_missAt_33 : decode cX3_missAt 33 = .ok (.iaload, 1) := by decide +kernel
theorem dX3_missAt_34 : decode cX3_missAt 34 = .ok (.aload_n 0, 1) := by decide +kernel
theorem dX3_missAt_35 : decode cX3_missAt 35 = .ok (.getfield 18, 3) := by decide +kernel
theorem dX3_missAt_38 : decode cX3_missAt 38 = .ok (.iload_n 1, 1) := by decide +kernel
theorem dX3_missAt_39 : decode cX3_missAt 39 = .ok (.iload 4, 2) := by decide +kernel
theorem dX3_missAt_41 : decode cX3_missAt 41 = .ok (.isub, 1) := by decide +kernel
theorem dX3_missAt_42 : decode cX3_missAt 42 = .ok (.iaload, 1) := by decide +kernel
theorem dX3_missAt_43 : decode cX3_missAt 43 = .ok (.invokevirtual 116, 3) := by decide +kernel
theorem dX3_missAt_46 : decode cX3_missAt 46 = .ok (.ixor, 1) := by decide +kernel
theorem dX3_missAt_47 : decode cX3_missAt 47 = .ok (.istore_n 3, 1) := by decide +kernel
theorem dX3_missAt_48 : decode cX3_missAt 48 = .ok (.iinc 4 1, 3) := by decide +kernel
theorem dX3_missAt_51 : decode cX3_missAt 51 = .ok (.goto (-41), 3) := by decide +kernel
theorem dX3_missAt_54 : decode cX3_missAt 54 = .ok (.iload_n 3, 1) := by decide +kernel
theorem dX3_missAt_55 : decode cX3_missAt 55 = .ok (.ireturn, 1) := by decide +kernel
theorem dX3_addEarlier_0 : decode cX3_addEarlier 0 = .ok (.iload_n 2, 1) := by decide +kernel
theorem dX3_addEarlier_1 : decode cX3_addEarlier 1 = .ok (.istore_n 3, 1) := by decide +kernel
theorem dX3_addEarlier_2 : decode cX3_addEarlier 2 = .ok (.iload_n 3, 1) := by decide +kernel
theorem dX3_addEarlier_3 : decode cX3_addEarlier 3 = .ok (.aload_n 0, 1) := by decide +kernel
theorem dX3_addEarlier_4 : decode cX3_addEarlier 4 = .ok (.getfield 22, 3) := by decide +kernel
theorem dX3_addEarlier_7 : decode cX3_addEarlier 7 = .ok (.arraylength, 1) := by decide +kernel
theorem dX3_addEarlier_8 : decode cX3_addEarlier 8 = .ok (.if_icmp .ge 34, 3) := by decide +kernel
theorem dX3_addEarlier_11 : decode cX3_addEarlier 11 = .ok (.aload_n 0, 1) := by decide +kernel
theorem dX3_addEarlier_12 : decode cX3_addEarlier 12 = .ok (.getfield 22, 3) := by decide +kernel
theorem dX3_addEarlier_15 : decode cX3_addEarlier 15 = .ok (.iload_n 3, 1) := by decide +kernel
theorem dX3_addEarlier_16 : decode cX3_addEarlier 16 = .ok (.dup2, 1) := by decide +kernel
theorem dX3_addEarlier_17 : decode cX3_addEarlier 17 = .ok (.iaload, 1) := by decide +kernel
theorem dX3_addEarlier_18 : decode cX3_addEarlier 18 = .ok (.aload_n 0, 1) := by decide +kernel
theorem dX3_addEarlier_19 : decode cX3_addEarlier 19 = .ok (.getfield 37, 3) := by decide +kernel
theorem dX3_addEarlier_22 : decode cX3_addEarlier 22 = .ok (.iload_n 1, 1) := by decide +kernel
theorem dX3_addEarlier_23 : decode cX3_addEarlier 23 = .ok (.aload_n 0, 1) := by decide +kernel
theorem dX3_addEarlier_24 : decode cX3_addEarlier 24 = .ok (.getfield 25, 3) := by decide +kernel
theorem dX3_addEarlier_27 : decode cX3_addEarlier 27 = .ok (.iload_n 3, 1) := by decide +kernel
theorem dX3_addEarlier_28 : decode cX3_addEarlier 28 = .ok (.iload_n 2, 1) := by decide +kernel
theorem dX3_addEarlier_29 : decode cX3_addEarlier 29 = .ok (.isub, 1) := by decide +kernel
theorem dX3_addEarlier_30 : decode cX3_addEarlier 30 = .ok (.iaload, 1) := by decide +kernel
theorem dX3_addEarlier_31 : decode cX3_addEarlier 31 = .ok (.invokevirtual 116, 3) := by decide +kernel
theorem dX3_addEarlier_34 : decode cX3_addEarlier 34 = .ok (.ixor, 1) := by decide +kernel
theorem dX3_addEarlier_35 : decode cX3_addEarlier 35 = .ok (.iastore, 1) := by decide +kernel
theorem dX3_addEarlier_36 : decode cX3_addEarlier 36 = .ok (.iinc 3 1, 3) := by decide +kernel
theorem dX3_addEarlier_39 : decode cX3_addEarlier 39 = .ok (.goto (-37), 3) := by decide +kernel
theorem dX3_addEarlier_42 : decode cX3_addEarlier 42 = .ok (.return_, 1) := by decide +kernel
theorem dX3_findWrong_0 : decode cX3_findWrong 0 = .ok (.iconst 1, 1) := by decide +kernel
theorem dX3_findWrong_1 : decode cX3_findWrong 1 = .ok (.istore_n 2, 1) := by decide +kernel
theorem dX3_findWrong_2 : decode cX3_findWrong 2 = .ok (.iload_n 2, 1) := by decide +kernel
theorem dX3_findWrong_3 : decode cX3_findWrong 3 = .ok (.iload_n 1, 1) := by decide +kernel
theorem dX3_findWrong_4 : decode cX3_findWrong 4 = .ok (.if_icmp .gt 64, 3) := by decide +kernel
theorem dX3_findWrong_7 : decode cX3_findWrong 7 = .ok (.aload_n 0, 1) := by decide +kernel
theorem dX3_findWrong_8 : decode cX3_findWrong 8 = .ok (.getfield 31, 3) := by decide +kernel
theorem dX3_findWrong_11 : decode cX3_findWrong 11 = .ok (.iload_n 2, 1) := by decide +kernel
theorem dX3_findWrong_12 : decode cX3_findWrong 12 = .ok (.aload_n 0, 1) := by decide +kernel
theorem dX3_findWrong_13 : decode cX3_findWrong 13 = .ok (.getfield 22, 3) := by decide +kernel
theorem dX3_findWrong_16 : decode cX3_findWrong 16 = .ok (.iload_n 2, 1) := by decide +kernel
theorem dX3_findWrong_17 : decode cX3_findWrong 17 = .ok (.iaload, 1) := by decide +kernel
theorem dX3_findWrong_18 : decode cX3_findWrong 18 = .ok (.ifCond .ne 7, 3) := by decide +kernel
theorem dX3_findWrong_21 : decode cX3_findWrong 21 = .ok (.iconst (-1), 1) := by decide +kernel
theorem dX3_findWrong_22 : decode cX3_findWrong 22 = .ok (.goto 39, 3) := by decide +kernel
theorem dX3_findWrong_25 : decode cX3_findWrong 25 = .ok (.aload_n 0, 1) := by decide +kernel
theorem dX3_findWrong_26 : decode cX3_findWrong 26 = .ok (.getfield 37, 3) := by decide +kernel
theorem dX3_findWrong_29 : decode cX3_findWrong 29 = .ok (.getfield 143, 3) := by decide +kernel
theorem dX3_findWrong_32 : decode cX3_findWrong 32 = .ok (.aload_n 0, 1) := by decide +kernel
theorem dX3_findWrong_33 : decode cX3_findWrong 33 = .ok (.getfield 22, 3) := by decide +kernel
theorem dX3_findWrong_36 : decode cX3_findWrong 36 = .ok (.iload_n 2, 1) := by decide +kernel
theorem dX3_findWrong_37 : decode cX3_findWrong 37 = .ok (.iaload, 1) := by decide +kernel
theorem dX3_findWrong_38 : decode cX3_findWrong 38 = .ok (.iaload, 1) := by decide +kernel
theorem dX3_findWrong_39 : decode cX3_findWrong 39 = .ok (.iload_n 2, 1) := by decide +kernel
theorem dX3_findWrong_40 : decode cX3_findWrong 40 = .ok (.aload_n 0, 1) := by decide +kernel
theorem dX3_findWrong_41 : decode cX3_findWrong 41 = .ok (.getfield 41, 3) := by decide +kernel
theorem dX3_findWrong_44 : decode cX3_findWrong 44 = .ok (.getfield 144, 3) := by decide +kernel
theorem dX3_findWrong_47 : decode cX3_findWrong 47 = .ok (.iconst 1, 1) := by decide +kernel
theorem dX3_findWrong_48 : decode cX3_findWrong 48 = .ok (.isub, 1) := by decide +kernel
theorem dX3_findWrong_49 : decode cX3_findWrong 49 = .ok (.imul, 1) := by decide +kernel
theorem dX3_findWrong_50 : decode cX3_findWrong 50 = .ok (.isub, 1) := by decide +kernel
theorem dX3_findWrong_51 : decode cX3_findWrong 51 = .ok (.aload_n 0, 1) := by decide +kernel
theorem dX3_findWrong_52 : decode cX3_findWrong 52 = .ok (.getfield 37, 3) := by decide +kernel
theorem dX3_findWrong_55 : decode cX3_findWrong 55 = .ok (.getfield 147, 3) := by decide +kernel
theorem dX3_findWrong_58 : decode cX3_findWrong 58 = .ok (.invokestatic 150, 3) := by decide +kernel
theorem dX3_findWrong_61 : decode cX3_findWrong 61 = .ok (.iastore, 1) := by decide +kernel
theorem dX3_findWrong_62 : decode cX3_findWrong 62 = .ok (.iinc 2 1, 3) := by decide +kernel
theorem dX3_findWrong_65 : decode cX3_findWrong 65 = .ok (.goto (-63), 3) := by decide +kernel
theorem dX3_findWrong_68 : decode cX3_findWrong 68 = .ok (.iconst 0, 1) := by decide +kernel
theorem dX3_findWrong_69 : decode cX3_findWrong 69 = .ok (.istore_n 2, 1) := by decide +kernel
theorem dX3_findWrong_70 : decode cX3_findWrong 70 = .ok (.iconst 0, 1) := by decide +kernel
theorem dX3_findWrong_71 : decode cX3_findWrong 71 = .ok (.istore_n 3, 1) := by decide +kernel
theorem dX3_findWrong_72 : decode cX3_findWrong 72 = .ok (.iload_n 3, 1) := by decide +kernel
theorem dX3_findWrong_73 : decode cX3_findWrong 73 = .ok (.aload_n 0, 1) := by decide +kernel
theorem dX3_findWrong_74 : decode cX3_findWrong 74 = .ok (.getfield 41, 3) := by decide +kernel
theorem dX3_findWrong_77 : decode cX3_findWrong 77 = .ok (.getfield 144, 3) := by decide +kernel
theorem dX3_findWrong_80 : decode cX3_findWrong 80 = .ok (.if_icmp .ge 32, 3) := by decide +kernel
theorem dX3_findWrong_83 : decode cX3_findWrong 83 = .ok (.iload_n 2, 1) := by decide +kernel
theorem dX3_findWrong_84 : decode cX3_findWrong 84 = .ok (.iload_n 1, 1) := by decide +kernel
theorem dX3_findWrong_85 : decode cX3_findWrong 85 = .ok (.if_icmp .ge 27, 3) := by decide +kernel
theorem dX3_findWrong_88 : decode cX3_findWrong 88 = .ok (.aload_n 0, 1) := by decide +kernel
theorem dX3_findWrong_89 : decode cX3_findWrong 89 = .ok (.iload_n 1, 1) := by decide +kernel
theorem dX3_findWrong_90 : decode cX3_findWrong 90 = .ok (.invokevirtual 155, 3) := by decide +kernel
theorem dX3_findWrong_93 : decode cX3_findWrong 93 = .ok (.ifCond .eq 13, 3) := by decide +kernel
theorem dX3_findWrong_96 : decode cX3_findWrong 96 = .ok (.aload_n 0, 1) := by decide +kernel
theorem dX3_findWrong_97 : decode cX3_findWrong 97 = .ok (.getfield 34, 3) := by decide +kernel
theorem dX3_findWrong_100 : decode cX3_findWrong 100 = .ok (.iload_n 2, 1) := by decide +kernel
theorem dX3_findWrong_101 : decode cX3_findWrong 101 = .ok (.iload_n 3, 1) := by decide +kernel
theorem dX3_findWrong_102 : decode cX3_findWrong 102 = .ok (.iastore, 1) := by decide +kernel
theorem dX3_findWrong_103 : decode cX3_findWrong 103 = .ok (.iinc 2 1, 3) := by decide +kernel
theorem dX3_findWrong_106 : decode cX3_findWrong 106 = .ok (.iinc 3 1, 3) := by decide +kernel
theorem dX3_findWrong_109 : decode cX3_findWrong 109 = .ok (.goto (-37), 3) := by decide +kernel
theorem dX3_findWrong_112 : decode cX3_findWrong 112 = .ok (.iload_n 2, 1) := by decide +kernel
theorem dX3_findWrong_113 : decode cX3_findWrong 113 = .ok (.iload_n 1, 1) := by decide +kernel
theorem dX3_findWrong_114 : decode cX3_findWrong 114 = .ok (.if_icmp .ne 7, 3) := by decide +kernel
theorem dX3_findWrong_117 : decode cX3_findWrong 117 = .ok (.iconst 1, 1) := by decide +kernel
theorem dX3_findWrong_118 : decode cX3_findWrong 118 = .ok (.goto 4, 3) := by decide +kernel
theorem dX3_findWrong_121 : decode cX3_findWrong 121 = .ok (.iconst 0, 1) := by decide +kernel
theorem dX3_findWrong_122 : decode cX3_findWrong 122 = .ok (.ireturn, 1) := by decide +kernel
theorem dX3_locatorIsZero_0 : decode cX3_locatorIsZero 0 = .ok (.iconst 1, 1) := by decide +kernel
theorem dX3_locatorIsZero_1 : decode cX3_locatorIsZero 1 = .ok (.istore_n 2, 1) := by decide +kernel
theorem dX3_locatorIsZero_2 : decode cX3_locatorIsZero 2 = .ok (.iconst 1, 1) := by decide +kernel
theorem dX3_locatorIsZero_3 : decode cX3_locatorIsZero 3 = .ok (.istore_n 3, 1) := by decide +kernel
theorem dX3_locatorIsZero_4 : decode cX3_locatorIsZero 4 = .ok (.iload_n 3, 1) := by decide +kernel
theorem dX3_locatorIsZero_5 : decode cX3_locatorIsZero 5 = .ok (.iload_n 1, 1) := by decide +kernel
theorem dX3_locatorIsZero_6 : decode cX3_locatorIsZero 6 = .ok (.if_icmp .gt 78, 3) := by decide +kernel
theorem dX3_locatorIsZero_9 : decode cX3_locatorIsZero 9 = .ok (.aload_n 0, 1) := by decide +kernel
theorem dX3_locatorIsZero_10 : decode cX3_locatorIsZero 10 = .ok (.getfield 31, 3) := by decide +kernel
theorem dX3_locatorIsZero_13 : decode cX3_locatorIsZero 13 = .ok (.iload_n 3, 1) := by decide +kernel
theorem dX3_locatorIsZero_14 : decode cX3_locatorIsZero 14 = .ok (.iaload, 1) := by decide +kernel
theorem dX3_locatorIsZero_15 : decode cX3_locatorIsZero 15 = .ok (.iconst (-1), 1) := by decide +kernel
theorem dX3_locatorIsZero_16 : decode cX3_locatorIsZero 16 = .ok (.if_icmp .eq 62, 3) := by decide +kernel
theorem dX3_locatorIsZero_19 : decode cX3_locatorIsZero 19 = .ok (.iload_n 2, 1) := by decide +kernel
theorem dX3_locatorIsZero_20 : decode cX3_locatorIsZero 20 = .ok (.aload_n 0, 1) := by decide +kernel
theorem dX3_locatorIsZero_21 : decode cX3_locatorIsZero 21 = .ok (.getfield 37, 3) := by decide +kernel
theorem dX3_locatorIsZero_24 : decode cX3_locatorIsZero 24 = .ok (.getfield 158, 3) := by decide +kernel
theorem dX3_locatorIsZero_27 : decode cX3_locatorIsZero 27 = .ok (.aload_n 0, 1) := by decide +kernel
theorem dX3_locatorIsZero_28 : decode cX3_locatorIsZero 28 = .ok (.getfield 31, 3) := by decide +kernel
theorem dX3_locatorIsZero_31 : decode cX3_locatorIsZero 31 = .ok (.iload_n 3, 1) := by decide +kernel
theorem dX3_locatorIsZero_32 : decode cX3_locatorIsZero 32 = .ok (.iaload, 1) := by decide +kernel
theorem dX3_locatorIsZero_33 : decode cX3_locatorIsZero 33 = .ok (.iaload, 1) := by decide +kernel
theorem dX3_locatorIsZero_34 : decode cX3_locatorIsZero 34 = .ok (.ixor, 1) := by decide +kernel
theorem dX3_locatorIsZero_35 : decode cX3_locatorIsZero 35 = .ok (.istore_n 2, 1) := by decide +kernel
theorem dX3_locatorIsZero_36 : decode cX3_locatorIsZero 36 = .ok (.aload_n 0, 1) := by decide +kernel
theorem dX3_locatorIsZero_37 : decode cX3_locatorIsZero 37 = .ok (.getfield 31, 3) := by decide +kernel
theorem dX3_locatorIsZero_40 : decode cX3_locatorIsZero 40 = .ok (.iload_n 3, 1) := by decide +kernel
theorem dX3_locatorIsZero_41 : decode cX3_locatorIsZero 41 = .ok (.dup2, 1) := by decide +kernel
theorem dX3_locatorIsZero_42 : decode cX3_locatorIsZero 42 = .ok (.iaload, 1) := by decide +kernel
theorem dX3_locatorIsZero_43 : decode cX3_locatorIsZero 43 = .ok (.iload_n 3, 1) := by decide +kernel
theorem dX3_locatorIsZero_44 : decode cX3_locatorIsZero 44 = .ok (.iadd, 1) := by decide +kernel
theorem dX3_locatorIsZero_45 : decode cX3_locatorIsZero 45 = .ok (.iastore, 1) := by decide +kernel
theorem dX3_locatorIsZero_46 : decode cX3_locatorIsZero 46 = .ok (.aload_n 0, 1) := by decide +kernel
theorem dX3_locatorIsZero_47 : decode cX3_locatorIsZero 47 = .ok (.getfield 31, 3) := by decide +kernel
theorem dX3_locatorIsZero_50 : decode cX3_locatorIsZero 50 = .ok (.iload_n 3, 1) := by decide +kernel
theorem dX3_locatorIsZero_51 : decode cX3_locatorIsZero 51 = .ok (.iaload, 1) := by decide +kernel
theorem dX3_locatorIsZero_52 : decode cX3_locatorIsZero 52 = .ok (.aload_n 0, 1) := by decide +kernel
theorem dX3_locatorIsZero_53 : decode cX3_locatorIsZero 53 = .ok (.getfield 37, 3) := by decide +kernel
theorem dX3_locatorIsZero_56 : decode cX3_locatorIsZero 56 = .ok (.getfield 147, 3) := by decide +kernel
theorem dX3_locatorIsZero_59 : decode cX3_locatorIsZero 59 = .ok (.if_icmp .lt 19, 3) := by decide +kernel
theorem dX3_locatorIsZero_62 : decode cX3_locatorIsZero 62 = .ok (.aload_n 0, 1) := by decide +kernel
theorem dX3_locatorIsZero_63 : decode cX3_locatorIsZero 63 = .ok (.getfield 31, 3) := by decide +kernel
theorem dX3_locatorIsZero_66 : decode cX3_locatorIsZero 66 = .ok (.iload_n 3, 1) := by decide +kernel
theorem dX3_locatorIsZero_67 : decode cX3_locatorIsZero 67 = .ok (.dup2, 1) := by decide +kernel
theorem dX3_locatorIsZero_68 : decode cX3_locatorIsZero 68 = .ok (.iaload, 1) := by decide +kernel
theorem dX3_locatorIsZero_69 : decode cX3_locatorIsZero 69 = .ok (.aload_n 0, 1) := by decide +kernel
theorem dX3_locatorIsZero_70 : decode cX3_locatorIsZero 70 = .ok (.getfield 37, 3) := by decide +kernel
theorem dX3_locatorIsZero_73 : decode cX3_locatorIsZero 73 = .ok (.getfield 147, 3) := by decide +kernel
theorem dX3_locatorIsZero_76 : decode cX3_locatorIsZero 76 = .ok (.isub, 1) := by decide +kernel
theorem dX3_locatorIsZero_77 : decode cX3_locatorIsZero 77 = .ok (.iastore, 1) := by decide +kernel
theorem dX3_locatorIsZero_78 : decode cX3_locatorIsZero 78 = .ok (.iinc 3 1, 3) := by decide +kernel
theorem dX3_locatorIsZero_81 : decode cX3_locatorIsZero 81 = .ok (.goto (-77), 3) := by decide +kernel
theorem dX3_locatorIsZero_84 : decode cX3_locatorIsZero 84 = .ok (.iload_n 2, 1) := by decide +kernel
theorem dX3_locatorIsZero_85 : decode cX3_locatorIsZero 85 = .ok (.ifCond .ne 7, 3) := by decide +kernel
theorem dX3_locatorIsZero_88 : decode cX3_locatorIsZero 88 = .ok (.iconst 1, 1) := by decide +kernel
theorem dX3_locatorIsZero_89 : decode cX3_locatorIsZero 89 = .ok (.goto 4, 3) := by decide +kernel
theorem dX3_locatorIsZero_92 : decode cX3_locatorIsZero 92 = .ok (.iconst 0, 1) := by decide +kernel
theorem dX3_locatorIsZero_93 : decode cX3_locatorIsZero 93 = .ok (.ireturn, 1) := by decide +kernel
theorem dX6_init_0 : decode cX6_init 0 = .ok (.aload_n 0, 1) := by decide +kernel
theorem dX6_init_1 : decode cX6_init 1 = .ok (.invokespecial 3, 3) := by decide +kernel
theorem dX6_init_4 : decode cX6_init 4 = .ok (.aload_n 0, 1) := by decide +kernel
theorem dX6_init_5 : decode cX6_init 5 = .ok (.new 9, 3) := by decide +kernel
theorem dX6_init_8 : decode cX6_init 8 = .ok (.dup, 1) := by decide +kernel
theorem dX6_init_9 : decode cX6_init 9 = .ok (.invokespecial 11, 3) := by decide +kernel
theorem dX6_init_12 : decode cX6_init 12 = .ok (.putfield 12, 3) := by decide +kernel
theorem dX6_init_15 : decode cX6_init 15 = .ok (.aload_n 0, 1) := by decide +kernel
theorem dX6_init_16 : decode cX6_init 16 = .ok (.new 16, 3) := by decide +kernel
theorem dX6_init_19 : decode cX6_init 19 = .ok (.dup, 1) := by decide +kernel
theorem dX6_init_20 : decode cX6_init 20 = .ok (.aload_n 0, 1) := by decide +kernel
theorem dX6_init_21 : decode cX6_init 21 = .ok (.getfield 12, 3) := by decide +kernel
theorem dX6_init_24 : decode cX6_init 24 = .ok (.invokespecial 18, 3) := by decide +kernel
theorem dX6_init_27 : decode cX6_init 27 = .ok (.putfield 21, 3) := by decide +kernel
theorem dX6_init_30 : decode cX6_init 30 = .ok (.aload_n 0, 1) := by decide +kernel
theorem dX6_init_31 : decode cX6_init 31 = .ok (.new 25, 3) := by decide +kernel
theorem dX6_init_34 : decode cX6_init 34 = .ok (.dup, 1) := by decide +kernel
theorem dX6_init_35 : decode cX6_init 35 = .ok (.aload_n 0, 1) := by decide +kernel
theorem dX6_init_36 : decode cX6_init 36 = .ok (.getfield 12, 3) := by decide +kernel
theorem dX6_init_39 : decode cX6_init 39 = .ok (.aload_n 0, 1) := by decide +kernel
theorem dX6_init_40 : decode cX6_init 40 = .ok (.getfield 21, 3) := by decide +kernel
theorem dX6_init_43 : decode cX6_init 43 = .ok (.invokespecial 27, 3) := by decide +kernel
theorem dX6_init_46 : decode cX6_init 46 = .ok (.putfield 30, 3) := by decide +kernel
theorem dX6_init_49 : decode cX6_init 49 = .ok (.aload_n 0, 1) := by decide +kernel
theorem dX6_init_50 : decode cX6_init 50 = .ok (.bipush 16, 2) := by decide +kernel
theorem dX6_init_52 : decode cX6_init 52 = .ok (.anewarray 34, 3) := by decide +kernel
theorem dX6_init_55 : decode cX6_init 55 = .ok (.putfield 36, 3) := by decide +kernel
theorem dX6_init_58 : decode cX6_init 58 = .ok (.iconst 0, 1) := by decide +kernel
theorem dX6_init_59 : decode cX6_init 59 = .ok (.istore_n 1, 1) := by decide +kernel
theorem dX6_init_60 : decode cX6_init 60 = .ok (.iload_n 1, 1) := by decide +kernel
theorem dX6_init_61 : decode cX6_init 61 = .ok (.bipush 16, 2) := by decide +kernel
theorem dX6_init_63 : decode cX6_init 63 = .ok (.if_icmp .ge 22, 3) := by decide +kernel
theorem dX6_init_66 : decode cX6_init 66 = .ok (.aload_n 0, 1) := by decide +kernel
theorem dX6_init_67 : decode cX6_init 67 = .ok (.getfield 36, 3) := by decide +kernel
theorem dX6_init_70 : decode cX6_init 70 = .ok (.iload_n 1, 1) := by decide +kernel
theorem dX6_init_71 : decode cX6_init 71 = .ok (.new 34, 3) := by decide +kernel
theorem dX6_init_74 : decode cX6_init 74 = .ok (.dup, 1) := by decide +kernel
theorem dX6_init_75 : decode cX6_init 75 = .ok (.invokespecial 40, 3) := by decide +kernel
theorem dX6_init_78 : decode cX6_init 78 = .ok (.aastore, 1) := by decide +kernel
theorem dX6_init_79 : decode cX6_init 79 = .ok (.iinc 1 1, 3) := by decide +kernel
theorem dX6_init_82 : decode cX6_init 82 = .ok (.goto (-22), 3) := by decide +kernel
theorem dX6_init_85 : decode cX6_init 85 = .ok (.aload_n 0, 1) := by decide +kernel
theorem dX6_init_86 : decode cX6_init 86 = .ok (.new 41, 3) := by decide +kernel
theorem dX6_init_89 : decode cX6_init 89 = .ok (.dup, 1) := by decide +kernel
theorem dX6_init_90 : decode cX6_init 90 = .ok (.invokespecial 43, 3) := by decide +kernel
theorem dX6_init_93 : decode cX6_init 93 = .ok (.putfield 44, 3) := by decide +kernel
theorem dX6_init_96 : decode cX6_init 96 = .ok (.aload_n 0, 1) := by decide +kernel
theorem dX6_init_97 : decode cX6_init 97 = .ok (.new 41, 3) := by decide +kernel
theorem dX6_init_100 : decode cX6_init 100 = .ok (.dup, 1) := by decide +kernel
theorem dX6_init_101 : decode cX6_init 101 = .ok (.invokespecial 43, 3) := by decide +kernel
theorem dX6_init_104 : decode cX6_init 104 = .ok (.putfield 48, 3) := by decide +kernel
theorem dX6_init_107 : decode cX6_init 107 = .ok (.return_, 1) := by decide +kernel
theorem dX6_open_0 : decode cX6_open 0 = .ok (.iload_n 1, 1) := by decide +kernel
theorem dX6_open_1 : decode cX6_open 1 = .ok (.iconst 3, 1) := by decide +kernel
theorem dX6_open_2 : decode cX6_open 2 = .ok (.if_icmp .lt 32, 3) := by decide +kernel
theorem dX6_open_5 : decode cX6_open 5 = .ok (.iload_n 1, 1) := by decide +kernel
theorem dX6_open_6 : decode cX6_open 6 = .ok (.bipush 13, 2) := by decide +kernel
theorem dX6_open_8 : decode cX6_open 8 = .ok (.if_icmp .gt 26, 3) := by decide +kernel
theorem dX6_open_11 : decode cX6_open 11 = .ok (.iload_n 2, 1) := by decide +kernel
theorem dX6_open_12 : decode cX6_open 12 = .ok (.iconst 1, 1) := by decide +kernel
theorem dX6_open_13 : decode cX6_open 13 = .ok (.if_icmp .lt 21, 3) := by decide +kernel
theorem dX6_open_16 : decode cX6_open 16 = .ok (.iload_n 2, 1) := by decide +kernel
theorem dX6_open_17 : decode cX6_open 17 = .ok (.bipush 8, 2) := by decide +kernel
theorem dX6_open_19 : decode cX6_open 19 = .ok (.if_icmp .gt 15, 3) := by decide +kernel
theorem dX6_open_22 : decode cX6_open 22 = .ok (.iload_n 3, 1) := by decide +kernel
theorem dX6_open_23 : decode cX6_open 23 = .ok (.iconst 1, 1) := by decide +kernel
theorem dX6_open_24 : decode cX6_open 24 = .ok (.if_icmp .lt 10, 3) := by decide +kernel
theorem dX6_open_27 : decode cX6_open 27 = .ok (.iload_n 3, 1) := by decide +kernel
theorem dX6_open_28 : decode cX6_open 28 = .ok (.sipush 256, 3) := by decide +kernel
theorem dX6_open_31 : decode cX6_open 31 = .ok (.if_icmp .le 6, 3) := by decide +kernel
theorem dX6_open_34 : decode cX6_open 34 = .ok (.bipush (-2), 2) := by decide +kernel
theorem dX6_open_36 : decode cX6_open 36 = .ok (.ireturn, 1) := by decide +kernel
theorem dX6_open_37 : decode cX6_open 37 = .ok (.iload_n 1, 1) := by decide +kernel
theorem dX6_open_38 : decode cX6_open 38 = .ok (.iload_n 2, 1) := by decide +kernel
theorem dX6_open_39 : decode cX6_open 39 = .ok (.invokestatic 51, 3) := by decide +kernel
theorem dX6_open_42 : decode cX6_open 42 = .ok (.istore 4, 2) := by decide +kernel
theorem dX6_open_44 : decode cX6_open 44 = .ok (.bipush 8, 2) := by decide +kernel
theorem dX6_open_46 : decode cX6_open 46 = .ok (.iload_n 3, 1) := by decide +kernel
theorem dX6_open_47 : decode cX6_open 47 = .ok (.imul, 1) := by decide +kernel
theorem dX6_open_48 : decode cX6_open 48 = .ok (.iload 4, 2) := by decide +kernel
theorem dX6_open_50 : decode cX6_open 50 = .ok (.iadd, 1) := by decide +kernel
theorem dX6_open_51 : decode cX6_open 51 = .ok (.iconst 1, 1) := by decide +kernel
theorem dX6_open_52 : decode cX6_open 52 = .ok (.iload_n 1, 1) := by decide +kernel
theorem dX6_open_53 : decode cX6_open 53 = .ok (.ishl, 1) := by decide +kernel
theorem dX6_open_54 : decode cX6_open 54 = .ok (.iconst 1, 1) := by decide +kernel
theorem dX6_open_55 : decode cX6_open 55 = .ok (.isub, 1) := by decide +kernel
theorem dX6_open_56 : decode cX6_open 56 = .ok (.if_icmp .le 6, 3) := by decide +kernel
theorem dX6_open_59 : decode cX6_open 59 = .ok (.bipush (-2), 2) := by decide +kernel
theorem dX6_open_61 : decode cX6_open 61 = .ok (.ireturn, 1) := by decide +kernel
theorem dX6_open_62 : decode cX6_open 62 = .ok (.aload_n 0, 1) := by decide +kernel
theorem dX6_open_63 : decode cX6_open 63 = .ok (.getfield 12, 3) := by decide +kernel
theorem dX6_open_66 : decode cX6_open 66 = .ok (.iload_n 1, 1) := by decide +kernel
theorem dX6_open_67 : decode cX6_open 67 = .ok (.invokevirtual 57, 3) := by decide +kernel
theorem dX6_open_70 : decode cX6_open 70 = .ok (.aload_n 0, 1) := by decide +kernel
theorem dX6_open_71 : decode cX6_open 71 = .ok (.getfield 21, 3) := by decide +kernel
theorem dX6_open_74 : decode cX6_open 74 = .ok (.iload_n 2, 1) := by decide +kernel
theorem dX6_open_75 : decode cX6_open 75 = .ok (.iload_n 3, 1) := by decide +kernel
theorem dX6_open_76 : decode cX6_open 76 = .ok (.invokevirtual 61, 3) := by decide +kernel
theorem dX6_open_79 : decode cX6_open 79 = .ok (.iconst 0, 1) := by decide +kernel
theorem dX6_open_80 : decode cX6_open 80 = .ok (.istore 5, 2) := by decide +kernel
theorem dX6_open_82 : decode cX6_open 82 = .ok (.iload 5, 2) := by decide +kernel
theorem dX6_open_84 : decode cX6_open 84 = .ok (.bipush 16, 2) := by decide +kernel
theorem dX6_open_86 : decode cX6_open 86 = .ok (.if_icmp .ge 26, 3) := by decide +kernel
theorem dX6_open_89 : decode cX6_open 89 = .ok (.aload_n 0, 1) := by decide +kernel
theorem dX6_open_90 : decode cX6_open 90 = .ok (.getfield 36, 3) := by decide +kernel
theorem dX6_open_93 : decode cX6_open 93 = .ok (.iload 5, 2) := by decide +kernel
theorem dX6_open_95 : decode cX6_open 95 = .ok (.aaload, 1) := by decide +kernel
theorem dX6_open_96 : decode cX6_open 96 = .ok (.aload_n 0, 1) := by decide +kernel
theorem dX6_open_97 : decode cX6_open 97 = .ok (.getfield 21, 3) := by decide +kernel
theorem dX6_open_100 : decode cX6_open 100 = .ok (.getfield 64, 3) := by decide +kernel
theorem dX6_open_103 : decode cX6_open 103 = .ok (.invokevirtual 67, 3) := by decide +kernel
theorem dX6_open_106 : decode cX6_open 106 = .ok (.iinc 5 1, 3) := by decide +kernel
theorem dX6_open_109 : decode cX6_open 109 = .ok (.goto (-27), 3) := by decide +kernel
theorem dX6_open_112 : decode cX6_open 112 = .ok (.aload_n 0, 1) := by decide +kernel
theorem dX6_open_113 : decode cX6_open 113 = .ok (.getfield 44, 3) := by decide +kernel
theorem dX6_open_116 : decode cX6_open 116 = .ok (.invokevirtual 71, 3) := by decide +kernel
theorem dX6_open_119 : decode cX6_open 119 = .ok (.aload_n 0, 1) := by decide +kernel
theorem dX6_open_120 : decode cX6_open 120 = .ok (.getfield 48, 3) := by decide +kernel
theorem dX6_open_123 : decode cX6_open 123 = .ok (.invokevirtual 71, 3) := by decide +kernel
theorem dX6_open_126 : decode cX6_open 126 = .ok (.aload_n 0, 1) := by decide +kernel
theorem dX6_open_127 : decode cX6_open 127 = .ok (.iconst 0, 1) := by decide +kernel
theorem dX6_open_128 : decode cX6_open 128 = .ok (.putfield 74, 3) := by decide +kernel
theorem dX6_open_131 : decode cX6_open 131 = .ok (.aload_n 0, 1) := by decide +kernel
theorem dX6_open_132 : decode cX6_open 132 = .ok (.iconst 0, 1) := by decide +kernel
theorem dX6_open_133 : decode cX6_open 133 = .ok (.putfield 78, 3) := by decide +kernel
theorem dX6_open_136 : decode cX6_open 136 = .ok (.aload_n 0, 1) := by decide +kernel
theorem dX6_open_137 : decode cX6_open 137 = .ok (.iconst 0, 1) := by decide +kernel
theorem dX6_open_138 : decode cX6_open 138 = .ok (.putfield 81, 3) := by decide +kernel
theorem dX6_open_141 : decode cX6_open 141 = .ok (.aload_n 0, 1) := by decide +kernel
theorem dX6_open_142 : decode cX6_open 142 = .ok (.iconst 1, 1) := by decide +kernel
theorem dX6_open_143 : decode cX6_open 143 = .ok (.putfield 84, 3) := by decide +kernel
theorem dX6_open_146 : decode cX6_open 146 = .ok (.iload 4, 2) := by decide +kernel
theorem dX6_open_148 : decode cX6_open 148 = .ok (.ireturn, 1) := by decide +kernel
theorem dX6_times_0 : decode cX6_times 0 = .ok (.aload_n 0, 1) := by decide +kernel
theorem dX6_times_1 : decode cX6_times 1 = .ok (.getfield 84, 3) := by decide +kernel
theorem dX6_times_4 : decode cX6_times 4 = .ok (.ifCond .ne 6, 3) := by decide +kernel
theorem dX6_times_7 : decode cX6_times 7 = .ok (.bipush (-3), 2) := by decide +kernel
theorem dX6_times_9 : decode cX6_times 9 = .ok (.ireturn, 1) := by decide +kernel
theorem dX6_times_10 : decode cX6_times 10 = .ok (.aload_n 0, 1) := by decide +kernel
theorem dX6_times_11 : decode cX6_times 11 = .ok (.getfield 12, 3) := by decide +kernel
theorem dX6_times_14 : decode cX6_times 14 = .ok (.iload_n 1, 1) := by decide +kernel
theorem dX6_times_15 : decode cX6_times 15 = .ok (.invokevirtual 88, 3) := by decide +kernel
theorem dX6_times_18 : decode cX6_times 18 = .ok (.ifCond .eq 14, 3) := by decide +kernel
theorem dX6_times_21 : decode cX6_times 21 = .ok (.aload_n 0, 1) := by decide +kernel
theorem dX6_times_22 : decode cX6_times 22 = .ok (.getfield 12, 3) := by decide +kernel
theorem dX6_times_25 : decode cX6_times 25 = .ok (.iload_n 2, 1) := by decide +kernel
theorem dX6_times_26 : decode cX6_times 26 = .ok (.invokevirtual 88, 3) := by decide +kernel
theorem dX6_times_29 : decode cX6_times 29 = .ok (.ifCond .ne 6, 3) := by decide +kernel
theorem dX6_times_32 : decode cX6_times 32 = .ok (.bipush (-2), 2) := by decide +kernel
theorem dX6_times_34 : decode cX6_times 34 = .ok (.ireturn, 1) := by decide +kernel
theorem dX6_times_35 : decode cX6_times 35 = .ok (.aload_n 0, 1) := by decide +kernel
theorem dX6_times_36 : decode cX6_times 36 = .ok (.getfield 12, 3) := by decide +kernel
theorem dX6_times_39 : decode cX6_times 39 = .ok (.iload_n 1, 1) := by decide +kernel
theorem dX6_times_40 : decode cX6_times 40 = .ok (.iload_n 2, 1) := by decide +kernel
theorem dX6_times_41 : decode cX6_times 41 = .ok (.invokevirtual 92, 3) := by decide +kernel
theorem dX6_times_44 : decode cX6_times 44 = .ok (.ireturn, 1) := by decide +kernel
theorem dX6_inverse_0 : decode cX6_inverse 0 = .ok (.aload_n 0, 1) := by decide +kernel
theorem dX6_inverse_1 : decode cX6_inverse 1 = .ok (.getfield 84, 3) := by decide +kernel
theorem dX6_inverse_4 : decode cX6_inverse 4 = .ok (.ifCond .ne 6, 3) := by decide +kernel
theorem dX6_inverse_7 : decode cX6_inverse 7 = .ok (.bipush (-3), 2) := by decide +kernel
theorem dX6_inverse_9 : decode cX6_inverse 9 = .ok (.ireturn, 1) := by decide +kernel
theorem dX6_inverse_10 : decode cX6_inverse 10 = .ok (.aload_n 0, 1) := by decide +kernel
theorem dX6_inverse_11 : decode cX6_inverse 11 = .ok (.getfield 12, 3) := by decide +kernel
theorem dX6_inverse_14 : decode cX6_inverse 14 = .ok (.iload_n 1, 1) := by decide +kernel
theorem dX6_inverse_15 : decode cX6_inverse 15 = .ok (.invokevirtual 88, 3) := by decide +kernel
theorem dX6_inverse_18 : decode cX6_inverse 18 = .ok (.ifCond .eq 7, 3) := by decide +kernel
theorem dX6_inverse_21 : decode cX6_inverse 21 = .ok (.iload_n 1, 1) := by decide +kernel
theorem dX6_inverse_22 : decode cX6_inverse 22 = .ok (.ifCond .ne 6, 3) := by decide +kernel
theorem dX6_inverse_25 : decode cX6_inverse 25 = .ok (.bipush (-2), 2) := by decide +kernel
theorem dX6_inverse_27 : decode cX6_inverse 27 = .ok (.ireturn, 1) := by decide +kernel
theorem dX6_inverse_28 : decode cX6_inverse 28 = .ok (.aload_n 0, 1) := by decide +kernel
theorem dX6_inverse_29 : decode cX6_inverse 29 = .ok (.getfield 12, 3) := by decide +kernel
theorem dX6_inverse_32 : decode cX6_inverse 32 = .ok (.iload_n 1, 1) := by decide +kernel
theorem dX6_inverse_33 : decode cX6_inverse 33 = .ok (.invokevirtual 95, 3) := by decide +kernel
theorem dX6_inverse_36 : decode cX6_inverse 36 = .ok (.ireturn, 1) := by decide +kernel
theorem dX6_power_0 : decode cX6_power 0 = .ok (.aload_n 0, 1) := by decide +kernel
theorem dX6_power_1 : decode cX6_power 1 = .ok (.getfield 84, 3) := by decide +kernel
theorem dX6_power_4 : decode cX6_power 4 = .ok (.ifCond .ne 6, 3) := by decide +kernel
theorem dX6_power_7 : decode cX6_power 7 = .ok (.bipush (-3), 2) := by decide +kernel
theorem dX6_power_9 : decode cX6_power 9 = .ok (.ireturn, 1) := by decide +kernel
theorem dX6_power_10 : decode cX6_power 10 = .ok (.iload_n 1, 1) := by decide +kernel
theorem dX6_power_11 : decode cX6_power 11 = .ok (.ldc 99, 2) := by decide +kernel
theorem dX6_power_13 : decode cX6_power 13 = .ok (.if_icmp .lt 9, 3) := by decide +kernel
theorem dX6_power_16 : decode cX6_power 16 = .ok (.iload_n 1, 1) := by decide +kernel
theorem dX6_power_17 : decode cX6_power 17 = .ok (.ldc 100, 2) := by decide +kernel
theorem dX6_power_19 : decode cX6_power 19 = .ok (.if_icmp .le 6, 3) := by decide +kernel
theorem dX6_power_22 : decode cX6_power 22 = .ok (.bipush (-2), 2) := by decide +kernel
theorem dX6_power_24 : decode cX6_power 24 = .ok (.ireturn, 1) := by decide +kernel
theorem dX6_power_25 : decode cX6_power 25 = .ok (.aload_n 0, 1) := by decide +kernel
theorem dX6_power_26 : decode cX6_power 26 = .ok (.getfield 12, 3) := by decide +kernel
theorem dX6_power_29 : decode cX6_power 29 = .ok (.iload_n 1, 1) := by decide +kernel
theorem dX6_power_30 : decode cX6_power 30 = .ok (.invokevirtual 101, 3) := by decide +kernel
theorem dX6_power_33 : decode cX6_power 33 = .ok (.ireturn, 1) := by decide +kernel
theorem dX6_log_0 : decode cX6_log 0 = .ok (.aload_n 0, 1) := by decide +kernel
theorem dX6_log_1 : decode cX6_log 1 = .ok (.getfield 84, 3) := by decide +kernel
theorem dX6_log_4 : decode cX6_log 4 = .ok (.ifCond .ne 6, 3) := by decide +kernel
theorem dX6_log_7 : decode cX6_log 7 = .ok (.bipush (-3), 2) := by decide +kernel
theorem dX6_log_9 : decode cX6_log 9 = .ok (.ireturn, 1) := by decide +kernel
theorem dX6_log_10 : decode cX6_log 10 = .ok (.aload_n 0, 1) := by decide +kernel
theorem dX6_log_11 : decode cX6_log 11 = .ok (.getfield 12, 3) := by decide +kernel
theorem dX6_log_14 : decode cX6_log 14 = .ok (.iload_n 1, 1) := by decide +kernel
theorem dX6_log_15 : decode cX6_log 15 = .ok (.invokevirtual 88, 3) := by decide +kernel
theorem dX6_log_18 : decode cX6_log 18 = .ok (.ifCond .eq 7, 3) := by decide +kernel
theorem dX6_log_21 : decode cX6_log 21 = .ok (.iload_n 1, 1) := by decide +kernel
theorem dX6_log_22 : decode cX6_log 22 = .ok (.ifCond .ne 6, 3) := by decide +kernel
theorem dX6_log_25 : decode cX6_log 25 = .ok (.bipush (-2), 2) := by decide +kernel
theorem dX6_log_27 : decode cX6_log 27 = .ok (.ireturn, 1) := by decide +kernel
theorem dX6_log_28 : decode cX6_log 28 = .ok (.aload_n 0, 1) := by decide +kernel
theorem dX6_log_29 : decode cX6_log 29 = .ok (.getfield 12, 3) := by decide +kernel
theorem dX6_log_32 : decode cX6_log 32 = .ok (.getfield 104, 3) := by decide +kernel
theorem dX6_log_35 : decode cX6_log 35 = .ok (.iload_n 1, 1) := by decide +kernel
theorem dX6_log_36 : decode cX6_log 36 = .ok (.iaload, 1) := by decide +kernel
theorem dX6_log_37 : decode cX6_log 37 = .ok (.ireturn, 1) := by decide +kernel
theorem dX6_minimal_0 : decode cX6_minimal 0 = .ok (.aload_n 0, 1) := by decide +kernel
theorem dX6_minimal_1 : decode cX6_minimal 1 = .ok (.getfield 84, 3) := by decide +kernel
theorem dX6_minimal_4 : decode cX6_minimal 4 = .ok (.ifCond .ne 6, 3) := by decide +kernel
theorem dX6_minimal_7 : decode cX6_minimal 7 = .ok (.bipush (-3), 2) := by decide +kernel
theorem dX6_minimal_9 : decode cX6_minimal 9 = .ok (.ireturn, 1) := by decide +kernel
theorem dX6_minimal_10 : decode cX6_minimal 10 = .ok (.iload_n 1, 1) := by decide +kernel
theorem dX6_minimal_11 : decode cX6_minimal 11 = .ok (.ifCond .lt 14, 3) := by decide +kernel
theorem dX6_minimal_14 : decode cX6_minimal 14 = .ok (.iload_n 1, 1) := by decide +kernel
theorem dX6_minimal_15 : decode cX6_minimal 15 = .ok (.aload_n 0, 1) := by decide +kernel
theorem dX6_minimal_16 : decode cX6_minimal 16 = .ok (.getfield 12, 3) := by decide +kernel
theorem dX6_minimal_19 : decode cX6_minimal 19 = .ok (.getfield 108, 3) := by decide +kernel
theorem dX6_minimal_22 : decode cX6_minimal 22 = .ok (.if_icmp .lt 6, 3) := by decide +kernel
theorem dX6_minimal_25 : decode cX6_minimal 25 = .ok (.bipush (-2), 2) := by decide +kernel
theorem dX6_minimal_27 : decode cX6_minimal 27 = .ok (.ireturn, 1) := by decide +kernel
theorem dX6_minimal_28 : decode cX6_minimal 28 = .ok (.aload_n 0, 1) := by decide +kernel
theorem dX6_minimal_29 : decode cX6_minimal 29 = .ok (.getfield 12, 3) := by decide +kernel
theorem dX6_minimal_32 : decode cX6_minimal 32 = .ok (.iload_n 1, 1) := by decide +kernel
theorem dX6_minimal_33 : decode cX6_minimal 33 = .ok (.invokevirtual 111, 3) := by decide +kernel
theorem dX6_minimal_36 : decode cX6_minimal 36 = .ok (.ireturn, 1) := by decide +kernel
theorem dX6_generator_0 : decode cX6_generator 0 = .ok (.aload_n 0, 1) := by decide +kernel
theorem dX6_generator_1 : decode cX6_generator 1 = .ok (.getfield 84, 3) := by decide +kernel
theorem dX6_generator_4 : decode cX6_generator 4 = .ok (.ifCond .ne 6, 3) := by decide +kernel
theorem dX6_generator_7 : decode cX6_generator 7 = .ok (.bipush (-3), 2) := by decide +kernel
theorem dX6_generator_9 : decode cX6_generator 9 = .ok (.ireturn, 1) := by decide +kernel
theorem dX6_generator_10 : decode cX6_generator 10 = .ok (.iload_n 1, 1) := by decide +kernel
theorem dX6_generator_11 : decode cX6_generator 11 = .ok (.ifCond .ge 6, 3) := by decide +kernel
theorem dX6_generator_14 : decode cX6_generator 14 = .ok (.bipush (-2), 2) := by decide +kernel
theorem dX6_generator_16 : decode cX6_generator 16 = .ok (.ireturn, 1) := by decide +kernel
theorem dX6_generator_17 : decode cX6_generator 17 = .ok (.iload_n 1, 1) := by decide +kernel
theorem dX6_generator_18 : decode cX6_generator 18 = .ok (.aload_n 0, 1) := by decide +kernel
theorem dX6_generator_19 : decode cX6_generator 19 = .ok (.getfield 21, 3) := by decide +kernel
theorem dX6_generator_22 : decode cX6_generator 22 = .ok (.getfield 114, 3) := by decide +kernel
theorem dX6_generator_25 : decode cX6_generator 25 = .ok (.if_icmp .le 7, 3) := by decide +kernel
theorem dX6_generator_28 : decode cX6_generator 28 = .ok (.iconst 0, 1) := by decide +kernel
theorem dX6_generator_29 : decode cX6_generator 29 = .ok (.goto 12, 3) := by decide +kernel
theorem dX6_generator_32 : decode cX6_generator 32 = .ok (.aload_n 0, 1) := by decide +kernel
theorem dX6_generator_33 : decode cX6_generator 33 = .ok (.getfield 21, 3) := by decide +kernel
theorem dX6_generator_36 : decode cX6_generator 36 = .ok (.getfield 117, 3) := by decide +kernel
theorem dX6_generator_39 : decode cX6_generator 39 = .ok (.iload_n 1, 1) := by decide +kernel
theorem dX6_generator_40 : decode cX6_generator 40 = .ok (.iaload, 1) := by decide +kernel
theorem dX6_generator_41 : decode cX6_generator 41 = .ok (.ireturn, 1) := by decide +kernel
theorem dX6_put_0 : decode cX6_put 0 = .ok (.aload_n 0, 1) := by decide +kernel
theorem dX6_put_1 : decode cX6_put 1 = .ok (.getfield 84, 3) := by decide +kernel
theorem dX6_put_4 : decode cX6_put 4 = .ok (.ifCond .ne 6, 3) := by decide +kernel
theorem dX6_put_7 : decode cX6_put 7 = .ok (.bipush (-3), 2) := by decide +kernel
theorem dX6_put_9 : decode cX6_put 9 = .ok (.ireturn, 1) := by decide +kernel
theorem dX6_put_10 : decode cX6_put 10 = .ok (.aload_n 0, 1) := by decide +kernel
theorem dX6_put_11 : decode cX6_put 11 = .ok (.iload_n 1, 1) := by decide +kernel
theorem dX6_put_12 : decode cX6_put 12 = .ok (.invokevirtual 120, 3) := by decide +kernel
theorem dX6_put_15 : decode cX6_put 15 = .ok (.ifCond .ne 6, 3) := by decide +kernel
theorem dX6_put_18 : decode cX6_put 18 = .ok (.bipush (-2), 2) := by decide +kernel
theorem dX6_put_20 : decode cX6_put 20 = .ok (.ireturn, 1) := by decide +kernel
theorem dX6_put_21 : decode cX6_put 21 = .ok (.aload_n 0, 1) := by decide +kernel
theorem dX6_put_22 : decode cX6_put 22 = .ok (.getfield 44, 3) := by decide +kernel
theorem dX6_put_25 : decode cX6_put 25 = .ok (.iload_n 1, 1) := by decide +kernel
theorem dX6_put_26 : decode cX6_put 26 = .ok (.invokevirtual 123, 3) := by decide +kernel
theorem dX6_put_29 : decode cX6_put 29 = .ok (.istore_n 3, 1) := by decide +kernel
theorem dX6_put_30 : decode cX6_put 30 = .ok (.aload_n 0, 1) := by decide +kernel
theorem dX6_put_31 : decode cX6_put 31 = .ok (.getfield 44, 3) := by decide +kernel
theorem dX6_put_34 : decode cX6_put 34 = .ok (.iload_n 1, 1) := by decide +kernel
theorem dX6_put_35 : decode cX6_put 35 = .ok (.iload_n 2, 1) := by decide +kernel
theorem dX6_put_36 : decode cX6_put 36 = .ok (.sipush 255, 3) := by decide +kernel
theorem dX6_put_39 : decode cX6_put 39 = .ok (.iand, 1) := by decide +kernel
theorem dX6_put_40 : decode cX6_put 40 = .ok (.invokevirtual 126, 3) := by decide +kernel
theorem dX6_put_43 : decode cX6_put 43 = .ok (.iload_n 3, 1) := by decide +kernel
theorem dX6_put_44 : decode cX6_put 44 = .ok (.ireturn, 1) := by decide +kernel
theorem dX6_fill_0 : decode cX6_fill 0 = .ok (.aload_n 0, 1) := by decide +kernel
theorem dX6_fill_1 : decode cX6_fill 1 = .ok (.getfield 84, 3) := by decide +kernel
theorem dX6_fill_4 : decode cX6_fill 4 = .ok (.ifCond .ne 6, 3) := by decide +kernel
theorem dX6_fill_7 : decode cX6_fill 7 = .ok (.bipush (-3), 2) := by decide +kernel
theorem dX6_fill_9 : decode cX6_fill 9 = .ok (.ireturn, 1) := by decide +kernel
theorem dX6_fill_10 : decode cX6_fill 10 = .ok (.aload_n 0, 1) := by decide +kernel
theorem dX6_fill_11 : decode cX6_fill 11 = .ok (.iload_n 1, 1) := by decide +kernel
theorem dX6_fill_12 : decode cX6_fill 12 = .ok (.invokevirtual 120, 3) := by decide +kernel
theorem dX6_fill_15 : decode cX6_fill 15 = .ok (.ifCond .ne 6, 3) := by decide +kernel
theorem dX6_fill_18 : decode cX6_fill 18 = .ok (.bipush (-2), 2) := by decide +kernel
theorem dX6_fill_20 : decode cX6_fill 20 = .ok (.ireturn, 1) := by decide +kernel
theorem dX6_fill_21 : decode cX6_fill 21 = .ok (.bipush 8, 2) := by decide +kernel
theorem dX6_fill_23 : decode cX6_fill 23 = .ok (.aload_n 0, 1) := by decide +kernel
theorem dX6_fill_24 : decode cX6_fill 24 = .ok (.getfield 21, 3) := by decide +kernel
theorem dX6_fill_27 : decode cX6_fill 27 = .ok (.getfield 129, 3) := by decide +kernel
theorem dX6_fill_30 : decode cX6_fill 30 = .ok (.iload_n 1, 1) := by decide +kernel
theorem dX6_fill_31 : decode cX6_fill 31 = .ok (.isub, 1) := by decide +kernel
theorem dX6_fill_32 : decode cX6_fill 32 = .ok (.invokestatic 132, 3) := by decide +kernel
theorem dX6_fill_35 : decode cX6_fill 35 = .ok (.istore 4, 2) := by decide +kernel
theorem dX6_fill_37 : decode cX6_fill 37 = .ok (.iconst 0, 1) := by decide +kernel
theorem dX6_fill_38 : decode cX6_fill 38 = .ok (.istore 5, 2) := by decide +kernel
theorem dX6_fill_40 : decode cX6_fill 40 = .ok (.iload 5, 2) := by decide +kernel
theorem dX6_fill_42 : decode cX6_fill 42 = .ok (.iload 4, 2) := by decide +kernel
theorem dX6_fill_44 : decode cX6_fill 44 = .ok (.if_icmp .ge 35, 3) := by decide +kernel
theorem dX6_fill_47 : decode cX6_fill 47 = .ok (.aload_n 0, 1) := by decide +kernel
theorem dX6_fill_48 : decode cX6_fill 48 = .ok (.getfield 44, 3) := by decide +kernel
theorem dX6_fill_51 : decode cX6_fill 51 = .ok (.iload_n 1, 1) := by decide +kernel
theorem dX6_fill_52 : decode cX6_fill 52 = .ok (.iload 5, 2) := by decide +kernel
theorem dX6_fill_54 : decode cX6_fill 54 = .ok (.iadd, 1) := by decide +kernel
theorem dX6_fill_55 : decode cX6_fill 55 = .ok (.lload_n 2, 1) := by decide +kernel
theorem dX6_fill_56 : decode cX6_fill 56 = .ok (.bipush 56, 2) := by decide +kernel
theorem dX6_fill_58 : decode cX6_fill 58 = .ok (.bipush 8, 2) := by decide +kernel
theorem dX6_fill_60 : decode cX6_fill 60 = .ok (.iload 5, 2) := by decide +kernel
theorem dX6_fill_62 : decode cX6_fill 62 = .ok (.imul, 1) := by decide +kernel
theorem dX6_fill_63 : decode cX6_fill 63 = .ok (.isub, 1) := by decide +kernel
theorem dX6_fill_64 : decode cX6_fill 64 = .ok (.lushr, 1) := by decide +kernel
theorem dX6_fill_65 : decode cX6_fill 65 = .ok (.l2i, 1) := by decide +kernel
theorem dX6_fill_66 : decode cX6_fill 66 = .ok (.sipush 255, 3) := by decide +kernel
theorem dX6_fill_69 : decode cX6_fill 69 = .ok (.iand, 1) := by decide +kernel
theorem dX6_fill_70 : decode cX6_fill 70 = .ok (.invokevirtual 126, 3) := by decide +kernel
theorem dX6_fill_73 : decode cX6_fill 73 = .ok (.iinc 5 1, 3) := by decide +kernel
theorem dX6_fill_76 : decode cX6_fill 76 = .ok (.goto (-36), 3) := by decide +kernel
theorem dX6_fill_79 : decode cX6_fill 79 = .ok (.iload 4, 2) := by decide +kernel
theorem dX6_fill_81 : decode cX6_fill 81 = .ok (.ireturn, 1) := by decide +kernel
theorem dX6_get_0 : decode cX6_get 0 = .ok (.aload_n 0, 1) := by decide +kernel
theorem dX6_get_1 : decode cX6_get 1 = .ok (.getfield 84, 3) := by decide +kernel
theorem dX6_get_4 : decode cX6_get 4 = .ok (.ifCond .ne 6, 3) := by decide +kernel
theorem dX6_get_7 : decode cX6_get 7 = .ok (.bipush (-3), 2) := by decide +kernel
theorem dX6_get_9 : decode cX6_get 9 = .ok (.ireturn, 1) := by decide +kernel
theorem dX6_get_10 : decode cX6_get 10 = .ok (.aload_n 0, 1) := by decide +kernel
theorem dX6_get_11 : decode cX6_get 11 = .ok (.iload_n 1, 1) := by decide +kernel
theorem dX6_get_12 : decode cX6_get 12 = .ok (.invokevirtual 120, 3) := by decide +kernel
theorem dX6_get_15 : decode cX6_get 15 = .ok (.ifCond .ne 6, 3) := by decide +kernel
theorem dX6_get_18 : decode cX6_get 18 = .ok (.bipush (-2), 2) := by decide +kernel
theorem dX6_get_20 : decode cX6_get 20 = .ok (.ireturn, 1) := by decide +kernel
theorem dX6_get_21 : decode cX6_get 21 = .ok (.aload_n 0, 1) := by decide +kernel
theorem dX6_get_22 : decode cX6_get 22 = .ok (.getfield 44, 3) := by decide +kernel
theorem dX6_get_25 : decode cX6_get 25 = .ok (.iload_n 1, 1) := by decide +kernel
theorem dX6_get_26 : decode cX6_get 26 = .ok (.invokevirtual 123, 3) := by decide +kernel
theorem dX6_get_29 : decode cX6_get 29 = .ok (.ireturn, 1) := by decide +kernel
theorem dX6_tail_0 : decode cX6_tail 0 = .ok (.aload_n 0, 1) := by decide +kernel
theorem dX6_tail_1 : decode cX6_tail 1 = .ok (.getfield 84, 3) := by decide +kernel
theorem dX6_tail_4 : decode cX6_tail 4 = .ok (.ifCond .ne 6, 3) := by decide +kernel
theorem dX6_tail_7 : decode cX6_tail 7 = .ok (.bipush (-3), 2) := by decide +kernel
theorem dX6_tail_9 : decode cX6_tail 9 = .ok (.ireturn, 1) := by decide +kernel
theorem dX6_tail_10 : decode cX6_tail 10 = .ok (.iload_n 1, 1) := by decide +kernel
theorem dX6_tail_11 : decode cX6_tail 11 = .ok (.ifCond .lt 14, 3) := by decide +kernel
theorem dX6_tail_14 : decode cX6_tail 14 = .ok (.iload_n 1, 1) := by decide +kernel
theorem dX6_tail_15 : decode cX6_tail 15 = .ok (.aload_n 0, 1) := by decide +kernel
theorem dX6_tail_16 : decode cX6_tail 16 = .ok (.getfield 21, 3) := by decide +kernel
theorem dX6_tail_19 : decode cX6_tail 19 = .ok (.getfield 114, 3) := by decide +kernel
theorem dX6_tail_22 : decode cX6_tail 22 = .ok (.if_icmp .lt 6, 3) := by decide +kernel
theorem dX6_tail_25 : decode cX6_tail 25 = .ok (.bipush (-2), 2) := by decide +kernel
theorem dX6_tail_27 : decode cX6_tail 27 = .ok (.ireturn, 1) := by decide +kernel
theorem dX6_tail_28 : decode cX6_tail 28 = .ok (.aload_n 0, 1) := by decide +kernel
theorem dX6_tail_29 : decode cX6_tail 29 = .ok (.getfield 21, 3) := by decide +kernel
theorem dX6_tail_32 : decode cX6_tail 32 = .ok (.aload_n 0, 1) := by decide +kernel
theorem dX6_tail_33 : decode cX6_tail 33 = .ok (.getfield 44, 3) := by decide +kernel
theorem dX6_tail_36 : decode cX6_tail 36 = .ok (.invokevirtual 137, 3) := by decide +kernel
theorem dX6_tail_39 : decode cX6_tail 39 = .ok (.aload_n 0, 1) := by decide +kernel
theorem dX6_tail_40 : decode cX6_tail 40 = .ok (.getfield 44, 3) := by decide +kernel
theorem dX6_tail_43 : decode cX6_tail 43 = .ok (.bipush 8, 2) := by decide +kernel
theorem dX6_tail_45 : decode cX6_tail 45 = .ok (.aload_n 0, 1) := by decide +kernel
theorem dX6_tail_46 : decode cX6_tail 46 = .ok (.getfield 21, 3) := by decide +kernel
theorem dX6_tail_49 : decode cX6_tail 49 = .ok (.getfield 129, 3) := by decide +kernel
theorem dX6_tail_52 : decode cX6_tail 52 = .ok (.imul, 1) := by decide +kernel
theorem dX6_tail_53 : decode cX6_tail 53 = .ok (.iload_n 1, 1) := by decide +kernel
theorem dX6_tail_54 : decode cX6_tail 54 = .ok (.iadd, 1) := by decide +kernel
theorem dX6_tail_55 : decode cX6_tail 55 = .ok (.invokevirtual 140, 3) := by decide +kernel
theorem dX6_tail_58 : decode cX6_tail 58 = .ok (.ireturn, 1) := by decide +kernel
theorem dX6_write_0 : decode cX6_write 0 = .ok (.aload_n 0, 1) := by decide +kernel
theorem dX6_write_1 : decode cX6_write 1 = .ok (.getfield 84, 3) := by decide +kernel
theorem dX6_write_4 : decode cX6_write 4 = .ok (.ifCond .ne 6, 3) := by decide +kernel
theorem dX6_write_7 : decode cX6_write 7 = .ok (.bipush (-3), 2) := by decide +kernel
theorem dX6_write_9 : decode cX6_write 9 = .ok (.ireturn, 1) := by decide +kernel
theorem dX6_write_10 : decode cX6_write 10 = .ok (.aload_n 0, 1) := by decide +kernel
theorem dX6_write_11 : decode cX6_write 11 = .ok (.iload_n 1, 1) := by decide +kernel
theorem dX6_write_12 : decode cX6_write 12 = .ok (.invokevirtual 143, 3) := by decide +kernel
theorem dX6_write_15 : decode cX6_write 15 = .ok (.ifCond .ne 6, 3) := by decide +kernel
theorem dX6_write_18 : decode cX6_write 18 = .ok (.bipush (-2), 2) := by decide +kernel
theorem dX6_write_20 : decode cX6_write 20 = .ok (.ireturn, 1) := by decide +kernel
theorem dX6_write_21 : decode cX6_write 21 = .ok (.aload_n 0, 1) := by decide +kernel
theorem dX6_write_22 : decode cX6_write 22 = .ok (.getfield 21, 3) := by decide +kernel
theorem dX6_write_25 : decode cX6_write 25 = .ok (.aload_n 0, 1) := by decide +kernel
theorem dX6_write_26 : decode cX6_write 26 = .ok (.getfield 44, 3) := by decide +kernel
theorem dX6_write_29 : decode cX6_write 29 = .ok (.invokevirtual 137, 3) := by decide +kernel
theorem dX6_write_32 : decode cX6_write 32 = .ok (.aload_n 0, 1) := by decide +kernel
theorem dX6_write_33 : decode cX6_write 33 = .ok (.getfield 36, 3) := by decide +kernel
theorem dX6_write_36 : decode cX6_write 36 = .ok (.iload_n 1, 1) := by decide +kernel
theorem dX6_write_37 : decode cX6_write 37 = .ok (.aaload, 1) := by decide +kernel
theorem dX6_write_38 : decode cX6_write 38 = .ok (.aload_n 0, 1) := by decide +kernel
theorem dX6_write_39 : decode cX6_write 39 = .ok (.getfield 44, 3) := by decide +kernel
theorem dX6_write_42 : decode cX6_write 42 = .ok (.invokevirtual 146, 3) := by decide +kernel
theorem dX6_write_45 : decode cX6_write 45 = .ok (.ireturn, 1) := by decide +kernel
theorem dX6_erase_0 : decode cX6_erase 0 = .ok (.aload_n 0, 1) := by decide +kernel
theorem dX6_erase_1 : decode cX6_erase 1 = .ok (.getfield 84, 3) := by decide +kernel
theorem dX6_erase_4 : decode cX6_erase 4 = .ok (.ifCond .ne 6, 3) := by decide +kernel
theorem dX6_erase_7 : decode cX6_erase 7 = .ok (.bipush (-3), 2) := by decide +kernel
theorem dX6_erase_9 : decode cX6_erase 9 = .ok (.ireturn, 1) := by decide +kernel
theorem dX6_erase_10 : decode cX6_erase 10 = .ok (.aload_n 0, 1) := by decide +kernel
theorem dX6_erase_11 : decode cX6_erase 11 = .ok (.iload_n 1, 1) := by decide +kernel
theorem dX6_erase_12 : decode cX6_erase 12 = .ok (.invokevirtual 143, 3) := by decide +kernel
theorem dX6_erase_15 : decode cX6_erase 15 = .ok (.ifCond .ne 6, 3) := by decide +kernel
theorem dX6_erase_18 : decode cX6_erase 18 = .ok (.bipush (-2), 2) := by decide +kernel
theorem dX6_erase_20 : decode cX6_erase 20 = .ok (.ireturn, 1) := by decide +kernel
theorem dX6_erase_21 : decode cX6_erase 21 = .ok (.aload_n 0, 1) := by decide +kernel
theorem dX6_erase_22 : decode cX6_erase 22 = .ok (.getfield 36, 3) := by decide +kernel
theorem dX6_erase_25 : decode cX6_erase 25 = .ok (.iload_n 1, 1) := by decide +kernel
theorem dX6_erase_26 : decode cX6_erase 26 = .ok (.aaload, 1) := by decide +kernel
theorem dX6_erase_27 : decode cX6_erase 27 = .ok (.aload_n 0, 1) := by decide +kernel
theorem dX6_erase_28 : decode cX6_erase 28 = .ok (.getfield 21, 3) := by decide +kernel
theorem dX6_erase_31 : decode cX6_erase 31 = .ok (.getfield 64, 3) := by decide +kernel
theorem dX6_erase_34 : decode cX6_erase 34 = .ok (.invokevirtual 150, 3) := by decide +kernel
theorem dX6_erase_37 : decode cX6_erase 37 = .ok (.aload_n 0, 1) := by decide +kernel
theorem dX6_erase_38 : decode cX6_erase 38 = .ok (.getfield 36, 3) := by decide +kernel
theorem dX6_erase_41 : decode cX6_erase 41 = .ok (.iload_n 1, 1) := by decide +kernel
theorem dX6_erase_42 : decode cX6_erase 42 = .ok (.aaload, 1) := by decide +kernel
theorem dX6_erase_43 : decode cX6_erase 43 = .ok (.getfield 153, 3) := by decide +kernel
theorem dX6_erase_46 : decode cX6_erase 46 = .ok (.ireturn, 1) := by decide +kernel
theorem dX6_flip_0 : decode cX6_flip 0 = .ok (.aload_n 0, 1) := by decide +kernel
theorem dX6_flip_1 : decode cX6_flip 1 = .ok (.getfield 84, 3) := by decide +kernel
theorem dX6_flip_4 : decode cX6_flip 4 = .ok (.ifCond .ne 6, 3) := by decide +kernel
theorem dX6_flip_7 : decode cX6_flip 7 = .ok (.bipush (-3), 2) := by decide +kernel
theorem dX6_flip_9 : decode cX6_flip 9 = .ok (.ireturn, 1) := by decide +kernel
theorem dX6_flip_10 : decode cX6_flip 10 = .ok (.aload_n 0, 1) := by decide +kernel
theorem dX6_flip_11 : decode cX6_flip 11 = .ok (.iload_n 1, 1) := by decide +kernel
theorem dX6_flip_12 : decode cX6_flip 12 = .ok (.invokevirtual 143, 3) := by decide +kernel
theorem dX6_flip_15 : decode cX6_flip 15 = .ok (.ifCond .eq 11, 3) := by decide +kernel
theorem dX6_flip_18 : decode cX6_flip 18 = .ok (.aload_n 0, 1) := by decide +kernel
theorem dX6_flip_19 : decode cX6_flip 19 = .ok (.iload_n 2, 1) := by decide +kernel
theorem dX6_flip_20 : decode cX6_flip 20 = .ok (.invokevirtual 156, 3) := by decide +kernel
theorem dX6_flip_23 : decode cX6_flip 23 = .ok (.ifCond .ne 6, 3) := by decide +kernel
theorem dX6_flip_26 : decode cX6_flip 26 = .ok (.bipush (-2), 2) := by decide +kernel
theorem dX6_flip_28 : decode cX6_flip 28 = .ok (.ireturn, 1) := by decide +kernel
theorem dX6_flip_29 : decode cX6_flip 29 = .ok (.aload_n 0, 1) := by decide +kernel
theorem dX6_flip_30 : decode cX6_flip 30 = .ok (.getfield 36, 3) := by decide +kernel
theorem dX6_flip_33 : decode cX6_flip 33 = .ok (.iload_n 1, 1) := by decide +kernel
theorem dX6_flip_34 : decode cX6_flip 34 = .ok (.aaload, 1) := by decide +kernel
theorem dX6_flip_35 : decode cX6_flip 35 = .ok (.iload_n 2, 1) := by decide +kernel
theorem dX6_flip_36 : decode cX6_flip 36 = .ok (.invokevirtual 159, 3) := by decide +kernel
theorem dX6_flip_39 : decode cX6_flip 39 = .ok (.ireturn, 1) := by decide +kernel
theorem dX6_stick_0 : decode cX6_stick 0 = .ok (.aload_n 0, 1) := by decide +kernel
theorem dX6_stick_1 : decode cX6_stick 1 = .ok (.getfield 84, 3) := by decide +kernel
theorem dX6_stick_4 : decode cX6_stick 4 = .ok (.ifCond .ne 6, 3) := by decide +kernel
theorem dX6_stick_7 : decode cX6_stick 7 = .ok (.bipush (-3), 2) := by decide +kernel
theorem dX6_stick_9 : decode cX6_stick 9 = .ok (.ireturn, 1) := by decide +kernel
theorem dX6_stick_10 : decode cX6_stick 10 = .ok (.aload_n 0, 1) := by decide +kernel
theorem dX6_stick_11 : decode cX6_stick 11 = .ok (.iload_n 1, 1) := by decide +kernel
theorem dX6_stick_12 : decode cX6_stick 12 = .ok (.invokevirtual 143, 3) := by decide +kernel
theorem dX6_stick_15 : decode cX6_stick 15 = .ok (.ifCond .eq 21, 3) := by decide +kernel
theorem dX6_stick_18 : decode cX6_stick 18 = .ok (.aload_n 0, 1) := by decide +kernel
theorem dX6_stick_19 : decode cX6_stick 19 = .ok (.iload_n 2, 1) := by decide +kernel
theorem dX6_stick_20 : decode cX6_stick 20 = .ok (.invokevirtual 156, 3) := by decide +kernel
theorem dX6_stick_23 : decode cX6_stick 23 = .ok (.ifCond .eq 13, 3) := by decide +kernel
theorem dX6_stick_26 : decode cX6_stick 26 = .ok (.iload_n 3, 1) := by decide +kernel
theorem dX6_stick_27 : decode cX6_stick 27 = .ok (.iconst (-1), 1) := by decide +kernel
theorem dX6_stick_28 : decode cX6_stick 28 = .ok (.if_icmp .lt 8, 3) := by decide +kernel
theorem dX6_stick_31 : decode cX6_stick 31 = .ok (.iload_n 3, 1) := by decide +kernel
theorem dX6_stick_32 : decode cX6_stick 32 = .ok (.iconst 1, 1) := by decide +kernel
theorem dX6_stick_33 : decode cX6_stick 33 = .ok (.if_icmp .le 6, 3) := by decide +kernel
theorem dX6_stick_36 : decode cX6_stick 36 = .ok (.bipush (-2), 2) := by decide +kernel
theorem dX6_stick_38 : decode cX6_stick 38 = .ok (.ireturn, 1) := by decide +kernel
theorem dX6_stick_39 : decode cX6_stick 39 = .ok (.aload_n 0, 1) := by decide +kernel
theorem dX6_stick_40 : decode cX6_stick 40 = .ok (.getfield 36, 3) := by decide +kernel
theorem dX6_stick_43 : decode cX6_stick 43 = .ok (.iload_n 1, 1) := by decide +kernel
theorem dX6_stick_44 : decode cX6_stick 44 = .ok (.aaload, 1) := by decide +kernel
theorem dX6_stick_45 : decode cX6_stick 45 = .ok (.iload_n 2, 1) := by decide +kernel
theorem dX6_stick_46 : decode cX6_stick 46 = .ok (.iload_n 3, 1) := by decide +kernel
theorem dX6_stick_47 : decode cX6_stick 47 = .ok (.invokevirtual 162, 3) := by decide +kernel
theorem dX6_stick_50 : decode cX6_stick 50 = .ok (.aload_n 0, 1) := by decide +kernel
theorem dX6_stick_51 : decode cX6_stick 51 = .ok (.getfield 36, 3) := by decide +kernel
theorem dX6_stick_54 : decode cX6_stick 54 = .ok (.iload_n 1, 1) := by decide +kernel
theorem dX6_stick_55 : decode cX6_stick 55 = .ok (.aaload, 1) := by decide +kernel
theorem dX6_stick_56 : decode cX6_stick 56 = .ok (.getfield 165, 3) := by decide +kernel
theorem dX6_stick_59 : decode cX6_stick 59 = .ok (.invokevirtual 168, 3) := by decide +kernel
theorem dX6_stick_62 : decode cX6_stick 62 = .ok (.ireturn, 1) := by decide +kernel
theorem dX6_mark_0 : decode cX6_mark 0 = .ok (.aload_n 0, 1) := by decide +kernel
theorem dX6_mark_1 : decode cX6_mark 1 = .ok (.getfield 84, 3) := by decide +kernel
theorem dX6_mark_4 : decode cX6_mark 4 = .ok (.ifCond .ne 6, 3) := by decide +kernel
theorem dX6_mark_7 : decode cX6_mark 7 = .ok (.bipush (-3), 2) := by decide +kernel
theorem dX6_mark_9 : decode cX6_mark 9 = .ok (.ireturn, 1) := by decide +kernel
theorem dX6_mark_10 : decode cX6_mark 10 = .ok (.aload_n 0, 1) := by decide +kernel
theorem dX6_mark_11 : decode cX6_mark 11 = .ok (.iload_n 1, 1) := by decide +kernel
theorem dX6_mark_12 : decode cX6_mark 12 = .ok (.invokevirtual 143, 3) := by decide +kernel
theorem dX6_mark_15 : decode cX6_mark 15 = .ok (.ifCond .eq 11, 3) := by decide +kernel
theorem dX6_mark_18 : decode cX6_mark 18 = .ok (.aload_n 0, 1) := by decide +kernel
theorem dX6_mark_19 : decode cX6_mark 19 = .ok (.iload_n 2, 1) := by decide +kernel
theorem dX6_mark_20 : decode cX6_mark 20 = .ok (.invokevirtual 156, 3) := by decide +kernel
theorem dX6_mark_23 : decode cX6_mark 23 = .ok (.ifCond .ne 6, 3) := by decide +kernel
theorem dX6_mark_26 : decode cX6_mark 26 = .ok (.bipush (-2), 2) := by decide +kernel
theorem dX6_mark_28 : decode cX6_mark 28 = .ok (.ireturn, 1) := by decide +kernel
theorem dX6_mark_29 : decode cX6_mark 29 = .ok (.aload_n 0, 1) := by decide +kernel
theorem dX6_mark_30 : decode cX6_mark 30 = .ok (.getfield 36, 3) := by decide +kernel
theorem dX6_mark_33 : decode cX6_mark 33 = .ok (.iload_n 1, 1) := by decide +kernel
theorem dX6_mark_34 : decode cX6_mark 34 = .ok (.aaload, 1) := by decide +kernel
theorem dX6_mark_35 : decode cX6_mark 35 = .ok (.getfield 171, 3) := by decide +kernel
theorem dX6_mark_38 : decode cX6_mark 38 = .ok (.iload_n 2, 1) := by decide +kernel
theorem dX6_mark_39 : decode cX6_mark 39 = .ok (.iload_n 3, 1) := by decide +kernel
theorem dX6_mark_40 : decode cX6_mark 40 = .ok (.ifCond .eq 7, 3) := by decide +kernel
theorem dX6_mark_43 : decode cX6_mark 43 = .ok (.iconst 1, 1) := by decide +kernel
theorem dX6_mark_44 : decode cX6_mark 44 = .ok (.goto 4, 3) := by decide +kernel
theorem dX6_mark_47 : decode cX6_mark 47 = .ok (.iconst 0, 1) := by decide +kernel
theorem dX6_mark_48 : decode cX6_mark 48 = .ok (.invokevirtual 174, 3) := by decide +kernel
theorem dX6_mark_51 : decode cX6_mark 51 = .ok (.aload_n 0, 1) := by decide +kernel
theorem dX6_mark_52 : decode cX6_mark 52 = .ok (.getfield 36, 3) := by decide +kernel
theorem dX6_mark_55 : decode cX6_mark 55 = .ok (.iload_n 1, 1) := by decide +kernel
theorem dX6_mark_56 : decode cX6_mark 56 = .ok (.aaload, 1) := by decide +kernel
theorem dX6_mark_57 : decode cX6_mark 57 = .ok (.getfield 171, 3) := by decide +kernel
theorem dX6_mark_60 : decode cX6_mark 60 = .ok (.invokevirtual 168, 3) := by decide +kernel
theorem dX6_mark_63 : decode cX6_mark 63 = .ok (.ireturn, 1) := by decide +kernel
theorem dX6_bit_0 : decode cX6_bit 0 = .ok (.aload_n 0, 1) := by decide +kernel
theorem dX6_bit_1 : decode cX6_bit 1 = .ok (.getfield 84, 3) := by decide +kernel
theorem dX6_bit_4 : decode cX6_bit 4 = .ok (.ifCond .ne 6, 3) := by decide +kernel
theorem dX6_bit_7 : decode cX6_bit 7 = .ok (.bipush (-3), 2) := by decide +kernel
theorem dX6_bit_9 : decode cX6_bit 9 = .ok (.ireturn, 1) := by decide +kernel
theorem dX6_bit_10 : decode cX6_bit 10 = .ok (.aload_n 0, 1) := by decide +kernel
theorem dX6_bit_11 : decode cX6_bit 11 = .ok (.iload_n 1, 1) := by decide +kernel
theorem dX6_bit_12 : decode cX6_bit 12 = .ok (.invokevirtual 143, 3) := by decide +kernel
theorem dX6_bit_15 : decode cX6_bit 15 = .ok (.ifCond .eq 11, 3) := by decide +kernel
theorem dX6_bit_18 : decode cX6_bit 18 = .ok (.aload_n 0, 1) := by decide +kernel
theorem dX6_bit_19 : decode cX6_bit 19 = .ok (.iload_n 2, 1) := by decide +kernel
theorem dX6_bit_20 : decode cX6_bit 20 = .ok (.invokevirtual 156, 3) := by decide +kernel
theorem dX6_bit_23 : decode cX6_bit 23 = .ok (.ifCond .ne 6, 3) := by decide +kernel
theorem dX6_bit_26 : decode cX6_bit 26 = .ok (.bipush (-2), 2) := by decide +kernel
theorem dX6_bit_28 : decode cX6_bit 28 = .ok (.ireturn, 1) := by decide +kernel
theorem dX6_bit_29 : decode cX6_bit 29 = .ok (.aload_n 0, 1) := by decide +kernel
theorem dX6_bit_30 : decode cX6_bit 30 = .ok (.getfield 36, 3) := by decide +kernel
theorem dX6_bit_33 : decode cX6_bit 33 = .ok (.iload_n 1, 1) := by decide +kernel
theorem dX6_bit_34 : decode cX6_bit 34 = .ok (.aaload, 1) := by decide +kernel
theorem dX6_bit_35 : decode cX6_bit 35 = .ok (.getfield 177, 3) := by decide +kernel
theorem dX6_bit_38 : decode cX6_bit 38 = .ok (.iload_n 2, 1) := by decide +kernel
theorem dX6_bit_39 : decode cX6_bit 39 = .ok (.invokevirtual 140, 3) := by decide +kernel
theorem dX6_bit_42 : decode cX6_bit 42 = .ok (.ireturn, 1) := by decide +kernel
theorem dX6_read_0 : decode cX6_read 0 = .ok (.aload_n 0, 1) := by decide +kernel
theorem dX6_read_1 : decode cX6_read 1 = .ok (.getfield 84, 3) := by decide +kernel
theorem dX6_read_4 : decode cX6_read 4 = .ok (.ifCond .ne 6, 3) := by decide +kernel
theorem dX6_read_7 : decode cX6_read 7 = .ok (.bipush (-3), 2) := by decide +kernel
theorem dX6_read_9 : decode cX6_read 9 = .ok (.ireturn, 1) := by decide +kernel
theorem dX6_read_10 : decode cX6_read 10 = .ok (.aload_n 0, 1) := by decide +kernel
theorem dX6_read_11 : decode cX6_read 11 = .ok (.iload_n 1, 1) := by decide +kernel
theorem dX6_read_12 : decode cX6_read 12 = .ok (.invokevirtual 143, 3) := by decide +kernel
theorem dX6_read_15 : decode cX6_read 15 = .ok (.ifCond .ne 6, 3) := by decide +kernel
theorem dX6_read_18 : decode cX6_read 18 = .ok (.bipush (-2), 2) := by decide +kernel
theorem dX6_read_20 : decode cX6_read 20 = .ok (.ireturn, 1) := by decide +kernel
theorem dX6_read_21 : decode cX6_read 21 = .ok (.aload_n 0, 1) := by decide +kernel
theorem dX6_read_22 : decode cX6_read 22 = .ok (.getfield 30, 3) := by decide +kernel
theorem dX6_read_25 : decode cX6_read 25 = .ok (.aload_n 0, 1) := by decide +kernel
theorem dX6_read_26 : decode cX6_read 26 = .ok (.getfield 36, 3) := by decide +kernel
theorem dX6_read_29 : decode cX6_read 29 = .ok (.iload_n 1, 1) := by decide +kernel
theorem dX6_read_30 : decode cX6_read 30 = .ok (.aaload, 1) := by decide +kernel
theorem dX6_read_31 : decode cX6_read 31 = .ok (.invokevirtual 180, 3) := by decide +kernel
theorem dX6_read_34 : decode cX6_read 34 = .ok (.istore_n 2, 1) := by decide +kernel
theorem dX6_read_35 : decode cX6_read 35 = .ok (.iload_n 2, 1) := by decide +kernel
theorem dX6_read_36 : decode cX6_read 36 = .ok (.bipush (-4), 2) := by decide +kernel
theorem dX6_read_38 : decode cX6_read 38 = .ok (.if_icmp .ne 16, 3) := by decide +kernel
theorem dX6_read_41 : decode cX6_read 41 = .ok (.aload_n 0, 1) := by decide +kernel
theorem dX6_read_42 : decode cX6_read 42 = .ok (.dup, 1) := by decide +kernel
theorem dX6_read_43 : decode cX6_read 43 = .ok (.getfield 81, 3) := by decide +kernel
theorem dX6_read_46 : decode cX6_read 46 = .ok (.iconst 1, 1) := by decide +kernel
theorem dX6_read_47 : decode cX6_read 47 = .ok (.iadd, 1) := by decide +kernel
theorem dX6_read_48 : decode cX6_read 48 = .ok (.putfield 81, 3) := by decide +kernel
