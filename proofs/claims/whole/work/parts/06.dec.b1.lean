theorem dX6_read_51 : decode cX6_read 51 = .ok (.bipush (-4), 2) := by decide +kernel
theorem dX6_read_53 : decode cX6_read 53 = .ok (.ireturn, 1) := by decide +kernel
theorem dX6_read_54 : decode cX6_read 54 = .ok (.iload_n 2, 1) := by decide +kernel
theorem dX6_read_55 : decode cX6_read 55 = .ok (.ifCond .ne 16, 3) := by decide +kernel
theorem dX6_read_58 : decode cX6_read 58 = .ok (.aload_n 0, 1) := by decide +kernel
theorem dX6_read_59 : decode cX6_read 59 = .ok (.dup, 1) := by decide +kernel
theorem dX6_read_60 : decode cX6_read 60 = .ok (.getfield 78, 3) := by decide +kernel
theorem dX6_read_63 : decode cX6_read 63 = .ok (.iconst 1, 1) := by decide +kernel
theorem dX6_read_64 : decode cX6_read 64 = .ok (.iadd, 1) := by decide +kernel
theorem dX6_read_65 : decode cX6_read 65 = .ok (.putfield 78, 3) := by decide +kernel
theorem dX6_read_68 : decode cX6_read 68 = .ok (.goto 13, 3) := by decide +kernel
theorem dX6_read_71 : decode cX6_read 71 = .ok (.aload_n 0, 1) := by decide +kernel
theorem dX6_read_72 : decode cX6_read 72 = .ok (.dup, 1) := by decide +kernel
theorem dX6_read_73 : decode cX6_read 73 = .ok (.getfield 74, 3) := by decide +kernel
theorem dX6_read_76 : decode cX6_read 76 = .ok (.iconst 1, 1) := by decide +kernel
theorem dX6_read_77 : decode cX6_read 77 = .ok (.iadd, 1) := by decide +kernel
theorem dX6_read_78 : decode cX6_read 78 = .ok (.putfield 74, 3) := by decide +kernel
theorem dX6_read_81 : decode cX6_read 81 = .ok (.aload_n 0, 1) := by decide +kernel
theorem dX6_read_82 : decode cX6_read 82 = .ok (.getfield 44, 3) := by decide +kernel
theorem dX6_read_85 : decode cX6_read 85 = .ok (.aload_n 0, 1) := by decide +kernel
theorem dX6_read_86 : decode cX6_read 86 = .ok (.getfield 30, 3) := by decide +kernel
theorem dX6_read_89 : decode cX6_read 89 = .ok (.getfield 184, 3) := by decide +kernel
theorem dX6_read_92 : decode cX6_read 92 = .ok (.invokevirtual 187, 3) := by decide +kernel
theorem dX6_read_95 : decode cX6_read 95 = .ok (.aload_n 0, 1) := by decide +kernel
theorem dX6_read_96 : decode cX6_read 96 = .ok (.getfield 48, 3) := by decide +kernel
theorem dX6_read_99 : decode cX6_read 99 = .ok (.aload_n 0, 1) := by decide +kernel
theorem dX6_read_100 : decode cX6_read 100 = .ok (.getfield 30, 3) := by decide +kernel
theorem dX6_read_103 : decode cX6_read 103 = .ok (.getfield 184, 3) := by decide +kernel
theorem dX6_read_106 : decode cX6_read 106 = .ok (.aload_n 0, 1) := by decide +kernel
theorem dX6_read_107 : decode cX6_read 107 = .ok (.getfield 36, 3) := by decide +kernel
theorem dX6_read_110 : decode cX6_read 110 = .ok (.iload_n 1, 1) := by decide +kernel
theorem dX6_read_111 : decode cX6_read 111 = .ok (.aaload, 1) := by decide +kernel
theorem dX6_read_112 : decode cX6_read 112 = .ok (.getfield 177, 3) := by decide +kernel
theorem dX6_read_115 : decode cX6_read 115 = .ok (.invokevirtual 189, 3) := by decide +kernel
theorem dX6_read_118 : decode cX6_read 118 = .ok (.iload_n 2, 1) := by decide +kernel
theorem dX6_read_119 : decode cX6_read 119 = .ok (.ireturn, 1) := by decide +kernel
theorem dX6_turned_0 : decode cX6_turned 0 = .ok (.iconst 0, 1) := by decide +kernel
theorem dX6_turned_1 : decode cX6_turned 1 = .ok (.istore_n 2, 1) := by decide +kernel
theorem dX6_turned_2 : decode cX6_turned 2 = .ok (.iconst 0, 1) := by decide +kernel
theorem dX6_turned_3 : decode cX6_turned 3 = .ok (.istore_n 3, 1) := by decide +kernel
theorem dX6_turned_4 : decode cX6_turned 4 = .ok (.iload_n 3, 1) := by decide +kernel
theorem dX6_turned_5 : decode cX6_turned 5 = .ok (.aload_n 0, 1) := by decide +kernel
theorem dX6_turned_6 : decode cX6_turned 6 = .ok (.getfield 21, 3) := by decide +kernel
theorem dX6_turned_9 : decode cX6_turned 9 = .ok (.getfield 193, 3) := by decide +kernel
theorem dX6_turned_12 : decode cX6_turned 12 = .ok (.if_icmp .ge 31, 3) := by decide +kernel
theorem dX6_turned_15 : decode cX6_turned 15 = .ok (.aload_n 0, 1) := by decide +kernel
theorem dX6_turned_16 : decode cX6_turned 16 = .ok (.getfield 48, 3) := by decide +kernel
theorem dX6_turned_19 : decode cX6_turned 19 = .ok (.iload_n 3, 1) := by decide +kernel
theorem dX6_turned_20 : decode cX6_turned 20 = .ok (.invokevirtual 140, 3) := by decide +kernel
theorem dX6_turned_23 : decode cX6_turned 23 = .ok (.iconst 1, 1) := by decide +kernel
theorem dX6_turned_24 : decode cX6_turned 24 = .ok (.if_icmp .ne 13, 3) := by decide +kernel
theorem dX6_turned_27 : decode cX6_turned 27 = .ok (.iload_n 2, 1) := by decide +kernel
theorem dX6_turned_28 : decode cX6_turned 28 = .ok (.iload_n 1, 1) := by decide +kernel
theorem dX6_turned_29 : decode cX6_turned 29 = .ok (.if_icmp .ne 5, 3) := by decide +kernel
theorem dX6_turned_32 : decode cX6_turned 32 = .ok (.iload_n 3, 1) := by decide +kernel
theorem dX6_turned_33 : decode cX6_turned 33 = .ok (.ireturn, 1) := by decide +kernel
theorem dX6_turned_34 : decode cX6_turned 34 = .ok (.iinc 2 1, 3) := by decide +kernel
theorem dX6_turned_37 : decode cX6_turned 37 = .ok (.iinc 3 1, 3) := by decide +kernel
theorem dX6_turned_40 : decode cX6_turned 40 = .ok (.goto (-36), 3) := by decide +kernel
theorem dX6_turned_43 : decode cX6_turned 43 = .ok (.iconst (-1), 1) := by decide +kernel
theorem dX6_turned_44 : decode cX6_turned 44 = .ok (.ireturn, 1) := by decide +kernel
theorem dX6_syndrome_0 : decode cX6_syndrome 0 = .ok (.aload_n 0, 1) := by decide +kernel
theorem dX6_syndrome_1 : decode cX6_syndrome 1 = .ok (.getfield 84, 3) := by decide +kernel
theorem dX6_syndrome_4 : decode cX6_syndrome 4 = .ok (.ifCond .ne 6, 3) := by decide +kernel
theorem dX6_syndrome_7 : decode cX6_syndrome 7 = .ok (.bipush (-3), 2) := by decide +kernel
theorem dX6_syndrome_9 : decode cX6_syndrome 9 = .ok (.ireturn, 1) := by decide +kernel
theorem dX6_syndrome_10 : decode cX6_syndrome 10 = .ok (.aload_n 0, 1) := by decide +kernel
theorem dX6_syndrome_11 : decode cX6_syndrome 11 = .ok (.iload_n 1, 1) := by decide +kernel
theorem dX6_syndrome_12 : decode cX6_syndrome 12 = .ok (.invokevirtual 143, 3) := by decide +kernel
theorem dX6_syndrome_15 : decode cX6_syndrome 15 = .ok (.ifCond .eq 21, 3) := by decide +kernel
theorem dX6_syndrome_18 : decode cX6_syndrome 18 = .ok (.iload_n 2, 1) := by decide +kernel
theorem dX6_syndrome_19 : decode cX6_syndrome 19 = .ok (.iconst 1, 1) := by decide +kernel
theorem dX6_syndrome_20 : decode cX6_syndrome 20 = .ok (.if_icmp .lt 16, 3) := by decide +kernel
theorem dX6_syndrome_23 : decode cX6_syndrome 23 = .ok (.iload_n 2, 1) := by decide +kernel
theorem dX6_syndrome_24 : decode cX6_syndrome 24 = .ok (.iconst 2, 1) := by decide +kernel
theorem dX6_syndrome_25 : decode cX6_syndrome 25 = .ok (.aload_n 0, 1) := by decide +kernel
theorem dX6_syndrome_26 : decode cX6_syndrome 26 = .ok (.getfield 21, 3) := by decide +kernel
theorem dX6_syndrome_29 : decode cX6_syndrome 29 = .ok (.getfield 196, 3) := by decide +kernel
theorem dX6_syndrome_32 : decode cX6_syndrome 32 = .ok (.imul, 1) := by decide +kernel
theorem dX6_syndrome_33 : decode cX6_syndrome 33 = .ok (.if_icmp .le 6, 3) := by decide +kernel
theorem dX6_syndrome_36 : decode cX6_syndrome 36 = .ok (.bipush (-2), 2) := by decide +kernel
theorem dX6_syndrome_38 : decode cX6_syndrome 38 = .ok (.ireturn, 1) := by decide +kernel
theorem dX6_syndrome_39 : decode cX6_syndrome 39 = .ok (.aload_n 0, 1) := by decide +kernel
theorem dX6_syndrome_40 : decode cX6_syndrome 40 = .ok (.getfield 21, 3) := by decide +kernel
theorem dX6_syndrome_43 : decode cX6_syndrome 43 = .ok (.aload_n 0, 1) := by decide +kernel
theorem dX6_syndrome_44 : decode cX6_syndrome 44 = .ok (.getfield 36, 3) := by decide +kernel
theorem dX6_syndrome_47 : decode cX6_syndrome 47 = .ok (.iload_n 1, 1) := by decide +kernel
theorem dX6_syndrome_48 : decode cX6_syndrome 48 = .ok (.aaload, 1) := by decide +kernel
theorem dX6_syndrome_49 : decode cX6_syndrome 49 = .ok (.getfield 177, 3) := by decide +kernel
theorem dX6_syndrome_52 : decode cX6_syndrome 52 = .ok (.invokevirtual 199, 3) := by decide +kernel
theorem dX6_syndrome_55 : decode cX6_syndrome 55 = .ok (.pop, 1) := by decide +kernel
theorem dX6_syndrome_56 : decode cX6_syndrome 56 = .ok (.aload_n 0, 1) := by decide +kernel
theorem dX6_syndrome_57 : decode cX6_syndrome 57 = .ok (.getfield 21, 3) := by decide +kernel
theorem dX6_syndrome_60 : decode cX6_syndrome 60 = .ok (.iload_n 2, 1) := by decide +kernel
theorem dX6_syndrome_61 : decode cX6_syndrome 61 = .ok (.invokevirtual 203, 3) := by decide +kernel
theorem dX6_syndrome_64 : decode cX6_syndrome 64 = .ok (.ireturn, 1) := by decide +kernel
theorem dX6_copy_0 : decode cX6_copy 0 = .ok (.aload_n 0, 1) := by decide +kernel
theorem dX6_copy_1 : decode cX6_copy 1 = .ok (.getfield 84, 3) := by decide +kernel
theorem dX6_copy_4 : decode cX6_copy 4 = .ok (.ifCond .ne 6, 3) := by decide +kernel
theorem dX6_copy_7 : decode cX6_copy 7 = .ok (.bipush (-3), 2) := by decide +kernel
theorem dX6_copy_9 : decode cX6_copy 9 = .ok (.ireturn, 1) := by decide +kernel
theorem dX6_copy_10 : decode cX6_copy 10 = .ok (.aload_n 0, 1) := by decide +kernel
theorem dX6_copy_11 : decode cX6_copy 11 = .ok (.iload_n 1, 1) := by decide +kernel
theorem dX6_copy_12 : decode cX6_copy 12 = .ok (.invokevirtual 143, 3) := by decide +kernel
theorem dX6_copy_15 : decode cX6_copy 15 = .ok (.ifCond .eq 11, 3) := by decide +kernel
theorem dX6_copy_18 : decode cX6_copy 18 = .ok (.aload_n 0, 1) := by decide +kernel
theorem dX6_copy_19 : decode cX6_copy 19 = .ok (.iload_n 2, 1) := by decide +kernel
theorem dX6_copy_20 : decode cX6_copy 20 = .ok (.invokevirtual 143, 3) := by decide +kernel
theorem dX6_copy_23 : decode cX6_copy 23 = .ok (.ifCond .ne 6, 3) := by decide +kernel
theorem dX6_copy_26 : decode cX6_copy 26 = .ok (.bipush (-2), 2) := by decide +kernel
theorem dX6_copy_28 : decode cX6_copy 28 = .ok (.ireturn, 1) := by decide +kernel
theorem dX6_copy_29 : decode cX6_copy 29 = .ok (.aload_n 0, 1) := by decide +kernel
theorem dX6_copy_30 : decode cX6_copy 30 = .ok (.getfield 30, 3) := by decide +kernel
theorem dX6_copy_33 : decode cX6_copy 33 = .ok (.aload_n 0, 1) := by decide +kernel
theorem dX6_copy_34 : decode cX6_copy 34 = .ok (.getfield 36, 3) := by decide +kernel
theorem dX6_copy_37 : decode cX6_copy 37 = .ok (.iload_n 1, 1) := by decide +kernel
theorem dX6_copy_38 : decode cX6_copy 38 = .ok (.aaload, 1) := by decide +kernel
theorem dX6_copy_39 : decode cX6_copy 39 = .ok (.invokevirtual 180, 3) := by decide +kernel
theorem dX6_copy_42 : decode cX6_copy 42 = .ok (.bipush (-4), 2) := by decide +kernel
theorem dX6_copy_44 : decode cX6_copy 44 = .ok (.if_icmp .ne 6, 3) := by decide +kernel
theorem dX6_copy_47 : decode cX6_copy 47 = .ok (.bipush (-4), 2) := by decide +kernel
theorem dX6_copy_49 : decode cX6_copy 49 = .ok (.ireturn, 1) := by decide +kernel
theorem dX6_copy_50 : decode cX6_copy 50 = .ok (.aload_n 0, 1) := by decide +kernel
theorem dX6_copy_51 : decode cX6_copy 51 = .ok (.aload_n 0, 1) := by decide +kernel
theorem dX6_copy_52 : decode cX6_copy 52 = .ok (.getfield 36, 3) := by decide +kernel
theorem dX6_copy_55 : decode cX6_copy 55 = .ok (.iload_n 2, 1) := by decide +kernel
theorem dX6_copy_56 : decode cX6_copy 56 = .ok (.aaload, 1) := by decide +kernel
theorem dX6_copy_57 : decode cX6_copy 57 = .ok (.invokevirtual 206, 3) := by decide +kernel
theorem dX6_copy_60 : decode cX6_copy 60 = .ok (.ireturn, 1) := by decide +kernel
theorem dX6_refresh_0 : decode cX6_refresh 0 = .ok (.aload_n 0, 1) := by decide +kernel
theorem dX6_refresh_1 : decode cX6_refresh 1 = .ok (.getfield 84, 3) := by decide +kernel
theorem dX6_refresh_4 : decode cX6_refresh 4 = .ok (.ifCond .ne 6, 3) := by decide +kernel
theorem dX6_refresh_7 : decode cX6_refresh 7 = .ok (.bipush (-3), 2) := by decide +kernel
theorem dX6_refresh_9 : decode cX6_refresh 9 = .ok (.ireturn, 1) := by decide +kernel
theorem dX6_refresh_10 : decode cX6_refresh 10 = .ok (.iload_n 1, 1) := by decide +kernel
theorem dX6_refresh_11 : decode cX6_refresh 11 = .ok (.ifCond .lt 9, 3) := by decide +kernel
theorem dX6_refresh_14 : decode cX6_refresh 14 = .ok (.iload_n 1, 1) := by decide +kernel
theorem dX6_refresh_15 : decode cX6_refresh 15 = .ok (.bipush 64, 2) := by decide +kernel
theorem dX6_refresh_17 : decode cX6_refresh 17 = .ok (.if_icmp .le 6, 3) := by decide +kernel
theorem dX6_refresh_20 : decode cX6_refresh 20 = .ok (.bipush (-2), 2) := by decide +kernel
theorem dX6_refresh_22 : decode cX6_refresh 22 = .ok (.ireturn, 1) := by decide +kernel
theorem dX6_refresh_23 : decode cX6_refresh 23 = .ok (.iconst 0, 1) := by decide +kernel
theorem dX6_refresh_24 : decode cX6_refresh 24 = .ok (.istore_n 2, 1) := by decide +kernel
theorem dX6_refresh_25 : decode cX6_refresh 25 = .ok (.iconst 0, 1) := by decide +kernel
theorem dX6_refresh_26 : decode cX6_refresh 26 = .ok (.istore_n 3, 1) := by decide +kernel
theorem dX6_refresh_27 : decode cX6_refresh 27 = .ok (.iload_n 3, 1) := by decide +kernel
theorem dX6_refresh_28 : decode cX6_refresh 28 = .ok (.bipush 16, 2) := by decide +kernel
theorem dX6_refresh_30 : decode cX6_refresh 30 = .ok (.if_icmp .ge 51, 3) := by decide +kernel
theorem dX6_refresh_33 : decode cX6_refresh 33 = .ok (.aload_n 0, 1) := by decide +kernel
theorem dX6_refresh_34 : decode cX6_refresh 34 = .ok (.getfield 30, 3) := by decide +kernel
theorem dX6_refresh_37 : decode cX6_refresh 37 = .ok (.aload_n 0, 1) := by decide +kernel
theorem dX6_refresh_38 : decode cX6_refresh 38 = .ok (.getfield 36, 3) := by decide +kernel
theorem dX6_refresh_41 : decode cX6_refresh 41 = .ok (.iload_n 3, 1) := by decide +kernel
theorem dX6_refresh_42 : decode cX6_refresh 42 = .ok (.aaload, 1) := by decide +kernel
theorem dX6_refresh_43 : decode cX6_refresh 43 = .ok (.invokevirtual 180, 3) := by decide +kernel
theorem dX6_refresh_46 : decode cX6_refresh 46 = .ok (.istore 4, 2) := by decide +kernel
theorem dX6_refresh_48 : decode cX6_refresh 48 = .ok (.iload 4, 2) := by decide +kernel
theorem dX6_refresh_50 : decode cX6_refresh 50 = .ok (.bipush (-4), 2) := by decide +kernel
theorem dX6_refresh_52 : decode cX6_refresh 52 = .ok (.if_icmp .eq 23, 3) := by decide +kernel
theorem dX6_refresh_55 : decode cX6_refresh 55 = .ok (.iload 4, 2) := by decide +kernel
theorem dX6_refresh_57 : decode cX6_refresh 57 = .ok (.iload_n 1, 1) := by decide +kernel
theorem dX6_refresh_58 : decode cX6_refresh 58 = .ok (.if_icmp .lt 17, 3) := by decide +kernel
theorem dX6_refresh_61 : decode cX6_refresh 61 = .ok (.aload_n 0, 1) := by decide +kernel
theorem dX6_refresh_62 : decode cX6_refresh 62 = .ok (.aload_n 0, 1) := by decide +kernel
theorem dX6_refresh_63 : decode cX6_refresh 63 = .ok (.getfield 36, 3) := by decide +kernel
theorem dX6_refresh_66 : decode cX6_refresh 66 = .ok (.iload_n 3, 1) := by decide +kernel
theorem dX6_refresh_67 : decode cX6_refresh 67 = .ok (.aaload, 1) := by decide +kernel
theorem dX6_refresh_68 : decode cX6_refresh 68 = .ok (.invokevirtual 206, 3) := by decide +kernel
theorem dX6_refresh_71 : decode cX6_refresh 71 = .ok (.pop, 1) := by decide +kernel
theorem dX6_refresh_72 : decode cX6_refresh 72 = .ok (.iinc 2 1, 3) := by decide +kernel
theorem dX6_refresh_75 : decode cX6_refresh 75 = .ok (.iinc 3 1, 3) := by decide +kernel
theorem dX6_refresh_78 : decode cX6_refresh 78 = .ok (.goto (-51), 3) := by decide +kernel
theorem dX6_refresh_81 : decode cX6_refresh 81 = .ok (.iload_n 2, 1) := by decide +kernel
theorem dX6_refresh_82 : decode cX6_refresh 82 = .ok (.ireturn, 1) := by decide +kernel
theorem dX6_told_0 : decode cX6_told 0 = .ok (.aload_n 0, 1) := by decide +kernel
theorem dX6_told_1 : decode cX6_told 1 = .ok (.getfield 84, 3) := by decide +kernel
theorem dX6_told_4 : decode cX6_told 4 = .ok (.ifCond .ne 6, 3) := by decide +kernel
theorem dX6_told_7 : decode cX6_told 7 = .ok (.bipush (-3), 2) := by decide +kernel
theorem dX6_told_9 : decode cX6_told 9 = .ok (.ireturn, 1) := by decide +kernel
theorem dX6_told_10 : decode cX6_told 10 = .ok (.aload_n 0, 1) := by decide +kernel
theorem dX6_told_11 : decode cX6_told 11 = .ok (.iload_n 1, 1) := by decide +kernel
theorem dX6_told_12 : decode cX6_told 12 = .ok (.invokevirtual 143, 3) := by decide +kernel
theorem dX6_told_15 : decode cX6_told 15 = .ok (.ifCond .eq 13, 3) := by decide +kernel
theorem dX6_told_18 : decode cX6_told 18 = .ok (.iload_n 2, 1) := by decide +kernel
theorem dX6_told_19 : decode cX6_told 19 = .ok (.ifCond .lt 9, 3) := by decide +kernel
theorem dX6_told_22 : decode cX6_told 22 = .ok (.iload_n 2, 1) := by decide +kernel
theorem dX6_told_23 : decode cX6_told 23 = .ok (.bipush 19, 2) := by decide +kernel
theorem dX6_told_25 : decode cX6_told 25 = .ok (.if_icmp .le 6, 3) := by decide +kernel
theorem dX6_told_28 : decode cX6_told 28 = .ok (.bipush (-2), 2) := by decide +kernel
theorem dX6_told_30 : decode cX6_told 30 = .ok (.ireturn, 1) := by decide +kernel
theorem dX6_told_31 : decode cX6_told 31 = .ok (.aload_n 0, 1) := by decide +kernel
theorem dX6_told_32 : decode cX6_told 32 = .ok (.getfield 36, 3) := by decide +kernel
theorem dX6_told_35 : decode cX6_told 35 = .ok (.iload_n 1, 1) := by decide +kernel
theorem dX6_told_36 : decode cX6_told 36 = .ok (.aaload, 1) := by decide +kernel
theorem dX6_told_37 : decode cX6_told 37 = .ok (.astore_n 3, 1) := by decide +kernel
theorem dX6_told_38 : decode cX6_told 38 = .ok (.iload_n 2, 1) := by decide +kernel
theorem dX6_told_39 : decode cX6_told 39 = .ok (.tableswitch 66 0 3 #[29, 34, 42, 50], 29) := by decide +kernel
theorem dX6_told_68 : decode cX6_told 68 = .ok (.aload_n 3, 1) := by decide +kernel
theorem dX6_told_69 : decode cX6_told 69 = .ok (.getfield 153, 3) := by decide +kernel
theorem dX6_told_72 : decode cX6_told 72 = .ok (.ireturn, 1) := by decide +kernel
theorem dX6_told_73 : decode cX6_told 73 = .ok (.aload_n 3, 1) := by decide +kernel
theorem dX6_told_74 : decode cX6_told 74 = .ok (.getfield 171, 3) := by decide +kernel
theorem dX6_told_77 : decode cX6_told 77 = .ok (.invokevirtual 168, 3) := by decide +kernel
theorem dX6_told_80 : decode cX6_told 80 = .ok (.ireturn, 1) := by decide +kernel
theorem dX6_told_81 : decode cX6_told 81 = .ok (.aload_n 3, 1) := by decide +kernel
theorem dX6_told_82 : decode cX6_told 82 = .ok (.getfield 165, 3) := by decide +kernel
theorem dX6_told_85 : decode cX6_told 85 = .ok (.invokevirtual 168, 3) := by decide +kernel
theorem dX6_told_88 : decode cX6_told 88 = .ok (.ireturn, 1) := by decide +kernel
theorem dX6_told_89 : decode cX6_told 89 = .ok (.aload_n 0, 1) := by decide +kernel
theorem dX6_told_90 : decode cX6_told 90 = .ok (.getfield 21, 3) := by decide +kernel
theorem dX6_told_93 : decode cX6_told 93 = .ok (.getfield 193, 3) := by decide +kernel
theorem dX6_told_96 : decode cX6_told 96 = .ok (.aload_n 3, 1) := by decide +kernel
theorem dX6_told_97 : decode cX6_told 97 = .ok (.getfield 177, 3) := by decide +kernel
theorem dX6_told_100 : decode cX6_told 100 = .ok (.invokevirtual 168, 3) := by decide +kernel
theorem dX6_told_103 : decode cX6_told 103 = .ok (.isub, 1) := by decide +kernel
theorem dX6_told_104 : decode cX6_told 104 = .ok (.ireturn, 1) := by decide +kernel
theorem dX6_told_105 : decode cX6_told 105 = .ok (.aload_n 3, 1) := by decide +kernel
theorem dX6_told_106 : decode cX6_told 106 = .ok (.getfield 177, 3) := by decide +kernel
theorem dX6_told_109 : decode cX6_told 109 = .ok (.aload_n 0, 1) := by decide +kernel
theorem dX6_told_110 : decode cX6_told 110 = .ok (.getfield 36, 3) := by decide +kernel
theorem dX6_told_113 : decode cX6_told 113 = .ok (.iload_n 1, 1) := by decide +kernel
theorem dX6_told_114 : decode cX6_told 114 = .ok (.iload_n 2, 1) := by decide +kernel
theorem dX6_told_115 : decode cX6_told 115 = .ok (.iadd, 1) := by decide +kernel
theorem dX6_told_116 : decode cX6_told 116 = .ok (.iconst 4, 1) := by decide +kernel
theorem dX6_told_117 : decode cX6_told 117 = .ok (.isub, 1) := by decide +kernel
theorem dX6_told_118 : decode cX6_told 118 = .ok (.bipush 15, 2) := by decide +kernel
theorem dX6_told_120 : decode cX6_told 120 = .ok (.iand, 1) := by decide +kernel
theorem dX6_told_121 : decode cX6_told 121 = .ok (.aaload, 1) := by decide +kernel
theorem dX6_told_122 : decode cX6_told 122 = .ok (.getfield 177, 3) := by decide +kernel
theorem dX6_told_125 : decode cX6_told 125 = .ok (.invokevirtual 209, 3) := by decide +kernel
theorem dX6_told_128 : decode cX6_told 128 = .ok (.ireturn, 1) := by decide +kernel
theorem dX6_about_0 : decode cX6_about 0 = .ok (.aload_n 0, 1) := by decide +kernel
theorem dX6_about_1 : decode cX6_about 1 = .ok (.getfield 84, 3) := by decide +kernel
theorem dX6_about_4 : decode cX6_about 4 = .ok (.ifCond .ne 6, 3) := by decide +kernel
theorem dX6_about_7 : decode cX6_about 7 = .ok (.bipush (-3), 2) := by decide +kernel
theorem dX6_about_9 : decode cX6_about 9 = .ok (.ireturn, 1) := by decide +kernel
theorem dX6_about_10 : decode cX6_about 10 = .ok (.iload_n 1, 1) := by decide +kernel
theorem dX6_about_11 : decode cX6_about 11 = .ok (.tableswitch 100 0 7 #[45, 53, 61, 69, 77, 85, 90, 95], 45) := by decide +kernel
theorem dX6_about_56 : decode cX6_about 56 = .ok (.aload_n 0, 1) := by decide +kernel
theorem dX6_about_57 : decode cX6_about 57 = .ok (.getfield 12, 3) := by decide +kernel
theorem dX6_about_60 : decode cX6_about 60 = .ok (.getfield 212, 3) := by decide +kernel
theorem dX6_about_63 : decode cX6_about 63 = .ok (.ireturn, 1) := by decide +kernel
theorem dX6_about_64 : decode cX6_about 64 = .ok (.aload_n 0, 1) := by decide +kernel
theorem dX6_about_65 : decode cX6_about 65 = .ok (.getfield 21, 3) := by decide +kernel
theorem dX6_about_68 : decode cX6_about 68 = .ok (.getfield 196, 3) := by decide +kernel
theorem dX6_about_71 : decode cX6_about 71 = .ok (.ireturn, 1) := by decide +kernel
theorem dX6_about_72 : decode cX6_about 72 = .ok (.aload_n 0, 1) := by decide +kernel
theorem dX6_about_73 : decode cX6_about 73 = .ok (.getfield 21, 3) := by decide +kernel
theorem dX6_about_76 : decode cX6_about 76 = .ok (.getfield 129, 3) := by decide +kernel
theorem dX6_about_79 : decode cX6_about 79 = .ok (.ireturn, 1) := by decide +kernel
theorem dX6_about_80 : decode cX6_about 80 = .ok (.aload_n 0, 1) := by decide +kernel
theorem dX6_about_81 : decode cX6_about 81 = .ok (.getfield 21, 3) := by decide +kernel
theorem dX6_about_84 : decode cX6_about 84 = .ok (.getfield 114, 3) := by decide +kernel
theorem dX6_about_87 : decode cX6_about 87 = .ok (.ireturn, 1) := by decide +kernel
theorem dX6_about_88 : decode cX6_about 88 = .ok (.aload_n 0, 1) := by decide +kernel
theorem dX6_about_89 : decode cX6_about 89 = .ok (.getfield 21, 3) := by decide +kernel
theorem dX6_about_92 : decode cX6_about 92 = .ok (.getfield 193, 3) := by decide +kernel
theorem dX6_about_95 : decode cX6_about 95 = .ok (.ireturn, 1) := by decide +kernel
theorem dX6_about_96 : decode cX6_about 96 = .ok (.aload_n 0, 1) := by decide +kernel
theorem dX6_about_97 : decode cX6_about 97 = .ok (.getfield 74, 3) := by decide +kernel
theorem dX6_about_100 : decode cX6_about 100 = .ok (.ireturn, 1) := by decide +kernel
theorem dX6_about_101 : decode cX6_about 101 = .ok (.aload_n 0, 1) := by decide +kernel
theorem dX6_about_102 : decode cX6_about 102 = .ok (.getfield 78, 3) := by decide +kernel
theorem dX6_about_105 : decode cX6_about 105 = .ok (.ireturn, 1) := by decide +kernel
theorem dX6_about_106 : decode cX6_about 106 = .ok (.aload_n 0, 1) := by decide +kernel
theorem dX6_about_107 : decode cX6_about 107 = .ok (.getfield 81, 3) := by decide +kernel
theorem dX6_about_110 : decode cX6_about 110 = .ok (.ireturn, 1) := by decide +kernel
theorem dX6_about_111 : decode cX6_about 111 = .ok (.bipush (-2), 2) := by decide +kernel
theorem dX6_about_113 : decode cX6_about 113 = .ok (.ireturn, 1) := by decide +kernel
theorem dX6_hasByte_0 : decode cX6_hasByte 0 = .ok (.iload_n 1, 1) := by decide +kernel
theorem dX6_hasByte_1 : decode cX6_hasByte 1 = .ok (.ifCond .lt 18, 3) := by decide +kernel
theorem dX6_hasByte_4 : decode cX6_hasByte 4 = .ok (.iload_n 1, 1) := by decide +kernel
theorem dX6_hasByte_5 : decode cX6_hasByte 5 = .ok (.aload_n 0, 1) := by decide +kernel
theorem dX6_hasByte_6 : decode cX6_hasByte 6 = .ok (.getfield 21, 3) := by decide +kernel
theorem dX6_hasByte_9 : decode cX6_hasByte 9 = .ok (.getfield 129, 3) := by decide +kernel
theorem dX6_hasByte_12 : decode cX6_hasByte 12 = .ok (.if_icmp .ge 7, 3) := by decide +kernel
theorem dX6_hasByte_15 : decode cX6_hasByte 15 = .ok (.iconst 1, 1) := by decide +kernel
theorem dX6_hasByte_16 : decode cX6_hasByte 16 = .ok (.goto 4, 3) := by decide +kernel
theorem dX6_hasByte_19 : decode cX6_hasByte 19 = .ok (.iconst 0, 1) := by decide +kernel
theorem dX6_hasByte_20 : decode cX6_hasByte 20 = .ok (.ireturn, 1) := by decide +kernel
theorem dX6_hasPage_0 : decode cX6_hasPage 0 = .ok (.iload_n 1, 1) := by decide +kernel
theorem dX6_hasPage_1 : decode cX6_hasPage 1 = .ok (.ifCond .lt 13, 3) := by decide +kernel
theorem dX6_hasPage_4 : decode cX6_hasPage 4 = .ok (.iload_n 1, 1) := by decide +kernel
theorem dX6_hasPage_5 : decode cX6_hasPage 5 = .ok (.bipush 16, 2) := by decide +kernel
theorem dX6_hasPage_7 : decode cX6_hasPage 7 = .ok (.if_icmp .ge 7, 3) := by decide +kernel
theorem dX6_hasPage_10 : decode cX6_hasPage 10 = .ok (.iconst 1, 1) := by decide +kernel
theorem dX6_hasPage_11 : decode cX6_hasPage 11 = .ok (.goto 4, 3) := by decide +kernel
theorem dX6_hasPage_14 : decode cX6_hasPage 14 = .ok (.iconst 0, 1) := by decide +kernel
theorem dX6_hasPage_15 : decode cX6_hasPage 15 = .ok (.ireturn, 1) := by decide +kernel
theorem dX6_hasBit_0 : decode cX6_hasBit 0 = .ok (.iload_n 1, 1) := by decide +kernel
theorem dX6_hasBit_1 : decode cX6_hasBit 1 = .ok (.ifCond .lt 18, 3) := by decide +kernel
theorem dX6_hasBit_4 : decode cX6_hasBit 4 = .ok (.iload_n 1, 1) := by decide +kernel
theorem dX6_hasBit_5 : decode cX6_hasBit 5 = .ok (.aload_n 0, 1) := by decide +kernel
theorem dX6_hasBit_6 : decode cX6_hasBit 6 = .ok (.getfield 21, 3) := by decide +kernel
theorem dX6_hasBit_9 : decode cX6_hasBit 9 = .ok (.getfield 193, 3) := by decide +kernel
theorem dX6_hasBit_12 : decode cX6_hasBit 12 = .ok (.if_icmp .ge 7, 3) := by decide +kernel
theorem dX6_hasBit_15 : decode cX6_hasBit 15 = .ok (.iconst 1, 1) := by decide +kernel
theorem dX6_hasBit_16 : decode cX6_hasBit 16 = .ok (.goto 4, 3) := by decide +kernel
theorem dX6_hasBit_19 : decode cX6_hasBit 19 = .ok (.iconst 0, 1) := by decide +kernel
theorem dX6_hasBit_20 : decode cX6_hasBit 20 = .ok (.ireturn, 1) := by decide +kernel
theorem dX6_rewrite_0 : decode cX6_rewrite 0 = .ok (.aload_n 1, 1) := by decide +kernel
theorem dX6_rewrite_1 : decode cX6_rewrite 1 = .ok (.aload_n 0, 1) := by decide +kernel
theorem dX6_rewrite_2 : decode cX6_rewrite 2 = .ok (.getfield 21, 3) := by decide +kernel
theorem dX6_rewrite_5 : decode cX6_rewrite 5 = .ok (.getfield 64, 3) := by decide +kernel
theorem dX6_rewrite_8 : decode cX6_rewrite 8 = .ok (.invokevirtual 150, 3) := by decide +kernel
theorem dX6_rewrite_11 : decode cX6_rewrite 11 = .ok (.aload_n 1, 1) := by decide +kernel
theorem dX6_rewrite_12 : decode cX6_rewrite 12 = .ok (.aload_n 0, 1) := by decide +kernel
theorem dX6_rewrite_13 : decode cX6_rewrite 13 = .ok (.getfield 30, 3) := by decide +kernel
theorem dX6_rewrite_16 : decode cX6_rewrite 16 = .ok (.getfield 184, 3) := by decide +kernel
theorem dX6_rewrite_19 : decode cX6_rewrite 19 = .ok (.invokevirtual 146, 3) := by decide +kernel
theorem dX6_rewrite_22 : decode cX6_rewrite 22 = .ok (.ireturn, 1) := by decide +kernel
