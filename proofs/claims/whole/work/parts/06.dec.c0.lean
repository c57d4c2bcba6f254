theorem dX7_init_0 : decode cX7_init 0 = .ok (.aload_n 0, 1) := by decide +kernel
theorem dX7_init_1 : decode cX7_init 1 = .ok (.invokespecial 1, 3) := by decide +kernel
theorem dX7_init_4 : decode cX7_init 4 = .ok (.aload_n 0, 1) := by decide +kernel
theorem dX7_init_5 : decode cX7_init 5 = .ok (.sipush 8192, 3) := by decide +kernel
theorem dX7_init_8 : decode cX7_init 8 = .ok (.newarray .int, 2) := by decide +kernel
theorem dX7_init_10 : decode cX7_init 10 = .ok (.putfield 7, 3) := by decide +kernel
theorem dX7_init_13 : decode cX7_init 13 = .ok (.aload_n 0, 1) := by decide +kernel
theorem dX7_init_14 : decode cX7_init 14 = .ok (.sipush 8192, 3) := by decide +kernel
theorem dX7_init_17 : decode cX7_init 17 = .ok (.newarray .int, 2) := by decide +kernel
theorem dX7_init_19 : decode cX7_init 19 = .ok (.putfield 13, 3) := by decide +kernel
theorem dX7_init_22 : decode cX7_init 22 = .ok (.aload_n 0, 1) := by decide +kernel
theorem dX7_init_23 : decode cX7_init 23 = .ok (.sipush 210, 3) := by decide +kernel
theorem dX7_init_26 : decode cX7_init 26 = .ok (.newarray .int, 2) := by decide +kernel
theorem dX7_init_28 : decode cX7_init 28 = .ok (.putfield 16, 3) := by decide +kernel
theorem dX7_init_31 : decode cX7_init 31 = .ok (.aload_n 0, 1) := by decide +kernel
theorem dX7_init_32 : decode cX7_init 32 = .ok (.sipush 256, 3) := by decide +kernel
theorem dX7_init_35 : decode cX7_init 35 = .ok (.newarray .int, 2) := by decide +kernel
theorem dX7_init_37 : decode cX7_init 37 = .ok (.putfield 19, 3) := by decide +kernel
theorem dX7_init_40 : decode cX7_init 40 = .ok (.aload_n 0, 1) := by decide +kernel
theorem dX7_init_41 : decode cX7_init 41 = .ok (.ldc 22, 2) := by decide +kernel
theorem dX7_init_43 : decode cX7_init 43 = .ok (.newarray .boolean, 2) := by decide +kernel
theorem dX7_init_45 : decode cX7_init 45 = .ok (.putfield 23, 3) := by decide +kernel
theorem dX7_init_48 : decode cX7_init 48 = .ok (.aload_n 0, 1) := by decide +kernel
theorem dX7_init_49 : decode cX7_init 49 = .ok (.ldc 22, 2) := by decide +kernel
theorem dX7_init_51 : decode cX7_init 51 = .ok (.newarray .int, 2) := by decide +kernel
theorem dX7_init_53 : decode cX7_init 53 = .ok (.putfield 27, 3) := by decide +kernel
theorem dX7_init_56 : decode cX7_init 56 = .ok (.aload_n 0, 1) := by decide +kernel
theorem dX7_init_57 : decode cX7_init 57 = .ok (.ldc 22, 2) := by decide +kernel
theorem dX7_init_59 : decode cX7_init 59 = .ok (.newarray .boolean, 2) := by decide +kernel
theorem dX7_init_61 : decode cX7_init 61 = .ok (.putfield 30, 3) := by decide +kernel
theorem dX7_init_64 : decode cX7_init 64 = .ok (.aload_n 0, 1) := by decide +kernel
theorem dX7_init_65 : decode cX7_init 65 = .ok (.bipush 16, 2) := by decide +kernel
theorem dX7_init_67 : decode cX7_init 67 = .ok (.newarray .int, 2) := by decide +kernel
theorem dX7_init_69 : decode cX7_init 69 = .ok (.putfield 33, 3) := by decide +kernel
theorem dX7_init_72 : decode cX7_init 72 = .ok (.aload_n 0, 1) := by decide +kernel
theorem dX7_init_73 : decode cX7_init 73 = .ok (.sipush 2200, 3) := by decide +kernel
theorem dX7_init_76 : decode cX7_init 76 = .ok (.newarray .int, 2) := by decide +kernel
theorem dX7_init_78 : decode cX7_init 78 = .ok (.putfield 36, 3) := by decide +kernel
theorem dX7_init_81 : decode cX7_init 81 = .ok (.aload_n 0, 1) := by decide +kernel
theorem dX7_init_82 : decode cX7_init 82 = .ok (.bipush 16, 2) := by decide +kernel
theorem dX7_init_84 : decode cX7_init 84 = .ok (.newarray .int, 2) := by decide +kernel
theorem dX7_init_86 : decode cX7_init 86 = .ok (.putfield 39, 3) := by decide +kernel
theorem dX7_init_89 : decode cX7_init 89 = .ok (.aload_n 0, 1) := by decide +kernel
theorem dX7_init_90 : decode cX7_init 90 = .ok (.sipush 210, 3) := by decide +kernel
theorem dX7_init_93 : decode cX7_init 93 = .ok (.newarray .int, 2) := by decide +kernel
theorem dX7_init_95 : decode cX7_init 95 = .ok (.putfield 42, 3) := by decide +kernel
theorem dX7_init_98 : decode cX7_init 98 = .ok (.aload_n 0, 1) := by decide +kernel
theorem dX7_init_99 : decode cX7_init 99 = .ok (.sipush 2200, 3) := by decide +kernel
theorem dX7_init_102 : decode cX7_init 102 = .ok (.newarray .boolean, 2) := by decide +kernel
theorem dX7_init_104 : decode cX7_init 104 = .ok (.putfield 45, 3) := by decide +kernel
theorem dX7_init_107 : decode cX7_init 107 = .ok (.aload_n 0, 1) := by decide +kernel
theorem dX7_init_108 : decode cX7_init 108 = .ok (.bipush 110, 2) := by decide +kernel
theorem dX7_init_110 : decode cX7_init 110 = .ok (.newarray .int, 2) := by decide +kernel
theorem dX7_init_112 : decode cX7_init 112 = .ok (.putfield 48, 3) := by decide +kernel
theorem dX7_init_115 : decode cX7_init 115 = .ok (.aload_n 0, 1) := by decide +kernel
theorem dX7_init_116 : decode cX7_init 116 = .ok (.bipush 17, 2) := by decide +kernel
theorem dX7_init_118 : decode cX7_init 118 = .ok (.newarray .int, 2) := by decide +kernel
theorem dX7_init_120 : decode cX7_init 120 = .ok (.putfield 51, 3) := by decide +kernel
theorem dX7_init_123 : decode cX7_init 123 = .ok (.aload_n 0, 1) := by decide +kernel
theorem dX7_init_124 : decode cX7_init 124 = .ok (.bipush 72, 2) := by decide +kernel
theorem dX7_init_126 : decode cX7_init 126 = .ok (.newarray .int, 2) := by decide +kernel
theorem dX7_init_128 : decode cX7_init 128 = .ok (.putfield 54, 3) := by decide +kernel
theorem dX7_init_131 : decode cX7_init 131 = .ok (.aload_n 0, 1) := by decide +kernel
theorem dX7_init_132 : decode cX7_init 132 = .ok (.bipush 9, 2) := by decide +kernel
theorem dX7_init_134 : decode cX7_init 134 = .ok (.newarray .int, 2) := by decide +kernel
theorem dX7_init_136 : decode cX7_init 136 = .ok (.putfield 57, 3) := by decide +kernel
theorem dX7_init_139 : decode cX7_init 139 = .ok (.return_, 1) := by decide +kernel
theorem dX7_within_0 : decode cX7_within 0 = .ok (.iload_n 0, 1) := by decide +kernel
theorem dX7_within_1 : decode cX7_within 1 = .ok (.iload_n 1, 1) := by decide +kernel
theorem dX7_within_2 : decode cX7_within 2 = .ok (.if_icmp .lt 12, 3) := by decide +kernel
theorem dX7_within_5 : decode cX7_within 5 = .ok (.iload_n 0, 1) := by decide +kernel
theorem dX7_within_6 : decode cX7_within 6 = .ok (.iload_n 2, 1) := by decide +kernel
theorem dX7_within_7 : decode cX7_within 7 = .ok (.if_icmp .gt 7, 3) := by decide +kernel
theorem dX7_within_10 : decode cX7_within 10 = .ok (.iconst 1, 1) := by decide +kernel
theorem dX7_within_11 : decode cX7_within 11 = .ok (.goto 4, 3) := by decide +kernel
theorem dX7_within_14 : decode cX7_within 14 = .ok (.iconst 0, 1) := by decide +kernel
theorem dX7_within_15 : decode cX7_within 15 = .ok (.ireturn, 1) := by decide +kernel
theorem dX7_polynomial_0 : decode cX7_polynomial 0 = .ok (.iload_n 0, 1) := by decide +kernel
theorem dX7_polynomial_1 : decode cX7_polynomial 1 = .ok (.tableswitch 91 3 12 #[55, 58, 61, 64, 67, 71, 75, 79, 83, 87], 55) := by decide +kernel
theorem dX7_polynomial_56 : decode cX7_polynomial 56 = .ok (.bipush 11, 2) := by decide +kernel
theorem dX7_polynomial_58 : decode cX7_polynomial 58 = .ok (.ireturn, 1) := by decide +kernel
theorem dX7_polynomial_59 : decode cX7_polynomial 59 = .ok (.bipush 19, 2) := by decide +kernel
theorem dX7_polynomial_61 : decode cX7_polynomial 61 = .ok (.ireturn, 1) := by decide +kernel
theorem dX7_polynomial_62 : decode cX7_polynomial 62 = .ok (.bipush 37, 2) := by decide +kernel
theorem dX7_polynomial_64 : decode cX7_polynomial 64 = .ok (.ireturn, 1) := by decide +kernel
theorem dX7_polynomial_65 : decode cX7_polynomial 65 = .ok (.bipush 67, 2) := by decide +kernel
theorem dX7_polynomial_67 : decode cX7_polynomial 67 = .ok (.ireturn, 1) := by decide +kernel
theorem dX7_polynomial_68 : decode cX7_polynomial 68 = .ok (.sipush 137, 3) := by decide +kernel
theorem dX7_polynomial_71 : decode cX7_polynomial 71 = .ok (.ireturn, 1) := by decide +kernel
theorem dX7_polynomial_72 : decode cX7_polynomial 72 = .ok (.sipush 285, 3) := by decide +kernel
theorem dX7_polynomial_75 : decode cX7_polynomial 75 = .ok (.ireturn, 1) := by decide +kernel
theorem dX7_polynomial_76 : decode cX7_polynomial 76 = .ok (.sipush 529, 3) := by decide +kernel
theorem dX7_polynomial_79 : decode cX7_polynomial 79 = .ok (.ireturn, 1) := by decide +kernel
theorem dX7_polynomial_80 : decode cX7_polynomial 80 = .ok (.sipush 1033, 3) := by decide +kernel
theorem dX7_polynomial_83 : decode cX7_polynomial 83 = .ok (.ireturn, 1) := by decide +kernel
theorem dX7_polynomial_84 : decode cX7_polynomial 84 = .ok (.sipush 2053, 3) := by decide +kernel
theorem dX7_polynomial_87 : decode cX7_polynomial 87 = .ok (.ireturn, 1) := by decide +kernel
theorem dX7_polynomial_88 : decode cX7_polynomial 88 = .ok (.sipush 4179, 3) := by decide +kernel
theorem dX7_polynomial_91 : decode cX7_polynomial 91 = .ok (.ireturn, 1) := by decide +kernel
theorem dX7_polynomial_92 : decode cX7_polynomial 92 = .ok (.sipush 8219, 3) := by decide +kernel
theorem dX7_polynomial_95 : decode cX7_polynomial 95 = .ok (.ireturn, 1) := by decide +kernel
theorem dX7_product_0 : decode cX7_product 0 = .ok (.iconst 0, 1) := by decide +kernel
theorem dX7_product_1 : decode cX7_product 1 = .ok (.istore_n 3, 1) := by decide +kernel
theorem dX7_product_2 : decode cX7_product 2 = .ok (.iload_n 2, 1) := by decide +kernel
theorem dX7_product_3 : decode cX7_product 3 = .ok (.iconst 1, 1) := by decide +kernel
theorem dX7_product_4 : decode cX7_product 4 = .ok (.isub, 1) := by decide +kernel
theorem dX7_product_5 : decode cX7_product 5 = .ok (.istore 4, 2) := by decide +kernel
theorem dX7_product_7 : decode cX7_product 7 = .ok (.iload 4, 2) := by decide +kernel
theorem dX7_product_9 : decode cX7_product 9 = .ok (.ifCond .lt 51, 3) := by decide +kernel
theorem dX7_product_12 : decode cX7_product 12 = .ok (.iload_n 3, 1) := by decide +kernel
theorem dX7_product_13 : decode cX7_product 13 = .ok (.iconst 1, 1) := by decide +kernel
theorem dX7_product_14 : decode cX7_product 14 = .ok (.ishl, 1) := by decide +kernel
theorem dX7_product_15 : decode cX7_product 15 = .ok (.istore_n 3, 1) := by decide +kernel
theorem dX7_product_16 : decode cX7_product 16 = .ok (.iload_n 3, 1) := by decide +kernel
theorem dX7_product_17 : decode cX7_product 17 = .ok (.iload_n 2, 1) := by decide +kernel
theorem dX7_product_18 : decode cX7_product 18 = .ok (.ishr, 1) := by decide +kernel
theorem dX7_product_19 : decode cX7_product 19 = .ok (.iconst 1, 1) := by decide +kernel
theorem dX7_product_20 : decode cX7_product 20 = .ok (.iand, 1) := by decide +kernel
theorem dX7_product_21 : decode cX7_product 21 = .ok (.iconst 1, 1) := by decide +kernel
theorem dX7_product_22 : decode cX7_product 22 = .ok (.if_icmp .ne 12, 3) := by decide +kernel
theorem dX7_product_25 : decode cX7_product 25 = .ok (.iload_n 3, 1) := by decide +kernel
theorem dX7_product_26 : decode cX7_product 26 = .ok (.iload_n 2, 1) := by decide +kernel
theorem dX7_product_27 : decode cX7_product 27 = .ok (.invokestatic 60, 3) := by decide +kernel
theorem dX7_product_30 : decode cX7_product 30 = .ok (.ixor, 1) := by decide +kernel
theorem dX7_product_31 : decode cX7_product 31 = .ok (.goto 4, 3) := by decide +kernel
theorem dX7_product_34 : decode cX7_product 34 = .ok (.iload_n 3, 1) := by decide +kernel
theorem dX7_product_35 : decode cX7_product 35 = .ok (.istore_n 3, 1) := by decide +kernel
theorem dX7_product_36 : decode cX7_product 36 = .ok (.iload_n 3, 1) := by decide +kernel
theorem dX7_product_37 : decode cX7_product 37 = .ok (.iload_n 1, 1) := by decide +kernel
theorem dX7_product_38 : decode cX7_product 38 = .ok (.iload 4, 2) := by decide +kernel
theorem dX7_product_40 : decode cX7_product 40 = .ok (.ishr, 1) := by decide +kernel
theorem dX7_product_41 : decode cX7_product 41 = .ok (.iconst 1, 1) := by decide +kernel
theorem dX7_product_42 : decode cX7_product 42 = .ok (.iand, 1) := by decide +kernel
theorem dX7_product_43 : decode cX7_product 43 = .ok (.iconst 1, 1) := by decide +kernel
theorem dX7_product_44 : decode cX7_product 44 = .ok (.if_icmp .ne 7, 3) := by decide +kernel
theorem dX7_product_47 : decode cX7_product 47 = .ok (.iload_n 0, 1) := by decide +kernel
theorem dX7_product_48 : decode cX7_product 48 = .ok (.goto 4, 3) := by decide +kernel
theorem dX7_product_51 : decode cX7_product 51 = .ok (.iconst 0, 1) := by decide +kernel
theorem dX7_product_52 : decode cX7_product 52 = .ok (.ixor, 1) := by decide +kernel
theorem dX7_product_53 : decode cX7_product 53 = .ok (.istore_n 3, 1) := by decide +kernel
theorem dX7_product_54 : decode cX7_product 54 = .ok (.iinc 4 (-1), 3) := by decide +kernel
theorem dX7_product_57 : decode cX7_product 57 = .ok (.goto (-50), 3) := by decide +kernel
theorem dX7_product_60 : decode cX7_product 60 = .ok (.iload_n 3, 1) := by decide +kernel
theorem dX7_product_61 : decode cX7_product 61 = .ok (.ireturn, 1) := by decide +kernel
theorem dX7_by_0 : decode cX7_by 0 = .ok (.iload_n 1, 1) := by decide +kernel
theorem dX7_by_1 : decode cX7_by 1 = .ok (.ifCond .eq 7, 3) := by decide +kernel
theorem dX7_by_4 : decode cX7_by 4 = .ok (.iload_n 2, 1) := by decide +kernel
theorem dX7_by_5 : decode cX7_by 5 = .ok (.ifCond .ne 7, 3) := by decide +kernel
theorem dX7_by_8 : decode cX7_by 8 = .ok (.iconst 0, 1) := by decide +kernel
theorem dX7_by_9 : decode cX7_by 9 = .ok (.goto 26, 3) := by decide +kernel
theorem dX7_by_12 : decode cX7_by 12 = .ok (.aload_n 0, 1) := by decide +kernel
theorem dX7_by_13 : decode cX7_by 13 = .ok (.getfield 7, 3) := by decide +kernel
theorem dX7_by_16 : decode cX7_by 16 = .ok (.aload_n 0, 1) := by decide +kernel
theorem dX7_by_17 : decode cX7_by 17 = .ok (.getfield 13, 3) := by decide +kernel
theorem dX7_by_20 : decode cX7_by 20 = .ok (.iload_n 1, 1) := by decide +kernel
theorem dX7_by_21 : decode cX7_by 21 = .ok (.iaload, 1) := by decide +kernel
theorem dX7_by_22 : decode cX7_by 22 = .ok (.aload_n 0, 1) := by decide +kernel
theorem dX7_by_23 : decode cX7_by 23 = .ok (.getfield 13, 3) := by decide +kernel
theorem dX7_by_26 : decode cX7_by 26 = .ok (.iload_n 2, 1) := by decide +kernel
theorem dX7_by_27 : decode cX7_by 27 = .ok (.iaload, 1) := by decide +kernel
theorem dX7_by_28 : decode cX7_by 28 = .ok (.iadd, 1) := by decide +kernel
theorem dX7_by_29 : decode cX7_by 29 = .ok (.aload_n 0, 1) := by decide +kernel
theorem dX7_by_30 : decode cX7_by 30 = .ok (.getfield 64, 3) := by decide +kernel
theorem dX7_by_33 : decode cX7_by 33 = .ok (.irem, 1) := by decide +kernel
theorem dX7_by_34 : decode cX7_by 34 = .ok (.iaload, 1) := by decide +kernel
theorem dX7_by_35 : decode cX7_by 35 = .ok (.ireturn, 1) := by decide +kernel
theorem dX7_exponent_0 : decode cX7_exponent 0 = .ok (.lload_n 1, 1) := by decide +kernel
theorem dX7_exponent_1 : decode cX7_exponent 1 = .ok (.aload_n 0, 1) := by decide +kernel
theorem dX7_exponent_2 : decode cX7_exponent 2 = .ok (.getfield 64, 3) := by decide +kernel
theorem dX7_exponent_5 : decode cX7_exponent 5 = .ok (.i2l, 1) := by decide +kernel
theorem dX7_exponent_6 : decode cX7_exponent 6 = .ok (.lrem, 1) := by decide +kernel
theorem dX7_exponent_7 : decode cX7_exponent 7 = .ok (.aload_n 0, 1) := by decide +kernel
theorem dX7_exponent_8 : decode cX7_exponent 8 = .ok (.getfield 64, 3) := by decide +kernel
theorem dX7_exponent_11 : decode cX7_exponent 11 = .ok (.i2l, 1) := by decide +kernel
theorem dX7_exponent_12 : decode cX7_exponent 12 = .ok (.ladd, 1) := by decide +kernel
theorem dX7_exponent_13 : decode cX7_exponent 13 = .ok (.aload_n 0, 1) := by decide +kernel
theorem dX7_exponent_14 : decode cX7_exponent 14 = .ok (.getfield 64, 3) := by decide +kernel
theorem dX7_exponent_17 : decode cX7_exponent 17 = .ok (.i2l, 1) := by decide +kernel
theorem dX7_exponent_18 : decode cX7_exponent 18 = .ok (.lrem, 1) := by decide +kernel
theorem dX7_exponent_19 : decode cX7_exponent 19 = .ok (.l2i, 1) := by decide +kernel
theorem dX7_exponent_20 : decode cX7_exponent 20 = .ok (.ireturn, 1) := by decide +kernel
theorem dX7_over_0 : decode cX7_over 0 = .ok (.aload_n 0, 1) := by decide +kernel
theorem dX7_over_1 : decode cX7_over 1 = .ok (.getfield 7, 3) := by decide +kernel
theorem dX7_over_4 : decode cX7_over 4 = .ok (.aload_n 0, 1) := by decide +kernel
theorem dX7_over_5 : decode cX7_over 5 = .ok (.getfield 64, 3) := by decide +kernel
theorem dX7_over_8 : decode cX7_over 8 = .ok (.aload_n 0, 1) := by decide +kernel
theorem dX7_over_9 : decode cX7_over 9 = .ok (.getfield 13, 3) := by decide +kernel
theorem dX7_over_12 : decode cX7_over 12 = .ok (.iload_n 1, 1) := by decide +kernel
theorem dX7_over_13 : decode cX7_over 13 = .ok (.iaload, 1) := by decide +kernel
theorem dX7_over_14 : decode cX7_over 14 = .ok (.isub, 1) := by decide +kernel
theorem dX7_over_15 : decode cX7_over 15 = .ok (.aload_n 0, 1) := by decide +kernel
theorem dX7_over_16 : decode cX7_over 16 = .ok (.getfield 64, 3) := by decide +kernel
theorem dX7_over_19 : decode cX7_over 19 = .ok (.irem, 1) := by decide +kernel
theorem dX7_over_20 : decode cX7_over 20 = .ok (.iaload, 1) := by decide +kernel
theorem dX7_over_21 : decode cX7_over 21 = .ok (.ireturn, 1) := by decide +kernel
theorem dX7_isNumber_0 : decode cX7_isNumber 0 = .ok (.iload_n 1, 1) := by decide +kernel
theorem dX7_isNumber_1 : decode cX7_isNumber 1 = .ok (.iconst 0, 1) := by decide +kernel
theorem dX7_isNumber_2 : decode cX7_isNumber 2 = .ok (.aload_n 0, 1) := by decide +kernel
theorem dX7_isNumber_3 : decode cX7_isNumber 3 = .ok (.getfield 64, 3) := by decide +kernel
theorem dX7_isNumber_6 : decode cX7_isNumber 6 = .ok (.invokestatic 68, 3) := by decide +kernel
theorem dX7_isNumber_9 : decode cX7_isNumber 9 = .ok (.ireturn, 1) := by decide +kernel
theorem dX7_minimalOf_0 : decode cX7_minimalOf 0 = .ok (.iconst 0, 1) := by decide +kernel
theorem dX7_minimalOf_1 : decode cX7_minimalOf 1 = .ok (.istore_n 2, 1) := by decide +kernel
theorem dX7_minimalOf_2 : decode cX7_minimalOf 2 = .ok (.aload_n 0, 1) := by decide +kernel
theorem dX7_minimalOf_3 : decode cX7_minimalOf 3 = .ok (.getfield 39, 3) := by decide +kernel
theorem dX7_minimalOf_6 : decode cX7_minimalOf 6 = .ok (.iconst 0, 1) := by decide +kernel
theorem dX7_minimalOf_7 : decode cX7_minimalOf 7 = .ok (.iconst 1, 1) := by decide +kernel
theorem dX7_minimalOf_8 : decode cX7_minimalOf 8 = .ok (.iastore, 1) := by decide +kernel
theorem dX7_minimalOf_9 : decode cX7_minimalOf 9 = .ok (.iload_n 1, 1) := by decide +kernel
theorem dX7_minimalOf_10 : decode cX7_minimalOf 10 = .ok (.istore_n 3, 1) := by decide +kernel
theorem dX7_minimalOf_11 : decode cX7_minimalOf 11 = .ok (.iconst 1, 1) := by decide +kernel
theorem dX7_minimalOf_12 : decode cX7_minimalOf 12 = .ok (.istore 4, 2) := by decide +kernel
theorem dX7_minimalOf_14 : decode cX7_minimalOf 14 = .ok (.iload 4, 2) := by decide +kernel
theorem dX7_minimalOf_16 : decode cX7_minimalOf 16 = .ok (.ifCond .eq 114, 3) := by decide +kernel
theorem dX7_minimalOf_19 : decode cX7_minimalOf 19 = .ok (.aload_n 0, 1) := by decide +kernel
theorem dX7_minimalOf_20 : decode cX7_minimalOf 20 = .ok (.getfield 7, 3) := by decide +kernel
theorem dX7_minimalOf_23 : decode cX7_minimalOf 23 = .ok (.iload_n 3, 1) := by decide +kernel
theorem dX7_minimalOf_24 : decode cX7_minimalOf 24 = .ok (.iaload, 1) := by decide +kernel
theorem dX7_minimalOf_25 : decode cX7_minimalOf 25 = .ok (.istore 5, 2) := by decide +kernel
theorem dX7_minimalOf_27 : decode cX7_minimalOf 27 = .ok (.aload_n 0, 1) := by decide +kernel
theorem dX7_minimalOf_28 : decode cX7_minimalOf 28 = .ok (.getfield 39, 3) := by decide +kernel
theorem dX7_minimalOf_31 : decode cX7_minimalOf 31 = .ok (.iload_n 2, 1) := by decide +kernel
theorem dX7_minimalOf_32 : decode cX7_minimalOf 32 = .ok (.iconst 1, 1) := by decide +kernel
theorem dX7_minimalOf_33 : decode cX7_minimalOf 33 = .ok (.iadd, 1) := by decide +kernel
theorem dX7_minimalOf_34 : decode cX7_minimalOf 34 = .ok (.aload_n 0, 1) := by decide +kernel
theorem dX7_minimalOf_35 : decode cX7_minimalOf 35 = .ok (.getfield 39, 3) := by decide +kernel
theorem dX7_minimalOf_38 : decode cX7_minimalOf 38 = .ok (.iload_n 2, 1) := by decide +kernel
theorem dX7_minimalOf_39 : decode cX7_minimalOf 39 = .ok (.iaload, 1) := by decide +kernel
theorem dX7_minimalOf_40 : decode cX7_minimalOf 40 = .ok (.iastore, 1) := by decide +kernel
theorem dX7_minimalOf_41 : decode cX7_minimalOf 41 = .ok (.iload_n 2, 1) := by decide +kernel
theorem dX7_minimalOf_42 : decode cX7_minimalOf 42 = .ok (.istore 6, 2) := by decide +kernel
theorem dX7_minimalOf_44 : decode cX7_minimalOf 44 = .ok (.iload 6, 2) := by decide +kernel
theorem dX7_minimalOf_46 : decode cX7_minimalOf 46 = .ok (.ifCond .le 39, 3) := by decide +kernel
theorem dX7_minimalOf_49 : decode cX7_minimalOf 49 = .ok (.aload_n 0, 1) := by decide +kernel
theorem dX7_minimalOf_50 : decode cX7_minimalOf 50 = .ok (.getfield 39, 3) := by decide +kernel
theorem dX7_minimalOf_53 : decode cX7_minimalOf 53 = .ok (.iload 6, 2) := by decide +kernel
theorem dX7_minimalOf_55 : decode cX7_minimalOf 55 = .ok (.aload_n 0, 1) := by decide +kernel
theorem dX7_minimalOf_56 : decode cX7_minimalOf 56 = .ok (.getfield 39, 3) := by decide +kernel
theorem dX7_minimalOf_59 : decode cX7_minimalOf 59 = .ok (.iload 6, 2) := by decide +kernel
theorem dX7_minimalOf_61 : decode cX7_minimalOf 61 = .ok (.iconst 1, 1) := by decide +kernel
theorem dX7_minimalOf_62 : decode cX7_minimalOf 62 = .ok (.isub, 1) := by decide +kernel
theorem dX7_minimalOf_63 : decode cX7_minimalOf 63 = .ok (.iaload, 1) := by decide +kernel
theorem dX7_minimalOf_64 : decode cX7_minimalOf 64 = .ok (.aload_n 0, 1) := by decide +kernel
theorem dX7_minimalOf_65 : decode cX7_minimalOf 65 = .ok (.aload_n 0, 1) := by decide +kernel
theorem dX7_minimalOf_66 : decode cX7_minimalOf 66 = .ok (.getfield 39, 3) := by decide +kernel
theorem dX7_minimalOf_69 : decode cX7_minimalOf 69 = .ok (.iload 6, 2) := by decide +kernel
theorem dX7_minimalOf_71 : decode cX7_minimalOf 71 = .ok (.iaload, 1) := by decide +kernel
theorem dX7_minimalOf_72 : decode cX7_minimalOf 72 = .ok (.iload 5, 2) := by decide +kernel
theorem dX7_minimalOf_74 : decode cX7_minimalOf 74 = .ok (.invokevirtual 72, 3) := by decide +kernel
theorem dX7_minimalOf_77 : decode cX7_minimalOf 77 = .ok (.ixor, 1) := by decide +kernel
theorem dX7_minimalOf_78 : decode cX7_minimalOf 78 = .ok (.iastore, 1) := by decide +kernel
theorem dX7_minimalOf_79 : decode cX7_minimalOf 79 = .ok (.iinc 6 (-1), 3) := by decide +kernel
theorem dX7_minimalOf_82 : decode cX7_minimalOf 82 = .ok (.goto (-38), 3) := by decide +kernel
theorem dX7_minimalOf_85 : decode cX7_minimalOf 85 = .ok (.aload_n 0, 1) := by decide +kernel
theorem dX7_minimalOf_86 : decode cX7_minimalOf 86 = .ok (.getfield 39, 3) := by decide +kernel
theorem dX7_minimalOf_89 : decode cX7_minimalOf 89 = .ok (.iconst 0, 1) := by decide +kernel
theorem dX7_minimalOf_90 : decode cX7_minimalOf 90 = .ok (.aload_n 0, 1) := by decide +kernel
theorem dX7_minimalOf_91 : decode cX7_minimalOf 91 = .ok (.aload_n 0, 1) := by decide +kernel
theorem dX7_minimalOf_92 : decode cX7_minimalOf 92 = .ok (.getfield 39, 3) := by decide +kernel
theorem dX7_minimalOf_95 : decode cX7_minimalOf 95 = .ok (.iconst 0, 1) := by decide +kernel
theorem dX7_minimalOf_96 : decode cX7_minimalOf 96 = .ok (.iaload, 1) := by decide +kernel
theorem dX7_minimalOf_97 : decode cX7_minimalOf 97 = .ok (.iload 5, 2) := by decide +kernel
theorem dX7_minimalOf_99 : decode cX7_minimalOf 99 = .ok (.invokevirtual 72, 3) := by decide +kernel
theorem dX7_minimalOf_102 : decode cX7_minimalOf 102 = .ok (.iastore, 1) := by decide +kernel
theorem dX7_minimalOf_103 : decode cX7_minimalOf 103 = .ok (.iinc 2 1, 3) := by decide +kernel
theorem dX7_minimalOf_106 : decode cX7_minimalOf 106 = .ok (.iconst 2, 1) := by decide +kernel
theorem dX7_minimalOf_107 : decode cX7_minimalOf 107 = .ok (.iload_n 3, 1) := by decide +kernel
theorem dX7_minimalOf_108 : decode cX7_minimalOf 108 = .ok (.imul, 1) := by decide +kernel
theorem dX7_minimalOf_109 : decode cX7_minimalOf 109 = .ok (.aload_n 0, 1) := by decide +kernel
theorem dX7_minimalOf_110 : decode cX7_minimalOf 110 = .ok (.getfield 64, 3) := by decide +kernel
theorem dX7_minimalOf_113 : decode cX7_minimalOf 113 = .ok (.irem, 1) := by decide +kernel
theorem dX7_minimalOf_114 : decode cX7_minimalOf 114 = .ok (.istore_n 3, 1) := by decide +kernel
theorem dX7_minimalOf_115 : decode cX7_minimalOf 115 = .ok (.iload_n 3, 1) := by decide +kernel
theorem dX7_minimalOf_116 : decode cX7_minimalOf 116 = .ok (.iload_n 1, 1) := by decide +kernel
theorem dX7_minimalOf_117 : decode cX7_minimalOf 117 = .ok (.if_icmp .eq 7, 3) := by decide +kernel
theorem dX7_minimalOf_120 : decode cX7_minimalOf 120 = .ok (.iconst 1, 1) := by decide +kernel
theorem dX7_minimalOf_121 : decode cX7_minimalOf 121 = .ok (.goto 4, 3) := by decide +kernel
theorem dX7_minimalOf_124 : decode cX7_minimalOf 124 = .ok (.iconst 0, 1) := by decide +kernel
theorem dX7_minimalOf_125 : decode cX7_minimalOf 125 = .ok (.istore 4, 2) := by decide +kernel
theorem dX7_minimalOf_127 : decode cX7_minimalOf 127 = .ok (.goto (-113), 3) := by decide +kernel
theorem dX7_minimalOf_130 : decode cX7_minimalOf 130 = .ok (.iconst 0, 1) := by decide +kernel
theorem dX7_minimalOf_131 : decode cX7_minimalOf 131 = .ok (.istore 5, 2) := by decide +kernel
theorem dX7_minimalOf_133 : decode cX7_minimalOf 133 = .ok (.iconst 0, 1) := by decide +kernel
theorem dX7_minimalOf_134 : decode cX7_minimalOf 134 = .ok (.istore 6, 2) := by decide +kernel
theorem dX7_minimalOf_136 : decode cX7_minimalOf 136 = .ok (.iload 6, 2) := by decide +kernel
theorem dX7_minimalOf_138 : decode cX7_minimalOf 138 = .ok (.iload_n 2, 1) := by decide +kernel
theorem dX7_minimalOf_139 : decode cX7_minimalOf 139 = .ok (.if_icmp .gt 24, 3) := by decide +kernel
theorem dX7_minimalOf_142 : decode cX7_minimalOf 142 = .ok (.iload 5, 2) := by decide +kernel
theorem dX7_minimalOf_144 : decode cX7_minimalOf 144 = .ok (.aload_n 0, 1) := by decide +kernel
theorem dX7_minimalOf_145 : decode cX7_minimalOf 145 = .ok (.getfield 39, 3) := by decide +kernel
theorem dX7_minimalOf_148 : decode cX7_minimalOf 148 = .ok (.iload 6, 2) := by decide +kernel
theorem dX7_minimalOf_150 : decode cX7_minimalOf 150 = .ok (.iaload, 1) := by decide +kernel
theorem dX7_minimalOf_151 : decode cX7_minimalOf 151 = .ok (.iload 6, 2) := by decide +kernel
theorem dX7_minimalOf_153 : decode cX7_minimalOf 153 = .ok (.ishl, 1) := by decide +kernel
theorem dX7_minimalOf_154 : decode cX7_minimalOf 154 = .ok (.ior, 1) := by decide +kernel
theorem dX7_minimalOf_155 : decode cX7_minimalOf 155 = .ok (.istore 5, 2) := by decide +kernel
theorem dX7_minimalOf_157 : decode cX7_minimalOf 157 = .ok (.iinc 6 1, 3) := by decide +kernel
theorem dX7_minimalOf_160 : decode cX7_minimalOf 160 = .ok (.goto (-24), 3) := by decide +kernel
theorem dX7_minimalOf_163 : decode cX7_minimalOf 163 = .ok (.iload 5, 2) := by decide +kernel
theorem dX7_minimalOf_165 : decode cX7_minimalOf 165 = .ok (.ireturn, 1) := by decide +kernel
theorem dX7_generatorAt_0 : decode cX7_generatorAt 0 = .ok (.iconst 0, 1) := by decide +kernel
theorem dX7_generatorAt_1 : decode cX7_generatorAt 1 = .ok (.istore_n 3, 1) := by decide +kernel
theorem dX7_generatorAt_2 : decode cX7_generatorAt 2 = .ok (.iconst 0, 1) := by decide +kernel
theorem dX7_generatorAt_3 : decode cX7_generatorAt 3 = .ok (.istore 4, 2) := by decide +kernel
theorem dX7_generatorAt_5 : decode cX7_generatorAt 5 = .ok (.iload 4, 2) := by decide +kernel
theorem dX7_generatorAt_7 : decode cX7_generatorAt 7 = .ok (.iload_n 1, 1) := by decide +kernel
theorem dX7_generatorAt_8 : decode cX7_generatorAt 8 = .ok (.if_icmp .gt 42, 3) := by decide +kernel
theorem dX7_generatorAt_11 : decode cX7_generatorAt 11 = .ok (.iload_n 3, 1) := by decide +kernel
theorem dX7_generatorAt_12 : decode cX7_generatorAt 12 = .ok (.aload_n 0, 1) := by decide +kernel
theorem dX7_generatorAt_13 : decode cX7_generatorAt 13 = .ok (.getfield 16, 3) := by decide +kernel
theorem dX7_generatorAt_16 : decode cX7_generatorAt 16 = .ok (.iload 4, 2) := by decide +kernel
theorem dX7_generatorAt_18 : decode cX7_generatorAt 18 = .ok (.iaload, 1) := by decide +kernel
theorem dX7_generatorAt_19 : decode cX7_generatorAt 19 = .ok (.iconst 1, 1) := by decide +kernel
theorem dX7_generatorAt_20 : decode cX7_generatorAt 20 = .ok (.if_icmp .ne 21, 3) := by decide +kernel
theorem dX7_generatorAt_23 : decode cX7_generatorAt 23 = .ok (.aload_n 0, 1) := by decide +kernel
theorem dX7_generatorAt_24 : decode cX7_generatorAt 24 = .ok (.getfield 7, 3) := by decide +kernel
theorem dX7_generatorAt_27 : decode cX7_generatorAt 27 = .ok (.aload_n 0, 1) := by decide +kernel
theorem dX7_generatorAt_28 : decode cX7_generatorAt 28 = .ok (.iload 4, 2) := by decide +kernel
theorem dX7_generatorAt_30 : decode cX7_generatorAt 30 = .ok (.i2l, 1) := by decide +kernel
theorem dX7_generatorAt_31 : decode cX7_generatorAt 31 = .ok (.iload_n 2, 1) := by decide +kernel
theorem dX7_generatorAt_32 : decode cX7_generatorAt 32 = .ok (.i2l, 1) := by decide +kernel
theorem dX7_generatorAt_33 : decode cX7_generatorAt 33 = .ok (.lmul, 1) := by decide +kernel
theorem dX7_generatorAt_34 : decode cX7_generatorAt 34 = .ok (.invokevirtual 76, 3) := by decide +kernel
theorem dX7_generatorAt_37 : decode cX7_generatorAt 37 = .ok (.iaload, 1) := by decide +kernel
theorem dX7_generatorAt_38 : decode cX7_generatorAt 38 = .ok (.goto 4, 3) := by decide +kernel
theorem dX7_generatorAt_41 : decode cX7_generatorAt 41 = .ok (.iconst 0, 1) := by decide +kernel
theorem dX7_generatorAt_42 : decode cX7_generatorAt 42 = .ok (.ixor, 1) := by decide +kernel
theorem dX7_generatorAt_43 : decode cX7_generatorAt 43 = .ok (.istore_n 3, 1) := by decide +kernel
theorem dX7_generatorAt_44 : decode cX7_generatorAt 44 = .ok (.iinc 4 1, 3) := by decide +kernel
theorem dX7_generatorAt_47 : decode cX7_generatorAt 47 = .ok (.goto (-42), 3) := by decide +kernel
theorem dX7_generatorAt_50 : decode cX7_generatorAt 50 = .ok (.iload_n 3, 1) := by decide +kernel
theorem dX7_generatorAt_51 : decode cX7_generatorAt 51 = .ok (.ireturn, 1) := by decide +kernel
theorem dX7_makeGenerator_0 : decode cX7_makeGenerator 0 = .ok (.iconst 0, 1) := by decide +kernel
theorem dX7_makeGenerator_1 : decode cX7_makeGenerator 1 = .ok (.istore_n 2, 1) := by decide +kernel
theorem dX7_makeGenerator_2 : decode cX7_makeGenerator 2 = .ok (.iload_n 2, 1) := by decide +kernel
theorem dX7_makeGenerator_3 : decode cX7_makeGenerator 3 = .ok (.sipush 210, 3) := by decide +kernel
theorem dX7_makeGenerator_6 : decode cX7_makeGenerator 6 = .ok (.if_icmp .ge 16, 3) := by decide +kernel
theorem dX7_makeGenerator_9 : decode cX7_makeGenerator 9 = .ok (.aload_n 0, 1) := by decide +kernel
theorem dX7_makeGenerator_10 : decode cX7_makeGenerator 10 = .ok (.getfield 16, 3) := by decide +kernel
theorem dX7_makeGenerator_13 : decode cX7_makeGenerator 13 = .ok (.iload_n 2, 1) := by decide +kernel
theorem dX7_makeGenerator_14 : decode cX7_makeGenerator 14 = .ok (.iconst 0, 1) := by decide +kernel
theorem dX7_makeGenerator_15 : decode cX7_makeGenerator 15 = .ok (.iastore, 1) := by decide +kernel
theorem dX7_makeGenerator_16 : decode cX7_makeGenerator 16 = .ok (.iinc 2 1, 3) := by decide +kernel
theorem dX7_makeGenerator_19 : decode cX7_makeGenerator 19 = .ok (.goto (-17), 3) := by decide +kernel
theorem dX7_makeGenerator_22 : decode cX7_makeGenerator 22 = .ok (.aload_n 0, 1) := by decide +kernel
theorem dX7_makeGenerator_23 : decode cX7_makeGenerator 23 = .ok (.getfield 16, 3) := by decide +kernel
theorem dX7_makeGenerator_26 : decode cX7_makeGenerator 26 = .ok (.iconst 0, 1) := by decide +kernel
theorem dX7_makeGenerator_27 : decode cX7_makeGenerator 27 = .ok (.iconst 1, 1) := by decide +kernel
theorem dX7_makeGenerator_28 : decode cX7_makeGenerator 28 = .ok (.iastore, 1) := by decide +kernel
theorem dX7_makeGenerator_29 : decode cX7_makeGenerator 29 = .ok (.iconst 0, 1) := by decide +kernel
theorem dX7_makeGenerator_30 : decode cX7_makeGenerator 30 = .ok (.istore_n 2, 1) := by decide +kernel
theorem dX7_makeGenerator_31 : decode cX7_makeGenerator 31 = .ok (.iconst 1, 1) := by decide +kernel
theorem dX7_makeGenerator_32 : decode cX7_makeGenerator 32 = .ok (.istore_n 3, 1) := by decide +kernel
theorem dX7_makeGenerator_33 : decode cX7_makeGenerator 33 = .ok (.iload_n 3, 1) := by decide +kernel
theorem dX7_makeGenerator_34 : decode cX7_makeGenerator 34 = .ok (.iload_n 1, 1) := by decide +kernel
theorem dX7_makeGenerator_35 : decode cX7_makeGenerator 35 = .ok (.if_icmp .gt 149, 3) := by decide +kernel
theorem dX7_makeGenerator_38 : decode cX7_makeGenerator 38 = .ok (.aload_n 0, 1) := by decide +kernel
theorem dX7_makeGenerator_39 : decode cX7_makeGenerator 39 = .ok (.iload_n 2, 1) := by decide +kernel
theorem dX7_makeGenerator_40 : decode cX7_makeGenerator 40 = .ok (.iload_n 3, 1) := by decide +kernel
theorem dX7_makeGenerator_41 : decode cX7_makeGenerator 41 = .ok (.aload_n 0, 1) := by decide +kernel
theorem dX7_makeGenerator_42 : decode cX7_makeGenerator 42 = .ok (.getfield 64, 3) := by decide +kernel
theorem dX7_makeGenerator_45 : decode cX7_makeGenerator 45 = .ok (.irem, 1) := by decide +kernel
theorem dX7_makeGenerator_46 : decode cX7_makeGenerator 46 = .ok (.invokevirtual 80, 3) := by decide +kernel
theorem dX7_makeGenerator_49 : decode cX7_makeGenerator 49 = .ok (.ifCond .ne 6, 3) := by decide +kernel
theorem dX7_makeGenerator_52 : decode cX7_makeGenerator 52 = .ok (.goto 126, 3) := by decide +kernel
theorem dX7_makeGenerator_55 : decode cX7_makeGenerator 55 = .ok (.aload_n 0, 1) := by decide +kernel
theorem dX7_makeGenerator_56 : decode cX7_makeGenerator 56 = .ok (.iload_n 3, 1) := by decide +kernel
theorem dX7_makeGenerator_57 : decode cX7_makeGenerator 57 = .ok (.aload_n 0, 1) := by decide +kernel
theorem dX7_makeGenerator_58 : decode cX7_makeGenerator 58 = .ok (.getfield 64, 3) := by decide +kernel
theorem dX7_makeGenerator_61 : decode cX7_makeGenerator 61 = .ok (.irem, 1) := by decide +kernel
theorem dX7_makeGenerator_62 : decode cX7_makeGenerator 62 = .ok (.invokevirtual 83, 3) := by decide +kernel
theorem dX7_makeGenerator_65 : decode cX7_makeGenerator 65 = .ok (.istore 4, 2) := by decide +kernel
theorem dX7_makeGenerator_67 : decode cX7_makeGenerator 67 = .ok (.iconst 0, 1) := by decide +kernel
theorem dX7_makeGenerator_68 : decode cX7_makeGenerator 68 = .ok (.istore 5, 2) := by decide +kernel
theorem dX7_makeGenerator_70 : decode cX7_makeGenerator 70 = .ok (.iload 5, 2) := by decide +kernel
theorem dX7_makeGenerator_72 : decode cX7_makeGenerator 72 = .ok (.iload_n 2, 1) := by decide +kernel
theorem dX7_makeGenerator_73 : decode cX7_makeGenerator 73 = .ok (.if_icmp .gt 31, 3) := by decide +kernel
theorem dX7_makeGenerator_76 : decode cX7_makeGenerator 76 = .ok (.aload_n 0, 1) := by decide +kernel
theorem dX7_makeGenerator_77 : decode cX7_makeGenerator 77 = .ok (.getfield 42, 3) := by decide +kernel
theorem dX7_makeGenerator_80 : decode cX7_makeGenerator 80 = .ok (.iload 5, 2) := by decide +kernel
theorem dX7_makeGenerator_82 : decode cX7_makeGenerator 82 = .ok (.aload_n 0, 1) := by decide +kernel
theorem dX7_makeGenerator_83 : decode cX7_makeGenerator 83 = .ok (.getfield 16, 3) := by decide +kernel
theorem dX7_makeGenerator_86 : decode cX7_makeGenerator 86 = .ok (.iload 5, 2) := by decide +kernel
theorem dX7_makeGenerator_88 : decode cX7_makeGenerator 88 = .ok (.iaload, 1) := by decide +kernel
theorem dX7_makeGenerator_89 : decode cX7_makeGenerator 89 = .ok (.iastore, 1) := by decide +kernel
theorem dX7_makeGenerator_90 : decode cX7_makeGenerator 90 = .ok (.aload_n 0, 1) := by decide +kernel
theorem dX7_makeGenerator_91 : decode cX7_makeGenerator 91 = .ok (.getfield 16, 3) := by decide +kernel
theorem dX7_makeGenerator_94 : decode cX7_makeGenerator 94 = .ok (.iload 5, 2) := by decide +kernel
theorem dX7_makeGenerator_96 : decode cX7_makeGenerator 96 = .ok (.iconst 0, 1) := by decide +kernel
theorem dX7_makeGenerator_97 : decode cX7_makeGenerator 97 = .ok (.iastore, 1) := by decide +kernel
theorem dX7_makeGenerator_98 : decode cX7_makeGenerator 98 = .ok (.iinc 5 1, 3) := by decide +kernel
theorem dX7_makeGenerator_101 : decode cX7_makeGenerator 101 = .ok (.goto (-31), 3) := by decide +kernel
theorem dX7_makeGenerator_104 : decode cX7_makeGenerator 104 = .ok (.iconst 0, 1) := by decide +kernel
theorem dX7_makeGenerator_105 : decode cX7_makeGenerator 105 = .ok (.istore 5, 2) := by decide +kernel
theorem dX7_makeGenerator_107 : decode cX7_makeGenerator 107 = .ok (.iconst 0, 1) := by decide +kernel
theorem dX7_makeGenerator_108 : decode cX7_makeGenerator 108 = .ok (.istore 6, 2) := by decide +kernel
theorem dX7_makeGenerator_110 : decode cX7_makeGenerator 110 = .ok (.iload 6, 2) := by decide +kernel
theorem dX7_makeGenerator_112 : decode cX7_makeGenerator 112 = .ok (.bipush 14, 2) := by decide +kernel
theorem dX7_makeGenerator_114 : decode cX7_makeGenerator 114 = .ok (.if_icmp .ge 59, 3) := by decide +kernel
theorem dX7_makeGenerator_117 : decode cX7_makeGenerator 117 = .ok (.iload 4, 2) := by decide +kernel
theorem dX7_makeGenerator_119 : decode cX7_makeGenerator 119 = .ok (.iload 6, 2) := by decide +kernel
theorem dX7_makeGenerator_121 : decode cX7_makeGenerator 121 = .ok (.ishr, 1) := by decide +kernel
theorem dX7_makeGenerator_122 : decode cX7_makeGenerator 122 = .ok (.iconst 1, 1) := by decide +kernel
theorem dX7_makeGenerator_123 : decode cX7_makeGenerator 123 = .ok (.iand, 1) := by decide +kernel
theorem dX7_makeGenerator_124 : decode cX7_makeGenerator 124 = .ok (.iconst 1, 1) := by decide +kernel
theorem dX7_makeGenerator_125 : decode cX7_makeGenerator 125 = .ok (.if_icmp .ne 42, 3) := by decide +kernel
theorem dX7_makeGenerator_128 : decode cX7_makeGenerator 128 = .ok (.iload 6, 2) := by decide +kernel
theorem dX7_makeGenerator_130 : decode cX7_makeGenerator 130 = .ok (.istore 5, 2) := by decide +kernel
theorem dX7_makeGenerator_132 : decode cX7_makeGenerator 132 = .ok (.iconst 0, 1) := by decide +kernel
theorem dX7_makeGenerator_133 : decode cX7_makeGenerator 133 = .ok (.istore 7, 2) := by decide +kernel
theorem dX7_makeGenerator_135 : decode cX7_makeGenerator 135 = .ok (.iload 7, 2) := by decide +kernel
theorem dX7_makeGenerator_137 : decode cX7_makeGenerator 137 = .ok (.iload_n 2, 1) := by decide +kernel
theorem dX7_makeGenerator_138 : decode cX7_makeGenerator 138 = .ok (.if_icmp .gt 29, 3) := by decide +kernel
theorem dX7_makeGenerator_141 : decode cX7_makeGenerator 141 = .ok (.aload_n 0, 1) := by decide +kernel
theorem dX7_makeGenerator_142 : decode cX7_makeGenerator 142 = .ok (.getfield 16, 3) := by decide +kernel
theorem dX7_makeGenerator_145 : decode cX7_makeGenerator 145 = .ok (.iload 7, 2) := by decide +kernel
theorem dX7_makeGenerator_147 : decode cX7_makeGenerator 147 = .ok (.iload 6, 2) := by decide +kernel
theorem dX7_makeGenerator_149 : decode cX7_makeGenerator 149 = .ok (.iadd, 1) := by decide +kernel
theorem dX7_makeGenerator_150 : decode cX7_makeGenerator 150 = .ok (.dup2, 1) := by decide +kernel
theorem dX7_makeGenerator_151 : decode cX7_makeGenerator 151 = .ok (.iaload, 1) := by decide +kernel
theorem dX7_makeGenerator_152 : decode cX7_makeGenerator 152 = .ok (.aload_n 0, 1) := by decide +kernel
theorem dX7_makeGenerator_153 : decode cX7_makeGenerator 153 = .ok (.getfield 42, 3) := by decide +kernel
theorem dX7_makeGenerator_156 : decode cX7_makeGenerator 156 = .ok (.iload 7, 2) := by decide +kernel
theorem dX7_makeGenerator_158 : decode cX7_makeGenerator 158 = .ok (.iaload, 1) := by decide +kernel
theorem dX7_makeGenerator_159 : decode cX7_makeGenerator 159 = .ok (.ixor, 1) := by decide +kernel
theorem dX7_makeGenerator_160 : decode cX7_makeGenerator 160 = .ok (.iastore, 1) := by decide +kernel
theorem dX7_makeGenerator_161 : decode cX7_makeGenerator 161 = .ok (.iinc 7 1, 3) := by decide +kernel
theorem dX7_makeGenerator_164 : decode cX7_makeGenerator 164 = .ok (.goto (-29), 3) := by decide +kernel
theorem dX7_makeGenerator_167 : decode cX7_makeGenerator 167 = .ok (.iinc 6 1, 3) := by decide +kernel
theorem dX7_makeGenerator_170 : decode cX7_makeGenerator 170 = .ok (.goto (-60), 3) := by decide +kernel
theorem dX7_makeGenerator_173 : decode cX7_makeGenerator 173 = .ok (.iload_n 2, 1) := by decide +kernel
theorem dX7_makeGenerator_174 : decode cX7_makeGenerator 174 = .ok (.iload 5, 2) := by decide +kernel
theorem dX7_makeGenerator_176 : decode cX7_makeGenerator 176 = .ok (.iadd, 1) := by decide +kernel
theorem dX7_makeGenerator_177 : decode cX7_makeGenerator 177 = .ok (.istore_n 2, 1) := by decide +kernel
theorem dX7_makeGenerator_178 : decode cX7_makeGenerator 178 = .ok (.iinc 3 1, 3) := by decide +kernel
theorem dX7_makeGenerator_181 : decode cX7_makeGenerator 181 = .ok (.goto (-148), 3) := by decide +kernel
theorem dX7_makeGenerator_184 : decode cX7_makeGenerator 184 = .ok (.iload_n 2, 1) := by decide +kernel
theorem dX7_makeGenerator_185 : decode cX7_makeGenerator 185 = .ok (.ireturn, 1) := by decide +kernel
theorem dX7_makeField_0 : decode cX7_makeField 0 = .ok (.aload_n 0, 1) := by decide +kernel
theorem dX7_makeField_1 : decode cX7_makeField 1 = .ok (.iload_n 1, 1) := by decide +kernel
theorem dX7_makeField_2 : decode cX7_makeField 2 = .ok (.putfield 86, 3) := by decide +kernel
theorem dX7_makeField_5 : decode cX7_makeField 5 = .ok (.aload_n 0, 1) := by decide +kernel
theorem dX7_makeField_6 : decode cX7_makeField 6 = .ok (.iconst 1, 1) := by decide +kernel
theorem dX7_makeField_7 : decode cX7_makeField 7 = .ok (.iload_n 1, 1) := by decide +kernel
theorem dX7_makeField_8 : decode cX7_makeField 8 = .ok (.ishl, 1) := by decide +kernel
theorem dX7_makeField_9 : decode cX7_makeField 9 = .ok (.iconst 1, 1) := by decide +kernel
theorem dX7_makeField_10 : decode cX7_makeField 10 = .ok (.isub, 1) := by decide +kernel
theorem dX7_makeField_11 : decode cX7_makeField 11 = .ok (.putfield 64, 3) := by decide +kernel
theorem dX7_makeField_14 : decode cX7_makeField 14 = .ok (.iconst 1, 1) := by decide +kernel
theorem dX7_makeField_15 : decode cX7_makeField 15 = .ok (.istore_n 2, 1) := by decide +kernel
theorem dX7_makeField_16 : decode cX7_makeField 16 = .ok (.iconst 0, 1) := by decide +kernel
theorem dX7_makeField_17 : decode cX7_makeField 17 = .ok (.istore_n 3, 1) := by decide +kernel
theorem dX7_makeField_18 : decode cX7_makeField 18 = .ok (.iload_n 3, 1) := by decide +kernel
theorem dX7_makeField_19 : decode cX7_makeField 19 = .ok (.aload_n 0, 1) := by decide +kernel
theorem dX7_makeField_20 : decode cX7_makeField 20 = .ok (.getfield 64, 3) := by decide +kernel
theorem dX7_makeField_23 : decode cX7_makeField 23 = .ok (.if_icmp .ge 30, 3) := by decide +kernel
theorem dX7_makeField_26 : decode cX7_makeField 26 = .ok (.aload_n 0, 1) := by decide +kernel
theorem dX7_makeField_27 : decode cX7_makeField 27 = .ok (.getfield 7, 3) := by decide +kernel
theorem dX7_makeField_30 : decode cX7_makeField 30 = .ok (.iload_n 3, 1) := by decide +kernel
theorem dX7_makeField_31 : decode cX7_makeField 31 = .ok (.iload_n 2, 1) := by decide +kernel
theorem dX7_makeField_32 : decode cX7_makeField 32 = .ok (.iastore, 1) := by decide +kernel
theorem dX7_makeField_33 : decode cX7_makeField 33 = .ok (.aload_n 0, 1) := by decide +kernel
theorem dX7_makeField_34 : decode cX7_makeField 34 = .ok (.getfield 13, 3) := by decide +kernel
theorem dX7_makeField_37 : decode cX7_makeField 37 = .ok (.iload_n 2, 1) := by decide +kernel
theorem dX7_makeField_38 : decode cX7_makeField 38 = .ok (.iload_n 3, 1) := by decide +kernel
theorem dX7_makeField_39 : decode cX7_makeField 39 = .ok (.iastore, 1) := by decide +kernel
theorem dX7_makeField_40 : decode cX7_makeField 40 = .ok (.iload_n 2, 1) := by decide +kernel
theorem dX7_makeField_41 : decode cX7_makeField 41 = .ok (.iconst 2, 1) := by decide +kernel
theorem dX7_makeField_42 : decode cX7_makeField 42 = .ok (.iload_n 1, 1) := by decide +kernel
theorem dX7_makeField_43 : decode cX7_makeField 43 = .ok (.invokestatic 89, 3) := by decide +kernel
theorem dX7_makeField_46 : decode cX7_makeField 46 = .ok (.istore_n 2, 1) := by decide +kernel
theorem dX7_makeField_47 : decode cX7_makeField 47 = .ok (.iinc 3 1, 3) := by decide +kernel
theorem dX7_makeField_50 : decode cX7_makeField 50 = .ok (.goto (-32), 3) := by decide +kernel
theorem dX7_makeField_53 : decode cX7_makeField 53 = .ok (.return_, 1) := by decide +kernel
theorem dX7_open_0 : decode cX7_open 0 = .ok (.iload_n 1, 1) := by decide +kernel
theorem dX7_open_1 : decode cX7_open 1 = .ok (.iconst 3, 1) := by decide +kernel
theorem dX7_open_2 : decode cX7_open 2 = .ok (.bipush 13, 2) := by decide +kernel
theorem dX7_open_4 : decode cX7_open 4 = .ok (.invokestatic 68, 3) := by decide +kernel
theorem dX7_open_7 : decode cX7_open 7 = .ok (.ifCond .eq 24, 3) := by decide +kernel
theorem dX7_open_10 : decode cX7_open 10 = .ok (.iload_n 2, 1) := by decide +kernel
theorem dX7_open_11 : decode cX7_open 11 = .ok (.iconst 1, 1) := by decide +kernel
theorem dX7_open_12 : decode cX7_open 12 = .ok (.bipush 8, 2) := by decide +kernel
theorem dX7_open_14 : decode cX7_open 14 = .ok (.invokestatic 68, 3) := by decide +kernel
theorem dX7_open_17 : decode cX7_open 17 = .ok (.ifCond .eq 14, 3) := by decide +kernel
theorem dX7_open_20 : decode cX7_open 20 = .ok (.iload_n 3, 1) := by decide +kernel
theorem dX7_open_21 : decode cX7_open 21 = .ok (.iconst 1, 1) := by decide +kernel
theorem dX7_open_22 : decode cX7_open 22 = .ok (.sipush 256, 3) := by decide +kernel
theorem dX7_open_25 : decode cX7_open 25 = .ok (.invokestatic 68, 3) := by decide +kernel
theorem dX7_open_28 : decode cX7_open 28 = .ok (.ifCond .ne 6, 3) := by decide +kernel
theorem dX7_open_31 : decode cX7_open 31 = .ok (.bipush (-2), 2) := by decide +kernel
theorem dX7_open_33 : decode cX7_open 33 = .ok (.ireturn, 1) := by decide +kernel
theorem dX7_open_34 : decode cX7_open 34 = .ok (.aload_n 0, 1) := by decide +kernel
theorem dX7_open_35 : decode cX7_open 35 = .ok (.getfield 86, 3) := by decide +kernel
theorem dX7_open_38 : decode cX7_open 38 = .ok (.istore 4, 2) := by decide +kernel
theorem dX7_open_40 : decode cX7_open 40 = .ok (.aload_n 0, 1) := by decide +kernel
theorem dX7_open_41 : decode cX7_open 41 = .ok (.iload_n 1, 1) := by decide +kernel
theorem dX7_open_42 : decode cX7_open 42 = .ok (.invokevirtual 93, 3) := by decide +kernel
theorem dX7_open_45 : decode cX7_open 45 = .ok (.aload_n 0, 1) := by decide +kernel
theorem dX7_open_46 : decode cX7_open 46 = .ok (.iconst 2, 1) := by decide +kernel
theorem dX7_open_47 : decode cX7_open 47 = .ok (.iload_n 2, 1) := by decide +kernel
theorem dX7_open_48 : decode cX7_open 48 = .ok (.imul, 1) := by decide +kernel
theorem dX7_open_49 : decode cX7_open 49 = .ok (.invokevirtual 97, 3) := by decide +kernel
theorem dX7_open_52 : decode cX7_open 52 = .ok (.istore 5, 2) := by decide +kernel
theorem dX7_open_54 : decode cX7_open 54 = .ok (.bipush 8, 2) := by decide +kernel
theorem dX7_open_56 : decode cX7_open 56 = .ok (.iload_n 3, 1) := by decide +kernel
theorem dX7_open_57 : decode cX7_open 57 = .ok (.imul, 1) := by decide +kernel
theorem dX7_open_58 : decode cX7_open 58 = .ok (.iload 5, 2) := by decide +kernel
theorem dX7_open_60 : decode cX7_open 60 = .ok (.iadd, 1) := by decide +kernel
theorem dX7_open_61 : decode cX7_open 61 = .ok (.aload_n 0, 1) := by decide +kernel
theorem dX7_open_62 : decode cX7_open 62 = .ok (.getfield 64, 3) := by decide +kernel
theorem dX7_open_65 : decode cX7_open 65 = .ok (.if_icmp .le 31, 3) := by decide +kernel
theorem dX7_open_68 : decode cX7_open 68 = .ok (.aload_n 0, 1) := by decide +kernel
theorem dX7_open_69 : decode cX7_open 69 = .ok (.getfield 100, 3) := by decide +kernel
theorem dX7_open_72 : decode cX7_open 72 = .ok (.ifCond .eq 21, 3) := by decide +kernel
theorem dX7_open_75 : decode cX7_open 75 = .ok (.aload_n 0, 1) := by decide +kernel
theorem dX7_open_76 : decode cX7_open 76 = .ok (.iload 4, 2) := by decide +kernel
theorem dX7_open_78 : decode cX7_open 78 = .ok (.invokevirtual 93, 3) := by decide +kernel
theorem dX7_open_81 : decode cX7_open 81 = .ok (.aload_n 0, 1) := by decide +kernel
theorem dX7_open_82 : decode cX7_open 82 = .ok (.iconst 2, 1) := by decide +kernel
theorem dX7_open_83 : decode cX7_open 83 = .ok (.aload_n 0, 1) := by decide +kernel
theorem dX7_open_84 : decode cX7_open 84 = .ok (.getfield 104, 3) := by decide +kernel
theorem dX7_open_87 : decode cX7_open 87 = .ok (.imul, 1) := by decide +kernel
theorem dX7_open_88 : decode cX7_open 88 = .ok (.invokevirtual 97, 3) := by decide +kernel
theorem dX7_open_91 : decode cX7_open 91 = .ok (.istore 5, 2) := by decide +kernel
theorem dX7_open_93 : decode cX7_open 93 = .ok (.bipush (-2), 2) := by decide +kernel
theorem dX7_open_95 : decode cX7_open 95 = .ok (.ireturn, 1) := by decide +kernel
theorem dX7_open_96 : decode cX7_open 96 = .ok (.aload_n 0, 1) := by decide +kernel
theorem dX7_open_97 : decode cX7_open 97 = .ok (.iconst 1, 1) := by decide +kernel
theorem dX7_open_98 : decode cX7_open 98 = .ok (.putfield 100, 3) := by decide +kernel
theorem dX7_open_101 : decode cX7_open 101 = .ok (.aload_n 0, 1) := by decide +kernel
theorem dX7_open_102 : decode cX7_open 102 = .ok (.iload_n 2, 1) := by decide +kernel
theorem dX7_open_103 : decode cX7_open 103 = .ok (.putfield 104, 3) := by decide +kernel
theorem dX7_open_106 : decode cX7_open 106 = .ok (.aload_n 0, 1) := by decide +kernel
theorem dX7_open_107 : decode cX7_open 107 = .ok (.iload_n 3, 1) := by decide +kernel
theorem dX7_open_108 : decode cX7_open 108 = .ok (.putfield 107, 3) := by decide +kernel
theorem dX7_open_111 : decode cX7_open 111 = .ok (.aload_n 0, 1) := by decide +kernel
theorem dX7_open_112 : decode cX7_open 112 = .ok (.iload 5, 2) := by decide +kernel
theorem dX7_open_114 : decode cX7_open 114 = .ok (.putfield 110, 3) := by decide +kernel
theorem dX7_open_117 : decode cX7_open 117 = .ok (.aload_n 0, 1) := by decide +kernel
theorem dX7_open_118 : decode cX7_open 118 = .ok (.bipush 8, 2) := by decide +kernel
theorem dX7_open_120 : decode cX7_open 120 = .ok (.iload_n 3, 1) := by decide +kernel
theorem dX7_open_121 : decode cX7_open 121 = .ok (.imul, 1) := by decide +kernel
theorem dX7_open_122 : decode cX7_open 122 = .ok (.iload 5, 2) := by decide +kernel
theorem dX7_open_124 : decode cX7_open 124 = .ok (.iadd, 1) := by decide +kernel
theorem dX7_open_125 : decode cX7_open 125 = .ok (.putfield 113, 3) := by decide +kernel
theorem dX7_open_128 : decode cX7_open 128 = .ok (.iconst 0, 1) := by decide +kernel
theorem dX7_open_129 : decode cX7_open 129 = .ok (.istore 6, 2) := by decide +kernel
theorem dX7_open_131 : decode cX7_open 131 = .ok (.iload 6, 2) := by decide +kernel
theorem dX7_open_133 : decode cX7_open 133 = .ok (.sipush 256, 3) := by decide +kernel
theorem dX7_open_136 : decode cX7_open 136 = .ok (.if_icmp .ge 17, 3) := by decide +kernel
theorem dX7_open_139 : decode cX7_open 139 = .ok (.aload_n 0, 1) := by decide +kernel
theorem dX7_open_140 : decode cX7_open 140 = .ok (.getfield 19, 3) := by decide +kernel
theorem dX7_open_143 : decode cX7_open 143 = .ok (.iload 6, 2) := by decide +kernel
theorem dX7_open_145 : decode cX7_open 145 = .ok (.iconst 0, 1) := by decide +kernel
theorem dX7_open_146 : decode cX7_open 146 = .ok (.iastore, 1) := by decide +kernel
theorem dX7_open_147 : decode cX7_open 147 = .ok (.iinc 6 1, 3) := by decide +kernel
theorem dX7_open_150 : decode cX7_open 150 = .ok (.goto (-19), 3) := by decide +kernel
theorem dX7_open_153 : decode cX7_open 153 = .ok (.iconst 0, 1) := by decide +kernel
theorem dX7_open_154 : decode cX7_open 154 = .ok (.istore 6, 2) := by decide +kernel
theorem dX7_open_156 : decode cX7_open 156 = .ok (.iload 6, 2) := by decide +kernel
theorem dX7_open_158 : decode cX7_open 158 = .ok (.ldc 22, 2) := by decide +kernel
theorem dX7_open_160 : decode cX7_open 160 = .ok (.if_icmp .ge 33, 3) := by decide +kernel
theorem dX7_open_163 : decode cX7_open 163 = .ok (.aload_n 0, 1) := by decide +kernel
theorem dX7_open_164 : decode cX7_open 164 = .ok (.getfield 23, 3) := by decide +kernel
theorem dX7_open_167 : decode cX7_open 167 = .ok (.iload 6, 2) := by decide +kernel
theorem dX7_open_169 : decode cX7_open 169 = .ok (.iconst 1, 1) := by decide +kernel
theorem dX7_open_170 : decode cX7_open 170 = .ok (.bastore, 1) := by decide +kernel
theorem dX7_open_171 : decode cX7_open 171 = .ok (.aload_n 0, 1) := by decide +kernel
theorem dX7_open_172 : decode cX7_open 172 = .ok (.getfield 27, 3) := by decide +kernel
theorem dX7_open_175 : decode cX7_open 175 = .ok (.iload 6, 2) := by decide +kernel
theorem dX7_open_177 : decode cX7_open 177 = .ok (.iconst (-1), 1) := by decide +kernel
theorem dX7_open_178 : decode cX7_open 178 = .ok (.iastore, 1) := by decide +kernel
theorem dX7_open_179 : decode cX7_open 179 = .ok (.aload_n 0, 1) := by decide +kernel
theorem dX7_open_180 : decode cX7_open 180 = .ok (.getfield 30, 3) := by decide +kernel
theorem dX7_open_183 : decode cX7_open 183 = .ok (.iload 6, 2) := by decide +kernel
theorem dX7_open_185 : decode cX7_open 185 = .ok (.iconst 0, 1) := by decide +kernel
theorem dX7_open_186 : decode cX7_open 186 = .ok (.bastore, 1) := by decide +kernel
theorem dX7_open_187 : decode cX7_open 187 = .ok (.iinc 6 1, 3) := by decide +kernel
theorem dX7_open_190 : decode cX7_open 190 = .ok (.goto (-34), 3) := by decide +kernel
theorem dX7_open_193 : decode cX7_open 193 = .ok (.iconst 0, 1) := by decide +kernel
theorem dX7_open_194 : decode cX7_open 194 = .ok (.istore 6, 2) := by decide +kernel
theorem dX7_open_196 : decode cX7_open 196 = .ok (.iload 6, 2) := by decide +kernel
theorem dX7_open_198 : decode cX7_open 198 = .ok (.bipush 16, 2) := by decide +kernel
theorem dX7_open_200 : decode cX7_open 200 = .ok (.if_icmp .ge 17, 3) := by decide +kernel
theorem dX7_open_203 : decode cX7_open 203 = .ok (.aload_n 0, 1) := by decide +kernel
theorem dX7_open_204 : decode cX7_open 204 = .ok (.getfield 33, 3) := by decide +kernel
theorem dX7_open_207 : decode cX7_open 207 = .ok (.iload 6, 2) := by decide +kernel
theorem dX7_open_209 : decode cX7_open 209 = .ok (.iconst 0, 1) := by decide +kernel
theorem dX7_open_210 : decode cX7_open 210 = .ok (.iastore, 1) := by decide +kernel
theorem dX7_open_211 : decode cX7_open 211 = .ok (.iinc 6 1, 3) := by decide +kernel
theorem dX7_open_214 : decode cX7_open 214 = .ok (.goto (-18), 3) := by decide +kernel
theorem dX7_open_217 : decode cX7_open 217 = .ok (.aload_n 0, 1) := by decide +kernel
theorem dX7_open_218 : decode cX7_open 218 = .ok (.iconst 0, 1) := by decide +kernel
theorem dX7_open_219 : decode cX7_open 219 = .ok (.putfield 116, 3) := by decide +kernel
theorem dX7_open_222 : decode cX7_open 222 = .ok (.aload_n 0, 1) := by decide +kernel
theorem dX7_open_223 : decode cX7_open 223 = .ok (.iconst 0, 1) := by decide +kernel
theorem dX7_open_224 : decode cX7_open 224 = .ok (.putfield 119, 3) := by decide +kernel
theorem dX7_open_227 : decode cX7_open 227 = .ok (.aload_n 0, 1) := by decide +kernel
theorem dX7_open_228 : decode cX7_open 228 = .ok (.iconst 0, 1) := by decide +kernel
theorem dX7_open_229 : decode cX7_open 229 = .ok (.putfield 122, 3) := by decide +kernel
theorem dX7_open_232 : decode cX7_open 232 = .ok (.aload_n 0, 1) := by decide +kernel
theorem dX7_open_233 : decode cX7_open 233 = .ok (.iconst 0, 1) := by decide +kernel
theorem dX7_open_234 : decode cX7_open 234 = .ok (.putfield 125, 3) := by decide +kernel
theorem dX7_open_237 : decode cX7_open 237 = .ok (.aload_n 0, 1) := by decide +kernel
theorem dX7_open_238 : decode cX7_open 238 = .ok (.getfield 110, 3) := by decide +kernel
theorem dX7_open_241 : decode cX7_open 241 = .ok (.ireturn, 1) := by decide +kernel
theorem dX7_times_0 : decode cX7_times 0 = .ok (.aload_n 0, 1) := by decide +kernel
theorem dX7_times_1 : decode cX7_times 1 = .ok (.getfield 100, 3) := by decide +kernel
theorem dX7_times_4 : decode cX7_times 4 = .ok (.ifCond .ne 6, 3) := by decide +kernel
theorem dX7_times_7 : decode cX7_times 7 = .ok (.bipush (-3), 2) := by decide +kernel
theorem dX7_times_9 : decode cX7_times 9 = .ok (.ireturn, 1) := by decide +kernel
theorem dX7_times_10 : decode cX7_times 10 = .ok (.aload_n 0, 1) := by decide +kernel
theorem dX7_times_11 : decode cX7_times 11 = .ok (.iload_n 1, 1) := by decide +kernel
theorem dX7_times_12 : decode cX7_times 12 = .ok (.invokevirtual 128, 3) := by decide +kernel
theorem dX7_times_15 : decode cX7_times 15 = .ok (.ifCond .eq 23, 3) := by decide +kernel
theorem dX7_times_18 : decode cX7_times 18 = .ok (.aload_n 0, 1) := by decide +kernel
theorem dX7_times_19 : decode cX7_times 19 = .ok (.iload_n 2, 1) := by decide +kernel
theorem dX7_times_20 : decode cX7_times 20 = .ok (.invokevirtual 128, 3) := by decide +kernel
theorem dX7_times_23 : decode cX7_times 23 = .ok (.ifCond .eq 15, 3) := by decide +kernel
theorem dX7_times_26 : decode cX7_times 26 = .ok (.iload_n 1, 1) := by decide +kernel
theorem dX7_times_27 : decode cX7_times 27 = .ok (.iload_n 2, 1) := by decide +kernel
theorem dX7_times_28 : decode cX7_times 28 = .ok (.aload_n 0, 1) := by decide +kernel
theorem dX7_times_29 : decode cX7_times 29 = .ok (.getfield 86, 3) := by decide +kernel
theorem dX7_times_32 : decode cX7_times 32 = .ok (.invokestatic 89, 3) := by decide +kernel
theorem dX7_times_35 : decode cX7_times 35 = .ok (.goto 5, 3) := by decide +kernel
theorem dX7_times_38 : decode cX7_times 38 = .ok (.bipush (-2), 2) := by decide +kernel
theorem dX7_times_40 : decode cX7_times 40 = .ok (.ireturn, 1) := by decide +kernel
theorem dX7_inverse_0 : decode cX7_inverse 0 = .ok (.aload_n 0, 1) := by decide +kernel
theorem dX7_inverse_1 : decode cX7_inverse 1 = .ok (.getfield 100, 3) := by decide +kernel
theorem dX7_inverse_4 : decode cX7_inverse 4 = .ok (.ifCond .ne 6, 3) := by decide +kernel
theorem dX7_inverse_7 : decode cX7_inverse 7 = .ok (.bipush (-3), 2) := by decide +kernel
theorem dX7_inverse_9 : decode cX7_inverse 9 = .ok (.ireturn, 1) := by decide +kernel
theorem dX7_inverse_10 : decode cX7_inverse 10 = .ok (.aload_n 0, 1) := by decide +kernel
theorem dX7_inverse_11 : decode cX7_inverse 11 = .ok (.iload_n 1, 1) := by decide +kernel
theorem dX7_inverse_12 : decode cX7_inverse 12 = .ok (.invokevirtual 128, 3) := by decide +kernel
theorem dX7_inverse_15 : decode cX7_inverse 15 = .ok (.ifCond .eq 15, 3) := by decide +kernel
theorem dX7_inverse_18 : decode cX7_inverse 18 = .ok (.iload_n 1, 1) := by decide +kernel
theorem dX7_inverse_19 : decode cX7_inverse 19 = .ok (.ifCond .le 11, 3) := by decide +kernel
theorem dX7_inverse_22 : decode cX7_inverse 22 = .ok (.aload_n 0, 1) := by decide +kernel
theorem dX7_inverse_23 : decode cX7_inverse 23 = .ok (.iload_n 1, 1) := by decide +kernel
theorem dX7_inverse_24 : decode cX7_inverse 24 = .ok (.invokevirtual 132, 3) := by decide +kernel
theorem dX7_inverse_27 : decode cX7_inverse 27 = .ok (.goto 5, 3) := by decide +kernel
theorem dX7_inverse_30 : decode cX7_inverse 30 = .ok (.bipush (-2), 2) := by decide +kernel
theorem dX7_inverse_32 : decode cX7_inverse 32 = .ok (.ireturn, 1) := by decide +kernel
theorem dX7_power_0 : decode cX7_power 0 = .ok (.aload_n 0, 1) := by decide +kernel
theorem dX7_power_1 : decode cX7_power 1 = .ok (.getfield 100, 3) := by decide +kernel
theorem dX7_power_4 : decode cX7_power 4 = .ok (.ifCond .ne 6, 3) := by decide +kernel
theorem dX7_power_7 : decode cX7_power 7 = .ok (.bipush (-3), 2) := by decide +kernel
theorem dX7_power_9 : decode cX7_power 9 = .ok (.ireturn, 1) := by decide +kernel
theorem dX7_power_10 : decode cX7_power 10 = .ok (.iload_n 1, 1) := by decide +kernel
theorem dX7_power_11 : decode cX7_power 11 = .ok (.ldc 135, 2) := by decide +kernel
theorem dX7_power_13 : decode cX7_power 13 = .ok (.ldc 136, 2) := by decide +kernel
theorem dX7_power_15 : decode cX7_power 15 = .ok (.invokestatic 68, 3) := by decide +kernel
theorem dX7_power_18 : decode cX7_power 18 = .ok (.ifCond .eq 17, 3) := by decide +kernel
theorem dX7_power_21 : decode cX7_power 21 = .ok (.aload_n 0, 1) := by decide +kernel
theorem dX7_power_22 : decode cX7_power 22 = .ok (.getfield 7, 3) := by decide +kernel
theorem dX7_power_25 : decode cX7_power 25 = .ok (.aload_n 0, 1) := by decide +kernel
theorem dX7_power_26 : decode cX7_power 26 = .ok (.iload_n 1, 1) := by decide +kernel
theorem dX7_power_27 : decode cX7_power 27 = .ok (.i2l, 1) := by decide +kernel
theorem dX7_power_28 : decode cX7_power 28 = .ok (.invokevirtual 76, 3) := by decide +kernel
theorem dX7_power_31 : decode cX7_power 31 = .ok (.iaload, 1) := by decide +kernel
theorem dX7_power_32 : decode cX7_power 32 = .ok (.goto 5, 3) := by decide +kernel
theorem dX7_power_35 : decode cX7_power 35 = .ok (.bipush (-2), 2) := by decide +kernel
theorem dX7_power_37 : decode cX7_power 37 = .ok (.ireturn, 1) := by decide +kernel
theorem dX7_log_0 : decode cX7_log 0 = .ok (.aload_n 0, 1) := by decide +kernel
theorem dX7_log_1 : decode cX7_log 1 = .ok (.getfield 100, 3) := by decide +kernel
theorem dX7_log_4 : decode cX7_log 4 = .ok (.ifCond .ne 6, 3) := by decide +kernel
theorem dX7_log_7 : decode cX7_log 7 = .ok (.bipush (-3), 2) := by decide +kernel
theorem dX7_log_9 : decode cX7_log 9 = .ok (.ireturn, 1) := by decide +kernel
theorem dX7_log_10 : decode cX7_log 10 = .ok (.aload_n 0, 1) := by decide +kernel
theorem dX7_log_11 : decode cX7_log 11 = .ok (.iload_n 1, 1) := by decide +kernel
theorem dX7_log_12 : decode cX7_log 12 = .ok (.invokevirtual 128, 3) := by decide +kernel
theorem dX7_log_15 : decode cX7_log 15 = .ok (.ifCond .eq 16, 3) := by decide +kernel
theorem dX7_log_18 : decode cX7_log 18 = .ok (.iload_n 1, 1) := by decide +kernel
theorem dX7_log_19 : decode cX7_log 19 = .ok (.ifCond .le 12, 3) := by decide +kernel
theorem dX7_log_22 : decode cX7_log 22 = .ok (.aload_n 0, 1) := by decide +kernel
theorem dX7_log_23 : decode cX7_log 23 = .ok (.getfield 13, 3) := by decide +kernel
theorem dX7_log_26 : decode cX7_log 26 = .ok (.iload_n 1, 1) := by decide +kernel
theorem dX7_log_27 : decode cX7_log 27 = .ok (.iaload, 1) := by decide +kernel
theorem dX7_log_28 : decode cX7_log 28 = .ok (.goto 5, 3) := by decide +kernel
theorem dX7_log_31 : decode cX7_log 31 = .ok (.bipush (-2), 2) := by decide +kernel
theorem dX7_log_33 : decode cX7_log 33 = .ok (.ireturn, 1) := by decide +kernel
theorem dX7_minimal_0 : decode cX7_minimal 0 = .ok (.aload_n 0, 1) := by decide +kernel
theorem dX7_minimal_1 : decode cX7_minimal 1 = .ok (.getfield 100, 3) := by decide +kernel
theorem dX7_minimal_4 : decode cX7_minimal 4 = .ok (.ifCond .ne 6, 3) := by decide +kernel
theorem dX7_minimal_7 : decode cX7_minimal 7 = .ok (.bipush (-3), 2) := by decide +kernel
theorem dX7_minimal_9 : decode cX7_minimal 9 = .ok (.ireturn, 1) := by decide +kernel
theorem dX7_minimal_10 : decode cX7_minimal 10 = .ok (.iload_n 1, 1) := by decide +kernel
theorem dX7_minimal_11 : decode cX7_minimal 11 = .ok (.iconst 0, 1) := by decide +kernel
theorem dX7_minimal_12 : decode cX7_minimal 12 = .ok (.aload_n 0, 1) := by decide +kernel
theorem dX7_minimal_13 : decode cX7_minimal 13 = .ok (.getfield 64, 3) := by decide +kernel
theorem dX7_minimal_16 : decode cX7_minimal 16 = .ok (.iconst 1, 1) := by decide +kernel
theorem dX7_minimal_17 : decode cX7_minimal 17 = .ok (.isub, 1) := by decide +kernel
theorem dX7_minimal_18 : decode cX7_minimal 18 = .ok (.invokestatic 68, 3) := by decide +kernel
theorem dX7_minimal_21 : decode cX7_minimal 21 = .ok (.ifCond .eq 11, 3) := by decide +kernel
theorem dX7_minimal_24 : decode cX7_minimal 24 = .ok (.aload_n 0, 1) := by decide +kernel
theorem dX7_minimal_25 : decode cX7_minimal 25 = .ok (.iload_n 1, 1) := by decide +kernel
theorem dX7_minimal_26 : decode cX7_minimal 26 = .ok (.invokevirtual 83, 3) := by decide +kernel
theorem dX7_minimal_29 : decode cX7_minimal 29 = .ok (.goto 5, 3) := by decide +kernel
theorem dX7_minimal_32 : decode cX7_minimal 32 = .ok (.bipush (-2), 2) := by decide +kernel
theorem dX7_minimal_34 : decode cX7_minimal 34 = .ok (.ireturn, 1) := by decide +kernel
theorem dX7_generator_0 : decode cX7_generator 0 = .ok (.aload_n 0, 1) := by decide +kernel
theorem dX7_generator_1 : decode cX7_generator 1 = .ok (.getfield 100, 3) := by decide +kernel
theorem dX7_generator_4 : decode cX7_generator 4 = .ok (.ifCond .ne 6, 3) := by decide +kernel
theorem dX7_generator_7 : decode cX7_generator 7 = .ok (.bipush (-3), 2) := by decide +kernel
theorem dX7_generator_9 : decode cX7_generator 9 = .ok (.ireturn, 1) := by decide +kernel
theorem dX7_generator_10 : decode cX7_generator 10 = .ok (.iload_n 1, 1) := by decide +kernel
theorem dX7_generator_11 : decode cX7_generator 11 = .ok (.ifCond .ge 8, 3) := by decide +kernel
theorem dX7_generator_14 : decode cX7_generator 14 = .ok (.bipush (-2), 2) := by decide +kernel
theorem dX7_generator_16 : decode cX7_generator 16 = .ok (.goto 21, 3) := by decide +kernel
theorem dX7_generator_19 : decode cX7_generator 19 = .ok (.iload_n 1, 1) := by decide +kernel
theorem dX7_generator_20 : decode cX7_generator 20 = .ok (.aload_n 0, 1) := by decide +kernel
theorem dX7_generator_21 : decode cX7_generator 21 = .ok (.getfield 110, 3) := by decide +kernel
theorem dX7_generator_24 : decode cX7_generator 24 = .ok (.if_icmp .gt 12, 3) := by decide +kernel
theorem dX7_generator_27 : decode cX7_generator 27 = .ok (.aload_n 0, 1) := by decide +kernel
theorem dX7_generator_28 : decode cX7_generator 28 = .ok (.getfield 16, 3) := by decide +kernel
theorem dX7_generator_31 : decode cX7_generator 31 = .ok (.iload_n 1, 1) := by decide +kernel
theorem dX7_generator_32 : decode cX7_generator 32 = .ok (.iaload, 1) := by decide +kernel
theorem dX7_generator_33 : decode cX7_generator 33 = .ok (.goto 4, 3) := by decide +kernel
theorem dX7_generator_36 : decode cX7_generator 36 = .ok (.iconst 0, 1) := by decide +kernel
theorem dX7_generator_37 : decode cX7_generator 37 = .ok (.ireturn, 1) := by decide +kernel
theorem dX7_put_0 : decode cX7_put 0 = .ok (.aload_n 0, 1) := by decide +kernel
theorem dX7_put_1 : decode cX7_put 1 = .ok (.getfield 100, 3) := by decide +kernel
theorem dX7_put_4 : decode cX7_put 4 = .ok (.ifCond .ne 6, 3) := by decide +kernel
theorem dX7_put_7 : decode cX7_put 7 = .ok (.bipush (-3), 2) := by decide +kernel
theorem dX7_put_9 : decode cX7_put 9 = .ok (.ireturn, 1) := by decide +kernel
theorem dX7_put_10 : decode cX7_put 10 = .ok (.iload_n 1, 1) := by decide +kernel
theorem dX7_put_11 : decode cX7_put 11 = .ok (.iconst 0, 1) := by decide +kernel
theorem dX7_put_12 : decode cX7_put 12 = .ok (.aload_n 0, 1) := by decide +kernel
theorem dX7_put_13 : decode cX7_put 13 = .ok (.getfield 107, 3) := by decide +kernel
theorem dX7_put_16 : decode cX7_put 16 = .ok (.iconst 1, 1) := by decide +kernel
theorem dX7_put_17 : decode cX7_put 17 = .ok (.isub, 1) := by decide +kernel
theorem dX7_put_18 : decode cX7_put 18 = .ok (.invokestatic 68, 3) := by decide +kernel
theorem dX7_put_21 : decode cX7_put 21 = .ok (.ifCond .ne 6, 3) := by decide +kernel
theorem dX7_put_24 : decode cX7_put 24 = .ok (.bipush (-2), 2) := by decide +kernel
theorem dX7_put_26 : decode cX7_put 26 = .ok (.ireturn, 1) := by decide +kernel
theorem dX7_put_27 : decode cX7_put 27 = .ok (.aload_n 0, 1) := by decide +kernel
theorem dX7_put_28 : decode cX7_put 28 = .ok (.getfield 19, 3) := by decide +kernel
theorem dX7_put_31 : decode cX7_put 31 = .ok (.iload_n 1, 1) := by decide +kernel
theorem dX7_put_32 : decode cX7_put 32 = .ok (.iaload, 1) := by decide +kernel
theorem dX7_put_33 : decode cX7_put 33 = .ok (.istore_n 3, 1) := by decide +kernel
theorem dX7_put_34 : decode cX7_put 34 = .ok (.aload_n 0, 1) := by decide +kernel
theorem dX7_put_35 : decode cX7_put 35 = .ok (.getfield 19, 3) := by decide +kernel
theorem dX7_put_38 : decode cX7_put 38 = .ok (.iload_n 1, 1) := by decide +kernel
theorem dX7_put_39 : decode cX7_put 39 = .ok (.iload_n 2, 1) := by decide +kernel
theorem dX7_put_40 : decode cX7_put 40 = .ok (.sipush 255, 3) := by decide +kernel
theorem dX7_put_43 : decode cX7_put 43 = .ok (.iand, 1) := by decide +kernel
theorem dX7_put_44 : decode cX7_put 44 = .ok (.iastore, 1) := by decide +kernel
theorem dX7_put_45 : decode cX7_put 45 = .ok (.iload_n 3, 1) := by decide +kernel
theorem dX7_put_46 : decode cX7_put 46 = .ok (.ireturn, 1) := by decide +kernel
theorem dX7_fill_0 : decode cX7_fill 0 = .ok (.aload_n 0, 1) := by decide +kernel
theorem dX7_fill_1 : decode cX7_fill 1 = .ok (.getfield 100, 3) := by decide +kernel
theorem dX7_fill_4 : decode cX7_fill 4 = .ok (.ifCond .ne 6, 3) := by decide +kernel
theorem dX7_fill_7 : decode cX7_fill 7 = .ok (.bipush (-3), 2) := by decide +kernel
theorem dX7_fill_9 : decode cX7_fill 9 = .ok (.ireturn, 1) := by decide +kernel
theorem dX7_fill_10 : decode cX7_fill 10 = .ok (.iload_n 1, 1) := by decide +kernel
theorem dX7_fill_11 : decode cX7_fill 11 = .ok (.iconst 0, 1) := by decide +kernel
theorem dX7_fill_12 : decode cX7_fill 12 = .ok (.aload_n 0, 1) := by decide +kernel
theorem dX7_fill_13 : decode cX7_fill 13 = .ok (.getfield 107, 3) := by decide +kernel
theorem dX7_fill_16 : decode cX7_fill 16 = .ok (.iconst 1, 1) := by decide +kernel
theorem dX7_fill_17 : decode cX7_fill 17 = .ok (.isub, 1) := by decide +kernel
theorem dX7_fill_18 : decode cX7_fill 18 = .ok (.invokestatic 68, 3) := by decide +kernel
theorem dX7_fill_21 : decode cX7_fill 21 = .ok (.ifCond .ne 6, 3) := by decide +kernel
theorem dX7_fill_24 : decode cX7_fill 24 = .ok (.bipush (-2), 2) := by decide +kernel
theorem dX7_fill_26 : decode cX7_fill 26 = .ok (.ireturn, 1) := by decide +kernel
theorem dX7_fill_27 : decode cX7_fill 27 = .ok (.aload_n 0, 1) := by decide +kernel
theorem dX7_fill_28 : decode cX7_fill 28 = .ok (.getfield 107, 3) := by decide +kernel
theorem dX7_fill_31 : decode cX7_fill 31 = .ok (.iload_n 1, 1) := by decide +kernel
theorem dX7_fill_32 : decode cX7_fill 32 = .ok (.isub, 1) := by decide +kernel
theorem dX7_fill_33 : decode cX7_fill 33 = .ok (.bipush 8, 2) := by decide +kernel
theorem dX7_fill_35 : decode cX7_fill 35 = .ok (.if_icmp .ge 12, 3) := by decide +kernel
theorem dX7_fill_38 : decode cX7_fill 38 = .ok (.aload_n 0, 1) := by decide +kernel
theorem dX7_fill_39 : decode cX7_fill 39 = .ok (.getfield 107, 3) := by decide +kernel
theorem dX7_fill_42 : decode cX7_fill 42 = .ok (.iload_n 1, 1) := by decide +kernel
theorem dX7_fill_43 : decode cX7_fill 43 = .ok (.isub, 1) := by decide +kernel
theorem dX7_fill_44 : decode cX7_fill 44 = .ok (.goto 5, 3) := by decide +kernel
theorem dX7_fill_47 : decode cX7_fill 47 = .ok (.bipush 8, 2) := by decide +kernel
theorem dX7_fill_49 : decode cX7_fill 49 = .ok (.istore 4, 2) := by decide +kernel
theorem dX7_fill_51 : decode cX7_fill 51 = .ok (.iconst 0, 1) := by decide +kernel
theorem dX7_fill_52 : decode cX7_fill 52 = .ok (.istore 5, 2) := by decide +kernel
theorem dX7_fill_54 : decode cX7_fill 54 = .ok (.iload 5, 2) := by decide +kernel
theorem dX7_fill_56 : decode cX7_fill 56 = .ok (.iload 4, 2) := by decide +kernel
theorem dX7_fill_58 : decode cX7_fill 58 = .ok (.if_icmp .ge 33, 3) := by decide +kernel
theorem dX7_fill_61 : decode cX7_fill 61 = .ok (.aload_n 0, 1) := by decide +kernel
theorem dX7_fill_62 : decode cX7_fill 62 = .ok (.getfield 19, 3) := by decide +kernel
theorem dX7_fill_65 : decode cX7_fill 65 = .ok (.iload_n 1, 1) := by decide +kernel
theorem dX7_fill_66 : decode cX7_fill 66 = .ok (.iload 5, 2) := by decide +kernel
theorem dX7_fill_68 : decode cX7_fill 68 = .ok (.iadd, 1) := by decide +kernel
theorem dX7_fill_69 : decode cX7_fill 69 = .ok (.lload_n 2, 1) := by decide +kernel
theorem dX7_fill_70 : decode cX7_fill 70 = .ok (.bipush 56, 2) := by decide +kernel
theorem dX7_fill_72 : decode cX7_fill 72 = .ok (.bipush 8, 2) := by decide +kernel
theorem dX7_fill_74 : decode cX7_fill 74 = .ok (.iload 5, 2) := by decide +kernel
theorem dX7_fill_76 : decode cX7_fill 76 = .ok (.imul, 1) := by decide +kernel
theorem dX7_fill_77 : decode cX7_fill 77 = .ok (.isub, 1) := by decide +kernel
theorem dX7_fill_78 : decode cX7_fill 78 = .ok (.lshr, 1) := by decide +kernel
theorem dX7_fill_79 : decode cX7_fill 79 = .ok (.ldc2_w 137, 3) := by decide +kernel
theorem dX7_fill_82 : decode cX7_fill 82 = .ok (.land, 1) := by decide +kernel
theorem dX7_fill_83 : decode cX7_fill 83 = .ok (.l2i, 1) := by decide +kernel
theorem dX7_fill_84 : decode cX7_fill 84 = .ok (.iastore, 1) := by decide +kernel
theorem dX7_fill_85 : decode cX7_fill 85 = .ok (.iinc 5 1, 3) := by decide +kernel
theorem dX7_fill_88 : decode cX7_fill 88 = .ok (.goto (-34), 3) := by decide +kernel
theorem dX7_fill_91 : decode cX7_fill 91 = .ok (.iload 4, 2) := by decide +kernel
theorem dX7_fill_93 : decode cX7_fill 93 = .ok (.ireturn, 1) := by decide +kernel
theorem dX7_get_0 : decode cX7_get 0 = .ok (.aload_n 0, 1) := by decide +kernel
theorem dX7_get_1 : decode cX7_get 1 = .ok (.getfield 100, 3) := by decide +kernel
theorem dX7_get_4 : decode cX7_get 4 = .ok (.ifCond .ne 6, 3) := by decide +kernel
theorem dX7_get_7 : decode cX7_get 7 = .ok (.bipush (-3), 2) := by decide +kernel
theorem dX7_get_9 : decode cX7_get 9 = .ok (.ireturn, 1) := by decide +kernel
theorem dX7_get_10 : decode cX7_get 10 = .ok (.iload_n 1, 1) := by decide +kernel
theorem dX7_get_11 : decode cX7_get 11 = .ok (.iconst 0, 1) := by decide +kernel
theorem dX7_get_12 : decode cX7_get 12 = .ok (.aload_n 0, 1) := by decide +kernel
theorem dX7_get_13 : decode cX7_get 13 = .ok (.getfield 107, 3) := by decide +kernel
theorem dX7_get_16 : decode cX7_get 16 = .ok (.iconst 1, 1) := by decide +kernel
theorem dX7_get_17 : decode cX7_get 17 = .ok (.isub, 1) := by decide +kernel
theorem dX7_get_18 : decode cX7_get 18 = .ok (.invokestatic 68, 3) := by decide +kernel
theorem dX7_get_21 : decode cX7_get 21 = .ok (.ifCond .eq 12, 3) := by decide +kernel
theorem dX7_get_24 : decode cX7_get 24 = .ok (.aload_n 0, 1) := by decide +kernel
theorem dX7_get_25 : decode cX7_get 25 = .ok (.getfield 19, 3) := by decide +kernel
theorem dX7_get_28 : decode cX7_get 28 = .ok (.iload_n 1, 1) := by decide +kernel
theorem dX7_get_29 : decode cX7_get 29 = .ok (.iaload, 1) := by decide +kernel
theorem dX7_get_30 : decode cX7_get 30 = .ok (.goto 5, 3) := by decide +kernel
theorem dX7_get_33 : decode cX7_get 33 = .ok (.bipush (-2), 2) := by decide +kernel
theorem dX7_get_35 : decode cX7_get 35 = .ok (.ireturn, 1) := by decide +kernel
theorem dX7_complete_0 : decode cX7_complete 0 = .ok (.iconst 0, 1) := by decide +kernel
theorem dX7_complete_1 : decode cX7_complete 1 = .ok (.istore_n 1, 1) := by decide +kernel
theorem dX7_complete_2 : decode cX7_complete 2 = .ok (.iload_n 1, 1) := by decide +kernel
theorem dX7_complete_3 : decode cX7_complete 3 = .ok (.bipush 110, 2) := by decide +kernel
theorem dX7_complete_5 : decode cX7_complete 5 = .ok (.if_icmp .ge 16, 3) := by decide +kernel
theorem dX7_complete_8 : decode cX7_complete 8 = .ok (.aload_n 0, 1) := by decide +kernel
theorem dX7_complete_9 : decode cX7_complete 9 = .ok (.getfield 48, 3) := by decide +kernel
theorem dX7_complete_12 : decode cX7_complete 12 = .ok (.iload_n 1, 1) := by decide +kernel
theorem dX7_complete_13 : decode cX7_complete 13 = .ok (.iconst 0, 1) := by decide +kernel
theorem dX7_complete_14 : decode cX7_complete 14 = .ok (.iastore, 1) := by decide +kernel
theorem dX7_complete_15 : decode cX7_complete 15 = .ok (.iinc 1 1, 3) := by decide +kernel
theorem dX7_complete_18 : decode cX7_complete 18 = .ok (.goto (-16), 3) := by decide +kernel
theorem dX7_complete_21 : decode cX7_complete 21 = .ok (.iconst 0, 1) := by decide +kernel
theorem dX7_complete_22 : decode cX7_complete 22 = .ok (.istore_n 1, 1) := by decide +kernel
theorem dX7_complete_23 : decode cX7_complete 23 = .ok (.iload_n 1, 1) := by decide +kernel
theorem dX7_complete_24 : decode cX7_complete 24 = .ok (.bipush 8, 2) := by decide +kernel
theorem dX7_complete_26 : decode cX7_complete 26 = .ok (.aload_n 0, 1) := by decide +kernel
theorem dX7_complete_27 : decode cX7_complete 27 = .ok (.getfield 107, 3) := by decide +kernel
theorem dX7_complete_30 : decode cX7_complete 30 = .ok (.imul, 1) := by decide +kernel
theorem dX7_complete_31 : decode cX7_complete 31 = .ok (.if_icmp .ge 138, 3) := by decide +kernel
theorem dX7_complete_34 : decode cX7_complete 34 = .ok (.aload_n 0, 1) := by decide +kernel
theorem dX7_complete_35 : decode cX7_complete 35 = .ok (.getfield 45, 3) := by decide +kernel
theorem dX7_complete_38 : decode cX7_complete 38 = .ok (.iload_n 1, 1) := by decide +kernel
theorem dX7_complete_39 : decode cX7_complete 39 = .ok (.aload_n 0, 1) := by decide +kernel
theorem dX7_complete_40 : decode cX7_complete 40 = .ok (.getfield 19, 3) := by decide +kernel
theorem dX7_complete_43 : decode cX7_complete 43 = .ok (.iload_n 1, 1) := by decide +kernel
theorem dX7_complete_44 : decode cX7_complete 44 = .ok (.bipush 8, 2) := by decide +kernel
theorem dX7_complete_46 : decode cX7_complete 46 = .ok (.idiv, 1) := by decide +kernel
theorem dX7_complete_47 : decode cX7_complete 47 = .ok (.iaload, 1) := by decide +kernel
theorem dX7_complete_48 : decode cX7_complete 48 = .ok (.bipush 7, 2) := by decide +kernel
theorem dX7_complete_50 : decode cX7_complete 50 = .ok (.iload_n 1, 1) := by decide +kernel
theorem dX7_complete_51 : decode cX7_complete 51 = .ok (.bipush 8, 2) := by decide +kernel
theorem dX7_complete_53 : decode cX7_complete 53 = .ok (.irem, 1) := by decide +kernel
theorem dX7_complete_54 : decode cX7_complete 54 = .ok (.isub, 1) := by decide +kernel
theorem dX7_complete_55 : decode cX7_complete 55 = .ok (.ishr, 1) := by decide +kernel
theorem dX7_complete_56 : decode cX7_complete 56 = .ok (.iconst 1, 1) := by decide +kernel
theorem dX7_complete_57 : decode cX7_complete 57 = .ok (.iand, 1) := by decide +kernel
theorem dX7_complete_58 : decode cX7_complete 58 = .ok (.iconst 1, 1) := by decide +kernel
theorem dX7_complete_59 : decode cX7_complete 59 = .ok (.if_icmp .ne 7, 3) := by decide +kernel
theorem dX7_complete_62 : decode cX7_complete 62 = .ok (.iconst 1, 1) := by decide +kernel
theorem dX7_complete_63 : decode cX7_complete 63 = .ok (.goto 4, 3) := by decide +kernel
theorem dX7_complete_66 : decode cX7_complete 66 = .ok (.iconst 0, 1) := by decide +kernel
theorem dX7_complete_67 : decode cX7_complete 67 = .ok (.bastore, 1) := by decide +kernel
theorem dX7_complete_68 : decode cX7_complete 68 = .ok (.aload_n 0, 1) := by decide +kernel
theorem dX7_complete_69 : decode cX7_complete 69 = .ok (.getfield 48, 3) := by decide +kernel
theorem dX7_complete_72 : decode cX7_complete 72 = .ok (.aload_n 0, 1) := by decide +kernel
theorem dX7_complete_73 : decode cX7_complete 73 = .ok (.getfield 110, 3) := by decide +kernel
theorem dX7_complete_76 : decode cX7_complete 76 = .ok (.iconst 1, 1) := by decide +kernel
theorem dX7_complete_77 : decode cX7_complete 77 = .ok (.isub, 1) := by decide +kernel
theorem dX7_complete_78 : decode cX7_complete 78 = .ok (.iaload, 1) := by decide +kernel
theorem dX7_complete_79 : decode cX7_complete 79 = .ok (.aload_n 0, 1) := by decide +kernel
theorem dX7_complete_80 : decode cX7_complete 80 = .ok (.getfield 45, 3) := by decide +kernel
theorem dX7_complete_83 : decode cX7_complete 83 = .ok (.iload_n 1, 1) := by decide +kernel
theorem dX7_complete_84 : decode cX7_complete 84 = .ok (.baload, 1) := by decide +kernel
theorem dX7_complete_85 : decode cX7_complete 85 = .ok (.ifCond .eq 7, 3) := by decide +kernel
theorem dX7_complete_88 : decode cX7_complete 88 = .ok (.iconst 0, 1) := by decide +kernel
theorem dX7_complete_89 : decode cX7_complete 89 = .ok (.goto 4, 3) := by decide +kernel
theorem dX7_complete_92 : decode cX7_complete 92 = .ok (.iconst 1, 1) := by decide +kernel
theorem dX7_complete_93 : decode cX7_complete 93 = .ok (.ixor, 1) := by decide +kernel
theorem dX7_complete_94 : decode cX7_complete 94 = .ok (.istore_n 2, 1) := by decide +kernel
theorem dX7_complete_95 : decode cX7_complete 95 = .ok (.aload_n 0, 1) := by decide +kernel
theorem dX7_complete_96 : decode cX7_complete 96 = .ok (.getfield 110, 3) := by decide +kernel
theorem dX7_complete_99 : decode cX7_complete 99 = .ok (.iconst 1, 1) := by decide +kernel
theorem dX7_complete_100 : decode cX7_complete 100 = .ok (.isub, 1) := by decide +kernel
theorem dX7_complete_101 : decode cX7_complete 101 = .ok (.istore_n 3, 1) := by decide +kernel
theorem dX7_complete_102 : decode cX7_complete 102 = .ok (.iload_n 3, 1) := by decide +kernel
theorem dX7_complete_103 : decode cX7_complete 103 = .ok (.ifCond .le 39, 3) := by decide +kernel
theorem dX7_complete_106 : decode cX7_complete 106 = .ok (.aload_n 0, 1) := by decide +kernel
theorem dX7_complete_107 : decode cX7_complete 107 = .ok (.getfield 48, 3) := by decide +kernel
theorem dX7_complete_110 : decode cX7_complete 110 = .ok (.iload_n 3, 1) := by decide +kernel
theorem dX7_complete_111 : decode cX7_complete 111 = .ok (.aload_n 0, 1) := by decide +kernel
theorem dX7_complete_112 : decode cX7_complete 112 = .ok (.getfield 48, 3) := by decide +kernel
theorem dX7_complete_115 : decode cX7_complete 115 = .ok (.iload_n 3, 1) := by decide +kernel
theorem dX7_complete_116 : decode cX7_complete 116 = .ok (.iconst 1, 1) := by decide +kernel
theorem dX7_complete_117 : decode cX7_complete 117 = .ok (.isub, 1) := by decide +kernel
theorem dX7_complete_118 : decode cX7_complete 118 = .ok (.iaload, 1) := by decide +kernel
theorem dX7_complete_119 : decode cX7_complete 119 = .ok (.iload_n 2, 1) := by decide +kernel
theorem dX7_complete_120 : decode cX7_complete 120 = .ok (.iconst 1, 1) := by decide +kernel
theorem dX7_complete_121 : decode cX7_complete 121 = .ok (.if_icmp .ne 12, 3) := by decide +kernel
theorem dX7_complete_124 : decode cX7_complete 124 = .ok (.aload_n 0, 1) := by decide +kernel
theorem dX7_complete_125 : decode cX7_complete 125 = .ok (.getfield 16, 3) := by decide +kernel
theorem dX7_complete_128 : decode cX7_complete 128 = .ok (.iload_n 3, 1) := by decide +kernel
theorem dX7_complete_129 : decode cX7_complete 129 = .ok (.iaload, 1) := by decide +kernel
theorem dX7_complete_130 : decode cX7_complete 130 = .ok (.goto 4, 3) := by decide +kernel
theorem dX7_complete_133 : decode cX7_complete 133 = .ok (.iconst 0, 1) := by decide +kernel
theorem dX7_complete_134 : decode cX7_complete 134 = .ok (.ixor, 1) := by decide +kernel
theorem dX7_complete_135 : decode cX7_complete 135 = .ok (.iastore, 1) := by decide +kernel
theorem dX7_complete_136 : decode cX7_complete 136 = .ok (.iinc 3 (-1), 3) := by decide +kernel
theorem dX7_complete_139 : decode cX7_complete 139 = .ok (.goto (-37), 3) := by decide +kernel
theorem dX7_complete_142 : decode cX7_complete 142 = .ok (.aload_n 0, 1) := by decide +kernel
theorem dX7_complete_143 : decode cX7_complete 143 = .ok (.getfield 48, 3) := by decide +kernel
theorem dX7_complete_146 : decode cX7_complete 146 = .ok (.iconst 0, 1) := by decide +kernel
theorem dX7_complete_147 : decode cX7_complete 147 = .ok (.iload_n 2, 1) := by decide +kernel
theorem dX7_complete_148 : decode cX7_complete 148 = .ok (.iconst 1, 1) := by decide +kernel
theorem dX7_complete_149 : decode cX7_complete 149 = .ok (.if_icmp .ne 12, 3) := by decide +kernel
theorem dX7_complete_152 : decode cX7_complete 152 = .ok (.aload_n 0, 1) := by decide +kernel
theorem dX7_complete_153 : decode cX7_complete 153 = .ok (.getfield 16, 3) := by decide +kernel
theorem dX7_complete_156 : decode cX7_complete 156 = .ok (.iconst 0, 1) := by decide +kernel
theorem dX7_complete_157 : decode cX7_complete 157 = .ok (.iaload, 1) := by decide +kernel
theorem dX7_complete_158 : decode cX7_complete 158 = .ok (.goto 4, 3) := by decide +kernel
theorem dX7_complete_161 : decode cX7_complete 161 = .ok (.iconst 0, 1) := by decide +kernel
theorem dX7_complete_162 : decode cX7_complete 162 = .ok (.iastore, 1) := by decide +kernel
theorem dX7_complete_163 : decode cX7_complete 163 = .ok (.iinc 1 1, 3) := by decide +kernel
theorem dX7_complete_166 : decode cX7_complete 166 = .ok (.goto (-143), 3) := by decide +kernel
theorem dX7_complete_169 : decode cX7_complete 169 = .ok (.iconst 0, 1) := by decide +kernel
theorem dX7_complete_170 : decode cX7_complete 170 = .ok (.istore_n 1, 1) := by decide +kernel
theorem dX7_complete_171 : decode cX7_complete 171 = .ok (.iload_n 1, 1) := by decide +kernel
theorem dX7_complete_172 : decode cX7_complete 172 = .ok (.aload_n 0, 1) := by decide +kernel
theorem dX7_complete_173 : decode cX7_complete 173 = .ok (.getfield 110, 3) := by decide +kernel
theorem dX7_complete_176 : decode cX7_complete 176 = .ok (.if_icmp .ge 44, 3) := by decide +kernel
theorem dX7_complete_179 : decode cX7_complete 179 = .ok (.aload_n 0, 1) := by decide +kernel
theorem dX7_complete_180 : decode cX7_complete 180 = .ok (.getfield 45, 3) := by decide +kernel
theorem dX7_complete_183 : decode cX7_complete 183 = .ok (.bipush 8, 2) := by decide +kernel
theorem dX7_complete_185 : decode cX7_complete 185 = .ok (.aload_n 0, 1) := by decide +kernel
theorem dX7_complete_186 : decode cX7_complete 186 = .ok (.getfield 107, 3) := by decide +kernel
theorem dX7_complete_189 : decode cX7_complete 189 = .ok (.imul, 1) := by decide +kernel
theorem dX7_complete_190 : decode cX7_complete 190 = .ok (.iload_n 1, 1) := by decide +kernel
theorem dX7_complete_191 : decode cX7_complete 191 = .ok (.iadd, 1) := by decide +kernel
theorem dX7_complete_192 : decode cX7_complete 192 = .ok (.aload_n 0, 1) := by decide +kernel
theorem dX7_complete_193 : decode cX7_complete 193 = .ok (.getfield 48, 3) := by decide +kernel
theorem dX7_complete_196 : decode cX7_complete 196 = .ok (.aload_n 0, 1) := by decide +kernel
theorem dX7_complete_197 : decode cX7_complete 197 = .ok (.getfield 110, 3) := by decide +kernel
theorem dX7_complete_200 : decode cX7_complete 200 = .ok (.iconst 1, 1) := by decide +kernel
theorem dX7_complete_201 : decode cX7_complete 201 = .ok (.isub, 1) := by decide +kernel
theorem dX7_complete_202 : decode cX7_complete 202 = .ok (.iload_n 1, 1) := by decide +kernel
theorem dX7_complete_203 : decode cX7_complete 203 = .ok (.isub, 1) := by decide +kernel
theorem dX7_complete_204 : decode cX7_complete 204 = .ok (.iaload, 1) := by decide +kernel
theorem dX7_complete_205 : decode cX7_complete 205 = .ok (.ifCond .ne 7, 3) := by decide +kernel
theorem dX7_complete_208 : decode cX7_complete 208 = .ok (.iconst 1, 1) := by decide +kernel
theorem dX7_complete_209 : decode cX7_complete 209 = .ok (.goto 4, 3) := by decide +kernel
theorem dX7_complete_212 : decode cX7_complete 212 = .ok (.iconst 0, 1) := by decide +kernel
theorem dX7_complete_213 : decode cX7_complete 213 = .ok (.bastore, 1) := by decide +kernel
theorem dX7_complete_214 : decode cX7_complete 214 = .ok (.iinc 1 1, 3) := by decide +kernel
theorem dX7_complete_217 : decode cX7_complete 217 = .ok (.goto (-46), 3) := by decide +kernel
theorem dX7_complete_220 : decode cX7_complete 220 = .ok (.return_, 1) := by decide +kernel
theorem dX7_tail_0 : decode cX7_tail 0 = .ok (.aload_n 0, 1) := by decide +kernel
theorem dX7_tail_1 : decode cX7_tail 1 = .ok (.getfield 100, 3) := by decide +kernel
theorem dX7_tail_4 : decode cX7_tail 4 = .ok (.ifCond .ne 6, 3) := by decide +kernel
theorem dX7_tail_7 : decode cX7_tail 7 = .ok (.bipush (-3), 2) := by decide +kernel
theorem dX7_tail_9 : decode cX7_tail 9 = .ok (.ireturn, 1) := by decide +kernel
theorem dX7_tail_10 : decode cX7_tail 10 = .ok (.iload_n 1, 1) := by decide +kernel
theorem dX7_tail_11 : decode cX7_tail 11 = .ok (.iconst 0, 1) := by decide +kernel
theorem dX7_tail_12 : decode cX7_tail 12 = .ok (.aload_n 0, 1) := by decide +kernel
theorem dX7_tail_13 : decode cX7_tail 13 = .ok (.getfield 110, 3) := by decide +kernel
theorem dX7_tail_16 : decode cX7_tail 16 = .ok (.iconst 1, 1) := by decide +kernel
theorem dX7_tail_17 : decode cX7_tail 17 = .ok (.isub, 1) := by decide +kernel
theorem dX7_tail_18 : decode cX7_tail 18 = .ok (.invokestatic 68, 3) := by decide +kernel
theorem dX7_tail_21 : decode cX7_tail 21 = .ok (.ifCond .ne 6, 3) := by decide +kernel
theorem dX7_tail_24 : decode cX7_tail 24 = .ok (.bipush (-2), 2) := by decide +kernel
theorem dX7_tail_26 : decode cX7_tail 26 = .ok (.ireturn, 1) := by decide +kernel
theorem dX7_tail_27 : decode cX7_tail 27 = .ok (.aload_n 0, 1) := by decide +kernel
theorem dX7_tail_28 : decode cX7_tail 28 = .ok (.invokevirtual 139, 3) := by decide +kernel
theorem dX7_tail_31 : decode cX7_tail 31 = .ok (.aload_n 0, 1) := by decide +kernel
theorem dX7_tail_32 : decode cX7_tail 32 = .ok (.getfield 45, 3) := by decide +kernel
theorem dX7_tail_35 : decode cX7_tail 35 = .ok (.bipush 8, 2) := by decide +kernel
theorem dX7_tail_37 : decode cX7_tail 37 = .ok (.aload_n 0, 1) := by decide +kernel
theorem dX7_tail_38 : decode cX7_tail 38 = .ok (.getfield 107, 3) := by decide +kernel
theorem dX7_tail_41 : decode cX7_tail 41 = .ok (.imul, 1) := by decide +kernel
theorem dX7_tail_42 : decode cX7_tail 42 = .ok (.iload_n 1, 1) := by decide +kernel
theorem dX7_tail_43 : decode cX7_tail 43 = .ok (.iadd, 1) := by decide +kernel
theorem dX7_tail_44 : decode cX7_tail 44 = .ok (.baload, 1) := by decide +kernel
theorem dX7_tail_45 : decode cX7_tail 45 = .ok (.ifCond .eq 7, 3) := by decide +kernel
theorem dX7_tail_48 : decode cX7_tail 48 = .ok (.iconst 1, 1) := by decide +kernel
theorem dX7_tail_49 : decode cX7_tail 49 = .ok (.goto 4, 3) := by decide +kernel
theorem dX7_tail_52 : decode cX7_tail 52 = .ok (.iconst 0, 1) := by decide +kernel
theorem dX7_tail_53 : decode cX7_tail 53 = .ok (.ireturn, 1) := by decide +kernel
theorem dX7_isPage_0 : decode cX7_isPage 0 = .ok (.iload_n 0, 1) := by decide +kernel
theorem dX7_isPage_1 : decode cX7_isPage 1 = .ok (.iconst 0, 1) := by decide +kernel
theorem dX7_isPage_2 : decode cX7_isPage 2 = .ok (.bipush 15, 2) := by decide +kernel
theorem dX7_isPage_4 : decode cX7_isPage 4 = .ok (.invokestatic 68, 3) := by decide +kernel
theorem dX7_isPage_7 : decode cX7_isPage 7 = .ok (.ireturn, 1) := by decide +kernel
theorem dX7_isBit_0 : decode cX7_isBit 0 = .ok (.iload_n 1, 1) := by decide +kernel
theorem dX7_isBit_1 : decode cX7_isBit 1 = .ok (.invokestatic 142, 3) := by decide +kernel
theorem dX7_isBit_4 : decode cX7_isBit 4 = .ok (.ifCond .eq 21, 3) := by decide +kernel
theorem dX7_isBit_7 : decode cX7_isBit 7 = .ok (.iload_n 2, 1) := by decide +kernel
theorem dX7_isBit_8 : decode cX7_isBit 8 = .ok (.iconst 0, 1) := by decide +kernel
theorem dX7_isBit_9 : decode cX7_isBit 9 = .ok (.aload_n 0, 1) := by decide +kernel
theorem dX7_isBit_10 : decode cX7_isBit 10 = .ok (.getfield 113, 3) := by decide +kernel
theorem dX7_isBit_13 : decode cX7_isBit 13 = .ok (.iconst 1, 1) := by decide +kernel
theorem dX7_isBit_14 : decode cX7_isBit 14 = .ok (.isub, 1) := by decide +kernel
theorem dX7_isBit_15 : decode cX7_isBit 15 = .ok (.invokestatic 68, 3) := by decide +kernel
theorem dX7_isBit_18 : decode cX7_isBit 18 = .ok (.ifCond .eq 7, 3) := by decide +kernel
theorem dX7_isBit_21 : decode cX7_isBit 21 = .ok (.iconst 1, 1) := by decide +kernel
theorem dX7_isBit_22 : decode cX7_isBit 22 = .ok (.goto 4, 3) := by decide +kernel
theorem dX7_isBit_25 : decode cX7_isBit 25 = .ok (.iconst 0, 1) := by decide +kernel
theorem dX7_isBit_26 : decode cX7_isBit 26 = .ok (.ireturn, 1) := by decide +kernel
theorem dX7_set_0 : decode cX7_set 0 = .ok (.aload_n 0, 1) := by decide +kernel
theorem dX7_set_1 : decode cX7_set 1 = .ok (.getfield 23, 3) := by decide +kernel
theorem dX7_set_4 : decode cX7_set 4 = .ok (.iload_n 1, 1) := by decide +kernel
theorem dX7_set_5 : decode cX7_set 5 = .ok (.aload_n 0, 1) := by decide +kernel
theorem dX7_set_6 : decode cX7_set 6 = .ok (.getfield 27, 3) := by decide +kernel
theorem dX7_set_9 : decode cX7_set 9 = .ok (.iload_n 1, 1) := by decide +kernel
theorem dX7_set_10 : decode cX7_set 10 = .ok (.iaload, 1) := by decide +kernel
theorem dX7_set_11 : decode cX7_set 11 = .ok (.iconst (-1), 1) := by decide +kernel
theorem dX7_set_12 : decode cX7_set 12 = .ok (.if_icmp .ne 7, 3) := by decide +kernel
theorem dX7_set_15 : decode cX7_set 15 = .ok (.iload_n 2, 1) := by decide +kernel
theorem dX7_set_16 : decode cX7_set 16 = .ok (.goto 9, 3) := by decide +kernel
theorem dX7_set_19 : decode cX7_set 19 = .ok (.aload_n 0, 1) := by decide +kernel
theorem dX7_set_20 : decode cX7_set 20 = .ok (.getfield 23, 3) := by decide +kernel
theorem dX7_set_23 : decode cX7_set 23 = .ok (.iload_n 1, 1) := by decide +kernel
theorem dX7_set_24 : decode cX7_set 24 = .ok (.baload, 1) := by decide +kernel
theorem dX7_set_25 : decode cX7_set 25 = .ok (.bastore, 1) := by decide +kernel
theorem dX7_set_26 : decode cX7_set 26 = .ok (.return_, 1) := by decide +kernel
theorem dX7_program_0 : decode cX7_program 0 = .ok (.iconst 0, 1) := by decide +kernel
theorem dX7_program_1 : decode cX7_program 1 = .ok (.istore_n 2, 1) := by decide +kernel
theorem dX7_program_2 : decode cX7_program 2 = .ok (.iconst 0, 1) := by decide +kernel
theorem dX7_program_3 : decode cX7_program 3 = .ok (.istore_n 3, 1) := by decide +kernel
theorem dX7_program_4 : decode cX7_program 4 = .ok (.iload_n 3, 1) := by decide +kernel
theorem dX7_program_5 : decode cX7_program 5 = .ok (.aload_n 0, 1) := by decide +kernel
theorem dX7_program_6 : decode cX7_program 6 = .ok (.getfield 113, 3) := by decide +kernel
theorem dX7_program_9 : decode cX7_program 9 = .ok (.if_icmp .ge 58, 3) := by decide +kernel
theorem dX7_program_12 : decode cX7_program 12 = .ok (.sipush 2200, 3) := by decide +kernel
theorem dX7_program_15 : decode cX7_program 15 = .ok (.iload_n 1, 1) := by decide +kernel
theorem dX7_program_16 : decode cX7_program 16 = .ok (.imul, 1) := by decide +kernel
theorem dX7_program_17 : decode cX7_program 17 = .ok (.iload_n 3, 1) := by decide +kernel
theorem dX7_program_18 : decode cX7_program 18 = .ok (.iadd, 1) := by decide +kernel
theorem dX7_program_19 : decode cX7_program 19 = .ok (.istore 4, 2) := by decide +kernel
theorem dX7_program_21 : decode cX7_program 21 = .ok (.aload_n 0, 1) := by decide +kernel
theorem dX7_program_22 : decode cX7_program 22 = .ok (.getfield 45, 3) := by decide +kernel
theorem dX7_program_25 : decode cX7_program 25 = .ok (.iload_n 3, 1) := by decide +kernel
theorem dX7_program_26 : decode cX7_program 26 = .ok (.baload, 1) := by decide +kernel
theorem dX7_program_27 : decode cX7_program 27 = .ok (.ifCond .ne 10, 3) := by decide +kernel
theorem dX7_program_30 : decode cX7_program 30 = .ok (.aload_n 0, 1) := by decide +kernel
theorem dX7_program_31 : decode cX7_program 31 = .ok (.iload 4, 2) := by decide +kernel
theorem dX7_program_33 : decode cX7_program 33 = .ok (.iconst 0, 1) := by decide +kernel
theorem dX7_program_34 : decode cX7_program 34 = .ok (.invokevirtual 145, 3) := by decide +kernel
theorem dX7_program_37 : decode cX7_program 37 = .ok (.iload_n 2, 1) := by decide +kernel
theorem dX7_program_38 : decode cX7_program 38 = .ok (.aload_n 0, 1) := by decide +kernel
theorem dX7_program_39 : decode cX7_program 39 = .ok (.getfield 23, 3) := by decide +kernel
theorem dX7_program_42 : decode cX7_program 42 = .ok (.iload 4, 2) := by decide +kernel
theorem dX7_program_44 : decode cX7_program 44 = .ok (.baload, 1) := by decide +kernel
theorem dX7_program_45 : decode cX7_program 45 = .ok (.aload_n 0, 1) := by decide +kernel
theorem dX7_program_46 : decode cX7_program 46 = .ok (.getfield 45, 3) := by decide +kernel
theorem dX7_program_49 : decode cX7_program 49 = .ok (.iload_n 3, 1) := by decide +kernel
theorem dX7_program_50 : decode cX7_program 50 = .ok (.baload, 1) := by decide +kernel
theorem dX7_program_51 : decode cX7_program 51 = .ok (.if_icmp .eq 7, 3) := by decide +kernel
theorem dX7_program_54 : decode cX7_program 54 = .ok (.iconst 1, 1) := by decide +kernel
theorem dX7_program_55 : decode cX7_program 55 = .ok (.goto 4, 3) := by decide +kernel
theorem dX7_program_58 : decode cX7_program 58 = .ok (.iconst 0, 1) := by decide +kernel
theorem dX7_program_59 : decode cX7_program 59 = .ok (.iadd, 1) := by decide +kernel
theorem dX7_program_60 : decode cX7_program 60 = .ok (.istore_n 2, 1) := by decide +kernel
theorem dX7_program_61 : decode cX7_program 61 = .ok (.iinc 3 1, 3) := by decide +kernel
theorem dX7_program_64 : decode cX7_program 64 = .ok (.goto (-60), 3) := by decide +kernel
theorem dX7_program_67 : decode cX7_program 67 = .ok (.iload_n 2, 1) := by decide +kernel
theorem dX7_program_68 : decode cX7_program 68 = .ok (.ireturn, 1) := by decide +kernel
theorem dX7_wipe_0 : decode cX7_wipe 0 = .ok (.iconst 0, 1) := by decide +kernel
theorem dX7_wipe_1 : decode cX7_wipe 1 = .ok (.istore_n 2, 1) := by decide +kernel
theorem dX7_wipe_2 : decode cX7_wipe 2 = .ok (.iload_n 2, 1) := by decide +kernel
theorem dX7_wipe_3 : decode cX7_wipe 3 = .ok (.aload_n 0, 1) := by decide +kernel
theorem dX7_wipe_4 : decode cX7_wipe 4 = .ok (.getfield 113, 3) := by decide +kernel
theorem dX7_wipe_7 : decode cX7_wipe 7 = .ok (.if_icmp .ge 34, 3) := by decide +kernel
theorem dX7_wipe_10 : decode cX7_wipe 10 = .ok (.aload_n 0, 1) := by decide +kernel
theorem dX7_wipe_11 : decode cX7_wipe 11 = .ok (.sipush 2200, 3) := by decide +kernel
theorem dX7_wipe_14 : decode cX7_wipe 14 = .ok (.iload_n 1, 1) := by decide +kernel
theorem dX7_wipe_15 : decode cX7_wipe 15 = .ok (.imul, 1) := by decide +kernel
theorem dX7_wipe_16 : decode cX7_wipe 16 = .ok (.iload_n 2, 1) := by decide +kernel
theorem dX7_wipe_17 : decode cX7_wipe 17 = .ok (.iadd, 1) := by decide +kernel
theorem dX7_wipe_18 : decode cX7_wipe 18 = .ok (.iconst 1, 1) := by decide +kernel
theorem dX7_wipe_19 : decode cX7_wipe 19 = .ok (.invokevirtual 145, 3) := by decide +kernel
theorem dX7_wipe_22 : decode cX7_wipe 22 = .ok (.aload_n 0, 1) := by decide +kernel
theorem dX7_wipe_23 : decode cX7_wipe 23 = .ok (.getfield 30, 3) := by decide +kernel
theorem dX7_wipe_26 : decode cX7_wipe 26 = .ok (.sipush 2200, 3) := by decide +kernel
theorem dX7_wipe_29 : decode cX7_wipe 29 = .ok (.iload_n 1, 1) := by decide +kernel
theorem dX7_wipe_30 : decode cX7_wipe 30 = .ok (.imul, 1) := by decide +kernel
theorem dX7_wipe_31 : decode cX7_wipe 31 = .ok (.iload_n 2, 1) := by decide +kernel
theorem dX7_wipe_32 : decode cX7_wipe 32 = .ok (.iadd, 1) := by decide +kernel
theorem dX7_wipe_33 : decode cX7_wipe 33 = .ok (.iconst 0, 1) := by decide +kernel
theorem dX7_wipe_34 : decode cX7_wipe 34 = .ok (.bastore, 1) := by decide +kernel
theorem dX7_wipe_35 : decode cX7_wipe 35 = .ok (.iinc 2 1, 3) := by decide +kernel
theorem dX7_wipe_38 : decode cX7_wipe 38 = .ok (.goto (-36), 3) := by decide +kernel
theorem dX7_wipe_41 : decode cX7_wipe 41 = .ok (.aload_n 0, 1) := by decide +kernel
theorem dX7_wipe_42 : decode cX7_wipe 42 = .ok (.getfield 33, 3) := by decide +kernel
theorem dX7_wipe_45 : decode cX7_wipe 45 = .ok (.iload_n 1, 1) := by decide +kernel
theorem dX7_wipe_46 : decode cX7_wipe 46 = .ok (.dup2, 1) := by decide +kernel
theorem dX7_wipe_47 : decode cX7_wipe 47 = .ok (.iaload, 1) := by decide +kernel
theorem dX7_wipe_48 : decode cX7_wipe 48 = .ok (.iconst 1, 1) := by decide +kernel
theorem dX7_wipe_49 : decode cX7_wipe 49 = .ok (.iadd, 1) := by decide +kernel
