theorem dX0_init_0 : decode cX0_init 0 = .ok (.aload_n 0, 1) := by decide +kernel
theorem dX0_init_1 : decode cX0_init 1 = .ok (.invokespecial 3, 3) := by decide +kernel
theorem dX0_init_4 : decode cX0_init 4 = .ok (.aload_n 0, 1) := by decide +kernel
theorem dX0_init_5 : decode cX0_init 5 = .ok (.bipush 105, 2) := by decide +kernel
theorem dX0_init_7 : decode cX0_init 7 = .ok (.newarray .int, 2) := by decide +kernel
theorem dX0_init_9 : decode cX0_init 9 = .ok (.putfield 9, 3) := by decide +kernel
theorem dX0_init_12 : decode cX0_init 12 = .ok (.aload_n 0, 1) := by decide +kernel
theorem dX0_init_13 : decode cX0_init 13 = .ok (.sipush 256, 3) := by decide +kernel
theorem dX0_init_16 : decode cX0_init 16 = .ok (.newarray .long, 2) := by decide +kernel
theorem dX0_init_18 : decode cX0_init 18 = .ok (.putfield 15, 3) := by decide +kernel
theorem dX0_init_21 : decode cX0_init 21 = .ok (.aload_n 0, 1) := by decide +kernel
theorem dX0_init_22 : decode cX0_init 22 = .ok (.sipush 256, 3) := by decide +kernel
theorem dX0_init_25 : decode cX0_init 25 = .ok (.newarray .long, 2) := by decide +kernel
theorem dX0_init_27 : decode cX0_init 27 = .ok (.putfield 19, 3) := by decide +kernel
theorem dX0_init_30 : decode cX0_init 30 = .ok (.aload_n 0, 1) := by decide +kernel
theorem dX0_init_31 : decode cX0_init 31 = .ok (.bipush 104, 2) := by decide +kernel
theorem dX0_init_33 : decode cX0_init 33 = .ok (.newarray .int, 2) := by decide +kernel
theorem dX0_init_35 : decode cX0_init 35 = .ok (.putfield 22, 3) := by decide +kernel
theorem dX0_init_38 : decode cX0_init 38 = .ok (.aload_n 0, 1) := by decide +kernel
theorem dX0_init_39 : decode cX0_init 39 = .ok (.new 25, 3) := by decide +kernel
theorem dX0_init_42 : decode cX0_init 42 = .ok (.dup, 1) := by decide +kernel
theorem dX0_init_43 : decode cX0_init 43 = .ok (.invokespecial 27, 3) := by decide +kernel
theorem dX0_init_46 : decode cX0_init 46 = .ok (.putfield 28, 3) := by decide +kernel
theorem dX0_init_49 : decode cX0_init 49 = .ok (.aload_n 0, 1) := by decide +kernel
theorem dX0_init_50 : decode cX0_init 50 = .ok (.aload_n 1, 1) := by decide +kernel
theorem dX0_init_51 : decode cX0_init 51 = .ok (.putfield 32, 3) := by decide +kernel
theorem dX0_init_54 : decode cX0_init 54 = .ok (.return_, 1) := by decide +kernel
theorem dX0_become_0 : decode cX0_become 0 = .ok (.aload_n 0, 1) := by decide +kernel
theorem dX0_become_1 : decode cX0_become 1 = .ok (.iload_n 1, 1) := by decide +kernel
theorem dX0_become_2 : decode cX0_become 2 = .ok (.putfield 36, 3) := by decide +kernel
theorem dX0_become_5 : decode cX0_become 5 = .ok (.aload_n 0, 1) := by decide +kernel
theorem dX0_become_6 : decode cX0_become 6 = .ok (.iload_n 2, 1) := by decide +kernel
theorem dX0_become_7 : decode cX0_become 7 = .ok (.putfield 40, 3) := by decide +kernel
theorem dX0_become_10 : decode cX0_become 10 = .ok (.aload_n 0, 1) := by decide +kernel
theorem dX0_become_11 : decode cX0_become 11 = .ok (.invokevirtual 43, 3) := by decide +kernel
theorem dX0_become_14 : decode cX0_become 14 = .ok (.aload_n 0, 1) := by decide +kernel
theorem dX0_become_15 : decode cX0_become 15 = .ok (.bipush 8, 2) := by decide +kernel
theorem dX0_become_17 : decode cX0_become 17 = .ok (.aload_n 0, 1) := by decide +kernel
theorem dX0_become_18 : decode cX0_become 18 = .ok (.getfield 40, 3) := by decide +kernel
theorem dX0_become_21 : decode cX0_become 21 = .ok (.imul, 1) := by decide +kernel
theorem dX0_become_22 : decode cX0_become 22 = .ok (.aload_n 0, 1) := by decide +kernel
theorem dX0_become_23 : decode cX0_become 23 = .ok (.getfield 46, 3) := by decide +kernel
theorem dX0_become_26 : decode cX0_become 26 = .ok (.iadd, 1) := by decide +kernel
theorem dX0_become_27 : decode cX0_become 27 = .ok (.putfield 49, 3) := by decide +kernel
theorem dX0_become_30 : decode cX0_become 30 = .ok (.aload_n 0, 1) := by decide +kernel
theorem dX0_become_31 : decode cX0_become 31 = .ok (.getfield 28, 3) := by decide +kernel
theorem dX0_become_34 : decode cX0_become 34 = .ok (.aload_n 0, 1) := by decide +kernel
theorem dX0_become_35 : decode cX0_become 35 = .ok (.getfield 49, 3) := by decide +kernel
theorem dX0_become_38 : decode cX0_become 38 = .ok (.invokevirtual 52, 3) := by decide +kernel
theorem dX0_become_41 : decode cX0_become 41 = .ok (.aload_n 0, 1) := by decide +kernel
theorem dX0_become_42 : decode cX0_become 42 = .ok (.invokevirtual 56, 3) := by decide +kernel
theorem dX0_become_45 : decode cX0_become 45 = .ok (.return_, 1) := by decide +kernel
theorem dX0_makePolynomial_0 : decode cX0_makePolynomial 0 = .ok (.aload_n 0, 1) := by decide +kernel
theorem dX0_makePolynomial_1 : decode cX0_makePolynomial 1 = .ok (.getfield 9, 3) := by decide +kernel
theorem dX0_makePolynomial_4 : decode cX0_makePolynomial 4 = .ok (.iconst 0, 1) := by decide +kernel
theorem dX0_makePolynomial_5 : decode cX0_makePolynomial 5 = .ok (.invokestatic 59, 3) := by decide +kernel
theorem dX0_makePolynomial_8 : decode cX0_makePolynomial 8 = .ok (.aload_n 0, 1) := by decide +kernel
theorem dX0_makePolynomial_9 : decode cX0_makePolynomial 9 = .ok (.getfield 9, 3) := by decide +kernel
theorem dX0_makePolynomial_12 : decode cX0_makePolynomial 12 = .ok (.iconst 0, 1) := by decide +kernel
theorem dX0_makePolynomial_13 : decode cX0_makePolynomial 13 = .ok (.iconst 1, 1) := by decide +kernel
theorem dX0_makePolynomial_14 : decode cX0_makePolynomial 14 = .ok (.iastore, 1) := by decide +kernel
theorem dX0_makePolynomial_15 : decode cX0_makePolynomial 15 = .ok (.aload_n 0, 1) := by decide +kernel
theorem dX0_makePolynomial_16 : decode cX0_makePolynomial 16 = .ok (.iconst 0, 1) := by decide +kernel
theorem dX0_makePolynomial_17 : decode cX0_makePolynomial 17 = .ok (.putfield 46, 3) := by decide +kernel
theorem dX0_makePolynomial_20 : decode cX0_makePolynomial 20 = .ok (.iconst 1, 1) := by decide +kernel
theorem dX0_makePolynomial_21 : decode cX0_makePolynomial 21 = .ok (.istore_n 1, 1) := by decide +kernel
theorem dX0_makePolynomial_22 : decode cX0_makePolynomial 22 = .ok (.iload_n 1, 1) := by decide +kernel
theorem dX0_makePolynomial_23 : decode cX0_makePolynomial 23 = .ok (.iconst 2, 1) := by decide +kernel
theorem dX0_makePolynomial_24 : decode cX0_makePolynomial 24 = .ok (.aload_n 0, 1) := by decide +kernel
theorem dX0_makePolynomial_25 : decode cX0_makePolynomial 25 = .ok (.getfield 36, 3) := by decide +kernel
theorem dX0_makePolynomial_28 : decode cX0_makePolynomial 28 = .ok (.imul, 1) := by decide +kernel
theorem dX0_makePolynomial_29 : decode cX0_makePolynomial 29 = .ok (.if_icmp .ge 46, 3) := by decide +kernel
theorem dX0_makePolynomial_32 : decode cX0_makePolynomial 32 = .ok (.iload_n 1, 1) := by decide +kernel
theorem dX0_makePolynomial_33 : decode cX0_makePolynomial 33 = .ok (.aload_n 0, 1) := by decide +kernel
theorem dX0_makePolynomial_34 : decode cX0_makePolynomial 34 = .ok (.getfield 32, 3) := by decide +kernel
theorem dX0_makePolynomial_37 : decode cX0_makePolynomial 37 = .ok (.getfield 65, 3) := by decide +kernel
theorem dX0_makePolynomial_40 : decode cX0_makePolynomial 40 = .ok (.invokestatic 70, 3) := by decide +kernel
theorem dX0_makePolynomial_43 : decode cX0_makePolynomial 43 = .ok (.ifCond .eq 26, 3) := by decide +kernel
theorem dX0_makePolynomial_46 : decode cX0_makePolynomial 46 = .ok (.aload_n 0, 1) := by decide +kernel
theorem dX0_makePolynomial_47 : decode cX0_makePolynomial 47 = .ok (.aload_n 0, 1) := by decide +kernel
theorem dX0_makePolynomial_48 : decode cX0_makePolynomial 48 = .ok (.getfield 32, 3) := by decide +kernel
theorem dX0_makePolynomial_51 : decode cX0_makePolynomial 51 = .ok (.iload_n 1, 1) := by decide +kernel
theorem dX0_makePolynomial_52 : decode cX0_makePolynomial 52 = .ok (.invokevirtual 76, 3) := by decide +kernel
theorem dX0_makePolynomial_55 : decode cX0_makePolynomial 55 = .ok (.iload_n 1, 1) := by decide +kernel
theorem dX0_makePolynomial_56 : decode cX0_makePolynomial 56 = .ok (.aload_n 0, 1) := by decide +kernel
theorem dX0_makePolynomial_57 : decode cX0_makePolynomial 57 = .ok (.getfield 32, 3) := by decide +kernel
theorem dX0_makePolynomial_60 : decode cX0_makePolynomial 60 = .ok (.getfield 65, 3) := by decide +kernel
theorem dX0_makePolynomial_63 : decode cX0_makePolynomial 63 = .ok (.invokestatic 80, 3) := by decide +kernel
theorem dX0_makePolynomial_66 : decode cX0_makePolynomial 66 = .ok (.invokevirtual 84, 3) := by decide +kernel
theorem dX0_makePolynomial_69 : decode cX0_makePolynomial 69 = .ok (.iinc 1 2, 3) := by decide +kernel
theorem dX0_makePolynomial_72 : decode cX0_makePolynomial 72 = .ok (.goto (-50), 3) := by decide +kernel
theorem dX0_makePolynomial_75 : decode cX0_makePolynomial 75 = .ok (.return_, 1) := by decide +kernel
theorem dX0_multiplyBy_0 : decode cX0_multiplyBy 0 = .ok (.aload_n 0, 1) := by decide +kernel
theorem dX0_multiplyBy_1 : decode cX0_multiplyBy 1 = .ok (.getfield 46, 3) := by decide +kernel
theorem dX0_multiplyBy_4 : decode cX0_multiplyBy 4 = .ok (.istore_n 3, 1) := by decide +kernel
theorem dX0_multiplyBy_5 : decode cX0_multiplyBy 5 = .ok (.iload_n 3, 1) := by decide +kernel
theorem dX0_multiplyBy_6 : decode cX0_multiplyBy 6 = .ok (.ifCond .lt 59, 3) := by decide +kernel
theorem dX0_multiplyBy_9 : decode cX0_multiplyBy 9 = .ok (.aload_n 0, 1) := by decide +kernel
theorem dX0_multiplyBy_10 : decode cX0_multiplyBy 10 = .ok (.getfield 9, 3) := by decide +kernel
theorem dX0_multiplyBy_13 : decode cX0_multiplyBy 13 = .ok (.iload_n 3, 1) := by decide +kernel
theorem dX0_multiplyBy_14 : decode cX0_multiplyBy 14 = .ok (.iaload, 1) := by decide +kernel
theorem dX0_multiplyBy_15 : decode cX0_multiplyBy 15 = .ok (.iconst 1, 1) := by decide +kernel
theorem dX0_multiplyBy_16 : decode cX0_multiplyBy 16 = .ok (.if_icmp .ne 43, 3) := by decide +kernel
theorem dX0_multiplyBy_19 : decode cX0_multiplyBy 19 = .ok (.aload_n 0, 1) := by decide +kernel
theorem dX0_multiplyBy_20 : decode cX0_multiplyBy 20 = .ok (.getfield 9, 3) := by decide +kernel
theorem dX0_multiplyBy_23 : decode cX0_multiplyBy 23 = .ok (.iload_n 3, 1) := by decide +kernel
theorem dX0_multiplyBy_24 : decode cX0_multiplyBy 24 = .ok (.iconst 0, 1) := by decide +kernel
theorem dX0_multiplyBy_25 : decode cX0_multiplyBy 25 = .ok (.iastore, 1) := by decide +kernel
theorem dX0_multiplyBy_26 : decode cX0_multiplyBy 26 = .ok (.iconst 0, 1) := by decide +kernel
theorem dX0_multiplyBy_27 : decode cX0_multiplyBy 27 = .ok (.istore 4, 2) := by decide +kernel
theorem dX0_multiplyBy_29 : decode cX0_multiplyBy 29 = .ok (.iload 4, 2) := by decide +kernel
theorem dX0_multiplyBy_31 : decode cX0_multiplyBy 31 = .ok (.iload_n 2, 1) := by decide +kernel
theorem dX0_multiplyBy_32 : decode cX0_multiplyBy 32 = .ok (.if_icmp .gt 27, 3) := by decide +kernel
theorem dX0_multiplyBy_35 : decode cX0_multiplyBy 35 = .ok (.aload_n 0, 1) := by decide +kernel
theorem dX0_multiplyBy_36 : decode cX0_multiplyBy 36 = .ok (.getfield 9, 3) := by decide +kernel
theorem dX0_multiplyBy_39 : decode cX0_multiplyBy 39 = .ok (.iload_n 3, 1) := by decide +kernel
theorem dX0_multiplyBy_40 : decode cX0_multiplyBy 40 = .ok (.iload 4, 2) := by decide +kernel
theorem dX0_multiplyBy_42 : decode cX0_multiplyBy 42 = .ok (.iadd, 1) := by decide +kernel
theorem dX0_multiplyBy_43 : decode cX0_multiplyBy 43 = .ok (.dup2, 1) := by decide +kernel
theorem dX0_multiplyBy_44 : decode cX0_multiplyBy 44 = .ok (.iaload, 1) := by decide +kernel
theorem dX0_multiplyBy_45 : decode cX0_multiplyBy 45 = .ok (.iload_n 1, 1) := by decide +kernel
theorem dX0_multiplyBy_46 : decode cX0_multiplyBy 46 = .ok (.iload 4, 2) := by decide +kernel
theorem dX0_multiplyBy_48 : decode cX0_multiplyBy 48 = .ok (.ishr, 1) := by decide +kernel
theorem dX0_multiplyBy_49 : decode cX0_multiplyBy 49 = .ok (.iconst 1, 1) := by decide +kernel
theorem dX0_multiplyBy_50 : decode cX0_multiplyBy 50 = .ok (.iand, 1) := by decide +kernel
theorem dX0_multiplyBy_51 : decode cX0_multiplyBy 51 = .ok (.ixor, 1) := by decide +kernel
theorem dX0_multiplyBy_52 : decode cX0_multiplyBy 52 = .ok (.iastore, 1) := by decide +kernel
theorem dX0_multiplyBy_53 : decode cX0_multiplyBy 53 = .ok (.iinc 4 1, 3) := by decide +kernel
theorem dX0_multiplyBy_56 : decode cX0_multiplyBy 56 = .ok (.goto (-27), 3) := by decide +kernel
theorem dX0_multiplyBy_59 : decode cX0_multiplyBy 59 = .ok (.iinc 3 (-1), 3) := by decide +kernel
theorem dX0_multiplyBy_62 : decode cX0_multiplyBy 62 = .ok (.goto (-57), 3) := by decide +kernel
theorem dX0_multiplyBy_65 : decode cX0_multiplyBy 65 = .ok (.aload_n 0, 1) := by decide +kernel
theorem dX0_multiplyBy_66 : decode cX0_multiplyBy 66 = .ok (.dup, 1) := by decide +kernel
theorem dX0_multiplyBy_67 : decode cX0_multiplyBy 67 = .ok (.getfield 46, 3) := by decide +kernel
theorem dX0_multiplyBy_70 : decode cX0_multiplyBy 70 = .ok (.iload_n 2, 1) := by decide +kernel
theorem dX0_multiplyBy_71 : decode cX0_multiplyBy 71 = .ok (.iadd, 1) := by decide +kernel
theorem dX0_multiplyBy_72 : decode cX0_multiplyBy 72 = .ok (.putfield 46, 3) := by decide +kernel
theorem dX0_multiplyBy_75 : decode cX0_multiplyBy 75 = .ok (.return_, 1) := by decide +kernel
theorem dX0_makeSteps_0 : decode cX0_makeSteps 0 = .ok (.aload_n 0, 1) := by decide +kernel
theorem dX0_makeSteps_1 : decode cX0_makeSteps 1 = .ok (.invokevirtual 88, 3) := by decide +kernel
theorem dX0_makeSteps_4 : decode cX0_makeSteps 4 = .ok (.aload_n 0, 1) := by decide +kernel
theorem dX0_makeSteps_5 : decode cX0_makeSteps 5 = .ok (.getfield 91, 3) := by decide +kernel
theorem dX0_makeSteps_8 : decode cX0_makeSteps 8 = .ok (.lstore_n 1, 1) := by decide +kernel
theorem dX0_makeSteps_9 : decode cX0_makeSteps 9 = .ok (.aload_n 0, 1) := by decide +kernel
theorem dX0_makeSteps_10 : decode cX0_makeSteps 10 = .ok (.getfield 95, 3) := by decide +kernel
theorem dX0_makeSteps_13 : decode cX0_makeSteps 13 = .ok (.lstore_n 3, 1) := by decide +kernel
theorem dX0_makeSteps_14 : decode cX0_makeSteps 14 = .ok (.iconst 1, 1) := by decide +kernel
theorem dX0_makeSteps_15 : decode cX0_makeSteps 15 = .ok (.istore 5, 2) := by decide +kernel
theorem dX0_makeSteps_17 : decode cX0_makeSteps 17 = .ok (.iload 5, 2) := by decide +kernel
theorem dX0_makeSteps_19 : decode cX0_makeSteps 19 = .ok (.sipush 256, 3) := by decide +kernel
theorem dX0_makeSteps_22 : decode cX0_makeSteps 22 = .ok (.if_icmp .ge 141, 3) := by decide +kernel
theorem dX0_makeSteps_25 : decode cX0_makeSteps 25 = .ok (.iconst 0, 1) := by decide +kernel
theorem dX0_makeSteps_26 : decode cX0_makeSteps 26 = .ok (.istore 6, 2) := by decide +kernel
theorem dX0_makeSteps_28 : decode cX0_makeSteps 28 = .ok (.iload 6, 2) := by decide +kernel
theorem dX0_makeSteps_30 : decode cX0_makeSteps 30 = .ok (.iload 5, 2) := by decide +kernel
theorem dX0_makeSteps_32 : decode cX0_makeSteps 32 = .ok (.if_icmp .ge 53, 3) := by decide +kernel
theorem dX0_makeSteps_35 : decode cX0_makeSteps 35 = .ok (.aload_n 0, 1) := by decide +kernel
theorem dX0_makeSteps_36 : decode cX0_makeSteps 36 = .ok (.getfield 15, 3) := by decide +kernel
theorem dX0_makeSteps_39 : decode cX0_makeSteps 39 = .ok (.iload 5, 2) := by decide +kernel
theorem dX0_makeSteps_41 : decode cX0_makeSteps 41 = .ok (.iload 6, 2) := by decide +kernel
theorem dX0_makeSteps_43 : decode cX0_makeSteps 43 = .ok (.iadd, 1) := by decide +kernel
theorem dX0_makeSteps_44 : decode cX0_makeSteps 44 = .ok (.aload_n 0, 1) := by decide +kernel
theorem dX0_makeSteps_45 : decode cX0_makeSteps 45 = .ok (.getfield 91, 3) := by decide +kernel
theorem dX0_makeSteps_48 : decode cX0_makeSteps 48 = .ok (.aload_n 0, 1) := by decide +kernel
theorem dX0_makeSteps_49 : decode cX0_makeSteps 49 = .ok (.getfield 15, 3) := by decide +kernel
theorem dX0_makeSteps_52 : decode cX0_makeSteps 52 = .ok (.iload 6, 2) := by decide +kernel
theorem dX0_makeSteps_54 : decode cX0_makeSteps 54 = .ok (.laload, 1) := by decide +kernel
theorem dX0_makeSteps_55 : decode cX0_makeSteps 55 = .ok (.lxor, 1) := by decide +kernel
theorem dX0_makeSteps_56 : decode cX0_makeSteps 56 = .ok (.lastore, 1) := by decide +kernel
theorem dX0_makeSteps_57 : decode cX0_makeSteps 57 = .ok (.aload_n 0, 1) := by decide +kernel
theorem dX0_makeSteps_58 : decode cX0_makeSteps 58 = .ok (.getfield 19, 3) := by decide +kernel
theorem dX0_makeSteps_61 : decode cX0_makeSteps 61 = .ok (.iload 5, 2) := by decide +kernel
theorem dX0_makeSteps_63 : decode cX0_makeSteps 63 = .ok (.iload 6, 2) := by decide +kernel
theorem dX0_makeSteps_65 : decode cX0_makeSteps 65 = .ok (.iadd, 1) := by decide +kernel
theorem dX0_makeSteps_66 : decode cX0_makeSteps 66 = .ok (.aload_n 0, 1) := by decide +kernel
theorem dX0_makeSteps_67 : decode cX0_makeSteps 67 = .ok (.getfield 95, 3) := by decide +kernel
theorem dX0_makeSteps_70 : decode cX0_makeSteps 70 = .ok (.aload_n 0, 1) := by decide +kernel
theorem dX0_makeSteps_71 : decode cX0_makeSteps 71 = .ok (.getfield 19, 3) := by decide +kernel
theorem dX0_makeSteps_74 : decode cX0_makeSteps 74 = .ok (.iload 6, 2) := by decide +kernel
theorem dX0_makeSteps_76 : decode cX0_makeSteps 76 = .ok (.laload, 1) := by decide +kernel
theorem dX0_makeSteps_77 : decode cX0_makeSteps 77 = .ok (.lxor, 1) := by decide +kernel
theorem dX0_makeSteps_78 : decode cX0_makeSteps 78 = .ok (.lastore, 1) := by decide +kernel
theorem dX0_makeSteps_79 : decode cX0_makeSteps 79 = .ok (.iinc 6 1, 3) := by decide +kernel
theorem dX0_makeSteps_82 : decode cX0_makeSteps 82 = .ok (.goto (-54), 3) := by decide +kernel
theorem dX0_makeSteps_85 : decode cX0_makeSteps 85 = .ok (.aload_n 0, 1) := by decide +kernel
theorem dX0_makeSteps_86 : decode cX0_makeSteps 86 = .ok (.getfield 91, 3) := by decide +kernel
theorem dX0_makeSteps_89 : decode cX0_makeSteps 89 = .ok (.lconst 0, 1) := by decide +kernel
theorem dX0_makeSteps_90 : decode cX0_makeSteps 90 = .ok (.lcmp, 1) := by decide +kernel
theorem dX0_makeSteps_91 : decode cX0_makeSteps 91 = .ok (.ifCond .ge 7, 3) := by decide +kernel
theorem dX0_makeSteps_94 : decode cX0_makeSteps 94 = .ok (.iconst 1, 1) := by decide +kernel
theorem dX0_makeSteps_95 : decode cX0_makeSteps 95 = .ok (.goto 4, 3) := by decide +kernel
theorem dX0_makeSteps_98 : decode cX0_makeSteps 98 = .ok (.iconst 0, 1) := by decide +kernel
theorem dX0_makeSteps_99 : decode cX0_makeSteps 99 = .ok (.istore 6, 2) := by decide +kernel
theorem dX0_makeSteps_101 : decode cX0_makeSteps 101 = .ok (.aload_n 0, 1) := by decide +kernel
theorem dX0_makeSteps_102 : decode cX0_makeSteps 102 = .ok (.aload_n 0, 1) := by decide +kernel
theorem dX0_makeSteps_103 : decode cX0_makeSteps 103 = .ok (.getfield 91, 3) := by decide +kernel
theorem dX0_makeSteps_106 : decode cX0_makeSteps 106 = .ok (.iconst 1, 1) := by decide +kernel
theorem dX0_makeSteps_107 : decode cX0_makeSteps 107 = .ok (.lshl, 1) := by decide +kernel
theorem dX0_makeSteps_108 : decode cX0_makeSteps 108 = .ok (.aload_n 0, 1) := by decide +kernel
theorem dX0_makeSteps_109 : decode cX0_makeSteps 109 = .ok (.getfield 95, 3) := by decide +kernel
theorem dX0_makeSteps_112 : decode cX0_makeSteps 112 = .ok (.bipush 63, 2) := by decide +kernel
theorem dX0_makeSteps_114 : decode cX0_makeSteps 114 = .ok (.lushr, 1) := by decide +kernel
theorem dX0_makeSteps_115 : decode cX0_makeSteps 115 = .ok (.lor, 1) := by decide +kernel
theorem dX0_makeSteps_116 : decode cX0_makeSteps 116 = .ok (.putfield 91, 3) := by decide +kernel
theorem dX0_makeSteps_119 : decode cX0_makeSteps 119 = .ok (.aload_n 0, 1) := by decide +kernel
theorem dX0_makeSteps_120 : decode cX0_makeSteps 120 = .ok (.dup, 1) := by decide +kernel
theorem dX0_makeSteps_121 : decode cX0_makeSteps 121 = .ok (.getfield 95, 3) := by decide +kernel
theorem dX0_makeSteps_124 : decode cX0_makeSteps 124 = .ok (.iconst 1, 1) := by decide +kernel
theorem dX0_makeSteps_125 : decode cX0_makeSteps 125 = .ok (.lshl, 1) := by decide +kernel
theorem dX0_makeSteps_126 : decode cX0_makeSteps 126 = .ok (.putfield 95, 3) := by decide +kernel
theorem dX0_makeSteps_129 : decode cX0_makeSteps 129 = .ok (.iload 6, 2) := by decide +kernel
theorem dX0_makeSteps_131 : decode cX0_makeSteps 131 = .ok (.ifCond .eq 23, 3) := by decide +kernel
theorem dX0_makeSteps_134 : decode cX0_makeSteps 134 = .ok (.aload_n 0, 1) := by decide +kernel
theorem dX0_makeSteps_135 : decode cX0_makeSteps 135 = .ok (.dup, 1) := by decide +kernel
theorem dX0_makeSteps_136 : decode cX0_makeSteps 136 = .ok (.getfield 91, 3) := by decide +kernel
theorem dX0_makeSteps_139 : decode cX0_makeSteps 139 = .ok (.lload_n 1, 1) := by decide +kernel
theorem dX0_makeSteps_140 : decode cX0_makeSteps 140 = .ok (.lxor, 1) := by decide +kernel
theorem dX0_makeSteps_141 : decode cX0_makeSteps 141 = .ok (.putfield 91, 3) := by decide +kernel
theorem dX0_makeSteps_144 : decode cX0_makeSteps 144 = .ok (.aload_n 0, 1) := by decide +kernel
theorem dX0_makeSteps_145 : decode cX0_makeSteps 145 = .ok (.dup, 1) := by decide +kernel
theorem dX0_makeSteps_146 : decode cX0_makeSteps 146 = .ok (.getfield 95, 3) := by decide +kernel
theorem dX0_makeSteps_149 : decode cX0_makeSteps 149 = .ok (.lload_n 3, 1) := by decide +kernel
theorem dX0_makeSteps_150 : decode cX0_makeSteps 150 = .ok (.lxor, 1) := by decide +kernel
theorem dX0_makeSteps_151 : decode cX0_makeSteps 151 = .ok (.putfield 95, 3) := by decide +kernel
theorem dX0_makeSteps_154 : decode cX0_makeSteps 154 = .ok (.iload 5, 2) := by decide +kernel
theorem dX0_makeSteps_156 : decode cX0_makeSteps 156 = .ok (.iconst 1, 1) := by decide +kernel
theorem dX0_makeSteps_157 : decode cX0_makeSteps 157 = .ok (.ishl, 1) := by decide +kernel
theorem dX0_makeSteps_158 : decode cX0_makeSteps 158 = .ok (.istore 5, 2) := by decide +kernel
theorem dX0_makeSteps_160 : decode cX0_makeSteps 160 = .ok (.goto (-143), 3) := by decide +kernel
theorem dX0_makeSteps_163 : decode cX0_makeSteps 163 = .ok (.return_, 1) := by decide +kernel
theorem dX0_loadPolynomial_0 : decode cX0_loadPolynomial 0 = .ok (.aload_n 0, 1) := by decide +kernel
theorem dX0_loadPolynomial_1 : decode cX0_loadPolynomial 1 = .ok (.lconst 0, 1) := by decide +kernel
theorem dX0_loadPolynomial_2 : decode cX0_loadPolynomial 2 = .ok (.putfield 91, 3) := by decide +kernel
theorem dX0_loadPolynomial_5 : decode cX0_loadPolynomial 5 = .ok (.aload_n 0, 1) := by decide +kernel
theorem dX0_loadPolynomial_6 : decode cX0_loadPolynomial 6 = .ok (.lconst 0, 1) := by decide +kernel
theorem dX0_loadPolynomial_7 : decode cX0_loadPolynomial 7 = .ok (.putfield 95, 3) := by decide +kernel
theorem dX0_loadPolynomial_10 : decode cX0_loadPolynomial 10 = .ok (.iconst 0, 1) := by decide +kernel
theorem dX0_loadPolynomial_11 : decode cX0_loadPolynomial 11 = .ok (.istore_n 1, 1) := by decide +kernel
theorem dX0_loadPolynomial_12 : decode cX0_loadPolynomial 12 = .ok (.iload_n 1, 1) := by decide +kernel
theorem dX0_loadPolynomial_13 : decode cX0_loadPolynomial 13 = .ok (.aload_n 0, 1) := by decide +kernel
theorem dX0_loadPolynomial_14 : decode cX0_loadPolynomial 14 = .ok (.getfield 46, 3) := by decide +kernel
theorem dX0_loadPolynomial_17 : decode cX0_loadPolynomial 17 = .ok (.if_icmp .ge 63, 3) := by decide +kernel
theorem dX0_loadPolynomial_20 : decode cX0_loadPolynomial 20 = .ok (.aload_n 0, 1) := by decide +kernel
theorem dX0_loadPolynomial_21 : decode cX0_loadPolynomial 21 = .ok (.getfield 9, 3) := by decide +kernel
theorem dX0_loadPolynomial_24 : decode cX0_loadPolynomial 24 = .ok (.aload_n 0, 1) := by decide +kernel
theorem dX0_loadPolynomial_25 : decode cX0_loadPolynomial 25 = .ok (.getfield 46, 3) := by decide +kernel
theorem dX0_loadPolynomial_28 : decode cX0_loadPolynomial 28 = .ok (.iconst 1, 1) := by decide +kernel
theorem dX0_loadPolynomial_29 : decode cX0_loadPolynomial 29 = .ok (.isub, 1) := by decide +kernel
theorem dX0_loadPolynomial_30 : decode cX0_loadPolynomial 30 = .ok (.iload_n 1, 1) := by decide +kernel
theorem dX0_loadPolynomial_31 : decode cX0_loadPolynomial 31 = .ok (.isub, 1) := by decide +kernel
theorem dX0_loadPolynomial_32 : decode cX0_loadPolynomial 32 = .ok (.iaload, 1) := by decide +kernel
theorem dX0_loadPolynomial_33 : decode cX0_loadPolynomial 33 = .ok (.i2l, 1) := by decide +kernel
theorem dX0_loadPolynomial_34 : decode cX0_loadPolynomial 34 = .ok (.lstore_n 2, 1) := by decide +kernel
theorem dX0_loadPolynomial_35 : decode cX0_loadPolynomial 35 = .ok (.iload_n 1, 1) := by decide +kernel
theorem dX0_loadPolynomial_36 : decode cX0_loadPolynomial 36 = .ok (.bipush 64, 2) := by decide +kernel
theorem dX0_loadPolynomial_38 : decode cX0_loadPolynomial 38 = .ok (.if_icmp .ge 21, 3) := by decide +kernel
theorem dX0_loadPolynomial_41 : decode cX0_loadPolynomial 41 = .ok (.aload_n 0, 1) := by decide +kernel
theorem dX0_loadPolynomial_42 : decode cX0_loadPolynomial 42 = .ok (.dup, 1) := by decide +kernel
theorem dX0_loadPolynomial_43 : decode cX0_loadPolynomial 43 = .ok (.getfield 91, 3) := by decide +kernel
theorem dX0_loadPolynomial_46 : decode cX0_loadPolynomial 46 = .ok (.lload_n 2, 1) := by decide +kernel
theorem dX0_loadPolynomial_47 : decode cX0_loadPolynomial 47 = .ok (.bipush 63, 2) := by decide +kernel
theorem dX0_loadPolynomial_49 : decode cX0_loadPolynomial 49 = .ok (.iload_n 1, 1) := by decide +kernel
theorem dX0_loadPolynomial_50 : decode cX0_loadPolynomial 50 = .ok (.isub, 1) := by decide +kernel
theorem dX0_loadPolynomial_51 : decode cX0_loadPolynomial 51 = .ok (.lshl, 1) := by decide +kernel
theorem dX0_loadPolynomial_52 : decode cX0_loadPolynomial 52 = .ok (.lor, 1) := by decide +kernel
theorem dX0_loadPolynomial_53 : decode cX0_loadPolynomial 53 = .ok (.putfield 91, 3) := by decide +kernel
theorem dX0_loadPolynomial_56 : decode cX0_loadPolynomial 56 = .ok (.goto 18, 3) := by decide +kernel
theorem dX0_loadPolynomial_59 : decode cX0_loadPolynomial 59 = .ok (.aload_n 0, 1) := by decide +kernel
theorem dX0_loadPolynomial_60 : decode cX0_loadPolynomial 60 = .ok (.dup, 1) := by decide +kernel
theorem dX0_loadPolynomial_61 : decode cX0_loadPolynomial 61 = .ok (.getfield 95, 3) := by decide +kernel
theorem dX0_loadPolynomial_64 : decode cX0_loadPolynomial 64 = .ok (.lload_n 2, 1) := by decide +kernel
theorem dX0_loadPolynomial_65 : decode cX0_loadPolynomial 65 = .ok (.bipush 127, 2) := by decide +kernel
theorem dX0_loadPolynomial_67 : decode cX0_loadPolynomial 67 = .ok (.iload_n 1, 1) := by decide +kernel
theorem dX0_loadPolynomial_68 : decode cX0_loadPolynomial 68 = .ok (.isub, 1) := by decide +kernel
theorem dX0_loadPolynomial_69 : decode cX0_loadPolynomial 69 = .ok (.lshl, 1) := by decide +kernel
theorem dX0_loadPolynomial_70 : decode cX0_loadPolynomial 70 = .ok (.lor, 1) := by decide +kernel
theorem dX0_loadPolynomial_71 : decode cX0_loadPolynomial 71 = .ok (.putfield 95, 3) := by decide +kernel
theorem dX0_loadPolynomial_74 : decode cX0_loadPolynomial 74 = .ok (.iinc 1 1, 3) := by decide +kernel
theorem dX0_loadPolynomial_77 : decode cX0_loadPolynomial 77 = .ok (.goto (-65), 3) := by decide +kernel
theorem dX0_loadPolynomial_80 : decode cX0_loadPolynomial 80 = .ok (.return_, 1) := by decide +kernel
theorem dX0_takeData_0 : decode cX0_takeData 0 = .ok (.aload_n 0, 1) := by decide +kernel
theorem dX0_takeData_1 : decode cX0_takeData 1 = .ok (.lconst 0, 1) := by decide +kernel
theorem dX0_takeData_2 : decode cX0_takeData 2 = .ok (.putfield 91, 3) := by decide +kernel
theorem dX0_takeData_5 : decode cX0_takeData 5 = .ok (.aload_n 0, 1) := by decide +kernel
theorem dX0_takeData_6 : decode cX0_takeData 6 = .ok (.lconst 0, 1) := by decide +kernel
theorem dX0_takeData_7 : decode cX0_takeData 7 = .ok (.putfield 95, 3) := by decide +kernel
theorem dX0_takeData_10 : decode cX0_takeData 10 = .ok (.iconst 0, 1) := by decide +kernel
theorem dX0_takeData_11 : decode cX0_takeData 11 = .ok (.istore_n 2, 1) := by decide +kernel
theorem dX0_takeData_12 : decode cX0_takeData 12 = .ok (.iload_n 2, 1) := by decide +kernel
theorem dX0_takeData_13 : decode cX0_takeData 13 = .ok (.aload_n 0, 1) := by decide +kernel
theorem dX0_takeData_14 : decode cX0_takeData 14 = .ok (.getfield 40, 3) := by decide +kernel
theorem dX0_takeData_17 : decode cX0_takeData 17 = .ok (.if_icmp .ge 72, 3) := by decide +kernel
theorem dX0_takeData_20 : decode cX0_takeData 20 = .ok (.aload_n 0, 1) := by decide +kernel
theorem dX0_takeData_21 : decode cX0_takeData 21 = .ok (.getfield 91, 3) := by decide +kernel
theorem dX0_takeData_24 : decode cX0_takeData 24 = .ok (.bipush 56, 2) := by decide +kernel
theorem dX0_takeData_26 : decode cX0_takeData 26 = .ok (.lushr, 1) := by decide +kernel
theorem dX0_takeData_27 : decode cX0_takeData 27 = .ok (.l2i, 1) := by decide +kernel
theorem dX0_takeData_28 : decode cX0_takeData 28 = .ok (.sipush 255, 3) := by decide +kernel
theorem dX0_takeData_31 : decode cX0_takeData 31 = .ok (.ixor, 1) := by decide +kernel
theorem dX0_takeData_32 : decode cX0_takeData 32 = .ok (.aload_n 1, 1) := by decide +kernel
theorem dX0_takeData_33 : decode cX0_takeData 33 = .ok (.iload_n 2, 1) := by decide +kernel
theorem dX0_takeData_34 : decode cX0_takeData 34 = .ok (.invokevirtual 98, 3) := by decide +kernel
theorem dX0_takeData_37 : decode cX0_takeData 37 = .ok (.ixor, 1) := by decide +kernel
theorem dX0_takeData_38 : decode cX0_takeData 38 = .ok (.istore_n 3, 1) := by decide +kernel
theorem dX0_takeData_39 : decode cX0_takeData 39 = .ok (.aload_n 0, 1) := by decide +kernel
theorem dX0_takeData_40 : decode cX0_takeData 40 = .ok (.aload_n 0, 1) := by decide +kernel
theorem dX0_takeData_41 : decode cX0_takeData 41 = .ok (.getfield 91, 3) := by decide +kernel
theorem dX0_takeData_44 : decode cX0_takeData 44 = .ok (.bipush 8, 2) := by decide +kernel
theorem dX0_takeData_46 : decode cX0_takeData 46 = .ok (.lshl, 1) := by decide +kernel
theorem dX0_takeData_47 : decode cX0_takeData 47 = .ok (.aload_n 0, 1) := by decide +kernel
theorem dX0_takeData_48 : decode cX0_takeData 48 = .ok (.getfield 95, 3) := by decide +kernel
theorem dX0_takeData_51 : decode cX0_takeData 51 = .ok (.bipush 56, 2) := by decide +kernel
theorem dX0_takeData_53 : decode cX0_takeData 53 = .ok (.lushr, 1) := by decide +kernel
theorem dX0_takeData_54 : decode cX0_takeData 54 = .ok (.lor, 1) := by decide +kernel
theorem dX0_takeData_55 : decode cX0_takeData 55 = .ok (.aload_n 0, 1) := by decide +kernel
theorem dX0_takeData_56 : decode cX0_takeData 56 = .ok (.getfield 15, 3) := by decide +kernel
theorem dX0_takeData_59 : decode cX0_takeData 59 = .ok (.iload_n 3, 1) := by decide +kernel
theorem dX0_takeData_60 : decode cX0_takeData 60 = .ok (.laload, 1) := by decide +kernel
theorem dX0_takeData_61 : decode cX0_takeData 61 = .ok (.lxor, 1) := by decide +kernel
theorem dX0_takeData_62 : decode cX0_takeData 62 = .ok (.putfield 91, 3) := by decide +kernel
theorem dX0_takeData_65 : decode cX0_takeData 65 = .ok (.aload_n 0, 1) := by decide +kernel
theorem dX0_takeData_66 : decode cX0_takeData 66 = .ok (.aload_n 0, 1) := by decide +kernel
theorem dX0_takeData_67 : decode cX0_takeData 67 = .ok (.getfield 95, 3) := by decide +kernel
theorem dX0_takeData_70 : decode cX0_takeData 70 = .ok (.bipush 8, 2) := by decide +kernel
theorem dX0_takeData_72 : decode cX0_takeData 72 = .ok (.lshl, 1) := by decide +kernel
theorem dX0_takeData_73 : decode cX0_takeData 73 = .ok (.aload_n 0, 1) := by decide +kernel
theorem dX0_takeData_74 : decode cX0_takeData 74 = .ok (.getfield 19, 3) := by decide +kernel
theorem dX0_takeData_77 : decode cX0_takeData 77 = .ok (.iload_n 3, 1) := by decide +kernel
theorem dX0_takeData_78 : decode cX0_takeData 78 = .ok (.laload, 1) := by decide +kernel
theorem dX0_takeData_79 : decode cX0_takeData 79 = .ok (.lxor, 1) := by decide +kernel
theorem dX0_takeData_80 : decode cX0_takeData 80 = .ok (.putfield 95, 3) := by decide +kernel
theorem dX0_takeData_83 : decode cX0_takeData 83 = .ok (.iinc 2 1, 3) := by decide +kernel
theorem dX0_takeData_86 : decode cX0_takeData 86 = .ok (.goto (-74), 3) := by decide +kernel
theorem dX0_takeData_89 : decode cX0_takeData 89 = .ok (.return_, 1) := by decide +kernel
theorem dX0_registerAt_0 : decode cX0_registerAt 0 = .ok (.iload_n 1, 1) := by decide +kernel
theorem dX0_registerAt_1 : decode cX0_registerAt 1 = .ok (.bipush 64, 2) := by decide +kernel
theorem dX0_registerAt_3 : decode cX0_registerAt 3 = .ok (.if_icmp .ge 15, 3) := by decide +kernel
theorem dX0_registerAt_6 : decode cX0_registerAt 6 = .ok (.aload_n 0, 1) := by decide +kernel
theorem dX0_registerAt_7 : decode cX0_registerAt 7 = .ok (.getfield 91, 3) := by decide +kernel
theorem dX0_registerAt_10 : decode cX0_registerAt 10 = .ok (.bipush 63, 2) := by decide +kernel
theorem dX0_registerAt_12 : decode cX0_registerAt 12 = .ok (.iload_n 1, 1) := by decide +kernel
theorem dX0_registerAt_13 : decode cX0_registerAt 13 = .ok (.isub, 1) := by decide +kernel
theorem dX0_registerAt_14 : decode cX0_registerAt 14 = .ok (.lushr, 1) := by decide +kernel
theorem dX0_registerAt_15 : decode cX0_registerAt 15 = .ok (.goto 12, 3) := by decide +kernel
theorem dX0_registerAt_18 : decode cX0_registerAt 18 = .ok (.aload_n 0, 1) := by decide +kernel
theorem dX0_registerAt_19 : decode cX0_registerAt 19 = .ok (.getfield 95, 3) := by decide +kernel
theorem dX0_registerAt_22 : decode cX0_registerAt 22 = .ok (.bipush 127, 2) := by decide +kernel
theorem dX0_registerAt_24 : decode cX0_registerAt 24 = .ok (.iload_n 1, 1) := by decide +kernel
theorem dX0_registerAt_25 : decode cX0_registerAt 25 = .ok (.isub, 1) := by decide +kernel
theorem dX0_registerAt_26 : decode cX0_registerAt 26 = .ok (.lushr, 1) := by decide +kernel
theorem dX0_registerAt_27 : decode cX0_registerAt 27 = .ok (.l2i, 1) := by decide +kernel
theorem dX0_registerAt_28 : decode cX0_registerAt 28 = .ok (.iconst 1, 1) := by decide +kernel
theorem dX0_registerAt_29 : decode cX0_registerAt 29 = .ok (.iand, 1) := by decide +kernel
theorem dX0_registerAt_30 : decode cX0_registerAt 30 = .ok (.ireturn, 1) := by decide +kernel
theorem dX0_complete_0 : decode cX0_complete 0 = .ok (.aload_n 0, 1) := by decide +kernel
theorem dX0_complete_1 : decode cX0_complete 1 = .ok (.aload_n 1, 1) := by decide +kernel
theorem dX0_complete_2 : decode cX0_complete 2 = .ok (.invokevirtual 101, 3) := by decide +kernel
theorem dX0_complete_5 : decode cX0_complete 5 = .ok (.iconst 0, 1) := by decide +kernel
theorem dX0_complete_6 : decode cX0_complete 6 = .ok (.istore_n 2, 1) := by decide +kernel
theorem dX0_complete_7 : decode cX0_complete 7 = .ok (.iload_n 2, 1) := by decide +kernel
theorem dX0_complete_8 : decode cX0_complete 8 = .ok (.aload_n 0, 1) := by decide +kernel
theorem dX0_complete_9 : decode cX0_complete 9 = .ok (.getfield 46, 3) := by decide +kernel
theorem dX0_complete_12 : decode cX0_complete 12 = .ok (.if_icmp .ge 29, 3) := by decide +kernel
theorem dX0_complete_15 : decode cX0_complete 15 = .ok (.aload_n 1, 1) := by decide +kernel
theorem dX0_complete_16 : decode cX0_complete 16 = .ok (.bipush 8, 2) := by decide +kernel
theorem dX0_complete_18 : decode cX0_complete 18 = .ok (.aload_n 0, 1) := by decide +kernel
theorem dX0_complete_19 : decode cX0_complete 19 = .ok (.getfield 40, 3) := by decide +kernel
theorem dX0_complete_22 : decode cX0_complete 22 = .ok (.imul, 1) := by decide +kernel
theorem dX0_complete_23 : decode cX0_complete 23 = .ok (.iload_n 2, 1) := by decide +kernel
theorem dX0_complete_24 : decode cX0_complete 24 = .ok (.iadd, 1) := by decide +kernel
theorem dX0_complete_25 : decode cX0_complete 25 = .ok (.iconst 1, 1) := by decide +kernel
theorem dX0_complete_26 : decode cX0_complete 26 = .ok (.aload_n 0, 1) := by decide +kernel
theorem dX0_complete_27 : decode cX0_complete 27 = .ok (.iload_n 2, 1) := by decide +kernel
theorem dX0_complete_28 : decode cX0_complete 28 = .ok (.invokevirtual 105, 3) := by decide +kernel
theorem dX0_complete_31 : decode cX0_complete 31 = .ok (.isub, 1) := by decide +kernel
theorem dX0_complete_32 : decode cX0_complete 32 = .ok (.invokevirtual 108, 3) := by decide +kernel
theorem dX0_complete_35 : decode cX0_complete 35 = .ok (.iinc 2 1, 3) := by decide +kernel
theorem dX0_complete_38 : decode cX0_complete 38 = .ok (.goto (-31), 3) := by decide +kernel
theorem dX0_complete_41 : decode cX0_complete 41 = .ok (.return_, 1) := by decide +kernel
theorem dX0_divide_0 : decode cX0_divide 0 = .ok (.aload_n 0, 1) := by decide +kernel
theorem dX0_divide_1 : decode cX0_divide 1 = .ok (.aload_n 1, 1) := by decide +kernel
theorem dX0_divide_2 : decode cX0_divide 2 = .ok (.invokevirtual 101, 3) := by decide +kernel
theorem dX0_divide_5 : decode cX0_divide 5 = .ok (.iconst 1, 1) := by decide +kernel
theorem dX0_divide_6 : decode cX0_divide 6 = .ok (.istore_n 2, 1) := by decide +kernel
theorem dX0_divide_7 : decode cX0_divide 7 = .ok (.iconst 0, 1) := by decide +kernel
theorem dX0_divide_8 : decode cX0_divide 8 = .ok (.istore_n 3, 1) := by decide +kernel
theorem dX0_divide_9 : decode cX0_divide 9 = .ok (.iload_n 3, 1) := by decide +kernel
theorem dX0_divide_10 : decode cX0_divide 10 = .ok (.aload_n 0, 1) := by decide +kernel
theorem dX0_divide_11 : decode cX0_divide 11 = .ok (.getfield 46, 3) := by decide +kernel
theorem dX0_divide_14 : decode cX0_divide 14 = .ok (.if_icmp .ge 62, 3) := by decide +kernel
theorem dX0_divide_17 : decode cX0_divide 17 = .ok (.aload_n 0, 1) := by decide +kernel
theorem dX0_divide_18 : decode cX0_divide 18 = .ok (.iload_n 3, 1) := by decide +kernel
theorem dX0_divide_19 : decode cX0_divide 19 = .ok (.invokevirtual 105, 3) := by decide +kernel
theorem dX0_divide_22 : decode cX0_divide 22 = .ok (.iconst 1, 1) := by decide +kernel
theorem dX0_divide_23 : decode cX0_divide 23 = .ok (.ixor, 1) := by decide +kernel
theorem dX0_divide_24 : decode cX0_divide 24 = .ok (.aload_n 1, 1) := by decide +kernel
theorem dX0_divide_25 : decode cX0_divide 25 = .ok (.bipush 8, 2) := by decide +kernel
theorem dX0_divide_27 : decode cX0_divide 27 = .ok (.aload_n 0, 1) := by decide +kernel
theorem dX0_divide_28 : decode cX0_divide 28 = .ok (.getfield 40, 3) := by decide +kernel
theorem dX0_divide_31 : decode cX0_divide 31 = .ok (.imul, 1) := by decide +kernel
theorem dX0_divide_32 : decode cX0_divide 32 = .ok (.iload_n 3, 1) := by decide +kernel
theorem dX0_divide_33 : decode cX0_divide 33 = .ok (.iadd, 1) := by decide +kernel
theorem dX0_divide_34 : decode cX0_divide 34 = .ok (.invokevirtual 111, 3) := by decide +kernel
theorem dX0_divide_37 : decode cX0_divide 37 = .ok (.ixor, 1) := by decide +kernel
theorem dX0_divide_38 : decode cX0_divide 38 = .ok (.istore 4, 2) := by decide +kernel
theorem dX0_divide_40 : decode cX0_divide 40 = .ok (.aload_n 0, 1) := by decide +kernel
theorem dX0_divide_41 : decode cX0_divide 41 = .ok (.getfield 22, 3) := by decide +kernel
theorem dX0_divide_44 : decode cX0_divide 44 = .ok (.aload_n 0, 1) := by decide +kernel
theorem dX0_divide_45 : decode cX0_divide 45 = .ok (.getfield 46, 3) := by decide +kernel
theorem dX0_divide_48 : decode cX0_divide 48 = .ok (.iconst 1, 1) := by decide +kernel
theorem dX0_divide_49 : decode cX0_divide 49 = .ok (.isub, 1) := by decide +kernel
theorem dX0_divide_50 : decode cX0_divide 50 = .ok (.iload_n 3, 1) := by decide +kernel
theorem dX0_divide_51 : decode cX0_divide 51 = .ok (.isub, 1) := by decide +kernel
theorem dX0_divide_52 : decode cX0_divide 52 = .ok (.iload 4, 2) := by decide +kernel
theorem dX0_divide_54 : decode cX0_divide 54 = .ok (.iastore, 1) := by decide +kernel
theorem dX0_divide_55 : decode cX0_divide 55 = .ok (.iload_n 2, 1) := by decide +kernel
theorem dX0_divide_56 : decode cX0_divide 56 = .ok (.ifCond .eq 12, 3) := by decide +kernel
theorem dX0_divide_59 : decode cX0_divide 59 = .ok (.iload 4, 2) := by decide +kernel
theorem dX0_divide_61 : decode cX0_divide 61 = .ok (.ifCond .ne 7, 3) := by decide +kernel
theorem dX0_divide_64 : decode cX0_divide 64 = .ok (.iconst 1, 1) := by decide +kernel
theorem dX0_divide_65 : decode cX0_divide 65 = .ok (.goto 4, 3) := by decide +kernel
theorem dX0_divide_68 : decode cX0_divide 68 = .ok (.iconst 0, 1) := by decide +kernel
theorem dX0_divide_69 : decode cX0_divide 69 = .ok (.istore_n 2, 1) := by decide +kernel
theorem dX0_divide_70 : decode cX0_divide 70 = .ok (.iinc 3 1, 3) := by decide +kernel
theorem dX0_divide_73 : decode cX0_divide 73 = .ok (.goto (-64), 3) := by decide +kernel
theorem dX0_divide_76 : decode cX0_divide 76 = .ok (.iload_n 2, 1) := by decide +kernel
theorem dX0_divide_77 : decode cX0_divide 77 = .ok (.ireturn, 1) := by decide +kernel
theorem dX0_restAt_0 : decode cX0_restAt 0 = .ok (.aload_n 0, 1) := by decide +kernel
theorem dX0_restAt_1 : decode cX0_restAt 1 = .ok (.getfield 32, 3) := by decide +kernel
theorem dX0_restAt_4 : decode cX0_restAt 4 = .ok (.getfield 114, 3) := by decide +kernel
theorem dX0_restAt_7 : decode cX0_restAt 7 = .ok (.istore_n 2, 1) := by decide +kernel
theorem dX0_restAt_8 : decode cX0_restAt 8 = .ok (.iload_n 1, 1) := by decide +kernel
theorem dX0_restAt_9 : decode cX0_restAt 9 = .ok (.iload_n 2, 1) := by decide +kernel
theorem dX0_restAt_10 : decode cX0_restAt 10 = .ok (.invokestatic 117, 3) := by decide +kernel
theorem dX0_restAt_13 : decode cX0_restAt 13 = .ok (.istore_n 3, 1) := by decide +kernel
theorem dX0_restAt_14 : decode cX0_restAt 14 = .ok (.iconst 0, 1) := by decide +kernel
theorem dX0_restAt_15 : decode cX0_restAt 15 = .ok (.istore 4, 2) := by decide +kernel
theorem dX0_restAt_17 : decode cX0_restAt 17 = .ok (.iconst 0, 1) := by decide +kernel
theorem dX0_restAt_18 : decode cX0_restAt 18 = .ok (.istore 5, 2) := by decide +kernel
theorem dX0_restAt_20 : decode cX0_restAt 20 = .ok (.iconst 0, 1) := by decide +kernel
theorem dX0_restAt_21 : decode cX0_restAt 21 = .ok (.istore 6, 2) := by decide +kernel
theorem dX0_restAt_23 : decode cX0_restAt 23 = .ok (.iload 6, 2) := by decide +kernel
theorem dX0_restAt_25 : decode cX0_restAt 25 = .ok (.aload_n 0, 1) := by decide +kernel
theorem dX0_restAt_26 : decode cX0_restAt 26 = .ok (.getfield 46, 3) := by decide +kernel
theorem dX0_restAt_29 : decode cX0_restAt 29 = .ok (.if_icmp .ge 58, 3) := by decide +kernel
theorem dX0_restAt_32 : decode cX0_restAt 32 = .ok (.aload_n 0, 1) := by decide +kernel
theorem dX0_restAt_33 : decode cX0_restAt 33 = .ok (.getfield 22, 3) := by decide +kernel
theorem dX0_restAt_36 : decode cX0_restAt 36 = .ok (.iload 6, 2) := by decide +kernel
theorem dX0_restAt_38 : decode cX0_restAt 38 = .ok (.iaload, 1) := by decide +kernel
theorem dX0_restAt_39 : decode cX0_restAt 39 = .ok (.iconst 1, 1) := by decide +kernel
theorem dX0_restAt_40 : decode cX0_restAt 40 = .ok (.if_icmp .ne 18, 3) := by decide +kernel
theorem dX0_restAt_43 : decode cX0_restAt 43 = .ok (.iload 4, 2) := by decide +kernel
theorem dX0_restAt_45 : decode cX0_restAt 45 = .ok (.aload_n 0, 1) := by decide +kernel
theorem dX0_restAt_46 : decode cX0_restAt 46 = .ok (.getfield 32, 3) := by decide +kernel
theorem dX0_restAt_49 : decode cX0_restAt 49 = .ok (.getfield 120, 3) := by decide +kernel
theorem dX0_restAt_52 : decode cX0_restAt 52 = .ok (.iload 5, 2) := by decide +kernel
theorem dX0_restAt_54 : decode cX0_restAt 54 = .ok (.iaload, 1) := by decide +kernel
theorem dX0_restAt_55 : decode cX0_restAt 55 = .ok (.ixor, 1) := by decide +kernel
theorem dX0_restAt_56 : decode cX0_restAt 56 = .ok (.istore 4, 2) := by decide +kernel
theorem dX0_restAt_58 : decode cX0_restAt 58 = .ok (.iload 5, 2) := by decide +kernel
theorem dX0_restAt_60 : decode cX0_restAt 60 = .ok (.iload_n 3, 1) := by decide +kernel
theorem dX0_restAt_61 : decode cX0_restAt 61 = .ok (.iadd, 1) := by decide +kernel
theorem dX0_restAt_62 : decode cX0_restAt 62 = .ok (.iload_n 2, 1) := by decide +kernel
theorem dX0_restAt_63 : decode cX0_restAt 63 = .ok (.if_icmp .lt 12, 3) := by decide +kernel
theorem dX0_restAt_66 : decode cX0_restAt 66 = .ok (.iload 5, 2) := by decide +kernel
theorem dX0_restAt_68 : decode cX0_restAt 68 = .ok (.iload_n 3, 1) := by decide +kernel
theorem dX0_restAt_69 : decode cX0_restAt 69 = .ok (.iadd, 1) := by decide +kernel
theorem dX0_restAt_70 : decode cX0_restAt 70 = .ok (.iload_n 2, 1) := by decide +kernel
theorem dX0_restAt_71 : decode cX0_restAt 71 = .ok (.isub, 1) := by decide +kernel
theorem dX0_restAt_72 : decode cX0_restAt 72 = .ok (.goto 7, 3) := by decide +kernel
theorem dX0_restAt_75 : decode cX0_restAt 75 = .ok (.iload 5, 2) := by decide +kernel
theorem dX0_restAt_77 : decode cX0_restAt 77 = .ok (.iload_n 3, 1) := by decide +kernel
theorem dX0_restAt_78 : decode cX0_restAt 78 = .ok (.iadd, 1) := by decide +kernel
theorem dX0_restAt_79 : decode cX0_restAt 79 = .ok (.istore 5, 2) := by decide +kernel
theorem dX0_restAt_81 : decode cX0_restAt 81 = .ok (.iinc 6 1, 3) := by decide +kernel
theorem dX0_restAt_84 : decode cX0_restAt 84 = .ok (.goto (-61), 3) := by decide +kernel
theorem dX0_restAt_87 : decode cX0_restAt 87 = .ok (.iload 4, 2) := by decide +kernel
theorem dX0_restAt_89 : decode cX0_restAt 89 = .ok (.ireturn, 1) := by decide +kernel
theorem dX1_reduced_0 : decode cX1_reduced 0 = .ok (.iload_n 1, 1) := by decide +kernel
theorem dX1_reduced_1 : decode cX1_reduced 1 = .ok (.iconst 1, 1) := by decide +kernel
theorem dX1_reduced_2 : decode cX1_reduced 2 = .ok (.if_icmp .ge 7, 3) := by decide +kernel
theorem dX1_reduced_5 : decode cX1_reduced 5 = .ok (.iconst 0, 1) := by decide +kernel
theorem dX1_reduced_6 : decode cX1_reduced 6 = .ok (.goto 8, 3) := by decide +kernel
theorem dX1_reduced_9 : decode cX1_reduced 9 = .ok (.iload_n 0, 1) := by decide +kernel
theorem dX1_reduced_10 : decode cX1_reduced 10 = .ok (.iload_n 1, 1) := by decide +kernel
theorem dX1_reduced_11 : decode cX1_reduced 11 = .ok (.invokestatic 7, 3) := by decide +kernel
theorem dX1_reduced_14 : decode cX1_reduced 14 = .ok (.ireturn, 1) := by decide +kernel
theorem dX1_doubled_0 : decode cX1_doubled 0 = .ok (.iconst 2, 1) := by decide +kernel
theorem dX1_doubled_1 : decode cX1_doubled 1 = .ok (.iload_n 0, 1) := by decide +kernel
theorem dX1_doubled_2 : decode cX1_doubled 2 = .ok (.imul, 1) := by decide +kernel
theorem dX1_doubled_3 : decode cX1_doubled 3 = .ok (.iload_n 1, 1) := by decide +kernel
theorem dX1_doubled_4 : decode cX1_doubled 4 = .ok (.if_icmp .lt 11, 3) := by decide +kernel
theorem dX1_doubled_7 : decode cX1_doubled 7 = .ok (.iconst 2, 1) := by decide +kernel
theorem dX1_doubled_8 : decode cX1_doubled 8 = .ok (.iload_n 0, 1) := by decide +kernel
theorem dX1_doubled_9 : decode cX1_doubled 9 = .ok (.imul, 1) := by decide +kernel
theorem dX1_doubled_10 : decode cX1_doubled 10 = .ok (.iload_n 1, 1) := by decide +kernel
theorem dX1_doubled_11 : decode cX1_doubled 11 = .ok (.isub, 1) := by decide +kernel
theorem dX1_doubled_12 : decode cX1_doubled 12 = .ok (.goto 6, 3) := by decide +kernel
theorem dX1_doubled_15 : decode cX1_doubled 15 = .ok (.iconst 2, 1) := by decide +kernel
theorem dX1_doubled_16 : decode cX1_doubled 16 = .ok (.iload_n 0, 1) := by decide +kernel
theorem dX1_doubled_17 : decode cX1_doubled 17 = .ok (.imul, 1) := by decide +kernel
theorem dX1_doubled_18 : decode cX1_doubled 18 = .ok (.ireturn, 1) := by decide +kernel
theorem dX1_size_0 : decode cX1_size 0 = .ok (.iconst 1, 1) := by decide +kernel
theorem dX1_size_1 : decode cX1_size 1 = .ok (.iload_n 1, 1) := by decide +kernel
theorem dX1_size_2 : decode cX1_size 2 = .ok (.ishl, 1) := by decide +kernel
theorem dX1_size_3 : decode cX1_size 3 = .ok (.iconst 1, 1) := by decide +kernel
theorem dX1_size_4 : decode cX1_size 4 = .ok (.isub, 1) := by decide +kernel
theorem dX1_size_5 : decode cX1_size 5 = .ok (.istore_n 2, 1) := by decide +kernel
theorem dX1_size_6 : decode cX1_size 6 = .ok (.iload_n 0, 1) := by decide +kernel
theorem dX1_size_7 : decode cX1_size 7 = .ok (.iload_n 2, 1) := by decide +kernel
theorem dX1_size_8 : decode cX1_size 8 = .ok (.invokestatic 13, 3) := by decide +kernel
theorem dX1_size_11 : decode cX1_size 11 = .ok (.istore_n 3, 1) := by decide +kernel
theorem dX1_size_12 : decode cX1_size 12 = .ok (.iload_n 3, 1) := by decide +kernel
theorem dX1_size_13 : decode cX1_size 13 = .ok (.iload_n 2, 1) := by decide +kernel
theorem dX1_size_14 : decode cX1_size 14 = .ok (.invokestatic 18, 3) := by decide +kernel
theorem dX1_size_17 : decode cX1_size 17 = .ok (.istore 4, 2) := by decide +kernel
theorem dX1_size_19 : decode cX1_size 19 = .ok (.iconst 1, 1) := by decide +kernel
theorem dX1_size_20 : decode cX1_size 20 = .ok (.istore 5, 2) := by decide +kernel
theorem dX1_size_22 : decode cX1_size 22 = .ok (.iload 4, 2) := by decide +kernel
theorem dX1_size_24 : decode cX1_size 24 = .ok (.iload_n 3, 1) := by decide +kernel
theorem dX1_size_25 : decode cX1_size 25 = .ok (.if_icmp .eq 23, 3) := by decide +kernel
theorem dX1_size_28 : decode cX1_size 28 = .ok (.iload 5, 2) := by decide +kernel
theorem dX1_size_30 : decode cX1_size 30 = .ok (.iload_n 1, 1) := by decide +kernel
theorem dX1_size_31 : decode cX1_size 31 = .ok (.if_icmp .ge 17, 3) := by decide +kernel
theorem dX1_size_34 : decode cX1_size 34 = .ok (.iload 4, 2) := by decide +kernel
theorem dX1_size_36 : decode cX1_size 36 = .ok (.iload_n 2, 1) := by decide +kernel
theorem dX1_size_37 : decode cX1_size 37 = .ok (.invokestatic 18, 3) := by decide +kernel
theorem dX1_size_40 : decode cX1_size 40 = .ok (.istore 4, 2) := by decide +kernel
theorem dX1_size_42 : decode cX1_size 42 = .ok (.iinc 5 1, 3) := by decide +kernel
theorem dX1_size_45 : decode cX1_size 45 = .ok (.goto (-23), 3) := by decide +kernel
theorem dX1_size_48 : decode cX1_size 48 = .ok (.iload 5, 2) := by decide +kernel
theorem dX1_size_50 : decode cX1_size 50 = .ok (.ireturn, 1) := by decide +kernel
theorem dX1_least_0 : decode cX1_least 0 = .ok (.iconst 1, 1) := by decide +kernel
theorem dX1_least_1 : decode cX1_least 1 = .ok (.iload_n 1, 1) := by decide +kernel
theorem dX1_least_2 : decode cX1_least 2 = .ok (.ishl, 1) := by decide +kernel
theorem dX1_least_3 : decode cX1_least 3 = .ok (.iconst 1, 1) := by decide +kernel
theorem dX1_least_4 : decode cX1_least 4 = .ok (.isub, 1) := by decide +kernel
theorem dX1_least_5 : decode cX1_least 5 = .ok (.istore_n 2, 1) := by decide +kernel
theorem dX1_least_6 : decode cX1_least 6 = .ok (.iload_n 0, 1) := by decide +kernel
theorem dX1_least_7 : decode cX1_least 7 = .ok (.iload_n 2, 1) := by decide +kernel
theorem dX1_least_8 : decode cX1_least 8 = .ok (.invokestatic 13, 3) := by decide +kernel
theorem dX1_least_11 : decode cX1_least 11 = .ok (.istore_n 3, 1) := by decide +kernel
theorem dX1_least_12 : decode cX1_least 12 = .ok (.iload_n 3, 1) := by decide +kernel
theorem dX1_least_13 : decode cX1_least 13 = .ok (.istore 4, 2) := by decide +kernel
theorem dX1_least_15 : decode cX1_least 15 = .ok (.iconst 1, 1) := by decide +kernel
theorem dX1_least_16 : decode cX1_least 16 = .ok (.istore 5, 2) := by decide +kernel
theorem dX1_least_18 : decode cX1_least 18 = .ok (.iload 5, 2) := by decide +kernel
theorem dX1_least_20 : decode cX1_least 20 = .ok (.iload_n 1, 1) := by decide +kernel
theorem dX1_least_21 : decode cX1_least 21 = .ok (.if_icmp .ge 23, 3) := by decide +kernel
theorem dX1_least_24 : decode cX1_least 24 = .ok (.iload_n 3, 1) := by decide +kernel
theorem dX1_least_25 : decode cX1_least 25 = .ok (.iload_n 2, 1) := by decide +kernel
theorem dX1_least_26 : decode cX1_least 26 = .ok (.invokestatic 18, 3) := by decide +kernel
theorem dX1_least_29 : decode cX1_least 29 = .ok (.istore_n 3, 1) := by decide +kernel
theorem dX1_least_30 : decode cX1_least 30 = .ok (.iload 4, 2) := by decide +kernel
theorem dX1_least_32 : decode cX1_least 32 = .ok (.iload_n 3, 1) := by decide +kernel
theorem dX1_least_33 : decode cX1_least 33 = .ok (.invokestatic 21, 3) := by decide +kernel
theorem dX1_least_36 : decode cX1_least 36 = .ok (.istore 4, 2) := by decide +kernel
theorem dX1_least_38 : decode cX1_least 38 = .ok (.iinc 5 1, 3) := by decide +kernel
theorem dX1_least_41 : decode cX1_least 41 = .ok (.goto (-23), 3) := by decide +kernel
theorem dX1_least_44 : decode cX1_least 44 = .ok (.iload 4, 2) := by decide +kernel
theorem dX1_least_46 : decode cX1_least 46 = .ok (.ireturn, 1) := by decide +kernel
theorem dX1_isNew_0 : decode cX1_isNew 0 = .ok (.iload_n 0, 1) := by decide +kernel
theorem dX1_isNew_1 : decode cX1_isNew 1 = .ok (.iload_n 1, 1) := by decide +kernel
theorem dX1_isNew_2 : decode cX1_isNew 2 = .ok (.invokestatic 24, 3) := by decide +kernel
theorem dX1_isNew_5 : decode cX1_isNew 5 = .ok (.istore_n 2, 1) := by decide +kernel
theorem dX1_isNew_6 : decode cX1_isNew 6 = .ok (.iconst 1, 1) := by decide +kernel
theorem dX1_isNew_7 : decode cX1_isNew 7 = .ok (.istore_n 3, 1) := by decide +kernel
theorem dX1_isNew_8 : decode cX1_isNew 8 = .ok (.iload_n 3, 1) := by decide +kernel
theorem dX1_isNew_9 : decode cX1_isNew 9 = .ok (.iload_n 0, 1) := by decide +kernel
theorem dX1_isNew_10 : decode cX1_isNew 10 = .ok (.if_icmp .ge 20, 3) := by decide +kernel
theorem dX1_isNew_13 : decode cX1_isNew 13 = .ok (.iload_n 3, 1) := by decide +kernel
theorem dX1_isNew_14 : decode cX1_isNew 14 = .ok (.iload_n 1, 1) := by decide +kernel
theorem dX1_isNew_15 : decode cX1_isNew 15 = .ok (.invokestatic 24, 3) := by decide +kernel
theorem dX1_isNew_18 : decode cX1_isNew 18 = .ok (.iload_n 2, 1) := by decide +kernel
theorem dX1_isNew_19 : decode cX1_isNew 19 = .ok (.if_icmp .ne 5, 3) := by decide +kernel
theorem dX1_isNew_22 : decode cX1_isNew 22 = .ok (.iconst 0, 1) := by decide +kernel
theorem dX1_isNew_23 : decode cX1_isNew 23 = .ok (.ireturn, 1) := by decide +kernel
theorem dX1_isNew_24 : decode cX1_isNew 24 = .ok (.iinc 3 2, 3) := by decide +kernel
theorem dX1_isNew_27 : decode cX1_isNew 27 = .ok (.goto (-19), 3) := by decide +kernel
theorem dX1_isNew_30 : decode cX1_isNew 30 = .ok (.iconst 1, 1) := by decide +kernel
theorem dX1_isNew_31 : decode cX1_isNew 31 = .ok (.ireturn, 1) := by decide +kernel
theorem dX1_tailLength_0 : decode cX1_tailLength 0 = .ok (.iconst 0, 1) := by decide +kernel
theorem dX1_tailLength_1 : decode cX1_tailLength 1 = .ok (.istore_n 2, 1) := by decide +kernel
theorem dX1_tailLength_2 : decode cX1_tailLength 2 = .ok (.iconst 1, 1) := by decide +kernel
theorem dX1_tailLength_3 : decode cX1_tailLength 3 = .ok (.istore_n 3, 1) := by decide +kernel
theorem dX1_tailLength_4 : decode cX1_tailLength 4 = .ok (.iload_n 3, 1) := by decide +kernel
theorem dX1_tailLength_5 : decode cX1_tailLength 5 = .ok (.iconst 2, 1) := by decide +kernel
theorem dX1_tailLength_6 : decode cX1_tailLength 6 = .ok (.iload_n 1, 1) := by decide +kernel
theorem dX1_tailLength_7 : decode cX1_tailLength 7 = .ok (.imul, 1) := by decide +kernel
theorem dX1_tailLength_8 : decode cX1_tailLength 8 = .ok (.if_icmp .ge 25, 3) := by decide +kernel
theorem dX1_tailLength_11 : decode cX1_tailLength 11 = .ok (.iload_n 3, 1) := by decide +kernel
theorem dX1_tailLength_12 : decode cX1_tailLength 12 = .ok (.iload_n 0, 1) := by decide +kernel
theorem dX1_tailLength_13 : decode cX1_tailLength 13 = .ok (.invokestatic 27, 3) := by decide +kernel
theorem dX1_tailLength_16 : decode cX1_tailLength 16 = .ok (.ifCond .eq 11, 3) := by decide +kernel
theorem dX1_tailLength_19 : decode cX1_tailLength 19 = .ok (.iload_n 2, 1) := by decide +kernel
theorem dX1_tailLength_20 : decode cX1_tailLength 20 = .ok (.iload_n 3, 1) := by decide +kernel
theorem dX1_tailLength_21 : decode cX1_tailLength 21 = .ok (.iload_n 0, 1) := by decide +kernel
theorem dX1_tailLength_22 : decode cX1_tailLength 22 = .ok (.invokestatic 31, 3) := by decide +kernel
theorem dX1_tailLength_25 : decode cX1_tailLength 25 = .ok (.iadd, 1) := by decide +kernel
theorem dX1_tailLength_26 : decode cX1_tailLength 26 = .ok (.istore_n 2, 1) := by decide +kernel
theorem dX1_tailLength_27 : decode cX1_tailLength 27 = .ok (.iinc 3 2, 3) := by decide +kernel
theorem dX1_tailLength_30 : decode cX1_tailLength 30 = .ok (.goto (-26), 3) := by decide +kernel
theorem dX1_tailLength_33 : decode cX1_tailLength 33 = .ok (.iload_n 2, 1) := by decide +kernel
theorem dX1_tailLength_34 : decode cX1_tailLength 34 = .ok (.ireturn, 1) := by decide +kernel
theorem dX2_init_0 : decode cX2_init 0 = .ok (.aload_n 0, 1) := by decide +kernel
theorem dX2_init_1 : decode cX2_init 1 = .ok (.invokespecial 3, 3) := by decide +kernel
theorem dX2_init_4 : decode cX2_init 4 = .ok (.aload_n 0, 1) := by decide +kernel
theorem dX2_init_5 : decode cX2_init 5 = .ok (.sipush 8192, 3) := by decide +kernel
theorem dX2_init_8 : decode cX2_init 8 = .ok (.newarray .int, 2) := by decide +kernel
theorem dX2_init_10 : decode cX2_init 10 = .ok (.putfield 9, 3) := by decide +kernel
theorem dX2_init_13 : decode cX2_init 13 = .ok (.aload_n 0, 1) := by decide +kernel
theorem dX2_init_14 : decode cX2_init 14 = .ok (.sipush 8192, 3) := by decide +kernel
theorem dX2_init_17 : decode cX2_init 17 = .ok (.newarray .int, 2) := by decide +kernel
theorem dX2_init_19 : decode cX2_init 19 = .ok (.putfield 15, 3) := by decide +kernel
theorem dX2_init_22 : decode cX2_init 22 = .ok (.aload_n 0, 1) := by decide +kernel
theorem dX2_init_23 : decode cX2_init 23 = .ok (.bipush 14, 2) := by decide +kernel
theorem dX2_init_25 : decode cX2_init 25 = .ok (.newarray .int, 2) := by decide +kernel
theorem dX2_init_27 : decode cX2_init 27 = .ok (.putfield 18, 3) := by decide +kernel
theorem dX2_init_30 : decode cX2_init 30 = .ok (.return_, 1) := by decide +kernel
theorem dX2_become_0 : decode cX2_become 0 = .ok (.iload_n 1, 1) := by decide +kernel
theorem dX2_become_1 : decode cX2_become 1 = .ok (.aload_n 0, 1) := by decide +kernel
theorem dX2_become_2 : decode cX2_become 2 = .ok (.getfield 21, 3) := by decide +kernel
theorem dX2_become_5 : decode cX2_become 5 = .ok (.if_icmp .ne 4, 3) := by decide +kernel
theorem dX2_become_8 : decode cX2_become 8 = .ok (.return_, 1) := by decide +kernel
theorem dX2_become_9 : decode cX2_become 9 = .ok (.aload_n 0, 1) := by decide +kernel
theorem dX2_become_10 : decode cX2_become 10 = .ok (.iload_n 1, 1) := by decide +kernel
theorem dX2_become_11 : decode cX2_become 11 = .ok (.putfield 21, 3) := by decide +kernel
theorem dX2_become_14 : decode cX2_become 14 = .ok (.aload_n 0, 1) := by decide +kernel
theorem dX2_become_15 : decode cX2_become 15 = .ok (.iconst 1, 1) := by decide +kernel
theorem dX2_become_16 : decode cX2_become 16 = .ok (.iload_n 1, 1) := by decide +kernel
theorem dX2_become_17 : decode cX2_become 17 = .ok (.ishl, 1) := by decide +kernel
theorem dX2_become_18 : decode cX2_become 18 = .ok (.iconst 1, 1) := by decide +kernel
theorem dX2_become_19 : decode cX2_become 19 = .ok (.isub, 1) := by decide +kernel
theorem dX2_become_20 : decode cX2_become 20 = .ok (.putfield 25, 3) := by decide +kernel
theorem dX2_become_23 : decode cX2_become 23 = .ok (.getstatic 28, 3) := by decide +kernel
theorem dX2_become_26 : decode cX2_become 26 = .ok (.iload_n 1, 1) := by decide +kernel
theorem dX2_become_27 : decode cX2_become 27 = .ok (.iconst 3, 1) := by decide +kernel
theorem dX2_become_28 : decode cX2_become 28 = .ok (.isub, 1) := by decide +kernel
theorem dX2_become_29 : decode cX2_become 29 = .ok (.iaload, 1) := by decide +kernel
theorem dX2_become_30 : decode cX2_become 30 = .ok (.istore_n 2, 1) := by decide +kernel
theorem dX2_become_31 : decode cX2_become 31 = .ok (.iconst 1, 1) := by decide +kernel
theorem dX2_become_32 : decode cX2_become 32 = .ok (.istore_n 3, 1) := by decide +kernel
theorem dX2_become_33 : decode cX2_become 33 = .ok (.iconst 0, 1) := by decide +kernel
theorem dX2_become_34 : decode cX2_become 34 = .ok (.istore 4, 2) := by decide +kernel
theorem dX2_become_36 : decode cX2_become 36 = .ok (.iload 4, 2) := by decide +kernel
theorem dX2_become_38 : decode cX2_become 38 = .ok (.aload_n 0, 1) := by decide +kernel
theorem dX2_become_39 : decode cX2_become 39 = .ok (.getfield 25, 3) := by decide +kernel
theorem dX2_become_42 : decode cX2_become 42 = .ok (.if_icmp .ge 41, 3) := by decide +kernel
theorem dX2_become_45 : decode cX2_become 45 = .ok (.aload_n 0, 1) := by decide +kernel
theorem dX2_become_46 : decode cX2_become 46 = .ok (.getfield 9, 3) := by decide +kernel
theorem dX2_become_49 : decode cX2_become 49 = .ok (.iload 4, 2) := by decide +kernel
theorem dX2_become_51 : decode cX2_become 51 = .ok (.iload_n 3, 1) := by decide +kernel
theorem dX2_become_52 : decode cX2_become 52 = .ok (.iastore, 1) := by decide +kernel
theorem dX2_become_53 : decode cX2_become 53 = .ok (.aload_n 0, 1) := by decide +kernel
theorem dX2_become_54 : decode cX2_become 54 = .ok (.getfield 15, 3) := by decide +kernel
theorem dX2_become_57 : decode cX2_become 57 = .ok (.iload_n 3, 1) := by decide +kernel
theorem dX2_become_58 : decode cX2_become 58 = .ok (.iload 4, 2) := by decide +kernel
theorem dX2_become_60 : decode cX2_become 60 = .ok (.iastore, 1) := by decide +kernel
theorem dX2_become_61 : decode cX2_become 61 = .ok (.iload_n 3, 1) := by decide +kernel
theorem dX2_become_62 : decode cX2_become 62 = .ok (.iconst 1, 1) := by decide +kernel
theorem dX2_become_63 : decode cX2_become 63 = .ok (.ishl, 1) := by decide +kernel
theorem dX2_become_64 : decode cX2_become 64 = .ok (.istore_n 3, 1) := by decide +kernel
theorem dX2_become_65 : decode cX2_become 65 = .ok (.iload_n 3, 1) := by decide +kernel
theorem dX2_become_66 : decode cX2_become 66 = .ok (.aload_n 0, 1) := by decide +kernel
theorem dX2_become_67 : decode cX2_become 67 = .ok (.getfield 25, 3) := by decide +kernel
theorem dX2_become_70 : decode cX2_become 70 = .ok (.if_icmp .le 7, 3) := by decide +kernel
theorem dX2_become_73 : decode cX2_become 73 = .ok (.iload_n 3, 1) := by decide +kernel
theorem dX2_become_74 : decode cX2_become 74 = .ok (.iload_n 2, 1) := by decide +kernel
theorem dX2_become_75 : decode cX2_become 75 = .ok (.ixor, 1) := by decide +kernel
theorem dX2_become_76 : decode cX2_become 76 = .ok (.istore_n 3, 1) := by decide +kernel
theorem dX2_become_77 : decode cX2_become 77 = .ok (.iinc 4 1, 3) := by decide +kernel
theorem dX2_become_80 : decode cX2_become 80 = .ok (.goto (-44), 3) := by decide +kernel
theorem dX2_become_83 : decode cX2_become 83 = .ok (.return_, 1) := by decide +kernel
theorem dX2_has_0 : decode cX2_has 0 = .ok (.iload_n 1, 1) := by decide +kernel
theorem dX2_has_1 : decode cX2_has 1 = .ok (.ifCond .lt 15, 3) := by decide +kernel
theorem dX2_has_4 : decode cX2_has 4 = .ok (.iload_n 1, 1) := by decide +kernel
theorem dX2_has_5 : decode cX2_has 5 = .ok (.aload_n 0, 1) := by decide +kernel
theorem dX2_has_6 : decode cX2_has 6 = .ok (.getfield 25, 3) := by decide +kernel
theorem dX2_has_9 : decode cX2_has 9 = .ok (.if_icmp .gt 7, 3) := by decide +kernel
theorem dX2_has_12 : decode cX2_has 12 = .ok (.iconst 1, 1) := by decide +kernel
theorem dX2_has_13 : decode cX2_has 13 = .ok (.goto 4, 3) := by decide +kernel
theorem dX2_has_16 : decode cX2_has 16 = .ok (.iconst 0, 1) := by decide +kernel
theorem dX2_has_17 : decode cX2_has 17 = .ok (.ireturn, 1) := by decide +kernel
theorem dX2_powerOfA_0 : decode cX2_powerOfA 0 = .ok (.aload_n 0, 1) := by decide +kernel
theorem dX2_powerOfA_1 : decode cX2_powerOfA 1 = .ok (.getfield 9, 3) := by decide +kernel
theorem dX2_powerOfA_4 : decode cX2_powerOfA 4 = .ok (.iload_n 1, 1) := by decide +kernel
theorem dX2_powerOfA_5 : decode cX2_powerOfA 5 = .ok (.aload_n 0, 1) := by decide +kernel
theorem dX2_powerOfA_6 : decode cX2_powerOfA 6 = .ok (.getfield 25, 3) := by decide +kernel
theorem dX2_powerOfA_9 : decode cX2_powerOfA 9 = .ok (.invokestatic 31, 3) := by decide +kernel
theorem dX2_powerOfA_12 : decode cX2_powerOfA 12 = .ok (.iaload, 1) := by decide +kernel
theorem dX2_powerOfA_13 : decode cX2_powerOfA 13 = .ok (.ireturn, 1) := by decide +kernel
theorem dX2_product_0 : decode cX2_product 0 = .ok (.iload_n 1, 1) := by decide +kernel
theorem dX2_product_1 : decode cX2_product 1 = .ok (.ifCond .eq 7, 3) := by decide +kernel
theorem dX2_product_4 : decode cX2_product 4 = .ok (.iload_n 2, 1) := by decide +kernel
theorem dX2_product_5 : decode cX2_product 5 = .ok (.ifCond .ne 5, 3) := by decide +kernel
theorem dX2_product_8 : decode cX2_product 8 = .ok (.iconst 0, 1) := by decide +kernel
theorem dX2_product_9 : decode cX2_product 9 = .ok (.ireturn, 1) := by decide +kernel
theorem dX2_product_10 : decode cX2_product 10 = .ok (.aload_n 0, 1) := by decide +kernel
theorem dX2_product_11 : decode cX2_product 11 = .ok (.getfield 15, 3) := by decide +kernel
theorem dX2_product_14 : decode cX2_product 14 = .ok (.iload_n 1, 1) := by decide +kernel
theorem dX2_product_15 : decode cX2_product 15 = .ok (.iaload, 1) := by decide +kernel
theorem dX2_product_16 : decode cX2_product 16 = .ok (.aload_n 0, 1) := by decide +kernel
theorem dX2_product_17 : decode cX2_product 17 = .ok (.getfield 15, 3) := by decide +kernel
theorem dX2_product_20 : decode cX2_product 20 = .ok (.iload_n 2, 1) := by decide +kernel
theorem dX2_product_21 : decode cX2_product 21 = .ok (.iaload, 1) := by decide +kernel
theorem dX2_product_22 : decode cX2_product 22 = .ok (.iadd, 1) := by decide +kernel
theorem dX2_product_23 : decode cX2_product 23 = .ok (.istore_n 3, 1) := by decide +kernel
theorem dX2_product_24 : decode cX2_product 24 = .ok (.aload_n 0, 1) := by decide +kernel
theorem dX2_product_25 : decode cX2_product 25 = .ok (.getfield 9, 3) := by decide +kernel
theorem dX2_product_28 : decode cX2_product 28 = .ok (.iload_n 3, 1) := by decide +kernel
theorem dX2_product_29 : decode cX2_product 29 = .ok (.aload_n 0, 1) := by decide +kernel
theorem dX2_product_30 : decode cX2_product 30 = .ok (.getfield 25, 3) := by decide +kernel
theorem dX2_product_33 : decode cX2_product 33 = .ok (.if_icmp .lt 12, 3) := by decide +kernel
theorem dX2_product_36 : decode cX2_product 36 = .ok (.iload_n 3, 1) := by decide +kernel
theorem dX2_product_37 : decode cX2_product 37 = .ok (.aload_n 0, 1) := by decide +kernel
theorem dX2_product_38 : decode cX2_product 38 = .ok (.getfield 25, 3) := by decide +kernel
theorem dX2_product_41 : decode cX2_product 41 = .ok (.isub, 1) := by decide +kernel
theorem dX2_product_42 : decode cX2_product 42 = .ok (.goto 4, 3) := by decide +kernel
theorem dX2_product_45 : decode cX2_product 45 = .ok (.iload_n 3, 1) := by decide +kernel
theorem dX2_product_46 : decode cX2_product 46 = .ok (.iaload, 1) := by decide +kernel
theorem dX2_product_47 : decode cX2_product 47 = .ok (.ireturn, 1) := by decide +kernel
theorem dX2_reciprocal_0 : decode cX2_reciprocal 0 = .ok (.aload_n 0, 1) := by decide +kernel
theorem dX2_reciprocal_1 : decode cX2_reciprocal 1 = .ok (.getfield 15, 3) := by decide +kernel
theorem dX2_reciprocal_4 : decode cX2_reciprocal 4 = .ok (.iload_n 1, 1) := by decide +kernel
theorem dX2_reciprocal_5 : decode cX2_reciprocal 5 = .ok (.iaload, 1) := by decide +kernel
theorem dX2_reciprocal_6 : decode cX2_reciprocal 6 = .ok (.istore_n 2, 1) := by decide +kernel
theorem dX2_reciprocal_7 : decode cX2_reciprocal 7 = .ok (.aload_n 0, 1) := by decide +kernel
theorem dX2_reciprocal_8 : decode cX2_reciprocal 8 = .ok (.getfield 9, 3) := by decide +kernel
theorem dX2_reciprocal_11 : decode cX2_reciprocal 11 = .ok (.iload_n 2, 1) := by decide +kernel
theorem dX2_reciprocal_12 : decode cX2_reciprocal 12 = .ok (.ifCond .ne 7, 3) := by decide +kernel
theorem dX2_reciprocal_15 : decode cX2_reciprocal 15 = .ok (.iconst 0, 1) := by decide +kernel
theorem dX2_reciprocal_16 : decode cX2_reciprocal 16 = .ok (.goto 9, 3) := by decide +kernel
theorem dX2_reciprocal_19 : decode cX2_reciprocal 19 = .ok (.aload_n 0, 1) := by decide +kernel
theorem dX2_reciprocal_20 : decode cX2_reciprocal 20 = .ok (.getfield 25, 3) := by decide +kernel
theorem dX2_reciprocal_23 : decode cX2_reciprocal 23 = .ok (.iload_n 2, 1) := by decide +kernel
theorem dX2_reciprocal_24 : decode cX2_reciprocal 24 = .ok (.isub, 1) := by decide +kernel
theorem dX2_reciprocal_25 : decode cX2_reciprocal 25 = .ok (.iaload, 1) := by decide +kernel
theorem dX2_reciprocal_26 : decode cX2_reciprocal 26 = .ok (.ireturn, 1) := by decide +kernel
theorem dX2_minimalPolynomial_0 : decode cX2_minimalPolynomial 0 = .ok (.iload_n 1, 1) := by decide +kernel
theorem dX2_minimalPolynomial_1 : decode cX2_minimalPolynomial 1 = .ok (.aload_n 0, 1) := by decide +kernel
theorem dX2_minimalPolynomial_2 : decode cX2_minimalPolynomial 2 = .ok (.getfield 21, 3) := by decide +kernel
theorem dX2_minimalPolynomial_5 : decode cX2_minimalPolynomial 5 = .ok (.invokestatic 37, 3) := by decide +kernel
theorem dX2_minimalPolynomial_8 : decode cX2_minimalPolynomial 8 = .ok (.istore_n 2, 1) := by decide +kernel
theorem dX2_minimalPolynomial_9 : decode cX2_minimalPolynomial 9 = .ok (.aload_n 0, 1) := by decide +kernel
theorem dX2_minimalPolynomial_10 : decode cX2_minimalPolynomial 10 = .ok (.getfield 18, 3) := by decide +kernel
theorem dX2_minimalPolynomial_13 : decode cX2_minimalPolynomial 13 = .ok (.iconst 0, 1) := by decide +kernel
theorem dX2_minimalPolynomial_14 : decode cX2_minimalPolynomial 14 = .ok (.invokestatic 40, 3) := by decide +kernel
theorem dX2_minimalPolynomial_17 : decode cX2_minimalPolynomial 17 = .ok (.aload_n 0, 1) := by decide +kernel
theorem dX2_minimalPolynomial_18 : decode cX2_minimalPolynomial 18 = .ok (.getfield 18, 3) := by decide +kernel
theorem dX2_minimalPolynomial_21 : decode cX2_minimalPolynomial 21 = .ok (.iconst 0, 1) := by decide +kernel
theorem dX2_minimalPolynomial_22 : decode cX2_minimalPolynomial 22 = .ok (.iconst 1, 1) := by decide +kernel
theorem dX2_minimalPolynomial_23 : decode cX2_minimalPolynomial 23 = .ok (.iastore, 1) := by decide +kernel
theorem dX2_minimalPolynomial_24 : decode cX2_minimalPolynomial 24 = .ok (.iload_n 1, 1) := by decide +kernel
theorem dX2_minimalPolynomial_25 : decode cX2_minimalPolynomial 25 = .ok (.aload_n 0, 1) := by decide +kernel
theorem dX2_minimalPolynomial_26 : decode cX2_minimalPolynomial 26 = .ok (.getfield 25, 3) := by decide +kernel
theorem dX2_minimalPolynomial_29 : decode cX2_minimalPolynomial 29 = .ok (.invokestatic 31, 3) := by decide +kernel
theorem dX2_minimalPolynomial_32 : decode cX2_minimalPolynomial 32 = .ok (.istore_n 3, 1) := by decide +kernel
theorem dX2_minimalPolynomial_33 : decode cX2_minimalPolynomial 33 = .ok (.iconst 0, 1) := by decide +kernel
theorem dX2_minimalPolynomial_34 : decode cX2_minimalPolynomial 34 = .ok (.istore 4, 2) := by decide +kernel
theorem dX2_minimalPolynomial_36 : decode cX2_minimalPolynomial 36 = .ok (.iload 4, 2) := by decide +kernel
theorem dX2_minimalPolynomial_38 : decode cX2_minimalPolynomial 38 = .ok (.iload_n 2, 1) := by decide +kernel
theorem dX2_minimalPolynomial_39 : decode cX2_minimalPolynomial 39 = .ok (.if_icmp .ge 30, 3) := by decide +kernel
theorem dX2_minimalPolynomial_42 : decode cX2_minimalPolynomial 42 = .ok (.aload_n 0, 1) := by decide +kernel
theorem dX2_minimalPolynomial_43 : decode cX2_minimalPolynomial 43 = .ok (.aload_n 0, 1) := by decide +kernel
theorem dX2_minimalPolynomial_44 : decode cX2_minimalPolynomial 44 = .ok (.getfield 9, 3) := by decide +kernel
theorem dX2_minimalPolynomial_47 : decode cX2_minimalPolynomial 47 = .ok (.iload_n 3, 1) := by decide +kernel
theorem dX2_minimalPolynomial_48 : decode cX2_minimalPolynomial 48 = .ok (.iaload, 1) := by decide +kernel
theorem dX2_minimalPolynomial_49 : decode cX2_minimalPolynomial 49 = .ok (.iload 4, 2) := by decide +kernel
theorem dX2_minimalPolynomial_51 : decode cX2_minimalPolynomial 51 = .ok (.invokevirtual 46, 3) := by decide +kernel
theorem dX2_minimalPolynomial_54 : decode cX2_minimalPolynomial 54 = .ok (.iload_n 3, 1) := by decide +kernel
theorem dX2_minimalPolynomial_55 : decode cX2_minimalPolynomial 55 = .ok (.aload_n 0, 1) := by decide +kernel
theorem dX2_minimalPolynomial_56 : decode cX2_minimalPolynomial 56 = .ok (.getfield 25, 3) := by decide +kernel
theorem dX2_minimalPolynomial_59 : decode cX2_minimalPolynomial 59 = .ok (.invokestatic 50, 3) := by decide +kernel
theorem dX2_minimalPolynomial_62 : decode cX2_minimalPolynomial 62 = .ok (.istore_n 3, 1) := by decide +kernel
theorem dX2_minimalPolynomial_63 : decode cX2_minimalPolynomial 63 = .ok (.iinc 4 1, 3) := by decide +kernel
theorem dX2_minimalPolynomial_66 : decode cX2_minimalPolynomial 66 = .ok (.goto (-30), 3) := by decide +kernel
theorem dX2_minimalPolynomial_69 : decode cX2_minimalPolynomial 69 = .ok (.iconst 0, 1) := by decide +kernel
theorem dX2_minimalPolynomial_70 : decode cX2_minimalPolynomial 70 = .ok (.istore 4, 2) := by decide +kernel
theorem dX2_minimalPolynomial_72 : decode cX2_minimalPolynomial 72 = .ok (.iconst 0, 1) := by decide +kernel
theorem dX2_minimalPolynomial_73 : decode cX2_minimalPolynomial 73 = .ok (.istore 5, 2) := by decide +kernel
theorem dX2_minimalPolynomial_75 : decode cX2_minimalPolynomial 75 = .ok (.iload 5, 2) := by decide +kernel
theorem dX2_minimalPolynomial_77 : decode cX2_minimalPolynomial 77 = .ok (.iload_n 2, 1) := by decide +kernel
theorem dX2_minimalPolynomial_78 : decode cX2_minimalPolynomial 78 = .ok (.if_icmp .gt 24, 3) := by decide +kernel
theorem dX2_minimalPolynomial_81 : decode cX2_minimalPolynomial 81 = .ok (.iload 4, 2) := by decide +kernel
theorem dX2_minimalPolynomial_83 : decode cX2_minimalPolynomial 83 = .ok (.aload_n 0, 1) := by decide +kernel
theorem dX2_minimalPolynomial_84 : decode cX2_minimalPolynomial 84 = .ok (.getfield 18, 3) := by decide +kernel
theorem dX2_minimalPolynomial_87 : decode cX2_minimalPolynomial 87 = .ok (.iload 5, 2) := by decide +kernel
theorem dX2_minimalPolynomial_89 : decode cX2_minimalPolynomial 89 = .ok (.iaload, 1) := by decide +kernel
theorem dX2_minimalPolynomial_90 : decode cX2_minimalPolynomial 90 = .ok (.iload 5, 2) := by decide +kernel
theorem dX2_minimalPolynomial_92 : decode cX2_minimalPolynomial 92 = .ok (.ishl, 1) := by decide +kernel
theorem dX2_minimalPolynomial_93 : decode cX2_minimalPolynomial 93 = .ok (.ior, 1) := by decide +kernel
theorem dX2_minimalPolynomial_94 : decode cX2_minimalPolynomial 94 = .ok (.istore 4, 2) := by decide +kernel
theorem dX2_minimalPolynomial_96 : decode cX2_minimalPolynomial 96 = .ok (.iinc 5 1, 3) := by decide +kernel
theorem dX2_minimalPolynomial_99 : decode cX2_minimalPolynomial 99 = .ok (.goto (-24), 3) := by decide +kernel
theorem dX2_minimalPolynomial_102 : decode cX2_minimalPolynomial 102 = .ok (.iload 4, 2) := by decide +kernel
theorem dX2_minimalPolynomial_104 : decode cX2_minimalPolynomial 104 = .ok (.ireturn, 1) := by decide +kernel
theorem dX2_multiplyByRoot_0 : decode cX2_multiplyByRoot 0 = .ok (.iload_n 2, 1) := by decide +kernel
theorem dX2_multiplyByRoot_1 : decode cX2_multiplyByRoot 1 = .ok (.iconst 1, 1) := by decide +kernel
theorem dX2_multiplyByRoot_2 : decode cX2_multiplyByRoot 2 = .ok (.iadd, 1) := by decide +kernel
theorem dX2_multiplyByRoot_3 : decode cX2_multiplyByRoot 3 = .ok (.istore_n 3, 1) := by decide +kernel
theorem dX2_multiplyByRoot_4 : decode cX2_multiplyByRoot 4 = .ok (.iload_n 3, 1) := by decide +kernel
theorem dX2_multiplyByRoot_5 : decode cX2_multiplyByRoot 5 = .ok (.ifCond .le 35, 3) := by decide +kernel
theorem dX2_multiplyByRoot_8 : decode cX2_multiplyByRoot 8 = .ok (.aload_n 0, 1) := by decide +kernel
theorem dX2_multiplyByRoot_9 : decode cX2_multiplyByRoot 9 = .ok (.getfield 18, 3) := by decide +kernel
theorem dX2_multiplyByRoot_12 : decode cX2_multiplyByRoot 12 = .ok (.iload_n 3, 1) := by decide +kernel
theorem dX2_multiplyByRoot_13 : decode cX2_multiplyByRoot 13 = .ok (.aload_n 0, 1) := by decide +kernel
theorem dX2_multiplyByRoot_14 : decode cX2_multiplyByRoot 14 = .ok (.getfield 18, 3) := by decide +kernel
theorem dX2_multiplyByRoot_17 : decode cX2_multiplyByRoot 17 = .ok (.iload_n 3, 1) := by decide +kernel
theorem dX2_multiplyByRoot_18 : decode cX2_multiplyByRoot 18 = .ok (.iconst 1, 1) := by decide +kernel
theorem dX2_multiplyByRoot_19 : decode cX2_multiplyByRoot 19 = .ok (.isub, 1) := by decide +kernel
theorem dX2_multiplyByRoot_20 : decode cX2_multiplyByRoot 20 = .ok (.iaload, 1) := by decide +kernel
theorem dX2_multiplyByRoot_21 : decode cX2_multiplyByRoot 21 = .ok (.aload_n 0, 1) := by decide +kernel
theorem dX2_multiplyByRoot_22 : decode cX2_multiplyByRoot 22 = .ok (.aload_n 0, 1) := by decide +kernel
theorem dX2_multiplyByRoot_23 : decode cX2_multiplyByRoot 23 = .ok (.getfield 18, 3) := by decide +kernel
theorem dX2_multiplyByRoot_26 : decode cX2_multiplyByRoot 26 = .ok (.iload_n 3, 1) := by decide +kernel
theorem dX2_multiplyByRoot_27 : decode cX2_multiplyByRoot 27 = .ok (.iaload, 1) := by decide +kernel
theorem dX2_multiplyByRoot_28 : decode cX2_multiplyByRoot 28 = .ok (.iload_n 1, 1) := by decide +kernel
theorem dX2_multiplyByRoot_29 : decode cX2_multiplyByRoot 29 = .ok (.invokevirtual 53, 3) := by decide +kernel
theorem dX2_multiplyByRoot_32 : decode cX2_multiplyByRoot 32 = .ok (.ixor, 1) := by decide +kernel
theorem dX2_multiplyByRoot_33 : decode cX2_multiplyByRoot 33 = .ok (.iastore, 1) := by decide +kernel
theorem dX2_multiplyByRoot_34 : decode cX2_multiplyByRoot 34 = .ok (.iinc 3 (-1), 3) := by decide +kernel
theorem dX2_multiplyByRoot_37 : decode cX2_multiplyByRoot 37 = .ok (.goto (-33), 3) := by decide +kernel
theorem dX2_multiplyByRoot_40 : decode cX2_multiplyByRoot 40 = .ok (.aload_n 0, 1) := by decide +kernel
theorem dX2_multiplyByRoot_41 : decode cX2_multiplyByRoot 41 = .ok (.getfield 18, 3) := by decide +kernel
theorem dX2_multiplyByRoot_44 : decode cX2_multiplyByRoot 44 = .ok (.iconst 0, 1) := by decide +kernel
theorem dX2_multiplyByRoot_45 : decode cX2_multiplyByRoot 45 = .ok (.aload_n 0, 1) := by decide +kernel
theorem dX2_multiplyByRoot_46 : decode cX2_multiplyByRoot 46 = .ok (.aload_n 0, 1) := by decide +kernel
theorem dX2_multiplyByRoot_47 : decode cX2_multiplyByRoot 47 = .ok (.getfield 18, 3) := by decide +kernel
theorem dX2_multiplyByRoot_50 : decode cX2_multiplyByRoot 50 = .ok (.iconst 0, 1) := by decide +kernel
theorem dX2_multiplyByRoot_51 : decode cX2_multiplyByRoot 51 = .ok (.iaload, 1) := by decide +kernel
theorem dX2_multiplyByRoot_52 : decode cX2_multiplyByRoot 52 = .ok (.iload_n 1, 1) := by decide +kernel
theorem dX2_multiplyByRoot_53 : decode cX2_multiplyByRoot 53 = .ok (.invokevirtual 53, 3) := by decide +kernel
theorem dX2_multiplyByRoot_56 : decode cX2_multiplyByRoot 56 = .ok (.iastore, 1) := by decide +kernel
theorem dX2_multiplyByRoot_57 : decode cX2_multiplyByRoot 57 = .ok (.return_, 1) := by decide +kernel
theorem dX4_init_0 : decode cX4_init 0 = .ok (.aload_n 0, 1) := by decide +kernel
theorem dX4_init_1 : decode cX4_init 1 = .ok (.invokespecial 3, 3) := by decide +kernel
theorem dX4_init_4 : decode cX4_init 4 = .ok (.aload_n 0, 1) := by decide +kernel
theorem dX4_init_5 : decode cX4_init 5 = .ok (.new 9, 3) := by decide +kernel
theorem dX4_init_8 : decode cX4_init 8 = .ok (.dup, 1) := by decide +kernel
theorem dX4_init_9 : decode cX4_init 9 = .ok (.invokespecial 11, 3) := by decide +kernel
theorem dX4_init_12 : decode cX4_init 12 = .ok (.putfield 12, 3) := by decide +kernel
theorem dX4_init_15 : decode cX4_init 15 = .ok (.aload_n 0, 1) := by decide +kernel
theorem dX4_init_16 : decode cX4_init 16 = .ok (.new 9, 3) := by decide +kernel
theorem dX4_init_19 : decode cX4_init 19 = .ok (.dup, 1) := by decide +kernel
theorem dX4_init_20 : decode cX4_init 20 = .ok (.invokespecial 11, 3) := by decide +kernel
theorem dX4_init_23 : decode cX4_init 23 = .ok (.putfield 18, 3) := by decide +kernel
theorem dX4_init_26 : decode cX4_init 26 = .ok (.aload_n 0, 1) := by decide +kernel
theorem dX4_init_27 : decode cX4_init 27 = .ok (.new 9, 3) := by decide +kernel
theorem dX4_init_30 : decode cX4_init 30 = .ok (.dup, 1) := by decide +kernel
theorem dX4_init_31 : decode cX4_init 31 = .ok (.invokespecial 11, 3) := by decide +kernel
theorem dX4_init_34 : decode cX4_init 34 = .ok (.putfield 21, 3) := by decide +kernel
theorem dX4_init_37 : decode cX4_init 37 = .ok (.return_, 1) := by decide +kernel
theorem dX4_renew_0 : decode cX4_renew 0 = .ok (.aload_n 0, 1) := by decide +kernel
theorem dX4_renew_1 : decode cX4_renew 1 = .ok (.getfield 18, 3) := by decide +kernel
theorem dX4_renew_4 : decode cX4_renew 4 = .ok (.invokevirtual 24, 3) := by decide +kernel
theorem dX4_renew_7 : decode cX4_renew 7 = .ok (.aload_n 0, 1) := by decide +kernel
theorem dX4_renew_8 : decode cX4_renew 8 = .ok (.getfield 21, 3) := by decide +kernel
theorem dX4_renew_11 : decode cX4_renew 11 = .ok (.invokevirtual 24, 3) := by decide +kernel
theorem dX4_renew_14 : decode cX4_renew 14 = .ok (.aload_n 0, 1) := by decide +kernel
theorem dX4_renew_15 : decode cX4_renew 15 = .ok (.getfield 12, 3) := by decide +kernel
theorem dX4_renew_18 : decode cX4_renew 18 = .ok (.aload_n 1, 1) := by decide +kernel
theorem dX4_renew_19 : decode cX4_renew 19 = .ok (.invokevirtual 27, 3) := by decide +kernel
theorem dX4_renew_22 : decode cX4_renew 22 = .ok (.aload_n 0, 1) := by decide +kernel
theorem dX4_renew_23 : decode cX4_renew 23 = .ok (.iconst 0, 1) := by decide +kernel
theorem dX4_renew_24 : decode cX4_renew 24 = .ok (.putfield 31, 3) := by decide +kernel
theorem dX4_renew_27 : decode cX4_renew 27 = .ok (.return_, 1) := by decide +kernel
theorem dX4_wipe_0 : decode cX4_wipe 0 = .ok (.iconst 0, 1) := by decide +kernel
theorem dX4_wipe_1 : decode cX4_wipe 1 = .ok (.istore_n 2, 1) := by decide +kernel
theorem dX4_wipe_2 : decode cX4_wipe 2 = .ok (.iload_n 2, 1) := by decide +kernel
theorem dX4_wipe_3 : decode cX4_wipe 3 = .ok (.bipush 34, 2) := by decide +kernel
theorem dX4_wipe_5 : decode cX4_wipe 5 = .ok (.if_icmp .ge 41, 3) := by decide +kernel
theorem dX4_wipe_8 : decode cX4_wipe 8 = .ok (.aload_n 0, 1) := by decide +kernel
theorem dX4_wipe_9 : decode cX4_wipe 9 = .ok (.getfield 12, 3) := by decide +kernel
theorem dX4_wipe_12 : decode cX4_wipe 12 = .ok (.getfield 35, 3) := by decide +kernel
theorem dX4_wipe_15 : decode cX4_wipe 15 = .ok (.iload_n 2, 1) := by decide +kernel
theorem dX4_wipe_16 : decode cX4_wipe 16 = .ok (.dup2, 1) := by decide +kernel
theorem dX4_wipe_17 : decode cX4_wipe 17 = .ok (.laload, 1) := by decide +kernel
theorem dX4_wipe_18 : decode cX4_wipe 18 = .ok (.aload_n 1, 1) := by decide +kernel
theorem dX4_wipe_19 : decode cX4_wipe 19 = .ok (.getfield 35, 3) := by decide +kernel
theorem dX4_wipe_22 : decode cX4_wipe 22 = .ok (.iload_n 2, 1) := by decide +kernel
theorem dX4_wipe_23 : decode cX4_wipe 23 = .ok (.laload, 1) := by decide +kernel
theorem dX4_wipe_24 : decode cX4_wipe 24 = .ok (.aload_n 0, 1) := by decide +kernel
theorem dX4_wipe_25 : decode cX4_wipe 25 = .ok (.getfield 18, 3) := by decide +kernel
theorem dX4_wipe_28 : decode cX4_wipe 28 = .ok (.getfield 35, 3) := by decide +kernel
theorem dX4_wipe_31 : decode cX4_wipe 31 = .ok (.iload_n 2, 1) := by decide +kernel
theorem dX4_wipe_32 : decode cX4_wipe 32 = .ok (.laload, 1) := by decide +kernel
theorem dX4_wipe_33 : decode cX4_wipe 33 = .ok (.ldc2_w 39, 3) := by decide +kernel
theorem dX4_wipe_36 : decode cX4_wipe 36 = .ok (.lxor, 1) := by decide +kernel
theorem dX4_wipe_37 : decode cX4_wipe 37 = .ok (.land, 1) := by decide +kernel
theorem dX4_wipe_38 : decode cX4_wipe 38 = .ok (.lor, 1) := by decide +kernel
theorem dX4_wipe_39 : decode cX4_wipe 39 = .ok (.lastore, 1) := by decide +kernel
theorem dX4_wipe_40 : decode cX4_wipe 40 = .ok (.iinc 2 1, 3) := by decide +kernel
theorem dX4_wipe_43 : decode cX4_wipe 43 = .ok (.goto (-41), 3) := by decide +kernel
theorem dX4_wipe_46 : decode cX4_wipe 46 = .ok (.aload_n 0, 1) := by decide +kernel
theorem dX4_wipe_47 : decode cX4_wipe 47 = .ok (.getfield 21, 3) := by decide +kernel
theorem dX4_wipe_50 : decode cX4_wipe 50 = .ok (.invokevirtual 24, 3) := by decide +kernel
theorem dX4_wipe_53 : decode cX4_wipe 53 = .ok (.aload_n 0, 1) := by decide +kernel
theorem dX4_wipe_54 : decode cX4_wipe 54 = .ok (.dup, 1) := by decide +kernel
theorem dX4_wipe_55 : decode cX4_wipe 55 = .ok (.getfield 31, 3) := by decide +kernel
theorem dX4_wipe_58 : decode cX4_wipe 58 = .ok (.iconst 1, 1) := by decide +kernel
theorem dX4_wipe_59 : decode cX4_wipe 59 = .ok (.iadd, 1) := by decide +kernel
theorem dX4_wipe_60 : decode cX4_wipe 60 = .ok (.putfield 31, 3) := by decide +kernel
theorem dX4_wipe_63 : decode cX4_wipe 63 = .ok (.return_, 1) := by decide +kernel
theorem dX4_program_0 : decode cX4_program 0 = .ok (.iconst 0, 1) := by decide +kernel
theorem dX4_program_1 : decode cX4_program 1 = .ok (.istore_n 2, 1) := by decide +kernel
theorem dX4_program_2 : decode cX4_program 2 = .ok (.iload_n 2, 1) := by decide +kernel
theorem dX4_program_3 : decode cX4_program 3 = .ok (.bipush 34, 2) := by decide +kernel
theorem dX4_program_5 : decode cX4_program 5 = .ok (.if_icmp .ge 37, 3) := by decide +kernel
theorem dX4_program_8 : decode cX4_program 8 = .ok (.aload_n 0, 1) := by decide +kernel
theorem dX4_program_9 : decode cX4_program 9 = .ok (.getfield 12, 3) := by decide +kernel
theorem dX4_program_12 : decode cX4_program 12 = .ok (.getfield 35, 3) := by decide +kernel
theorem dX4_program_15 : decode cX4_program 15 = .ok (.iload_n 2, 1) := by decide +kernel
theorem dX4_program_16 : decode cX4_program 16 = .ok (.dup2, 1) := by decide +kernel
theorem dX4_program_17 : decode cX4_program 17 = .ok (.laload, 1) := by decide +kernel
theorem dX4_program_18 : decode cX4_program 18 = .ok (.aload_n 1, 1) := by decide +kernel
theorem dX4_program_19 : decode cX4_program 19 = .ok (.getfield 35, 3) := by decide +kernel
theorem dX4_program_22 : decode cX4_program 22 = .ok (.iload_n 2, 1) := by decide +kernel
theorem dX4_program_23 : decode cX4_program 23 = .ok (.laload, 1) := by decide +kernel
theorem dX4_program_24 : decode cX4_program 24 = .ok (.aload_n 0, 1) := by decide +kernel
theorem dX4_program_25 : decode cX4_program 25 = .ok (.getfield 18, 3) := by decide +kernel
theorem dX4_program_28 : decode cX4_program 28 = .ok (.getfield 35, 3) := by decide +kernel
theorem dX4_program_31 : decode cX4_program 31 = .ok (.iload_n 2, 1) := by decide +kernel
theorem dX4_program_32 : decode cX4_program 32 = .ok (.laload, 1) := by decide +kernel
theorem dX4_program_33 : decode cX4_program 33 = .ok (.lor, 1) := by decide +kernel
theorem dX4_program_34 : decode cX4_program 34 = .ok (.land, 1) := by decide +kernel
theorem dX4_program_35 : decode cX4_program 35 = .ok (.lastore, 1) := by decide +kernel
theorem dX4_program_36 : decode cX4_program 36 = .ok (.iinc 2 1, 3) := by decide +kernel
theorem dX4_program_39 : decode cX4_program 39 = .ok (.goto (-37), 3) := by decide +kernel
theorem dX4_program_42 : decode cX4_program 42 = .ok (.aload_n 0, 1) := by decide +kernel
theorem dX4_program_43 : decode cX4_program 43 = .ok (.getfield 12, 3) := by decide +kernel
theorem dX4_program_46 : decode cX4_program 46 = .ok (.aload_n 1, 1) := by decide +kernel
theorem dX4_program_47 : decode cX4_program 47 = .ok (.invokevirtual 41, 3) := by decide +kernel
theorem dX4_program_50 : decode cX4_program 50 = .ok (.ireturn, 1) := by decide +kernel
theorem dX4_turn_0 : decode cX4_turn 0 = .ok (.aload_n 0, 1) := by decide +kernel
theorem dX4_turn_1 : decode cX4_turn 1 = .ok (.getfield 18, 3) := by decide +kernel
theorem dX4_turn_4 : decode cX4_turn 4 = .ok (.iload_n 1, 1) := by decide +kernel
theorem dX4_turn_5 : decode cX4_turn 5 = .ok (.invokevirtual 45, 3) := by decide +kernel
theorem dX4_turn_8 : decode cX4_turn 8 = .ok (.ifCond .ne 21, 3) := by decide +kernel
theorem dX4_turn_11 : decode cX4_turn 11 = .ok (.aload_n 0, 1) := by decide +kernel
theorem dX4_turn_12 : decode cX4_turn 12 = .ok (.getfield 12, 3) := by decide +kernel
theorem dX4_turn_15 : decode cX4_turn 15 = .ok (.iload_n 1, 1) := by decide +kernel
theorem dX4_turn_16 : decode cX4_turn 16 = .ok (.iconst 1, 1) := by decide +kernel
theorem dX4_turn_17 : decode cX4_turn 17 = .ok (.aload_n 0, 1) := by decide +kernel
theorem dX4_turn_18 : decode cX4_turn 18 = .ok (.getfield 12, 3) := by decide +kernel
theorem dX4_turn_21 : decode cX4_turn 21 = .ok (.iload_n 1, 1) := by decide +kernel
theorem dX4_turn_22 : decode cX4_turn 22 = .ok (.invokevirtual 45, 3) := by decide +kernel
theorem dX4_turn_25 : decode cX4_turn 25 = .ok (.isub, 1) := by decide +kernel
theorem dX4_turn_26 : decode cX4_turn 26 = .ok (.invokevirtual 49, 3) := by decide +kernel
theorem dX4_turn_29 : decode cX4_turn 29 = .ok (.aload_n 0, 1) := by decide +kernel
theorem dX4_turn_30 : decode cX4_turn 30 = .ok (.getfield 12, 3) := by decide +kernel
theorem dX4_turn_33 : decode cX4_turn 33 = .ok (.iload_n 1, 1) := by decide +kernel
theorem dX4_turn_34 : decode cX4_turn 34 = .ok (.invokevirtual 45, 3) := by decide +kernel
theorem dX4_turn_37 : decode cX4_turn 37 = .ok (.ireturn, 1) := by decide +kernel
theorem dX4_hold_0 : decode cX4_hold 0 = .ok (.iload_n 2, 1) := by decide +kernel
theorem dX4_hold_1 : decode cX4_hold 1 = .ok (.iconst (-1), 1) := by decide +kernel
theorem dX4_hold_2 : decode cX4_hold 2 = .ok (.if_icmp .ne 15, 3) := by decide +kernel
theorem dX4_hold_5 : decode cX4_hold 5 = .ok (.aload_n 0, 1) := by decide +kernel
theorem dX4_hold_6 : decode cX4_hold 6 = .ok (.getfield 18, 3) := by decide +kernel
theorem dX4_hold_9 : decode cX4_hold 9 = .ok (.iload_n 1, 1) := by decide +kernel
theorem dX4_hold_10 : decode cX4_hold 10 = .ok (.iconst 0, 1) := by decide +kernel
theorem dX4_hold_11 : decode cX4_hold 11 = .ok (.invokevirtual 49, 3) := by decide +kernel
theorem dX4_hold_14 : decode cX4_hold 14 = .ok (.goto 21, 3) := by decide +kernel
theorem dX4_hold_17 : decode cX4_hold 17 = .ok (.aload_n 0, 1) := by decide +kernel
theorem dX4_hold_18 : decode cX4_hold 18 = .ok (.getfield 18, 3) := by decide +kernel
theorem dX4_hold_21 : decode cX4_hold 21 = .ok (.iload_n 1, 1) := by decide +kernel
theorem dX4_hold_22 : decode cX4_hold 22 = .ok (.iconst 1, 1) := by decide +kernel
theorem dX4_hold_23 : decode cX4_hold 23 = .ok (.invokevirtual 49, 3) := by decide +kernel
theorem dX4_hold_26 : decode cX4_hold 26 = .ok (.aload_n 0, 1) := by decide +kernel
theorem dX4_hold_27 : decode cX4_hold 27 = .ok (.getfield 12, 3) := by decide +kernel
theorem dX4_hold_30 : decode cX4_hold 30 = .ok (.iload_n 1, 1) := by decide +kernel
theorem dX4_hold_31 : decode cX4_hold 31 = .ok (.iload_n 2, 1) := by decide +kernel
theorem dX4_hold_32 : decode cX4_hold 32 = .ok (.invokevirtual 49, 3) := by decide +kernel
theorem dX4_hold_35 : decode cX4_hold 35 = .ok (.return_, 1) := by decide +kernel
theorem dX5_init_0 : decode cX5_init 0 = .ok (.aload_n 0, 1) := by decide +kernel
theorem dX5_init_1 : decode cX5_init 1 = .ok (.invokespecial 3, 3) := by decide +kernel
theorem dX5_init_4 : decode cX5_init 4 = .ok (.aload_n 0, 1) := by decide +kernel
theorem dX5_init_5 : decode cX5_init 5 = .ok (.bipush 34, 2) := by decide +kernel
theorem dX5_init_7 : decode cX5_init 7 = .ok (.newarray .long, 2) := by decide +kernel
theorem dX5_init_9 : decode cX5_init 9 = .ok (.putfield 9, 3) := by decide +kernel
theorem dX5_init_12 : decode cX5_init 12 = .ok (.return_, 1) := by decide +kernel
theorem dX5_at_0 : decode cX5_at 0 = .ok (.aload_n 0, 1) := by decide +kernel
theorem dX5_at_1 : decode cX5_at 1 = .ok (.getfield 9, 3) := by decide +kernel
theorem dX5_at_4 : decode cX5_at 4 = .ok (.iload_n 1, 1) := by decide +kernel
theorem dX5_at_5 : decode cX5_at 5 = .ok (.bipush 6, 2) := by decide +kernel
theorem dX5_at_7 : decode cX5_at 7 = .ok (.ishr, 1) := by decide +kernel
theorem dX5_at_8 : decode cX5_at 8 = .ok (.laload, 1) := by decide +kernel
theorem dX5_at_9 : decode cX5_at 9 = .ok (.bipush 63, 2) := by decide +kernel
theorem dX5_at_11 : decode cX5_at 11 = .ok (.iload_n 1, 1) := by decide +kernel
theorem dX5_at_12 : decode cX5_at 12 = .ok (.bipush 63, 2) := by decide +kernel
theorem dX5_at_14 : decode cX5_at 14 = .ok (.iand, 1) := by decide +kernel
theorem dX5_at_15 : decode cX5_at 15 = .ok (.isub, 1) := by decide +kernel
theorem dX5_at_16 : decode cX5_at 16 = .ok (.lushr, 1) := by decide +kernel
theorem dX5_at_17 : decode cX5_at 17 = .ok (.l2i, 1) := by decide +kernel
theorem dX5_at_18 : decode cX5_at 18 = .ok (.iconst 1, 1) := by decide +kernel
theorem dX5_at_19 : decode cX5_at 19 = .ok (.iand, 1) := by decide +kernel
theorem dX5_at_20 : decode cX5_at 20 = .ok (.ireturn, 1) := by decide +kernel
theorem dX5_set_0 : decode cX5_set 0 = .ok (.lconst 1, 1) := by decide +kernel
theorem dX5_set_1 : decode cX5_set 1 = .ok (.bipush 63, 2) := by decide +kernel
theorem dX5_set_3 : decode cX5_set 3 = .ok (.iload_n 1, 1) := by decide +kernel
theorem dX5_set_4 : decode cX5_set 4 = .ok (.bipush 63, 2) := by decide +kernel
theorem dX5_set_6 : decode cX5_set 6 = .ok (.iand, 1) := by decide +kernel
theorem dX5_set_7 : decode cX5_set 7 = .ok (.isub, 1) := by decide +kernel
theorem dX5_set_8 : decode cX5_set 8 = .ok (.lshl, 1) := by decide +kernel
theorem dX5_set_9 : decode cX5_set 9 = .ok (.lstore_n 3, 1) := by decide +kernel
theorem dX5_set_10 : decode cX5_set 10 = .ok (.iload_n 2, 1) := by decide +kernel
theorem dX5_set_11 : decode cX5_set 11 = .ok (.ifCond .ne 23, 3) := by decide +kernel
theorem dX5_set_14 : decode cX5_set 14 = .ok (.aload_n 0, 1) := by decide +kernel
theorem dX5_set_15 : decode cX5_set 15 = .ok (.getfield 9, 3) := by decide +kernel
theorem dX5_set_18 : decode cX5_set 18 = .ok (.iload_n 1, 1) := by decide +kernel
theorem dX5_set_19 : decode cX5_set 19 = .ok (.bipush 6, 2) := by decide +kernel
theorem dX5_set_21 : decode cX5_set 21 = .ok (.ishr, 1) := by decide +kernel
theorem dX5_set_22 : decode cX5_set 22 = .ok (.dup2, 1) := by decide +kernel
theorem dX5_set_23 : decode cX5_set 23 = .ok (.laload, 1) := by decide +kernel
theorem dX5_set_24 : decode cX5_set 24 = .ok (.lload_n 3, 1) := by decide +kernel
theorem dX5_set_25 : decode cX5_set 25 = .ok (.ldc2_w 15, 3) := by decide +kernel
theorem dX5_set_28 : decode cX5_set 28 = .ok (.lxor, 1) := by decide +kernel
theorem dX5_set_29 : decode cX5_set 29 = .ok (.land, 1) := by decide +kernel
theorem dX5_set_30 : decode cX5_set 30 = .ok (.lastore, 1) := by decide +kernel
theorem dX5_set_31 : decode cX5_set 31 = .ok (.goto 16, 3) := by decide +kernel
theorem dX5_set_34 : decode cX5_set 34 = .ok (.aload_n 0, 1) := by decide +kernel
theorem dX5_set_35 : decode cX5_set 35 = .ok (.getfield 9, 3) := by decide +kernel
theorem dX5_set_38 : decode cX5_set 38 = .ok (.iload_n 1, 1) := by decide +kernel
theorem dX5_set_39 : decode cX5_set 39 = .ok (.bipush 6, 2) := by decide +kernel
theorem dX5_set_41 : decode cX5_set 41 = .ok (.ishr, 1) := by decide +kernel
theorem dX5_set_42 : decode cX5_set 42 = .ok (.dup2, 1) := by decide +kernel
theorem dX5_set_43 : decode cX5_set 43 = .ok (.laload, 1) := by decide +kernel
theorem dX5_set_44 : decode cX5_set 44 = .ok (.lload_n 3, 1) := by decide +kernel
theorem dX5_set_45 : decode cX5_set 45 = .ok (.lor, 1) := by decide +kernel
theorem dX5_set_46 : decode cX5_set 46 = .ok (.lastore, 1) := by decide +kernel
theorem dX5_set_47 : decode cX5_set 47 = .ok (.return_, 1) := by decide +kernel
theorem dX5_byteAt_0 : decode cX5_byteAt 0 = .ok (.aload_n 0, 1) := by decide +kernel
theorem dX5_byteAt_1 : decode cX5_byteAt 1 = .ok (.getfield 9, 3) := by decide +kernel
theorem dX5_byteAt_4 : decode cX5_byteAt 4 = .ok (.iload_n 1, 1) := by decide +kernel
theorem dX5_byteAt_5 : decode cX5_byteAt 5 = .ok (.iconst 3, 1) := by decide +kernel
theorem dX5_byteAt_6 : decode cX5_byteAt 6 = .ok (.ishr, 1) := by decide +kernel
theorem dX5_byteAt_7 : decode cX5_byteAt 7 = .ok (.laload, 1) := by decide +kernel
theorem dX5_byteAt_8 : decode cX5_byteAt 8 = .ok (.bipush 56, 2) := by decide +kernel
theorem dX5_byteAt_10 : decode cX5_byteAt 10 = .ok (.bipush 8, 2) := by decide +kernel
theorem dX5_byteAt_12 : decode cX5_byteAt 12 = .ok (.iload_n 1, 1) := by decide +kernel
theorem dX5_byteAt_13 : decode cX5_byteAt 13 = .ok (.bipush 7, 2) := by decide +kernel
theorem dX5_byteAt_15 : decode cX5_byteAt 15 = .ok (.iand, 1) := by decide +kernel
theorem dX5_byteAt_16 : decode cX5_byteAt 16 = .ok (.imul, 1) := by decide +kernel
theorem dX5_byteAt_17 : decode cX5_byteAt 17 = .ok (.isub, 1) := by decide +kernel
theorem dX5_byteAt_18 : decode cX5_byteAt 18 = .ok (.lushr, 1) := by decide +kernel
theorem dX5_byteAt_19 : decode cX5_byteAt 19 = .ok (.l2i, 1) := by decide +kernel
theorem dX5_byteAt_20 : decode cX5_byteAt 20 = .ok (.sipush 255, 3) := by decide +kernel
theorem dX5_byteAt_23 : decode cX5_byteAt 23 = .ok (.iand, 1) := by decide +kernel
theorem dX5_byteAt_24 : decode cX5_byteAt 24 = .ok (.ireturn, 1) := by decide +kernel
theorem dX5_setByte_0 : decode cX5_setByte 0 = .ok (.bipush 56, 2) := by decide +kernel
theorem dX5_setByte_2 : decode cX5_setByte 2 = .ok (.bipush 8, 2) := by decide +kernel
theorem dX5_setByte_4 : decode cX5_setByte 4 = .ok (.iload_n 1, 1) := by decide +kernel
theorem dX5_setByte_5 : decode cX5_setByte 5 = .ok (.bipush 7, 2) := by decide +kernel
theorem dX5_setByte_7 : decode cX5_setByte 7 = .ok (.iand, 1) := by decide +kernel
theorem dX5_setByte_8 : decode cX5_setByte 8 = .ok (.imul, 1) := by decide +kernel
theorem dX5_setByte_9 : decode cX5_setByte 9 = .ok (.isub, 1) := by decide +kernel
theorem dX5_setByte_10 : decode cX5_setByte 10 = .ok (.istore_n 3, 1) := by decide +kernel
theorem dX5_setByte_11 : decode cX5_setByte 11 = .ok (.aload_n 0, 1) := by decide +kernel
theorem dX5_setByte_12 : decode cX5_setByte 12 = .ok (.getfield 9, 3) := by decide +kernel
theorem dX5_setByte_15 : decode cX5_setByte 15 = .ok (.iload_n 1, 1) := by decide +kernel
theorem dX5_setByte_16 : decode cX5_setByte 16 = .ok (.iconst 3, 1) := by decide +kernel
theorem dX5_setByte_17 : decode cX5_setByte 17 = .ok (.ishr, 1) := by decide +kernel
theorem dX5_setByte_18 : decode cX5_setByte 18 = .ok (.aload_n 0, 1) := by decide +kernel
theorem dX5_setByte_19 : decode cX5_setByte 19 = .ok (.getfield 9, 3) := by decide +kernel
theorem dX5_setByte_22 : decode cX5_setByte 22 = .ok (.iload_n 1, 1) := by decide +kernel
theorem dX5_setByte_23 : decode cX5_setByte 23 = .ok (.iconst 3, 1) := by decide +kernel
theorem dX5_setByte_24 : decode cX5_setByte 24 = .ok (.ishr, 1) := by decide +kernel
theorem dX5_setByte_25 : decode cX5_setByte 25 = .ok (.laload, 1) := by decide +kernel
theorem dX5_setByte_26 : decode cX5_setByte 26 = .ok (.ldc2_w 17, 3) := by decide +kernel
theorem dX5_setByte_29 : decode cX5_setByte 29 = .ok (.iload_n 3, 1) := by decide +kernel
theorem dX5_setByte_30 : decode cX5_setByte 30 = .ok (.lshl, 1) := by decide +kernel
theorem dX5_setByte_31 : decode cX5_setByte 31 = .ok (.ldc2_w 15, 3) := by decide +kernel
theorem dX5_setByte_34 : decode cX5_setByte 34 = .ok (.lxor, 1) := by decide +kernel
theorem dX5_setByte_35 : decode cX5_setByte 35 = .ok (.land, 1) := by decide +kernel
theorem dX5_setByte_36 : decode cX5_setByte 36 = .ok (.iload_n 2, 1) := by decide +kernel
theorem dX5_setByte_37 : decode cX5_setByte 37 = .ok (.i2l, 1) := by decide +kernel
theorem dX5_setByte_38 : decode cX5_setByte 38 = .ok (.iload_n 3, 1) := by decide +kernel
theorem dX5_setByte_39 : decode cX5_setByte 39 = .ok (.lshl, 1) := by decide +kernel
theorem dX5_setByte_40 : decode cX5_setByte 40 = .ok (.lor, 1) := by decide +kernel
theorem dX5_setByte_41 : decode cX5_setByte 41 = .ok (.lastore, 1) := by decide +kernel
theorem dX5_setByte_42 : decode cX5_setByte 42 = .ok (.return_, 1) := by decide +kernel
theorem dX5_ones_0 : decode cX5_ones 0 = .ok (.iconst 0, 1) := by decide +kernel
theorem dX5_ones_1 : decode cX5_ones 1 = .ok (.istore_n 1, 1) := by decide +kernel
theorem dX5_ones_2 : decode cX5_ones 2 = .ok (.iconst 0, 1) := by decide +kernel
theorem dX5_ones_3 : decode cX5_ones 3 = .ok (.istore_n 2, 1) := by decide +kernel
theorem dX5_ones_4 : decode cX5_ones 4 = .ok (.iload_n 2, 1) := by decide +kernel
theorem dX5_ones_5 : decode cX5_ones 5 = .ok (.bipush 34, 2) := by decide +kernel
theorem dX5_ones_7 : decode cX5_ones 7 = .ok (.if_icmp .ge 21, 3) := by decide +kernel
theorem dX5_ones_10 : decode cX5_ones 10 = .ok (.iload_n 1, 1) := by decide +kernel
theorem dX5_ones_11 : decode cX5_ones 11 = .ok (.aload_n 0, 1) := by decide +kernel
theorem dX5_ones_12 : decode cX5_ones 12 = .ok (.getfield 9, 3) := by decide +kernel
theorem dX5_ones_15 : decode cX5_ones 15 = .ok (.iload_n 2, 1) := by decide +kernel
theorem dX5_ones_16 : decode cX5_ones 16 = .ok (.laload, 1) := by decide +kernel
theorem dX5_ones_17 : decode cX5_ones 17 = .ok (.invokestatic 19, 3) := by decide +kernel
theorem dX5_ones_20 : decode cX5_ones 20 = .ok (.iadd, 1) := by decide +kernel
theorem dX5_ones_21 : decode cX5_ones 21 = .ok (.istore_n 1, 1) := by decide +kernel
theorem dX5_ones_22 : decode cX5_ones 22 = .ok (.iinc 2 1, 3) := by decide +kernel
theorem dX5_ones_25 : decode cX5_ones 25 = .ok (.goto (-21), 3) := by decide +kernel
theorem dX5_ones_28 : decode cX5_ones 28 = .ok (.iload_n 1, 1) := by decide +kernel
theorem dX5_ones_29 : decode cX5_ones 29 = .ok (.ireturn, 1) := by decide +kernel
theorem dX5_apart_0 : decode cX5_apart 0 = .ok (.iconst 0, 1) := by decide +kernel
