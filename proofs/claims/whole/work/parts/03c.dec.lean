theorem dA_init_0 : decode cA_init 0 = .ok (.aload_n 0, 1) := by decide +kernel
theorem dA_init_1 : decode cA_init 1 = .ok (.invokespecial 5, 3) := by decide +kernel
theorem dA_init_4 : decode cA_init 4 = .ok (.aload_n 0, 1) := by decide +kernel
theorem dA_init_5 : decode cA_init 5 = .ok (.bipush 64, 2) := by decide +kernel
theorem dA_init_7 : decode cA_init 7 = .ok (.newarray .long, 2) := by decide +kernel
theorem dA_init_9 : decode cA_init 9 = .ok (.putfield 11, 3) := by decide +kernel
theorem dA_init_12 : decode cA_init 12 = .ok (.aload_n 0, 1) := by decide +kernel
theorem dA_init_13 : decode cA_init 13 = .ok (.iconst 0, 1) := by decide +kernel
theorem dA_init_14 : decode cA_init 14 = .ok (.putfield 17, 3) := by decide +kernel
theorem dA_init_17 : decode cA_init 17 = .ok (.aload_n 0, 1) := by decide +kernel
theorem dA_init_18 : decode cA_init 18 = .ok (.bipush 64, 2) := by decide +kernel
theorem dA_init_20 : decode cA_init 20 = .ok (.newarray .int, 2) := by decide +kernel
theorem dA_init_22 : decode cA_init 22 = .ok (.putfield 21, 3) := by decide +kernel
theorem dA_init_25 : decode cA_init 25 = .ok (.aload_n 0, 1) := by decide +kernel
theorem dA_init_26 : decode cA_init 26 = .ok (.iconst (-1), 1) := by decide +kernel
theorem dA_init_27 : decode cA_init 27 = .ok (.putfield 25, 3) := by decide +kernel
theorem dA_init_30 : decode cA_init 30 = .ok (.return_, 1) := by decide +kernel
theorem dA_find_0 : decode cA_find 0 = .ok (.aload_n 0, 1) := by decide +kernel
theorem dA_find_1 : decode cA_find 1 = .ok (.aload_n 1, 1) := by decide +kernel
theorem dA_find_2 : decode cA_find 2 = .ok (.invokevirtual 28, 3) := by decide +kernel
theorem dA_find_5 : decode cA_find 5 = .ok (.aload_n 0, 1) := by decide +kernel
theorem dA_find_6 : decode cA_find 6 = .ok (.aload_n 1, 1) := by decide +kernel
theorem dA_find_7 : decode cA_find 7 = .ok (.invokevirtual 32, 3) := by decide +kernel
theorem dA_find_10 : decode cA_find 10 = .ok (.aload_n 0, 1) := by decide +kernel
theorem dA_find_11 : decode cA_find 11 = .ok (.aload_n 1, 1) := by decide +kernel
theorem dA_find_12 : decode cA_find 12 = .ok (.getfield 35, 3) := by decide +kernel
theorem dA_find_15 : decode cA_find 15 = .ok (.invokevirtual 38, 3) := by decide +kernel
theorem dA_find_18 : decode cA_find 18 = .ok (.aload_n 0, 1) := by decide +kernel
theorem dA_find_19 : decode cA_find 19 = .ok (.invokevirtual 42, 3) := by decide +kernel
theorem dA_find_22 : decode cA_find 22 = .ok (.ifCond .eq 11, 3) := by decide +kernel
theorem dA_find_25 : decode cA_find 25 = .ok (.aload_n 0, 1) := by decide +kernel
theorem dA_find_26 : decode cA_find 26 = .ok (.aload_n 1, 1) := by decide +kernel
theorem dA_find_27 : decode cA_find 27 = .ok (.invokevirtual 46, 3) := by decide +kernel
theorem dA_find_30 : decode cA_find 30 = .ok (.goto 8, 3) := by decide +kernel
theorem dA_find_33 : decode cA_find 33 = .ok (.aload_n 0, 1) := by decide +kernel
theorem dA_find_34 : decode cA_find 34 = .ok (.aload_n 1, 1) := by decide +kernel
theorem dA_find_35 : decode cA_find 35 = .ok (.invokevirtual 49, 3) := by decide +kernel
theorem dA_find_38 : decode cA_find 38 = .ok (.return_, 1) := by decide +kernel
theorem dA_findNear_0 : decode cA_findNear 0 = .ok (.aload_n 0, 1) := by decide +kernel
theorem dA_findNear_1 : decode cA_findNear 1 = .ok (.getfield 11, 3) := by decide +kernel
theorem dA_findNear_4 : decode cA_findNear 4 = .ok (.iconst 0, 1) := by decide +kernel
theorem dA_findNear_5 : decode cA_findNear 5 = .ok (.aload_n 1, 1) := by decide +kernel
theorem dA_findNear_6 : decode cA_findNear 6 = .ok (.getfield 62, 3) := by decide +kernel
theorem dA_findNear_9 : decode cA_findNear 9 = .ok (.lastore, 1) := by decide +kernel
theorem dA_findNear_10 : decode cA_findNear 10 = .ok (.aload_n 0, 1) := by decide +kernel
theorem dA_findNear_11 : decode cA_findNear 11 = .ok (.iconst 1, 1) := by decide +kernel
theorem dA_findNear_12 : decode cA_findNear 12 = .ok (.putfield 17, 3) := by decide +kernel
theorem dA_findNear_15 : decode cA_findNear 15 = .ok (.iconst 1, 1) := by decide +kernel
theorem dA_findNear_16 : decode cA_findNear 16 = .ok (.istore_n 2, 1) := by decide +kernel
theorem dA_findNear_17 : decode cA_findNear 17 = .ok (.iload_n 2, 1) := by decide +kernel
theorem dA_findNear_18 : decode cA_findNear 18 = .ok (.aload_n 0, 1) := by decide +kernel
theorem dA_findNear_19 : decode cA_findNear 19 = .ok (.getfield 11, 3) := by decide +kernel
theorem dA_findNear_22 : decode cA_findNear 22 = .ok (.arraylength, 1) := by decide +kernel
theorem dA_findNear_23 : decode cA_findNear 23 = .ok (.if_icmp .ge 59, 3) := by decide +kernel
theorem dA_findNear_26 : decode cA_findNear 26 = .ok (.aload_n 0, 1) := by decide +kernel
theorem dA_findNear_27 : decode cA_findNear 27 = .ok (.getfield 11, 3) := by decide +kernel
theorem dA_findNear_30 : decode cA_findNear 30 = .ok (.iload_n 2, 1) := by decide +kernel
theorem dA_findNear_31 : decode cA_findNear 31 = .ok (.iconst 1, 1) := by decide +kernel
theorem dA_findNear_32 : decode cA_findNear 32 = .ok (.isub, 1) := by decide +kernel
theorem dA_findNear_33 : decode cA_findNear 33 = .ok (.laload, 1) := by decide +kernel
theorem dA_findNear_34 : decode cA_findNear 34 = .ok (.aload_n 1, 1) := by decide +kernel
theorem dA_findNear_35 : decode cA_findNear 35 = .ok (.aload_n 0, 1) := by decide +kernel
theorem dA_findNear_36 : decode cA_findNear 36 = .ok (.getfield 11, 3) := by decide +kernel
theorem dA_findNear_39 : decode cA_findNear 39 = .ok (.iload_n 2, 1) := by decide +kernel
theorem dA_findNear_40 : decode cA_findNear 40 = .ok (.iconst 1, 1) := by decide +kernel
theorem dA_findNear_41 : decode cA_findNear 41 = .ok (.isub, 1) := by decide +kernel
theorem dA_findNear_42 : decode cA_findNear 42 = .ok (.laload, 1) := by decide +kernel
theorem dA_findNear_43 : decode cA_findNear 43 = .ok (.invokevirtual 66, 3) := by decide +kernel
theorem dA_findNear_46 : decode cA_findNear 46 = .ok (.lor, 1) := by decide +kernel
theorem dA_findNear_47 : decode cA_findNear 47 = .ok (.lstore_n 3, 1) := by decide +kernel
theorem dA_findNear_48 : decode cA_findNear 48 = .ok (.lload_n 3, 1) := by decide +kernel
theorem dA_findNear_49 : decode cA_findNear 49 = .ok (.aload_n 0, 1) := by decide +kernel
theorem dA_findNear_50 : decode cA_findNear 50 = .ok (.getfield 11, 3) := by decide +kernel
theorem dA_findNear_53 : decode cA_findNear 53 = .ok (.iload_n 2, 1) := by decide +kernel
theorem dA_findNear_54 : decode cA_findNear 54 = .ok (.iconst 1, 1) := by decide +kernel
theorem dA_findNear_55 : decode cA_findNear 55 = .ok (.isub, 1) := by decide +kernel
theorem dA_findNear_56 : decode cA_findNear 56 = .ok (.laload, 1) := by decide +kernel
theorem dA_findNear_57 : decode cA_findNear 57 = .ok (.lcmp, 1) := by decide +kernel
theorem dA_findNear_58 : decode cA_findNear 58 = .ok (.ifCond .ne 4, 3) := by decide +kernel
theorem dA_findNear_61 : decode cA_findNear 61 = .ok (.return_, 1) := by decide +kernel
theorem dA_findNear_62 : decode cA_findNear 62 = .ok (.aload_n 0, 1) := by decide +kernel
theorem dA_findNear_63 : decode cA_findNear 63 = .ok (.getfield 11, 3) := by decide +kernel
theorem dA_findNear_66 : decode cA_findNear 66 = .ok (.iload_n 2, 1) := by decide +kernel
theorem dA_findNear_67 : decode cA_findNear 67 = .ok (.lload_n 3, 1) := by decide +kernel
theorem dA_findNear_68 : decode cA_findNear 68 = .ok (.lastore, 1) := by decide +kernel
theorem dA_findNear_69 : decode cA_findNear 69 = .ok (.aload_n 0, 1) := by decide +kernel
theorem dA_findNear_70 : decode cA_findNear 70 = .ok (.iload_n 2, 1) := by decide +kernel
theorem dA_findNear_71 : decode cA_findNear 71 = .ok (.iconst 1, 1) := by decide +kernel
theorem dA_findNear_72 : decode cA_findNear 72 = .ok (.iadd, 1) := by decide +kernel
theorem dA_findNear_73 : decode cA_findNear 73 = .ok (.putfield 17, 3) := by decide +kernel
theorem dA_findNear_76 : decode cA_findNear 76 = .ok (.iinc 2 1, 3) := by decide +kernel
theorem dA_findNear_79 : decode cA_findNear 79 = .ok (.goto (-62), 3) := by decide +kernel
theorem dA_findNear_82 : decode cA_findNear 82 = .ok (.return_, 1) := by decide +kernel
theorem dA_findReached_0 : decode cA_findReached 0 = .ok (.aload_n 0, 1) := by decide +kernel
theorem dA_findReached_1 : decode cA_findReached 1 = .ok (.lconst 1, 1) := by decide +kernel
theorem dA_findReached_2 : decode cA_findReached 2 = .ok (.aload_n 1, 1) := by decide +kernel
theorem dA_findReached_3 : decode cA_findReached 3 = .ok (.getfield 35, 3) := by decide +kernel
theorem dA_findReached_6 : decode cA_findReached 6 = .ok (.lshl, 1) := by decide +kernel
theorem dA_findReached_7 : decode cA_findReached 7 = .ok (.putfield 70, 3) := by decide +kernel
theorem dA_findReached_10 : decode cA_findReached 10 = .ok (.iconst 0, 1) := by decide +kernel
theorem dA_findReached_11 : decode cA_findReached 11 = .ok (.istore_n 2, 1) := by decide +kernel
theorem dA_findReached_12 : decode cA_findReached 12 = .ok (.iload_n 2, 1) := by decide +kernel
theorem dA_findReached_13 : decode cA_findReached 13 = .ok (.bipush 64, 2) := by decide +kernel
theorem dA_findReached_15 : decode cA_findReached 15 = .ok (.if_icmp .ge 38, 3) := by decide +kernel
theorem dA_findReached_18 : decode cA_findReached 18 = .ok (.aload_n 0, 1) := by decide +kernel
theorem dA_findReached_19 : decode cA_findReached 19 = .ok (.getfield 70, 3) := by decide +kernel
theorem dA_findReached_22 : decode cA_findReached 22 = .ok (.aload_n 1, 1) := by decide +kernel
theorem dA_findReached_23 : decode cA_findReached 23 = .ok (.aload_n 0, 1) := by decide +kernel
theorem dA_findReached_24 : decode cA_findReached 24 = .ok (.getfield 70, 3) := by decide +kernel
theorem dA_findReached_27 : decode cA_findReached 27 = .ok (.invokevirtual 73, 3) := by decide +kernel
theorem dA_findReached_30 : decode cA_findReached 30 = .ok (.lor, 1) := by decide +kernel
theorem dA_findReached_31 : decode cA_findReached 31 = .ok (.lstore_n 3, 1) := by decide +kernel
theorem dA_findReached_32 : decode cA_findReached 32 = .ok (.lload_n 3, 1) := by decide +kernel
theorem dA_findReached_33 : decode cA_findReached 33 = .ok (.aload_n 0, 1) := by decide +kernel
theorem dA_findReached_34 : decode cA_findReached 34 = .ok (.getfield 70, 3) := by decide +kernel
theorem dA_findReached_37 : decode cA_findReached 37 = .ok (.lcmp, 1) := by decide +kernel
theorem dA_findReached_38 : decode cA_findReached 38 = .ok (.ifCond .ne 4, 3) := by decide +kernel
theorem dA_findReached_41 : decode cA_findReached 41 = .ok (.return_, 1) := by decide +kernel
theorem dA_findReached_42 : decode cA_findReached 42 = .ok (.aload_n 0, 1) := by decide +kernel
theorem dA_findReached_43 : decode cA_findReached 43 = .ok (.lload_n 3, 1) := by decide +kernel
theorem dA_findReached_44 : decode cA_findReached 44 = .ok (.putfield 70, 3) := by decide +kernel
theorem dA_findReached_47 : decode cA_findReached 47 = .ok (.iinc 2 1, 3) := by decide +kernel
theorem dA_findReached_50 : decode cA_findReached 50 = .ok (.goto (-38), 3) := by decide +kernel
theorem dA_findReached_53 : decode cA_findReached 53 = .ok (.return_, 1) := by decide +kernel
theorem dA_findSteps_0 : decode cA_findSteps 0 = .ok (.aload_n 0, 1) := by decide +kernel
theorem dA_findSteps_1 : decode cA_findSteps 1 = .ok (.iconst (-1), 1) := by decide +kernel
theorem dA_findSteps_2 : decode cA_findSteps 2 = .ok (.putfield 25, 3) := by decide +kernel
theorem dA_findSteps_5 : decode cA_findSteps 5 = .ok (.iconst 0, 1) := by decide +kernel
theorem dA_findSteps_6 : decode cA_findSteps 6 = .ok (.istore_n 2, 1) := by decide +kernel
theorem dA_findSteps_7 : decode cA_findSteps 7 = .ok (.iload_n 2, 1) := by decide +kernel
theorem dA_findSteps_8 : decode cA_findSteps 8 = .ok (.aload_n 0, 1) := by decide +kernel
theorem dA_findSteps_9 : decode cA_findSteps 9 = .ok (.getfield 17, 3) := by decide +kernel
theorem dA_findSteps_12 : decode cA_findSteps 12 = .ok (.if_icmp .ge 28, 3) := by decide +kernel
theorem dA_findSteps_15 : decode cA_findSteps 15 = .ok (.aload_n 0, 1) := by decide +kernel
theorem dA_findSteps_16 : decode cA_findSteps 16 = .ok (.getfield 11, 3) := by decide +kernel
theorem dA_findSteps_19 : decode cA_findSteps 19 = .ok (.iload_n 2, 1) := by decide +kernel
theorem dA_findSteps_20 : decode cA_findSteps 20 = .ok (.laload, 1) := by decide +kernel
theorem dA_findSteps_21 : decode cA_findSteps 21 = .ok (.iload_n 1, 1) := by decide +kernel
theorem dA_findSteps_22 : decode cA_findSteps 22 = .ok (.invokestatic 76, 3) := by decide +kernel
theorem dA_findSteps_25 : decode cA_findSteps 25 = .ok (.ifCond .eq 9, 3) := by decide +kernel
theorem dA_findSteps_28 : decode cA_findSteps 28 = .ok (.aload_n 0, 1) := by decide +kernel
theorem dA_findSteps_29 : decode cA_findSteps 29 = .ok (.iload_n 2, 1) := by decide +kernel
theorem dA_findSteps_30 : decode cA_findSteps 30 = .ok (.putfield 25, 3) := by decide +kernel
theorem dA_findSteps_33 : decode cA_findSteps 33 = .ok (.return_, 1) := by decide +kernel
theorem dA_findSteps_34 : decode cA_findSteps 34 = .ok (.iinc 2 1, 3) := by decide +kernel
theorem dA_findSteps_37 : decode cA_findSteps 37 = .ok (.goto (-30), 3) := by decide +kernel
theorem dA_findSteps_40 : decode cA_findSteps 40 = .ok (.return_, 1) := by decide +kernel
theorem dA_isSafe_0 : decode cA_isSafe 0 = .ok (.aload_n 0, 1) := by decide +kernel
theorem dA_isSafe_1 : decode cA_isSafe 1 = .ok (.getfield 25, 3) := by decide +kernel
theorem dA_isSafe_4 : decode cA_isSafe 4 = .ok (.iconst (-1), 1) := by decide +kernel
theorem dA_isSafe_5 : decode cA_isSafe 5 = .ok (.if_icmp .ne 7, 3) := by decide +kernel
theorem dA_isSafe_8 : decode cA_isSafe 8 = .ok (.iconst 1, 1) := by decide +kernel
theorem dA_isSafe_9 : decode cA_isSafe 9 = .ok (.goto 4, 3) := by decide +kernel
theorem dA_isSafe_12 : decode cA_isSafe 12 = .ok (.iconst 0, 1) := by decide +kernel
theorem dA_isSafe_13 : decode cA_isSafe 13 = .ok (.ireturn, 1) := by decide +kernel
theorem dA_prove_0 : decode cA_prove 0 = .ok (.lconst 1, 1) := by decide +kernel
theorem dA_prove_1 : decode cA_prove 1 = .ok (.aload_n 1, 1) := by decide +kernel
theorem dA_prove_2 : decode cA_prove 2 = .ok (.getfield 35, 3) := by decide +kernel
theorem dA_prove_5 : decode cA_prove 5 = .ok (.lshl, 1) := by decide +kernel
theorem dA_prove_6 : decode cA_prove 6 = .ok (.lstore_n 2, 1) := by decide +kernel
theorem dA_prove_7 : decode cA_prove 7 = .ok (.aload_n 0, 1) := by decide +kernel
theorem dA_prove_8 : decode cA_prove 8 = .ok (.lload_n 2, 1) := by decide +kernel
theorem dA_prove_9 : decode cA_prove 9 = .ok (.putfield 98, 3) := by decide +kernel
theorem dA_prove_12 : decode cA_prove 12 = .ok (.aload_n 0, 1) := by decide +kernel
theorem dA_prove_13 : decode cA_prove 13 = .ok (.iconst 1, 1) := by decide +kernel
theorem dA_prove_14 : decode cA_prove 14 = .ok (.putfield 101, 3) := by decide +kernel
theorem dA_prove_17 : decode cA_prove 17 = .ok (.aload_n 0, 1) := by decide +kernel
theorem dA_prove_18 : decode cA_prove 18 = .ok (.iconst 1, 1) := by decide +kernel
theorem dA_prove_19 : decode cA_prove 19 = .ok (.putfield 104, 3) := by decide +kernel
theorem dA_prove_22 : decode cA_prove 22 = .ok (.aload_n 0, 1) := by decide +kernel
theorem dA_prove_23 : decode cA_prove 23 = .ok (.getfield 104, 3) := by decide +kernel
theorem dA_prove_26 : decode cA_prove 26 = .ok (.sipush 4160, 3) := by decide +kernel
theorem dA_prove_29 : decode cA_prove 29 = .ok (.if_icmp .ge 100, 3) := by decide +kernel
theorem dA_prove_32 : decode cA_prove 32 = .ok (.aload_n 1, 1) := by decide +kernel
theorem dA_prove_33 : decode cA_prove 33 = .ok (.aload_n 0, 1) := by decide +kernel
theorem dA_prove_34 : decode cA_prove 34 = .ok (.getfield 98, 3) := by decide +kernel
theorem dA_prove_37 : decode cA_prove 37 = .ok (.invokevirtual 73, 3) := by decide +kernel
theorem dA_prove_40 : decode cA_prove 40 = .ok (.lstore 4, 2) := by decide +kernel
theorem dA_prove_42 : decode cA_prove 42 = .ok (.lload 4, 2) := by decide +kernel
theorem dA_prove_44 : decode cA_prove 44 = .ok (.aload_n 0, 1) := by decide +kernel
theorem dA_prove_45 : decode cA_prove 45 = .ok (.aload_n 0, 1) := by decide +kernel
theorem dA_prove_46 : decode cA_prove 46 = .ok (.getfield 101, 3) := by decide +kernel
theorem dA_prove_49 : decode cA_prove 49 = .ok (.invokevirtual 52, 3) := by decide +kernel
theorem dA_prove_52 : decode cA_prove 52 = .ok (.land, 1) := by decide +kernel
theorem dA_prove_53 : decode cA_prove 53 = .ok (.lconst 0, 1) := by decide +kernel
theorem dA_prove_54 : decode cA_prove 54 = .ok (.lcmp, 1) := by decide +kernel
theorem dA_prove_55 : decode cA_prove 55 = .ok (.ifCond .eq 21, 3) := by decide +kernel
theorem dA_prove_58 : decode cA_prove 58 = .ok (.aload_n 0, 1) := by decide +kernel
theorem dA_prove_59 : decode cA_prove 59 = .ok (.dup, 1) := by decide +kernel
theorem dA_prove_60 : decode cA_prove 60 = .ok (.getfield 101, 3) := by decide +kernel
theorem dA_prove_63 : decode cA_prove 63 = .ok (.iconst 1, 1) := by decide +kernel
theorem dA_prove_64 : decode cA_prove 64 = .ok (.iadd, 1) := by decide +kernel
theorem dA_prove_65 : decode cA_prove 65 = .ok (.putfield 101, 3) := by decide +kernel
theorem dA_prove_68 : decode cA_prove 68 = .ok (.aload_n 0, 1) := by decide +kernel
theorem dA_prove_69 : decode cA_prove 69 = .ok (.lload_n 2, 1) := by decide +kernel
theorem dA_prove_70 : decode cA_prove 70 = .ok (.putfield 98, 3) := by decide +kernel
theorem dA_prove_73 : decode cA_prove 73 = .ok (.goto 43, 3) := by decide +kernel
theorem dA_prove_76 : decode cA_prove 76 = .ok (.aload_n 0, 1) := by decide +kernel
theorem dA_prove_77 : decode cA_prove 77 = .ok (.lload 4, 2) := by decide +kernel
theorem dA_prove_79 : decode cA_prove 79 = .ok (.aload_n 1, 1) := by decide +kernel
theorem dA_prove_80 : decode cA_prove 80 = .ok (.getfield 107, 3) := by decide +kernel
theorem dA_prove_83 : decode cA_prove 83 = .ok (.invokevirtual 110, 3) := by decide +kernel
theorem dA_prove_86 : decode cA_prove 86 = .ok (.lstore 4, 2) := by decide +kernel
theorem dA_prove_88 : decode cA_prove 88 = .ok (.lload 4, 2) := by decide +kernel
theorem dA_prove_90 : decode cA_prove 90 = .ok (.aload_n 0, 1) := by decide +kernel
theorem dA_prove_91 : decode cA_prove 91 = .ok (.getfield 98, 3) := by decide +kernel
theorem dA_prove_94 : decode cA_prove 94 = .ok (.ldc2_w 114, 3) := by decide +kernel
theorem dA_prove_97 : decode cA_prove 97 = .ok (.lxor, 1) := by decide +kernel
theorem dA_prove_98 : decode cA_prove 98 = .ok (.land, 1) := by decide +kernel
theorem dA_prove_99 : decode cA_prove 99 = .ok (.lconst 0, 1) := by decide +kernel
theorem dA_prove_100 : decode cA_prove 100 = .ok (.lcmp, 1) := by decide +kernel
theorem dA_prove_101 : decode cA_prove 101 = .ok (.ifCond .ne 4, 3) := by decide +kernel
theorem dA_prove_104 : decode cA_prove 104 = .ok (.return_, 1) := by decide +kernel
theorem dA_prove_105 : decode cA_prove 105 = .ok (.aload_n 0, 1) := by decide +kernel
theorem dA_prove_106 : decode cA_prove 106 = .ok (.dup, 1) := by decide +kernel
theorem dA_prove_107 : decode cA_prove 107 = .ok (.getfield 98, 3) := by decide +kernel
theorem dA_prove_110 : decode cA_prove 110 = .ok (.lload 4, 2) := by decide +kernel
theorem dA_prove_112 : decode cA_prove 112 = .ok (.lor, 1) := by decide +kernel
theorem dA_prove_113 : decode cA_prove 113 = .ok (.putfield 98, 3) := by decide +kernel
theorem dA_prove_116 : decode cA_prove 116 = .ok (.aload_n 0, 1) := by decide +kernel
theorem dA_prove_117 : decode cA_prove 117 = .ok (.dup, 1) := by decide +kernel
theorem dA_prove_118 : decode cA_prove 118 = .ok (.getfield 104, 3) := by decide +kernel
theorem dA_prove_121 : decode cA_prove 121 = .ok (.iconst 1, 1) := by decide +kernel
theorem dA_prove_122 : decode cA_prove 122 = .ok (.iadd, 1) := by decide +kernel
theorem dA_prove_123 : decode cA_prove 123 = .ok (.putfield 104, 3) := by decide +kernel
theorem dA_prove_126 : decode cA_prove 126 = .ok (.goto (-104), 3) := by decide +kernel
theorem dA_prove_129 : decode cA_prove 129 = .ok (.return_, 1) := by decide +kernel
theorem dA_nearSet_0 : decode cA_nearSet 0 = .ok (.iload_n 1, 1) := by decide +kernel
theorem dA_nearSet_1 : decode cA_nearSet 1 = .ok (.aload_n 0, 1) := by decide +kernel
theorem dA_nearSet_2 : decode cA_nearSet 2 = .ok (.getfield 17, 3) := by decide +kernel
theorem dA_nearSet_5 : decode cA_nearSet 5 = .ok (.invokestatic 56, 3) := by decide +kernel
theorem dA_nearSet_8 : decode cA_nearSet 8 = .ok (.aload_n 0, 1) := by decide +kernel
theorem dA_nearSet_9 : decode cA_nearSet 9 = .ok (.getfield 11, 3) := by decide +kernel
theorem dA_nearSet_12 : decode cA_nearSet 12 = .ok (.arraylength, 1) := by decide +kernel
theorem dA_nearSet_13 : decode cA_nearSet 13 = .ok (.invokestatic 56, 3) := by decide +kernel
theorem dA_nearSet_16 : decode cA_nearSet 16 = .ok (.istore_n 2, 1) := by decide +kernel
theorem dA_nearSet_17 : decode cA_nearSet 17 = .ok (.iload_n 2, 1) := by decide +kernel
theorem dA_nearSet_18 : decode cA_nearSet 18 = .ok (.iconst 1, 1) := by decide +kernel
theorem dA_nearSet_19 : decode cA_nearSet 19 = .ok (.if_icmp .ge 7, 3) := by decide +kernel
theorem dA_nearSet_22 : decode cA_nearSet 22 = .ok (.lconst 0, 1) := by decide +kernel
theorem dA_nearSet_23 : decode cA_nearSet 23 = .ok (.goto 11, 3) := by decide +kernel
theorem dA_nearSet_26 : decode cA_nearSet 26 = .ok (.aload_n 0, 1) := by decide +kernel
theorem dA_nearSet_27 : decode cA_nearSet 27 = .ok (.getfield 11, 3) := by decide +kernel
theorem dA_nearSet_30 : decode cA_nearSet 30 = .ok (.iload_n 2, 1) := by decide +kernel
theorem dA_nearSet_31 : decode cA_nearSet 31 = .ok (.iconst 1, 1) := by decide +kernel
theorem dA_nearSet_32 : decode cA_nearSet 32 = .ok (.isub, 1) := by decide +kernel
theorem dA_nearSet_33 : decode cA_nearSet 33 = .ok (.laload, 1) := by decide +kernel
theorem dA_nearSet_34 : decode cA_nearSet 34 = .ok (.lreturn, 1) := by decide +kernel
theorem dA_widened_0 : decode cA_widened 0 = .ok (.lload_n 1, 1) := by decide +kernel
theorem dA_widened_1 : decode cA_widened 1 = .ok (.lstore 4, 2) := by decide +kernel
theorem dA_widened_3 : decode cA_widened 3 = .ok (.iconst 0, 1) := by decide +kernel
theorem dA_widened_4 : decode cA_widened 4 = .ok (.istore 6, 2) := by decide +kernel
theorem dA_widened_6 : decode cA_widened 6 = .ok (.iload 6, 2) := by decide +kernel
theorem dA_widened_8 : decode cA_widened 8 = .ok (.iload_n 3, 1) := by decide +kernel
theorem dA_widened_9 : decode cA_widened 9 = .ok (.if_icmp .ge 38, 3) := by decide +kernel
theorem dA_widened_12 : decode cA_widened 12 = .ok (.lload 4, 2) := by decide +kernel
theorem dA_widened_14 : decode cA_widened 14 = .ok (.iload 6, 2) := by decide +kernel
theorem dA_widened_16 : decode cA_widened 16 = .ok (.invokestatic 116, 3) := by decide +kernel
theorem dA_widened_19 : decode cA_widened 19 = .ok (.lstore 7, 2) := by decide +kernel
theorem dA_widened_21 : decode cA_widened 21 = .ok (.lload 7, 2) := by decide +kernel
theorem dA_widened_23 : decode cA_widened 23 = .ok (.aload_n 0, 1) := by decide +kernel
theorem dA_widened_24 : decode cA_widened 24 = .ok (.aload_n 0, 1) := by decide +kernel
theorem dA_widened_25 : decode cA_widened 25 = .ok (.getfield 101, 3) := by decide +kernel
theorem dA_widened_28 : decode cA_widened 28 = .ok (.invokevirtual 52, 3) := by decide +kernel
theorem dA_widened_31 : decode cA_widened 31 = .ok (.land, 1) := by decide +kernel
theorem dA_widened_32 : decode cA_widened 32 = .ok (.lconst 0, 1) := by decide +kernel
theorem dA_widened_33 : decode cA_widened 33 = .ok (.lcmp, 1) := by decide +kernel
theorem dA_widened_34 : decode cA_widened 34 = .ok (.ifCond .ne 7, 3) := by decide +kernel
theorem dA_widened_37 : decode cA_widened 37 = .ok (.lload 7, 2) := by decide +kernel
theorem dA_widened_39 : decode cA_widened 39 = .ok (.lstore 4, 2) := by decide +kernel
theorem dA_widened_41 : decode cA_widened 41 = .ok (.iinc 6 1, 3) := by decide +kernel
theorem dA_widened_44 : decode cA_widened 44 = .ok (.goto (-38), 3) := by decide +kernel
theorem dA_widened_47 : decode cA_widened 47 = .ok (.lload 4, 2) := by decide +kernel
theorem dA_widened_49 : decode cA_widened 49 = .ok (.lreturn, 1) := by decide +kernel
theorem dA_withoutLatch_0 : decode cA_withoutLatch 0 = .ok (.getstatic 119, 3) := by decide +kernel
theorem dA_withoutLatch_3 : decode cA_withoutLatch 3 = .ok (.iload_n 2, 1) := by decide +kernel
theorem dA_withoutLatch_4 : decode cA_withoutLatch 4 = .ok (.laload, 1) := by decide +kernel
theorem dA_withoutLatch_5 : decode cA_withoutLatch 5 = .ok (.lstore_n 3, 1) := by decide +kernel
theorem dA_withoutLatch_6 : decode cA_withoutLatch 6 = .ok (.iconst 1, 1) := by decide +kernel
theorem dA_withoutLatch_7 : decode cA_withoutLatch 7 = .ok (.iload_n 2, 1) := by decide +kernel
theorem dA_withoutLatch_8 : decode cA_withoutLatch 8 = .ok (.ishl, 1) := by decide +kernel
theorem dA_withoutLatch_9 : decode cA_withoutLatch 9 = .ok (.istore 5, 2) := by decide +kernel
theorem dA_withoutLatch_11 : decode cA_withoutLatch 11 = .ok (.lload_n 0, 1) := by decide +kernel
theorem dA_withoutLatch_12 : decode cA_withoutLatch 12 = .ok (.lload_n 0, 1) := by decide +kernel
theorem dA_withoutLatch_13 : decode cA_withoutLatch 13 = .ok (.lload_n 3, 1) := by decide +kernel
theorem dA_withoutLatch_14 : decode cA_withoutLatch 14 = .ok (.land, 1) := by decide +kernel
theorem dA_withoutLatch_15 : decode cA_withoutLatch 15 = .ok (.iload 5, 2) := by decide +kernel
theorem dA_withoutLatch_17 : decode cA_withoutLatch 17 = .ok (.lushr, 1) := by decide +kernel
theorem dA_withoutLatch_18 : decode cA_withoutLatch 18 = .ok (.lor, 1) := by decide +kernel
theorem dA_withoutLatch_19 : decode cA_withoutLatch 19 = .ok (.lload_n 0, 1) := by decide +kernel
theorem dA_withoutLatch_20 : decode cA_withoutLatch 20 = .ok (.lload_n 3, 1) := by decide +kernel
theorem dA_withoutLatch_21 : decode cA_withoutLatch 21 = .ok (.ldc2_w 114, 3) := by decide +kernel
theorem dA_withoutLatch_24 : decode cA_withoutLatch 24 = .ok (.lxor, 1) := by decide +kernel
theorem dA_withoutLatch_25 : decode cA_withoutLatch 25 = .ok (.land, 1) := by decide +kernel
theorem dA_withoutLatch_26 : decode cA_withoutLatch 26 = .ok (.iload 5, 2) := by decide +kernel
theorem dA_withoutLatch_28 : decode cA_withoutLatch 28 = .ok (.lshl, 1) := by decide +kernel
theorem dA_withoutLatch_29 : decode cA_withoutLatch 29 = .ok (.lor, 1) := by decide +kernel
theorem dA_withoutLatch_30 : decode cA_withoutLatch 30 = .ok (.lreturn, 1) := by decide +kernel
theorem dA_findWay_0 : decode cA_findWay 0 = .ok (.aload_n 1, 1) := by decide +kernel
theorem dA_findWay_1 : decode cA_findWay 1 = .ok (.getfield 35, 3) := by decide +kernel
theorem dA_findWay_4 : decode cA_findWay 4 = .ok (.istore_n 2, 1) := by decide +kernel
theorem dA_findWay_5 : decode cA_findWay 5 = .ok (.iconst 0, 1) := by decide +kernel
theorem dA_findWay_6 : decode cA_findWay 6 = .ok (.istore_n 3, 1) := by decide +kernel
theorem dA_findWay_7 : decode cA_findWay 7 = .ok (.iload_n 3, 1) := by decide +kernel
theorem dA_findWay_8 : decode cA_findWay 8 = .ok (.aload_n 0, 1) := by decide +kernel
theorem dA_findWay_9 : decode cA_findWay 9 = .ok (.getfield 25, 3) := by decide +kernel
theorem dA_findWay_12 : decode cA_findWay 12 = .ok (.if_icmp .ge 51, 3) := by decide +kernel
theorem dA_findWay_15 : decode cA_findWay 15 = .ok (.iload_n 3, 1) := by decide +kernel
theorem dA_findWay_16 : decode cA_findWay 16 = .ok (.aload_n 0, 1) := by decide +kernel
theorem dA_findWay_17 : decode cA_findWay 17 = .ok (.getfield 21, 3) := by decide +kernel
theorem dA_findWay_20 : decode cA_findWay 20 = .ok (.arraylength, 1) := by decide +kernel
theorem dA_findWay_21 : decode cA_findWay 21 = .ok (.if_icmp .ge 42, 3) := by decide +kernel
theorem dA_findWay_24 : decode cA_findWay 24 = .ok (.aload_n 0, 1) := by decide +kernel
theorem dA_findWay_25 : decode cA_findWay 25 = .ok (.getfield 21, 3) := by decide +kernel
theorem dA_findWay_28 : decode cA_findWay 28 = .ok (.iload_n 3, 1) := by decide +kernel
theorem dA_findWay_29 : decode cA_findWay 29 = .ok (.aload_n 1, 1) := by decide +kernel
theorem dA_findWay_30 : decode cA_findWay 30 = .ok (.iload_n 2, 1) := by decide +kernel
theorem dA_findWay_31 : decode cA_findWay 31 = .ok (.aload_n 0, 1) := by decide +kernel
theorem dA_findWay_32 : decode cA_findWay 32 = .ok (.aload_n 0, 1) := by decide +kernel
theorem dA_findWay_33 : decode cA_findWay 33 = .ok (.getfield 25, 3) := by decide +kernel
theorem dA_findWay_36 : decode cA_findWay 36 = .ok (.iload_n 3, 1) := by decide +kernel
theorem dA_findWay_37 : decode cA_findWay 37 = .ok (.isub, 1) := by decide +kernel
theorem dA_findWay_38 : decode cA_findWay 38 = .ok (.invokevirtual 52, 3) := by decide +kernel
theorem dA_findWay_41 : decode cA_findWay 41 = .ok (.invokestatic 80, 3) := by decide +kernel
theorem dA_findWay_44 : decode cA_findWay 44 = .ok (.iastore, 1) := by decide +kernel
theorem dA_findWay_45 : decode cA_findWay 45 = .ok (.aload_n 1, 1) := by decide +kernel
theorem dA_findWay_46 : decode cA_findWay 46 = .ok (.iload_n 2, 1) := by decide +kernel
theorem dA_findWay_47 : decode cA_findWay 47 = .ok (.aload_n 0, 1) := by decide +kernel
theorem dA_findWay_48 : decode cA_findWay 48 = .ok (.getfield 21, 3) := by decide +kernel
theorem dA_findWay_51 : decode cA_findWay 51 = .ok (.iload_n 3, 1) := by decide +kernel
theorem dA_findWay_52 : decode cA_findWay 52 = .ok (.iaload, 1) := by decide +kernel
theorem dA_findWay_53 : decode cA_findWay 53 = .ok (.invokevirtual 84, 3) := by decide +kernel
theorem dA_findWay_56 : decode cA_findWay 56 = .ok (.istore_n 2, 1) := by decide +kernel
theorem dA_findWay_57 : decode cA_findWay 57 = .ok (.iinc 3 1, 3) := by decide +kernel
theorem dA_findWay_60 : decode cA_findWay 60 = .ok (.goto (-53), 3) := by decide +kernel
theorem dA_findWay_63 : decode cA_findWay 63 = .ok (.aload_n 0, 1) := by decide +kernel
theorem dA_findWay_64 : decode cA_findWay 64 = .ok (.getfield 25, 3) := by decide +kernel
theorem dA_findWay_67 : decode cA_findWay 67 = .ok (.ifCond .lt 29, 3) := by decide +kernel
theorem dA_findWay_70 : decode cA_findWay 70 = .ok (.aload_n 0, 1) := by decide +kernel
theorem dA_findWay_71 : decode cA_findWay 71 = .ok (.getfield 25, 3) := by decide +kernel
theorem dA_findWay_74 : decode cA_findWay 74 = .ok (.aload_n 0, 1) := by decide +kernel
theorem dA_findWay_75 : decode cA_findWay 75 = .ok (.getfield 21, 3) := by decide +kernel
theorem dA_findWay_78 : decode cA_findWay 78 = .ok (.arraylength, 1) := by decide +kernel
theorem dA_findWay_79 : decode cA_findWay 79 = .ok (.if_icmp .ge 17, 3) := by decide +kernel
theorem dA_findWay_82 : decode cA_findWay 82 = .ok (.aload_n 0, 1) := by decide +kernel
theorem dA_findWay_83 : decode cA_findWay 83 = .ok (.getfield 21, 3) := by decide +kernel
theorem dA_findWay_86 : decode cA_findWay 86 = .ok (.aload_n 0, 1) := by decide +kernel
theorem dA_findWay_87 : decode cA_findWay 87 = .ok (.getfield 25, 3) := by decide +kernel
theorem dA_findWay_90 : decode cA_findWay 90 = .ok (.aload_n 1, 1) := by decide +kernel
theorem dA_findWay_91 : decode cA_findWay 91 = .ok (.iload_n 2, 1) := by decide +kernel
theorem dA_findWay_92 : decode cA_findWay 92 = .ok (.invokestatic 87, 3) := by decide +kernel
theorem dA_findWay_95 : decode cA_findWay 95 = .ok (.iastore, 1) := by decide +kernel
theorem dA_findWay_96 : decode cA_findWay 96 = .ok (.return_, 1) := by decide +kernel
theorem dA_leastInputInto_0 : decode cA_leastInputInto 0 = .ok (.iconst 0, 1) := by decide +kernel
theorem dA_leastInputInto_1 : decode cA_leastInputInto 1 = .ok (.istore 4, 2) := by decide +kernel
theorem dA_leastInputInto_3 : decode cA_leastInputInto 3 = .ok (.iload 4, 2) := by decide +kernel
theorem dA_leastInputInto_5 : decode cA_leastInputInto 5 = .ok (.aload_n 0, 1) := by decide +kernel
theorem dA_leastInputInto_6 : decode cA_leastInputInto 6 = .ok (.getfield 91, 3) := by decide +kernel
theorem dA_leastInputInto_9 : decode cA_leastInputInto 9 = .ok (.iconst 1, 1) := by decide +kernel
theorem dA_leastInputInto_10 : decode cA_leastInputInto 10 = .ok (.isub, 1) := by decide +kernel
theorem dA_leastInputInto_11 : decode cA_leastInputInto 11 = .ok (.if_icmp .ge 23, 3) := by decide +kernel
theorem dA_leastInputInto_14 : decode cA_leastInputInto 14 = .ok (.lload_n 2, 1) := by decide +kernel
theorem dA_leastInputInto_15 : decode cA_leastInputInto 15 = .ok (.aload_n 0, 1) := by decide +kernel
theorem dA_leastInputInto_16 : decode cA_leastInputInto 16 = .ok (.iload_n 1, 1) := by decide +kernel
theorem dA_leastInputInto_17 : decode cA_leastInputInto 17 = .ok (.iload 4, 2) := by decide +kernel
theorem dA_leastInputInto_19 : decode cA_leastInputInto 19 = .ok (.invokevirtual 84, 3) := by decide +kernel
theorem dA_leastInputInto_22 : decode cA_leastInputInto 22 = .ok (.invokestatic 76, 3) := by decide +kernel
theorem dA_leastInputInto_25 : decode cA_leastInputInto 25 = .ok (.ifCond .ne 9, 3) := by decide +kernel
theorem dA_leastInputInto_28 : decode cA_leastInputInto 28 = .ok (.iinc 4 1, 3) := by decide +kernel
theorem dA_leastInputInto_31 : decode cA_leastInputInto 31 = .ok (.goto (-28), 3) := by decide +kernel
theorem dA_leastInputInto_34 : decode cA_leastInputInto 34 = .ok (.iload 4, 2) := by decide +kernel
theorem dA_leastInputInto_36 : decode cA_leastInputInto 36 = .ok (.ireturn, 1) := by decide +kernel
theorem dA_leastInputWithOutput_0 : decode cA_leastInputWithOutput 0 = .ok (.iconst 0, 1) := by decide +kernel
theorem dA_leastInputWithOutput_1 : decode cA_leastInputWithOutput 1 = .ok (.istore_n 2, 1) := by decide +kernel
theorem dA_leastInputWithOutput_2 : decode cA_leastInputWithOutput 2 = .ok (.iload_n 2, 1) := by decide +kernel
theorem dA_leastInputWithOutput_3 : decode cA_leastInputWithOutput 3 = .ok (.aload_n 0, 1) := by decide +kernel
theorem dA_leastInputWithOutput_4 : decode cA_leastInputWithOutput 4 = .ok (.getfield 91, 3) := by decide +kernel
theorem dA_leastInputWithOutput_7 : decode cA_leastInputWithOutput 7 = .ok (.iconst 1, 1) := by decide +kernel
theorem dA_leastInputWithOutput_8 : decode cA_leastInputWithOutput 8 = .ok (.isub, 1) := by decide +kernel
theorem dA_leastInputWithOutput_9 : decode cA_leastInputWithOutput 9 = .ok (.if_icmp .ge 18, 3) := by decide +kernel
theorem dA_leastInputWithOutput_12 : decode cA_leastInputWithOutput 12 = .ok (.aload_n 0, 1) := by decide +kernel
theorem dA_leastInputWithOutput_13 : decode cA_leastInputWithOutput 13 = .ok (.iload_n 1, 1) := by decide +kernel
theorem dA_leastInputWithOutput_14 : decode cA_leastInputWithOutput 14 = .ok (.iload_n 2, 1) := by decide +kernel
theorem dA_leastInputWithOutput_15 : decode cA_leastInputWithOutput 15 = .ok (.invokevirtual 94, 3) := by decide +kernel
theorem dA_leastInputWithOutput_18 : decode cA_leastInputWithOutput 18 = .ok (.ifCond .ne 9, 3) := by decide +kernel
theorem dA_leastInputWithOutput_21 : decode cA_leastInputWithOutput 21 = .ok (.iinc 2 1, 3) := by decide +kernel
theorem dA_leastInputWithOutput_24 : decode cA_leastInputWithOutput 24 = .ok (.goto (-22), 3) := by decide +kernel
theorem dA_leastInputWithOutput_27 : decode cA_leastInputWithOutput 27 = .ok (.iload_n 2, 1) := by decide +kernel
theorem dA_leastInputWithOutput_28 : decode cA_leastInputWithOutput 28 = .ok (.ireturn, 1) := by decide +kernel
theorem dA_doomed_0 : decode cA_doomed 0 = .ok (.aload_n 0, 1) := by decide +kernel
theorem dA_doomed_1 : decode cA_doomed 1 = .ok (.aload_n 0, 1) := by decide +kernel
theorem dA_doomed_2 : decode cA_doomed 2 = .ok (.getfield 17, 3) := by decide +kernel
theorem dA_doomed_5 : decode cA_doomed 5 = .ok (.invokevirtual 52, 3) := by decide +kernel
theorem dA_doomed_8 : decode cA_doomed 8 = .ok (.lreturn, 1) := by decide +kernel
theorem dJ_bitCount_0 : decode cJ_bitCount 0 = .ok (.lload_n 0, 1) := by decide +kernel
theorem dJ_bitCount_1 : decode cJ_bitCount 1 = .ok (.lload_n 0, 1) := by decide +kernel
theorem dJ_bitCount_2 : decode cJ_bitCount 2 = .ok (.iconst 1, 1) := by decide +kernel
theorem dJ_bitCount_3 : decode cJ_bitCount 3 = .ok (.lushr, 1) := by decide +kernel
theorem dJ_bitCount_4 : decode cJ_bitCount 4 = .ok (.ldc2_w 314, 3) := by decide +kernel
theorem dJ_bitCount_7 : decode cJ_bitCount 7 = .ok (.land, 1) := by decide +kernel
theorem dJ_bitCount_8 : decode cJ_bitCount 8 = .ok (.lsub, 1) := by decide +kernel
theorem dJ_bitCount_9 : decode cJ_bitCount 9 = .ok (.lstore_n 0, 1) := by decide +kernel
theorem dJ_bitCount_10 : decode cJ_bitCount 10 = .ok (.lload_n 0, 1) := by decide +kernel
theorem dJ_bitCount_11 : decode cJ_bitCount 11 = .ok (.ldc2_w 316, 3) := by decide +kernel
theorem dJ_bitCount_14 : decode cJ_bitCount 14 = .ok (.land, 1) := by decide +kernel
theorem dJ_bitCount_15 : decode cJ_bitCount 15 = .ok (.lload_n 0, 1) := by decide +kernel
theorem dJ_bitCount_16 : decode cJ_bitCount 16 = .ok (.iconst 2, 1) := by decide +kernel
theorem dJ_bitCount_17 : decode cJ_bitCount 17 = .ok (.lushr, 1) := by decide +kernel
theorem dJ_bitCount_18 : decode cJ_bitCount 18 = .ok (.ldc2_w 316, 3) := by decide +kernel
theorem dJ_bitCount_21 : decode cJ_bitCount 21 = .ok (.land, 1) := by decide +kernel
theorem dJ_bitCount_22 : decode cJ_bitCount 22 = .ok (.ladd, 1) := by decide +kernel
theorem dJ_bitCount_23 : decode cJ_bitCount 23 = .ok (.lstore_n 0, 1) := by decide +kernel
theorem dJ_bitCount_24 : decode cJ_bitCount 24 = .ok (.lload_n 0, 1) := by decide +kernel
theorem dJ_bitCount_25 : decode cJ_bitCount 25 = .ok (.lload_n 0, 1) := by decide +kernel
theorem dJ_bitCount_26 : decode cJ_bitCount 26 = .ok (.iconst 4, 1) := by decide +kernel
theorem dJ_bitCount_27 : decode cJ_bitCount 27 = .ok (.lushr, 1) := by decide +kernel
theorem dJ_bitCount_28 : decode cJ_bitCount 28 = .ok (.ladd, 1) := by decide +kernel
theorem dJ_bitCount_29 : decode cJ_bitCount 29 = .ok (.ldc2_w 318, 3) := by decide +kernel
theorem dJ_bitCount_32 : decode cJ_bitCount 32 = .ok (.land, 1) := by decide +kernel
theorem dJ_bitCount_33 : decode cJ_bitCount 33 = .ok (.lstore_n 0, 1) := by decide +kernel
theorem dJ_bitCount_34 : decode cJ_bitCount 34 = .ok (.lload_n 0, 1) := by decide +kernel
theorem dJ_bitCount_35 : decode cJ_bitCount 35 = .ok (.lload_n 0, 1) := by decide +kernel
theorem dJ_bitCount_36 : decode cJ_bitCount 36 = .ok (.bipush 8, 2) := by decide +kernel
theorem dJ_bitCount_38 : decode cJ_bitCount 38 = .ok (.lushr, 1) := by decide +kernel
theorem dJ_bitCount_39 : decode cJ_bitCount 39 = .ok (.ladd, 1) := by decide +kernel
theorem dJ_bitCount_40 : decode cJ_bitCount 40 = .ok (.lstore_n 0, 1) := by decide +kernel
theorem dJ_bitCount_41 : decode cJ_bitCount 41 = .ok (.lload_n 0, 1) := by decide +kernel
theorem dJ_bitCount_42 : decode cJ_bitCount 42 = .ok (.lload_n 0, 1) := by decide +kernel
theorem dJ_bitCount_43 : decode cJ_bitCount 43 = .ok (.bipush 16, 2) := by decide +kernel
theorem dJ_bitCount_45 : decode cJ_bitCount 45 = .ok (.lushr, 1) := by decide +kernel
theorem dJ_bitCount_46 : decode cJ_bitCount 46 = .ok (.ladd, 1) := by decide +kernel
theorem dJ_bitCount_47 : decode cJ_bitCount 47 = .ok (.lstore_n 0, 1) := by decide +kernel
theorem dJ_bitCount_48 : decode cJ_bitCount 48 = .ok (.lload_n 0, 1) := by decide +kernel
theorem dJ_bitCount_49 : decode cJ_bitCount 49 = .ok (.lload_n 0, 1) := by decide +kernel
theorem dJ_bitCount_50 : decode cJ_bitCount 50 = .ok (.bipush 32, 2) := by decide +kernel
theorem dJ_bitCount_52 : decode cJ_bitCount 52 = .ok (.lushr, 1) := by decide +kernel
theorem dJ_bitCount_53 : decode cJ_bitCount 53 = .ok (.ladd, 1) := by decide +kernel
theorem dJ_bitCount_54 : decode cJ_bitCount 54 = .ok (.lstore_n 0, 1) := by decide +kernel
theorem dJ_bitCount_55 : decode cJ_bitCount 55 = .ok (.lload_n 0, 1) := by decide +kernel
theorem dJ_bitCount_56 : decode cJ_bitCount 56 = .ok (.l2i, 1) := by decide +kernel
theorem dJ_bitCount_57 : decode cJ_bitCount 57 = .ok (.bipush 127, 2) := by decide +kernel
theorem dJ_bitCount_59 : decode cJ_bitCount 59 = .ok (.iand, 1) := by decide +kernel
theorem dJ_bitCount_60 : decode cJ_bitCount 60 = .ok (.ireturn, 1) := by decide +kernel
