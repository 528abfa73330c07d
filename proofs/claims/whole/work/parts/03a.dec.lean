theorem dC_init_0 : decode cC_init 0 = .ok (.aload_n 0, 1) := by decide +kernel
theorem dC_init_1 : decode cC_init 1 = .ok (.invokespecial 1, 3) := by decide +kernel
theorem dC_init_4 : decode cC_init 4 = .ok (.aload_n 0, 1) := by decide +kernel
theorem dC_init_5 : decode cC_init 5 = .ok (.new 7, 3) := by decide +kernel
theorem dC_init_8 : decode cC_init 8 = .ok (.dup, 1) := by decide +kernel
theorem dC_init_9 : decode cC_init 9 = .ok (.invokespecial 9, 3) := by decide +kernel
theorem dC_init_12 : decode cC_init 12 = .ok (.putfield 10, 3) := by decide +kernel
theorem dC_init_15 : decode cC_init 15 = .ok (.aload_n 0, 1) := by decide +kernel
theorem dC_init_16 : decode cC_init 16 = .ok (.new 16, 3) := by decide +kernel
theorem dC_init_19 : decode cC_init 19 = .ok (.dup, 1) := by decide +kernel
theorem dC_init_20 : decode cC_init 20 = .ok (.invokespecial 18, 3) := by decide +kernel
theorem dC_init_23 : decode cC_init 23 = .ok (.putfield 19, 3) := by decide +kernel
theorem dC_init_26 : decode cC_init 26 = .ok (.aload_n 0, 1) := by decide +kernel
theorem dC_init_27 : decode cC_init 27 = .ok (.new 23, 3) := by decide +kernel
theorem dC_init_30 : decode cC_init 30 = .ok (.dup, 1) := by decide +kernel
theorem dC_init_31 : decode cC_init 31 = .ok (.invokespecial 25, 3) := by decide +kernel
theorem dC_init_34 : decode cC_init 34 = .ok (.putfield 26, 3) := by decide +kernel
theorem dC_init_37 : decode cC_init 37 = .ok (.aload_n 0, 1) := by decide +kernel
theorem dC_init_38 : decode cC_init 38 = .ok (.new 30, 3) := by decide +kernel
theorem dC_init_41 : decode cC_init 41 = .ok (.dup, 1) := by decide +kernel
theorem dC_init_42 : decode cC_init 42 = .ok (.invokespecial 32, 3) := by decide +kernel
theorem dC_init_45 : decode cC_init 45 = .ok (.putfield 33, 3) := by decide +kernel
theorem dC_init_48 : decode cC_init 48 = .ok (.aload_n 0, 1) := by decide +kernel
theorem dC_init_49 : decode cC_init 49 = .ok (.new 37, 3) := by decide +kernel
theorem dC_init_52 : decode cC_init 52 = .ok (.dup, 1) := by decide +kernel
theorem dC_init_53 : decode cC_init 53 = .ok (.invokespecial 39, 3) := by decide +kernel
theorem dC_init_56 : decode cC_init 56 = .ok (.putfield 40, 3) := by decide +kernel
theorem dC_init_59 : decode cC_init 59 = .ok (.aload_n 0, 1) := by decide +kernel
theorem dC_init_60 : decode cC_init 60 = .ok (.iconst 0, 1) := by decide +kernel
theorem dC_init_61 : decode cC_init 61 = .ok (.putfield 44, 3) := by decide +kernel
theorem dC_init_64 : decode cC_init 64 = .ok (.return_, 1) := by decide +kernel
theorem dT_init_0 : decode cT_init 0 = .ok (.aload_n 0, 1) := by decide +kernel
theorem dT_init_1 : decode cT_init 1 = .ok (.invokespecial 3, 3) := by decide +kernel
theorem dT_init_4 : decode cT_init 4 = .ok (.aload_n 0, 1) := by decide +kernel
theorem dT_init_5 : decode cT_init 5 = .ok (.sipush 400, 3) := by decide +kernel
theorem dT_init_8 : decode cT_init 8 = .ok (.newarray .byte, 2) := by decide +kernel
theorem dT_init_10 : decode cT_init 10 = .ok (.putfield 11, 3) := by decide +kernel
theorem dT_init_13 : decode cT_init 13 = .ok (.aload_n 0, 1) := by decide +kernel
theorem dT_init_14 : decode cT_init 14 = .ok (.iconst 5, 1) := by decide +kernel
theorem dT_init_15 : decode cT_init 15 = .ok (.newarray .int, 2) := by decide +kernel
theorem dT_init_17 : decode cT_init 17 = .ok (.putfield 15, 3) := by decide +kernel
theorem dT_init_20 : decode cT_init 20 = .ok (.aload_n 0, 1) := by decide +kernel
theorem dT_init_21 : decode cT_init 21 = .ok (.iconst 0, 1) := by decide +kernel
theorem dT_init_22 : decode cT_init 22 = .ok (.putfield 19, 3) := by decide +kernel
theorem dT_init_25 : decode cT_init 25 = .ok (.aload_n 0, 1) := by decide +kernel
theorem dT_init_26 : decode cT_init 26 = .ok (.iconst 0, 1) := by decide +kernel
theorem dT_init_27 : decode cT_init 27 = .ok (.putfield 23, 3) := by decide +kernel
theorem dT_init_30 : decode cT_init 30 = .ok (.return_, 1) := by decide +kernel
theorem dD_init_0 : decode cD_init 0 = .ok (.aload_n 0, 1) := by decide +kernel
theorem dD_init_1 : decode cD_init 1 = .ok (.invokespecial 1, 3) := by decide +kernel
theorem dD_init_4 : decode cD_init 4 = .ok (.aload_n 0, 1) := by decide +kernel
theorem dD_init_5 : decode cD_init 5 = .ok (.bipush 32, 2) := by decide +kernel
theorem dD_init_7 : decode cD_init 7 = .ok (.newarray .long, 2) := by decide +kernel
theorem dD_init_9 : decode cD_init 9 = .ok (.putfield 9, 3) := by decide +kernel
theorem dD_init_12 : decode cD_init 12 = .ok (.return_, 1) := by decide +kernel
theorem dC_type_0 : decode cC_type 0 = .ok (.aload_n 0, 1) := by decide +kernel
theorem dC_type_1 : decode cC_type 1 = .ok (.getfield 10, 3) := by decide +kernel
theorem dC_type_4 : decode cC_type 4 = .ok (.lload_n 1, 1) := by decide +kernel
theorem dC_type_5 : decode cC_type 5 = .ok (.invokevirtual 48, 3) := by decide +kernel
theorem dC_type_8 : decode cC_type 8 = .ok (.ireturn, 1) := by decide +kernel
theorem dT_append_0 : decode cT_append 0 = .ok (.lload_n 1, 1) := by decide +kernel
theorem dT_append_1 : decode cT_append 1 = .ok (.invokestatic 26, 3) := by decide +kernel
theorem dT_append_4 : decode cT_append 4 = .ok (.istore_n 3, 1) := by decide +kernel
theorem dT_append_5 : decode cT_append 5 = .ok (.iload_n 3, 1) := by decide +kernel
theorem dT_append_6 : decode cT_append 6 = .ok (.iconst (-1), 1) := by decide +kernel
theorem dT_append_7 : decode cT_append 7 = .ok (.if_icmp .eq 15, 3) := by decide +kernel
theorem dT_append_10 : decode cT_append 10 = .ok (.aload_n 0, 1) := by decide +kernel
theorem dT_append_11 : decode cT_append 11 = .ok (.getfield 19, 3) := by decide +kernel
theorem dT_append_14 : decode cT_append 14 = .ok (.iload_n 3, 1) := by decide +kernel
theorem dT_append_15 : decode cT_append 15 = .ok (.iadd, 1) := by decide +kernel
theorem dT_append_16 : decode cT_append 16 = .ok (.sipush 400, 3) := by decide +kernel
theorem dT_append_19 : decode cT_append 19 = .ok (.if_icmp .le 5, 3) := by decide +kernel
theorem dT_append_22 : decode cT_append 22 = .ok (.iconst 0, 1) := by decide +kernel
theorem dT_append_23 : decode cT_append 23 = .ok (.ireturn, 1) := by decide +kernel
theorem dT_append_24 : decode cT_append 24 = .ok (.bipush 56, 2) := by decide +kernel
theorem dT_append_26 : decode cT_append 26 = .ok (.istore 4, 2) := by decide +kernel
theorem dT_append_28 : decode cT_append 28 = .ok (.iload 4, 2) := by decide +kernel
theorem dT_append_30 : decode cT_append 30 = .ok (.ifCond .lt 47, 3) := by decide +kernel
theorem dT_append_33 : decode cT_append 33 = .ok (.lload_n 1, 1) := by decide +kernel
theorem dT_append_34 : decode cT_append 34 = .ok (.iload 4, 2) := by decide +kernel
theorem dT_append_36 : decode cT_append 36 = .ok (.lushr, 1) := by decide +kernel
theorem dT_append_37 : decode cT_append 37 = .ok (.l2i, 1) := by decide +kernel
theorem dT_append_38 : decode cT_append 38 = .ok (.sipush 255, 3) := by decide +kernel
theorem dT_append_41 : decode cT_append 41 = .ok (.iand, 1) := by decide +kernel
theorem dT_append_42 : decode cT_append 42 = .ok (.istore 5, 2) := by decide +kernel
theorem dT_append_44 : decode cT_append 44 = .ok (.iload 5, 2) := by decide +kernel
theorem dT_append_46 : decode cT_append 46 = .ok (.ifCond .eq 25, 3) := by decide +kernel
theorem dT_append_49 : decode cT_append 49 = .ok (.aload_n 0, 1) := by decide +kernel
theorem dT_append_50 : decode cT_append 50 = .ok (.getfield 11, 3) := by decide +kernel
theorem dT_append_53 : decode cT_append 53 = .ok (.aload_n 0, 1) := by decide +kernel
theorem dT_append_54 : decode cT_append 54 = .ok (.getfield 19, 3) := by decide +kernel
theorem dT_append_57 : decode cT_append 57 = .ok (.iload 5, 2) := by decide +kernel
theorem dT_append_59 : decode cT_append 59 = .ok (.i2b, 1) := by decide +kernel
theorem dT_append_60 : decode cT_append 60 = .ok (.bastore, 1) := by decide +kernel
theorem dT_append_61 : decode cT_append 61 = .ok (.aload_n 0, 1) := by decide +kernel
theorem dT_append_62 : decode cT_append 62 = .ok (.dup, 1) := by decide +kernel
theorem dT_append_63 : decode cT_append 63 = .ok (.getfield 19, 3) := by decide +kernel
theorem dT_append_66 : decode cT_append 66 = .ok (.iconst 1, 1) := by decide +kernel
theorem dT_append_67 : decode cT_append 67 = .ok (.iadd, 1) := by decide +kernel
theorem dT_append_68 : decode cT_append 68 = .ok (.putfield 19, 3) := by decide +kernel
theorem dT_append_71 : decode cT_append 71 = .ok (.iinc 4 (-8), 3) := by decide +kernel
theorem dT_append_74 : decode cT_append 74 = .ok (.goto (-46), 3) := by decide +kernel
theorem dT_append_77 : decode cT_append 77 = .ok (.iconst 1, 1) := by decide +kernel
theorem dT_append_78 : decode cT_append 78 = .ok (.ireturn, 1) := by decide +kernel
theorem dT_lettersIn_0 : decode cT_lettersIn 0 = .ok (.iconst 0, 1) := by decide +kernel
theorem dT_lettersIn_1 : decode cT_lettersIn 1 = .ok (.istore_n 2, 1) := by decide +kernel
theorem dT_lettersIn_2 : decode cT_lettersIn 2 = .ok (.bipush 56, 2) := by decide +kernel
theorem dT_lettersIn_4 : decode cT_lettersIn 4 = .ok (.istore_n 3, 1) := by decide +kernel
theorem dT_lettersIn_5 : decode cT_lettersIn 5 = .ok (.iload_n 3, 1) := by decide +kernel
theorem dT_lettersIn_6 : decode cT_lettersIn 6 = .ok (.ifCond .lt 50, 3) := by decide +kernel
theorem dT_lettersIn_9 : decode cT_lettersIn 9 = .ok (.lload_n 0, 1) := by decide +kernel
theorem dT_lettersIn_10 : decode cT_lettersIn 10 = .ok (.iload_n 3, 1) := by decide +kernel
theorem dT_lettersIn_11 : decode cT_lettersIn 11 = .ok (.lushr, 1) := by decide +kernel
theorem dT_lettersIn_12 : decode cT_lettersIn 12 = .ok (.l2i, 1) := by decide +kernel
theorem dT_lettersIn_13 : decode cT_lettersIn 13 = .ok (.sipush 255, 3) := by decide +kernel
theorem dT_lettersIn_16 : decode cT_lettersIn 16 = .ok (.iand, 1) := by decide +kernel
theorem dT_lettersIn_17 : decode cT_lettersIn 17 = .ok (.istore 4, 2) := by decide +kernel
theorem dT_lettersIn_19 : decode cT_lettersIn 19 = .ok (.iload 4, 2) := by decide +kernel
theorem dT_lettersIn_21 : decode cT_lettersIn 21 = .ok (.ifCond .eq 29, 3) := by decide +kernel
theorem dT_lettersIn_24 : decode cT_lettersIn 24 = .ok (.iload 4, 2) := by decide +kernel
theorem dT_lettersIn_26 : decode cT_lettersIn 26 = .ok (.bipush 10, 2) := by decide +kernel
theorem dT_lettersIn_28 : decode cT_lettersIn 28 = .ok (.if_icmp .eq 19, 3) := by decide +kernel
theorem dT_lettersIn_31 : decode cT_lettersIn 31 = .ok (.iload 4, 2) := by decide +kernel
theorem dT_lettersIn_33 : decode cT_lettersIn 33 = .ok (.bipush 32, 2) := by decide +kernel
theorem dT_lettersIn_35 : decode cT_lettersIn 35 = .ok (.if_icmp .lt 10, 3) := by decide +kernel
theorem dT_lettersIn_38 : decode cT_lettersIn 38 = .ok (.iload 4, 2) := by decide +kernel
theorem dT_lettersIn_40 : decode cT_lettersIn 40 = .ok (.bipush 126, 2) := by decide +kernel
theorem dT_lettersIn_42 : decode cT_lettersIn 42 = .ok (.if_icmp .le 5, 3) := by decide +kernel
theorem dT_lettersIn_45 : decode cT_lettersIn 45 = .ok (.iconst (-1), 1) := by decide +kernel
theorem dT_lettersIn_46 : decode cT_lettersIn 46 = .ok (.ireturn, 1) := by decide +kernel
theorem dT_lettersIn_47 : decode cT_lettersIn 47 = .ok (.iinc 2 1, 3) := by decide +kernel
theorem dT_lettersIn_50 : decode cT_lettersIn 50 = .ok (.iinc 3 (-8), 3) := by decide +kernel
theorem dT_lettersIn_53 : decode cT_lettersIn 53 = .ok (.goto (-48), 3) := by decide +kernel
theorem dT_lettersIn_56 : decode cT_lettersIn 56 = .ok (.iload_n 2, 1) := by decide +kernel
theorem dT_lettersIn_57 : decode cT_lettersIn 57 = .ok (.ireturn, 1) := by decide +kernel
theorem dC_wipe_0 : decode cC_wipe 0 = .ok (.aload_n 0, 1) := by decide +kernel
theorem dC_wipe_1 : decode cC_wipe 1 = .ok (.getfield 10, 3) := by decide +kernel
theorem dC_wipe_4 : decode cC_wipe 4 = .ok (.invokevirtual 52, 3) := by decide +kernel
theorem dC_wipe_7 : decode cC_wipe 7 = .ok (.return_, 1) := by decide +kernel
theorem dT_clear_0 : decode cT_clear 0 = .ok (.aload_n 0, 1) := by decide +kernel
theorem dT_clear_1 : decode cT_clear 1 = .ok (.iconst 0, 1) := by decide +kernel
theorem dT_clear_2 : decode cT_clear 2 = .ok (.putfield 19, 3) := by decide +kernel
theorem dT_clear_5 : decode cT_clear 5 = .ok (.return_, 1) := by decide +kernel
theorem dC_length_0 : decode cC_length 0 = .ok (.aload_n 0, 1) := by decide +kernel
theorem dC_length_1 : decode cC_length 1 = .ok (.getfield 10, 3) := by decide +kernel
theorem dC_length_4 : decode cC_length 4 = .ok (.getfield 55, 3) := by decide +kernel
theorem dC_length_7 : decode cC_length 7 = .ok (.ireturn, 1) := by decide +kernel
theorem dL_load_0 : decode cL_load 0 = .ok (.aload_n 1, 1) := by decide +kernel
theorem dL_load_1 : decode cL_load 1 = .ok (.iconst 0, 1) := by decide +kernel
theorem dL_load_2 : decode cL_load 2 = .ok (.aload_n 0, 1) := by decide +kernel
theorem dL_load_3 : decode cL_load 3 = .ok (.invokevirtual 7, 3) := by decide +kernel
theorem dL_load_6 : decode cL_load 6 = .ok (.i2l, 1) := by decide +kernel
theorem dL_load_7 : decode cL_load 7 = .ok (.lastore, 1) := by decide +kernel
theorem dL_load_8 : decode cL_load 8 = .ok (.goto 9, 3) := by decide +kernel
theorem dL_load_11 : decode cL_load 11 = .ok (.astore_n 2, 1) := by decide +kernel
theorem dL_load_12 : decode cL_load 12 = .ok (.iconst 1, 1) := by decide +kernel
theorem dL_load_13 : decode cL_load 13 = .ok (.ireturn, 1) := by decide +kernel
theorem dL_load_14 : decode cL_load 14 = .ok (.astore_n 2, 1) := by decide +kernel
theorem dL_load_15 : decode cL_load 15 = .ok (.iconst 2, 1) := by decide +kernel
theorem dL_load_16 : decode cL_load 16 = .ok (.ireturn, 1) := by decide +kernel
theorem dL_load_17 : decode cL_load 17 = .ok (.iconst 0, 1) := by decide +kernel
theorem dL_load_18 : decode cL_load 18 = .ok (.ireturn, 1) := by decide +kernel
theorem dC_load_0 : decode cC_load 0 = .ok (.aload_n 0, 1) := by decide +kernel
theorem dC_load_1 : decode cC_load 1 = .ok (.getfield 19, 3) := by decide +kernel
theorem dC_load_4 : decode cC_load 4 = .ok (.aload_n 0, 1) := by decide +kernel
theorem dC_load_5 : decode cC_load 5 = .ok (.getfield 10, 3) := by decide +kernel
theorem dC_load_8 : decode cC_load 8 = .ok (.invokevirtual 59, 3) := by decide +kernel
theorem dC_load_11 : decode cC_load 11 = .ok (.ifCond .ne 13, 3) := by decide +kernel
theorem dC_load_14 : decode cC_load 14 = .ok (.new 63, 3) := by decide +kernel
theorem dC_load_17 : decode cC_load 17 = .ok (.dup, 1) := by decide +kernel
theorem dC_load_18 : decode cC_load 18 = .ok (.ldc 65, 2) := by decide +kernel
theorem dC_load_20 : decode cC_load 20 = .ok (.invokespecial 67, 3) := by decide +kernel
theorem dC_load_23 : decode cC_load 23 = .ok (.athrow, 1) := by decide +kernel
theorem dC_load_24 : decode cC_load 24 = .ok (.aload_n 0, 1) := by decide +kernel
theorem dC_load_25 : decode cC_load 25 = .ok (.getfield 19, 3) := by decide +kernel
theorem dC_load_28 : decode cC_load 28 = .ok (.invokevirtual 70, 3) := by decide +kernel
theorem dC_load_31 : decode cC_load 31 = .ok (.ifCond .ne 13, 3) := by decide +kernel
theorem dC_load_34 : decode cC_load 34 = .ok (.new 74, 3) := by decide +kernel
theorem dC_load_37 : decode cC_load 37 = .ok (.dup, 1) := by decide +kernel
theorem dC_load_38 : decode cC_load 38 = .ok (.ldc 76, 2) := by decide +kernel
theorem dC_load_40 : decode cC_load 40 = .ok (.invokespecial 78, 3) := by decide +kernel
theorem dC_load_43 : decode cC_load 43 = .ok (.athrow, 1) := by decide +kernel
theorem dC_load_44 : decode cC_load 44 = .ok (.aload_n 0, 1) := by decide +kernel
theorem dC_load_45 : decode cC_load 45 = .ok (.getfield 26, 3) := by decide +kernel
theorem dC_load_48 : decode cC_load 48 = .ok (.aload_n 0, 1) := by decide +kernel
theorem dC_load_49 : decode cC_load 49 = .ok (.getfield 19, 3) := by decide +kernel
theorem dC_load_52 : decode cC_load 52 = .ok (.invokevirtual 79, 3) := by decide +kernel
theorem dC_load_55 : decode cC_load 55 = .ok (.aload_n 0, 1) := by decide +kernel
theorem dC_load_56 : decode cC_load 56 = .ok (.getfield 33, 3) := by decide +kernel
theorem dC_load_59 : decode cC_load 59 = .ok (.aload_n 0, 1) := by decide +kernel
theorem dC_load_60 : decode cC_load 60 = .ok (.getfield 26, 3) := by decide +kernel
theorem dC_load_63 : decode cC_load 63 = .ok (.invokevirtual 83, 3) := by decide +kernel
theorem dC_load_66 : decode cC_load 66 = .ok (.aload_n 0, 1) := by decide +kernel
theorem dC_load_67 : decode cC_load 67 = .ok (.getfield 10, 3) := by decide +kernel
theorem dC_load_70 : decode cC_load 70 = .ok (.invokevirtual 52, 3) := by decide +kernel
theorem dC_load_73 : decode cC_load 73 = .ok (.aload_n 0, 1) := by decide +kernel
theorem dC_load_74 : decode cC_load 74 = .ok (.iconst 1, 1) := by decide +kernel
theorem dC_load_75 : decode cC_load 75 = .ok (.putfield 44, 3) := by decide +kernel
theorem dC_load_78 : decode cC_load 78 = .ok (.aload_n 0, 1) := by decide +kernel
theorem dC_load_79 : decode cC_load 79 = .ok (.getfield 26, 3) := by decide +kernel
theorem dC_load_82 : decode cC_load 82 = .ok (.getfield 87, 3) := by decide +kernel
theorem dC_load_85 : decode cC_load 85 = .ok (.ireturn, 1) := by decide +kernel
theorem dT_readFromFront_0 : decode cT_readFromFront 0 = .ok (.aload_n 0, 1) := by decide +kernel
theorem dT_readFromFront_1 : decode cT_readFromFront 1 = .ok (.iconst 0, 1) := by decide +kernel
theorem dT_readFromFront_2 : decode cT_readFromFront 2 = .ok (.putfield 23, 3) := by decide +kernel
theorem dT_readFromFront_5 : decode cT_readFromFront 5 = .ok (.return_, 1) := by decide +kernel
theorem dT_skip_0 : decode cT_skip 0 = .ok (.aload_n 0, 1) := by decide +kernel
theorem dT_skip_1 : decode cT_skip 1 = .ok (.getfield 23, 3) := by decide +kernel
theorem dT_skip_4 : decode cT_skip 4 = .ok (.aload_n 0, 1) := by decide +kernel
theorem dT_skip_5 : decode cT_skip 5 = .ok (.getfield 19, 3) := by decide +kernel
theorem dT_skip_8 : decode cT_skip 8 = .ok (.if_icmp .ge 28, 3) := by decide +kernel
theorem dT_skip_11 : decode cT_skip 11 = .ok (.aload_n 0, 1) := by decide +kernel
theorem dT_skip_12 : decode cT_skip 12 = .ok (.getfield 11, 3) := by decide +kernel
theorem dT_skip_15 : decode cT_skip 15 = .ok (.aload_n 0, 1) := by decide +kernel
theorem dT_skip_16 : decode cT_skip 16 = .ok (.getfield 23, 3) := by decide +kernel
theorem dT_skip_19 : decode cT_skip 19 = .ok (.baload, 1) := by decide +kernel
theorem dT_skip_20 : decode cT_skip 20 = .ok (.iload_n 1, 1) := by decide +kernel
theorem dT_skip_21 : decode cT_skip 21 = .ok (.if_icmp .ne 15, 3) := by decide +kernel
theorem dT_skip_24 : decode cT_skip 24 = .ok (.aload_n 0, 1) := by decide +kernel
theorem dT_skip_25 : decode cT_skip 25 = .ok (.dup, 1) := by decide +kernel
theorem dT_skip_26 : decode cT_skip 26 = .ok (.getfield 23, 3) := by decide +kernel
theorem dT_skip_29 : decode cT_skip 29 = .ok (.iconst 1, 1) := by decide +kernel
theorem dT_skip_30 : decode cT_skip 30 = .ok (.iadd, 1) := by decide +kernel
theorem dT_skip_31 : decode cT_skip 31 = .ok (.putfield 23, 3) := by decide +kernel
theorem dT_skip_34 : decode cT_skip 34 = .ok (.iconst 1, 1) := by decide +kernel
theorem dT_skip_35 : decode cT_skip 35 = .ok (.ireturn, 1) := by decide +kernel
theorem dT_skip_36 : decode cT_skip 36 = .ok (.iconst 0, 1) := by decide +kernel
theorem dT_skip_37 : decode cT_skip 37 = .ok (.ireturn, 1) := by decide +kernel
theorem dT_readLine_0 : decode cT_readLine 0 = .ok (.iconst 0, 1) := by decide +kernel
theorem dT_readLine_1 : decode cT_readLine 1 = .ok (.istore_n 1, 1) := by decide +kernel
theorem dT_readLine_2 : decode cT_readLine 2 = .ok (.iload_n 1, 1) := by decide +kernel
theorem dT_readLine_3 : decode cT_readLine 3 = .ok (.iconst 5, 1) := by decide +kernel
theorem dT_readLine_4 : decode cT_readLine 4 = .ok (.if_icmp .ge 52, 3) := by decide +kernel
theorem dT_readLine_7 : decode cT_readLine 7 = .ok (.aload_n 0, 1) := by decide +kernel
theorem dT_readLine_8 : decode cT_readLine 8 = .ok (.invokevirtual 30, 3) := by decide +kernel
theorem dT_readLine_11 : decode cT_readLine 11 = .ok (.istore_n 2, 1) := by decide +kernel
theorem dT_readLine_12 : decode cT_readLine 12 = .ok (.iload_n 2, 1) := by decide +kernel
theorem dT_readLine_13 : decode cT_readLine 13 = .ok (.iconst (-1), 1) := by decide +kernel
theorem dT_readLine_14 : decode cT_readLine 14 = .ok (.if_icmp .ne 5, 3) := by decide +kernel
theorem dT_readLine_17 : decode cT_readLine 17 = .ok (.iconst 0, 1) := by decide +kernel
theorem dT_readLine_18 : decode cT_readLine 18 = .ok (.ireturn, 1) := by decide +kernel
theorem dT_readLine_19 : decode cT_readLine 19 = .ok (.aload_n 0, 1) := by decide +kernel
theorem dT_readLine_20 : decode cT_readLine 20 = .ok (.getfield 15, 3) := by decide +kernel
theorem dT_readLine_23 : decode cT_readLine 23 = .ok (.iload_n 1, 1) := by decide +kernel
theorem dT_readLine_24 : decode cT_readLine 24 = .ok (.iload_n 2, 1) := by decide +kernel
theorem dT_readLine_25 : decode cT_readLine 25 = .ok (.iastore, 1) := by decide +kernel
theorem dT_readLine_26 : decode cT_readLine 26 = .ok (.aload_n 0, 1) := by decide +kernel
theorem dT_readLine_27 : decode cT_readLine 27 = .ok (.bipush 10, 2) := by decide +kernel
theorem dT_readLine_29 : decode cT_readLine 29 = .ok (.invokevirtual 34, 3) := by decide +kernel
theorem dT_readLine_32 : decode cT_readLine 32 = .ok (.ifCond .eq 7, 3) := by decide +kernel
theorem dT_readLine_35 : decode cT_readLine 35 = .ok (.iload_n 1, 1) := by decide +kernel
theorem dT_readLine_36 : decode cT_readLine 36 = .ok (.iconst 1, 1) := by decide +kernel
theorem dT_readLine_37 : decode cT_readLine 37 = .ok (.iadd, 1) := by decide +kernel
theorem dT_readLine_38 : decode cT_readLine 38 = .ok (.ireturn, 1) := by decide +kernel
theorem dT_readLine_39 : decode cT_readLine 39 = .ok (.aload_n 0, 1) := by decide +kernel
theorem dT_readLine_40 : decode cT_readLine 40 = .ok (.bipush 32, 2) := by decide +kernel
theorem dT_readLine_42 : decode cT_readLine 42 = .ok (.invokevirtual 34, 3) := by decide +kernel
theorem dT_readLine_45 : decode cT_readLine 45 = .ok (.ifCond .ne 5, 3) := by decide +kernel
theorem dT_readLine_48 : decode cT_readLine 48 = .ok (.iconst 0, 1) := by decide +kernel
theorem dT_readLine_49 : decode cT_readLine 49 = .ok (.ireturn, 1) := by decide +kernel
theorem dT_readLine_50 : decode cT_readLine 50 = .ok (.iinc 1 1, 3) := by decide +kernel
theorem dT_readLine_53 : decode cT_readLine 53 = .ok (.goto (-51), 3) := by decide +kernel
theorem dT_readLine_56 : decode cT_readLine 56 = .ok (.iconst 0, 1) := by decide +kernel
theorem dT_readLine_57 : decode cT_readLine 57 = .ok (.ireturn, 1) := by decide +kernel
theorem dT_readNumber_0 : decode cT_readNumber 0 = .ok (.aload_n 0, 1) := by decide +kernel
theorem dT_readNumber_1 : decode cT_readNumber 1 = .ok (.invokevirtual 38, 3) := by decide +kernel
theorem dT_readNumber_4 : decode cT_readNumber 4 = .ok (.istore_n 1, 1) := by decide +kernel
theorem dT_readNumber_5 : decode cT_readNumber 5 = .ok (.iload_n 1, 1) := by decide +kernel
theorem dT_readNumber_6 : decode cT_readNumber 6 = .ok (.ifCond .gt 5, 3) := by decide +kernel
theorem dT_readNumber_9 : decode cT_readNumber 9 = .ok (.iload_n 1, 1) := by decide +kernel
theorem dT_readNumber_10 : decode cT_readNumber 10 = .ok (.ireturn, 1) := by decide +kernel
theorem dT_readNumber_11 : decode cT_readNumber 11 = .ok (.aload_n 0, 1) := by decide +kernel
theorem dT_readNumber_12 : decode cT_readNumber 12 = .ok (.invokevirtual 38, 3) := by decide +kernel
theorem dT_readNumber_15 : decode cT_readNumber 15 = .ok (.istore_n 2, 1) := by decide +kernel
theorem dT_readNumber_16 : decode cT_readNumber 16 = .ok (.iload_n 2, 1) := by decide +kernel
theorem dT_readNumber_17 : decode cT_readNumber 17 = .ok (.iconst (-1), 1) := by decide +kernel
theorem dT_readNumber_18 : decode cT_readNumber 18 = .ok (.if_icmp .ne 7, 3) := by decide +kernel
theorem dT_readNumber_21 : decode cT_readNumber 21 = .ok (.iload_n 1, 1) := by decide +kernel
theorem dT_readNumber_22 : decode cT_readNumber 22 = .ok (.goto 9, 3) := by decide +kernel
theorem dT_readNumber_25 : decode cT_readNumber 25 = .ok (.bipush 10, 2) := by decide +kernel
theorem dT_readNumber_27 : decode cT_readNumber 27 = .ok (.iload_n 1, 1) := by decide +kernel
theorem dT_readNumber_28 : decode cT_readNumber 28 = .ok (.imul, 1) := by decide +kernel
theorem dT_readNumber_29 : decode cT_readNumber 29 = .ok (.iload_n 2, 1) := by decide +kernel
theorem dT_readNumber_30 : decode cT_readNumber 30 = .ok (.iadd, 1) := by decide +kernel
theorem dT_readNumber_31 : decode cT_readNumber 31 = .ok (.ireturn, 1) := by decide +kernel
theorem dT_readDigit_0 : decode cT_readDigit 0 = .ok (.aload_n 0, 1) := by decide +kernel
theorem dT_readDigit_1 : decode cT_readDigit 1 = .ok (.getfield 23, 3) := by decide +kernel
theorem dT_readDigit_4 : decode cT_readDigit 4 = .ok (.aload_n 0, 1) := by decide +kernel
theorem dT_readDigit_5 : decode cT_readDigit 5 = .ok (.getfield 19, 3) := by decide +kernel
theorem dT_readDigit_8 : decode cT_readDigit 8 = .ok (.if_icmp .ge 56, 3) := by decide +kernel
theorem dT_readDigit_11 : decode cT_readDigit 11 = .ok (.aload_n 0, 1) := by decide +kernel
theorem dT_readDigit_12 : decode cT_readDigit 12 = .ok (.getfield 11, 3) := by decide +kernel
theorem dT_readDigit_15 : decode cT_readDigit 15 = .ok (.aload_n 0, 1) := by decide +kernel
theorem dT_readDigit_16 : decode cT_readDigit 16 = .ok (.getfield 23, 3) := by decide +kernel
theorem dT_readDigit_19 : decode cT_readDigit 19 = .ok (.baload, 1) := by decide +kernel
theorem dT_readDigit_20 : decode cT_readDigit 20 = .ok (.bipush 48, 2) := by decide +kernel
theorem dT_readDigit_22 : decode cT_readDigit 22 = .ok (.if_icmp .lt 42, 3) := by decide +kernel
theorem dT_readDigit_25 : decode cT_readDigit 25 = .ok (.aload_n 0, 1) := by decide +kernel
theorem dT_readDigit_26 : decode cT_readDigit 26 = .ok (.getfield 11, 3) := by decide +kernel
theorem dT_readDigit_29 : decode cT_readDigit 29 = .ok (.aload_n 0, 1) := by decide +kernel
theorem dT_readDigit_30 : decode cT_readDigit 30 = .ok (.getfield 23, 3) := by decide +kernel
theorem dT_readDigit_33 : decode cT_readDigit 33 = .ok (.baload, 1) := by decide +kernel
theorem dT_readDigit_34 : decode cT_readDigit 34 = .ok (.bipush 57, 2) := by decide +kernel
theorem dT_readDigit_36 : decode cT_readDigit 36 = .ok (.if_icmp .gt 28, 3) := by decide +kernel
theorem dT_readDigit_39 : decode cT_readDigit 39 = .ok (.aload_n 0, 1) := by decide +kernel
theorem dT_readDigit_40 : decode cT_readDigit 40 = .ok (.dup, 1) := by decide +kernel
theorem dT_readDigit_41 : decode cT_readDigit 41 = .ok (.getfield 23, 3) := by decide +kernel
theorem dT_readDigit_44 : decode cT_readDigit 44 = .ok (.iconst 1, 1) := by decide +kernel
theorem dT_readDigit_45 : decode cT_readDigit 45 = .ok (.iadd, 1) := by decide +kernel
theorem dT_readDigit_46 : decode cT_readDigit 46 = .ok (.putfield 23, 3) := by decide +kernel
theorem dT_readDigit_49 : decode cT_readDigit 49 = .ok (.aload_n 0, 1) := by decide +kernel
theorem dT_readDigit_50 : decode cT_readDigit 50 = .ok (.getfield 11, 3) := by decide +kernel
theorem dT_readDigit_53 : decode cT_readDigit 53 = .ok (.aload_n 0, 1) := by decide +kernel
theorem dT_readDigit_54 : decode cT_readDigit 54 = .ok (.getfield 23, 3) := by decide +kernel
theorem dT_readDigit_57 : decode cT_readDigit 57 = .ok (.iconst 1, 1) := by decide +kernel
theorem dT_readDigit_58 : decode cT_readDigit 58 = .ok (.isub, 1) := by decide +kernel
theorem dT_readDigit_59 : decode cT_readDigit 59 = .ok (.baload, 1) := by decide +kernel
theorem dT_readDigit_60 : decode cT_readDigit 60 = .ok (.bipush 48, 2) := by decide +kernel
theorem dT_readDigit_62 : decode cT_readDigit 62 = .ok (.isub, 1) := by decide +kernel
theorem dT_readDigit_63 : decode cT_readDigit 63 = .ok (.ireturn, 1) := by decide +kernel
theorem dT_readDigit_64 : decode cT_readDigit 64 = .ok (.iconst (-1), 1) := by decide +kernel
theorem dT_readDigit_65 : decode cT_readDigit 65 = .ok (.ireturn, 1) := by decide +kernel
theorem dT_allIsRead_0 : decode cT_allIsRead 0 = .ok (.aload_n 0, 1) := by decide +kernel
theorem dT_allIsRead_1 : decode cT_allIsRead 1 = .ok (.getfield 23, 3) := by decide +kernel
theorem dT_allIsRead_4 : decode cT_allIsRead 4 = .ok (.aload_n 0, 1) := by decide +kernel
theorem dT_allIsRead_5 : decode cT_allIsRead 5 = .ok (.getfield 19, 3) := by decide +kernel
theorem dT_allIsRead_8 : decode cT_allIsRead 8 = .ok (.if_icmp .ne 7, 3) := by decide +kernel
theorem dT_allIsRead_11 : decode cT_allIsRead 11 = .ok (.iconst 1, 1) := by decide +kernel
theorem dT_allIsRead_12 : decode cT_allIsRead 12 = .ok (.goto 4, 3) := by decide +kernel
theorem dT_allIsRead_15 : decode cT_allIsRead 15 = .ok (.iconst 0, 1) := by decide +kernel
theorem dT_allIsRead_16 : decode cT_allIsRead 16 = .ok (.ireturn, 1) := by decide +kernel
theorem dC_contains_0 : decode cC_contains 0 = .ok (.lload_n 0, 1) := by decide +kernel
theorem dC_contains_1 : decode cC_contains 1 = .ok (.iload_n 2, 1) := by decide +kernel
theorem dC_contains_2 : decode cC_contains 2 = .ok (.lushr, 1) := by decide +kernel
theorem dC_contains_3 : decode cC_contains 3 = .ok (.lconst 1, 1) := by decide +kernel
theorem dC_contains_4 : decode cC_contains 4 = .ok (.land, 1) := by decide +kernel
theorem dC_contains_5 : decode cC_contains 5 = .ok (.lconst 0, 1) := by decide +kernel
theorem dC_contains_6 : decode cC_contains 6 = .ok (.lcmp, 1) := by decide +kernel
theorem dC_contains_7 : decode cC_contains 7 = .ok (.ifCond .eq 7, 3) := by decide +kernel
theorem dC_contains_10 : decode cC_contains 10 = .ok (.iconst 1, 1) := by decide +kernel
theorem dC_contains_11 : decode cC_contains 11 = .ok (.goto 4, 3) := by decide +kernel
theorem dC_contains_14 : decode cC_contains 14 = .ok (.iconst 0, 1) := by decide +kernel
theorem dC_contains_15 : decode cC_contains 15 = .ok (.ireturn, 1) := by decide +kernel
theorem dL_circuit_0 : decode cL_circuit 0 = .ok (.aload_n 2, 1) := by decide +kernel
theorem dL_circuit_1 : decode cL_circuit 1 = .ok (.iconst 0, 1) := by decide +kernel
theorem dL_circuit_2 : decode cL_circuit 2 = .ok (.aload_n 0, 1) := by decide +kernel
theorem dL_circuit_3 : decode cL_circuit 3 = .ok (.iload_n 1, 1) := by decide +kernel
theorem dL_circuit_4 : decode cL_circuit 4 = .ok (.invokevirtual 17, 3) := by decide +kernel
theorem dL_circuit_7 : decode cL_circuit 7 = .ok (.i2l, 1) := by decide +kernel
theorem dL_circuit_8 : decode cL_circuit 8 = .ok (.lastore, 1) := by decide +kernel
theorem dL_circuit_9 : decode cL_circuit 9 = .ok (.goto 6, 3) := by decide +kernel
theorem dL_circuit_12 : decode cL_circuit 12 = .ok (.astore_n 3, 1) := by decide +kernel
theorem dL_circuit_13 : decode cL_circuit 13 = .ok (.iconst 1, 1) := by decide +kernel
theorem dL_circuit_14 : decode cL_circuit 14 = .ok (.ireturn, 1) := by decide +kernel
theorem dL_circuit_15 : decode cL_circuit 15 = .ok (.iconst 0, 1) := by decide +kernel
theorem dL_circuit_16 : decode cL_circuit 16 = .ok (.ireturn, 1) := by decide +kernel
theorem dC_circuit_0 : decode cC_circuit 0 = .ok (.aload_n 0, 1) := by decide +kernel
theorem dC_circuit_1 : decode cC_circuit 1 = .ok (.invokevirtual 90, 3) := by decide +kernel
theorem dC_circuit_4 : decode cC_circuit 4 = .ok (.iload_n 1, 1) := by decide +kernel
theorem dC_circuit_5 : decode cC_circuit 5 = .ok (.ifCond .lt 18, 3) := by decide +kernel
theorem dC_circuit_8 : decode cC_circuit 8 = .ok (.iload_n 1, 1) := by decide +kernel
theorem dC_circuit_9 : decode cC_circuit 9 = .ok (.iconst 5, 1) := by decide +kernel
theorem dC_circuit_10 : decode cC_circuit 10 = .ok (.if_icmp .ge 13, 3) := by decide +kernel
theorem dC_circuit_13 : decode cC_circuit 13 = .ok (.aload_n 0, 1) := by decide +kernel
theorem dC_circuit_14 : decode cC_circuit 14 = .ok (.getfield 26, 3) := by decide +kernel
theorem dC_circuit_17 : decode cC_circuit 17 = .ok (.getfield 93, 3) := by decide +kernel
theorem dC_circuit_20 : decode cC_circuit 20 = .ok (.iload_n 1, 1) := by decide +kernel
theorem dC_circuit_21 : decode cC_circuit 21 = .ok (.iaload, 1) := by decide +kernel
theorem dC_circuit_22 : decode cC_circuit 22 = .ok (.ireturn, 1) := by decide +kernel
theorem dC_circuit_23 : decode cC_circuit 23 = .ok (.iload_n 1, 1) := by decide +kernel
theorem dC_circuit_24 : decode cC_circuit 24 = .ok (.iconst 5, 1) := by decide +kernel
theorem dC_circuit_25 : decode cC_circuit 25 = .ok (.if_icmp .ne 13, 3) := by decide +kernel
theorem dC_circuit_28 : decode cC_circuit 28 = .ok (.aload_n 0, 1) := by decide +kernel
theorem dC_circuit_29 : decode cC_circuit 29 = .ok (.getfield 26, 3) := by decide +kernel
theorem dC_circuit_32 : decode cC_circuit 32 = .ok (.getfield 97, 3) := by decide +kernel
theorem dC_circuit_35 : decode cC_circuit 35 = .ok (.goto 4, 3) := by decide +kernel
theorem dC_circuit_38 : decode cC_circuit 38 = .ok (.iconst (-1), 1) := by decide +kernel
theorem dC_circuit_39 : decode cC_circuit 39 = .ok (.ireturn, 1) := by decide +kernel
theorem dC_requireCircuit_0 : decode cC_requireCircuit 0 = .ok (.aload_n 0, 1) := by decide +kernel
theorem dC_requireCircuit_1 : decode cC_requireCircuit 1 = .ok (.getfield 44, 3) := by decide +kernel
theorem dC_requireCircuit_4 : decode cC_requireCircuit 4 = .ok (.ifCond .ne 13, 3) := by decide +kernel
theorem dC_requireCircuit_7 : decode cC_requireCircuit 7 = .ok (.new 156, 3) := by decide +kernel
theorem dC_requireCircuit_10 : decode cC_requireCircuit 10 = .ok (.dup, 1) := by decide +kernel
theorem dC_requireCircuit_11 : decode cC_requireCircuit 11 = .ok (.ldc 158, 2) := by decide +kernel
theorem dC_requireCircuit_13 : decode cC_requireCircuit 13 = .ok (.invokespecial 160, 3) := by decide +kernel
theorem dC_requireCircuit_16 : decode cC_requireCircuit 16 = .ok (.athrow, 1) := by decide +kernel
theorem dC_requireCircuit_17 : decode cC_requireCircuit 17 = .ok (.return_, 1) := by decide +kernel
theorem dL_go_0 : decode cL_go 0 = .ok (.aload_n 3, 1) := by decide +kernel
theorem dL_go_1 : decode cL_go 1 = .ok (.iconst 0, 1) := by decide +kernel
theorem dL_go_2 : decode cL_go 2 = .ok (.aload_n 0, 1) := by decide +kernel
theorem dL_go_3 : decode cL_go 3 = .ok (.iload_n 1, 1) := by decide +kernel
theorem dL_go_4 : decode cL_go 4 = .ok (.iload_n 2, 1) := by decide +kernel
theorem dL_go_5 : decode cL_go 5 = .ok (.invokevirtual 23, 3) := by decide +kernel
theorem dL_go_8 : decode cL_go 8 = .ok (.i2l, 1) := by decide +kernel
theorem dL_go_9 : decode cL_go 9 = .ok (.lastore, 1) := by decide +kernel
theorem dL_go_10 : decode cL_go 10 = .ok (.goto 11, 3) := by decide +kernel
theorem dL_go_13 : decode cL_go 13 = .ok (.astore 4, 2) := by decide +kernel
theorem dL_go_15 : decode cL_go 15 = .ok (.iconst 1, 1) := by decide +kernel
theorem dL_go_16 : decode cL_go 16 = .ok (.ireturn, 1) := by decide +kernel
theorem dL_go_17 : decode cL_go 17 = .ok (.astore 4, 2) := by decide +kernel
theorem dL_go_19 : decode cL_go 19 = .ok (.iconst 2, 1) := by decide +kernel
theorem dL_go_20 : decode cL_go 20 = .ok (.ireturn, 1) := by decide +kernel
theorem dL_go_21 : decode cL_go 21 = .ok (.iconst 0, 1) := by decide +kernel
theorem dL_go_22 : decode cL_go 22 = .ok (.ireturn, 1) := by decide +kernel
theorem dC_go_0 : decode cC_go 0 = .ok (.aload_n 0, 1) := by decide +kernel
theorem dC_go_1 : decode cC_go 1 = .ok (.invokevirtual 90, 3) := by decide +kernel
theorem dC_go_4 : decode cC_go 4 = .ok (.aload_n 0, 1) := by decide +kernel
theorem dC_go_5 : decode cC_go 5 = .ok (.iload_n 1, 1) := by decide +kernel
theorem dC_go_6 : decode cC_go 6 = .ok (.iload_n 2, 1) := by decide +kernel
theorem dC_go_7 : decode cC_go 7 = .ok (.invokevirtual 100, 3) := by decide +kernel
theorem dC_go_10 : decode cC_go 10 = .ok (.aload_n 0, 1) := by decide +kernel
theorem dC_go_11 : decode cC_go 11 = .ok (.getfield 26, 3) := by decide +kernel
theorem dC_go_14 : decode cC_go 14 = .ok (.iload_n 1, 1) := by decide +kernel
theorem dC_go_15 : decode cC_go 15 = .ok (.iload_n 2, 1) := by decide +kernel
theorem dC_go_16 : decode cC_go 16 = .ok (.invokevirtual 104, 3) := by decide +kernel
theorem dC_go_19 : decode cC_go 19 = .ok (.ireturn, 1) := by decide +kernel
theorem dC_requirePlace_0 : decode cC_requirePlace 0 = .ok (.aload_n 0, 1) := by decide +kernel
theorem dC_requirePlace_1 : decode cC_requirePlace 1 = .ok (.getfield 26, 3) := by decide +kernel
theorem dC_requirePlace_4 : decode cC_requirePlace 4 = .ok (.iload_n 1, 1) := by decide +kernel
theorem dC_requirePlace_5 : decode cC_requirePlace 5 = .ok (.invokevirtual 127, 3) := by decide +kernel
theorem dC_requirePlace_8 : decode cC_requirePlace 8 = .ok (.ifCond .eq 14, 3) := by decide +kernel
theorem dC_requirePlace_11 : decode cC_requirePlace 11 = .ok (.aload_n 0, 1) := by decide +kernel
theorem dC_requirePlace_12 : decode cC_requirePlace 12 = .ok (.getfield 26, 3) := by decide +kernel
theorem dC_requirePlace_15 : decode cC_requirePlace 15 = .ok (.iload_n 2, 1) := by decide +kernel
theorem dC_requirePlace_16 : decode cC_requirePlace 16 = .ok (.invokevirtual 161, 3) := by decide +kernel
theorem dC_requirePlace_19 : decode cC_requirePlace 19 = .ok (.ifCond .ne 13, 3) := by decide +kernel
theorem dC_requirePlace_22 : decode cC_requirePlace 22 = .ok (.new 164, 3) := by decide +kernel
theorem dC_requirePlace_25 : decode cC_requirePlace 25 = .ok (.dup, 1) := by decide +kernel
theorem dC_requirePlace_26 : decode cC_requirePlace 26 = .ok (.ldc 166, 2) := by decide +kernel
theorem dC_requirePlace_28 : decode cC_requirePlace 28 = .ok (.invokespecial 168, 3) := by decide +kernel
theorem dC_requirePlace_31 : decode cC_requirePlace 31 = .ok (.athrow, 1) := by decide +kernel
theorem dC_requirePlace_32 : decode cC_requirePlace 32 = .ok (.return_, 1) := by decide +kernel
theorem dL_output_0 : decode cL_output 0 = .ok (.aload_n 3, 1) := by decide +kernel
theorem dL_output_1 : decode cL_output 1 = .ok (.iconst 0, 1) := by decide +kernel
theorem dL_output_2 : decode cL_output 2 = .ok (.aload_n 0, 1) := by decide +kernel
theorem dL_output_3 : decode cL_output 3 = .ok (.iload_n 1, 1) := by decide +kernel
theorem dL_output_4 : decode cL_output 4 = .ok (.iload_n 2, 1) := by decide +kernel
theorem dL_output_5 : decode cL_output 5 = .ok (.invokevirtual 29, 3) := by decide +kernel
theorem dL_output_8 : decode cL_output 8 = .ok (.ifCond .eq 7, 3) := by decide +kernel
theorem dL_output_11 : decode cL_output 11 = .ok (.lconst 1, 1) := by decide +kernel
theorem dL_output_12 : decode cL_output 12 = .ok (.goto 4, 3) := by decide +kernel
theorem dL_output_15 : decode cL_output 15 = .ok (.lconst 0, 1) := by decide +kernel
theorem dL_output_16 : decode cL_output 16 = .ok (.lastore, 1) := by decide +kernel
theorem dL_output_17 : decode cL_output 17 = .ok (.goto 11, 3) := by decide +kernel
theorem dL_output_20 : decode cL_output 20 = .ok (.astore 4, 2) := by decide +kernel
theorem dL_output_22 : decode cL_output 22 = .ok (.iconst 1, 1) := by decide +kernel
theorem dL_output_23 : decode cL_output 23 = .ok (.ireturn, 1) := by decide +kernel
theorem dL_output_24 : decode cL_output 24 = .ok (.astore 4, 2) := by decide +kernel
theorem dL_output_26 : decode cL_output 26 = .ok (.iconst 2, 1) := by decide +kernel
theorem dL_output_27 : decode cL_output 27 = .ok (.ireturn, 1) := by decide +kernel
theorem dL_output_28 : decode cL_output 28 = .ok (.iconst 0, 1) := by decide +kernel
theorem dL_output_29 : decode cL_output 29 = .ok (.ireturn, 1) := by decide +kernel
theorem dC_output_0 : decode cC_output 0 = .ok (.aload_n 0, 1) := by decide +kernel
theorem dC_output_1 : decode cC_output 1 = .ok (.invokevirtual 90, 3) := by decide +kernel
theorem dC_output_4 : decode cC_output 4 = .ok (.aload_n 0, 1) := by decide +kernel
theorem dC_output_5 : decode cC_output 5 = .ok (.iload_n 1, 1) := by decide +kernel
theorem dC_output_6 : decode cC_output 6 = .ok (.iload_n 2, 1) := by decide +kernel
theorem dC_output_7 : decode cC_output 7 = .ok (.invokevirtual 100, 3) := by decide +kernel
theorem dC_output_10 : decode cC_output 10 = .ok (.aload_n 0, 1) := by decide +kernel
theorem dC_output_11 : decode cC_output 11 = .ok (.getfield 26, 3) := by decide +kernel
theorem dC_output_14 : decode cC_output 14 = .ok (.iload_n 1, 1) := by decide +kernel
theorem dC_output_15 : decode cC_output 15 = .ok (.iload_n 2, 1) := by decide +kernel
theorem dC_output_16 : decode cC_output 16 = .ok (.invokevirtual 108, 3) := by decide +kernel
theorem dC_output_19 : decode cC_output 19 = .ok (.ireturn, 1) := by decide +kernel
theorem dL_safe_0 : decode cL_safe 0 = .ok (.aload_n 1, 1) := by decide +kernel
theorem dL_safe_1 : decode cL_safe 1 = .ok (.iconst 0, 1) := by decide +kernel
theorem dL_safe_2 : decode cL_safe 2 = .ok (.aload_n 0, 1) := by decide +kernel
theorem dL_safe_3 : decode cL_safe 3 = .ok (.invokevirtual 33, 3) := by decide +kernel
theorem dL_safe_6 : decode cL_safe 6 = .ok (.ifCond .eq 7, 3) := by decide +kernel
theorem dL_safe_9 : decode cL_safe 9 = .ok (.lconst 1, 1) := by decide +kernel
theorem dL_safe_10 : decode cL_safe 10 = .ok (.goto 4, 3) := by decide +kernel
theorem dL_safe_13 : decode cL_safe 13 = .ok (.lconst 0, 1) := by decide +kernel
theorem dL_safe_14 : decode cL_safe 14 = .ok (.lastore, 1) := by decide +kernel
theorem dL_safe_15 : decode cL_safe 15 = .ok (.goto 6, 3) := by decide +kernel
theorem dL_safe_18 : decode cL_safe 18 = .ok (.astore_n 2, 1) := by decide +kernel
theorem dL_safe_19 : decode cL_safe 19 = .ok (.iconst 1, 1) := by decide +kernel
theorem dL_safe_20 : decode cL_safe 20 = .ok (.ireturn, 1) := by decide +kernel
theorem dL_safe_21 : decode cL_safe 21 = .ok (.iconst 0, 1) := by decide +kernel
theorem dL_safe_22 : decode cL_safe 22 = .ok (.ireturn, 1) := by decide +kernel
theorem dC_safe_0 : decode cC_safe 0 = .ok (.aload_n 0, 1) := by decide +kernel
theorem dC_safe_1 : decode cC_safe 1 = .ok (.invokevirtual 90, 3) := by decide +kernel
theorem dC_safe_4 : decode cC_safe 4 = .ok (.aload_n 0, 1) := by decide +kernel
theorem dC_safe_5 : decode cC_safe 5 = .ok (.getfield 33, 3) := by decide +kernel
theorem dC_safe_8 : decode cC_safe 8 = .ok (.invokevirtual 112, 3) := by decide +kernel
theorem dC_safe_11 : decode cC_safe 11 = .ok (.ireturn, 1) := by decide +kernel
theorem dL_depth_0 : decode cL_depth 0 = .ok (.aload_n 1, 1) := by decide +kernel
theorem dL_depth_1 : decode cL_depth 1 = .ok (.iconst 0, 1) := by decide +kernel
theorem dL_depth_2 : decode cL_depth 2 = .ok (.aload_n 0, 1) := by decide +kernel
theorem dL_depth_3 : decode cL_depth 3 = .ok (.invokevirtual 37, 3) := by decide +kernel
theorem dL_depth_6 : decode cL_depth 6 = .ok (.i2l, 1) := by decide +kernel
theorem dL_depth_7 : decode cL_depth 7 = .ok (.lastore, 1) := by decide +kernel
theorem dL_depth_8 : decode cL_depth 8 = .ok (.goto 6, 3) := by decide +kernel
theorem dL_depth_11 : decode cL_depth 11 = .ok (.astore_n 2, 1) := by decide +kernel
theorem dL_depth_12 : decode cL_depth 12 = .ok (.iconst 1, 1) := by decide +kernel
theorem dL_depth_13 : decode cL_depth 13 = .ok (.ireturn, 1) := by decide +kernel
theorem dL_depth_14 : decode cL_depth 14 = .ok (.iconst 0, 1) := by decide +kernel
theorem dL_depth_15 : decode cL_depth 15 = .ok (.ireturn, 1) := by decide +kernel
theorem dC_depth_0 : decode cC_depth 0 = .ok (.aload_n 0, 1) := by decide +kernel
theorem dC_depth_1 : decode cC_depth 1 = .ok (.invokevirtual 90, 3) := by decide +kernel
theorem dC_depth_4 : decode cC_depth 4 = .ok (.aload_n 0, 1) := by decide +kernel
theorem dC_depth_5 : decode cC_depth 5 = .ok (.getfield 33, 3) := by decide +kernel
theorem dC_depth_8 : decode cC_depth 8 = .ok (.getfield 115, 3) := by decide +kernel
theorem dC_depth_11 : decode cC_depth 11 = .ok (.ireturn, 1) := by decide +kernel
theorem dL_witness_0 : decode cL_witness 0 = .ok (.aload_n 2, 1) := by decide +kernel
theorem dL_witness_1 : decode cL_witness 1 = .ok (.iconst 0, 1) := by decide +kernel
theorem dL_witness_2 : decode cL_witness 2 = .ok (.aload_n 0, 1) := by decide +kernel
theorem dL_witness_3 : decode cL_witness 3 = .ok (.iload_n 1, 1) := by decide +kernel
theorem dL_witness_4 : decode cL_witness 4 = .ok (.invokevirtual 40, 3) := by decide +kernel
theorem dL_witness_7 : decode cL_witness 7 = .ok (.i2l, 1) := by decide +kernel
theorem dL_witness_8 : decode cL_witness 8 = .ok (.lastore, 1) := by decide +kernel
theorem dL_witness_9 : decode cL_witness 9 = .ok (.goto 6, 3) := by decide +kernel
theorem dL_witness_12 : decode cL_witness 12 = .ok (.astore_n 3, 1) := by decide +kernel
theorem dL_witness_13 : decode cL_witness 13 = .ok (.iconst 1, 1) := by decide +kernel
theorem dL_witness_14 : decode cL_witness 14 = .ok (.ireturn, 1) := by decide +kernel
theorem dL_witness_15 : decode cL_witness 15 = .ok (.iconst 0, 1) := by decide +kernel
theorem dL_witness_16 : decode cL_witness 16 = .ok (.ireturn, 1) := by decide +kernel
theorem dC_witness_0 : decode cC_witness 0 = .ok (.aload_n 0, 1) := by decide +kernel
theorem dC_witness_1 : decode cC_witness 1 = .ok (.invokevirtual 90, 3) := by decide +kernel
theorem dC_witness_4 : decode cC_witness 4 = .ok (.iload_n 1, 1) := by decide +kernel
theorem dC_witness_5 : decode cC_witness 5 = .ok (.ifCond .lt 38, 3) := by decide +kernel
theorem dC_witness_8 : decode cC_witness 8 = .ok (.iload_n 1, 1) := by decide +kernel
theorem dC_witness_9 : decode cC_witness 9 = .ok (.aload_n 0, 1) := by decide +kernel
theorem dC_witness_10 : decode cC_witness 10 = .ok (.getfield 33, 3) := by decide +kernel
theorem dC_witness_13 : decode cC_witness 13 = .ok (.getfield 115, 3) := by decide +kernel
theorem dC_witness_16 : decode cC_witness 16 = .ok (.if_icmp .gt 27, 3) := by decide +kernel
theorem dC_witness_19 : decode cC_witness 19 = .ok (.iload_n 1, 1) := by decide +kernel
theorem dC_witness_20 : decode cC_witness 20 = .ok (.aload_n 0, 1) := by decide +kernel
theorem dC_witness_21 : decode cC_witness 21 = .ok (.getfield 33, 3) := by decide +kernel
theorem dC_witness_24 : decode cC_witness 24 = .ok (.getfield 118, 3) := by decide +kernel
theorem dC_witness_27 : decode cC_witness 27 = .ok (.arraylength, 1) := by decide +kernel
theorem dC_witness_28 : decode cC_witness 28 = .ok (.if_icmp .ge 15, 3) := by decide +kernel
theorem dC_witness_31 : decode cC_witness 31 = .ok (.aload_n 0, 1) := by decide +kernel
theorem dC_witness_32 : decode cC_witness 32 = .ok (.getfield 33, 3) := by decide +kernel
theorem dC_witness_35 : decode cC_witness 35 = .ok (.getfield 118, 3) := by decide +kernel
theorem dC_witness_38 : decode cC_witness 38 = .ok (.iload_n 1, 1) := by decide +kernel
theorem dC_witness_39 : decode cC_witness 39 = .ok (.iaload, 1) := by decide +kernel
theorem dC_witness_40 : decode cC_witness 40 = .ok (.goto 4, 3) := by decide +kernel
theorem dC_witness_43 : decode cC_witness 43 = .ok (.iconst (-1), 1) := by decide +kernel
theorem dC_witness_44 : decode cC_witness 44 = .ok (.ireturn, 1) := by decide +kernel
theorem dL_bound_0 : decode cL_bound 0 = .ok (.aload_n 1, 1) := by decide +kernel
theorem dL_bound_1 : decode cL_bound 1 = .ok (.iconst 0, 1) := by decide +kernel
theorem dL_bound_2 : decode cL_bound 2 = .ok (.aload_n 0, 1) := by decide +kernel
theorem dL_bound_3 : decode cL_bound 3 = .ok (.invokevirtual 43, 3) := by decide +kernel
theorem dL_bound_6 : decode cL_bound 6 = .ok (.i2l, 1) := by decide +kernel
theorem dL_bound_7 : decode cL_bound 7 = .ok (.lastore, 1) := by decide +kernel
theorem dL_bound_8 : decode cL_bound 8 = .ok (.goto 6, 3) := by decide +kernel
theorem dL_bound_11 : decode cL_bound 11 = .ok (.astore_n 2, 1) := by decide +kernel
theorem dL_bound_12 : decode cL_bound 12 = .ok (.iconst 1, 1) := by decide +kernel
theorem dL_bound_13 : decode cL_bound 13 = .ok (.ireturn, 1) := by decide +kernel
theorem dL_bound_14 : decode cL_bound 14 = .ok (.iconst 0, 1) := by decide +kernel
theorem dL_bound_15 : decode cL_bound 15 = .ok (.ireturn, 1) := by decide +kernel
theorem dC_bound_0 : decode cC_bound 0 = .ok (.aload_n 0, 1) := by decide +kernel
theorem dC_bound_1 : decode cC_bound 1 = .ok (.invokevirtual 90, 3) := by decide +kernel
theorem dC_bound_4 : decode cC_bound 4 = .ok (.aload_n 0, 1) := by decide +kernel
theorem dC_bound_5 : decode cC_bound 5 = .ok (.getfield 33, 3) := by decide +kernel
theorem dC_bound_8 : decode cC_bound 8 = .ok (.invokevirtual 112, 3) := by decide +kernel
theorem dC_bound_11 : decode cC_bound 11 = .ok (.ifCond .eq 13, 3) := by decide +kernel
theorem dC_bound_14 : decode cC_bound 14 = .ok (.aload_n 0, 1) := by decide +kernel
theorem dC_bound_15 : decode cC_bound 15 = .ok (.getfield 33, 3) := by decide +kernel
theorem dC_bound_18 : decode cC_bound 18 = .ok (.getfield 121, 3) := by decide +kernel
theorem dC_bound_21 : decode cC_bound 21 = .ok (.goto 4, 3) := by decide +kernel
theorem dC_bound_24 : decode cC_bound 24 = .ok (.iconst (-1), 1) := by decide +kernel
theorem dC_bound_25 : decode cC_bound 25 = .ok (.ireturn, 1) := by decide +kernel
theorem dL_rounds_0 : decode cL_rounds 0 = .ok (.aload_n 1, 1) := by decide +kernel
theorem dL_rounds_1 : decode cL_rounds 1 = .ok (.iconst 0, 1) := by decide +kernel
theorem dL_rounds_2 : decode cL_rounds 2 = .ok (.aload_n 0, 1) := by decide +kernel
theorem dL_rounds_3 : decode cL_rounds 3 = .ok (.invokevirtual 46, 3) := by decide +kernel
theorem dL_rounds_6 : decode cL_rounds 6 = .ok (.i2l, 1) := by decide +kernel
theorem dL_rounds_7 : decode cL_rounds 7 = .ok (.lastore, 1) := by decide +kernel
theorem dL_rounds_8 : decode cL_rounds 8 = .ok (.goto 6, 3) := by decide +kernel
theorem dL_rounds_11 : decode cL_rounds 11 = .ok (.astore_n 2, 1) := by decide +kernel
theorem dL_rounds_12 : decode cL_rounds 12 = .ok (.iconst 1, 1) := by decide +kernel
theorem dL_rounds_13 : decode cL_rounds 13 = .ok (.ireturn, 1) := by decide +kernel
theorem dL_rounds_14 : decode cL_rounds 14 = .ok (.iconst 0, 1) := by decide +kernel
theorem dL_rounds_15 : decode cL_rounds 15 = .ok (.ireturn, 1) := by decide +kernel
theorem dC_rounds_0 : decode cC_rounds 0 = .ok (.aload_n 0, 1) := by decide +kernel
theorem dC_rounds_1 : decode cC_rounds 1 = .ok (.invokevirtual 90, 3) := by decide +kernel
theorem dC_rounds_4 : decode cC_rounds 4 = .ok (.aload_n 0, 1) := by decide +kernel
theorem dC_rounds_5 : decode cC_rounds 5 = .ok (.getfield 33, 3) := by decide +kernel
theorem dC_rounds_8 : decode cC_rounds 8 = .ok (.invokevirtual 112, 3) := by decide +kernel
theorem dC_rounds_11 : decode cC_rounds 11 = .ok (.ifCond .eq 13, 3) := by decide +kernel
theorem dC_rounds_14 : decode cC_rounds 14 = .ok (.aload_n 0, 1) := by decide +kernel
theorem dC_rounds_15 : decode cC_rounds 15 = .ok (.getfield 33, 3) := by decide +kernel
theorem dC_rounds_18 : decode cC_rounds 18 = .ok (.getfield 124, 3) := by decide +kernel
theorem dC_rounds_21 : decode cC_rounds 21 = .ok (.goto 4, 3) := by decide +kernel
theorem dC_rounds_24 : decode cC_rounds 24 = .ok (.iconst (-1), 1) := by decide +kernel
theorem dC_rounds_25 : decode cC_rounds 25 = .ok (.ireturn, 1) := by decide +kernel
theorem dL_holds_0 : decode cL_holds 0 = .ok (.aload_n 2, 1) := by decide +kernel
theorem dL_holds_1 : decode cL_holds 1 = .ok (.iconst 0, 1) := by decide +kernel
theorem dL_holds_2 : decode cL_holds 2 = .ok (.aload_n 0, 1) := by decide +kernel
theorem dL_holds_3 : decode cL_holds 3 = .ok (.iload_n 1, 1) := by decide +kernel
theorem dL_holds_4 : decode cL_holds 4 = .ok (.invokevirtual 49, 3) := by decide +kernel
theorem dL_holds_7 : decode cL_holds 7 = .ok (.ifCond .eq 7, 3) := by decide +kernel
theorem dL_holds_10 : decode cL_holds 10 = .ok (.lconst 1, 1) := by decide +kernel
theorem dL_holds_11 : decode cL_holds 11 = .ok (.goto 4, 3) := by decide +kernel
theorem dL_holds_14 : decode cL_holds 14 = .ok (.lconst 0, 1) := by decide +kernel
theorem dL_holds_15 : decode cL_holds 15 = .ok (.lastore, 1) := by decide +kernel
theorem dL_holds_16 : decode cL_holds 16 = .ok (.goto 6, 3) := by decide +kernel
theorem dL_holds_19 : decode cL_holds 19 = .ok (.astore_n 3, 1) := by decide +kernel
theorem dL_holds_20 : decode cL_holds 20 = .ok (.iconst 1, 1) := by decide +kernel
theorem dL_holds_21 : decode cL_holds 21 = .ok (.ireturn, 1) := by decide +kernel
theorem dL_holds_22 : decode cL_holds 22 = .ok (.iconst 0, 1) := by decide +kernel
theorem dL_holds_23 : decode cL_holds 23 = .ok (.ireturn, 1) := by decide +kernel
theorem dC_holds_0 : decode cC_holds 0 = .ok (.aload_n 0, 1) := by decide +kernel
theorem dC_holds_1 : decode cC_holds 1 = .ok (.invokevirtual 90, 3) := by decide +kernel
theorem dC_holds_4 : decode cC_holds 4 = .ok (.aload_n 0, 1) := by decide +kernel
theorem dC_holds_5 : decode cC_holds 5 = .ok (.getfield 33, 3) := by decide +kernel
theorem dC_holds_8 : decode cC_holds 8 = .ok (.invokevirtual 112, 3) := by decide +kernel
theorem dC_holds_11 : decode cC_holds 11 = .ok (.ifCond .eq 32, 3) := by decide +kernel
theorem dC_holds_14 : decode cC_holds 14 = .ok (.aload_n 0, 1) := by decide +kernel
theorem dC_holds_15 : decode cC_holds 15 = .ok (.getfield 26, 3) := by decide +kernel
theorem dC_holds_18 : decode cC_holds 18 = .ok (.iload_n 1, 1) := by decide +kernel
theorem dC_holds_19 : decode cC_holds 19 = .ok (.invokevirtual 127, 3) := by decide +kernel
theorem dC_holds_22 : decode cC_holds 22 = .ok (.ifCond .eq 21, 3) := by decide +kernel
theorem dC_holds_25 : decode cC_holds 25 = .ok (.aload_n 0, 1) := by decide +kernel
theorem dC_holds_26 : decode cC_holds 26 = .ok (.getfield 33, 3) := by decide +kernel
theorem dC_holds_29 : decode cC_holds 29 = .ok (.getfield 131, 3) := by decide +kernel
theorem dC_holds_32 : decode cC_holds 32 = .ok (.iload_n 1, 1) := by decide +kernel
theorem dC_holds_33 : decode cC_holds 33 = .ok (.invokestatic 135, 3) := by decide +kernel
theorem dC_holds_36 : decode cC_holds 36 = .ok (.ifCond .eq 7, 3) := by decide +kernel
theorem dC_holds_39 : decode cC_holds 39 = .ok (.iconst 1, 1) := by decide +kernel
theorem dC_holds_40 : decode cC_holds 40 = .ok (.goto 4, 3) := by decide +kernel
theorem dC_holds_43 : decode cC_holds 43 = .ok (.iconst 0, 1) := by decide +kernel
theorem dC_holds_44 : decode cC_holds 44 = .ok (.ireturn, 1) := by decide +kernel
theorem dL_count_0 : decode cL_count 0 = .ok (.aload_n 2, 1) := by decide +kernel
theorem dL_count_1 : decode cL_count 1 = .ok (.iconst 0, 1) := by decide +kernel
theorem dL_count_2 : decode cL_count 2 = .ok (.aload_n 0, 1) := by decide +kernel
theorem dL_count_3 : decode cL_count 3 = .ok (.iload_n 1, 1) := by decide +kernel
theorem dL_count_4 : decode cL_count 4 = .ok (.invokevirtual 53, 3) := by decide +kernel
theorem dL_count_7 : decode cL_count 7 = .ok (.i2l, 1) := by decide +kernel
theorem dL_count_8 : decode cL_count 8 = .ok (.lastore, 1) := by decide +kernel
theorem dL_count_9 : decode cL_count 9 = .ok (.goto 6, 3) := by decide +kernel
theorem dL_count_12 : decode cL_count 12 = .ok (.astore_n 3, 1) := by decide +kernel
theorem dL_count_13 : decode cL_count 13 = .ok (.iconst 1, 1) := by decide +kernel
theorem dL_count_14 : decode cL_count 14 = .ok (.ireturn, 1) := by decide +kernel
theorem dL_count_15 : decode cL_count 15 = .ok (.iconst 0, 1) := by decide +kernel
theorem dL_count_16 : decode cL_count 16 = .ok (.ireturn, 1) := by decide +kernel
theorem dC_count_0 : decode cC_count 0 = .ok (.aload_n 0, 1) := by decide +kernel
theorem dC_count_1 : decode cC_count 1 = .ok (.invokevirtual 90, 3) := by decide +kernel
theorem dC_count_4 : decode cC_count 4 = .ok (.aload_n 0, 1) := by decide +kernel
theorem dC_count_5 : decode cC_count 5 = .ok (.iload_n 1, 1) := by decide +kernel
theorem dC_count_6 : decode cC_count 6 = .ok (.invokevirtual 139, 3) := by decide +kernel
theorem dC_count_9 : decode cC_count 9 = .ok (.ifCond .eq 14, 3) := by decide +kernel
theorem dC_count_12 : decode cC_count 12 = .ok (.aload_n 0, 1) := by decide +kernel
theorem dC_count_13 : decode cC_count 13 = .ok (.iload_n 1, 1) := by decide +kernel
theorem dC_count_14 : decode cC_count 14 = .ok (.invokevirtual 142, 3) := by decide +kernel
theorem dC_count_17 : decode cC_count 17 = .ok (.invokestatic 146, 3) := by decide +kernel
theorem dC_count_20 : decode cC_count 20 = .ok (.goto 4, 3) := by decide +kernel
theorem dC_count_23 : decode cC_count 23 = .ok (.iconst (-1), 1) := by decide +kernel
theorem dC_count_24 : decode cC_count 24 = .ok (.ireturn, 1) := by decide +kernel
theorem dC_isSet_0 : decode cC_isSet 0 = .ok (.iload_n 1, 1) := by decide +kernel
theorem dC_isSet_1 : decode cC_isSet 1 = .ok (.ifCond .ne 13, 3) := by decide +kernel
theorem dC_isSet_4 : decode cC_isSet 4 = .ok (.aload_n 0, 1) := by decide +kernel
theorem dC_isSet_5 : decode cC_isSet 5 = .ok (.getfield 33, 3) := by decide +kernel
theorem dC_isSet_8 : decode cC_isSet 8 = .ok (.invokevirtual 112, 3) := by decide +kernel
theorem dC_isSet_11 : decode cC_isSet 11 = .ok (.goto 18, 3) := by decide +kernel
theorem dC_isSet_14 : decode cC_isSet 14 = .ok (.iload_n 1, 1) := by decide +kernel
theorem dC_isSet_15 : decode cC_isSet 15 = .ok (.iconst 1, 1) := by decide +kernel
theorem dC_isSet_16 : decode cC_isSet 16 = .ok (.if_icmp .lt 12, 3) := by decide +kernel
theorem dC_isSet_19 : decode cC_isSet 19 = .ok (.iload_n 1, 1) := by decide +kernel
theorem dC_isSet_20 : decode cC_isSet 20 = .ok (.iconst 3, 1) := by decide +kernel
theorem dC_isSet_21 : decode cC_isSet 21 = .ok (.if_icmp .gt 7, 3) := by decide +kernel
theorem dC_isSet_24 : decode cC_isSet 24 = .ok (.iconst 1, 1) := by decide +kernel
theorem dC_isSet_25 : decode cC_isSet 25 = .ok (.goto 4, 3) := by decide +kernel
theorem dC_isSet_28 : decode cC_isSet 28 = .ok (.iconst 0, 1) := by decide +kernel
theorem dC_isSet_29 : decode cC_isSet 29 = .ok (.ireturn, 1) := by decide +kernel
theorem dC_chosenSet_0 : decode cC_chosenSet 0 = .ok (.iload_n 1, 1) := by decide +kernel
theorem dC_chosenSet_1 : decode cC_chosenSet 1 = .ok (.tableswitch 51 0 2 #[27, 35, 43], 27) := by decide +kernel
theorem dC_chosenSet_28 : decode cC_chosenSet 28 = .ok (.aload_n 0, 1) := by decide +kernel
theorem dC_chosenSet_29 : decode cC_chosenSet 29 = .ok (.getfield 33, 3) := by decide +kernel
theorem dC_chosenSet_32 : decode cC_chosenSet 32 = .ok (.getfield 131, 3) := by decide +kernel
theorem dC_chosenSet_35 : decode cC_chosenSet 35 = .ok (.lreturn, 1) := by decide +kernel
theorem dC_chosenSet_36 : decode cC_chosenSet 36 = .ok (.aload_n 0, 1) := by decide +kernel
theorem dC_chosenSet_37 : decode cC_chosenSet 37 = .ok (.getfield 33, 3) := by decide +kernel
theorem dC_chosenSet_40 : decode cC_chosenSet 40 = .ok (.getfield 169, 3) := by decide +kernel
theorem dC_chosenSet_43 : decode cC_chosenSet 43 = .ok (.lreturn, 1) := by decide +kernel
theorem dC_chosenSet_44 : decode cC_chosenSet 44 = .ok (.aload_n 0, 1) := by decide +kernel
theorem dC_chosenSet_45 : decode cC_chosenSet 45 = .ok (.getfield 26, 3) := by decide +kernel
theorem dC_chosenSet_48 : decode cC_chosenSet 48 = .ok (.getfield 172, 3) := by decide +kernel
theorem dC_chosenSet_51 : decode cC_chosenSet 51 = .ok (.lreturn, 1) := by decide +kernel
theorem dC_chosenSet_52 : decode cC_chosenSet 52 = .ok (.aload_n 0, 1) := by decide +kernel
theorem dC_chosenSet_53 : decode cC_chosenSet 53 = .ok (.getfield 33, 3) := by decide +kernel
theorem dC_chosenSet_56 : decode cC_chosenSet 56 = .ok (.invokevirtual 175, 3) := by decide +kernel
theorem dC_chosenSet_59 : decode cC_chosenSet 59 = .ok (.lreturn, 1) := by decide +kernel
theorem dL_size_0 : decode cL_size 0 = .ok (.aload_n 2, 1) := by decide +kernel
theorem dL_size_1 : decode cL_size 1 = .ok (.iconst 0, 1) := by decide +kernel
theorem dL_size_2 : decode cL_size 2 = .ok (.aload_n 0, 1) := by decide +kernel
theorem dL_size_3 : decode cL_size 3 = .ok (.iload_n 1, 1) := by decide +kernel
theorem dL_size_4 : decode cL_size 4 = .ok (.invokevirtual 56, 3) := by decide +kernel
theorem dL_size_7 : decode cL_size 7 = .ok (.i2l, 1) := by decide +kernel
theorem dL_size_8 : decode cL_size 8 = .ok (.lastore, 1) := by decide +kernel
theorem dL_size_9 : decode cL_size 9 = .ok (.goto 6, 3) := by decide +kernel
theorem dL_size_12 : decode cL_size 12 = .ok (.astore_n 3, 1) := by decide +kernel
theorem dL_size_13 : decode cL_size 13 = .ok (.iconst 1, 1) := by decide +kernel
theorem dL_size_14 : decode cL_size 14 = .ok (.ireturn, 1) := by decide +kernel
theorem dL_size_15 : decode cL_size 15 = .ok (.iconst 0, 1) := by decide +kernel
theorem dL_size_16 : decode cL_size 16 = .ok (.ireturn, 1) := by decide +kernel
theorem dC_size_0 : decode cC_size 0 = .ok (.aload_n 0, 1) := by decide +kernel
theorem dC_size_1 : decode cC_size 1 = .ok (.invokevirtual 90, 3) := by decide +kernel
theorem dC_size_4 : decode cC_size 4 = .ok (.aload_n 0, 1) := by decide +kernel
theorem dC_size_5 : decode cC_size 5 = .ok (.iload_n 1, 1) := by decide +kernel
theorem dC_size_6 : decode cC_size 6 = .ok (.invokevirtual 139, 3) := by decide +kernel
theorem dC_size_9 : decode cC_size 9 = .ok (.ifCond .eq 25, 3) := by decide +kernel
theorem dC_size_12 : decode cC_size 12 = .ok (.aload_n 0, 1) := by decide +kernel
theorem dC_size_13 : decode cC_size 13 = .ok (.getfield 40, 3) := by decide +kernel
theorem dC_size_16 : decode cC_size 16 = .ok (.aload_n 0, 1) := by decide +kernel
theorem dC_size_17 : decode cC_size 17 = .ok (.iload_n 1, 1) := by decide +kernel
theorem dC_size_18 : decode cC_size 18 = .ok (.invokevirtual 142, 3) := by decide +kernel
theorem dC_size_21 : decode cC_size 21 = .ok (.aload_n 0, 1) := by decide +kernel
theorem dC_size_22 : decode cC_size 22 = .ok (.getfield 26, 3) := by decide +kernel
theorem dC_size_25 : decode cC_size 25 = .ok (.getfield 87, 3) := by decide +kernel
theorem dC_size_28 : decode cC_size 28 = .ok (.invokevirtual 152, 3) := by decide +kernel
theorem dC_size_31 : decode cC_size 31 = .ok (.goto 4, 3) := by decide +kernel
theorem dC_size_34 : decode cC_size 34 = .ok (.iconst (-1), 1) := by decide +kernel
theorem dC_size_35 : decode cC_size 35 = .ok (.ireturn, 1) := by decide +kernel
theorem dD_nodes_0 : decode cD_nodes 0 = .ok (.iconst 0, 1) := by decide +kernel
theorem dD_nodes_1 : decode cD_nodes 1 = .ok (.istore 4, 2) := by decide +kernel
theorem dD_nodes_3 : decode cD_nodes 3 = .ok (.ldc2_w 15, 3) := by decide +kernel
theorem dD_nodes_6 : decode cD_nodes 6 = .ok (.bipush 64, 2) := by decide +kernel
theorem dD_nodes_8 : decode cD_nodes 8 = .ok (.iconst 1, 1) := by decide +kernel
theorem dD_nodes_9 : decode cD_nodes 9 = .ok (.iload_n 3, 1) := by decide +kernel
theorem dD_nodes_10 : decode cD_nodes 10 = .ok (.ishl, 1) := by decide +kernel
theorem dD_nodes_11 : decode cD_nodes 11 = .ok (.isub, 1) := by decide +kernel
theorem dD_nodes_12 : decode cD_nodes 12 = .ok (.lushr, 1) := by decide +kernel
theorem dD_nodes_13 : decode cD_nodes 13 = .ok (.lstore 5, 2) := by decide +kernel
theorem dD_nodes_15 : decode cD_nodes 15 = .ok (.iconst 0, 1) := by decide +kernel
theorem dD_nodes_16 : decode cD_nodes 16 = .ok (.istore 7, 2) := by decide +kernel
theorem dD_nodes_18 : decode cD_nodes 18 = .ok (.iload 7, 2) := by decide +kernel
theorem dD_nodes_20 : decode cD_nodes 20 = .ok (.iload_n 3, 1) := by decide +kernel
theorem dD_nodes_21 : decode cD_nodes 21 = .ok (.if_icmp .ge 38, 3) := by decide +kernel
theorem dD_nodes_24 : decode cD_nodes 24 = .ok (.iload 4, 2) := by decide +kernel
theorem dD_nodes_26 : decode cD_nodes 26 = .ok (.aload_n 0, 1) := by decide +kernel
theorem dD_nodes_27 : decode cD_nodes 27 = .ok (.lload_n 1, 1) := by decide +kernel
theorem dD_nodes_28 : decode cD_nodes 28 = .ok (.iload 7, 2) := by decide +kernel
theorem dD_nodes_30 : decode cD_nodes 30 = .ok (.lload 5, 2) := by decide +kernel
theorem dD_nodes_32 : decode cD_nodes 32 = .ok (.invokevirtual 17, 3) := by decide +kernel
theorem dD_nodes_35 : decode cD_nodes 35 = .ok (.iadd, 1) := by decide +kernel
theorem dD_nodes_36 : decode cD_nodes 36 = .ok (.istore 4, 2) := by decide +kernel
theorem dD_nodes_38 : decode cD_nodes 38 = .ok (.lload 5, 2) := by decide +kernel
theorem dD_nodes_40 : decode cD_nodes 40 = .ok (.getstatic 21, 3) := by decide +kernel
theorem dD_nodes_43 : decode cD_nodes 43 = .ok (.iload 7, 2) := by decide +kernel
theorem dD_nodes_45 : decode cD_nodes 45 = .ok (.laload, 1) := by decide +kernel
theorem dD_nodes_46 : decode cD_nodes 46 = .ok (.ldc2_w 15, 3) := by decide +kernel
theorem dD_nodes_49 : decode cD_nodes 49 = .ok (.lxor, 1) := by decide +kernel
theorem dD_nodes_50 : decode cD_nodes 50 = .ok (.land, 1) := by decide +kernel
theorem dD_nodes_51 : decode cD_nodes 51 = .ok (.lstore 5, 2) := by decide +kernel
theorem dD_nodes_53 : decode cD_nodes 53 = .ok (.iinc 7 1, 3) := by decide +kernel
theorem dD_nodes_56 : decode cD_nodes 56 = .ok (.goto (-38), 3) := by decide +kernel
theorem dD_nodes_59 : decode cD_nodes 59 = .ok (.iload 4, 2) := by decide +kernel
theorem dD_nodes_61 : decode cD_nodes 61 = .ok (.ireturn, 1) := by decide +kernel
theorem dD_nodesAt_0 : decode cD_nodesAt 0 = .ok (.iconst 0, 1) := by decide +kernel
theorem dD_nodesAt_1 : decode cD_nodesAt 1 = .ok (.istore 6, 2) := by decide +kernel
theorem dD_nodesAt_3 : decode cD_nodesAt 3 = .ok (.iconst 0, 1) := by decide +kernel
theorem dD_nodesAt_4 : decode cD_nodesAt 4 = .ok (.istore 7, 2) := by decide +kernel
theorem dD_nodesAt_6 : decode cD_nodesAt 6 = .ok (.iload 7, 2) := by decide +kernel
theorem dD_nodesAt_8 : decode cD_nodesAt 8 = .ok (.iconst 1, 1) := by decide +kernel
theorem dD_nodesAt_9 : decode cD_nodesAt 9 = .ok (.iload_n 3, 1) := by decide +kernel
theorem dD_nodesAt_10 : decode cD_nodesAt 10 = .ok (.ishl, 1) := by decide +kernel
theorem dD_nodesAt_11 : decode cD_nodesAt 11 = .ok (.if_icmp .ge 60, 3) := by decide +kernel
theorem dD_nodesAt_14 : decode cD_nodesAt 14 = .ok (.lload_n 1, 1) := by decide +kernel
theorem dD_nodesAt_15 : decode cD_nodesAt 15 = .ok (.iload 7, 2) := by decide +kernel
theorem dD_nodesAt_17 : decode cD_nodesAt 17 = .ok (.lushr, 1) := by decide +kernel
theorem dD_nodesAt_18 : decode cD_nodesAt 18 = .ok (.lload 4, 2) := by decide +kernel
theorem dD_nodesAt_20 : decode cD_nodesAt 20 = .ok (.land, 1) := by decide +kernel
theorem dD_nodesAt_21 : decode cD_nodesAt 21 = .ok (.lstore 8, 2) := by decide +kernel
theorem dD_nodesAt_23 : decode cD_nodesAt 23 = .ok (.lload 8, 2) := by decide +kernel
theorem dD_nodesAt_25 : decode cD_nodesAt 25 = .ok (.iload_n 3, 1) := by decide +kernel
theorem dD_nodesAt_26 : decode cD_nodesAt 26 = .ok (.invokestatic 26, 3) := by decide +kernel
theorem dD_nodesAt_29 : decode cD_nodesAt 29 = .ok (.ifCond .eq 36, 3) := by decide +kernel
theorem dD_nodesAt_32 : decode cD_nodesAt 32 = .ok (.aload_n 0, 1) := by decide +kernel
theorem dD_nodesAt_33 : decode cD_nodesAt 33 = .ok (.lload 8, 2) := by decide +kernel
theorem dD_nodesAt_35 : decode cD_nodesAt 35 = .ok (.iload 6, 2) := by decide +kernel
theorem dD_nodesAt_37 : decode cD_nodesAt 37 = .ok (.invokevirtual 30, 3) := by decide +kernel
theorem dD_nodesAt_40 : decode cD_nodesAt 40 = .ok (.ifCond .ne 25, 3) := by decide +kernel
theorem dD_nodesAt_43 : decode cD_nodesAt 43 = .ok (.iload 6, 2) := by decide +kernel
theorem dD_nodesAt_45 : decode cD_nodesAt 45 = .ok (.aload_n 0, 1) := by decide +kernel
theorem dD_nodesAt_46 : decode cD_nodesAt 46 = .ok (.getfield 9, 3) := by decide +kernel
theorem dD_nodesAt_49 : decode cD_nodesAt 49 = .ok (.arraylength, 1) := by decide +kernel
theorem dD_nodesAt_50 : decode cD_nodesAt 50 = .ok (.if_icmp .ge 15, 3) := by decide +kernel
theorem dD_nodesAt_53 : decode cD_nodesAt 53 = .ok (.aload_n 0, 1) := by decide +kernel
theorem dD_nodesAt_54 : decode cD_nodesAt 54 = .ok (.getfield 9, 3) := by decide +kernel
theorem dD_nodesAt_57 : decode cD_nodesAt 57 = .ok (.iload 6, 2) := by decide +kernel
theorem dD_nodesAt_59 : decode cD_nodesAt 59 = .ok (.lload 8, 2) := by decide +kernel
theorem dD_nodesAt_61 : decode cD_nodesAt 61 = .ok (.lastore, 1) := by decide +kernel
theorem dD_nodesAt_62 : decode cD_nodesAt 62 = .ok (.iinc 6 1, 3) := by decide +kernel
theorem dD_nodesAt_65 : decode cD_nodesAt 65 = .ok (.iinc 7 1, 3) := by decide +kernel
theorem dD_nodesAt_68 : decode cD_nodesAt 68 = .ok (.goto (-62), 3) := by decide +kernel
theorem dD_nodesAt_71 : decode cD_nodesAt 71 = .ok (.iload 6, 2) := by decide +kernel
theorem dD_nodesAt_73 : decode cD_nodesAt 73 = .ok (.ireturn, 1) := by decide +kernel
theorem dD_hangsOn_0 : decode cD_hangsOn 0 = .ok (.getstatic 21, 3) := by decide +kernel
theorem dD_hangsOn_3 : decode cD_hangsOn 3 = .ok (.iload_n 2, 1) := by decide +kernel
theorem dD_hangsOn_4 : decode cD_hangsOn 4 = .ok (.laload, 1) := by decide +kernel
theorem dD_hangsOn_5 : decode cD_hangsOn 5 = .ok (.lstore_n 3, 1) := by decide +kernel
theorem dD_hangsOn_6 : decode cD_hangsOn 6 = .ok (.lload_n 0, 1) := by decide +kernel
theorem dD_hangsOn_7 : decode cD_hangsOn 7 = .ok (.lload_n 3, 1) := by decide +kernel
theorem dD_hangsOn_8 : decode cD_hangsOn 8 = .ok (.land, 1) := by decide +kernel
theorem dD_hangsOn_9 : decode cD_hangsOn 9 = .ok (.iconst 1, 1) := by decide +kernel
theorem dD_hangsOn_10 : decode cD_hangsOn 10 = .ok (.iload_n 2, 1) := by decide +kernel
theorem dD_hangsOn_11 : decode cD_hangsOn 11 = .ok (.ishl, 1) := by decide +kernel
theorem dD_hangsOn_12 : decode cD_hangsOn 12 = .ok (.lushr, 1) := by decide +kernel
theorem dD_hangsOn_13 : decode cD_hangsOn 13 = .ok (.lload_n 0, 1) := by decide +kernel
theorem dD_hangsOn_14 : decode cD_hangsOn 14 = .ok (.lload_n 3, 1) := by decide +kernel
theorem dD_hangsOn_15 : decode cD_hangsOn 15 = .ok (.ldc2_w 15, 3) := by decide +kernel
theorem dD_hangsOn_18 : decode cD_hangsOn 18 = .ok (.lxor, 1) := by decide +kernel
theorem dD_hangsOn_19 : decode cD_hangsOn 19 = .ok (.land, 1) := by decide +kernel
theorem dD_hangsOn_20 : decode cD_hangsOn 20 = .ok (.lcmp, 1) := by decide +kernel
theorem dD_hangsOn_21 : decode cD_hangsOn 21 = .ok (.ifCond .eq 7, 3) := by decide +kernel
theorem dD_hangsOn_24 : decode cD_hangsOn 24 = .ok (.iconst 1, 1) := by decide +kernel
theorem dD_hangsOn_25 : decode cD_hangsOn 25 = .ok (.goto 4, 3) := by decide +kernel
theorem dD_hangsOn_28 : decode cD_hangsOn 28 = .ok (.iconst 0, 1) := by decide +kernel
theorem dD_hangsOn_29 : decode cD_hangsOn 29 = .ok (.ireturn, 1) := by decide +kernel
theorem dD_isSeen_0 : decode cD_isSeen 0 = .ok (.iconst 0, 1) := by decide +kernel
theorem dD_isSeen_1 : decode cD_isSeen 1 = .ok (.istore 4, 2) := by decide +kernel
theorem dD_isSeen_3 : decode cD_isSeen 3 = .ok (.iload 4, 2) := by decide +kernel
theorem dD_isSeen_5 : decode cD_isSeen 5 = .ok (.iload_n 3, 1) := by decide +kernel
theorem dD_isSeen_6 : decode cD_isSeen 6 = .ok (.if_icmp .ge 33, 3) := by decide +kernel
theorem dD_isSeen_9 : decode cD_isSeen 9 = .ok (.iload 4, 2) := by decide +kernel
theorem dD_isSeen_11 : decode cD_isSeen 11 = .ok (.aload_n 0, 1) := by decide +kernel
theorem dD_isSeen_12 : decode cD_isSeen 12 = .ok (.getfield 9, 3) := by decide +kernel
theorem dD_isSeen_15 : decode cD_isSeen 15 = .ok (.arraylength, 1) := by decide +kernel
theorem dD_isSeen_16 : decode cD_isSeen 16 = .ok (.if_icmp .ge 23, 3) := by decide +kernel
theorem dD_isSeen_19 : decode cD_isSeen 19 = .ok (.aload_n 0, 1) := by decide +kernel
theorem dD_isSeen_20 : decode cD_isSeen 20 = .ok (.getfield 9, 3) := by decide +kernel
theorem dD_isSeen_23 : decode cD_isSeen 23 = .ok (.iload 4, 2) := by decide +kernel
theorem dD_isSeen_25 : decode cD_isSeen 25 = .ok (.laload, 1) := by decide +kernel
theorem dD_isSeen_26 : decode cD_isSeen 26 = .ok (.lload_n 1, 1) := by decide +kernel
theorem dD_isSeen_27 : decode cD_isSeen 27 = .ok (.lcmp, 1) := by decide +kernel
theorem dD_isSeen_28 : decode cD_isSeen 28 = .ok (.ifCond .ne 5, 3) := by decide +kernel
theorem dD_isSeen_31 : decode cD_isSeen 31 = .ok (.iconst 1, 1) := by decide +kernel
theorem dD_isSeen_32 : decode cD_isSeen 32 = .ok (.ireturn, 1) := by decide +kernel
theorem dD_isSeen_33 : decode cD_isSeen 33 = .ok (.iinc 4 1, 3) := by decide +kernel
theorem dD_isSeen_36 : decode cD_isSeen 36 = .ok (.goto (-33), 3) := by decide +kernel
theorem dD_isSeen_39 : decode cD_isSeen 39 = .ok (.iconst 0, 1) := by decide +kernel
theorem dD_isSeen_40 : decode cD_isSeen 40 = .ok (.ireturn, 1) := by decide +kernel
