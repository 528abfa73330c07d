theorem dN_init_0 : decode cN_init 0 = .ok (.aload_n 0, 1) := by decide +kernel
theorem dN_init_1 : decode cN_init 1 = .ok (.invokespecial 1, 3) := by decide +kernel
theorem dN_init_4 : decode cN_init 4 = .ok (.aload_n 0, 1) := by decide +kernel
theorem dN_init_5 : decode cN_init 5 = .ok (.iconst 5, 1) := by decide +kernel
theorem dN_init_6 : decode cN_init 6 = .ok (.newarray .int, 2) := by decide +kernel
theorem dN_init_8 : decode cN_init 8 = .ok (.putfield 9, 3) := by decide +kernel
theorem dN_init_11 : decode cN_init 11 = .ok (.aload_n 0, 1) := by decide +kernel
theorem dN_init_12 : decode cN_init 12 = .ok (.bipush 50, 2) := by decide +kernel
theorem dN_init_14 : decode cN_init 14 = .ok (.newarray .boolean, 2) := by decide +kernel
theorem dN_init_16 : decode cN_init 16 = .ok (.putfield 13, 3) := by decide +kernel
theorem dN_init_19 : decode cN_init 19 = .ok (.aload_n 0, 1) := by decide +kernel
theorem dN_init_20 : decode cN_init 20 = .ok (.bipush 50, 2) := by decide +kernel
theorem dN_init_22 : decode cN_init 22 = .ok (.newarray .boolean, 2) := by decide +kernel
theorem dN_init_24 : decode cN_init 24 = .ok (.putfield 17, 3) := by decide +kernel
theorem dN_init_27 : decode cN_init 27 = .ok (.aload_n 0, 1) := by decide +kernel
theorem dN_init_28 : decode cN_init 28 = .ok (.bipush 50, 2) := by decide +kernel
theorem dN_init_30 : decode cN_init 30 = .ok (.newarray .boolean, 2) := by decide +kernel
theorem dN_init_32 : decode cN_init 32 = .ok (.putfield 20, 3) := by decide +kernel
theorem dN_init_35 : decode cN_init 35 = .ok (.aload_n 0, 1) := by decide +kernel
theorem dN_init_36 : decode cN_init 36 = .ok (.bipush 50, 2) := by decide +kernel
theorem dN_init_38 : decode cN_init 38 = .ok (.newarray .int, 2) := by decide +kernel
theorem dN_init_40 : decode cN_init 40 = .ok (.putfield 23, 3) := by decide +kernel
theorem dN_init_43 : decode cN_init 43 = .ok (.aload_n 0, 1) := by decide +kernel
theorem dN_init_44 : decode cN_init 44 = .ok (.bipush 50, 2) := by decide +kernel
theorem dN_init_46 : decode cN_init 46 = .ok (.newarray .int, 2) := by decide +kernel
theorem dN_init_48 : decode cN_init 48 = .ok (.putfield 26, 3) := by decide +kernel
theorem dN_init_51 : decode cN_init 51 = .ok (.aload_n 0, 1) := by decide +kernel
theorem dN_init_52 : decode cN_init 52 = .ok (.iconst 3, 1) := by decide +kernel
theorem dN_init_53 : decode cN_init 53 = .ok (.newarray .int, 2) := by decide +kernel
theorem dN_init_55 : decode cN_init 55 = .ok (.putfield 29, 3) := by decide +kernel
theorem dN_init_58 : decode cN_init 58 = .ok (.aload_n 0, 1) := by decide +kernel
theorem dN_init_59 : decode cN_init 59 = .ok (.bipush 6, 2) := by decide +kernel
theorem dN_init_61 : decode cN_init 61 = .ok (.newarray .int, 2) := by decide +kernel
theorem dN_init_63 : decode cN_init 63 = .ok (.putfield 32, 3) := by decide +kernel
theorem dN_init_66 : decode cN_init 66 = .ok (.aload_n 0, 1) := by decide +kernel
theorem dN_init_67 : decode cN_init 67 = .ok (.bipush 6, 2) := by decide +kernel
theorem dN_init_69 : decode cN_init 69 = .ok (.newarray .int, 2) := by decide +kernel
theorem dN_init_71 : decode cN_init 71 = .ok (.putfield 35, 3) := by decide +kernel
theorem dN_init_74 : decode cN_init 74 = .ok (.aload_n 0, 1) := by decide +kernel
theorem dN_init_75 : decode cN_init 75 = .ok (.bipush 50, 2) := by decide +kernel
theorem dN_init_77 : decode cN_init 77 = .ok (.newarray .long, 2) := by decide +kernel
theorem dN_init_79 : decode cN_init 79 = .ok (.putfield 38, 3) := by decide +kernel
theorem dN_init_82 : decode cN_init 82 = .ok (.return_, 1) := by decide +kernel
theorem dK_init_0 : decode cK_init 0 = .ok (.aload_n 0, 1) := by decide +kernel
theorem dK_init_1 : decode cK_init 1 = .ok (.invokespecial 3, 3) := by decide +kernel
theorem dK_init_4 : decode cK_init 4 = .ok (.aload_n 0, 1) := by decide +kernel
theorem dK_init_5 : decode cK_init 5 = .ok (.iconst 5, 1) := by decide +kernel
theorem dK_init_6 : decode cK_init 6 = .ok (.newarray .int, 2) := by decide +kernel
theorem dK_init_8 : decode cK_init 8 = .ok (.putfield 9, 3) := by decide +kernel
theorem dK_init_11 : decode cK_init 11 = .ok (.aload_n 0, 1) := by decide +kernel
theorem dK_init_12 : decode cK_init 12 = .ok (.bipush 48, 2) := by decide +kernel
theorem dK_init_14 : decode cK_init 14 = .ok (.newarray .long, 2) := by decide +kernel
theorem dK_init_16 : decode cK_init 16 = .ok (.putfield 15, 3) := by decide +kernel
theorem dK_init_19 : decode cK_init 19 = .ok (.aload_n 0, 1) := by decide +kernel
theorem dK_init_20 : decode cK_init 20 = .ok (.bipush 8, 2) := by decide +kernel
theorem dK_init_22 : decode cK_init 22 = .ok (.newarray .long, 2) := by decide +kernel
theorem dK_init_24 : decode cK_init 24 = .ok (.putfield 19, 3) := by decide +kernel
theorem dK_init_27 : decode cK_init 27 = .ok (.aload_n 0, 1) := by decide +kernel
theorem dK_init_28 : decode cK_init 28 = .ok (.bipush 64, 2) := by decide +kernel
theorem dK_init_30 : decode cK_init 30 = .ok (.newarray .long, 2) := by decide +kernel
theorem dK_init_32 : decode cK_init 32 = .ok (.putfield 22, 3) := by decide +kernel
theorem dK_init_35 : decode cK_init 35 = .ok (.return_, 1) := by decide +kernel
theorem dN_read_0 : decode cN_read 0 = .ok (.aload_n 0, 1) := by decide +kernel
theorem dN_read_1 : decode cN_read 1 = .ok (.invokevirtual 42, 3) := by decide +kernel
theorem dN_read_4 : decode cN_read 4 = .ok (.aload_n 1, 1) := by decide +kernel
theorem dN_read_5 : decode cN_read 5 = .ok (.invokevirtual 45, 3) := by decide +kernel
theorem dN_read_8 : decode cN_read 8 = .ok (.aload_n 0, 1) := by decide +kernel
theorem dN_read_9 : decode cN_read 9 = .ok (.aload_n 1, 1) := by decide +kernel
theorem dN_read_10 : decode cN_read 10 = .ok (.invokevirtual 50, 3) := by decide +kernel
theorem dN_read_13 : decode cN_read 13 = .ok (.ifCond .eq 53, 3) := by decide +kernel
theorem dN_read_16 : decode cN_read 16 = .ok (.aload_n 0, 1) := by decide +kernel
theorem dN_read_17 : decode cN_read 17 = .ok (.aload_n 1, 1) := by decide +kernel
theorem dN_read_18 : decode cN_read 18 = .ok (.invokevirtual 54, 3) := by decide +kernel
theorem dN_read_21 : decode cN_read 21 = .ok (.ifCond .eq 45, 3) := by decide +kernel
theorem dN_read_24 : decode cN_read 24 = .ok (.aload_n 0, 1) := by decide +kernel
theorem dN_read_25 : decode cN_read 25 = .ok (.aload_n 1, 1) := by decide +kernel
theorem dN_read_26 : decode cN_read 26 = .ok (.invokevirtual 57, 3) := by decide +kernel
theorem dN_read_29 : decode cN_read 29 = .ok (.ifCond .eq 37, 3) := by decide +kernel
theorem dN_read_32 : decode cN_read 32 = .ok (.aload_n 0, 1) := by decide +kernel
theorem dN_read_33 : decode cN_read 33 = .ok (.aload_n 1, 1) := by decide +kernel
theorem dN_read_34 : decode cN_read 34 = .ok (.invokevirtual 60, 3) := by decide +kernel
theorem dN_read_37 : decode cN_read 37 = .ok (.ifCond .eq 29, 3) := by decide +kernel
theorem dN_read_40 : decode cN_read 40 = .ok (.aload_n 0, 1) := by decide +kernel
theorem dN_read_41 : decode cN_read 41 = .ok (.aload_n 1, 1) := by decide +kernel
theorem dN_read_42 : decode cN_read 42 = .ok (.invokevirtual 63, 3) := by decide +kernel
theorem dN_read_45 : decode cN_read 45 = .ok (.ifCond .eq 21, 3) := by decide +kernel
theorem dN_read_48 : decode cN_read 48 = .ok (.aload_n 1, 1) := by decide +kernel
theorem dN_read_49 : decode cN_read 49 = .ok (.invokevirtual 66, 3) := by decide +kernel
theorem dN_read_52 : decode cN_read 52 = .ok (.ifCond .eq 14, 3) := by decide +kernel
theorem dN_read_55 : decode cN_read 55 = .ok (.aload_n 0, 1) := by decide +kernel
theorem dN_read_56 : decode cN_read 56 = .ok (.invokevirtual 70, 3) := by decide +kernel
theorem dN_read_59 : decode cN_read 59 = .ok (.ifCond .eq 7, 3) := by decide +kernel
theorem dN_read_62 : decode cN_read 62 = .ok (.iconst 1, 1) := by decide +kernel
theorem dN_read_63 : decode cN_read 63 = .ok (.goto 4, 3) := by decide +kernel
theorem dN_read_66 : decode cN_read 66 = .ok (.iconst 0, 1) := by decide +kernel
theorem dN_read_67 : decode cN_read 67 = .ok (.ireturn, 1) := by decide +kernel
theorem dN_forget_0 : decode cN_forget 0 = .ok (.iconst 0, 1) := by decide +kernel
theorem dN_forget_1 : decode cN_forget 1 = .ok (.istore_n 1, 1) := by decide +kernel
theorem dN_forget_2 : decode cN_forget 2 = .ok (.iload_n 1, 1) := by decide +kernel
theorem dN_forget_3 : decode cN_forget 3 = .ok (.bipush 50, 2) := by decide +kernel
theorem dN_forget_5 : decode cN_forget 5 = .ok (.if_icmp .ge 30, 3) := by decide +kernel
theorem dN_forget_8 : decode cN_forget 8 = .ok (.aload_n 0, 1) := by decide +kernel
theorem dN_forget_9 : decode cN_forget 9 = .ok (.getfield 13, 3) := by decide +kernel
theorem dN_forget_12 : decode cN_forget 12 = .ok (.iload_n 1, 1) := by decide +kernel
theorem dN_forget_13 : decode cN_forget 13 = .ok (.iconst 0, 1) := by decide +kernel
theorem dN_forget_14 : decode cN_forget 14 = .ok (.bastore, 1) := by decide +kernel
theorem dN_forget_15 : decode cN_forget 15 = .ok (.aload_n 0, 1) := by decide +kernel
theorem dN_forget_16 : decode cN_forget 16 = .ok (.getfield 17, 3) := by decide +kernel
theorem dN_forget_19 : decode cN_forget 19 = .ok (.iload_n 1, 1) := by decide +kernel
theorem dN_forget_20 : decode cN_forget 20 = .ok (.iconst 0, 1) := by decide +kernel
theorem dN_forget_21 : decode cN_forget 21 = .ok (.bastore, 1) := by decide +kernel
theorem dN_forget_22 : decode cN_forget 22 = .ok (.aload_n 0, 1) := by decide +kernel
theorem dN_forget_23 : decode cN_forget 23 = .ok (.getfield 20, 3) := by decide +kernel
theorem dN_forget_26 : decode cN_forget 26 = .ok (.iload_n 1, 1) := by decide +kernel
theorem dN_forget_27 : decode cN_forget 27 = .ok (.iconst 0, 1) := by decide +kernel
theorem dN_forget_28 : decode cN_forget 28 = .ok (.bastore, 1) := by decide +kernel
theorem dN_forget_29 : decode cN_forget 29 = .ok (.iinc 1 1, 3) := by decide +kernel
theorem dN_forget_32 : decode cN_forget 32 = .ok (.goto (-30), 3) := by decide +kernel
theorem dN_forget_35 : decode cN_forget 35 = .ok (.aload_n 0, 1) := by decide +kernel
theorem dN_forget_36 : decode cN_forget 36 = .ok (.iconst 0, 1) := by decide +kernel
theorem dN_forget_37 : decode cN_forget 37 = .ok (.putfield 73, 3) := by decide +kernel
theorem dN_forget_40 : decode cN_forget 40 = .ok (.aload_n 0, 1) := by decide +kernel
theorem dN_forget_41 : decode cN_forget 41 = .ok (.iconst 0, 1) := by decide +kernel
theorem dN_forget_42 : decode cN_forget 42 = .ok (.putfield 77, 3) := by decide +kernel
theorem dN_forget_45 : decode cN_forget 45 = .ok (.return_, 1) := by decide +kernel
theorem dN_readHeader_0 : decode cN_readHeader 0 = .ok (.aload_n 1, 1) := by decide +kernel
theorem dN_readHeader_1 : decode cN_readHeader 1 = .ok (.bipush 97, 2) := by decide +kernel
theorem dN_readHeader_3 : decode cN_readHeader 3 = .ok (.invokevirtual 80, 3) := by decide +kernel
theorem dN_readHeader_6 : decode cN_readHeader 6 = .ok (.ifCond .eq 34, 3) := by decide +kernel
theorem dN_readHeader_9 : decode cN_readHeader 9 = .ok (.aload_n 1, 1) := by decide +kernel
theorem dN_readHeader_10 : decode cN_readHeader 10 = .ok (.bipush 97, 2) := by decide +kernel
theorem dN_readHeader_12 : decode cN_readHeader 12 = .ok (.invokevirtual 80, 3) := by decide +kernel
theorem dN_readHeader_15 : decode cN_readHeader 15 = .ok (.ifCond .eq 25, 3) := by decide +kernel
theorem dN_readHeader_18 : decode cN_readHeader 18 = .ok (.aload_n 1, 1) := by decide +kernel
theorem dN_readHeader_19 : decode cN_readHeader 19 = .ok (.bipush 103, 2) := by decide +kernel
theorem dN_readHeader_21 : decode cN_readHeader 21 = .ok (.invokevirtual 80, 3) := by decide +kernel
theorem dN_readHeader_24 : decode cN_readHeader 24 = .ok (.ifCond .eq 16, 3) := by decide +kernel
theorem dN_readHeader_27 : decode cN_readHeader 27 = .ok (.aload_n 1, 1) := by decide +kernel
theorem dN_readHeader_28 : decode cN_readHeader 28 = .ok (.bipush 32, 2) := by decide +kernel
theorem dN_readHeader_30 : decode cN_readHeader 30 = .ok (.invokevirtual 80, 3) := by decide +kernel
theorem dN_readHeader_33 : decode cN_readHeader 33 = .ok (.ifCond .eq 7, 3) := by decide +kernel
theorem dN_readHeader_36 : decode cN_readHeader 36 = .ok (.iconst 1, 1) := by decide +kernel
theorem dN_readHeader_37 : decode cN_readHeader 37 = .ok (.goto 4, 3) := by decide +kernel
theorem dN_readHeader_40 : decode cN_readHeader 40 = .ok (.iconst 0, 1) := by decide +kernel
theorem dN_readHeader_41 : decode cN_readHeader 41 = .ok (.istore_n 2, 1) := by decide +kernel
theorem dN_readHeader_42 : decode cN_readHeader 42 = .ok (.iload_n 2, 1) := by decide +kernel
theorem dN_readHeader_43 : decode cN_readHeader 43 = .ok (.ifCond .eq 11, 3) := by decide +kernel
theorem dN_readHeader_46 : decode cN_readHeader 46 = .ok (.aload_n 1, 1) := by decide +kernel
theorem dN_readHeader_47 : decode cN_readHeader 47 = .ok (.invokevirtual 84, 3) := by decide +kernel
theorem dN_readHeader_50 : decode cN_readHeader 50 = .ok (.iconst 5, 1) := by decide +kernel
theorem dN_readHeader_51 : decode cN_readHeader 51 = .ok (.if_icmp .eq 5, 3) := by decide +kernel
theorem dN_readHeader_54 : decode cN_readHeader 54 = .ok (.iconst 0, 1) := by decide +kernel
theorem dN_readHeader_55 : decode cN_readHeader 55 = .ok (.ireturn, 1) := by decide +kernel
theorem dN_readHeader_56 : decode cN_readHeader 56 = .ok (.aload_n 1, 1) := by decide +kernel
theorem dN_readHeader_57 : decode cN_readHeader 57 = .ok (.getfield 88, 3) := by decide +kernel
theorem dN_readHeader_60 : decode cN_readHeader 60 = .ok (.iconst 0, 1) := by decide +kernel
theorem dN_readHeader_61 : decode cN_readHeader 61 = .ok (.aload_n 0, 1) := by decide +kernel
theorem dN_readHeader_62 : decode cN_readHeader 62 = .ok (.getfield 9, 3) := by decide +kernel
theorem dN_readHeader_65 : decode cN_readHeader 65 = .ok (.iconst 0, 1) := by decide +kernel
theorem dN_readHeader_66 : decode cN_readHeader 66 = .ok (.iconst 5, 1) := by decide +kernel
theorem dN_readHeader_67 : decode cN_readHeader 67 = .ok (.invokestatic 91, 3) := by decide +kernel
theorem dN_readHeader_70 : decode cN_readHeader 70 = .ok (.iconst 1, 1) := by decide +kernel
theorem dN_readHeader_71 : decode cN_readHeader 71 = .ok (.ireturn, 1) := by decide +kernel
theorem dN_readInputs_0 : decode cN_readInputs 0 = .ok (.iconst 0, 1) := by decide +kernel
theorem dN_readInputs_1 : decode cN_readInputs 1 = .ok (.istore_n 2, 1) := by decide +kernel
theorem dN_readInputs_2 : decode cN_readInputs 2 = .ok (.iload_n 2, 1) := by decide +kernel
theorem dN_readInputs_3 : decode cN_readInputs 3 = .ok (.aload_n 0, 1) := by decide +kernel
theorem dN_readInputs_4 : decode cN_readInputs 4 = .ok (.getfield 9, 3) := by decide +kernel
theorem dN_readInputs_7 : decode cN_readInputs 7 = .ok (.iconst 1, 1) := by decide +kernel
theorem dN_readInputs_8 : decode cN_readInputs 8 = .ok (.iaload, 1) := by decide +kernel
theorem dN_readInputs_9 : decode cN_readInputs 9 = .ok (.if_icmp .ge 51, 3) := by decide +kernel
theorem dN_readInputs_12 : decode cN_readInputs 12 = .ok (.aload_n 1, 1) := by decide +kernel
theorem dN_readInputs_13 : decode cN_readInputs 13 = .ok (.invokevirtual 84, 3) := by decide +kernel
theorem dN_readInputs_16 : decode cN_readInputs 16 = .ok (.iconst 1, 1) := by decide +kernel
theorem dN_readInputs_17 : decode cN_readInputs 17 = .ok (.if_icmp .ne 16, 3) := by decide +kernel
theorem dN_readInputs_20 : decode cN_readInputs 20 = .ok (.aload_n 0, 1) := by decide +kernel
theorem dN_readInputs_21 : decode cN_readInputs 21 = .ok (.aload_n 1, 1) := by decide +kernel
theorem dN_readInputs_22 : decode cN_readInputs 22 = .ok (.getfield 88, 3) := by decide +kernel
theorem dN_readInputs_25 : decode cN_readInputs 25 = .ok (.iconst 0, 1) := by decide +kernel
theorem dN_readInputs_26 : decode cN_readInputs 26 = .ok (.iaload, 1) := by decide +kernel
theorem dN_readInputs_27 : decode cN_readInputs 27 = .ok (.invokevirtual 97, 3) := by decide +kernel
theorem dN_readInputs_30 : decode cN_readInputs 30 = .ok (.ifCond .ne 5, 3) := by decide +kernel
theorem dN_readInputs_33 : decode cN_readInputs 33 = .ok (.iconst 0, 1) := by decide +kernel
theorem dN_readInputs_34 : decode cN_readInputs 34 = .ok (.ireturn, 1) := by decide +kernel
theorem dN_readInputs_35 : decode cN_readInputs 35 = .ok (.iload_n 2, 1) := by decide +kernel
theorem dN_readInputs_36 : decode cN_readInputs 36 = .ok (.iconst 3, 1) := by decide +kernel
theorem dN_readInputs_37 : decode cN_readInputs 37 = .ok (.if_icmp .ge 17, 3) := by decide +kernel
theorem dN_readInputs_40 : decode cN_readInputs 40 = .ok (.aload_n 0, 1) := by decide +kernel
theorem dN_readInputs_41 : decode cN_readInputs 41 = .ok (.getfield 29, 3) := by decide +kernel
theorem dN_readInputs_44 : decode cN_readInputs 44 = .ok (.iload_n 2, 1) := by decide +kernel
theorem dN_readInputs_45 : decode cN_readInputs 45 = .ok (.aload_n 1, 1) := by decide +kernel
theorem dN_readInputs_46 : decode cN_readInputs 46 = .ok (.getfield 88, 3) := by decide +kernel
theorem dN_readInputs_49 : decode cN_readInputs 49 = .ok (.iconst 0, 1) := by decide +kernel
theorem dN_readInputs_50 : decode cN_readInputs 50 = .ok (.iaload, 1) := by decide +kernel
theorem dN_readInputs_51 : decode cN_readInputs 51 = .ok (.iconst 1, 1) := by decide +kernel
theorem dN_readInputs_52 : decode cN_readInputs 52 = .ok (.ishr, 1) := by decide +kernel
theorem dN_readInputs_53 : decode cN_readInputs 53 = .ok (.iastore, 1) := by decide +kernel
theorem dN_readInputs_54 : decode cN_readInputs 54 = .ok (.iinc 2 1, 3) := by decide +kernel
theorem dN_readInputs_57 : decode cN_readInputs 57 = .ok (.goto (-55), 3) := by decide +kernel
theorem dN_readInputs_60 : decode cN_readInputs 60 = .ok (.iconst 1, 1) := by decide +kernel
theorem dN_readInputs_61 : decode cN_readInputs 61 = .ok (.ireturn, 1) := by decide +kernel
theorem dN_define_0 : decode cN_define 0 = .ok (.iload_n 1, 1) := by decide +kernel
theorem dN_define_1 : decode cN_define 1 = .ok (.iconst 1, 1) := by decide +kernel
theorem dN_define_2 : decode cN_define 2 = .ok (.ishr, 1) := by decide +kernel
theorem dN_define_3 : decode cN_define 3 = .ok (.istore_n 2, 1) := by decide +kernel
theorem dN_define_4 : decode cN_define 4 = .ok (.aload_n 0, 1) := by decide +kernel
theorem dN_define_5 : decode cN_define 5 = .ok (.iload_n 1, 1) := by decide +kernel
theorem dN_define_6 : decode cN_define 6 = .ok (.invokevirtual 108, 3) := by decide +kernel
theorem dN_define_9 : decode cN_define 9 = .ok (.ifCond .eq 22, 3) := by decide +kernel
theorem dN_define_12 : decode cN_define 12 = .ok (.iload_n 2, 1) := by decide +kernel
theorem dN_define_13 : decode cN_define 13 = .ok (.ifCond .eq 18, 3) := by decide +kernel
theorem dN_define_16 : decode cN_define 16 = .ok (.iload_n 1, 1) := by decide +kernel
theorem dN_define_17 : decode cN_define 17 = .ok (.iconst 1, 1) := by decide +kernel
theorem dN_define_18 : decode cN_define 18 = .ok (.iand, 1) := by decide +kernel
theorem dN_define_19 : decode cN_define 19 = .ok (.ifCond .ne 12, 3) := by decide +kernel
theorem dN_define_22 : decode cN_define 22 = .ok (.aload_n 0, 1) := by decide +kernel
theorem dN_define_23 : decode cN_define 23 = .ok (.getfield 13, 3) := by decide +kernel
theorem dN_define_26 : decode cN_define 26 = .ok (.iload_n 2, 1) := by decide +kernel
theorem dN_define_27 : decode cN_define 27 = .ok (.baload, 1) := by decide +kernel
theorem dN_define_28 : decode cN_define 28 = .ok (.ifCond .eq 5, 3) := by decide +kernel
theorem dN_define_31 : decode cN_define 31 = .ok (.iconst 0, 1) := by decide +kernel
theorem dN_define_32 : decode cN_define 32 = .ok (.ireturn, 1) := by decide +kernel
theorem dN_define_33 : decode cN_define 33 = .ok (.aload_n 0, 1) := by decide +kernel
theorem dN_define_34 : decode cN_define 34 = .ok (.getfield 13, 3) := by decide +kernel
theorem dN_define_37 : decode cN_define 37 = .ok (.iload_n 2, 1) := by decide +kernel
theorem dN_define_38 : decode cN_define 38 = .ok (.iconst 1, 1) := by decide +kernel
theorem dN_define_39 : decode cN_define 39 = .ok (.bastore, 1) := by decide +kernel
theorem dN_define_40 : decode cN_define 40 = .ok (.iconst 1, 1) := by decide +kernel
theorem dN_define_41 : decode cN_define 41 = .ok (.ireturn, 1) := by decide +kernel
theorem dN_isLiteral_0 : decode cN_isLiteral 0 = .ok (.iload_n 1, 1) := by decide +kernel
theorem dN_isLiteral_1 : decode cN_isLiteral 1 = .ok (.ifCond .lt 29, 3) := by decide +kernel
theorem dN_isLiteral_4 : decode cN_isLiteral 4 = .ok (.iload_n 1, 1) := by decide +kernel
theorem dN_isLiteral_5 : decode cN_isLiteral 5 = .ok (.iconst 2, 1) := by decide +kernel
theorem dN_isLiteral_6 : decode cN_isLiteral 6 = .ok (.aload_n 0, 1) := by decide +kernel
theorem dN_isLiteral_7 : decode cN_isLiteral 7 = .ok (.getfield 9, 3) := by decide +kernel
theorem dN_isLiteral_10 : decode cN_isLiteral 10 = .ok (.iconst 0, 1) := by decide +kernel
theorem dN_isLiteral_11 : decode cN_isLiteral 11 = .ok (.iaload, 1) := by decide +kernel
theorem dN_isLiteral_12 : decode cN_isLiteral 12 = .ok (.imul, 1) := by decide +kernel
theorem dN_isLiteral_13 : decode cN_isLiteral 13 = .ok (.iconst 1, 1) := by decide +kernel
theorem dN_isLiteral_14 : decode cN_isLiteral 14 = .ok (.iadd, 1) := by decide +kernel
theorem dN_isLiteral_15 : decode cN_isLiteral 15 = .ok (.if_icmp .gt 15, 3) := by decide +kernel
theorem dN_isLiteral_18 : decode cN_isLiteral 18 = .ok (.iload_n 1, 1) := by decide +kernel
theorem dN_isLiteral_19 : decode cN_isLiteral 19 = .ok (.iconst 1, 1) := by decide +kernel
theorem dN_isLiteral_20 : decode cN_isLiteral 20 = .ok (.ishr, 1) := by decide +kernel
theorem dN_isLiteral_21 : decode cN_isLiteral 21 = .ok (.bipush 50, 2) := by decide +kernel
theorem dN_isLiteral_23 : decode cN_isLiteral 23 = .ok (.if_icmp .ge 7, 3) := by decide +kernel
theorem dN_isLiteral_26 : decode cN_isLiteral 26 = .ok (.iconst 1, 1) := by decide +kernel
theorem dN_isLiteral_27 : decode cN_isLiteral 27 = .ok (.goto 4, 3) := by decide +kernel
theorem dN_isLiteral_30 : decode cN_isLiteral 30 = .ok (.iconst 0, 1) := by decide +kernel
theorem dN_isLiteral_31 : decode cN_isLiteral 31 = .ok (.ireturn, 1) := by decide +kernel
theorem dN_readLatches_0 : decode cN_readLatches 0 = .ok (.iconst 0, 1) := by decide +kernel
theorem dN_readLatches_1 : decode cN_readLatches 1 = .ok (.istore_n 2, 1) := by decide +kernel
theorem dN_readLatches_2 : decode cN_readLatches 2 = .ok (.iload_n 2, 1) := by decide +kernel
theorem dN_readLatches_3 : decode cN_readLatches 3 = .ok (.aload_n 0, 1) := by decide +kernel
theorem dN_readLatches_4 : decode cN_readLatches 4 = .ok (.getfield 9, 3) := by decide +kernel
theorem dN_readLatches_7 : decode cN_readLatches 7 = .ok (.iconst 2, 1) := by decide +kernel
theorem dN_readLatches_8 : decode cN_readLatches 8 = .ok (.iaload, 1) := by decide +kernel
theorem dN_readLatches_9 : decode cN_readLatches 9 = .ok (.if_icmp .ge 122, 3) := by decide +kernel
theorem dN_readLatches_12 : decode cN_readLatches 12 = .ok (.aload_n 1, 1) := by decide +kernel
theorem dN_readLatches_13 : decode cN_readLatches 13 = .ok (.invokevirtual 84, 3) := by decide +kernel
theorem dN_readLatches_16 : decode cN_readLatches 16 = .ok (.istore_n 3, 1) := by decide +kernel
theorem dN_readLatches_17 : decode cN_readLatches 17 = .ok (.iload_n 3, 1) := by decide +kernel
theorem dN_readLatches_18 : decode cN_readLatches 18 = .ok (.iconst 3, 1) := by decide +kernel
theorem dN_readLatches_19 : decode cN_readLatches 19 = .ok (.if_icmp .ne 12, 3) := by decide +kernel
theorem dN_readLatches_22 : decode cN_readLatches 22 = .ok (.aload_n 1, 1) := by decide +kernel
theorem dN_readLatches_23 : decode cN_readLatches 23 = .ok (.getfield 88, 3) := by decide +kernel
theorem dN_readLatches_26 : decode cN_readLatches 26 = .ok (.iconst 2, 1) := by decide +kernel
theorem dN_readLatches_27 : decode cN_readLatches 27 = .ok (.iaload, 1) := by decide +kernel
theorem dN_readLatches_28 : decode cN_readLatches 28 = .ok (.goto 4, 3) := by decide +kernel
theorem dN_readLatches_31 : decode cN_readLatches 31 = .ok (.iconst 0, 1) := by decide +kernel
theorem dN_readLatches_32 : decode cN_readLatches 32 = .ok (.istore 4, 2) := by decide +kernel
theorem dN_readLatches_34 : decode cN_readLatches 34 = .ok (.iload_n 3, 1) := by decide +kernel
theorem dN_readLatches_35 : decode cN_readLatches 35 = .ok (.iconst 2, 1) := by decide +kernel
theorem dN_readLatches_36 : decode cN_readLatches 36 = .ok (.if_icmp .lt 14, 3) := by decide +kernel
theorem dN_readLatches_39 : decode cN_readLatches 39 = .ok (.iload_n 3, 1) := by decide +kernel
theorem dN_readLatches_40 : decode cN_readLatches 40 = .ok (.iconst 3, 1) := by decide +kernel
theorem dN_readLatches_41 : decode cN_readLatches 41 = .ok (.if_icmp .gt 9, 3) := by decide +kernel
theorem dN_readLatches_44 : decode cN_readLatches 44 = .ok (.iload 4, 2) := by decide +kernel
theorem dN_readLatches_46 : decode cN_readLatches 46 = .ok (.iconst 1, 1) := by decide +kernel
theorem dN_readLatches_47 : decode cN_readLatches 47 = .ok (.if_icmp .le 5, 3) := by decide +kernel
theorem dN_readLatches_50 : decode cN_readLatches 50 = .ok (.iconst 0, 1) := by decide +kernel
theorem dN_readLatches_51 : decode cN_readLatches 51 = .ok (.ireturn, 1) := by decide +kernel
theorem dN_readLatches_52 : decode cN_readLatches 52 = .ok (.aload_n 0, 1) := by decide +kernel
theorem dN_readLatches_53 : decode cN_readLatches 53 = .ok (.aload_n 1, 1) := by decide +kernel
theorem dN_readLatches_54 : decode cN_readLatches 54 = .ok (.getfield 88, 3) := by decide +kernel
theorem dN_readLatches_57 : decode cN_readLatches 57 = .ok (.iconst 0, 1) := by decide +kernel
theorem dN_readLatches_58 : decode cN_readLatches 58 = .ok (.iaload, 1) := by decide +kernel
theorem dN_readLatches_59 : decode cN_readLatches 59 = .ok (.invokevirtual 97, 3) := by decide +kernel
theorem dN_readLatches_62 : decode cN_readLatches 62 = .ok (.ifCond .eq 16, 3) := by decide +kernel
theorem dN_readLatches_65 : decode cN_readLatches 65 = .ok (.aload_n 0, 1) := by decide +kernel
theorem dN_readLatches_66 : decode cN_readLatches 66 = .ok (.aload_n 1, 1) := by decide +kernel
theorem dN_readLatches_67 : decode cN_readLatches 67 = .ok (.getfield 88, 3) := by decide +kernel
theorem dN_readLatches_70 : decode cN_readLatches 70 = .ok (.iconst 1, 1) := by decide +kernel
theorem dN_readLatches_71 : decode cN_readLatches 71 = .ok (.iaload, 1) := by decide +kernel
theorem dN_readLatches_72 : decode cN_readLatches 72 = .ok (.invokevirtual 101, 3) := by decide +kernel
theorem dN_readLatches_75 : decode cN_readLatches 75 = .ok (.ifCond .ne 5, 3) := by decide +kernel
theorem dN_readLatches_78 : decode cN_readLatches 78 = .ok (.iconst 0, 1) := by decide +kernel
theorem dN_readLatches_79 : decode cN_readLatches 79 = .ok (.ireturn, 1) := by decide +kernel
theorem dN_readLatches_80 : decode cN_readLatches 80 = .ok (.iload_n 2, 1) := by decide +kernel
theorem dN_readLatches_81 : decode cN_readLatches 81 = .ok (.bipush 6, 2) := by decide +kernel
theorem dN_readLatches_83 : decode cN_readLatches 83 = .ok (.if_icmp .ge 42, 3) := by decide +kernel
theorem dN_readLatches_86 : decode cN_readLatches 86 = .ok (.aload_n 0, 1) := by decide +kernel
theorem dN_readLatches_87 : decode cN_readLatches 87 = .ok (.getfield 32, 3) := by decide +kernel
theorem dN_readLatches_90 : decode cN_readLatches 90 = .ok (.iload_n 2, 1) := by decide +kernel
theorem dN_readLatches_91 : decode cN_readLatches 91 = .ok (.aload_n 1, 1) := by decide +kernel
theorem dN_readLatches_92 : decode cN_readLatches 92 = .ok (.getfield 88, 3) := by decide +kernel
theorem dN_readLatches_95 : decode cN_readLatches 95 = .ok (.iconst 0, 1) := by decide +kernel
theorem dN_readLatches_96 : decode cN_readLatches 96 = .ok (.iaload, 1) := by decide +kernel
theorem dN_readLatches_97 : decode cN_readLatches 97 = .ok (.iconst 1, 1) := by decide +kernel
theorem dN_readLatches_98 : decode cN_readLatches 98 = .ok (.ishr, 1) := by decide +kernel
theorem dN_readLatches_99 : decode cN_readLatches 99 = .ok (.iastore, 1) := by decide +kernel
theorem dN_readLatches_100 : decode cN_readLatches 100 = .ok (.aload_n 0, 1) := by decide +kernel
theorem dN_readLatches_101 : decode cN_readLatches 101 = .ok (.getfield 35, 3) := by decide +kernel
theorem dN_readLatches_104 : decode cN_readLatches 104 = .ok (.iload_n 2, 1) := by decide +kernel
theorem dN_readLatches_105 : decode cN_readLatches 105 = .ok (.aload_n 1, 1) := by decide +kernel
theorem dN_readLatches_106 : decode cN_readLatches 106 = .ok (.getfield 88, 3) := by decide +kernel
theorem dN_readLatches_109 : decode cN_readLatches 109 = .ok (.iconst 1, 1) := by decide +kernel
theorem dN_readLatches_110 : decode cN_readLatches 110 = .ok (.iaload, 1) := by decide +kernel
theorem dN_readLatches_111 : decode cN_readLatches 111 = .ok (.iastore, 1) := by decide +kernel
theorem dN_readLatches_112 : decode cN_readLatches 112 = .ok (.aload_n 0, 1) := by decide +kernel
theorem dN_readLatches_113 : decode cN_readLatches 113 = .ok (.dup, 1) := by decide +kernel
theorem dN_readLatches_114 : decode cN_readLatches 114 = .ok (.getfield 73, 3) := by decide +kernel
theorem dN_readLatches_117 : decode cN_readLatches 117 = .ok (.iload 4, 2) := by decide +kernel
theorem dN_readLatches_119 : decode cN_readLatches 119 = .ok (.iload_n 2, 1) := by decide +kernel
theorem dN_readLatches_120 : decode cN_readLatches 120 = .ok (.ishl, 1) := by decide +kernel
theorem dN_readLatches_121 : decode cN_readLatches 121 = .ok (.ior, 1) := by decide +kernel
theorem dN_readLatches_122 : decode cN_readLatches 122 = .ok (.putfield 73, 3) := by decide +kernel
theorem dN_readLatches_125 : decode cN_readLatches 125 = .ok (.iinc 2 1, 3) := by decide +kernel
theorem dN_readLatches_128 : decode cN_readLatches 128 = .ok (.goto (-126), 3) := by decide +kernel
theorem dN_readLatches_131 : decode cN_readLatches 131 = .ok (.iconst 1, 1) := by decide +kernel
theorem dN_readLatches_132 : decode cN_readLatches 132 = .ok (.ireturn, 1) := by decide +kernel
theorem dN_mention_0 : decode cN_mention 0 = .ok (.aload_n 0, 1) := by decide +kernel
theorem dN_mention_1 : decode cN_mention 1 = .ok (.iload_n 1, 1) := by decide +kernel
theorem dN_mention_2 : decode cN_mention 2 = .ok (.invokevirtual 108, 3) := by decide +kernel
theorem dN_mention_5 : decode cN_mention 5 = .ok (.ifCond .ne 5, 3) := by decide +kernel
theorem dN_mention_8 : decode cN_mention 8 = .ok (.iconst 0, 1) := by decide +kernel
theorem dN_mention_9 : decode cN_mention 9 = .ok (.ireturn, 1) := by decide +kernel
theorem dN_mention_10 : decode cN_mention 10 = .ok (.aload_n 0, 1) := by decide +kernel
theorem dN_mention_11 : decode cN_mention 11 = .ok (.getfield 17, 3) := by decide +kernel
theorem dN_mention_14 : decode cN_mention 14 = .ok (.iload_n 1, 1) := by decide +kernel
theorem dN_mention_15 : decode cN_mention 15 = .ok (.iconst 1, 1) := by decide +kernel
theorem dN_mention_16 : decode cN_mention 16 = .ok (.ishr, 1) := by decide +kernel
theorem dN_mention_17 : decode cN_mention 17 = .ok (.iconst 1, 1) := by decide +kernel
theorem dN_mention_18 : decode cN_mention 18 = .ok (.bastore, 1) := by decide +kernel
theorem dN_mention_19 : decode cN_mention 19 = .ok (.iconst 1, 1) := by decide +kernel
theorem dN_mention_20 : decode cN_mention 20 = .ok (.ireturn, 1) := by decide +kernel
theorem dN_readOutputs_0 : decode cN_readOutputs 0 = .ok (.iconst 0, 1) := by decide +kernel
theorem dN_readOutputs_1 : decode cN_readOutputs 1 = .ok (.istore_n 2, 1) := by decide +kernel
theorem dN_readOutputs_2 : decode cN_readOutputs 2 = .ok (.iload_n 2, 1) := by decide +kernel
theorem dN_readOutputs_3 : decode cN_readOutputs 3 = .ok (.aload_n 0, 1) := by decide +kernel
theorem dN_readOutputs_4 : decode cN_readOutputs 4 = .ok (.getfield 9, 3) := by decide +kernel
theorem dN_readOutputs_7 : decode cN_readOutputs 7 = .ok (.iconst 3, 1) := by decide +kernel
theorem dN_readOutputs_8 : decode cN_readOutputs 8 = .ok (.iaload, 1) := by decide +kernel
theorem dN_readOutputs_9 : decode cN_readOutputs 9 = .ok (.if_icmp .ge 42, 3) := by decide +kernel
theorem dN_readOutputs_12 : decode cN_readOutputs 12 = .ok (.aload_n 1, 1) := by decide +kernel
theorem dN_readOutputs_13 : decode cN_readOutputs 13 = .ok (.invokevirtual 84, 3) := by decide +kernel
theorem dN_readOutputs_16 : decode cN_readOutputs 16 = .ok (.iconst 1, 1) := by decide +kernel
theorem dN_readOutputs_17 : decode cN_readOutputs 17 = .ok (.if_icmp .ne 16, 3) := by decide +kernel
theorem dN_readOutputs_20 : decode cN_readOutputs 20 = .ok (.aload_n 0, 1) := by decide +kernel
theorem dN_readOutputs_21 : decode cN_readOutputs 21 = .ok (.aload_n 1, 1) := by decide +kernel
theorem dN_readOutputs_22 : decode cN_readOutputs 22 = .ok (.getfield 88, 3) := by decide +kernel
theorem dN_readOutputs_25 : decode cN_readOutputs 25 = .ok (.iconst 0, 1) := by decide +kernel
theorem dN_readOutputs_26 : decode cN_readOutputs 26 = .ok (.iaload, 1) := by decide +kernel
theorem dN_readOutputs_27 : decode cN_readOutputs 27 = .ok (.invokevirtual 101, 3) := by decide +kernel
theorem dN_readOutputs_30 : decode cN_readOutputs 30 = .ok (.ifCond .ne 5, 3) := by decide +kernel
theorem dN_readOutputs_33 : decode cN_readOutputs 33 = .ok (.iconst 0, 1) := by decide +kernel
theorem dN_readOutputs_34 : decode cN_readOutputs 34 = .ok (.ireturn, 1) := by decide +kernel
theorem dN_readOutputs_35 : decode cN_readOutputs 35 = .ok (.aload_n 0, 1) := by decide +kernel
theorem dN_readOutputs_36 : decode cN_readOutputs 36 = .ok (.aload_n 1, 1) := by decide +kernel
theorem dN_readOutputs_37 : decode cN_readOutputs 37 = .ok (.getfield 88, 3) := by decide +kernel
theorem dN_readOutputs_40 : decode cN_readOutputs 40 = .ok (.iconst 0, 1) := by decide +kernel
theorem dN_readOutputs_41 : decode cN_readOutputs 41 = .ok (.iaload, 1) := by decide +kernel
theorem dN_readOutputs_42 : decode cN_readOutputs 42 = .ok (.putfield 77, 3) := by decide +kernel
theorem dN_readOutputs_45 : decode cN_readOutputs 45 = .ok (.iinc 2 1, 3) := by decide +kernel
theorem dN_readOutputs_48 : decode cN_readOutputs 48 = .ok (.goto (-46), 3) := by decide +kernel
theorem dN_readOutputs_51 : decode cN_readOutputs 51 = .ok (.iconst 1, 1) := by decide +kernel
theorem dN_readOutputs_52 : decode cN_readOutputs 52 = .ok (.ireturn, 1) := by decide +kernel
theorem dN_readGates_0 : decode cN_readGates 0 = .ok (.iconst 0, 1) := by decide +kernel
theorem dN_readGates_1 : decode cN_readGates 1 = .ok (.istore_n 2, 1) := by decide +kernel
theorem dN_readGates_2 : decode cN_readGates 2 = .ok (.iload_n 2, 1) := by decide +kernel
theorem dN_readGates_3 : decode cN_readGates 3 = .ok (.aload_n 0, 1) := by decide +kernel
theorem dN_readGates_4 : decode cN_readGates 4 = .ok (.getfield 9, 3) := by decide +kernel
theorem dN_readGates_7 : decode cN_readGates 7 = .ok (.iconst 4, 1) := by decide +kernel
theorem dN_readGates_8 : decode cN_readGates 8 = .ok (.iaload, 1) := by decide +kernel
theorem dN_readGates_9 : decode cN_readGates 9 = .ok (.if_icmp .ge 30, 3) := by decide +kernel
theorem dN_readGates_12 : decode cN_readGates 12 = .ok (.aload_n 1, 1) := by decide +kernel
theorem dN_readGates_13 : decode cN_readGates 13 = .ok (.invokevirtual 84, 3) := by decide +kernel
theorem dN_readGates_16 : decode cN_readGates 16 = .ok (.iconst 3, 1) := by decide +kernel
theorem dN_readGates_17 : decode cN_readGates 17 = .ok (.if_icmp .ne 14, 3) := by decide +kernel
theorem dN_readGates_20 : decode cN_readGates 20 = .ok (.aload_n 0, 1) := by decide +kernel
theorem dN_readGates_21 : decode cN_readGates 21 = .ok (.aload_n 1, 1) := by decide +kernel
theorem dN_readGates_22 : decode cN_readGates 22 = .ok (.getfield 88, 3) := by decide +kernel
theorem dN_readGates_25 : decode cN_readGates 25 = .ok (.invokevirtual 104, 3) := by decide +kernel
theorem dN_readGates_28 : decode cN_readGates 28 = .ok (.ifCond .ne 5, 3) := by decide +kernel
theorem dN_readGates_31 : decode cN_readGates 31 = .ok (.iconst 0, 1) := by decide +kernel
theorem dN_readGates_32 : decode cN_readGates 32 = .ok (.ireturn, 1) := by decide +kernel
theorem dN_readGates_33 : decode cN_readGates 33 = .ok (.iinc 2 1, 3) := by decide +kernel
theorem dN_readGates_36 : decode cN_readGates 36 = .ok (.goto (-34), 3) := by decide +kernel
theorem dN_readGates_39 : decode cN_readGates 39 = .ok (.iconst 1, 1) := by decide +kernel
theorem dN_readGates_40 : decode cN_readGates 40 = .ok (.ireturn, 1) := by decide +kernel
theorem dN_readGate_0 : decode cN_readGate 0 = .ok (.aload_n 1, 1) := by decide +kernel
theorem dN_readGate_1 : decode cN_readGate 1 = .ok (.iconst 0, 1) := by decide +kernel
theorem dN_readGate_2 : decode cN_readGate 2 = .ok (.iaload, 1) := by decide +kernel
theorem dN_readGate_3 : decode cN_readGate 3 = .ok (.istore_n 2, 1) := by decide +kernel
theorem dN_readGate_4 : decode cN_readGate 4 = .ok (.aload_n 1, 1) := by decide +kernel
theorem dN_readGate_5 : decode cN_readGate 5 = .ok (.iconst 1, 1) := by decide +kernel
theorem dN_readGate_6 : decode cN_readGate 6 = .ok (.iaload, 1) := by decide +kernel
theorem dN_readGate_7 : decode cN_readGate 7 = .ok (.iload_n 2, 1) := by decide +kernel
theorem dN_readGate_8 : decode cN_readGate 8 = .ok (.if_icmp .ge 10, 3) := by decide +kernel
theorem dN_readGate_11 : decode cN_readGate 11 = .ok (.aload_n 1, 1) := by decide +kernel
theorem dN_readGate_12 : decode cN_readGate 12 = .ok (.iconst 2, 1) := by decide +kernel
theorem dN_readGate_13 : decode cN_readGate 13 = .ok (.iaload, 1) := by decide +kernel
theorem dN_readGate_14 : decode cN_readGate 14 = .ok (.iload_n 2, 1) := by decide +kernel
theorem dN_readGate_15 : decode cN_readGate 15 = .ok (.if_icmp .lt 5, 3) := by decide +kernel
theorem dN_readGate_18 : decode cN_readGate 18 = .ok (.iconst 0, 1) := by decide +kernel
theorem dN_readGate_19 : decode cN_readGate 19 = .ok (.ireturn, 1) := by decide +kernel
theorem dN_readGate_20 : decode cN_readGate 20 = .ok (.aload_n 0, 1) := by decide +kernel
theorem dN_readGate_21 : decode cN_readGate 21 = .ok (.iload_n 2, 1) := by decide +kernel
theorem dN_readGate_22 : decode cN_readGate 22 = .ok (.invokevirtual 97, 3) := by decide +kernel
theorem dN_readGate_25 : decode cN_readGate 25 = .ok (.ifCond .eq 23, 3) := by decide +kernel
theorem dN_readGate_28 : decode cN_readGate 28 = .ok (.aload_n 0, 1) := by decide +kernel
theorem dN_readGate_29 : decode cN_readGate 29 = .ok (.aload_n 1, 1) := by decide +kernel
theorem dN_readGate_30 : decode cN_readGate 30 = .ok (.iconst 1, 1) := by decide +kernel
theorem dN_readGate_31 : decode cN_readGate 31 = .ok (.iaload, 1) := by decide +kernel
theorem dN_readGate_32 : decode cN_readGate 32 = .ok (.invokevirtual 101, 3) := by decide +kernel
theorem dN_readGate_35 : decode cN_readGate 35 = .ok (.ifCond .eq 13, 3) := by decide +kernel
theorem dN_readGate_38 : decode cN_readGate 38 = .ok (.aload_n 0, 1) := by decide +kernel
theorem dN_readGate_39 : decode cN_readGate 39 = .ok (.aload_n 1, 1) := by decide +kernel
theorem dN_readGate_40 : decode cN_readGate 40 = .ok (.iconst 2, 1) := by decide +kernel
theorem dN_readGate_41 : decode cN_readGate 41 = .ok (.iaload, 1) := by decide +kernel
theorem dN_readGate_42 : decode cN_readGate 42 = .ok (.invokevirtual 101, 3) := by decide +kernel
theorem dN_readGate_45 : decode cN_readGate 45 = .ok (.ifCond .ne 5, 3) := by decide +kernel
theorem dN_readGate_48 : decode cN_readGate 48 = .ok (.iconst 0, 1) := by decide +kernel
theorem dN_readGate_49 : decode cN_readGate 49 = .ok (.ireturn, 1) := by decide +kernel
theorem dN_readGate_50 : decode cN_readGate 50 = .ok (.iload_n 2, 1) := by decide +kernel
theorem dN_readGate_51 : decode cN_readGate 51 = .ok (.iconst 1, 1) := by decide +kernel
theorem dN_readGate_52 : decode cN_readGate 52 = .ok (.ishr, 1) := by decide +kernel
theorem dN_readGate_53 : decode cN_readGate 53 = .ok (.istore_n 3, 1) := by decide +kernel
theorem dN_readGate_54 : decode cN_readGate 54 = .ok (.aload_n 0, 1) := by decide +kernel
theorem dN_readGate_55 : decode cN_readGate 55 = .ok (.getfield 20, 3) := by decide +kernel
theorem dN_readGate_58 : decode cN_readGate 58 = .ok (.iload_n 3, 1) := by decide +kernel
theorem dN_readGate_59 : decode cN_readGate 59 = .ok (.iconst 1, 1) := by decide +kernel
theorem dN_readGate_60 : decode cN_readGate 60 = .ok (.bastore, 1) := by decide +kernel
theorem dN_readGate_61 : decode cN_readGate 61 = .ok (.aload_n 0, 1) := by decide +kernel
theorem dN_readGate_62 : decode cN_readGate 62 = .ok (.getfield 23, 3) := by decide +kernel
theorem dN_readGate_65 : decode cN_readGate 65 = .ok (.iload_n 3, 1) := by decide +kernel
theorem dN_readGate_66 : decode cN_readGate 66 = .ok (.aload_n 1, 1) := by decide +kernel
theorem dN_readGate_67 : decode cN_readGate 67 = .ok (.iconst 1, 1) := by decide +kernel
theorem dN_readGate_68 : decode cN_readGate 68 = .ok (.iaload, 1) := by decide +kernel
theorem dN_readGate_69 : decode cN_readGate 69 = .ok (.iastore, 1) := by decide +kernel
theorem dN_readGate_70 : decode cN_readGate 70 = .ok (.aload_n 0, 1) := by decide +kernel
theorem dN_readGate_71 : decode cN_readGate 71 = .ok (.getfield 26, 3) := by decide +kernel
theorem dN_readGate_74 : decode cN_readGate 74 = .ok (.iload_n 3, 1) := by decide +kernel
theorem dN_readGate_75 : decode cN_readGate 75 = .ok (.aload_n 1, 1) := by decide +kernel
theorem dN_readGate_76 : decode cN_readGate 76 = .ok (.iconst 2, 1) := by decide +kernel
theorem dN_readGate_77 : decode cN_readGate 77 = .ok (.iaload, 1) := by decide +kernel
theorem dN_readGate_78 : decode cN_readGate 78 = .ok (.iastore, 1) := by decide +kernel
theorem dN_readGate_79 : decode cN_readGate 79 = .ok (.iconst 1, 1) := by decide +kernel
theorem dN_readGate_80 : decode cN_readGate 80 = .ok (.ireturn, 1) := by decide +kernel
theorem dN_allMentionedAreDefined_0 : decode cN_allMentionedAreDefined 0 = .ok (.iconst 1, 1) := by decide +kernel
theorem dN_allMentionedAreDefined_1 : decode cN_allMentionedAreDefined 1 = .ok (.istore_n 1, 1) := by decide +kernel
theorem dN_allMentionedAreDefined_2 : decode cN_allMentionedAreDefined 2 = .ok (.iload_n 1, 1) := by decide +kernel
theorem dN_allMentionedAreDefined_3 : decode cN_allMentionedAreDefined 3 = .ok (.bipush 50, 2) := by decide +kernel
theorem dN_allMentionedAreDefined_5 : decode cN_allMentionedAreDefined 5 = .ok (.if_icmp .ge 29, 3) := by decide +kernel
theorem dN_allMentionedAreDefined_8 : decode cN_allMentionedAreDefined 8 = .ok (.aload_n 0, 1) := by decide +kernel
theorem dN_allMentionedAreDefined_9 : decode cN_allMentionedAreDefined 9 = .ok (.getfield 17, 3) := by decide +kernel
theorem dN_allMentionedAreDefined_12 : decode cN_allMentionedAreDefined 12 = .ok (.iload_n 1, 1) := by decide +kernel
theorem dN_allMentionedAreDefined_13 : decode cN_allMentionedAreDefined 13 = .ok (.baload, 1) := by decide +kernel
theorem dN_allMentionedAreDefined_14 : decode cN_allMentionedAreDefined 14 = .ok (.ifCond .eq 14, 3) := by decide +kernel
theorem dN_allMentionedAreDefined_17 : decode cN_allMentionedAreDefined 17 = .ok (.aload_n 0, 1) := by decide +kernel
theorem dN_allMentionedAreDefined_18 : decode cN_allMentionedAreDefined 18 = .ok (.getfield 13, 3) := by decide +kernel
theorem dN_allMentionedAreDefined_21 : decode cN_allMentionedAreDefined 21 = .ok (.iload_n 1, 1) := by decide +kernel
theorem dN_allMentionedAreDefined_22 : decode cN_allMentionedAreDefined 22 = .ok (.baload, 1) := by decide +kernel
theorem dN_allMentionedAreDefined_23 : decode cN_allMentionedAreDefined 23 = .ok (.ifCond .ne 5, 3) := by decide +kernel
theorem dN_allMentionedAreDefined_26 : decode cN_allMentionedAreDefined 26 = .ok (.iconst 0, 1) := by decide +kernel
theorem dN_allMentionedAreDefined_27 : decode cN_allMentionedAreDefined 27 = .ok (.ireturn, 1) := by decide +kernel
theorem dN_allMentionedAreDefined_28 : decode cN_allMentionedAreDefined 28 = .ok (.iinc 1 1, 3) := by decide +kernel
theorem dN_allMentionedAreDefined_31 : decode cN_allMentionedAreDefined 31 = .ok (.goto (-29), 3) := by decide +kernel
theorem dN_allMentionedAreDefined_34 : decode cN_allMentionedAreDefined 34 = .ok (.iconst 1, 1) := by decide +kernel
theorem dN_allMentionedAreDefined_35 : decode cN_allMentionedAreDefined 35 = .ok (.ireturn, 1) := by decide +kernel
theorem dN_isSmall_0 : decode cN_isSmall 0 = .ok (.aload_n 0, 1) := by decide +kernel
theorem dN_isSmall_1 : decode cN_isSmall 1 = .ok (.getfield 9, 3) := by decide +kernel
theorem dN_isSmall_4 : decode cN_isSmall 4 = .ok (.iconst 1, 1) := by decide +kernel
theorem dN_isSmall_5 : decode cN_isSmall 5 = .ok (.iaload, 1) := by decide +kernel
theorem dN_isSmall_6 : decode cN_isSmall 6 = .ok (.iconst 3, 1) := by decide +kernel
theorem dN_isSmall_7 : decode cN_isSmall 7 = .ok (.if_icmp .gt 39, 3) := by decide +kernel
theorem dN_isSmall_10 : decode cN_isSmall 10 = .ok (.aload_n 0, 1) := by decide +kernel
theorem dN_isSmall_11 : decode cN_isSmall 11 = .ok (.getfield 9, 3) := by decide +kernel
theorem dN_isSmall_14 : decode cN_isSmall 14 = .ok (.iconst 2, 1) := by decide +kernel
theorem dN_isSmall_15 : decode cN_isSmall 15 = .ok (.iaload, 1) := by decide +kernel
theorem dN_isSmall_16 : decode cN_isSmall 16 = .ok (.bipush 6, 2) := by decide +kernel
theorem dN_isSmall_18 : decode cN_isSmall 18 = .ok (.if_icmp .gt 28, 3) := by decide +kernel
theorem dN_isSmall_21 : decode cN_isSmall 21 = .ok (.aload_n 0, 1) := by decide +kernel
theorem dN_isSmall_22 : decode cN_isSmall 22 = .ok (.getfield 9, 3) := by decide +kernel
theorem dN_isSmall_25 : decode cN_isSmall 25 = .ok (.iconst 3, 1) := by decide +kernel
theorem dN_isSmall_26 : decode cN_isSmall 26 = .ok (.iaload, 1) := by decide +kernel
theorem dN_isSmall_27 : decode cN_isSmall 27 = .ok (.iconst 1, 1) := by decide +kernel
theorem dN_isSmall_28 : decode cN_isSmall 28 = .ok (.if_icmp .ne 18, 3) := by decide +kernel
theorem dN_isSmall_31 : decode cN_isSmall 31 = .ok (.aload_n 0, 1) := by decide +kernel
theorem dN_isSmall_32 : decode cN_isSmall 32 = .ok (.getfield 9, 3) := by decide +kernel
theorem dN_isSmall_35 : decode cN_isSmall 35 = .ok (.iconst 4, 1) := by decide +kernel
theorem dN_isSmall_36 : decode cN_isSmall 36 = .ok (.iaload, 1) := by decide +kernel
theorem dN_isSmall_37 : decode cN_isSmall 37 = .ok (.bipush 20, 2) := by decide +kernel
theorem dN_isSmall_39 : decode cN_isSmall 39 = .ok (.if_icmp .gt 7, 3) := by decide +kernel
theorem dN_isSmall_42 : decode cN_isSmall 42 = .ok (.iconst 1, 1) := by decide +kernel
theorem dN_isSmall_43 : decode cN_isSmall 43 = .ok (.goto 4, 3) := by decide +kernel
theorem dN_isSmall_46 : decode cN_isSmall 46 = .ok (.iconst 0, 1) := by decide +kernel
theorem dN_isSmall_47 : decode cN_isSmall 47 = .ok (.ireturn, 1) := by decide +kernel
theorem dK_build_0 : decode cK_build 0 = .ok (.aload_n 1, 1) := by decide +kernel
theorem dK_build_1 : decode cK_build 1 = .ok (.getfield 25, 3) := by decide +kernel
theorem dK_build_4 : decode cK_build 4 = .ok (.iconst 0, 1) := by decide +kernel
theorem dK_build_5 : decode cK_build 5 = .ok (.aload_n 0, 1) := by decide +kernel
theorem dK_build_6 : decode cK_build 6 = .ok (.getfield 9, 3) := by decide +kernel
theorem dK_build_9 : decode cK_build 9 = .ok (.iconst 0, 1) := by decide +kernel
theorem dK_build_10 : decode cK_build 10 = .ok (.iconst 5, 1) := by decide +kernel
theorem dK_build_11 : decode cK_build 11 = .ok (.invokestatic 26, 3) := by decide +kernel
theorem dK_build_14 : decode cK_build 14 = .ok (.aload_n 0, 1) := by decide +kernel
theorem dK_build_15 : decode cK_build 15 = .ok (.aload_n 0, 1) := by decide +kernel
theorem dK_build_16 : decode cK_build 16 = .ok (.getfield 9, 3) := by decide +kernel
theorem dK_build_19 : decode cK_build 19 = .ok (.iconst 2, 1) := by decide +kernel
theorem dK_build_20 : decode cK_build 20 = .ok (.iaload, 1) := by decide +kernel
theorem dK_build_21 : decode cK_build 21 = .ok (.bipush 6, 2) := by decide +kernel
theorem dK_build_23 : decode cK_build 23 = .ok (.invokestatic 32, 3) := by decide +kernel
theorem dK_build_26 : decode cK_build 26 = .ok (.putfield 38, 3) := by decide +kernel
theorem dK_build_29 : decode cK_build 29 = .ok (.aload_n 0, 1) := by decide +kernel
theorem dK_build_30 : decode cK_build 30 = .ok (.iconst 1, 1) := by decide +kernel
theorem dK_build_31 : decode cK_build 31 = .ok (.aload_n 0, 1) := by decide +kernel
theorem dK_build_32 : decode cK_build 32 = .ok (.getfield 38, 3) := by decide +kernel
theorem dK_build_35 : decode cK_build 35 = .ok (.ishl, 1) := by decide +kernel
theorem dK_build_36 : decode cK_build 36 = .ok (.putfield 42, 3) := by decide +kernel
theorem dK_build_39 : decode cK_build 39 = .ok (.aload_n 0, 1) := by decide +kernel
theorem dK_build_40 : decode cK_build 40 = .ok (.iconst 1, 1) := by decide +kernel
theorem dK_build_41 : decode cK_build 41 = .ok (.aload_n 0, 1) := by decide +kernel
theorem dK_build_42 : decode cK_build 42 = .ok (.getfield 9, 3) := by decide +kernel
theorem dK_build_45 : decode cK_build 45 = .ok (.iconst 1, 1) := by decide +kernel
theorem dK_build_46 : decode cK_build 46 = .ok (.iaload, 1) := by decide +kernel
theorem dK_build_47 : decode cK_build 47 = .ok (.iconst 3, 1) := by decide +kernel
theorem dK_build_48 : decode cK_build 48 = .ok (.invokestatic 32, 3) := by decide +kernel
theorem dK_build_51 : decode cK_build 51 = .ok (.ishl, 1) := by decide +kernel
theorem dK_build_52 : decode cK_build 52 = .ok (.putfield 45, 3) := by decide +kernel
theorem dK_build_55 : decode cK_build 55 = .ok (.aload_n 0, 1) := by decide +kernel
theorem dK_build_56 : decode cK_build 56 = .ok (.aload_n 1, 1) := by decide +kernel
theorem dK_build_57 : decode cK_build 57 = .ok (.getfield 48, 3) := by decide +kernel
theorem dK_build_60 : decode cK_build 60 = .ok (.putfield 51, 3) := by decide +kernel
theorem dK_build_63 : decode cK_build 63 = .ok (.aload_n 0, 1) := by decide +kernel
theorem dK_build_64 : decode cK_build 64 = .ok (.lconst 0, 1) := by decide +kernel
theorem dK_build_65 : decode cK_build 65 = .ok (.putfield 52, 3) := by decide +kernel
theorem dK_build_68 : decode cK_build 68 = .ok (.iconst 0, 1) := by decide +kernel
theorem dK_build_69 : decode cK_build 69 = .ok (.istore_n 2, 1) := by decide +kernel
theorem dK_build_70 : decode cK_build 70 = .ok (.iload_n 2, 1) := by decide +kernel
theorem dK_build_71 : decode cK_build 71 = .ok (.aload_n 0, 1) := by decide +kernel
theorem dK_build_72 : decode cK_build 72 = .ok (.getfield 45, 3) := by decide +kernel
theorem dK_build_75 : decode cK_build 75 = .ok (.if_icmp .ge 85, 3) := by decide +kernel
theorem dK_build_78 : decode cK_build 78 = .ok (.aload_n 1, 1) := by decide +kernel
theorem dK_build_79 : decode cK_build 79 = .ok (.iload_n 2, 1) := by decide +kernel
theorem dK_build_80 : decode cK_build 80 = .ok (.invokevirtual 56, 3) := by decide +kernel
theorem dK_build_83 : decode cK_build 83 = .ok (.iconst 0, 1) := by decide +kernel
theorem dK_build_84 : decode cK_build 84 = .ok (.istore_n 3, 1) := by decide +kernel
theorem dK_build_85 : decode cK_build 85 = .ok (.iload_n 3, 1) := by decide +kernel
theorem dK_build_86 : decode cK_build 86 = .ok (.aload_n 0, 1) := by decide +kernel
theorem dK_build_87 : decode cK_build 87 = .ok (.getfield 38, 3) := by decide +kernel
theorem dK_build_90 : decode cK_build 90 = .ok (.if_icmp .ge 30, 3) := by decide +kernel
theorem dK_build_93 : decode cK_build 93 = .ok (.aload_n 0, 1) := by decide +kernel
theorem dK_build_94 : decode cK_build 94 = .ok (.getfield 15, 3) := by decide +kernel
theorem dK_build_97 : decode cK_build 97 = .ok (.iload_n 2, 1) := by decide +kernel
theorem dK_build_98 : decode cK_build 98 = .ok (.bipush 6, 2) := by decide +kernel
theorem dK_build_100 : decode cK_build 100 = .ok (.imul, 1) := by decide +kernel
theorem dK_build_101 : decode cK_build 101 = .ok (.iload_n 3, 1) := by decide +kernel
theorem dK_build_102 : decode cK_build 102 = .ok (.iadd, 1) := by decide +kernel
theorem dK_build_103 : decode cK_build 103 = .ok (.aload_n 1, 1) := by decide +kernel
theorem dK_build_104 : decode cK_build 104 = .ok (.aload_n 1, 1) := by decide +kernel
theorem dK_build_105 : decode cK_build 105 = .ok (.getfield 60, 3) := by decide +kernel
theorem dK_build_108 : decode cK_build 108 = .ok (.iload_n 3, 1) := by decide +kernel
theorem dK_build_109 : decode cK_build 109 = .ok (.iaload, 1) := by decide +kernel
theorem dK_build_110 : decode cK_build 110 = .ok (.invokevirtual 63, 3) := by decide +kernel
theorem dK_build_113 : decode cK_build 113 = .ok (.lastore, 1) := by decide +kernel
theorem dK_build_114 : decode cK_build 114 = .ok (.iinc 3 1, 3) := by decide +kernel
theorem dK_build_117 : decode cK_build 117 = .ok (.goto (-32), 3) := by decide +kernel
theorem dK_build_120 : decode cK_build 120 = .ok (.aload_n 0, 1) := by decide +kernel
theorem dK_build_121 : decode cK_build 121 = .ok (.getfield 19, 3) := by decide +kernel
theorem dK_build_124 : decode cK_build 124 = .ok (.iload_n 2, 1) := by decide +kernel
theorem dK_build_125 : decode cK_build 125 = .ok (.aload_n 1, 1) := by decide +kernel
theorem dK_build_126 : decode cK_build 126 = .ok (.aload_n 1, 1) := by decide +kernel
theorem dK_build_127 : decode cK_build 127 = .ok (.getfield 67, 3) := by decide +kernel
theorem dK_build_130 : decode cK_build 130 = .ok (.invokevirtual 63, 3) := by decide +kernel
theorem dK_build_133 : decode cK_build 133 = .ok (.aload_n 0, 1) := by decide +kernel
theorem dK_build_134 : decode cK_build 134 = .ok (.invokevirtual 70, 3) := by decide +kernel
theorem dK_build_137 : decode cK_build 137 = .ok (.land, 1) := by decide +kernel
theorem dK_build_138 : decode cK_build 138 = .ok (.lastore, 1) := by decide +kernel
theorem dK_build_139 : decode cK_build 139 = .ok (.aload_n 0, 1) := by decide +kernel
theorem dK_build_140 : decode cK_build 140 = .ok (.dup, 1) := by decide +kernel
theorem dK_build_141 : decode cK_build 141 = .ok (.getfield 52, 3) := by decide +kernel
theorem dK_build_144 : decode cK_build 144 = .ok (.aload_n 0, 1) := by decide +kernel
theorem dK_build_145 : decode cK_build 145 = .ok (.getfield 19, 3) := by decide +kernel
theorem dK_build_148 : decode cK_build 148 = .ok (.iload_n 2, 1) := by decide +kernel
theorem dK_build_149 : decode cK_build 149 = .ok (.laload, 1) := by decide +kernel
theorem dK_build_150 : decode cK_build 150 = .ok (.lor, 1) := by decide +kernel
theorem dK_build_151 : decode cK_build 151 = .ok (.putfield 52, 3) := by decide +kernel
theorem dK_build_154 : decode cK_build 154 = .ok (.iinc 2 1, 3) := by decide +kernel
theorem dK_build_157 : decode cK_build 157 = .ok (.goto (-87), 3) := by decide +kernel
theorem dK_build_160 : decode cK_build 160 = .ok (.aload_n 0, 1) := by decide +kernel
theorem dK_build_161 : decode cK_build 161 = .ok (.invokevirtual 74, 3) := by decide +kernel
theorem dK_build_164 : decode cK_build 164 = .ok (.return_, 1) := by decide +kernel
theorem dN_run_0 : decode cN_run 0 = .ok (.aload_n 0, 1) := by decide +kernel
theorem dN_run_1 : decode cN_run 1 = .ok (.getfield 38, 3) := by decide +kernel
theorem dN_run_4 : decode cN_run 4 = .ok (.iconst 0, 1) := by decide +kernel
theorem dN_run_5 : decode cN_run 5 = .ok (.lconst 0, 1) := by decide +kernel
theorem dN_run_6 : decode cN_run 6 = .ok (.lastore, 1) := by decide +kernel
theorem dN_run_7 : decode cN_run 7 = .ok (.iconst 0, 1) := by decide +kernel
theorem dN_run_8 : decode cN_run 8 = .ok (.istore_n 2, 1) := by decide +kernel
theorem dN_run_9 : decode cN_run 9 = .ok (.iload_n 2, 1) := by decide +kernel
theorem dN_run_10 : decode cN_run 10 = .ok (.aload_n 0, 1) := by decide +kernel
theorem dN_run_11 : decode cN_run 11 = .ok (.getfield 9, 3) := by decide +kernel
theorem dN_run_14 : decode cN_run 14 = .ok (.iconst 1, 1) := by decide +kernel
theorem dN_run_15 : decode cN_run 15 = .ok (.iaload, 1) := by decide +kernel
theorem dN_run_16 : decode cN_run 16 = .ok (.if_icmp .ge 32, 3) := by decide +kernel
theorem dN_run_19 : decode cN_run 19 = .ok (.iload_n 2, 1) := by decide +kernel
theorem dN_run_20 : decode cN_run 20 = .ok (.iconst 3, 1) := by decide +kernel
theorem dN_run_21 : decode cN_run 21 = .ok (.if_icmp .ge 27, 3) := by decide +kernel
theorem dN_run_24 : decode cN_run 24 = .ok (.aload_n 0, 1) := by decide +kernel
theorem dN_run_25 : decode cN_run 25 = .ok (.getfield 38, 3) := by decide +kernel
theorem dN_run_28 : decode cN_run 28 = .ok (.aload_n 0, 1) := by decide +kernel
theorem dN_run_29 : decode cN_run 29 = .ok (.getfield 29, 3) := by decide +kernel
theorem dN_run_32 : decode cN_run 32 = .ok (.iload_n 2, 1) := by decide +kernel
theorem dN_run_33 : decode cN_run 33 = .ok (.iaload, 1) := by decide +kernel
theorem dN_run_34 : decode cN_run 34 = .ok (.iload_n 1, 1) := by decide +kernel
theorem dN_run_35 : decode cN_run 35 = .ok (.iload_n 2, 1) := by decide +kernel
theorem dN_run_36 : decode cN_run 36 = .ok (.ishr, 1) := by decide +kernel
theorem dN_run_37 : decode cN_run 37 = .ok (.iconst 1, 1) := by decide +kernel
theorem dN_run_38 : decode cN_run 38 = .ok (.iand, 1) := by decide +kernel
theorem dN_run_39 : decode cN_run 39 = .ok (.i2l, 1) := by decide +kernel
theorem dN_run_40 : decode cN_run 40 = .ok (.lneg, 1) := by decide +kernel
theorem dN_run_41 : decode cN_run 41 = .ok (.lastore, 1) := by decide +kernel
theorem dN_run_42 : decode cN_run 42 = .ok (.iinc 2 1, 3) := by decide +kernel
theorem dN_run_45 : decode cN_run 45 = .ok (.goto (-36), 3) := by decide +kernel
theorem dN_run_48 : decode cN_run 48 = .ok (.iconst 0, 1) := by decide +kernel
theorem dN_run_49 : decode cN_run 49 = .ok (.istore_n 2, 1) := by decide +kernel
theorem dN_run_50 : decode cN_run 50 = .ok (.iload_n 2, 1) := by decide +kernel
theorem dN_run_51 : decode cN_run 51 = .ok (.aload_n 0, 1) := by decide +kernel
theorem dN_run_52 : decode cN_run 52 = .ok (.getfield 9, 3) := by decide +kernel
theorem dN_run_55 : decode cN_run 55 = .ok (.iconst 2, 1) := by decide +kernel
theorem dN_run_56 : decode cN_run 56 = .ok (.iaload, 1) := by decide +kernel
theorem dN_run_57 : decode cN_run 57 = .ok (.if_icmp .ge 31, 3) := by decide +kernel
theorem dN_run_60 : decode cN_run 60 = .ok (.iload_n 2, 1) := by decide +kernel
theorem dN_run_61 : decode cN_run 61 = .ok (.bipush 6, 2) := by decide +kernel
theorem dN_run_63 : decode cN_run 63 = .ok (.if_icmp .ge 25, 3) := by decide +kernel
theorem dN_run_66 : decode cN_run 66 = .ok (.aload_n 0, 1) := by decide +kernel
theorem dN_run_67 : decode cN_run 67 = .ok (.getfield 38, 3) := by decide +kernel
theorem dN_run_70 : decode cN_run 70 = .ok (.aload_n 0, 1) := by decide +kernel
theorem dN_run_71 : decode cN_run 71 = .ok (.getfield 32, 3) := by decide +kernel
theorem dN_run_74 : decode cN_run 74 = .ok (.iload_n 2, 1) := by decide +kernel
theorem dN_run_75 : decode cN_run 75 = .ok (.iaload, 1) := by decide +kernel
theorem dN_run_76 : decode cN_run 76 = .ok (.getstatic 111, 3) := by decide +kernel
theorem dN_run_79 : decode cN_run 79 = .ok (.iload_n 2, 1) := by decide +kernel
theorem dN_run_80 : decode cN_run 80 = .ok (.laload, 1) := by decide +kernel
theorem dN_run_81 : decode cN_run 81 = .ok (.lastore, 1) := by decide +kernel
theorem dN_run_82 : decode cN_run 82 = .ok (.iinc 2 1, 3) := by decide +kernel
theorem dN_run_85 : decode cN_run 85 = .ok (.goto (-35), 3) := by decide +kernel
theorem dN_run_88 : decode cN_run 88 = .ok (.iconst 1, 1) := by decide +kernel
theorem dN_run_89 : decode cN_run 89 = .ok (.istore_n 2, 1) := by decide +kernel
theorem dN_run_90 : decode cN_run 90 = .ok (.iload_n 2, 1) := by decide +kernel
theorem dN_run_91 : decode cN_run 91 = .ok (.bipush 50, 2) := by decide +kernel
theorem dN_run_93 : decode cN_run 93 = .ok (.if_icmp .ge 45, 3) := by decide +kernel
theorem dN_run_96 : decode cN_run 96 = .ok (.aload_n 0, 1) := by decide +kernel
theorem dN_run_97 : decode cN_run 97 = .ok (.getfield 20, 3) := by decide +kernel
theorem dN_run_100 : decode cN_run 100 = .ok (.iload_n 2, 1) := by decide +kernel
theorem dN_run_101 : decode cN_run 101 = .ok (.baload, 1) := by decide +kernel
theorem dN_run_102 : decode cN_run 102 = .ok (.ifCond .eq 30, 3) := by decide +kernel
theorem dN_run_105 : decode cN_run 105 = .ok (.aload_n 0, 1) := by decide +kernel
theorem dN_run_106 : decode cN_run 106 = .ok (.getfield 38, 3) := by decide +kernel
theorem dN_run_109 : decode cN_run 109 = .ok (.iload_n 2, 1) := by decide +kernel
theorem dN_run_110 : decode cN_run 110 = .ok (.aload_n 0, 1) := by decide +kernel
theorem dN_run_111 : decode cN_run 111 = .ok (.aload_n 0, 1) := by decide +kernel
theorem dN_run_112 : decode cN_run 112 = .ok (.getfield 23, 3) := by decide +kernel
theorem dN_run_115 : decode cN_run 115 = .ok (.iload_n 2, 1) := by decide +kernel
theorem dN_run_116 : decode cN_run 116 = .ok (.iaload, 1) := by decide +kernel
theorem dN_run_117 : decode cN_run 117 = .ok (.invokevirtual 114, 3) := by decide +kernel
theorem dN_run_120 : decode cN_run 120 = .ok (.aload_n 0, 1) := by decide +kernel
theorem dN_run_121 : decode cN_run 121 = .ok (.aload_n 0, 1) := by decide +kernel
theorem dN_run_122 : decode cN_run 122 = .ok (.getfield 26, 3) := by decide +kernel
theorem dN_run_125 : decode cN_run 125 = .ok (.iload_n 2, 1) := by decide +kernel
theorem dN_run_126 : decode cN_run 126 = .ok (.iaload, 1) := by decide +kernel
theorem dN_run_127 : decode cN_run 127 = .ok (.invokevirtual 114, 3) := by decide +kernel
theorem dN_run_130 : decode cN_run 130 = .ok (.land, 1) := by decide +kernel
theorem dN_run_131 : decode cN_run 131 = .ok (.lastore, 1) := by decide +kernel
theorem dN_run_132 : decode cN_run 132 = .ok (.iinc 2 1, 3) := by decide +kernel
theorem dN_run_135 : decode cN_run 135 = .ok (.goto (-45), 3) := by decide +kernel
theorem dN_run_138 : decode cN_run 138 = .ok (.return_, 1) := by decide +kernel
theorem dN_statesWith_0 : decode cN_statesWith 0 = .ok (.aload_n 0, 1) := by decide +kernel
theorem dN_statesWith_1 : decode cN_statesWith 1 = .ok (.getfield 38, 3) := by decide +kernel
theorem dN_statesWith_4 : decode cN_statesWith 4 = .ok (.iload_n 1, 1) := by decide +kernel
theorem dN_statesWith_5 : decode cN_statesWith 5 = .ok (.iconst 1, 1) := by decide +kernel
theorem dN_statesWith_6 : decode cN_statesWith 6 = .ok (.ishr, 1) := by decide +kernel
theorem dN_statesWith_7 : decode cN_statesWith 7 = .ok (.laload, 1) := by decide +kernel
theorem dN_statesWith_8 : decode cN_statesWith 8 = .ok (.iload_n 1, 1) := by decide +kernel
theorem dN_statesWith_9 : decode cN_statesWith 9 = .ok (.iconst 1, 1) := by decide +kernel
theorem dN_statesWith_10 : decode cN_statesWith 10 = .ok (.iand, 1) := by decide +kernel
theorem dN_statesWith_11 : decode cN_statesWith 11 = .ok (.i2l, 1) := by decide +kernel
theorem dN_statesWith_12 : decode cN_statesWith 12 = .ok (.lneg, 1) := by decide +kernel
theorem dN_statesWith_13 : decode cN_statesWith 13 = .ok (.lxor, 1) := by decide +kernel
theorem dN_statesWith_14 : decode cN_statesWith 14 = .ok (.lreturn, 1) := by decide +kernel
theorem dK_allStates_0 : decode cK_allStates 0 = .ok (.ldc2_w 80, 3) := by decide +kernel
theorem dK_allStates_3 : decode cK_allStates 3 = .ok (.bipush 64, 2) := by decide +kernel
theorem dK_allStates_5 : decode cK_allStates 5 = .ok (.aload_n 0, 1) := by decide +kernel
theorem dK_allStates_6 : decode cK_allStates 6 = .ok (.getfield 42, 3) := by decide +kernel
theorem dK_allStates_9 : decode cK_allStates 9 = .ok (.isub, 1) := by decide +kernel
theorem dK_allStates_10 : decode cK_allStates 10 = .ok (.lushr, 1) := by decide +kernel
theorem dK_allStates_11 : decode cK_allStates 11 = .ok (.lreturn, 1) := by decide +kernel
theorem dK_joinSteps_0 : decode cK_joinSteps 0 = .ok (.iconst 0, 1) := by decide +kernel
theorem dK_joinSteps_1 : decode cK_joinSteps 1 = .ok (.istore_n 1, 1) := by decide +kernel
theorem dK_joinSteps_2 : decode cK_joinSteps 2 = .ok (.iload_n 1, 1) := by decide +kernel
theorem dK_joinSteps_3 : decode cK_joinSteps 3 = .ok (.aload_n 0, 1) := by decide +kernel
theorem dK_joinSteps_4 : decode cK_joinSteps 4 = .ok (.getfield 42, 3) := by decide +kernel
theorem dK_joinSteps_7 : decode cK_joinSteps 7 = .ok (.if_icmp .ge 49, 3) := by decide +kernel
theorem dK_joinSteps_10 : decode cK_joinSteps 10 = .ok (.aload_n 0, 1) := by decide +kernel
theorem dK_joinSteps_11 : decode cK_joinSteps 11 = .ok (.getfield 22, 3) := by decide +kernel
theorem dK_joinSteps_14 : decode cK_joinSteps 14 = .ok (.iload_n 1, 1) := by decide +kernel
theorem dK_joinSteps_15 : decode cK_joinSteps 15 = .ok (.lconst 0, 1) := by decide +kernel
theorem dK_joinSteps_16 : decode cK_joinSteps 16 = .ok (.lastore, 1) := by decide +kernel
theorem dK_joinSteps_17 : decode cK_joinSteps 17 = .ok (.iconst 0, 1) := by decide +kernel
theorem dK_joinSteps_18 : decode cK_joinSteps 18 = .ok (.istore_n 2, 1) := by decide +kernel
theorem dK_joinSteps_19 : decode cK_joinSteps 19 = .ok (.iload_n 2, 1) := by decide +kernel
theorem dK_joinSteps_20 : decode cK_joinSteps 20 = .ok (.aload_n 0, 1) := by decide +kernel
theorem dK_joinSteps_21 : decode cK_joinSteps 21 = .ok (.getfield 45, 3) := by decide +kernel
theorem dK_joinSteps_24 : decode cK_joinSteps 24 = .ok (.if_icmp .ge 26, 3) := by decide +kernel
theorem dK_joinSteps_27 : decode cK_joinSteps 27 = .ok (.aload_n 0, 1) := by decide +kernel
theorem dK_joinSteps_28 : decode cK_joinSteps 28 = .ok (.getfield 22, 3) := by decide +kernel
theorem dK_joinSteps_31 : decode cK_joinSteps 31 = .ok (.iload_n 1, 1) := by decide +kernel
theorem dK_joinSteps_32 : decode cK_joinSteps 32 = .ok (.dup2, 1) := by decide +kernel
theorem dK_joinSteps_33 : decode cK_joinSteps 33 = .ok (.laload, 1) := by decide +kernel
theorem dK_joinSteps_34 : decode cK_joinSteps 34 = .ok (.lconst 1, 1) := by decide +kernel
theorem dK_joinSteps_35 : decode cK_joinSteps 35 = .ok (.aload_n 0, 1) := by decide +kernel
theorem dK_joinSteps_36 : decode cK_joinSteps 36 = .ok (.iload_n 1, 1) := by decide +kernel
theorem dK_joinSteps_37 : decode cK_joinSteps 37 = .ok (.iload_n 2, 1) := by decide +kernel
theorem dK_joinSteps_38 : decode cK_joinSteps 38 = .ok (.invokevirtual 77, 3) := by decide +kernel
theorem dK_joinSteps_41 : decode cK_joinSteps 41 = .ok (.lshl, 1) := by decide +kernel
theorem dK_joinSteps_42 : decode cK_joinSteps 42 = .ok (.lor, 1) := by decide +kernel
theorem dK_joinSteps_43 : decode cK_joinSteps 43 = .ok (.lastore, 1) := by decide +kernel
theorem dK_joinSteps_44 : decode cK_joinSteps 44 = .ok (.iinc 2 1, 3) := by decide +kernel
theorem dK_joinSteps_47 : decode cK_joinSteps 47 = .ok (.goto (-28), 3) := by decide +kernel
theorem dK_joinSteps_50 : decode cK_joinSteps 50 = .ok (.iinc 1 1, 3) := by decide +kernel
theorem dK_joinSteps_53 : decode cK_joinSteps 53 = .ok (.goto (-51), 3) := by decide +kernel
theorem dK_joinSteps_56 : decode cK_joinSteps 56 = .ok (.return_, 1) := by decide +kernel
theorem dK_next_0 : decode cK_next 0 = .ok (.iconst 0, 1) := by decide +kernel
theorem dK_next_1 : decode cK_next 1 = .ok (.istore_n 3, 1) := by decide +kernel
theorem dK_next_2 : decode cK_next 2 = .ok (.iconst 0, 1) := by decide +kernel
theorem dK_next_3 : decode cK_next 3 = .ok (.istore 4, 2) := by decide +kernel
theorem dK_next_5 : decode cK_next 5 = .ok (.iload 4, 2) := by decide +kernel
theorem dK_next_7 : decode cK_next 7 = .ok (.aload_n 0, 1) := by decide +kernel
theorem dK_next_8 : decode cK_next 8 = .ok (.getfield 38, 3) := by decide +kernel
theorem dK_next_11 : decode cK_next 11 = .ok (.if_icmp .ge 35, 3) := by decide +kernel
theorem dK_next_14 : decode cK_next 14 = .ok (.aload_n 0, 1) := by decide +kernel
theorem dK_next_15 : decode cK_next 15 = .ok (.getfield 15, 3) := by decide +kernel
theorem dK_next_18 : decode cK_next 18 = .ok (.iload_n 2, 1) := by decide +kernel
theorem dK_next_19 : decode cK_next 19 = .ok (.bipush 6, 2) := by decide +kernel
theorem dK_next_21 : decode cK_next 21 = .ok (.imul, 1) := by decide +kernel
theorem dK_next_22 : decode cK_next 22 = .ok (.iload 4, 2) := by decide +kernel
theorem dK_next_24 : decode cK_next 24 = .ok (.iadd, 1) := by decide +kernel
theorem dK_next_25 : decode cK_next 25 = .ok (.laload, 1) := by decide +kernel
theorem dK_next_26 : decode cK_next 26 = .ok (.iload_n 1, 1) := by decide +kernel
theorem dK_next_27 : decode cK_next 27 = .ok (.invokestatic 82, 3) := by decide +kernel
theorem dK_next_30 : decode cK_next 30 = .ok (.ifCond .eq 10, 3) := by decide +kernel
theorem dK_next_33 : decode cK_next 33 = .ok (.iload_n 3, 1) := by decide +kernel
theorem dK_next_34 : decode cK_next 34 = .ok (.iconst 1, 1) := by decide +kernel
theorem dK_next_35 : decode cK_next 35 = .ok (.iload 4, 2) := by decide +kernel
theorem dK_next_37 : decode cK_next 37 = .ok (.ishl, 1) := by decide +kernel
theorem dK_next_38 : decode cK_next 38 = .ok (.ior, 1) := by decide +kernel
theorem dK_next_39 : decode cK_next 39 = .ok (.istore_n 3, 1) := by decide +kernel
theorem dK_next_40 : decode cK_next 40 = .ok (.iinc 4 1, 3) := by decide +kernel
theorem dK_next_43 : decode cK_next 43 = .ok (.goto (-38), 3) := by decide +kernel
theorem dK_next_46 : decode cK_next 46 = .ok (.iload_n 3, 1) := by decide +kernel
theorem dK_next_47 : decode cK_next 47 = .ok (.ireturn, 1) := by decide +kernel
theorem dK_before_0 : decode cK_before 0 = .ok (.lconst 0, 1) := by decide +kernel
theorem dK_before_1 : decode cK_before 1 = .ok (.lstore_n 3, 1) := by decide +kernel
theorem dK_before_2 : decode cK_before 2 = .ok (.iconst 0, 1) := by decide +kernel
theorem dK_before_3 : decode cK_before 3 = .ok (.istore 5, 2) := by decide +kernel
theorem dK_before_5 : decode cK_before 5 = .ok (.iload 5, 2) := by decide +kernel
theorem dK_before_7 : decode cK_before 7 = .ok (.aload_n 0, 1) := by decide +kernel
theorem dK_before_8 : decode cK_before 8 = .ok (.getfield 42, 3) := by decide +kernel
theorem dK_before_11 : decode cK_before 11 = .ok (.if_icmp .ge 30, 3) := by decide +kernel
theorem dK_before_14 : decode cK_before 14 = .ok (.aload_n 0, 1) := by decide +kernel
theorem dK_before_15 : decode cK_before 15 = .ok (.getfield 22, 3) := by decide +kernel
theorem dK_before_18 : decode cK_before 18 = .ok (.iload 5, 2) := by decide +kernel
theorem dK_before_20 : decode cK_before 20 = .ok (.laload, 1) := by decide +kernel
theorem dK_before_21 : decode cK_before 21 = .ok (.lload_n 1, 1) := by decide +kernel
theorem dK_before_22 : decode cK_before 22 = .ok (.land, 1) := by decide +kernel
theorem dK_before_23 : decode cK_before 23 = .ok (.lconst 0, 1) := by decide +kernel
theorem dK_before_24 : decode cK_before 24 = .ok (.lcmp, 1) := by decide +kernel
theorem dK_before_25 : decode cK_before 25 = .ok (.ifCond .eq 10, 3) := by decide +kernel
theorem dK_before_28 : decode cK_before 28 = .ok (.lload_n 3, 1) := by decide +kernel
theorem dK_before_29 : decode cK_before 29 = .ok (.lconst 1, 1) := by decide +kernel
theorem dK_before_30 : decode cK_before 30 = .ok (.iload 5, 2) := by decide +kernel
theorem dK_before_32 : decode cK_before 32 = .ok (.lshl, 1) := by decide +kernel
theorem dK_before_33 : decode cK_before 33 = .ok (.lor, 1) := by decide +kernel
theorem dK_before_34 : decode cK_before 34 = .ok (.lstore_n 3, 1) := by decide +kernel
theorem dK_before_35 : decode cK_before 35 = .ok (.iinc 5 1, 3) := by decide +kernel
theorem dK_before_38 : decode cK_before 38 = .ok (.goto (-33), 3) := by decide +kernel
theorem dK_before_41 : decode cK_before 41 = .ok (.lload_n 3, 1) := by decide +kernel
theorem dK_before_42 : decode cK_before 42 = .ok (.lreturn, 1) := by decide +kernel
theorem dK_post_0 : decode cK_post 0 = .ok (.lconst 0, 1) := by decide +kernel
theorem dK_post_1 : decode cK_post 1 = .ok (.lstore_n 3, 1) := by decide +kernel
theorem dK_post_2 : decode cK_post 2 = .ok (.iconst 0, 1) := by decide +kernel
theorem dK_post_3 : decode cK_post 3 = .ok (.istore 5, 2) := by decide +kernel
theorem dK_post_5 : decode cK_post 5 = .ok (.iload 5, 2) := by decide +kernel
theorem dK_post_7 : decode cK_post 7 = .ok (.aload_n 0, 1) := by decide +kernel
theorem dK_post_8 : decode cK_post 8 = .ok (.getfield 42, 3) := by decide +kernel
theorem dK_post_11 : decode cK_post 11 = .ok (.if_icmp .ge 28, 3) := by decide +kernel
theorem dK_post_14 : decode cK_post 14 = .ok (.lload_n 1, 1) := by decide +kernel
theorem dK_post_15 : decode cK_post 15 = .ok (.iload 5, 2) := by decide +kernel
theorem dK_post_17 : decode cK_post 17 = .ok (.invokestatic 82, 3) := by decide +kernel
theorem dK_post_20 : decode cK_post 20 = .ok (.ifCond .eq 13, 3) := by decide +kernel
theorem dK_post_23 : decode cK_post 23 = .ok (.lload_n 3, 1) := by decide +kernel
theorem dK_post_24 : decode cK_post 24 = .ok (.aload_n 0, 1) := by decide +kernel
theorem dK_post_25 : decode cK_post 25 = .ok (.getfield 22, 3) := by decide +kernel
theorem dK_post_28 : decode cK_post 28 = .ok (.iload 5, 2) := by decide +kernel
theorem dK_post_30 : decode cK_post 30 = .ok (.laload, 1) := by decide +kernel
theorem dK_post_31 : decode cK_post 31 = .ok (.lor, 1) := by decide +kernel
theorem dK_post_32 : decode cK_post 32 = .ok (.lstore_n 3, 1) := by decide +kernel
theorem dK_post_33 : decode cK_post 33 = .ok (.iinc 5 1, 3) := by decide +kernel
theorem dK_post_36 : decode cK_post 36 = .ok (.goto (-31), 3) := by decide +kernel
theorem dK_post_39 : decode cK_post 39 = .ok (.lload_n 3, 1) := by decide +kernel
theorem dK_post_40 : decode cK_post 40 = .ok (.lreturn, 1) := by decide +kernel
theorem dK_hasOutput_0 : decode cK_hasOutput 0 = .ok (.aload_n 0, 1) := by decide +kernel
theorem dK_hasOutput_1 : decode cK_hasOutput 1 = .ok (.getfield 19, 3) := by decide +kernel
theorem dK_hasOutput_4 : decode cK_hasOutput 4 = .ok (.iload_n 2, 1) := by decide +kernel
theorem dK_hasOutput_5 : decode cK_hasOutput 5 = .ok (.laload, 1) := by decide +kernel
theorem dK_hasOutput_6 : decode cK_hasOutput 6 = .ok (.iload_n 1, 1) := by decide +kernel
theorem dK_hasOutput_7 : decode cK_hasOutput 7 = .ok (.invokestatic 82, 3) := by decide +kernel
theorem dK_hasOutput_10 : decode cK_hasOutput 10 = .ok (.ireturn, 1) := by decide +kernel
theorem dK_isState_0 : decode cK_isState 0 = .ok (.iload_n 1, 1) := by decide +kernel
theorem dK_isState_1 : decode cK_isState 1 = .ok (.ifCond .lt 15, 3) := by decide +kernel
theorem dK_isState_4 : decode cK_isState 4 = .ok (.iload_n 1, 1) := by decide +kernel
theorem dK_isState_5 : decode cK_isState 5 = .ok (.aload_n 0, 1) := by decide +kernel
theorem dK_isState_6 : decode cK_isState 6 = .ok (.getfield 42, 3) := by decide +kernel
theorem dK_isState_9 : decode cK_isState 9 = .ok (.if_icmp .ge 7, 3) := by decide +kernel
theorem dK_isState_12 : decode cK_isState 12 = .ok (.iconst 1, 1) := by decide +kernel
theorem dK_isState_13 : decode cK_isState 13 = .ok (.goto 4, 3) := by decide +kernel
theorem dK_isState_16 : decode cK_isState 16 = .ok (.iconst 0, 1) := by decide +kernel
theorem dK_isState_17 : decode cK_isState 17 = .ok (.ireturn, 1) := by decide +kernel
theorem dK_isInput_0 : decode cK_isInput 0 = .ok (.iload_n 1, 1) := by decide +kernel
theorem dK_isInput_1 : decode cK_isInput 1 = .ok (.ifCond .lt 15, 3) := by decide +kernel
theorem dK_isInput_4 : decode cK_isInput 4 = .ok (.iload_n 1, 1) := by decide +kernel
theorem dK_isInput_5 : decode cK_isInput 5 = .ok (.aload_n 0, 1) := by decide +kernel
theorem dK_isInput_6 : decode cK_isInput 6 = .ok (.getfield 45, 3) := by decide +kernel
theorem dK_isInput_9 : decode cK_isInput 9 = .ok (.if_icmp .ge 7, 3) := by decide +kernel
theorem dK_isInput_12 : decode cK_isInput 12 = .ok (.iconst 1, 1) := by decide +kernel
theorem dK_isInput_13 : decode cK_isInput 13 = .ok (.goto 4, 3) := by decide +kernel
theorem dK_isInput_16 : decode cK_isInput 16 = .ok (.iconst 0, 1) := by decide +kernel
theorem dK_isInput_17 : decode cK_isInput 17 = .ok (.ireturn, 1) := by decide +kernel
