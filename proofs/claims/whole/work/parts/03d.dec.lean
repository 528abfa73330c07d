theorem dM_init_0 : decode cM_init 0 = .ok (.aload_n 0, 1) := by decide +kernel
theorem dM_init_1 : decode cM_init 1 = .ok (.invokespecial 1, 3) := by decide +kernel
theorem dM_init_4 : decode cM_init 4 = .ok (.aload_n 0, 1) := by decide +kernel
theorem dM_init_5 : decode cM_init 5 = .ok (.sipush 400, 3) := by decide +kernel
theorem dM_init_8 : decode cM_init 8 = .ok (.newarray .int, 2) := by decide +kernel
theorem dM_init_10 : decode cM_init 10 = .ok (.putfield 7, 3) := by decide +kernel
theorem dM_init_13 : decode cM_init 13 = .ok (.aload_n 0, 1) := by decide +kernel
theorem dM_init_14 : decode cM_init 14 = .ok (.iconst 5, 1) := by decide +kernel
theorem dM_init_15 : decode cM_init 15 = .ok (.newarray .int, 2) := by decide +kernel
theorem dM_init_17 : decode cM_init 17 = .ok (.putfield 13, 3) := by decide +kernel
theorem dM_init_20 : decode cM_init 20 = .ok (.aload_n 0, 1) := by decide +kernel
theorem dM_init_21 : decode cM_init 21 = .ok (.bipush 100, 2) := by decide +kernel
theorem dM_init_23 : decode cM_init 23 = .ok (.newarray .int, 2) := by decide +kernel
theorem dM_init_25 : decode cM_init 25 = .ok (.putfield 16, 3) := by decide +kernel
theorem dM_init_28 : decode cM_init 28 = .ok (.aload_n 0, 1) := by decide +kernel
theorem dM_init_29 : decode cM_init 29 = .ok (.sipush 300, 3) := by decide +kernel
theorem dM_init_32 : decode cM_init 32 = .ok (.newarray .int, 2) := by decide +kernel
theorem dM_init_34 : decode cM_init 34 = .ok (.putfield 19, 3) := by decide +kernel
theorem dM_init_37 : decode cM_init 37 = .ok (.aload_n 0, 1) := by decide +kernel
theorem dM_init_38 : decode cM_init 38 = .ok (.bipush 100, 2) := by decide +kernel
theorem dM_init_40 : decode cM_init 40 = .ok (.newarray .int, 2) := by decide +kernel
theorem dM_init_42 : decode cM_init 42 = .ok (.putfield 22, 3) := by decide +kernel
theorem dM_init_45 : decode cM_init 45 = .ok (.aload_n 0, 1) := by decide +kernel
theorem dM_init_46 : decode cM_init 46 = .ok (.sipush 300, 3) := by decide +kernel
theorem dM_init_49 : decode cM_init 49 = .ok (.newarray .int, 2) := by decide +kernel
theorem dM_init_51 : decode cM_init 51 = .ok (.putfield 25, 3) := by decide +kernel
theorem dM_init_54 : decode cM_init 54 = .ok (.aload_n 0, 1) := by decide +kernel
theorem dM_init_55 : decode cM_init 55 = .ok (.bipush 100, 2) := by decide +kernel
theorem dM_init_57 : decode cM_init 57 = .ok (.newarray .boolean, 2) := by decide +kernel
theorem dM_init_59 : decode cM_init 59 = .ok (.putfield 28, 3) := by decide +kernel
theorem dM_init_62 : decode cM_init 62 = .ok (.aload_n 0, 1) := by decide +kernel
theorem dM_init_63 : decode cM_init 63 = .ok (.iconst 5, 1) := by decide +kernel
theorem dM_init_64 : decode cM_init 64 = .ok (.newarray .int, 2) := by decide +kernel
theorem dM_init_66 : decode cM_init 66 = .ok (.putfield 32, 3) := by decide +kernel
theorem dM_init_69 : decode cM_init 69 = .ok (.aload_n 0, 1) := by decide +kernel
theorem dM_init_70 : decode cM_init 70 = .ok (.sipush 512, 3) := by decide +kernel
theorem dM_init_73 : decode cM_init 73 = .ok (.newarray .int, 2) := by decide +kernel
theorem dM_init_75 : decode cM_init 75 = .ok (.putfield 35, 3) := by decide +kernel
theorem dM_init_78 : decode cM_init 78 = .ok (.aload_n 0, 1) := by decide +kernel
theorem dM_init_79 : decode cM_init 79 = .ok (.sipush 512, 3) := by decide +kernel
theorem dM_init_82 : decode cM_init 82 = .ok (.newarray .boolean, 2) := by decide +kernel
theorem dM_init_84 : decode cM_init 84 = .ok (.putfield 38, 3) := by decide +kernel
theorem dM_init_87 : decode cM_init 87 = .ok (.aload_n 0, 1) := by decide +kernel
theorem dM_init_88 : decode cM_init 88 = .ok (.bipush 100, 2) := by decide +kernel
theorem dM_init_90 : decode cM_init 90 = .ok (.newarray .boolean, 2) := by decide +kernel
theorem dM_init_92 : decode cM_init 92 = .ok (.putfield 41, 3) := by decide +kernel
theorem dM_init_95 : decode cM_init 95 = .ok (.return_, 1) := by decide +kernel
theorem dM_thrown_0 : decode cM_thrown 0 = .ok (.aload_n 0, 1) := by decide +kernel
theorem dM_thrown_1 : decode cM_thrown 1 = .ok (.getfield 44, 3) := by decide +kernel
theorem dM_thrown_4 : decode cM_thrown 4 = .ok (.ireturn, 1) := by decide +kernel
theorem dM_type_0 : decode cM_type 0 = .ok (.aload_n 0, 1) := by decide +kernel
theorem dM_type_1 : decode cM_type 1 = .ok (.iconst 0, 1) := by decide +kernel
theorem dM_type_2 : decode cM_type 2 = .ok (.putfield 44, 3) := by decide +kernel
theorem dM_type_5 : decode cM_type 5 = .ok (.aload_n 0, 1) := by decide +kernel
theorem dM_type_6 : decode cM_type 6 = .ok (.getfield 48, 3) := by decide +kernel
theorem dM_type_9 : decode cM_type 9 = .ok (.istore_n 3, 1) := by decide +kernel
theorem dM_type_10 : decode cM_type 10 = .ok (.bipush 7, 2) := by decide +kernel
theorem dM_type_12 : decode cM_type 12 = .ok (.istore 4, 2) := by decide +kernel
theorem dM_type_14 : decode cM_type 14 = .ok (.iload 4, 2) := by decide +kernel
theorem dM_type_16 : decode cM_type 16 = .ok (.ifCond .lt 74, 3) := by decide +kernel
theorem dM_type_19 : decode cM_type 19 = .ok (.lload_n 1, 1) := by decide +kernel
theorem dM_type_20 : decode cM_type 20 = .ok (.bipush 8, 2) := by decide +kernel
theorem dM_type_22 : decode cM_type 22 = .ok (.iload 4, 2) := by decide +kernel
theorem dM_type_24 : decode cM_type 24 = .ok (.imul, 1) := by decide +kernel
theorem dM_type_25 : decode cM_type 25 = .ok (.lshr, 1) := by decide +kernel
theorem dM_type_26 : decode cM_type 26 = .ok (.l2i, 1) := by decide +kernel
theorem dM_type_27 : decode cM_type 27 = .ok (.sipush 255, 3) := by decide +kernel
theorem dM_type_30 : decode cM_type 30 = .ok (.iand, 1) := by decide +kernel
theorem dM_type_31 : decode cM_type 31 = .ok (.istore 5, 2) := by decide +kernel
theorem dM_type_33 : decode cM_type 33 = .ok (.iload 5, 2) := by decide +kernel
theorem dM_type_35 : decode cM_type 35 = .ok (.ifCond .eq 33, 3) := by decide +kernel
theorem dM_type_38 : decode cM_type 38 = .ok (.iload 5, 2) := by decide +kernel
theorem dM_type_40 : decode cM_type 40 = .ok (.bipush 10, 2) := by decide +kernel
theorem dM_type_42 : decode cM_type 42 = .ok (.if_icmp .eq 10, 3) := by decide +kernel
theorem dM_type_45 : decode cM_type 45 = .ok (.iload 5, 2) := by decide +kernel
theorem dM_type_47 : decode cM_type 47 = .ok (.bipush 32, 2) := by decide +kernel
theorem dM_type_49 : decode cM_type 49 = .ok (.if_icmp .lt 17, 3) := by decide +kernel
theorem dM_type_52 : decode cM_type 52 = .ok (.iload 5, 2) := by decide +kernel
theorem dM_type_54 : decode cM_type 54 = .ok (.bipush 126, 2) := by decide +kernel
theorem dM_type_56 : decode cM_type 56 = .ok (.if_icmp .gt 10, 3) := by decide +kernel
theorem dM_type_59 : decode cM_type 59 = .ok (.iload_n 3, 1) := by decide +kernel
theorem dM_type_60 : decode cM_type 60 = .ok (.sipush 400, 3) := by decide +kernel
theorem dM_type_63 : decode cM_type 63 = .ok (.if_icmp .ne 5, 3) := by decide +kernel
theorem dM_type_66 : decode cM_type 66 = .ok (.iconst 0, 1) := by decide +kernel
theorem dM_type_67 : decode cM_type 67 = .ok (.ireturn, 1) := by decide +kernel
theorem dM_type_68 : decode cM_type 68 = .ok (.iload 5, 2) := by decide +kernel
theorem dM_type_70 : decode cM_type 70 = .ok (.ifCond .eq 14, 3) := by decide +kernel
theorem dM_type_73 : decode cM_type 73 = .ok (.aload_n 0, 1) := by decide +kernel
theorem dM_type_74 : decode cM_type 74 = .ok (.getfield 7, 3) := by decide +kernel
theorem dM_type_77 : decode cM_type 77 = .ok (.iload_n 3, 1) := by decide +kernel
theorem dM_type_78 : decode cM_type 78 = .ok (.iload 5, 2) := by decide +kernel
theorem dM_type_80 : decode cM_type 80 = .ok (.iastore, 1) := by decide +kernel
theorem dM_type_81 : decode cM_type 81 = .ok (.iinc 3 1, 3) := by decide +kernel
theorem dM_type_84 : decode cM_type 84 = .ok (.iinc 4 (-1), 3) := by decide +kernel
theorem dM_type_87 : decode cM_type 87 = .ok (.goto (-73), 3) := by decide +kernel
theorem dM_type_90 : decode cM_type 90 = .ok (.aload_n 0, 1) := by decide +kernel
theorem dM_type_91 : decode cM_type 91 = .ok (.iload_n 3, 1) := by decide +kernel
theorem dM_type_92 : decode cM_type 92 = .ok (.putfield 48, 3) := by decide +kernel
theorem dM_type_95 : decode cM_type 95 = .ok (.iconst 1, 1) := by decide +kernel
theorem dM_type_96 : decode cM_type 96 = .ok (.ireturn, 1) := by decide +kernel
theorem dM_wipe_0 : decode cM_wipe 0 = .ok (.aload_n 0, 1) := by decide +kernel
theorem dM_wipe_1 : decode cM_wipe 1 = .ok (.iconst 0, 1) := by decide +kernel
theorem dM_wipe_2 : decode cM_wipe 2 = .ok (.putfield 44, 3) := by decide +kernel
theorem dM_wipe_5 : decode cM_wipe 5 = .ok (.aload_n 0, 1) := by decide +kernel
theorem dM_wipe_6 : decode cM_wipe 6 = .ok (.iconst 0, 1) := by decide +kernel
theorem dM_wipe_7 : decode cM_wipe 7 = .ok (.putfield 48, 3) := by decide +kernel
theorem dM_wipe_10 : decode cM_wipe 10 = .ok (.return_, 1) := by decide +kernel
theorem dM_length_0 : decode cM_length 0 = .ok (.aload_n 0, 1) := by decide +kernel
theorem dM_length_1 : decode cM_length 1 = .ok (.iconst 0, 1) := by decide +kernel
theorem dM_length_2 : decode cM_length 2 = .ok (.putfield 44, 3) := by decide +kernel
theorem dM_length_5 : decode cM_length 5 = .ok (.aload_n 0, 1) := by decide +kernel
theorem dM_length_6 : decode cM_length 6 = .ok (.getfield 48, 3) := by decide +kernel
theorem dM_length_9 : decode cM_length 9 = .ok (.ireturn, 1) := by decide +kernel
theorem dM_load_0 : decode cM_load 0 = .ok (.aload_n 0, 1) := by decide +kernel
theorem dM_load_1 : decode cM_load 1 = .ok (.aload_n 0, 1) := by decide +kernel
theorem dM_load_2 : decode cM_load 2 = .ok (.invokevirtual 82, 3) := by decide +kernel
theorem dM_load_5 : decode cM_load 5 = .ok (.ifCond .ne 7, 3) := by decide +kernel
theorem dM_load_8 : decode cM_load 8 = .ok (.iconst 1, 1) := by decide +kernel
theorem dM_load_9 : decode cM_load 9 = .ok (.goto 50, 3) := by decide +kernel
theorem dM_load_12 : decode cM_load 12 = .ok (.aload_n 0, 1) := by decide +kernel
theorem dM_load_13 : decode cM_load 13 = .ok (.getfield 13, 3) := by decide +kernel
theorem dM_load_16 : decode cM_load 16 = .ok (.iconst 1, 1) := by decide +kernel
theorem dM_load_17 : decode cM_load 17 = .ok (.iaload, 1) := by decide +kernel
theorem dM_load_18 : decode cM_load 18 = .ok (.iconst 3, 1) := by decide +kernel
theorem dM_load_19 : decode cM_load 19 = .ok (.if_icmp .gt 35, 3) := by decide +kernel
theorem dM_load_22 : decode cM_load 22 = .ok (.aload_n 0, 1) := by decide +kernel
theorem dM_load_23 : decode cM_load 23 = .ok (.getfield 13, 3) := by decide +kernel
theorem dM_load_26 : decode cM_load 26 = .ok (.iconst 2, 1) := by decide +kernel
theorem dM_load_27 : decode cM_load 27 = .ok (.iaload, 1) := by decide +kernel
theorem dM_load_28 : decode cM_load 28 = .ok (.bipush 6, 2) := by decide +kernel
theorem dM_load_30 : decode cM_load 30 = .ok (.if_icmp .gt 24, 3) := by decide +kernel
theorem dM_load_33 : decode cM_load 33 = .ok (.aload_n 0, 1) := by decide +kernel
theorem dM_load_34 : decode cM_load 34 = .ok (.getfield 13, 3) := by decide +kernel
theorem dM_load_37 : decode cM_load 37 = .ok (.iconst 3, 1) := by decide +kernel
theorem dM_load_38 : decode cM_load 38 = .ok (.iaload, 1) := by decide +kernel
theorem dM_load_39 : decode cM_load 39 = .ok (.iconst 1, 1) := by decide +kernel
theorem dM_load_40 : decode cM_load 40 = .ok (.if_icmp .ne 14, 3) := by decide +kernel
theorem dM_load_43 : decode cM_load 43 = .ok (.aload_n 0, 1) := by decide +kernel
theorem dM_load_44 : decode cM_load 44 = .ok (.getfield 13, 3) := by decide +kernel
theorem dM_load_47 : decode cM_load 47 = .ok (.iconst 4, 1) := by decide +kernel
theorem dM_load_48 : decode cM_load 48 = .ok (.iaload, 1) := by decide +kernel
theorem dM_load_49 : decode cM_load 49 = .ok (.bipush 20, 2) := by decide +kernel
theorem dM_load_51 : decode cM_load 51 = .ok (.if_icmp .le 7, 3) := by decide +kernel
theorem dM_load_54 : decode cM_load 54 = .ok (.iconst 2, 1) := by decide +kernel
theorem dM_load_55 : decode cM_load 55 = .ok (.goto 4, 3) := by decide +kernel
theorem dM_load_58 : decode cM_load 58 = .ok (.iconst 0, 1) := by decide +kernel
theorem dM_load_59 : decode cM_load 59 = .ok (.putfield 44, 3) := by decide +kernel
theorem dM_load_62 : decode cM_load 62 = .ok (.aload_n 0, 1) := by decide +kernel
theorem dM_load_63 : decode cM_load 63 = .ok (.getfield 44, 3) := by decide +kernel
theorem dM_load_66 : decode cM_load 66 = .ok (.ifCond .le 5, 3) := by decide +kernel
theorem dM_load_69 : decode cM_load 69 = .ok (.iconst 0, 1) := by decide +kernel
theorem dM_load_70 : decode cM_load 70 = .ok (.ireturn, 1) := by decide +kernel
theorem dM_load_71 : decode cM_load 71 = .ok (.iconst 0, 1) := by decide +kernel
theorem dM_load_72 : decode cM_load 72 = .ok (.istore_n 1, 1) := by decide +kernel
theorem dM_load_73 : decode cM_load 73 = .ok (.iload_n 1, 1) := by decide +kernel
theorem dM_load_74 : decode cM_load 74 = .ok (.iconst 5, 1) := by decide +kernel
theorem dM_load_75 : decode cM_load 75 = .ok (.if_icmp .ge 21, 3) := by decide +kernel
theorem dM_load_78 : decode cM_load 78 = .ok (.aload_n 0, 1) := by decide +kernel
theorem dM_load_79 : decode cM_load 79 = .ok (.getfield 32, 3) := by decide +kernel
theorem dM_load_82 : decode cM_load 82 = .ok (.iload_n 1, 1) := by decide +kernel
theorem dM_load_83 : decode cM_load 83 = .ok (.aload_n 0, 1) := by decide +kernel
theorem dM_load_84 : decode cM_load 84 = .ok (.getfield 13, 3) := by decide +kernel
theorem dM_load_87 : decode cM_load 87 = .ok (.iload_n 1, 1) := by decide +kernel
theorem dM_load_88 : decode cM_load 88 = .ok (.iaload, 1) := by decide +kernel
theorem dM_load_89 : decode cM_load 89 = .ok (.iastore, 1) := by decide +kernel
theorem dM_load_90 : decode cM_load 90 = .ok (.iinc 1 1, 3) := by decide +kernel
theorem dM_load_93 : decode cM_load 93 = .ok (.goto (-20), 3) := by decide +kernel
theorem dM_load_96 : decode cM_load 96 = .ok (.aload_n 0, 1) := by decide +kernel
theorem dM_load_97 : decode cM_load 97 = .ok (.iconst 1, 1) := by decide +kernel
theorem dM_load_98 : decode cM_load 98 = .ok (.aload_n 0, 1) := by decide +kernel
theorem dM_load_99 : decode cM_load 99 = .ok (.getfield 13, 3) := by decide +kernel
theorem dM_load_102 : decode cM_load 102 = .ok (.iconst 2, 1) := by decide +kernel
theorem dM_load_103 : decode cM_load 103 = .ok (.iaload, 1) := by decide +kernel
theorem dM_load_104 : decode cM_load 104 = .ok (.ishl, 1) := by decide +kernel
theorem dM_load_105 : decode cM_load 105 = .ok (.putfield 85, 3) := by decide +kernel
theorem dM_load_108 : decode cM_load 108 = .ok (.aload_n 0, 1) := by decide +kernel
theorem dM_load_109 : decode cM_load 109 = .ok (.iconst 1, 1) := by decide +kernel
theorem dM_load_110 : decode cM_load 110 = .ok (.aload_n 0, 1) := by decide +kernel
theorem dM_load_111 : decode cM_load 111 = .ok (.getfield 13, 3) := by decide +kernel
theorem dM_load_114 : decode cM_load 114 = .ok (.iconst 1, 1) := by decide +kernel
theorem dM_load_115 : decode cM_load 115 = .ok (.iaload, 1) := by decide +kernel
theorem dM_load_116 : decode cM_load 116 = .ok (.ishl, 1) := by decide +kernel
theorem dM_load_117 : decode cM_load 117 = .ok (.putfield 88, 3) := by decide +kernel
theorem dM_load_120 : decode cM_load 120 = .ok (.aload_n 0, 1) := by decide +kernel
theorem dM_load_121 : decode cM_load 121 = .ok (.iconst 0, 1) := by decide +kernel
theorem dM_load_122 : decode cM_load 122 = .ok (.putfield 91, 3) := by decide +kernel
theorem dM_load_125 : decode cM_load 125 = .ok (.iconst 0, 1) := by decide +kernel
theorem dM_load_126 : decode cM_load 126 = .ok (.istore_n 1, 1) := by decide +kernel
theorem dM_load_127 : decode cM_load 127 = .ok (.iload_n 1, 1) := by decide +kernel
theorem dM_load_128 : decode cM_load 128 = .ok (.aload_n 0, 1) := by decide +kernel
theorem dM_load_129 : decode cM_load 129 = .ok (.getfield 13, 3) := by decide +kernel
theorem dM_load_132 : decode cM_load 132 = .ok (.iconst 2, 1) := by decide +kernel
theorem dM_load_133 : decode cM_load 133 = .ok (.iaload, 1) := by decide +kernel
theorem dM_load_134 : decode cM_load 134 = .ok (.if_icmp .ge 30, 3) := by decide +kernel
theorem dM_load_137 : decode cM_load 137 = .ok (.aload_n 0, 1) := by decide +kernel
theorem dM_load_138 : decode cM_load 138 = .ok (.dup, 1) := by decide +kernel
theorem dM_load_139 : decode cM_load 139 = .ok (.getfield 91, 3) := by decide +kernel
theorem dM_load_142 : decode cM_load 142 = .ok (.aload_n 0, 1) := by decide +kernel
theorem dM_load_143 : decode cM_load 143 = .ok (.getfield 19, 3) := by decide +kernel
theorem dM_load_146 : decode cM_load 146 = .ok (.iconst 3, 1) := by decide +kernel
theorem dM_load_147 : decode cM_load 147 = .ok (.iload_n 1, 1) := by decide +kernel
theorem dM_load_148 : decode cM_load 148 = .ok (.imul, 1) := by decide +kernel
theorem dM_load_149 : decode cM_load 149 = .ok (.iconst 2, 1) := by decide +kernel
theorem dM_load_150 : decode cM_load 150 = .ok (.iadd, 1) := by decide +kernel
theorem dM_load_151 : decode cM_load 151 = .ok (.iaload, 1) := by decide +kernel
theorem dM_load_152 : decode cM_load 152 = .ok (.iload_n 1, 1) := by decide +kernel
theorem dM_load_153 : decode cM_load 153 = .ok (.ishl, 1) := by decide +kernel
theorem dM_load_154 : decode cM_load 154 = .ok (.iadd, 1) := by decide +kernel
theorem dM_load_155 : decode cM_load 155 = .ok (.putfield 91, 3) := by decide +kernel
theorem dM_load_158 : decode cM_load 158 = .ok (.iinc 1 1, 3) := by decide +kernel
theorem dM_load_161 : decode cM_load 161 = .ok (.goto (-34), 3) := by decide +kernel
theorem dM_load_164 : decode cM_load 164 = .ok (.iconst 0, 1) := by decide +kernel
theorem dM_load_165 : decode cM_load 165 = .ok (.istore_n 1, 1) := by decide +kernel
theorem dM_load_166 : decode cM_load 166 = .ok (.iload_n 1, 1) := by decide +kernel
theorem dM_load_167 : decode cM_load 167 = .ok (.aload_n 0, 1) := by decide +kernel
theorem dM_load_168 : decode cM_load 168 = .ok (.getfield 85, 3) := by decide +kernel
theorem dM_load_171 : decode cM_load 171 = .ok (.if_icmp .ge 119, 3) := by decide +kernel
theorem dM_load_174 : decode cM_load 174 = .ok (.iconst 0, 1) := by decide +kernel
theorem dM_load_175 : decode cM_load 175 = .ok (.istore_n 2, 1) := by decide +kernel
theorem dM_load_176 : decode cM_load 176 = .ok (.iload_n 2, 1) := by decide +kernel
theorem dM_load_177 : decode cM_load 177 = .ok (.aload_n 0, 1) := by decide +kernel
theorem dM_load_178 : decode cM_load 178 = .ok (.getfield 88, 3) := by decide +kernel
theorem dM_load_181 : decode cM_load 181 = .ok (.if_icmp .ge 103, 3) := by decide +kernel
theorem dM_load_184 : decode cM_load 184 = .ok (.aload_n 0, 1) := by decide +kernel
theorem dM_load_185 : decode cM_load 185 = .ok (.iload_n 1, 1) := by decide +kernel
theorem dM_load_186 : decode cM_load 186 = .ok (.iload_n 2, 1) := by decide +kernel
theorem dM_load_187 : decode cM_load 187 = .ok (.invokevirtual 94, 3) := by decide +kernel
theorem dM_load_190 : decode cM_load 190 = .ok (.iconst 0, 1) := by decide +kernel
theorem dM_load_191 : decode cM_load 191 = .ok (.istore_n 3, 1) := by decide +kernel
theorem dM_load_192 : decode cM_load 192 = .ok (.iconst 0, 1) := by decide +kernel
theorem dM_load_193 : decode cM_load 193 = .ok (.istore 4, 2) := by decide +kernel
theorem dM_load_195 : decode cM_load 195 = .ok (.iload 4, 2) := by decide +kernel
theorem dM_load_197 : decode cM_load 197 = .ok (.aload_n 0, 1) := by decide +kernel
theorem dM_load_198 : decode cM_load 198 = .ok (.getfield 13, 3) := by decide +kernel
theorem dM_load_201 : decode cM_load 201 = .ok (.iconst 2, 1) := by decide +kernel
theorem dM_load_202 : decode cM_load 202 = .ok (.iaload, 1) := by decide +kernel
theorem dM_load_203 : decode cM_load 203 = .ok (.if_icmp .ge 42, 3) := by decide +kernel
theorem dM_load_206 : decode cM_load 206 = .ok (.aload_n 0, 1) := by decide +kernel
theorem dM_load_207 : decode cM_load 207 = .ok (.aload_n 0, 1) := by decide +kernel
theorem dM_load_208 : decode cM_load 208 = .ok (.getfield 19, 3) := by decide +kernel
theorem dM_load_211 : decode cM_load 211 = .ok (.iconst 3, 1) := by decide +kernel
theorem dM_load_212 : decode cM_load 212 = .ok (.iload 4, 2) := by decide +kernel
theorem dM_load_214 : decode cM_load 214 = .ok (.imul, 1) := by decide +kernel
theorem dM_load_215 : decode cM_load 215 = .ok (.iconst 1, 1) := by decide +kernel
theorem dM_load_216 : decode cM_load 216 = .ok (.iadd, 1) := by decide +kernel
theorem dM_load_217 : decode cM_load 217 = .ok (.iaload, 1) := by decide +kernel
theorem dM_load_218 : decode cM_load 218 = .ok (.invokevirtual 79, 3) := by decide +kernel
theorem dM_load_221 : decode cM_load 221 = .ok (.istore 5, 2) := by decide +kernel
theorem dM_load_223 : decode cM_load 223 = .ok (.iload_n 3, 1) := by decide +kernel
theorem dM_load_224 : decode cM_load 224 = .ok (.iload 5, 2) := by decide +kernel
theorem dM_load_226 : decode cM_load 226 = .ok (.ifCond .eq 10, 3) := by decide +kernel
theorem dM_load_229 : decode cM_load 229 = .ok (.iconst 1, 1) := by decide +kernel
theorem dM_load_230 : decode cM_load 230 = .ok (.iload 4, 2) := by decide +kernel
theorem dM_load_232 : decode cM_load 232 = .ok (.ishl, 1) := by decide +kernel
theorem dM_load_233 : decode cM_load 233 = .ok (.goto 4, 3) := by decide +kernel
theorem dM_load_236 : decode cM_load 236 = .ok (.iconst 0, 1) := by decide +kernel
theorem dM_load_237 : decode cM_load 237 = .ok (.iadd, 1) := by decide +kernel
theorem dM_load_238 : decode cM_load 238 = .ok (.istore_n 3, 1) := by decide +kernel
theorem dM_load_239 : decode cM_load 239 = .ok (.iinc 4 1, 3) := by decide +kernel
theorem dM_load_242 : decode cM_load 242 = .ok (.goto (-47), 3) := by decide +kernel
theorem dM_load_245 : decode cM_load 245 = .ok (.aload_n 0, 1) := by decide +kernel
theorem dM_load_246 : decode cM_load 246 = .ok (.getfield 35, 3) := by decide +kernel
theorem dM_load_249 : decode cM_load 249 = .ok (.bipush 8, 2) := by decide +kernel
theorem dM_load_251 : decode cM_load 251 = .ok (.iload_n 1, 1) := by decide +kernel
theorem dM_load_252 : decode cM_load 252 = .ok (.imul, 1) := by decide +kernel
theorem dM_load_253 : decode cM_load 253 = .ok (.iload_n 2, 1) := by decide +kernel
theorem dM_load_254 : decode cM_load 254 = .ok (.iadd, 1) := by decide +kernel
theorem dM_load_255 : decode cM_load 255 = .ok (.iload_n 3, 1) := by decide +kernel
theorem dM_load_256 : decode cM_load 256 = .ok (.iastore, 1) := by decide +kernel
theorem dM_load_257 : decode cM_load 257 = .ok (.aload_n 0, 1) := by decide +kernel
theorem dM_load_258 : decode cM_load 258 = .ok (.getfield 38, 3) := by decide +kernel
theorem dM_load_261 : decode cM_load 261 = .ok (.bipush 8, 2) := by decide +kernel
theorem dM_load_263 : decode cM_load 263 = .ok (.iload_n 1, 1) := by decide +kernel
theorem dM_load_264 : decode cM_load 264 = .ok (.imul, 1) := by decide +kernel
theorem dM_load_265 : decode cM_load 265 = .ok (.iload_n 2, 1) := by decide +kernel
theorem dM_load_266 : decode cM_load 266 = .ok (.iadd, 1) := by decide +kernel
theorem dM_load_267 : decode cM_load 267 = .ok (.aload_n 0, 1) := by decide +kernel
theorem dM_load_268 : decode cM_load 268 = .ok (.aload_n 0, 1) := by decide +kernel
theorem dM_load_269 : decode cM_load 269 = .ok (.getfield 22, 3) := by decide +kernel
theorem dM_load_272 : decode cM_load 272 = .ok (.iconst 0, 1) := by decide +kernel
theorem dM_load_273 : decode cM_load 273 = .ok (.iaload, 1) := by decide +kernel
theorem dM_load_274 : decode cM_load 274 = .ok (.invokevirtual 79, 3) := by decide +kernel
theorem dM_load_277 : decode cM_load 277 = .ok (.bastore, 1) := by decide +kernel
theorem dM_load_278 : decode cM_load 278 = .ok (.iinc 2 1, 3) := by decide +kernel
theorem dM_load_281 : decode cM_load 281 = .ok (.goto (-105), 3) := by decide +kernel
theorem dM_load_284 : decode cM_load 284 = .ok (.iinc 1 1, 3) := by decide +kernel
theorem dM_load_287 : decode cM_load 287 = .ok (.goto (-121), 3) := by decide +kernel
theorem dM_load_290 : decode cM_load 290 = .ok (.aload_n 0, 1) := by decide +kernel
theorem dM_load_291 : decode cM_load 291 = .ok (.iconst 1, 1) := by decide +kernel
theorem dM_load_292 : decode cM_load 292 = .ok (.putfield 98, 3) := by decide +kernel
theorem dM_load_295 : decode cM_load 295 = .ok (.aload_n 0, 1) := by decide +kernel
theorem dM_load_296 : decode cM_load 296 = .ok (.iconst 0, 1) := by decide +kernel
theorem dM_load_297 : decode cM_load 297 = .ok (.putfield 48, 3) := by decide +kernel
theorem dM_load_300 : decode cM_load 300 = .ok (.aload_n 0, 1) := by decide +kernel
theorem dM_load_301 : decode cM_load 301 = .ok (.getfield 13, 3) := by decide +kernel
theorem dM_load_304 : decode cM_load 304 = .ok (.iconst 2, 1) := by decide +kernel
theorem dM_load_305 : decode cM_load 305 = .ok (.iaload, 1) := by decide +kernel
theorem dM_load_306 : decode cM_load 306 = .ok (.ireturn, 1) := by decide +kernel
theorem dM_reads_0 : decode cM_reads 0 = .ok (.aload_n 0, 1) := by decide +kernel
theorem dM_reads_1 : decode cM_reads 1 = .ok (.invokevirtual 69, 3) := by decide +kernel
theorem dM_reads_4 : decode cM_reads 4 = .ok (.ifCond .ne 5, 3) := by decide +kernel
theorem dM_reads_7 : decode cM_reads 7 = .ok (.iconst 0, 1) := by decide +kernel
theorem dM_reads_8 : decode cM_reads 8 = .ok (.ireturn, 1) := by decide +kernel
theorem dM_reads_9 : decode cM_reads 9 = .ok (.iconst 0, 1) := by decide +kernel
theorem dM_reads_10 : decode cM_reads 10 = .ok (.istore_n 1, 1) := by decide +kernel
theorem dM_reads_11 : decode cM_reads 11 = .ok (.iload_n 1, 1) := by decide +kernel
theorem dM_reads_12 : decode cM_reads 12 = .ok (.bipush 100, 2) := by decide +kernel
theorem dM_reads_14 : decode cM_reads 14 = .ok (.if_icmp .ge 16, 3) := by decide +kernel
theorem dM_reads_17 : decode cM_reads 17 = .ok (.aload_n 0, 1) := by decide +kernel
theorem dM_reads_18 : decode cM_reads 18 = .ok (.getfield 28, 3) := by decide +kernel
theorem dM_reads_21 : decode cM_reads 21 = .ok (.iload_n 1, 1) := by decide +kernel
theorem dM_reads_22 : decode cM_reads 22 = .ok (.iconst 0, 1) := by decide +kernel
theorem dM_reads_23 : decode cM_reads 23 = .ok (.bastore, 1) := by decide +kernel
theorem dM_reads_24 : decode cM_reads 24 = .ok (.iinc 1 1, 3) := by decide +kernel
theorem dM_reads_27 : decode cM_reads 27 = .ok (.goto (-16), 3) := by decide +kernel
theorem dM_reads_30 : decode cM_reads 30 = .ok (.iconst 1, 1) := by decide +kernel
theorem dM_reads_31 : decode cM_reads 31 = .ok (.istore_n 1, 1) := by decide +kernel
theorem dM_reads_32 : decode cM_reads 32 = .ok (.iconst 0, 1) := by decide +kernel
theorem dM_reads_33 : decode cM_reads 33 = .ok (.istore_n 2, 1) := by decide +kernel
theorem dM_reads_34 : decode cM_reads 34 = .ok (.iload_n 2, 1) := by decide +kernel
theorem dM_reads_35 : decode cM_reads 35 = .ok (.aload_n 0, 1) := by decide +kernel
theorem dM_reads_36 : decode cM_reads 36 = .ok (.getfield 13, 3) := by decide +kernel
theorem dM_reads_39 : decode cM_reads 39 = .ok (.iconst 1, 1) := by decide +kernel
theorem dM_reads_40 : decode cM_reads 40 = .ok (.iaload, 1) := by decide +kernel
theorem dM_reads_41 : decode cM_reads 41 = .ok (.if_icmp .ge 32, 3) := by decide +kernel
theorem dM_reads_44 : decode cM_reads 44 = .ok (.aload_n 0, 1) := by decide +kernel
theorem dM_reads_45 : decode cM_reads 45 = .ok (.aload_n 0, 1) := by decide +kernel
theorem dM_reads_46 : decode cM_reads 46 = .ok (.getfield 16, 3) := by decide +kernel
theorem dM_reads_49 : decode cM_reads 49 = .ok (.iload_n 2, 1) := by decide +kernel
theorem dM_reads_50 : decode cM_reads 50 = .ok (.iaload, 1) := by decide +kernel
theorem dM_reads_51 : decode cM_reads 51 = .ok (.invokevirtual 73, 3) := by decide +kernel
theorem dM_reads_54 : decode cM_reads 54 = .ok (.ifCond .eq 11, 3) := by decide +kernel
theorem dM_reads_57 : decode cM_reads 57 = .ok (.iload_n 1, 1) := by decide +kernel
theorem dM_reads_58 : decode cM_reads 58 = .ok (.ifCond .eq 7, 3) := by decide +kernel
theorem dM_reads_61 : decode cM_reads 61 = .ok (.iconst 1, 1) := by decide +kernel
theorem dM_reads_62 : decode cM_reads 62 = .ok (.goto 4, 3) := by decide +kernel
theorem dM_reads_65 : decode cM_reads 65 = .ok (.iconst 0, 1) := by decide +kernel
theorem dM_reads_66 : decode cM_reads 66 = .ok (.istore_n 1, 1) := by decide +kernel
theorem dM_reads_67 : decode cM_reads 67 = .ok (.iinc 2 1, 3) := by decide +kernel
theorem dM_reads_70 : decode cM_reads 70 = .ok (.goto (-36), 3) := by decide +kernel
theorem dM_reads_73 : decode cM_reads 73 = .ok (.iconst 0, 1) := by decide +kernel
theorem dM_reads_74 : decode cM_reads 74 = .ok (.istore_n 2, 1) := by decide +kernel
theorem dM_reads_75 : decode cM_reads 75 = .ok (.iload_n 2, 1) := by decide +kernel
theorem dM_reads_76 : decode cM_reads 76 = .ok (.aload_n 0, 1) := by decide +kernel
theorem dM_reads_77 : decode cM_reads 77 = .ok (.getfield 13, 3) := by decide +kernel
theorem dM_reads_80 : decode cM_reads 80 = .ok (.iconst 2, 1) := by decide +kernel
theorem dM_reads_81 : decode cM_reads 81 = .ok (.iaload, 1) := by decide +kernel
theorem dM_reads_82 : decode cM_reads 82 = .ok (.if_icmp .ge 48, 3) := by decide +kernel
theorem dM_reads_85 : decode cM_reads 85 = .ok (.aload_n 0, 1) := by decide +kernel
theorem dM_reads_86 : decode cM_reads 86 = .ok (.aload_n 0, 1) := by decide +kernel
theorem dM_reads_87 : decode cM_reads 87 = .ok (.getfield 19, 3) := by decide +kernel
theorem dM_reads_90 : decode cM_reads 90 = .ok (.iconst 3, 1) := by decide +kernel
theorem dM_reads_91 : decode cM_reads 91 = .ok (.iload_n 2, 1) := by decide +kernel
theorem dM_reads_92 : decode cM_reads 92 = .ok (.imul, 1) := by decide +kernel
theorem dM_reads_93 : decode cM_reads 93 = .ok (.iaload, 1) := by decide +kernel
theorem dM_reads_94 : decode cM_reads 94 = .ok (.invokevirtual 73, 3) := by decide +kernel
theorem dM_reads_97 : decode cM_reads 97 = .ok (.ifCond .eq 25, 3) := by decide +kernel
theorem dM_reads_100 : decode cM_reads 100 = .ok (.iload_n 1, 1) := by decide +kernel
theorem dM_reads_101 : decode cM_reads 101 = .ok (.ifCond .eq 21, 3) := by decide +kernel
theorem dM_reads_104 : decode cM_reads 104 = .ok (.aload_n 0, 1) := by decide +kernel
theorem dM_reads_105 : decode cM_reads 105 = .ok (.getfield 19, 3) := by decide +kernel
theorem dM_reads_108 : decode cM_reads 108 = .ok (.iconst 3, 1) := by decide +kernel
theorem dM_reads_109 : decode cM_reads 109 = .ok (.iload_n 2, 1) := by decide +kernel
theorem dM_reads_110 : decode cM_reads 110 = .ok (.imul, 1) := by decide +kernel
theorem dM_reads_111 : decode cM_reads 111 = .ok (.iconst 2, 1) := by decide +kernel
theorem dM_reads_112 : decode cM_reads 112 = .ok (.iadd, 1) := by decide +kernel
theorem dM_reads_113 : decode cM_reads 113 = .ok (.iaload, 1) := by decide +kernel
theorem dM_reads_114 : decode cM_reads 114 = .ok (.iconst 2, 1) := by decide +kernel
theorem dM_reads_115 : decode cM_reads 115 = .ok (.if_icmp .ge 7, 3) := by decide +kernel
theorem dM_reads_118 : decode cM_reads 118 = .ok (.iconst 1, 1) := by decide +kernel
theorem dM_reads_119 : decode cM_reads 119 = .ok (.goto 4, 3) := by decide +kernel
theorem dM_reads_122 : decode cM_reads 122 = .ok (.iconst 0, 1) := by decide +kernel
theorem dM_reads_123 : decode cM_reads 123 = .ok (.istore_n 1, 1) := by decide +kernel
theorem dM_reads_124 : decode cM_reads 124 = .ok (.iinc 2 1, 3) := by decide +kernel
theorem dM_reads_127 : decode cM_reads 127 = .ok (.goto (-52), 3) := by decide +kernel
theorem dM_reads_130 : decode cM_reads 130 = .ok (.iconst 0, 1) := by decide +kernel
theorem dM_reads_131 : decode cM_reads 131 = .ok (.istore_n 2, 1) := by decide +kernel
theorem dM_reads_132 : decode cM_reads 132 = .ok (.iload_n 2, 1) := by decide +kernel
theorem dM_reads_133 : decode cM_reads 133 = .ok (.aload_n 0, 1) := by decide +kernel
theorem dM_reads_134 : decode cM_reads 134 = .ok (.getfield 13, 3) := by decide +kernel
theorem dM_reads_137 : decode cM_reads 137 = .ok (.iconst 4, 1) := by decide +kernel
theorem dM_reads_138 : decode cM_reads 138 = .ok (.iaload, 1) := by decide +kernel
theorem dM_reads_139 : decode cM_reads 139 = .ok (.if_icmp .ge 64, 3) := by decide +kernel
theorem dM_reads_142 : decode cM_reads 142 = .ok (.aload_n 0, 1) := by decide +kernel
theorem dM_reads_143 : decode cM_reads 143 = .ok (.getfield 25, 3) := by decide +kernel
theorem dM_reads_146 : decode cM_reads 146 = .ok (.iconst 3, 1) := by decide +kernel
theorem dM_reads_147 : decode cM_reads 147 = .ok (.iload_n 2, 1) := by decide +kernel
theorem dM_reads_148 : decode cM_reads 148 = .ok (.imul, 1) := by decide +kernel
theorem dM_reads_149 : decode cM_reads 149 = .ok (.iaload, 1) := by decide +kernel
theorem dM_reads_150 : decode cM_reads 150 = .ok (.istore_n 3, 1) := by decide +kernel
theorem dM_reads_151 : decode cM_reads 151 = .ok (.aload_n 0, 1) := by decide +kernel
theorem dM_reads_152 : decode cM_reads 152 = .ok (.iload_n 3, 1) := by decide +kernel
theorem dM_reads_153 : decode cM_reads 153 = .ok (.invokevirtual 73, 3) := by decide +kernel
theorem dM_reads_156 : decode cM_reads 156 = .ok (.ifCond .eq 39, 3) := by decide +kernel
theorem dM_reads_159 : decode cM_reads 159 = .ok (.iload_n 1, 1) := by decide +kernel
theorem dM_reads_160 : decode cM_reads 160 = .ok (.ifCond .eq 35, 3) := by decide +kernel
theorem dM_reads_163 : decode cM_reads 163 = .ok (.aload_n 0, 1) := by decide +kernel
theorem dM_reads_164 : decode cM_reads 164 = .ok (.getfield 25, 3) := by decide +kernel
theorem dM_reads_167 : decode cM_reads 167 = .ok (.iconst 3, 1) := by decide +kernel
theorem dM_reads_168 : decode cM_reads 168 = .ok (.iload_n 2, 1) := by decide +kernel
theorem dM_reads_169 : decode cM_reads 169 = .ok (.imul, 1) := by decide +kernel
theorem dM_reads_170 : decode cM_reads 170 = .ok (.iconst 1, 1) := by decide +kernel
theorem dM_reads_171 : decode cM_reads 171 = .ok (.iadd, 1) := by decide +kernel
theorem dM_reads_172 : decode cM_reads 172 = .ok (.iaload, 1) := by decide +kernel
theorem dM_reads_173 : decode cM_reads 173 = .ok (.iload_n 3, 1) := by decide +kernel
theorem dM_reads_174 : decode cM_reads 174 = .ok (.if_icmp .ge 21, 3) := by decide +kernel
theorem dM_reads_177 : decode cM_reads 177 = .ok (.aload_n 0, 1) := by decide +kernel
theorem dM_reads_178 : decode cM_reads 178 = .ok (.getfield 25, 3) := by decide +kernel
theorem dM_reads_181 : decode cM_reads 181 = .ok (.iconst 3, 1) := by decide +kernel
theorem dM_reads_182 : decode cM_reads 182 = .ok (.iload_n 2, 1) := by decide +kernel
theorem dM_reads_183 : decode cM_reads 183 = .ok (.imul, 1) := by decide +kernel
theorem dM_reads_184 : decode cM_reads 184 = .ok (.iconst 2, 1) := by decide +kernel
theorem dM_reads_185 : decode cM_reads 185 = .ok (.iadd, 1) := by decide +kernel
theorem dM_reads_186 : decode cM_reads 186 = .ok (.iaload, 1) := by decide +kernel
theorem dM_reads_187 : decode cM_reads 187 = .ok (.iload_n 3, 1) := by decide +kernel
theorem dM_reads_188 : decode cM_reads 188 = .ok (.if_icmp .ge 7, 3) := by decide +kernel
theorem dM_reads_191 : decode cM_reads 191 = .ok (.iconst 1, 1) := by decide +kernel
theorem dM_reads_192 : decode cM_reads 192 = .ok (.goto 4, 3) := by decide +kernel
theorem dM_reads_195 : decode cM_reads 195 = .ok (.iconst 0, 1) := by decide +kernel
theorem dM_reads_196 : decode cM_reads 196 = .ok (.istore_n 1, 1) := by decide +kernel
theorem dM_reads_197 : decode cM_reads 197 = .ok (.iinc 2 1, 3) := by decide +kernel
theorem dM_reads_200 : decode cM_reads 200 = .ok (.goto (-68), 3) := by decide +kernel
theorem dM_reads_203 : decode cM_reads 203 = .ok (.iconst 0, 1) := by decide +kernel
theorem dM_reads_204 : decode cM_reads 204 = .ok (.istore_n 2, 1) := by decide +kernel
theorem dM_reads_205 : decode cM_reads 205 = .ok (.iload_n 2, 1) := by decide +kernel
theorem dM_reads_206 : decode cM_reads 206 = .ok (.aload_n 0, 1) := by decide +kernel
theorem dM_reads_207 : decode cM_reads 207 = .ok (.getfield 13, 3) := by decide +kernel
theorem dM_reads_210 : decode cM_reads 210 = .ok (.iconst 2, 1) := by decide +kernel
theorem dM_reads_211 : decode cM_reads 211 = .ok (.iaload, 1) := by decide +kernel
theorem dM_reads_212 : decode cM_reads 212 = .ok (.if_icmp .ge 36, 3) := by decide +kernel
theorem dM_reads_215 : decode cM_reads 215 = .ok (.iload_n 1, 1) := by decide +kernel
theorem dM_reads_216 : decode cM_reads 216 = .ok (.ifCond .eq 24, 3) := by decide +kernel
theorem dM_reads_219 : decode cM_reads 219 = .ok (.aload_n 0, 1) := by decide +kernel
theorem dM_reads_220 : decode cM_reads 220 = .ok (.aload_n 0, 1) := by decide +kernel
theorem dM_reads_221 : decode cM_reads 221 = .ok (.getfield 19, 3) := by decide +kernel
theorem dM_reads_224 : decode cM_reads 224 = .ok (.iconst 3, 1) := by decide +kernel
theorem dM_reads_225 : decode cM_reads 225 = .ok (.iload_n 2, 1) := by decide +kernel
theorem dM_reads_226 : decode cM_reads 226 = .ok (.imul, 1) := by decide +kernel
theorem dM_reads_227 : decode cM_reads 227 = .ok (.iconst 1, 1) := by decide +kernel
theorem dM_reads_228 : decode cM_reads 228 = .ok (.iadd, 1) := by decide +kernel
theorem dM_reads_229 : decode cM_reads 229 = .ok (.iaload, 1) := by decide +kernel
theorem dM_reads_230 : decode cM_reads 230 = .ok (.invokevirtual 76, 3) := by decide +kernel
theorem dM_reads_233 : decode cM_reads 233 = .ok (.ifCond .eq 7, 3) := by decide +kernel
theorem dM_reads_236 : decode cM_reads 236 = .ok (.iconst 1, 1) := by decide +kernel
theorem dM_reads_237 : decode cM_reads 237 = .ok (.goto 4, 3) := by decide +kernel
theorem dM_reads_240 : decode cM_reads 240 = .ok (.iconst 0, 1) := by decide +kernel
theorem dM_reads_241 : decode cM_reads 241 = .ok (.istore_n 1, 1) := by decide +kernel
theorem dM_reads_242 : decode cM_reads 242 = .ok (.iinc 2 1, 3) := by decide +kernel
theorem dM_reads_245 : decode cM_reads 245 = .ok (.goto (-40), 3) := by decide +kernel
theorem dM_reads_248 : decode cM_reads 248 = .ok (.iconst 0, 1) := by decide +kernel
theorem dM_reads_249 : decode cM_reads 249 = .ok (.istore_n 2, 1) := by decide +kernel
theorem dM_reads_250 : decode cM_reads 250 = .ok (.iload_n 2, 1) := by decide +kernel
theorem dM_reads_251 : decode cM_reads 251 = .ok (.aload_n 0, 1) := by decide +kernel
theorem dM_reads_252 : decode cM_reads 252 = .ok (.getfield 13, 3) := by decide +kernel
theorem dM_reads_255 : decode cM_reads 255 = .ok (.iconst 3, 1) := by decide +kernel
theorem dM_reads_256 : decode cM_reads 256 = .ok (.iaload, 1) := by decide +kernel
theorem dM_reads_257 : decode cM_reads 257 = .ok (.if_icmp .ge 32, 3) := by decide +kernel
theorem dM_reads_260 : decode cM_reads 260 = .ok (.iload_n 1, 1) := by decide +kernel
theorem dM_reads_261 : decode cM_reads 261 = .ok (.ifCond .eq 20, 3) := by decide +kernel
theorem dM_reads_264 : decode cM_reads 264 = .ok (.aload_n 0, 1) := by decide +kernel
theorem dM_reads_265 : decode cM_reads 265 = .ok (.aload_n 0, 1) := by decide +kernel
theorem dM_reads_266 : decode cM_reads 266 = .ok (.getfield 22, 3) := by decide +kernel
theorem dM_reads_269 : decode cM_reads 269 = .ok (.iload_n 2, 1) := by decide +kernel
theorem dM_reads_270 : decode cM_reads 270 = .ok (.iaload, 1) := by decide +kernel
theorem dM_reads_271 : decode cM_reads 271 = .ok (.invokevirtual 76, 3) := by decide +kernel
theorem dM_reads_274 : decode cM_reads 274 = .ok (.ifCond .eq 7, 3) := by decide +kernel
theorem dM_reads_277 : decode cM_reads 277 = .ok (.iconst 1, 1) := by decide +kernel
theorem dM_reads_278 : decode cM_reads 278 = .ok (.goto 4, 3) := by decide +kernel
theorem dM_reads_281 : decode cM_reads 281 = .ok (.iconst 0, 1) := by decide +kernel
theorem dM_reads_282 : decode cM_reads 282 = .ok (.istore_n 1, 1) := by decide +kernel
theorem dM_reads_283 : decode cM_reads 283 = .ok (.iinc 2 1, 3) := by decide +kernel
theorem dM_reads_286 : decode cM_reads 286 = .ok (.goto (-36), 3) := by decide +kernel
theorem dM_reads_289 : decode cM_reads 289 = .ok (.iconst 0, 1) := by decide +kernel
theorem dM_reads_290 : decode cM_reads 290 = .ok (.istore_n 2, 1) := by decide +kernel
theorem dM_reads_291 : decode cM_reads 291 = .ok (.iload_n 2, 1) := by decide +kernel
theorem dM_reads_292 : decode cM_reads 292 = .ok (.aload_n 0, 1) := by decide +kernel
theorem dM_reads_293 : decode cM_reads 293 = .ok (.getfield 13, 3) := by decide +kernel
theorem dM_reads_296 : decode cM_reads 296 = .ok (.iconst 4, 1) := by decide +kernel
theorem dM_reads_297 : decode cM_reads 297 = .ok (.iaload, 1) := by decide +kernel
theorem dM_reads_298 : decode cM_reads 298 = .ok (.if_icmp .ge 53, 3) := by decide +kernel
theorem dM_reads_301 : decode cM_reads 301 = .ok (.iload_n 1, 1) := by decide +kernel
theorem dM_reads_302 : decode cM_reads 302 = .ok (.ifCond .eq 41, 3) := by decide +kernel
theorem dM_reads_305 : decode cM_reads 305 = .ok (.aload_n 0, 1) := by decide +kernel
theorem dM_reads_306 : decode cM_reads 306 = .ok (.aload_n 0, 1) := by decide +kernel
theorem dM_reads_307 : decode cM_reads 307 = .ok (.getfield 25, 3) := by decide +kernel
theorem dM_reads_310 : decode cM_reads 310 = .ok (.iconst 3, 1) := by decide +kernel
theorem dM_reads_311 : decode cM_reads 311 = .ok (.iload_n 2, 1) := by decide +kernel
theorem dM_reads_312 : decode cM_reads 312 = .ok (.imul, 1) := by decide +kernel
theorem dM_reads_313 : decode cM_reads 313 = .ok (.iconst 1, 1) := by decide +kernel
theorem dM_reads_314 : decode cM_reads 314 = .ok (.iadd, 1) := by decide +kernel
theorem dM_reads_315 : decode cM_reads 315 = .ok (.iaload, 1) := by decide +kernel
theorem dM_reads_316 : decode cM_reads 316 = .ok (.invokevirtual 76, 3) := by decide +kernel
theorem dM_reads_319 : decode cM_reads 319 = .ok (.ifCond .eq 24, 3) := by decide +kernel
theorem dM_reads_322 : decode cM_reads 322 = .ok (.aload_n 0, 1) := by decide +kernel
theorem dM_reads_323 : decode cM_reads 323 = .ok (.aload_n 0, 1) := by decide +kernel
theorem dM_reads_324 : decode cM_reads 324 = .ok (.getfield 25, 3) := by decide +kernel
theorem dM_reads_327 : decode cM_reads 327 = .ok (.iconst 3, 1) := by decide +kernel
theorem dM_reads_328 : decode cM_reads 328 = .ok (.iload_n 2, 1) := by decide +kernel
theorem dM_reads_329 : decode cM_reads 329 = .ok (.imul, 1) := by decide +kernel
theorem dM_reads_330 : decode cM_reads 330 = .ok (.iconst 2, 1) := by decide +kernel
theorem dM_reads_331 : decode cM_reads 331 = .ok (.iadd, 1) := by decide +kernel
theorem dM_reads_332 : decode cM_reads 332 = .ok (.iaload, 1) := by decide +kernel
theorem dM_reads_333 : decode cM_reads 333 = .ok (.invokevirtual 76, 3) := by decide +kernel
theorem dM_reads_336 : decode cM_reads 336 = .ok (.ifCond .eq 7, 3) := by decide +kernel
theorem dM_reads_339 : decode cM_reads 339 = .ok (.iconst 1, 1) := by decide +kernel
theorem dM_reads_340 : decode cM_reads 340 = .ok (.goto 4, 3) := by decide +kernel
theorem dM_reads_343 : decode cM_reads 343 = .ok (.iconst 0, 1) := by decide +kernel
theorem dM_reads_344 : decode cM_reads 344 = .ok (.istore_n 1, 1) := by decide +kernel
theorem dM_reads_345 : decode cM_reads 345 = .ok (.iinc 2 1, 3) := by decide +kernel
theorem dM_reads_348 : decode cM_reads 348 = .ok (.goto (-57), 3) := by decide +kernel
theorem dM_reads_351 : decode cM_reads 351 = .ok (.iload_n 1, 1) := by decide +kernel
theorem dM_reads_352 : decode cM_reads 352 = .ok (.ireturn, 1) := by decide +kernel
theorem dM_lines_0 : decode cM_lines 0 = .ok (.aload_n 0, 1) := by decide +kernel
theorem dM_lines_1 : decode cM_lines 1 = .ok (.iconst 0, 1) := by decide +kernel
theorem dM_lines_2 : decode cM_lines 2 = .ok (.putfield 51, 3) := by decide +kernel
theorem dM_lines_5 : decode cM_lines 5 = .ok (.aload_n 0, 1) := by decide +kernel
theorem dM_lines_6 : decode cM_lines 6 = .ok (.bipush 97, 2) := by decide +kernel
theorem dM_lines_8 : decode cM_lines 8 = .ok (.invokevirtual 58, 3) := by decide +kernel
theorem dM_lines_11 : decode cM_lines 11 = .ok (.ifCond .eq 40, 3) := by decide +kernel
theorem dM_lines_14 : decode cM_lines 14 = .ok (.aload_n 0, 1) := by decide +kernel
theorem dM_lines_15 : decode cM_lines 15 = .ok (.bipush 97, 2) := by decide +kernel
theorem dM_lines_17 : decode cM_lines 17 = .ok (.invokevirtual 58, 3) := by decide +kernel
theorem dM_lines_20 : decode cM_lines 20 = .ok (.ifCond .eq 31, 3) := by decide +kernel
theorem dM_lines_23 : decode cM_lines 23 = .ok (.aload_n 0, 1) := by decide +kernel
theorem dM_lines_24 : decode cM_lines 24 = .ok (.bipush 103, 2) := by decide +kernel
theorem dM_lines_26 : decode cM_lines 26 = .ok (.invokevirtual 58, 3) := by decide +kernel
theorem dM_lines_29 : decode cM_lines 29 = .ok (.ifCond .eq 22, 3) := by decide +kernel
theorem dM_lines_32 : decode cM_lines 32 = .ok (.aload_n 0, 1) := by decide +kernel
theorem dM_lines_33 : decode cM_lines 33 = .ok (.bipush 32, 2) := by decide +kernel
theorem dM_lines_35 : decode cM_lines 35 = .ok (.invokevirtual 58, 3) := by decide +kernel
theorem dM_lines_38 : decode cM_lines 38 = .ok (.ifCond .eq 13, 3) := by decide +kernel
theorem dM_lines_41 : decode cM_lines 41 = .ok (.aload_n 0, 1) := by decide +kernel
theorem dM_lines_42 : decode cM_lines 42 = .ok (.iconst 0, 1) := by decide +kernel
theorem dM_lines_43 : decode cM_lines 43 = .ok (.iconst 0, 1) := by decide +kernel
theorem dM_lines_44 : decode cM_lines 44 = .ok (.iconst 5, 1) := by decide +kernel
theorem dM_lines_45 : decode cM_lines 45 = .ok (.invokevirtual 65, 3) := by decide +kernel
theorem dM_lines_48 : decode cM_lines 48 = .ok (.ifCond .ne 5, 3) := by decide +kernel
theorem dM_lines_51 : decode cM_lines 51 = .ok (.iconst 0, 1) := by decide +kernel
theorem dM_lines_52 : decode cM_lines 52 = .ok (.ireturn, 1) := by decide +kernel
theorem dM_lines_53 : decode cM_lines 53 = .ok (.iconst 1, 1) := by decide +kernel
theorem dM_lines_54 : decode cM_lines 54 = .ok (.istore_n 1, 1) := by decide +kernel
theorem dM_lines_55 : decode cM_lines 55 = .ok (.iload_n 1, 1) := by decide +kernel
theorem dM_lines_56 : decode cM_lines 56 = .ok (.iconst 5, 1) := by decide +kernel
theorem dM_lines_57 : decode cM_lines 57 = .ok (.if_icmp .ge 55, 3) := by decide +kernel
theorem dM_lines_60 : decode cM_lines 60 = .ok (.aload_n 0, 1) := by decide +kernel
theorem dM_lines_61 : decode cM_lines 61 = .ok (.getfield 13, 3) := by decide +kernel
theorem dM_lines_64 : decode cM_lines 64 = .ok (.iload_n 1, 1) := by decide +kernel
theorem dM_lines_65 : decode cM_lines 65 = .ok (.iaload, 1) := by decide +kernel
theorem dM_lines_66 : decode cM_lines 66 = .ok (.istore_n 2, 1) := by decide +kernel
theorem dM_lines_67 : decode cM_lines 67 = .ok (.iconst 0, 1) := by decide +kernel
theorem dM_lines_68 : decode cM_lines 68 = .ok (.istore_n 3, 1) := by decide +kernel
theorem dM_lines_69 : decode cM_lines 69 = .ok (.iload_n 3, 1) := by decide +kernel
theorem dM_lines_70 : decode cM_lines 70 = .ok (.iload_n 2, 1) := by decide +kernel
theorem dM_lines_71 : decode cM_lines 71 = .ok (.if_icmp .ge 35, 3) := by decide +kernel
theorem dM_lines_74 : decode cM_lines 74 = .ok (.aload_n 0, 1) := by decide +kernel
theorem dM_lines_75 : decode cM_lines 75 = .ok (.iload_n 1, 1) := by decide +kernel
theorem dM_lines_76 : decode cM_lines 76 = .ok (.iload_n 3, 1) := by decide +kernel
theorem dM_lines_77 : decode cM_lines 77 = .ok (.iload_n 1, 1) := by decide +kernel
theorem dM_lines_78 : decode cM_lines 78 = .ok (.iconst 2, 1) := by decide +kernel
theorem dM_lines_79 : decode cM_lines 79 = .ok (.if_icmp .eq 8, 3) := by decide +kernel
theorem dM_lines_82 : decode cM_lines 82 = .ok (.iload_n 1, 1) := by decide +kernel
theorem dM_lines_83 : decode cM_lines 83 = .ok (.iconst 4, 1) := by decide +kernel
theorem dM_lines_84 : decode cM_lines 84 = .ok (.if_icmp .ne 7, 3) := by decide +kernel
theorem dM_lines_87 : decode cM_lines 87 = .ok (.iconst 3, 1) := by decide +kernel
theorem dM_lines_88 : decode cM_lines 88 = .ok (.goto 4, 3) := by decide +kernel
theorem dM_lines_91 : decode cM_lines 91 = .ok (.iconst 1, 1) := by decide +kernel
theorem dM_lines_92 : decode cM_lines 92 = .ok (.invokevirtual 65, 3) := by decide +kernel
theorem dM_lines_95 : decode cM_lines 95 = .ok (.ifCond .ne 5, 3) := by decide +kernel
theorem dM_lines_98 : decode cM_lines 98 = .ok (.iconst 0, 1) := by decide +kernel
theorem dM_lines_99 : decode cM_lines 99 = .ok (.ireturn, 1) := by decide +kernel
theorem dM_lines_100 : decode cM_lines 100 = .ok (.iinc 3 1, 3) := by decide +kernel
theorem dM_lines_103 : decode cM_lines 103 = .ok (.goto (-34), 3) := by decide +kernel
theorem dM_lines_106 : decode cM_lines 106 = .ok (.iinc 1 1, 3) := by decide +kernel
theorem dM_lines_109 : decode cM_lines 109 = .ok (.goto (-54), 3) := by decide +kernel
theorem dM_lines_112 : decode cM_lines 112 = .ok (.aload_n 0, 1) := by decide +kernel
theorem dM_lines_113 : decode cM_lines 113 = .ok (.getfield 51, 3) := by decide +kernel
theorem dM_lines_116 : decode cM_lines 116 = .ok (.aload_n 0, 1) := by decide +kernel
theorem dM_lines_117 : decode cM_lines 117 = .ok (.getfield 48, 3) := by decide +kernel
theorem dM_lines_120 : decode cM_lines 120 = .ok (.if_icmp .ne 7, 3) := by decide +kernel
theorem dM_lines_123 : decode cM_lines 123 = .ok (.iconst 1, 1) := by decide +kernel
theorem dM_lines_124 : decode cM_lines 124 = .ok (.goto 4, 3) := by decide +kernel
theorem dM_lines_127 : decode cM_lines 127 = .ok (.iconst 0, 1) := by decide +kernel
theorem dM_lines_128 : decode cM_lines 128 = .ok (.ireturn, 1) := by decide +kernel
theorem dM_eat_0 : decode cM_eat 0 = .ok (.aload_n 0, 1) := by decide +kernel
theorem dM_eat_1 : decode cM_eat 1 = .ok (.invokevirtual 54, 3) := by decide +kernel
theorem dM_eat_4 : decode cM_eat 4 = .ok (.iload_n 1, 1) := by decide +kernel
theorem dM_eat_5 : decode cM_eat 5 = .ok (.if_icmp .eq 5, 3) := by decide +kernel
theorem dM_eat_8 : decode cM_eat 8 = .ok (.iconst 0, 1) := by decide +kernel
theorem dM_eat_9 : decode cM_eat 9 = .ok (.ireturn, 1) := by decide +kernel
theorem dM_eat_10 : decode cM_eat 10 = .ok (.aload_n 0, 1) := by decide +kernel
theorem dM_eat_11 : decode cM_eat 11 = .ok (.dup, 1) := by decide +kernel
theorem dM_eat_12 : decode cM_eat 12 = .ok (.getfield 51, 3) := by decide +kernel
theorem dM_eat_15 : decode cM_eat 15 = .ok (.iconst 1, 1) := by decide +kernel
theorem dM_eat_16 : decode cM_eat 16 = .ok (.iadd, 1) := by decide +kernel
theorem dM_eat_17 : decode cM_eat 17 = .ok (.putfield 51, 3) := by decide +kernel
theorem dM_eat_20 : decode cM_eat 20 = .ok (.iconst 1, 1) := by decide +kernel
theorem dM_eat_21 : decode cM_eat 21 = .ok (.ireturn, 1) := by decide +kernel
theorem dM_look_0 : decode cM_look 0 = .ok (.aload_n 0, 1) := by decide +kernel
theorem dM_look_1 : decode cM_look 1 = .ok (.getfield 51, 3) := by decide +kernel
theorem dM_look_4 : decode cM_look 4 = .ok (.aload_n 0, 1) := by decide +kernel
theorem dM_look_5 : decode cM_look 5 = .ok (.getfield 48, 3) := by decide +kernel
theorem dM_look_8 : decode cM_look 8 = .ok (.if_icmp .ge 15, 3) := by decide +kernel
theorem dM_look_11 : decode cM_look 11 = .ok (.aload_n 0, 1) := by decide +kernel
theorem dM_look_12 : decode cM_look 12 = .ok (.getfield 7, 3) := by decide +kernel
theorem dM_look_15 : decode cM_look 15 = .ok (.aload_n 0, 1) := by decide +kernel
theorem dM_look_16 : decode cM_look 16 = .ok (.getfield 51, 3) := by decide +kernel
theorem dM_look_19 : decode cM_look 19 = .ok (.iaload, 1) := by decide +kernel
theorem dM_look_20 : decode cM_look 20 = .ok (.goto 4, 3) := by decide +kernel
theorem dM_look_23 : decode cM_look 23 = .ok (.iconst 0, 1) := by decide +kernel
theorem dM_look_24 : decode cM_look 24 = .ok (.ireturn, 1) := by decide +kernel
theorem dM_line_0 : decode cM_line 0 = .ok (.iconst 0, 1) := by decide +kernel
theorem dM_line_1 : decode cM_line 1 = .ok (.istore 4, 2) := by decide +kernel
theorem dM_line_3 : decode cM_line 3 = .ok (.iload 4, 2) := by decide +kernel
theorem dM_line_5 : decode cM_line 5 = .ok (.iload_n 3, 1) := by decide +kernel
theorem dM_line_6 : decode cM_line 6 = .ok (.if_icmp .ge 161, 3) := by decide +kernel
theorem dM_line_9 : decode cM_line 9 = .ok (.iload_n 1, 1) := by decide +kernel
theorem dM_line_10 : decode cM_line 10 = .ok (.iconst 2, 1) := by decide +kernel
theorem dM_line_11 : decode cM_line 11 = .ok (.if_icmp .ne 22, 3) := by decide +kernel
theorem dM_line_14 : decode cM_line 14 = .ok (.iload 4, 2) := by decide +kernel
theorem dM_line_16 : decode cM_line 16 = .ok (.iconst 2, 1) := by decide +kernel
theorem dM_line_17 : decode cM_line 17 = .ok (.if_icmp .ne 16, 3) := by decide +kernel
theorem dM_line_20 : decode cM_line 20 = .ok (.aload_n 0, 1) := by decide +kernel
theorem dM_line_21 : decode cM_line 21 = .ok (.invokevirtual 54, 3) := by decide +kernel
theorem dM_line_24 : decode cM_line 24 = .ok (.bipush 10, 2) := by decide +kernel
theorem dM_line_26 : decode cM_line 26 = .ok (.if_icmp .ne 7, 3) := by decide +kernel
theorem dM_line_29 : decode cM_line 29 = .ok (.iconst 1, 1) := by decide +kernel
theorem dM_line_30 : decode cM_line 30 = .ok (.goto 4, 3) := by decide +kernel
theorem dM_line_33 : decode cM_line 33 = .ok (.iconst 0, 1) := by decide +kernel
theorem dM_line_34 : decode cM_line 34 = .ok (.istore 5, 2) := by decide +kernel
theorem dM_line_36 : decode cM_line 36 = .ok (.iload 4, 2) := by decide +kernel
theorem dM_line_38 : decode cM_line 38 = .ok (.ifCond .le 19, 3) := by decide +kernel
theorem dM_line_41 : decode cM_line 41 = .ok (.iload 5, 2) := by decide +kernel
theorem dM_line_43 : decode cM_line 43 = .ok (.ifCond .ne 14, 3) := by decide +kernel
theorem dM_line_46 : decode cM_line 46 = .ok (.aload_n 0, 1) := by decide +kernel
theorem dM_line_47 : decode cM_line 47 = .ok (.bipush 32, 2) := by decide +kernel
theorem dM_line_49 : decode cM_line 49 = .ok (.invokevirtual 58, 3) := by decide +kernel
theorem dM_line_52 : decode cM_line 52 = .ok (.ifCond .ne 5, 3) := by decide +kernel
theorem dM_line_55 : decode cM_line 55 = .ok (.iconst 0, 1) := by decide +kernel
theorem dM_line_56 : decode cM_line 56 = .ok (.ireturn, 1) := by decide +kernel
theorem dM_line_57 : decode cM_line 57 = .ok (.iload 5, 2) := by decide +kernel
theorem dM_line_59 : decode cM_line 59 = .ok (.ifCond .eq 7, 3) := by decide +kernel
theorem dM_line_62 : decode cM_line 62 = .ok (.iconst 0, 1) := by decide +kernel
theorem dM_line_63 : decode cM_line 63 = .ok (.goto 7, 3) := by decide +kernel
theorem dM_line_66 : decode cM_line 66 = .ok (.aload_n 0, 1) := by decide +kernel
theorem dM_line_67 : decode cM_line 67 = .ok (.invokevirtual 62, 3) := by decide +kernel
theorem dM_line_70 : decode cM_line 70 = .ok (.istore 6, 2) := by decide +kernel
theorem dM_line_72 : decode cM_line 72 = .ok (.iload 6, 2) := by decide +kernel
theorem dM_line_74 : decode cM_line 74 = .ok (.ifCond .ge 5, 3) := by decide +kernel
theorem dM_line_77 : decode cM_line 77 = .ok (.iconst 0, 1) := by decide +kernel
theorem dM_line_78 : decode cM_line 78 = .ok (.ireturn, 1) := by decide +kernel
theorem dM_line_79 : decode cM_line 79 = .ok (.iload_n 1, 1) := by decide +kernel
theorem dM_line_80 : decode cM_line 80 = .ok (.ifCond .ne 15, 3) := by decide +kernel
theorem dM_line_83 : decode cM_line 83 = .ok (.aload_n 0, 1) := by decide +kernel
theorem dM_line_84 : decode cM_line 84 = .ok (.getfield 13, 3) := by decide +kernel
theorem dM_line_87 : decode cM_line 87 = .ok (.iload 4, 2) := by decide +kernel
theorem dM_line_89 : decode cM_line 89 = .ok (.iload 6, 2) := by decide +kernel
theorem dM_line_91 : decode cM_line 91 = .ok (.iastore, 1) := by decide +kernel
theorem dM_line_92 : decode cM_line 92 = .ok (.goto 69, 3) := by decide +kernel
theorem dM_line_95 : decode cM_line 95 = .ok (.iload_n 1, 1) := by decide +kernel
theorem dM_line_96 : decode cM_line 96 = .ok (.iconst 1, 1) := by decide +kernel
theorem dM_line_97 : decode cM_line 97 = .ok (.if_icmp .ne 14, 3) := by decide +kernel
theorem dM_line_100 : decode cM_line 100 = .ok (.aload_n 0, 1) := by decide +kernel
theorem dM_line_101 : decode cM_line 101 = .ok (.getfield 16, 3) := by decide +kernel
theorem dM_line_104 : decode cM_line 104 = .ok (.iload_n 2, 1) := by decide +kernel
theorem dM_line_105 : decode cM_line 105 = .ok (.iload 6, 2) := by decide +kernel
theorem dM_line_107 : decode cM_line 107 = .ok (.iastore, 1) := by decide +kernel
theorem dM_line_108 : decode cM_line 108 = .ok (.goto 53, 3) := by decide +kernel
theorem dM_line_111 : decode cM_line 111 = .ok (.iload_n 1, 1) := by decide +kernel
theorem dM_line_112 : decode cM_line 112 = .ok (.iconst 2, 1) := by decide +kernel
theorem dM_line_113 : decode cM_line 113 = .ok (.if_icmp .ne 19, 3) := by decide +kernel
theorem dM_line_116 : decode cM_line 116 = .ok (.aload_n 0, 1) := by decide +kernel
theorem dM_line_117 : decode cM_line 117 = .ok (.getfield 19, 3) := by decide +kernel
theorem dM_line_120 : decode cM_line 120 = .ok (.iconst 3, 1) := by decide +kernel
theorem dM_line_121 : decode cM_line 121 = .ok (.iload_n 2, 1) := by decide +kernel
theorem dM_line_122 : decode cM_line 122 = .ok (.imul, 1) := by decide +kernel
theorem dM_line_123 : decode cM_line 123 = .ok (.iload 4, 2) := by decide +kernel
theorem dM_line_125 : decode cM_line 125 = .ok (.iadd, 1) := by decide +kernel
theorem dM_line_126 : decode cM_line 126 = .ok (.iload 6, 2) := by decide +kernel
theorem dM_line_128 : decode cM_line 128 = .ok (.iastore, 1) := by decide +kernel
theorem dM_line_129 : decode cM_line 129 = .ok (.goto 32, 3) := by decide +kernel
theorem dM_line_132 : decode cM_line 132 = .ok (.iload_n 1, 1) := by decide +kernel
theorem dM_line_133 : decode cM_line 133 = .ok (.iconst 3, 1) := by decide +kernel
theorem dM_line_134 : decode cM_line 134 = .ok (.if_icmp .ne 14, 3) := by decide +kernel
theorem dM_line_137 : decode cM_line 137 = .ok (.aload_n 0, 1) := by decide +kernel
theorem dM_line_138 : decode cM_line 138 = .ok (.getfield 22, 3) := by decide +kernel
theorem dM_line_141 : decode cM_line 141 = .ok (.iload_n 2, 1) := by decide +kernel
theorem dM_line_142 : decode cM_line 142 = .ok (.iload 6, 2) := by decide +kernel
theorem dM_line_144 : decode cM_line 144 = .ok (.iastore, 1) := by decide +kernel
theorem dM_line_145 : decode cM_line 145 = .ok (.goto 16, 3) := by decide +kernel
theorem dM_line_148 : decode cM_line 148 = .ok (.aload_n 0, 1) := by decide +kernel
theorem dM_line_149 : decode cM_line 149 = .ok (.getfield 25, 3) := by decide +kernel
theorem dM_line_152 : decode cM_line 152 = .ok (.iconst 3, 1) := by decide +kernel
theorem dM_line_153 : decode cM_line 153 = .ok (.iload_n 2, 1) := by decide +kernel
theorem dM_line_154 : decode cM_line 154 = .ok (.imul, 1) := by decide +kernel
theorem dM_line_155 : decode cM_line 155 = .ok (.iload 4, 2) := by decide +kernel
theorem dM_line_157 : decode cM_line 157 = .ok (.iadd, 1) := by decide +kernel
theorem dM_line_158 : decode cM_line 158 = .ok (.iload 6, 2) := by decide +kernel
theorem dM_line_160 : decode cM_line 160 = .ok (.iastore, 1) := by decide +kernel
theorem dM_line_161 : decode cM_line 161 = .ok (.iinc 4 1, 3) := by decide +kernel
theorem dM_line_164 : decode cM_line 164 = .ok (.goto (-161), 3) := by decide +kernel
theorem dM_line_167 : decode cM_line 167 = .ok (.aload_n 0, 1) := by decide +kernel
theorem dM_line_168 : decode cM_line 168 = .ok (.bipush 10, 2) := by decide +kernel
theorem dM_line_170 : decode cM_line 170 = .ok (.invokevirtual 58, 3) := by decide +kernel
theorem dM_line_173 : decode cM_line 173 = .ok (.ireturn, 1) := by decide +kernel
theorem dM_number_0 : decode cM_number 0 = .ok (.aload_n 0, 1) := by decide +kernel
theorem dM_number_1 : decode cM_number 1 = .ok (.invokevirtual 54, 3) := by decide +kernel
theorem dM_number_4 : decode cM_number 4 = .ok (.istore_n 1, 1) := by decide +kernel
theorem dM_number_5 : decode cM_number 5 = .ok (.iconst 0, 1) := by decide +kernel
theorem dM_number_6 : decode cM_number 6 = .ok (.istore_n 2, 1) := by decide +kernel
theorem dM_number_7 : decode cM_number 7 = .ok (.iconst 0, 1) := by decide +kernel
theorem dM_number_8 : decode cM_number 8 = .ok (.istore_n 3, 1) := by decide +kernel
theorem dM_number_9 : decode cM_number 9 = .ok (.aload_n 0, 1) := by decide +kernel
theorem dM_number_10 : decode cM_number 10 = .ok (.invokevirtual 54, 3) := by decide +kernel
theorem dM_number_13 : decode cM_number 13 = .ok (.bipush 48, 2) := by decide +kernel
theorem dM_number_15 : decode cM_number 15 = .ok (.if_icmp .lt 46, 3) := by decide +kernel
theorem dM_number_18 : decode cM_number 18 = .ok (.aload_n 0, 1) := by decide +kernel
theorem dM_number_19 : decode cM_number 19 = .ok (.invokevirtual 54, 3) := by decide +kernel
theorem dM_number_22 : decode cM_number 22 = .ok (.bipush 57, 2) := by decide +kernel
theorem dM_number_24 : decode cM_number 24 = .ok (.if_icmp .gt 37, 3) := by decide +kernel
theorem dM_number_27 : decode cM_number 27 = .ok (.iload_n 3, 1) := by decide +kernel
theorem dM_number_28 : decode cM_number 28 = .ok (.iconst 3, 1) := by decide +kernel
theorem dM_number_29 : decode cM_number 29 = .ok (.if_icmp .ge 32, 3) := by decide +kernel
theorem dM_number_32 : decode cM_number 32 = .ok (.bipush 10, 2) := by decide +kernel
theorem dM_number_34 : decode cM_number 34 = .ok (.iload_n 2, 1) := by decide +kernel
theorem dM_number_35 : decode cM_number 35 = .ok (.imul, 1) := by decide +kernel
theorem dM_number_36 : decode cM_number 36 = .ok (.aload_n 0, 1) := by decide +kernel
theorem dM_number_37 : decode cM_number 37 = .ok (.invokevirtual 54, 3) := by decide +kernel
theorem dM_number_40 : decode cM_number 40 = .ok (.iadd, 1) := by decide +kernel
theorem dM_number_41 : decode cM_number 41 = .ok (.bipush 48, 2) := by decide +kernel
theorem dM_number_43 : decode cM_number 43 = .ok (.isub, 1) := by decide +kernel
theorem dM_number_44 : decode cM_number 44 = .ok (.istore_n 2, 1) := by decide +kernel
theorem dM_number_45 : decode cM_number 45 = .ok (.iinc 3 1, 3) := by decide +kernel
theorem dM_number_48 : decode cM_number 48 = .ok (.aload_n 0, 1) := by decide +kernel
theorem dM_number_49 : decode cM_number 49 = .ok (.dup, 1) := by decide +kernel
theorem dM_number_50 : decode cM_number 50 = .ok (.getfield 51, 3) := by decide +kernel
theorem dM_number_53 : decode cM_number 53 = .ok (.iconst 1, 1) := by decide +kernel
theorem dM_number_54 : decode cM_number 54 = .ok (.iadd, 1) := by decide +kernel
theorem dM_number_55 : decode cM_number 55 = .ok (.putfield 51, 3) := by decide +kernel
theorem dM_number_58 : decode cM_number 58 = .ok (.goto (-49), 3) := by decide +kernel
theorem dM_number_61 : decode cM_number 61 = .ok (.iload_n 3, 1) := by decide +kernel
theorem dM_number_62 : decode cM_number 62 = .ok (.ifCond .eq 19, 3) := by decide +kernel
theorem dM_number_65 : decode cM_number 65 = .ok (.iload_n 3, 1) := by decide +kernel
theorem dM_number_66 : decode cM_number 66 = .ok (.iconst 2, 1) := by decide +kernel
theorem dM_number_67 : decode cM_number 67 = .ok (.if_icmp .gt 14, 3) := by decide +kernel
theorem dM_number_70 : decode cM_number 70 = .ok (.iload_n 3, 1) := by decide +kernel
theorem dM_number_71 : decode cM_number 71 = .ok (.iconst 2, 1) := by decide +kernel
theorem dM_number_72 : decode cM_number 72 = .ok (.if_icmp .ne 13, 3) := by decide +kernel
theorem dM_number_75 : decode cM_number 75 = .ok (.iload_n 1, 1) := by decide +kernel
theorem dM_number_76 : decode cM_number 76 = .ok (.bipush 48, 2) := by decide +kernel
theorem dM_number_78 : decode cM_number 78 = .ok (.if_icmp .ne 7, 3) := by decide +kernel
theorem dM_number_81 : decode cM_number 81 = .ok (.iconst (-1), 1) := by decide +kernel
theorem dM_number_82 : decode cM_number 82 = .ok (.goto 4, 3) := by decide +kernel
theorem dM_number_85 : decode cM_number 85 = .ok (.iload_n 2, 1) := by decide +kernel
theorem dM_number_86 : decode cM_number 86 = .ok (.ireturn, 1) := by decide +kernel
theorem dM_defines_0 : decode cM_defines 0 = .ok (.iload_n 1, 1) := by decide +kernel
theorem dM_defines_1 : decode cM_defines 1 = .ok (.iconst 2, 1) := by decide +kernel
theorem dM_defines_2 : decode cM_defines 2 = .ok (.idiv, 1) := by decide +kernel
theorem dM_defines_3 : decode cM_defines 3 = .ok (.istore_n 2, 1) := by decide +kernel
theorem dM_defines_4 : decode cM_defines 4 = .ok (.iload_n 1, 1) := by decide +kernel
theorem dM_defines_5 : decode cM_defines 5 = .ok (.iconst 2, 1) := by decide +kernel
theorem dM_defines_6 : decode cM_defines 6 = .ok (.if_icmp .lt 29, 3) := by decide +kernel
theorem dM_defines_9 : decode cM_defines 9 = .ok (.iload_n 1, 1) := by decide +kernel
theorem dM_defines_10 : decode cM_defines 10 = .ok (.iconst 2, 1) := by decide +kernel
theorem dM_defines_11 : decode cM_defines 11 = .ok (.irem, 1) := by decide +kernel
theorem dM_defines_12 : decode cM_defines 12 = .ok (.iconst 1, 1) := by decide +kernel
theorem dM_defines_13 : decode cM_defines 13 = .ok (.if_icmp .eq 22, 3) := by decide +kernel
theorem dM_defines_16 : decode cM_defines 16 = .ok (.iload_n 2, 1) := by decide +kernel
theorem dM_defines_17 : decode cM_defines 17 = .ok (.aload_n 0, 1) := by decide +kernel
theorem dM_defines_18 : decode cM_defines 18 = .ok (.getfield 13, 3) := by decide +kernel
theorem dM_defines_21 : decode cM_defines 21 = .ok (.iconst 0, 1) := by decide +kernel
theorem dM_defines_22 : decode cM_defines 22 = .ok (.iaload, 1) := by decide +kernel
theorem dM_defines_23 : decode cM_defines 23 = .ok (.if_icmp .gt 12, 3) := by decide +kernel
theorem dM_defines_26 : decode cM_defines 26 = .ok (.aload_n 0, 1) := by decide +kernel
theorem dM_defines_27 : decode cM_defines 27 = .ok (.getfield 28, 3) := by decide +kernel
theorem dM_defines_30 : decode cM_defines 30 = .ok (.iload_n 2, 1) := by decide +kernel
theorem dM_defines_31 : decode cM_defines 31 = .ok (.baload, 1) := by decide +kernel
theorem dM_defines_32 : decode cM_defines 32 = .ok (.ifCond .eq 5, 3) := by decide +kernel
theorem dM_defines_35 : decode cM_defines 35 = .ok (.iconst 0, 1) := by decide +kernel
theorem dM_defines_36 : decode cM_defines 36 = .ok (.ireturn, 1) := by decide +kernel
theorem dM_defines_37 : decode cM_defines 37 = .ok (.aload_n 0, 1) := by decide +kernel
theorem dM_defines_38 : decode cM_defines 38 = .ok (.getfield 28, 3) := by decide +kernel
theorem dM_defines_41 : decode cM_defines 41 = .ok (.iload_n 2, 1) := by decide +kernel
theorem dM_defines_42 : decode cM_defines 42 = .ok (.iconst 1, 1) := by decide +kernel
theorem dM_defines_43 : decode cM_defines 43 = .ok (.bastore, 1) := by decide +kernel
theorem dM_defines_44 : decode cM_defines 44 = .ok (.iconst 1, 1) := by decide +kernel
theorem dM_defines_45 : decode cM_defines 45 = .ok (.ireturn, 1) := by decide +kernel
theorem dM_means_0 : decode cM_means 0 = .ok (.iload_n 1, 1) := by decide +kernel
theorem dM_means_1 : decode cM_means 1 = .ok (.iconst 2, 1) := by decide +kernel
theorem dM_means_2 : decode cM_means 2 = .ok (.if_icmp .lt 28, 3) := by decide +kernel
theorem dM_means_5 : decode cM_means 5 = .ok (.iload_n 1, 1) := by decide +kernel
theorem dM_means_6 : decode cM_means 6 = .ok (.iconst 2, 1) := by decide +kernel
theorem dM_means_7 : decode cM_means 7 = .ok (.aload_n 0, 1) := by decide +kernel
theorem dM_means_8 : decode cM_means 8 = .ok (.getfield 13, 3) := by decide +kernel
theorem dM_means_11 : decode cM_means 11 = .ok (.iconst 0, 1) := by decide +kernel
theorem dM_means_12 : decode cM_means 12 = .ok (.iaload, 1) := by decide +kernel
theorem dM_means_13 : decode cM_means 13 = .ok (.imul, 1) := by decide +kernel
theorem dM_means_14 : decode cM_means 14 = .ok (.iconst 1, 1) := by decide +kernel
theorem dM_means_15 : decode cM_means 15 = .ok (.iadd, 1) := by decide +kernel
theorem dM_means_16 : decode cM_means 16 = .ok (.if_icmp .gt 18, 3) := by decide +kernel
theorem dM_means_19 : decode cM_means 19 = .ok (.aload_n 0, 1) := by decide +kernel
theorem dM_means_20 : decode cM_means 20 = .ok (.getfield 28, 3) := by decide +kernel
theorem dM_means_23 : decode cM_means 23 = .ok (.iload_n 1, 1) := by decide +kernel
theorem dM_means_24 : decode cM_means 24 = .ok (.iconst 2, 1) := by decide +kernel
theorem dM_means_25 : decode cM_means 25 = .ok (.idiv, 1) := by decide +kernel
theorem dM_means_26 : decode cM_means 26 = .ok (.baload, 1) := by decide +kernel
theorem dM_means_27 : decode cM_means 27 = .ok (.ifCond .eq 7, 3) := by decide +kernel
theorem dM_means_30 : decode cM_means 30 = .ok (.iconst 1, 1) := by decide +kernel
theorem dM_means_31 : decode cM_means 31 = .ok (.goto 4, 3) := by decide +kernel
theorem dM_means_34 : decode cM_means 34 = .ok (.iconst 0, 1) := by decide +kernel
theorem dM_means_35 : decode cM_means 35 = .ok (.ireturn, 1) := by decide +kernel
theorem dM_evaluate_0 : decode cM_evaluate 0 = .ok (.iconst 0, 1) := by decide +kernel
theorem dM_evaluate_1 : decode cM_evaluate 1 = .ok (.istore_n 3, 1) := by decide +kernel
theorem dM_evaluate_2 : decode cM_evaluate 2 = .ok (.iload_n 3, 1) := by decide +kernel
theorem dM_evaluate_3 : decode cM_evaluate 3 = .ok (.aload_n 0, 1) := by decide +kernel
theorem dM_evaluate_4 : decode cM_evaluate 4 = .ok (.getfield 13, 3) := by decide +kernel
theorem dM_evaluate_7 : decode cM_evaluate 7 = .ok (.iconst 1, 1) := by decide +kernel
theorem dM_evaluate_8 : decode cM_evaluate 8 = .ok (.iaload, 1) := by decide +kernel
theorem dM_evaluate_9 : decode cM_evaluate 9 = .ok (.if_icmp .ge 36, 3) := by decide +kernel
theorem dM_evaluate_12 : decode cM_evaluate 12 = .ok (.aload_n 0, 1) := by decide +kernel
theorem dM_evaluate_13 : decode cM_evaluate 13 = .ok (.getfield 41, 3) := by decide +kernel
theorem dM_evaluate_16 : decode cM_evaluate 16 = .ok (.aload_n 0, 1) := by decide +kernel
theorem dM_evaluate_17 : decode cM_evaluate 17 = .ok (.getfield 16, 3) := by decide +kernel
theorem dM_evaluate_20 : decode cM_evaluate 20 = .ok (.iload_n 3, 1) := by decide +kernel
theorem dM_evaluate_21 : decode cM_evaluate 21 = .ok (.iaload, 1) := by decide +kernel
theorem dM_evaluate_22 : decode cM_evaluate 22 = .ok (.iconst 2, 1) := by decide +kernel
theorem dM_evaluate_23 : decode cM_evaluate 23 = .ok (.idiv, 1) := by decide +kernel
theorem dM_evaluate_24 : decode cM_evaluate 24 = .ok (.iload_n 2, 1) := by decide +kernel
theorem dM_evaluate_25 : decode cM_evaluate 25 = .ok (.iload_n 3, 1) := by decide +kernel
theorem dM_evaluate_26 : decode cM_evaluate 26 = .ok (.ishr, 1) := by decide +kernel
theorem dM_evaluate_27 : decode cM_evaluate 27 = .ok (.iconst 1, 1) := by decide +kernel
theorem dM_evaluate_28 : decode cM_evaluate 28 = .ok (.iand, 1) := by decide +kernel
theorem dM_evaluate_29 : decode cM_evaluate 29 = .ok (.iconst 1, 1) := by decide +kernel
theorem dM_evaluate_30 : decode cM_evaluate 30 = .ok (.if_icmp .ne 7, 3) := by decide +kernel
theorem dM_evaluate_33 : decode cM_evaluate 33 = .ok (.iconst 1, 1) := by decide +kernel
theorem dM_evaluate_34 : decode cM_evaluate 34 = .ok (.goto 4, 3) := by decide +kernel
theorem dM_evaluate_37 : decode cM_evaluate 37 = .ok (.iconst 0, 1) := by decide +kernel
theorem dM_evaluate_38 : decode cM_evaluate 38 = .ok (.bastore, 1) := by decide +kernel
theorem dM_evaluate_39 : decode cM_evaluate 39 = .ok (.iinc 3 1, 3) := by decide +kernel
theorem dM_evaluate_42 : decode cM_evaluate 42 = .ok (.goto (-40), 3) := by decide +kernel
theorem dM_evaluate_45 : decode cM_evaluate 45 = .ok (.iconst 0, 1) := by decide +kernel
theorem dM_evaluate_46 : decode cM_evaluate 46 = .ok (.istore_n 3, 1) := by decide +kernel
theorem dM_evaluate_47 : decode cM_evaluate 47 = .ok (.iload_n 3, 1) := by decide +kernel
theorem dM_evaluate_48 : decode cM_evaluate 48 = .ok (.aload_n 0, 1) := by decide +kernel
theorem dM_evaluate_49 : decode cM_evaluate 49 = .ok (.getfield 13, 3) := by decide +kernel
theorem dM_evaluate_52 : decode cM_evaluate 52 = .ok (.iconst 2, 1) := by decide +kernel
theorem dM_evaluate_53 : decode cM_evaluate 53 = .ok (.iaload, 1) := by decide +kernel
theorem dM_evaluate_54 : decode cM_evaluate 54 = .ok (.if_icmp .ge 38, 3) := by decide +kernel
theorem dM_evaluate_57 : decode cM_evaluate 57 = .ok (.aload_n 0, 1) := by decide +kernel
theorem dM_evaluate_58 : decode cM_evaluate 58 = .ok (.getfield 41, 3) := by decide +kernel
theorem dM_evaluate_61 : decode cM_evaluate 61 = .ok (.aload_n 0, 1) := by decide +kernel
theorem dM_evaluate_62 : decode cM_evaluate 62 = .ok (.getfield 19, 3) := by decide +kernel
theorem dM_evaluate_65 : decode cM_evaluate 65 = .ok (.iconst 3, 1) := by decide +kernel
theorem dM_evaluate_66 : decode cM_evaluate 66 = .ok (.iload_n 3, 1) := by decide +kernel
theorem dM_evaluate_67 : decode cM_evaluate 67 = .ok (.imul, 1) := by decide +kernel
theorem dM_evaluate_68 : decode cM_evaluate 68 = .ok (.iaload, 1) := by decide +kernel
theorem dM_evaluate_69 : decode cM_evaluate 69 = .ok (.iconst 2, 1) := by decide +kernel
theorem dM_evaluate_70 : decode cM_evaluate 70 = .ok (.idiv, 1) := by decide +kernel
theorem dM_evaluate_71 : decode cM_evaluate 71 = .ok (.iload_n 1, 1) := by decide +kernel
theorem dM_evaluate_72 : decode cM_evaluate 72 = .ok (.iload_n 3, 1) := by decide +kernel
theorem dM_evaluate_73 : decode cM_evaluate 73 = .ok (.ishr, 1) := by decide +kernel
theorem dM_evaluate_74 : decode cM_evaluate 74 = .ok (.iconst 1, 1) := by decide +kernel
theorem dM_evaluate_75 : decode cM_evaluate 75 = .ok (.iand, 1) := by decide +kernel
theorem dM_evaluate_76 : decode cM_evaluate 76 = .ok (.iconst 1, 1) := by decide +kernel
theorem dM_evaluate_77 : decode cM_evaluate 77 = .ok (.if_icmp .ne 7, 3) := by decide +kernel
theorem dM_evaluate_80 : decode cM_evaluate 80 = .ok (.iconst 1, 1) := by decide +kernel
theorem dM_evaluate_81 : decode cM_evaluate 81 = .ok (.goto 4, 3) := by decide +kernel
theorem dM_evaluate_84 : decode cM_evaluate 84 = .ok (.iconst 0, 1) := by decide +kernel
theorem dM_evaluate_85 : decode cM_evaluate 85 = .ok (.bastore, 1) := by decide +kernel
theorem dM_evaluate_86 : decode cM_evaluate 86 = .ok (.iinc 3 1, 3) := by decide +kernel
theorem dM_evaluate_89 : decode cM_evaluate 89 = .ok (.goto (-42), 3) := by decide +kernel
theorem dM_evaluate_92 : decode cM_evaluate 92 = .ok (.iconst 1, 1) := by decide +kernel
theorem dM_evaluate_93 : decode cM_evaluate 93 = .ok (.istore_n 3, 1) := by decide +kernel
theorem dM_evaluate_94 : decode cM_evaluate 94 = .ok (.iload_n 3, 1) := by decide +kernel
theorem dM_evaluate_95 : decode cM_evaluate 95 = .ok (.aload_n 0, 1) := by decide +kernel
theorem dM_evaluate_96 : decode cM_evaluate 96 = .ok (.getfield 13, 3) := by decide +kernel
theorem dM_evaluate_99 : decode cM_evaluate 99 = .ok (.iconst 0, 1) := by decide +kernel
theorem dM_evaluate_100 : decode cM_evaluate 100 = .ok (.iaload, 1) := by decide +kernel
theorem dM_evaluate_101 : decode cM_evaluate 101 = .ok (.if_icmp .gt 99, 3) := by decide +kernel
theorem dM_evaluate_104 : decode cM_evaluate 104 = .ok (.iconst 0, 1) := by decide +kernel
theorem dM_evaluate_105 : decode cM_evaluate 105 = .ok (.istore 4, 2) := by decide +kernel
theorem dM_evaluate_107 : decode cM_evaluate 107 = .ok (.iload 4, 2) := by decide +kernel
theorem dM_evaluate_109 : decode cM_evaluate 109 = .ok (.aload_n 0, 1) := by decide +kernel
theorem dM_evaluate_110 : decode cM_evaluate 110 = .ok (.getfield 13, 3) := by decide +kernel
theorem dM_evaluate_113 : decode cM_evaluate 113 = .ok (.iconst 4, 1) := by decide +kernel
theorem dM_evaluate_114 : decode cM_evaluate 114 = .ok (.iaload, 1) := by decide +kernel
theorem dM_evaluate_115 : decode cM_evaluate 115 = .ok (.if_icmp .ge 79, 3) := by decide +kernel
theorem dM_evaluate_118 : decode cM_evaluate 118 = .ok (.aload_n 0, 1) := by decide +kernel
theorem dM_evaluate_119 : decode cM_evaluate 119 = .ok (.getfield 25, 3) := by decide +kernel
theorem dM_evaluate_122 : decode cM_evaluate 122 = .ok (.iconst 3, 1) := by decide +kernel
theorem dM_evaluate_123 : decode cM_evaluate 123 = .ok (.iload 4, 2) := by decide +kernel
theorem dM_evaluate_125 : decode cM_evaluate 125 = .ok (.imul, 1) := by decide +kernel
theorem dM_evaluate_126 : decode cM_evaluate 126 = .ok (.iaload, 1) := by decide +kernel
theorem dM_evaluate_127 : decode cM_evaluate 127 = .ok (.iconst 2, 1) := by decide +kernel
theorem dM_evaluate_128 : decode cM_evaluate 128 = .ok (.iload_n 3, 1) := by decide +kernel
theorem dM_evaluate_129 : decode cM_evaluate 129 = .ok (.imul, 1) := by decide +kernel
theorem dM_evaluate_130 : decode cM_evaluate 130 = .ok (.if_icmp .ne 58, 3) := by decide +kernel
theorem dM_evaluate_133 : decode cM_evaluate 133 = .ok (.aload_n 0, 1) := by decide +kernel
theorem dM_evaluate_134 : decode cM_evaluate 134 = .ok (.aload_n 0, 1) := by decide +kernel
theorem dM_evaluate_135 : decode cM_evaluate 135 = .ok (.getfield 25, 3) := by decide +kernel
theorem dM_evaluate_138 : decode cM_evaluate 138 = .ok (.iconst 3, 1) := by decide +kernel
theorem dM_evaluate_139 : decode cM_evaluate 139 = .ok (.iload 4, 2) := by decide +kernel
theorem dM_evaluate_141 : decode cM_evaluate 141 = .ok (.imul, 1) := by decide +kernel
theorem dM_evaluate_142 : decode cM_evaluate 142 = .ok (.iconst 1, 1) := by decide +kernel
theorem dM_evaluate_143 : decode cM_evaluate 143 = .ok (.iadd, 1) := by decide +kernel
theorem dM_evaluate_144 : decode cM_evaluate 144 = .ok (.iaload, 1) := by decide +kernel
theorem dM_evaluate_145 : decode cM_evaluate 145 = .ok (.invokevirtual 79, 3) := by decide +kernel
theorem dM_evaluate_148 : decode cM_evaluate 148 = .ok (.istore 5, 2) := by decide +kernel
theorem dM_evaluate_150 : decode cM_evaluate 150 = .ok (.aload_n 0, 1) := by decide +kernel
theorem dM_evaluate_151 : decode cM_evaluate 151 = .ok (.aload_n 0, 1) := by decide +kernel
theorem dM_evaluate_152 : decode cM_evaluate 152 = .ok (.getfield 25, 3) := by decide +kernel
theorem dM_evaluate_155 : decode cM_evaluate 155 = .ok (.iconst 3, 1) := by decide +kernel
theorem dM_evaluate_156 : decode cM_evaluate 156 = .ok (.iload 4, 2) := by decide +kernel
theorem dM_evaluate_158 : decode cM_evaluate 158 = .ok (.imul, 1) := by decide +kernel
theorem dM_evaluate_159 : decode cM_evaluate 159 = .ok (.iconst 2, 1) := by decide +kernel
theorem dM_evaluate_160 : decode cM_evaluate 160 = .ok (.iadd, 1) := by decide +kernel
theorem dM_evaluate_161 : decode cM_evaluate 161 = .ok (.iaload, 1) := by decide +kernel
theorem dM_evaluate_162 : decode cM_evaluate 162 = .ok (.invokevirtual 79, 3) := by decide +kernel
theorem dM_evaluate_165 : decode cM_evaluate 165 = .ok (.istore 6, 2) := by decide +kernel
theorem dM_evaluate_167 : decode cM_evaluate 167 = .ok (.aload_n 0, 1) := by decide +kernel
theorem dM_evaluate_168 : decode cM_evaluate 168 = .ok (.getfield 41, 3) := by decide +kernel
theorem dM_evaluate_171 : decode cM_evaluate 171 = .ok (.iload_n 3, 1) := by decide +kernel
theorem dM_evaluate_172 : decode cM_evaluate 172 = .ok (.iload 5, 2) := by decide +kernel
theorem dM_evaluate_174 : decode cM_evaluate 174 = .ok (.ifCond .eq 12, 3) := by decide +kernel
theorem dM_evaluate_177 : decode cM_evaluate 177 = .ok (.iload 6, 2) := by decide +kernel
theorem dM_evaluate_179 : decode cM_evaluate 179 = .ok (.ifCond .eq 7, 3) := by decide +kernel
theorem dM_evaluate_182 : decode cM_evaluate 182 = .ok (.iconst 1, 1) := by decide +kernel
theorem dM_evaluate_183 : decode cM_evaluate 183 = .ok (.goto 4, 3) := by decide +kernel
theorem dM_evaluate_186 : decode cM_evaluate 186 = .ok (.iconst 0, 1) := by decide +kernel
theorem dM_evaluate_187 : decode cM_evaluate 187 = .ok (.bastore, 1) := by decide +kernel
theorem dM_evaluate_188 : decode cM_evaluate 188 = .ok (.iinc 4 1, 3) := by decide +kernel
theorem dM_evaluate_191 : decode cM_evaluate 191 = .ok (.goto (-84), 3) := by decide +kernel
theorem dM_evaluate_194 : decode cM_evaluate 194 = .ok (.iinc 3 1, 3) := by decide +kernel
theorem dM_evaluate_197 : decode cM_evaluate 197 = .ok (.goto (-103), 3) := by decide +kernel
theorem dM_evaluate_200 : decode cM_evaluate 200 = .ok (.return_, 1) := by decide +kernel
theorem dM_literal_0 : decode cM_literal 0 = .ok (.iload_n 1, 1) := by decide +kernel
theorem dM_literal_1 : decode cM_literal 1 = .ok (.iconst 2, 1) := by decide +kernel
theorem dM_literal_2 : decode cM_literal 2 = .ok (.if_icmp .lt 18, 3) := by decide +kernel
theorem dM_literal_5 : decode cM_literal 5 = .ok (.aload_n 0, 1) := by decide +kernel
theorem dM_literal_6 : decode cM_literal 6 = .ok (.getfield 41, 3) := by decide +kernel
theorem dM_literal_9 : decode cM_literal 9 = .ok (.iload_n 1, 1) := by decide +kernel
theorem dM_literal_10 : decode cM_literal 10 = .ok (.iconst 2, 1) := by decide +kernel
theorem dM_literal_11 : decode cM_literal 11 = .ok (.idiv, 1) := by decide +kernel
theorem dM_literal_12 : decode cM_literal 12 = .ok (.baload, 1) := by decide +kernel
theorem dM_literal_13 : decode cM_literal 13 = .ok (.ifCond .eq 7, 3) := by decide +kernel
theorem dM_literal_16 : decode cM_literal 16 = .ok (.iconst 1, 1) := by decide +kernel
theorem dM_literal_17 : decode cM_literal 17 = .ok (.goto 4, 3) := by decide +kernel
theorem dM_literal_20 : decode cM_literal 20 = .ok (.iconst 0, 1) := by decide +kernel
theorem dM_literal_21 : decode cM_literal 21 = .ok (.istore_n 2, 1) := by decide +kernel
theorem dM_literal_22 : decode cM_literal 22 = .ok (.iload_n 2, 1) := by decide +kernel
theorem dM_literal_23 : decode cM_literal 23 = .ok (.iload_n 1, 1) := by decide +kernel
theorem dM_literal_24 : decode cM_literal 24 = .ok (.iconst 2, 1) := by decide +kernel
theorem dM_literal_25 : decode cM_literal 25 = .ok (.irem, 1) := by decide +kernel
theorem dM_literal_26 : decode cM_literal 26 = .ok (.iconst 1, 1) := by decide +kernel
theorem dM_literal_27 : decode cM_literal 27 = .ok (.if_icmp .ne 7, 3) := by decide +kernel
theorem dM_literal_30 : decode cM_literal 30 = .ok (.iconst 1, 1) := by decide +kernel
theorem dM_literal_31 : decode cM_literal 31 = .ok (.goto 4, 3) := by decide +kernel
theorem dM_literal_34 : decode cM_literal 34 = .ok (.iconst 0, 1) := by decide +kernel
theorem dM_literal_35 : decode cM_literal 35 = .ok (.if_icmp .eq 7, 3) := by decide +kernel
theorem dM_literal_38 : decode cM_literal 38 = .ok (.iconst 1, 1) := by decide +kernel
theorem dM_literal_39 : decode cM_literal 39 = .ok (.goto 4, 3) := by decide +kernel
theorem dM_literal_42 : decode cM_literal 42 = .ok (.iconst 0, 1) := by decide +kernel
theorem dM_literal_43 : decode cM_literal 43 = .ok (.ireturn, 1) := by decide +kernel
theorem dM_circuit_0 : decode cM_circuit 0 = .ok (.aload_n 0, 1) := by decide +kernel
theorem dM_circuit_1 : decode cM_circuit 1 = .ok (.aload_n 0, 1) := by decide +kernel
theorem dM_circuit_2 : decode cM_circuit 2 = .ok (.getfield 98, 3) := by decide +kernel
theorem dM_circuit_5 : decode cM_circuit 5 = .ok (.ifCond .eq 7, 3) := by decide +kernel
theorem dM_circuit_8 : decode cM_circuit 8 = .ok (.iconst 0, 1) := by decide +kernel
theorem dM_circuit_9 : decode cM_circuit 9 = .ok (.goto 4, 3) := by decide +kernel
theorem dM_circuit_12 : decode cM_circuit 12 = .ok (.iconst 1, 1) := by decide +kernel
theorem dM_circuit_13 : decode cM_circuit 13 = .ok (.putfield 44, 3) := by decide +kernel
theorem dM_circuit_16 : decode cM_circuit 16 = .ok (.aload_n 0, 1) := by decide +kernel
theorem dM_circuit_17 : decode cM_circuit 17 = .ok (.getfield 98, 3) := by decide +kernel
theorem dM_circuit_20 : decode cM_circuit 20 = .ok (.ifCond .ne 7, 3) := by decide +kernel
theorem dM_circuit_23 : decode cM_circuit 23 = .ok (.iconst 0, 1) := by decide +kernel
theorem dM_circuit_24 : decode cM_circuit 24 = .ok (.goto 34, 3) := by decide +kernel
theorem dM_circuit_27 : decode cM_circuit 27 = .ok (.iload_n 1, 1) := by decide +kernel
theorem dM_circuit_28 : decode cM_circuit 28 = .ok (.ifCond .lt 17, 3) := by decide +kernel
theorem dM_circuit_31 : decode cM_circuit 31 = .ok (.iload_n 1, 1) := by decide +kernel
theorem dM_circuit_32 : decode cM_circuit 32 = .ok (.iconst 5, 1) := by decide +kernel
theorem dM_circuit_33 : decode cM_circuit 33 = .ok (.if_icmp .ge 12, 3) := by decide +kernel
theorem dM_circuit_36 : decode cM_circuit 36 = .ok (.aload_n 0, 1) := by decide +kernel
theorem dM_circuit_37 : decode cM_circuit 37 = .ok (.getfield 32, 3) := by decide +kernel
theorem dM_circuit_40 : decode cM_circuit 40 = .ok (.iload_n 1, 1) := by decide +kernel
theorem dM_circuit_41 : decode cM_circuit 41 = .ok (.iaload, 1) := by decide +kernel
theorem dM_circuit_42 : decode cM_circuit 42 = .ok (.goto 16, 3) := by decide +kernel
theorem dM_circuit_45 : decode cM_circuit 45 = .ok (.iload_n 1, 1) := by decide +kernel
theorem dM_circuit_46 : decode cM_circuit 46 = .ok (.iconst 5, 1) := by decide +kernel
theorem dM_circuit_47 : decode cM_circuit 47 = .ok (.if_icmp .ne 10, 3) := by decide +kernel
theorem dM_circuit_50 : decode cM_circuit 50 = .ok (.aload_n 0, 1) := by decide +kernel
theorem dM_circuit_51 : decode cM_circuit 51 = .ok (.getfield 91, 3) := by decide +kernel
theorem dM_circuit_54 : decode cM_circuit 54 = .ok (.goto 4, 3) := by decide +kernel
theorem dM_circuit_57 : decode cM_circuit 57 = .ok (.iconst (-1), 1) := by decide +kernel
theorem dM_circuit_58 : decode cM_circuit 58 = .ok (.ireturn, 1) := by decide +kernel
theorem dM_go_0 : decode cM_go 0 = .ok (.aload_n 0, 1) := by decide +kernel
theorem dM_go_1 : decode cM_go 1 = .ok (.aload_n 0, 1) := by decide +kernel
theorem dM_go_2 : decode cM_go 2 = .ok (.getfield 98, 3) := by decide +kernel
theorem dM_go_5 : decode cM_go 5 = .ok (.ifCond .ne 7, 3) := by decide +kernel
theorem dM_go_8 : decode cM_go 8 = .ok (.iconst 1, 1) := by decide +kernel
theorem dM_go_9 : decode cM_go 9 = .ok (.goto 17, 3) := by decide +kernel
theorem dM_go_12 : decode cM_go 12 = .ok (.aload_n 0, 1) := by decide +kernel
theorem dM_go_13 : decode cM_go 13 = .ok (.iload_n 1, 1) := by decide +kernel
theorem dM_go_14 : decode cM_go 14 = .ok (.iload_n 2, 1) := by decide +kernel
theorem dM_go_15 : decode cM_go 15 = .ok (.invokevirtual 102, 3) := by decide +kernel
theorem dM_go_18 : decode cM_go 18 = .ok (.ifCond .ne 7, 3) := by decide +kernel
theorem dM_go_21 : decode cM_go 21 = .ok (.iconst 2, 1) := by decide +kernel
theorem dM_go_22 : decode cM_go 22 = .ok (.goto 4, 3) := by decide +kernel
theorem dM_go_25 : decode cM_go 25 = .ok (.iconst 0, 1) := by decide +kernel
theorem dM_go_26 : decode cM_go 26 = .ok (.putfield 44, 3) := by decide +kernel
theorem dM_go_29 : decode cM_go 29 = .ok (.aload_n 0, 1) := by decide +kernel
theorem dM_go_30 : decode cM_go 30 = .ok (.getfield 44, 3) := by decide +kernel
theorem dM_go_33 : decode cM_go 33 = .ok (.ifCond .le 7, 3) := by decide +kernel
theorem dM_go_36 : decode cM_go 36 = .ok (.iconst 0, 1) := by decide +kernel
theorem dM_go_37 : decode cM_go 37 = .ok (.goto 14, 3) := by decide +kernel
theorem dM_go_40 : decode cM_go 40 = .ok (.aload_n 0, 1) := by decide +kernel
theorem dM_go_41 : decode cM_go 41 = .ok (.getfield 35, 3) := by decide +kernel
theorem dM_go_44 : decode cM_go 44 = .ok (.bipush 8, 2) := by decide +kernel
theorem dM_go_46 : decode cM_go 46 = .ok (.iload_n 1, 1) := by decide +kernel
theorem dM_go_47 : decode cM_go 47 = .ok (.imul, 1) := by decide +kernel
theorem dM_go_48 : decode cM_go 48 = .ok (.iload_n 2, 1) := by decide +kernel
theorem dM_go_49 : decode cM_go 49 = .ok (.iadd, 1) := by decide +kernel
theorem dM_go_50 : decode cM_go 50 = .ok (.iaload, 1) := by decide +kernel
theorem dM_go_51 : decode cM_go 51 = .ok (.ireturn, 1) := by decide +kernel
theorem dM_isPlace_0 : decode cM_isPlace 0 = .ok (.iload_n 1, 1) := by decide +kernel
theorem dM_isPlace_1 : decode cM_isPlace 1 = .ok (.ifCond .lt 27, 3) := by decide +kernel
theorem dM_isPlace_4 : decode cM_isPlace 4 = .ok (.iload_n 1, 1) := by decide +kernel
theorem dM_isPlace_5 : decode cM_isPlace 5 = .ok (.aload_n 0, 1) := by decide +kernel
theorem dM_isPlace_6 : decode cM_isPlace 6 = .ok (.getfield 85, 3) := by decide +kernel
theorem dM_isPlace_9 : decode cM_isPlace 9 = .ok (.if_icmp .ge 19, 3) := by decide +kernel
theorem dM_isPlace_12 : decode cM_isPlace 12 = .ok (.iload_n 2, 1) := by decide +kernel
theorem dM_isPlace_13 : decode cM_isPlace 13 = .ok (.ifCond .lt 15, 3) := by decide +kernel
theorem dM_isPlace_16 : decode cM_isPlace 16 = .ok (.iload_n 2, 1) := by decide +kernel
theorem dM_isPlace_17 : decode cM_isPlace 17 = .ok (.aload_n 0, 1) := by decide +kernel
theorem dM_isPlace_18 : decode cM_isPlace 18 = .ok (.getfield 88, 3) := by decide +kernel
theorem dM_isPlace_21 : decode cM_isPlace 21 = .ok (.if_icmp .ge 7, 3) := by decide +kernel
theorem dM_isPlace_24 : decode cM_isPlace 24 = .ok (.iconst 1, 1) := by decide +kernel
theorem dM_isPlace_25 : decode cM_isPlace 25 = .ok (.goto 4, 3) := by decide +kernel
theorem dM_isPlace_28 : decode cM_isPlace 28 = .ok (.iconst 0, 1) := by decide +kernel
theorem dM_isPlace_29 : decode cM_isPlace 29 = .ok (.ireturn, 1) := by decide +kernel
theorem dM_output_0 : decode cM_output 0 = .ok (.aload_n 0, 1) := by decide +kernel
theorem dM_output_1 : decode cM_output 1 = .ok (.aload_n 0, 1) := by decide +kernel
theorem dM_output_2 : decode cM_output 2 = .ok (.getfield 98, 3) := by decide +kernel
theorem dM_output_5 : decode cM_output 5 = .ok (.ifCond .ne 7, 3) := by decide +kernel
theorem dM_output_8 : decode cM_output 8 = .ok (.iconst 1, 1) := by decide +kernel
theorem dM_output_9 : decode cM_output 9 = .ok (.goto 17, 3) := by decide +kernel
theorem dM_output_12 : decode cM_output 12 = .ok (.aload_n 0, 1) := by decide +kernel
theorem dM_output_13 : decode cM_output 13 = .ok (.iload_n 1, 1) := by decide +kernel
theorem dM_output_14 : decode cM_output 14 = .ok (.iload_n 2, 1) := by decide +kernel
theorem dM_output_15 : decode cM_output 15 = .ok (.invokevirtual 102, 3) := by decide +kernel
theorem dM_output_18 : decode cM_output 18 = .ok (.ifCond .ne 7, 3) := by decide +kernel
theorem dM_output_21 : decode cM_output 21 = .ok (.iconst 2, 1) := by decide +kernel
theorem dM_output_22 : decode cM_output 22 = .ok (.goto 4, 3) := by decide +kernel
theorem dM_output_25 : decode cM_output 25 = .ok (.iconst 0, 1) := by decide +kernel
theorem dM_output_26 : decode cM_output 26 = .ok (.putfield 44, 3) := by decide +kernel
theorem dM_output_29 : decode cM_output 29 = .ok (.aload_n 0, 1) := by decide +kernel
theorem dM_output_30 : decode cM_output 30 = .ok (.getfield 44, 3) := by decide +kernel
theorem dM_output_33 : decode cM_output 33 = .ok (.ifCond .ne 32, 3) := by decide +kernel
theorem dM_output_36 : decode cM_output 36 = .ok (.aload_n 0, 1) := by decide +kernel
theorem dM_output_37 : decode cM_output 37 = .ok (.getfield 38, 3) := by decide +kernel
theorem dM_output_40 : decode cM_output 40 = .ok (.aload_n 0, 1) := by decide +kernel
theorem dM_output_41 : decode cM_output 41 = .ok (.getfield 44, 3) := by decide +kernel
theorem dM_output_44 : decode cM_output 44 = .ok (.ifCond .ne 12, 3) := by decide +kernel
theorem dM_output_47 : decode cM_output 47 = .ok (.bipush 8, 2) := by decide +kernel
theorem dM_output_49 : decode cM_output 49 = .ok (.iload_n 1, 1) := by decide +kernel
theorem dM_output_50 : decode cM_output 50 = .ok (.imul, 1) := by decide +kernel
theorem dM_output_51 : decode cM_output 51 = .ok (.iload_n 2, 1) := by decide +kernel
theorem dM_output_52 : decode cM_output 52 = .ok (.iadd, 1) := by decide +kernel
theorem dM_output_53 : decode cM_output 53 = .ok (.goto 4, 3) := by decide +kernel
theorem dM_output_56 : decode cM_output 56 = .ok (.iconst 0, 1) := by decide +kernel
theorem dM_output_57 : decode cM_output 57 = .ok (.baload, 1) := by decide +kernel
theorem dM_output_58 : decode cM_output 58 = .ok (.ifCond .eq 7, 3) := by decide +kernel
theorem dM_output_61 : decode cM_output 61 = .ok (.iconst 1, 1) := by decide +kernel
theorem dM_output_62 : decode cM_output 62 = .ok (.goto 4, 3) := by decide +kernel
theorem dM_output_65 : decode cM_output 65 = .ok (.iconst 0, 1) := by decide +kernel
theorem dM_output_66 : decode cM_output 66 = .ok (.ireturn, 1) := by decide +kernel
theorem dM_safe_0 : decode cM_safe 0 = .ok (.aload_n 0, 1) := by decide +kernel
theorem dM_safe_1 : decode cM_safe 1 = .ok (.aload_n 0, 1) := by decide +kernel
theorem dM_safe_2 : decode cM_safe 2 = .ok (.getfield 98, 3) := by decide +kernel
theorem dM_safe_5 : decode cM_safe 5 = .ok (.ifCond .eq 7, 3) := by decide +kernel
theorem dM_safe_8 : decode cM_safe 8 = .ok (.iconst 0, 1) := by decide +kernel
theorem dM_safe_9 : decode cM_safe 9 = .ok (.goto 4, 3) := by decide +kernel
theorem dM_safe_12 : decode cM_safe 12 = .ok (.iconst 1, 1) := by decide +kernel
theorem dM_safe_13 : decode cM_safe 13 = .ok (.putfield 44, 3) := by decide +kernel
theorem dM_safe_16 : decode cM_safe 16 = .ok (.aload_n 0, 1) := by decide +kernel
theorem dM_safe_17 : decode cM_safe 17 = .ok (.getfield 98, 3) := by decide +kernel
theorem dM_safe_20 : decode cM_safe 20 = .ok (.ifCond .eq 14, 3) := by decide +kernel
theorem dM_safe_23 : decode cM_safe 23 = .ok (.aload_n 0, 1) := by decide +kernel
theorem dM_safe_24 : decode cM_safe 24 = .ok (.invokevirtual 120, 3) := by decide +kernel
theorem dM_safe_27 : decode cM_safe 27 = .ok (.ifCond .eq 7, 3) := by decide +kernel
theorem dM_safe_30 : decode cM_safe 30 = .ok (.iconst 1, 1) := by decide +kernel
theorem dM_safe_31 : decode cM_safe 31 = .ok (.goto 4, 3) := by decide +kernel
theorem dM_safe_34 : decode cM_safe 34 = .ok (.iconst 0, 1) := by decide +kernel
theorem dM_safe_35 : decode cM_safe 35 = .ok (.ireturn, 1) := by decide +kernel
theorem dM_isSafe_0 : decode cM_isSafe 0 = .ok (.aload_n 0, 1) := by decide +kernel
theorem dM_isSafe_1 : decode cM_isSafe 1 = .ok (.invokevirtual 117, 3) := by decide +kernel
theorem dM_isSafe_4 : decode cM_isSafe 4 = .ok (.aload_n 0, 1) := by decide +kernel
theorem dM_isSafe_5 : decode cM_isSafe 5 = .ok (.invokevirtual 106, 3) := by decide +kernel
theorem dM_isSafe_8 : decode cM_isSafe 8 = .ok (.land, 1) := by decide +kernel
theorem dM_isSafe_9 : decode cM_isSafe 9 = .ok (.lconst 0, 1) := by decide +kernel
theorem dM_isSafe_10 : decode cM_isSafe 10 = .ok (.lcmp, 1) := by decide +kernel
theorem dM_isSafe_11 : decode cM_isSafe 11 = .ok (.ifCond .ne 7, 3) := by decide +kernel
theorem dM_isSafe_14 : decode cM_isSafe 14 = .ok (.iconst 1, 1) := by decide +kernel
theorem dM_isSafe_15 : decode cM_isSafe 15 = .ok (.goto 4, 3) := by decide +kernel
theorem dM_isSafe_18 : decode cM_isSafe 18 = .ok (.iconst 0, 1) := by decide +kernel
theorem dM_isSafe_19 : decode cM_isSafe 19 = .ok (.ireturn, 1) := by decide +kernel
theorem dM_reached_0 : decode cM_reached 0 = .ok (.lconst 1, 1) := by decide +kernel
theorem dM_reached_1 : decode cM_reached 1 = .ok (.aload_n 0, 1) := by decide +kernel
theorem dM_reached_2 : decode cM_reached 2 = .ok (.getfield 91, 3) := by decide +kernel
theorem dM_reached_5 : decode cM_reached 5 = .ok (.lshl, 1) := by decide +kernel
theorem dM_reached_6 : decode cM_reached 6 = .ok (.lstore_n 1, 1) := by decide +kernel
theorem dM_reached_7 : decode cM_reached 7 = .ok (.iconst 0, 1) := by decide +kernel
theorem dM_reached_8 : decode cM_reached 8 = .ok (.istore_n 3, 1) := by decide +kernel
theorem dM_reached_9 : decode cM_reached 9 = .ok (.iload_n 3, 1) := by decide +kernel
theorem dM_reached_10 : decode cM_reached 10 = .ok (.bipush 64, 2) := by decide +kernel
theorem dM_reached_12 : decode cM_reached 12 = .ok (.if_icmp .ge 17, 3) := by decide +kernel
theorem dM_reached_15 : decode cM_reached 15 = .ok (.lload_n 1, 1) := by decide +kernel
theorem dM_reached_16 : decode cM_reached 16 = .ok (.aload_n 0, 1) := by decide +kernel
theorem dM_reached_17 : decode cM_reached 17 = .ok (.lload_n 1, 1) := by decide +kernel
theorem dM_reached_18 : decode cM_reached 18 = .ok (.invokevirtual 114, 3) := by decide +kernel
theorem dM_reached_21 : decode cM_reached 21 = .ok (.lor, 1) := by decide +kernel
theorem dM_reached_22 : decode cM_reached 22 = .ok (.lstore_n 1, 1) := by decide +kernel
theorem dM_reached_23 : decode cM_reached 23 = .ok (.iinc 3 1, 3) := by decide +kernel
theorem dM_reached_26 : decode cM_reached 26 = .ok (.goto (-17), 3) := by decide +kernel
theorem dM_reached_29 : decode cM_reached 29 = .ok (.lload_n 1, 1) := by decide +kernel
theorem dM_reached_30 : decode cM_reached 30 = .ok (.lreturn, 1) := by decide +kernel
theorem dM_post_0 : decode cM_post 0 = .ok (.lconst 0, 1) := by decide +kernel
theorem dM_post_1 : decode cM_post 1 = .ok (.lstore_n 3, 1) := by decide +kernel
theorem dM_post_2 : decode cM_post 2 = .ok (.iconst 0, 1) := by decide +kernel
theorem dM_post_3 : decode cM_post 3 = .ok (.istore 5, 2) := by decide +kernel
theorem dM_post_5 : decode cM_post 5 = .ok (.iload 5, 2) := by decide +kernel
theorem dM_post_7 : decode cM_post 7 = .ok (.aload_n 0, 1) := by decide +kernel
theorem dM_post_8 : decode cM_post 8 = .ok (.getfield 85, 3) := by decide +kernel
theorem dM_post_11 : decode cM_post 11 = .ok (.if_icmp .ge 56, 3) := by decide +kernel
theorem dM_post_14 : decode cM_post 14 = .ok (.iconst 0, 1) := by decide +kernel
theorem dM_post_15 : decode cM_post 15 = .ok (.istore 6, 2) := by decide +kernel
theorem dM_post_17 : decode cM_post 17 = .ok (.iload 6, 2) := by decide +kernel
theorem dM_post_19 : decode cM_post 19 = .ok (.aload_n 0, 1) := by decide +kernel
theorem dM_post_20 : decode cM_post 20 = .ok (.getfield 88, 3) := by decide +kernel
theorem dM_post_23 : decode cM_post 23 = .ok (.if_icmp .ge 38, 3) := by decide +kernel
theorem dM_post_26 : decode cM_post 26 = .ok (.lload_n 1, 1) := by decide +kernel
theorem dM_post_27 : decode cM_post 27 = .ok (.iload 5, 2) := by decide +kernel
theorem dM_post_29 : decode cM_post 29 = .ok (.lshr, 1) := by decide +kernel
theorem dM_post_30 : decode cM_post 30 = .ok (.lconst 1, 1) := by decide +kernel
theorem dM_post_31 : decode cM_post 31 = .ok (.land, 1) := by decide +kernel
theorem dM_post_32 : decode cM_post 32 = .ok (.lconst 1, 1) := by decide +kernel
theorem dM_post_33 : decode cM_post 33 = .ok (.lcmp, 1) := by decide +kernel
theorem dM_post_34 : decode cM_post 34 = .ok (.ifCond .ne 27, 3) := by decide +kernel
theorem dM_post_37 : decode cM_post 37 = .ok (.lload_n 3, 1) := by decide +kernel
theorem dM_post_38 : decode cM_post 38 = .ok (.lconst 1, 1) := by decide +kernel
theorem dM_post_39 : decode cM_post 39 = .ok (.aload_n 0, 1) := by decide +kernel
theorem dM_post_40 : decode cM_post 40 = .ok (.getfield 35, 3) := by decide +kernel
theorem dM_post_43 : decode cM_post 43 = .ok (.bipush 8, 2) := by decide +kernel
theorem dM_post_45 : decode cM_post 45 = .ok (.iload 5, 2) := by decide +kernel
theorem dM_post_47 : decode cM_post 47 = .ok (.imul, 1) := by decide +kernel
theorem dM_post_48 : decode cM_post 48 = .ok (.iload 6, 2) := by decide +kernel
theorem dM_post_50 : decode cM_post 50 = .ok (.iadd, 1) := by decide +kernel
theorem dM_post_51 : decode cM_post 51 = .ok (.iaload, 1) := by decide +kernel
theorem dM_post_52 : decode cM_post 52 = .ok (.lshl, 1) := by decide +kernel
theorem dM_post_53 : decode cM_post 53 = .ok (.lor, 1) := by decide +kernel
theorem dM_post_54 : decode cM_post 54 = .ok (.lstore_n 3, 1) := by decide +kernel
theorem dM_post_55 : decode cM_post 55 = .ok (.iinc 6 1, 3) := by decide +kernel
theorem dM_post_58 : decode cM_post 58 = .ok (.goto (-41), 3) := by decide +kernel
theorem dM_post_61 : decode cM_post 61 = .ok (.iinc 5 1, 3) := by decide +kernel
theorem dM_post_64 : decode cM_post 64 = .ok (.goto (-59), 3) := by decide +kernel
theorem dM_post_67 : decode cM_post 67 = .ok (.lload_n 3, 1) := by decide +kernel
theorem dM_post_68 : decode cM_post 68 = .ok (.lreturn, 1) := by decide +kernel
theorem dM_badSet_0 : decode cM_badSet 0 = .ok (.lconst 0, 1) := by decide +kernel
theorem dM_badSet_1 : decode cM_badSet 1 = .ok (.lstore_n 1, 1) := by decide +kernel
theorem dM_badSet_2 : decode cM_badSet 2 = .ok (.iconst 0, 1) := by decide +kernel
theorem dM_badSet_3 : decode cM_badSet 3 = .ok (.istore_n 3, 1) := by decide +kernel
theorem dM_badSet_4 : decode cM_badSet 4 = .ok (.iload_n 3, 1) := by decide +kernel
theorem dM_badSet_5 : decode cM_badSet 5 = .ok (.aload_n 0, 1) := by decide +kernel
theorem dM_badSet_6 : decode cM_badSet 6 = .ok (.getfield 85, 3) := by decide +kernel
theorem dM_badSet_9 : decode cM_badSet 9 = .ok (.if_icmp .ge 52, 3) := by decide +kernel
theorem dM_badSet_12 : decode cM_badSet 12 = .ok (.iconst 0, 1) := by decide +kernel
theorem dM_badSet_13 : decode cM_badSet 13 = .ok (.istore 4, 2) := by decide +kernel
theorem dM_badSet_15 : decode cM_badSet 15 = .ok (.iload 4, 2) := by decide +kernel
theorem dM_badSet_17 : decode cM_badSet 17 = .ok (.aload_n 0, 1) := by decide +kernel
theorem dM_badSet_18 : decode cM_badSet 18 = .ok (.getfield 88, 3) := by decide +kernel
theorem dM_badSet_21 : decode cM_badSet 21 = .ok (.if_icmp .ge 34, 3) := by decide +kernel
theorem dM_badSet_24 : decode cM_badSet 24 = .ok (.aload_n 0, 1) := by decide +kernel
theorem dM_badSet_25 : decode cM_badSet 25 = .ok (.getfield 38, 3) := by decide +kernel
theorem dM_badSet_28 : decode cM_badSet 28 = .ok (.bipush 8, 2) := by decide +kernel
theorem dM_badSet_30 : decode cM_badSet 30 = .ok (.iload_n 3, 1) := by decide +kernel
theorem dM_badSet_31 : decode cM_badSet 31 = .ok (.imul, 1) := by decide +kernel
theorem dM_badSet_32 : decode cM_badSet 32 = .ok (.iload 4, 2) := by decide +kernel
theorem dM_badSet_34 : decode cM_badSet 34 = .ok (.iadd, 1) := by decide +kernel
theorem dM_badSet_35 : decode cM_badSet 35 = .ok (.baload, 1) := by decide +kernel
theorem dM_badSet_36 : decode cM_badSet 36 = .ok (.ifCond .eq 11, 3) := by decide +kernel
theorem dM_badSet_39 : decode cM_badSet 39 = .ok (.lload_n 1, 1) := by decide +kernel
theorem dM_badSet_40 : decode cM_badSet 40 = .ok (.lconst 1, 1) := by decide +kernel
theorem dM_badSet_41 : decode cM_badSet 41 = .ok (.iload_n 3, 1) := by decide +kernel
theorem dM_badSet_42 : decode cM_badSet 42 = .ok (.lshl, 1) := by decide +kernel
theorem dM_badSet_43 : decode cM_badSet 43 = .ok (.lor, 1) := by decide +kernel
theorem dM_badSet_44 : decode cM_badSet 44 = .ok (.goto 4, 3) := by decide +kernel
theorem dM_badSet_47 : decode cM_badSet 47 = .ok (.lload_n 1, 1) := by decide +kernel
theorem dM_badSet_48 : decode cM_badSet 48 = .ok (.lstore_n 1, 1) := by decide +kernel
theorem dM_badSet_49 : decode cM_badSet 49 = .ok (.iinc 4 1, 3) := by decide +kernel
theorem dM_badSet_52 : decode cM_badSet 52 = .ok (.goto (-37), 3) := by decide +kernel
theorem dM_badSet_55 : decode cM_badSet 55 = .ok (.iinc 3 1, 3) := by decide +kernel
theorem dM_badSet_58 : decode cM_badSet 58 = .ok (.goto (-54), 3) := by decide +kernel
theorem dM_badSet_61 : decode cM_badSet 61 = .ok (.lload_n 1, 1) := by decide +kernel
theorem dM_badSet_62 : decode cM_badSet 62 = .ok (.lreturn, 1) := by decide +kernel
theorem dM_depth_0 : decode cM_depth 0 = .ok (.aload_n 0, 1) := by decide +kernel
theorem dM_depth_1 : decode cM_depth 1 = .ok (.aload_n 0, 1) := by decide +kernel
theorem dM_depth_2 : decode cM_depth 2 = .ok (.getfield 98, 3) := by decide +kernel
theorem dM_depth_5 : decode cM_depth 5 = .ok (.ifCond .eq 7, 3) := by decide +kernel
theorem dM_depth_8 : decode cM_depth 8 = .ok (.iconst 0, 1) := by decide +kernel
theorem dM_depth_9 : decode cM_depth 9 = .ok (.goto 4, 3) := by decide +kernel
theorem dM_depth_12 : decode cM_depth 12 = .ok (.iconst 1, 1) := by decide +kernel
theorem dM_depth_13 : decode cM_depth 13 = .ok (.putfield 44, 3) := by decide +kernel
theorem dM_depth_16 : decode cM_depth 16 = .ok (.aload_n 0, 1) := by decide +kernel
theorem dM_depth_17 : decode cM_depth 17 = .ok (.getfield 98, 3) := by decide +kernel
theorem dM_depth_20 : decode cM_depth 20 = .ok (.ifCond .ne 7, 3) := by decide +kernel
theorem dM_depth_23 : decode cM_depth 23 = .ok (.iconst 0, 1) := by decide +kernel
theorem dM_depth_24 : decode cM_depth 24 = .ok (.goto 22, 3) := by decide +kernel
theorem dM_depth_27 : decode cM_depth 27 = .ok (.aload_n 0, 1) := by decide +kernel
theorem dM_depth_28 : decode cM_depth 28 = .ok (.invokevirtual 120, 3) := by decide +kernel
theorem dM_depth_31 : decode cM_depth 31 = .ok (.ifCond .eq 7, 3) := by decide +kernel
theorem dM_depth_34 : decode cM_depth 34 = .ok (.iconst (-1), 1) := by decide +kernel
theorem dM_depth_35 : decode cM_depth 35 = .ok (.goto 11, 3) := by decide +kernel
theorem dM_depth_38 : decode cM_depth 38 = .ok (.aload_n 0, 1) := by decide +kernel
theorem dM_depth_39 : decode cM_depth 39 = .ok (.aload_n 0, 1) := by decide +kernel
theorem dM_depth_40 : decode cM_depth 40 = .ok (.getfield 91, 3) := by decide +kernel
theorem dM_depth_43 : decode cM_depth 43 = .ok (.invokevirtual 123, 3) := by decide +kernel
theorem dM_depth_46 : decode cM_depth 46 = .ok (.ireturn, 1) := by decide +kernel
theorem dM_distance_0 : decode cM_distance 0 = .ok (.aload_n 0, 1) := by decide +kernel
theorem dM_distance_1 : decode cM_distance 1 = .ok (.invokevirtual 106, 3) := by decide +kernel
theorem dM_distance_4 : decode cM_distance 4 = .ok (.lstore_n 2, 1) := by decide +kernel
theorem dM_distance_5 : decode cM_distance 5 = .ok (.iconst 0, 1) := by decide +kernel
theorem dM_distance_6 : decode cM_distance 6 = .ok (.istore 4, 2) := by decide +kernel
theorem dM_distance_8 : decode cM_distance 8 = .ok (.iload 4, 2) := by decide +kernel
theorem dM_distance_10 : decode cM_distance 10 = .ok (.bipush 64, 2) := by decide +kernel
theorem dM_distance_12 : decode cM_distance 12 = .ok (.if_icmp .ge 30, 3) := by decide +kernel
theorem dM_distance_15 : decode cM_distance 15 = .ok (.lload_n 2, 1) := by decide +kernel
theorem dM_distance_16 : decode cM_distance 16 = .ok (.iload_n 1, 1) := by decide +kernel
theorem dM_distance_17 : decode cM_distance 17 = .ok (.lshr, 1) := by decide +kernel
theorem dM_distance_18 : decode cM_distance 18 = .ok (.lconst 1, 1) := by decide +kernel
theorem dM_distance_19 : decode cM_distance 19 = .ok (.land, 1) := by decide +kernel
theorem dM_distance_20 : decode cM_distance 20 = .ok (.lconst 1, 1) := by decide +kernel
theorem dM_distance_21 : decode cM_distance 21 = .ok (.lcmp, 1) := by decide +kernel
theorem dM_distance_22 : decode cM_distance 22 = .ok (.ifCond .ne 6, 3) := by decide +kernel
theorem dM_distance_25 : decode cM_distance 25 = .ok (.iload 4, 2) := by decide +kernel
theorem dM_distance_27 : decode cM_distance 27 = .ok (.ireturn, 1) := by decide +kernel
theorem dM_distance_28 : decode cM_distance 28 = .ok (.lload_n 2, 1) := by decide +kernel
theorem dM_distance_29 : decode cM_distance 29 = .ok (.aload_n 0, 1) := by decide +kernel
theorem dM_distance_30 : decode cM_distance 30 = .ok (.lload_n 2, 1) := by decide +kernel
theorem dM_distance_31 : decode cM_distance 31 = .ok (.invokevirtual 110, 3) := by decide +kernel
theorem dM_distance_34 : decode cM_distance 34 = .ok (.lor, 1) := by decide +kernel
theorem dM_distance_35 : decode cM_distance 35 = .ok (.lstore_n 2, 1) := by decide +kernel
theorem dM_distance_36 : decode cM_distance 36 = .ok (.iinc 4 1, 3) := by decide +kernel
theorem dM_distance_39 : decode cM_distance 39 = .ok (.goto (-31), 3) := by decide +kernel
theorem dM_distance_42 : decode cM_distance 42 = .ok (.bipush 64, 2) := by decide +kernel
theorem dM_distance_44 : decode cM_distance 44 = .ok (.ireturn, 1) := by decide +kernel
theorem dM_pre_0 : decode cM_pre 0 = .ok (.lconst 0, 1) := by decide +kernel
theorem dM_pre_1 : decode cM_pre 1 = .ok (.lstore_n 3, 1) := by decide +kernel
theorem dM_pre_2 : decode cM_pre 2 = .ok (.iconst 0, 1) := by decide +kernel
theorem dM_pre_3 : decode cM_pre 3 = .ok (.istore 5, 2) := by decide +kernel
theorem dM_pre_5 : decode cM_pre 5 = .ok (.iload 5, 2) := by decide +kernel
theorem dM_pre_7 : decode cM_pre 7 = .ok (.aload_n 0, 1) := by decide +kernel
theorem dM_pre_8 : decode cM_pre 8 = .ok (.getfield 85, 3) := by decide +kernel
theorem dM_pre_11 : decode cM_pre 11 = .ok (.if_icmp .ge 60, 3) := by decide +kernel
theorem dM_pre_14 : decode cM_pre 14 = .ok (.iconst 0, 1) := by decide +kernel
theorem dM_pre_15 : decode cM_pre 15 = .ok (.istore 6, 2) := by decide +kernel
theorem dM_pre_17 : decode cM_pre 17 = .ok (.iload 6, 2) := by decide +kernel
theorem dM_pre_19 : decode cM_pre 19 = .ok (.aload_n 0, 1) := by decide +kernel
theorem dM_pre_20 : decode cM_pre 20 = .ok (.getfield 88, 3) := by decide +kernel
theorem dM_pre_23 : decode cM_pre 23 = .ok (.if_icmp .ge 42, 3) := by decide +kernel
theorem dM_pre_26 : decode cM_pre 26 = .ok (.lload_n 1, 1) := by decide +kernel
theorem dM_pre_27 : decode cM_pre 27 = .ok (.aload_n 0, 1) := by decide +kernel
theorem dM_pre_28 : decode cM_pre 28 = .ok (.getfield 35, 3) := by decide +kernel
theorem dM_pre_31 : decode cM_pre 31 = .ok (.bipush 8, 2) := by decide +kernel
theorem dM_pre_33 : decode cM_pre 33 = .ok (.iload 5, 2) := by decide +kernel
theorem dM_pre_35 : decode cM_pre 35 = .ok (.imul, 1) := by decide +kernel
theorem dM_pre_36 : decode cM_pre 36 = .ok (.iload 6, 2) := by decide +kernel
theorem dM_pre_38 : decode cM_pre 38 = .ok (.iadd, 1) := by decide +kernel
theorem dM_pre_39 : decode cM_pre 39 = .ok (.iaload, 1) := by decide +kernel
theorem dM_pre_40 : decode cM_pre 40 = .ok (.lshr, 1) := by decide +kernel
theorem dM_pre_41 : decode cM_pre 41 = .ok (.lconst 1, 1) := by decide +kernel
theorem dM_pre_42 : decode cM_pre 42 = .ok (.land, 1) := by decide +kernel
theorem dM_pre_43 : decode cM_pre 43 = .ok (.lconst 1, 1) := by decide +kernel
theorem dM_pre_44 : decode cM_pre 44 = .ok (.lcmp, 1) := by decide +kernel
theorem dM_pre_45 : decode cM_pre 45 = .ok (.ifCond .ne 12, 3) := by decide +kernel
theorem dM_pre_48 : decode cM_pre 48 = .ok (.lload_n 3, 1) := by decide +kernel
theorem dM_pre_49 : decode cM_pre 49 = .ok (.lconst 1, 1) := by decide +kernel
theorem dM_pre_50 : decode cM_pre 50 = .ok (.iload 5, 2) := by decide +kernel
theorem dM_pre_52 : decode cM_pre 52 = .ok (.lshl, 1) := by decide +kernel
theorem dM_pre_53 : decode cM_pre 53 = .ok (.lor, 1) := by decide +kernel
theorem dM_pre_54 : decode cM_pre 54 = .ok (.goto 4, 3) := by decide +kernel
theorem dM_pre_57 : decode cM_pre 57 = .ok (.lload_n 3, 1) := by decide +kernel
theorem dM_pre_58 : decode cM_pre 58 = .ok (.lstore_n 3, 1) := by decide +kernel
theorem dM_pre_59 : decode cM_pre 59 = .ok (.iinc 6 1, 3) := by decide +kernel
theorem dM_pre_62 : decode cM_pre 62 = .ok (.goto (-45), 3) := by decide +kernel
theorem dM_pre_65 : decode cM_pre 65 = .ok (.iinc 5 1, 3) := by decide +kernel
theorem dM_pre_68 : decode cM_pre 68 = .ok (.goto (-63), 3) := by decide +kernel
theorem dM_pre_71 : decode cM_pre 71 = .ok (.lload_n 3, 1) := by decide +kernel
theorem dM_pre_72 : decode cM_pre 72 = .ok (.lreturn, 1) := by decide +kernel
theorem dM_witness_0 : decode cM_witness 0 = .ok (.aload_n 0, 1) := by decide +kernel
theorem dM_witness_1 : decode cM_witness 1 = .ok (.aload_n 0, 1) := by decide +kernel
theorem dM_witness_2 : decode cM_witness 2 = .ok (.getfield 98, 3) := by decide +kernel
theorem dM_witness_5 : decode cM_witness 5 = .ok (.ifCond .eq 7, 3) := by decide +kernel
theorem dM_witness_8 : decode cM_witness 8 = .ok (.iconst 0, 1) := by decide +kernel
theorem dM_witness_9 : decode cM_witness 9 = .ok (.goto 4, 3) := by decide +kernel
theorem dM_witness_12 : decode cM_witness 12 = .ok (.iconst 1, 1) := by decide +kernel
theorem dM_witness_13 : decode cM_witness 13 = .ok (.putfield 44, 3) := by decide +kernel
theorem dM_witness_16 : decode cM_witness 16 = .ok (.aload_n 0, 1) := by decide +kernel
theorem dM_witness_17 : decode cM_witness 17 = .ok (.getfield 98, 3) := by decide +kernel
theorem dM_witness_20 : decode cM_witness 20 = .ok (.ifCond .ne 5, 3) := by decide +kernel
theorem dM_witness_23 : decode cM_witness 23 = .ok (.iconst 0, 1) := by decide +kernel
theorem dM_witness_24 : decode cM_witness 24 = .ok (.ireturn, 1) := by decide +kernel
theorem dM_witness_25 : decode cM_witness 25 = .ok (.aload_n 0, 1) := by decide +kernel
theorem dM_witness_26 : decode cM_witness 26 = .ok (.aload_n 0, 1) := by decide +kernel
theorem dM_witness_27 : decode cM_witness 27 = .ok (.getfield 91, 3) := by decide +kernel
theorem dM_witness_30 : decode cM_witness 30 = .ok (.invokevirtual 123, 3) := by decide +kernel
theorem dM_witness_33 : decode cM_witness 33 = .ok (.istore_n 2, 1) := by decide +kernel
theorem dM_witness_34 : decode cM_witness 34 = .ok (.iload_n 1, 1) := by decide +kernel
theorem dM_witness_35 : decode cM_witness 35 = .ok (.ifCond .lt 14, 3) := by decide +kernel
theorem dM_witness_38 : decode cM_witness 38 = .ok (.iload_n 1, 1) := by decide +kernel
theorem dM_witness_39 : decode cM_witness 39 = .ok (.iload_n 2, 1) := by decide +kernel
theorem dM_witness_40 : decode cM_witness 40 = .ok (.if_icmp .gt 9, 3) := by decide +kernel
theorem dM_witness_43 : decode cM_witness 43 = .ok (.iload_n 2, 1) := by decide +kernel
theorem dM_witness_44 : decode cM_witness 44 = .ok (.bipush 64, 2) := by decide +kernel
theorem dM_witness_46 : decode cM_witness 46 = .ok (.if_icmp .ne 5, 3) := by decide +kernel
theorem dM_witness_49 : decode cM_witness 49 = .ok (.iconst (-1), 1) := by decide +kernel
theorem dM_witness_50 : decode cM_witness 50 = .ok (.ireturn, 1) := by decide +kernel
theorem dM_witness_51 : decode cM_witness 51 = .ok (.aload_n 0, 1) := by decide +kernel
theorem dM_witness_52 : decode cM_witness 52 = .ok (.getfield 91, 3) := by decide +kernel
theorem dM_witness_55 : decode cM_witness 55 = .ok (.istore_n 3, 1) := by decide +kernel
theorem dM_witness_56 : decode cM_witness 56 = .ok (.iconst 0, 1) := by decide +kernel
theorem dM_witness_57 : decode cM_witness 57 = .ok (.istore 4, 2) := by decide +kernel
theorem dM_witness_59 : decode cM_witness 59 = .ok (.iconst 0, 1) := by decide +kernel
theorem dM_witness_60 : decode cM_witness 60 = .ok (.istore 5, 2) := by decide +kernel
theorem dM_witness_62 : decode cM_witness 62 = .ok (.iload 5, 2) := by decide +kernel
theorem dM_witness_64 : decode cM_witness 64 = .ok (.iload_n 1, 1) := by decide +kernel
theorem dM_witness_65 : decode cM_witness 65 = .ok (.if_icmp .gt 115, 3) := by decide +kernel
theorem dM_witness_68 : decode cM_witness 68 = .ok (.iconst (-1), 1) := by decide +kernel
theorem dM_witness_69 : decode cM_witness 69 = .ok (.istore 4, 2) := by decide +kernel
theorem dM_witness_71 : decode cM_witness 71 = .ok (.iconst 0, 1) := by decide +kernel
theorem dM_witness_72 : decode cM_witness 72 = .ok (.istore 6, 2) := by decide +kernel
theorem dM_witness_74 : decode cM_witness 74 = .ok (.iload 6, 2) := by decide +kernel
theorem dM_witness_76 : decode cM_witness 76 = .ok (.aload_n 0, 1) := by decide +kernel
theorem dM_witness_77 : decode cM_witness 77 = .ok (.getfield 88, 3) := by decide +kernel
theorem dM_witness_80 : decode cM_witness 80 = .ok (.if_icmp .ge 81, 3) := by decide +kernel
theorem dM_witness_83 : decode cM_witness 83 = .ok (.iload 4, 2) := by decide +kernel
theorem dM_witness_85 : decode cM_witness 85 = .ok (.ifCond .ge 76, 3) := by decide +kernel
theorem dM_witness_88 : decode cM_witness 88 = .ok (.iload 5, 2) := by decide +kernel
theorem dM_witness_90 : decode cM_witness 90 = .ok (.iload_n 2, 1) := by decide +kernel
theorem dM_witness_91 : decode cM_witness 91 = .ok (.if_icmp .ne 18, 3) := by decide +kernel
theorem dM_witness_94 : decode cM_witness 94 = .ok (.aload_n 0, 1) := by decide +kernel
theorem dM_witness_95 : decode cM_witness 95 = .ok (.getfield 38, 3) := by decide +kernel
theorem dM_witness_98 : decode cM_witness 98 = .ok (.bipush 8, 2) := by decide +kernel
theorem dM_witness_100 : decode cM_witness 100 = .ok (.iload_n 3, 1) := by decide +kernel
theorem dM_witness_101 : decode cM_witness 101 = .ok (.imul, 1) := by decide +kernel
theorem dM_witness_102 : decode cM_witness 102 = .ok (.iload 6, 2) := by decide +kernel
theorem dM_witness_104 : decode cM_witness 104 = .ok (.iadd, 1) := by decide +kernel
theorem dM_witness_105 : decode cM_witness 105 = .ok (.baload, 1) := by decide +kernel
theorem dM_witness_106 : decode cM_witness 106 = .ok (.goto 33, 3) := by decide +kernel
theorem dM_witness_109 : decode cM_witness 109 = .ok (.aload_n 0, 1) := by decide +kernel
theorem dM_witness_110 : decode cM_witness 110 = .ok (.aload_n 0, 1) := by decide +kernel
theorem dM_witness_111 : decode cM_witness 111 = .ok (.getfield 35, 3) := by decide +kernel
theorem dM_witness_114 : decode cM_witness 114 = .ok (.bipush 8, 2) := by decide +kernel
theorem dM_witness_116 : decode cM_witness 116 = .ok (.iload_n 3, 1) := by decide +kernel
theorem dM_witness_117 : decode cM_witness 117 = .ok (.imul, 1) := by decide +kernel
theorem dM_witness_118 : decode cM_witness 118 = .ok (.iload 6, 2) := by decide +kernel
theorem dM_witness_120 : decode cM_witness 120 = .ok (.iadd, 1) := by decide +kernel
theorem dM_witness_121 : decode cM_witness 121 = .ok (.iaload, 1) := by decide +kernel
theorem dM_witness_122 : decode cM_witness 122 = .ok (.invokevirtual 123, 3) := by decide +kernel
theorem dM_witness_125 : decode cM_witness 125 = .ok (.iload_n 2, 1) := by decide +kernel
theorem dM_witness_126 : decode cM_witness 126 = .ok (.iload 5, 2) := by decide +kernel
theorem dM_witness_128 : decode cM_witness 128 = .ok (.isub, 1) := by decide +kernel
theorem dM_witness_129 : decode cM_witness 129 = .ok (.iconst 1, 1) := by decide +kernel
theorem dM_witness_130 : decode cM_witness 130 = .ok (.isub, 1) := by decide +kernel
theorem dM_witness_131 : decode cM_witness 131 = .ok (.if_icmp .ne 7, 3) := by decide +kernel
theorem dM_witness_134 : decode cM_witness 134 = .ok (.iconst 1, 1) := by decide +kernel
theorem dM_witness_135 : decode cM_witness 135 = .ok (.goto 4, 3) := by decide +kernel
theorem dM_witness_138 : decode cM_witness 138 = .ok (.iconst 0, 1) := by decide +kernel
theorem dM_witness_139 : decode cM_witness 139 = .ok (.istore 7, 2) := by decide +kernel
theorem dM_witness_141 : decode cM_witness 141 = .ok (.iload 7, 2) := by decide +kernel
theorem dM_witness_143 : decode cM_witness 143 = .ok (.ifCond .eq 8, 3) := by decide +kernel
theorem dM_witness_146 : decode cM_witness 146 = .ok (.iload 6, 2) := by decide +kernel
theorem dM_witness_148 : decode cM_witness 148 = .ok (.goto 5, 3) := by decide +kernel
theorem dM_witness_151 : decode cM_witness 151 = .ok (.iload 4, 2) := by decide +kernel
theorem dM_witness_153 : decode cM_witness 153 = .ok (.istore 4, 2) := by decide +kernel
theorem dM_witness_155 : decode cM_witness 155 = .ok (.iinc 6 1, 3) := by decide +kernel
theorem dM_witness_158 : decode cM_witness 158 = .ok (.goto (-84), 3) := by decide +kernel
theorem dM_witness_161 : decode cM_witness 161 = .ok (.aload_n 0, 1) := by decide +kernel
theorem dM_witness_162 : decode cM_witness 162 = .ok (.getfield 35, 3) := by decide +kernel
theorem dM_witness_165 : decode cM_witness 165 = .ok (.bipush 8, 2) := by decide +kernel
theorem dM_witness_167 : decode cM_witness 167 = .ok (.iload_n 3, 1) := by decide +kernel
theorem dM_witness_168 : decode cM_witness 168 = .ok (.imul, 1) := by decide +kernel
theorem dM_witness_169 : decode cM_witness 169 = .ok (.iload 4, 2) := by decide +kernel
theorem dM_witness_171 : decode cM_witness 171 = .ok (.iadd, 1) := by decide +kernel
theorem dM_witness_172 : decode cM_witness 172 = .ok (.iaload, 1) := by decide +kernel
theorem dM_witness_173 : decode cM_witness 173 = .ok (.istore_n 3, 1) := by decide +kernel
theorem dM_witness_174 : decode cM_witness 174 = .ok (.iinc 5 1, 3) := by decide +kernel
theorem dM_witness_177 : decode cM_witness 177 = .ok (.goto (-115), 3) := by decide +kernel
theorem dM_witness_180 : decode cM_witness 180 = .ok (.iload 4, 2) := by decide +kernel
theorem dM_witness_182 : decode cM_witness 182 = .ok (.ireturn, 1) := by decide +kernel
theorem dM_bound_0 : decode cM_bound 0 = .ok (.aload_n 0, 1) := by decide +kernel
theorem dM_bound_1 : decode cM_bound 1 = .ok (.aload_n 0, 1) := by decide +kernel
theorem dM_bound_2 : decode cM_bound 2 = .ok (.getfield 98, 3) := by decide +kernel
theorem dM_bound_5 : decode cM_bound 5 = .ok (.ifCond .eq 7, 3) := by decide +kernel
theorem dM_bound_8 : decode cM_bound 8 = .ok (.iconst 0, 1) := by decide +kernel
theorem dM_bound_9 : decode cM_bound 9 = .ok (.goto 4, 3) := by decide +kernel
theorem dM_bound_12 : decode cM_bound 12 = .ok (.iconst 1, 1) := by decide +kernel
theorem dM_bound_13 : decode cM_bound 13 = .ok (.putfield 44, 3) := by decide +kernel
theorem dM_bound_16 : decode cM_bound 16 = .ok (.aload_n 0, 1) := by decide +kernel
theorem dM_bound_17 : decode cM_bound 17 = .ok (.getfield 98, 3) := by decide +kernel
theorem dM_bound_20 : decode cM_bound 20 = .ok (.ifCond .eq 10, 3) := by decide +kernel
theorem dM_bound_23 : decode cM_bound 23 = .ok (.aload_n 0, 1) := by decide +kernel
theorem dM_bound_24 : decode cM_bound 24 = .ok (.invokevirtual 120, 3) := by decide +kernel
theorem dM_bound_27 : decode cM_bound 27 = .ok (.ifCond .ne 16, 3) := by decide +kernel
theorem dM_bound_30 : decode cM_bound 30 = .ok (.aload_n 0, 1) := by decide +kernel
theorem dM_bound_31 : decode cM_bound 31 = .ok (.getfield 98, 3) := by decide +kernel
theorem dM_bound_34 : decode cM_bound 34 = .ok (.ifCond .eq 7, 3) := by decide +kernel
theorem dM_bound_37 : decode cM_bound 37 = .ok (.iconst (-1), 1) := by decide +kernel
theorem dM_bound_38 : decode cM_bound 38 = .ok (.goto 4, 3) := by decide +kernel
theorem dM_bound_41 : decode cM_bound 41 = .ok (.iconst 0, 1) := by decide +kernel
theorem dM_bound_42 : decode cM_bound 42 = .ok (.ireturn, 1) := by decide +kernel
theorem dM_bound_43 : decode cM_bound 43 = .ok (.aload_n 0, 1) := by decide +kernel
theorem dM_bound_44 : decode cM_bound 44 = .ok (.invokevirtual 143, 3) := by decide +kernel
theorem dM_bound_47 : decode cM_bound 47 = .ok (.lstore_n 1, 1) := by decide +kernel
theorem dM_bound_48 : decode cM_bound 48 = .ok (.aload_n 0, 1) := by decide +kernel
theorem dM_bound_49 : decode cM_bound 49 = .ok (.getfield 127, 3) := by decide +kernel
theorem dM_bound_52 : decode cM_bound 52 = .ok (.ireturn, 1) := by decide +kernel
theorem dM_prove_0 : decode cM_prove 0 = .ok (.lconst 1, 1) := by decide +kernel
theorem dM_prove_1 : decode cM_prove 1 = .ok (.aload_n 0, 1) := by decide +kernel
theorem dM_prove_2 : decode cM_prove 2 = .ok (.getfield 91, 3) := by decide +kernel
theorem dM_prove_5 : decode cM_prove 5 = .ok (.lshl, 1) := by decide +kernel
theorem dM_prove_6 : decode cM_prove 6 = .ok (.lstore_n 1, 1) := by decide +kernel
theorem dM_prove_7 : decode cM_prove 7 = .ok (.aload_n 0, 1) := by decide +kernel
theorem dM_prove_8 : decode cM_prove 8 = .ok (.iconst 1, 1) := by decide +kernel
theorem dM_prove_9 : decode cM_prove 9 = .ok (.putfield 127, 3) := by decide +kernel
theorem dM_prove_12 : decode cM_prove 12 = .ok (.aload_n 0, 1) := by decide +kernel
theorem dM_prove_13 : decode cM_prove 13 = .ok (.iconst 0, 1) := by decide +kernel
theorem dM_prove_14 : decode cM_prove 14 = .ok (.putfield 130, 3) := by decide +kernel
theorem dM_prove_17 : decode cM_prove 17 = .ok (.iconst 1, 1) := by decide +kernel
theorem dM_prove_18 : decode cM_prove 18 = .ok (.istore_n 3, 1) := by decide +kernel
theorem dM_prove_19 : decode cM_prove 19 = .ok (.iload_n 3, 1) := by decide +kernel
theorem dM_prove_20 : decode cM_prove 20 = .ok (.ifCond .eq 146, 3) := by decide +kernel
theorem dM_prove_23 : decode cM_prove 23 = .ok (.aload_n 0, 1) := by decide +kernel
theorem dM_prove_24 : decode cM_prove 24 = .ok (.getfield 130, 3) := by decide +kernel
theorem dM_prove_27 : decode cM_prove 27 = .ok (.sipush 10000, 3) := by decide +kernel
theorem dM_prove_30 : decode cM_prove 30 = .ok (.if_icmp .ge 136, 3) := by decide +kernel
theorem dM_prove_33 : decode cM_prove 33 = .ok (.aload_n 0, 1) := by decide +kernel
theorem dM_prove_34 : decode cM_prove 34 = .ok (.dup, 1) := by decide +kernel
theorem dM_prove_35 : decode cM_prove 35 = .ok (.getfield 130, 3) := by decide +kernel
theorem dM_prove_38 : decode cM_prove 38 = .ok (.iconst 1, 1) := by decide +kernel
theorem dM_prove_39 : decode cM_prove 39 = .ok (.iadd, 1) := by decide +kernel
theorem dM_prove_40 : decode cM_prove 40 = .ok (.putfield 130, 3) := by decide +kernel
theorem dM_prove_43 : decode cM_prove 43 = .ok (.aload_n 0, 1) := by decide +kernel
theorem dM_prove_44 : decode cM_prove 44 = .ok (.aload_n 0, 1) := by decide +kernel
theorem dM_prove_45 : decode cM_prove 45 = .ok (.getfield 127, 3) := by decide +kernel
theorem dM_prove_48 : decode cM_prove 48 = .ok (.invokevirtual 133, 3) := by decide +kernel
theorem dM_prove_51 : decode cM_prove 51 = .ok (.lstore 4, 2) := by decide +kernel
theorem dM_prove_53 : decode cM_prove 53 = .ok (.aload_n 0, 1) := by decide +kernel
theorem dM_prove_54 : decode cM_prove 54 = .ok (.lload_n 1, 1) := by decide +kernel
theorem dM_prove_55 : decode cM_prove 55 = .ok (.invokevirtual 114, 3) := by decide +kernel
theorem dM_prove_58 : decode cM_prove 58 = .ok (.lstore 6, 2) := by decide +kernel
theorem dM_prove_60 : decode cM_prove 60 = .ok (.lload 6, 2) := by decide +kernel
theorem dM_prove_62 : decode cM_prove 62 = .ok (.lload 4, 2) := by decide +kernel
theorem dM_prove_64 : decode cM_prove 64 = .ok (.land, 1) := by decide +kernel
theorem dM_prove_65 : decode cM_prove 65 = .ok (.lconst 0, 1) := by decide +kernel
theorem dM_prove_66 : decode cM_prove 66 = .ok (.lcmp, 1) := by decide +kernel
theorem dM_prove_67 : decode cM_prove 67 = .ok (.ifCond .eq 23, 3) := by decide +kernel
theorem dM_prove_70 : decode cM_prove 70 = .ok (.aload_n 0, 1) := by decide +kernel
theorem dM_prove_71 : decode cM_prove 71 = .ok (.dup, 1) := by decide +kernel
theorem dM_prove_72 : decode cM_prove 72 = .ok (.getfield 127, 3) := by decide +kernel
theorem dM_prove_75 : decode cM_prove 75 = .ok (.iconst 1, 1) := by decide +kernel
theorem dM_prove_76 : decode cM_prove 76 = .ok (.iadd, 1) := by decide +kernel
theorem dM_prove_77 : decode cM_prove 77 = .ok (.putfield 127, 3) := by decide +kernel
theorem dM_prove_80 : decode cM_prove 80 = .ok (.lconst 1, 1) := by decide +kernel
theorem dM_prove_81 : decode cM_prove 81 = .ok (.aload_n 0, 1) := by decide +kernel
theorem dM_prove_82 : decode cM_prove 82 = .ok (.getfield 91, 3) := by decide +kernel
theorem dM_prove_85 : decode cM_prove 85 = .ok (.lshl, 1) := by decide +kernel
theorem dM_prove_86 : decode cM_prove 86 = .ok (.lstore_n 1, 1) := by decide +kernel
theorem dM_prove_87 : decode cM_prove 87 = .ok (.goto 76, 3) := by decide +kernel
theorem dM_prove_90 : decode cM_prove 90 = .ok (.iconst 0, 1) := by decide +kernel
theorem dM_prove_91 : decode cM_prove 91 = .ok (.istore 8, 2) := by decide +kernel
theorem dM_prove_93 : decode cM_prove 93 = .ok (.iload 8, 2) := by decide +kernel
theorem dM_prove_95 : decode cM_prove 95 = .ok (.aload_n 0, 1) := by decide +kernel
theorem dM_prove_96 : decode cM_prove 96 = .ok (.getfield 32, 3) := by decide +kernel
theorem dM_prove_99 : decode cM_prove 99 = .ok (.iconst 2, 1) := by decide +kernel
theorem dM_prove_100 : decode cM_prove 100 = .ok (.iaload, 1) := by decide +kernel
theorem dM_prove_101 : decode cM_prove 101 = .ok (.if_icmp .ge 38, 3) := by decide +kernel
theorem dM_prove_104 : decode cM_prove 104 = .ok (.aload_n 0, 1) := by decide +kernel
theorem dM_prove_105 : decode cM_prove 105 = .ok (.lload 6, 2) := by decide +kernel
theorem dM_prove_107 : decode cM_prove 107 = .ok (.iload 8, 2) := by decide +kernel
theorem dM_prove_109 : decode cM_prove 109 = .ok (.invokevirtual 137, 3) := by decide +kernel
theorem dM_prove_112 : decode cM_prove 112 = .ok (.lstore 9, 2) := by decide +kernel
theorem dM_prove_114 : decode cM_prove 114 = .ok (.lload 9, 2) := by decide +kernel
theorem dM_prove_116 : decode cM_prove 116 = .ok (.lload 4, 2) := by decide +kernel
theorem dM_prove_118 : decode cM_prove 118 = .ok (.land, 1) := by decide +kernel
theorem dM_prove_119 : decode cM_prove 119 = .ok (.lconst 0, 1) := by decide +kernel
theorem dM_prove_120 : decode cM_prove 120 = .ok (.lcmp, 1) := by decide +kernel
theorem dM_prove_121 : decode cM_prove 121 = .ok (.ifCond .ne 8, 3) := by decide +kernel
theorem dM_prove_124 : decode cM_prove 124 = .ok (.lload 9, 2) := by decide +kernel
theorem dM_prove_126 : decode cM_prove 126 = .ok (.goto 5, 3) := by decide +kernel
theorem dM_prove_129 : decode cM_prove 129 = .ok (.lload 6, 2) := by decide +kernel
theorem dM_prove_131 : decode cM_prove 131 = .ok (.lstore 6, 2) := by decide +kernel
theorem dM_prove_133 : decode cM_prove 133 = .ok (.iinc 8 1, 3) := by decide +kernel
theorem dM_prove_136 : decode cM_prove 136 = .ok (.goto (-43), 3) := by decide +kernel
theorem dM_prove_139 : decode cM_prove 139 = .ok (.lload 6, 2) := by decide +kernel
theorem dM_prove_141 : decode cM_prove 141 = .ok (.lload_n 1, 1) := by decide +kernel
theorem dM_prove_142 : decode cM_prove 142 = .ok (.ldc2_w 141, 3) := by decide +kernel
theorem dM_prove_145 : decode cM_prove 145 = .ok (.lxor, 1) := by decide +kernel
theorem dM_prove_146 : decode cM_prove 146 = .ok (.land, 1) := by decide +kernel
theorem dM_prove_147 : decode cM_prove 147 = .ok (.lconst 0, 1) := by decide +kernel
theorem dM_prove_148 : decode cM_prove 148 = .ok (.lcmp, 1) := by decide +kernel
theorem dM_prove_149 : decode cM_prove 149 = .ok (.ifCond .eq 7, 3) := by decide +kernel
theorem dM_prove_152 : decode cM_prove 152 = .ok (.iconst 1, 1) := by decide +kernel
theorem dM_prove_153 : decode cM_prove 153 = .ok (.goto 4, 3) := by decide +kernel
theorem dM_prove_156 : decode cM_prove 156 = .ok (.iconst 0, 1) := by decide +kernel
theorem dM_prove_157 : decode cM_prove 157 = .ok (.istore_n 3, 1) := by decide +kernel
theorem dM_prove_158 : decode cM_prove 158 = .ok (.lload_n 1, 1) := by decide +kernel
theorem dM_prove_159 : decode cM_prove 159 = .ok (.lload 6, 2) := by decide +kernel
theorem dM_prove_161 : decode cM_prove 161 = .ok (.lor, 1) := by decide +kernel
theorem dM_prove_162 : decode cM_prove 162 = .ok (.lstore_n 1, 1) := by decide +kernel
theorem dM_prove_163 : decode cM_prove 163 = .ok (.goto (-144), 3) := by decide +kernel
theorem dM_prove_166 : decode cM_prove 166 = .ok (.lload_n 1, 1) := by decide +kernel
theorem dM_prove_167 : decode cM_prove 167 = .ok (.lreturn, 1) := by decide +kernel
theorem dM_near_0 : decode cM_near 0 = .ok (.aload_n 0, 1) := by decide +kernel
theorem dM_near_1 : decode cM_near 1 = .ok (.invokevirtual 106, 3) := by decide +kernel
theorem dM_near_4 : decode cM_near 4 = .ok (.lstore_n 2, 1) := by decide +kernel
theorem dM_near_5 : decode cM_near 5 = .ok (.iconst 1, 1) := by decide +kernel
theorem dM_near_6 : decode cM_near 6 = .ok (.istore 4, 2) := by decide +kernel
theorem dM_near_8 : decode cM_near 8 = .ok (.iload 4, 2) := by decide +kernel
theorem dM_near_10 : decode cM_near 10 = .ok (.iload_n 1, 1) := by decide +kernel
theorem dM_near_11 : decode cM_near 11 = .ok (.if_icmp .ge 17, 3) := by decide +kernel
theorem dM_near_14 : decode cM_near 14 = .ok (.lload_n 2, 1) := by decide +kernel
theorem dM_near_15 : decode cM_near 15 = .ok (.aload_n 0, 1) := by decide +kernel
theorem dM_near_16 : decode cM_near 16 = .ok (.lload_n 2, 1) := by decide +kernel
theorem dM_near_17 : decode cM_near 17 = .ok (.invokevirtual 110, 3) := by decide +kernel
theorem dM_near_20 : decode cM_near 20 = .ok (.lor, 1) := by decide +kernel
theorem dM_near_21 : decode cM_near 21 = .ok (.lstore_n 2, 1) := by decide +kernel
theorem dM_near_22 : decode cM_near 22 = .ok (.iinc 4 1, 3) := by decide +kernel
theorem dM_near_25 : decode cM_near 25 = .ok (.goto (-17), 3) := by decide +kernel
theorem dM_near_28 : decode cM_near 28 = .ok (.lload_n 2, 1) := by decide +kernel
theorem dM_near_29 : decode cM_near 29 = .ok (.lreturn, 1) := by decide +kernel
theorem dM_widen_0 : decode cM_widen 0 = .ok (.lload_n 1, 1) := by decide +kernel
theorem dM_widen_1 : decode cM_widen 1 = .ok (.lstore 4, 2) := by decide +kernel
theorem dM_widen_3 : decode cM_widen 3 = .ok (.iconst 0, 1) := by decide +kernel
theorem dM_widen_4 : decode cM_widen 4 = .ok (.istore 6, 2) := by decide +kernel
theorem dM_widen_6 : decode cM_widen 6 = .ok (.iload 6, 2) := by decide +kernel
theorem dM_widen_8 : decode cM_widen 8 = .ok (.aload_n 0, 1) := by decide +kernel
theorem dM_widen_9 : decode cM_widen 9 = .ok (.getfield 85, 3) := by decide +kernel
theorem dM_widen_12 : decode cM_widen 12 = .ok (.if_icmp .ge 38, 3) := by decide +kernel
theorem dM_widen_15 : decode cM_widen 15 = .ok (.lload_n 1, 1) := by decide +kernel
theorem dM_widen_16 : decode cM_widen 16 = .ok (.iload 6, 2) := by decide +kernel
theorem dM_widen_18 : decode cM_widen 18 = .ok (.lshr, 1) := by decide +kernel
theorem dM_widen_19 : decode cM_widen 19 = .ok (.lconst 1, 1) := by decide +kernel
theorem dM_widen_20 : decode cM_widen 20 = .ok (.land, 1) := by decide +kernel
theorem dM_widen_21 : decode cM_widen 21 = .ok (.lconst 1, 1) := by decide +kernel
theorem dM_widen_22 : decode cM_widen 22 = .ok (.lcmp, 1) := by decide +kernel
theorem dM_widen_23 : decode cM_widen 23 = .ok (.ifCond .ne 17, 3) := by decide +kernel
theorem dM_widen_26 : decode cM_widen 26 = .ok (.lload 4, 2) := by decide +kernel
theorem dM_widen_28 : decode cM_widen 28 = .ok (.lconst 1, 1) := by decide +kernel
theorem dM_widen_29 : decode cM_widen 29 = .ok (.iload 6, 2) := by decide +kernel
theorem dM_widen_31 : decode cM_widen 31 = .ok (.iconst 1, 1) := by decide +kernel
theorem dM_widen_32 : decode cM_widen 32 = .ok (.iload_n 3, 1) := by decide +kernel
theorem dM_widen_33 : decode cM_widen 33 = .ok (.ishl, 1) := by decide +kernel
theorem dM_widen_34 : decode cM_widen 34 = .ok (.ixor, 1) := by decide +kernel
theorem dM_widen_35 : decode cM_widen 35 = .ok (.lshl, 1) := by decide +kernel
theorem dM_widen_36 : decode cM_widen 36 = .ok (.lor, 1) := by decide +kernel
theorem dM_widen_37 : decode cM_widen 37 = .ok (.goto 5, 3) := by decide +kernel
theorem dM_widen_40 : decode cM_widen 40 = .ok (.lload 4, 2) := by decide +kernel
theorem dM_widen_42 : decode cM_widen 42 = .ok (.lstore 4, 2) := by decide +kernel
theorem dM_widen_44 : decode cM_widen 44 = .ok (.iinc 6 1, 3) := by decide +kernel
theorem dM_widen_47 : decode cM_widen 47 = .ok (.goto (-41), 3) := by decide +kernel
theorem dM_widen_50 : decode cM_widen 50 = .ok (.lload 4, 2) := by decide +kernel
theorem dM_widen_52 : decode cM_widen 52 = .ok (.lreturn, 1) := by decide +kernel
theorem dM_rounds_0 : decode cM_rounds 0 = .ok (.aload_n 0, 1) := by decide +kernel
theorem dM_rounds_1 : decode cM_rounds 1 = .ok (.aload_n 0, 1) := by decide +kernel
theorem dM_rounds_2 : decode cM_rounds 2 = .ok (.getfield 98, 3) := by decide +kernel
theorem dM_rounds_5 : decode cM_rounds 5 = .ok (.ifCond .eq 7, 3) := by decide +kernel
theorem dM_rounds_8 : decode cM_rounds 8 = .ok (.iconst 0, 1) := by decide +kernel
theorem dM_rounds_9 : decode cM_rounds 9 = .ok (.goto 4, 3) := by decide +kernel
theorem dM_rounds_12 : decode cM_rounds 12 = .ok (.iconst 1, 1) := by decide +kernel
theorem dM_rounds_13 : decode cM_rounds 13 = .ok (.putfield 44, 3) := by decide +kernel
theorem dM_rounds_16 : decode cM_rounds 16 = .ok (.aload_n 0, 1) := by decide +kernel
theorem dM_rounds_17 : decode cM_rounds 17 = .ok (.getfield 98, 3) := by decide +kernel
theorem dM_rounds_20 : decode cM_rounds 20 = .ok (.ifCond .eq 10, 3) := by decide +kernel
theorem dM_rounds_23 : decode cM_rounds 23 = .ok (.aload_n 0, 1) := by decide +kernel
theorem dM_rounds_24 : decode cM_rounds 24 = .ok (.invokevirtual 120, 3) := by decide +kernel
theorem dM_rounds_27 : decode cM_rounds 27 = .ok (.ifCond .ne 16, 3) := by decide +kernel
theorem dM_rounds_30 : decode cM_rounds 30 = .ok (.aload_n 0, 1) := by decide +kernel
theorem dM_rounds_31 : decode cM_rounds 31 = .ok (.getfield 98, 3) := by decide +kernel
theorem dM_rounds_34 : decode cM_rounds 34 = .ok (.ifCond .eq 7, 3) := by decide +kernel
theorem dM_rounds_37 : decode cM_rounds 37 = .ok (.iconst (-1), 1) := by decide +kernel
theorem dM_rounds_38 : decode cM_rounds 38 = .ok (.goto 4, 3) := by decide +kernel
theorem dM_rounds_41 : decode cM_rounds 41 = .ok (.iconst 0, 1) := by decide +kernel
theorem dM_rounds_42 : decode cM_rounds 42 = .ok (.ireturn, 1) := by decide +kernel
theorem dM_rounds_43 : decode cM_rounds 43 = .ok (.aload_n 0, 1) := by decide +kernel
theorem dM_rounds_44 : decode cM_rounds 44 = .ok (.invokevirtual 143, 3) := by decide +kernel
theorem dM_rounds_47 : decode cM_rounds 47 = .ok (.lstore_n 1, 1) := by decide +kernel
theorem dM_rounds_48 : decode cM_rounds 48 = .ok (.aload_n 0, 1) := by decide +kernel
theorem dM_rounds_49 : decode cM_rounds 49 = .ok (.getfield 130, 3) := by decide +kernel
theorem dM_rounds_52 : decode cM_rounds 52 = .ok (.ireturn, 1) := by decide +kernel
theorem dM_holds_0 : decode cM_holds 0 = .ok (.aload_n 0, 1) := by decide +kernel
theorem dM_holds_1 : decode cM_holds 1 = .ok (.aload_n 0, 1) := by decide +kernel
theorem dM_holds_2 : decode cM_holds 2 = .ok (.getfield 98, 3) := by decide +kernel
theorem dM_holds_5 : decode cM_holds 5 = .ok (.ifCond .eq 7, 3) := by decide +kernel
theorem dM_holds_8 : decode cM_holds 8 = .ok (.iconst 0, 1) := by decide +kernel
theorem dM_holds_9 : decode cM_holds 9 = .ok (.goto 4, 3) := by decide +kernel
theorem dM_holds_12 : decode cM_holds 12 = .ok (.iconst 1, 1) := by decide +kernel
theorem dM_holds_13 : decode cM_holds 13 = .ok (.putfield 44, 3) := by decide +kernel
theorem dM_holds_16 : decode cM_holds 16 = .ok (.aload_n 0, 1) := by decide +kernel
theorem dM_holds_17 : decode cM_holds 17 = .ok (.getfield 98, 3) := by decide +kernel
theorem dM_holds_20 : decode cM_holds 20 = .ok (.ifCond .eq 15, 3) := by decide +kernel
theorem dM_holds_23 : decode cM_holds 23 = .ok (.iload_n 1, 1) := by decide +kernel
theorem dM_holds_24 : decode cM_holds 24 = .ok (.ifCond .lt 11, 3) := by decide +kernel
theorem dM_holds_27 : decode cM_holds 27 = .ok (.iload_n 1, 1) := by decide +kernel
theorem dM_holds_28 : decode cM_holds 28 = .ok (.aload_n 0, 1) := by decide +kernel
theorem dM_holds_29 : decode cM_holds 29 = .ok (.getfield 85, 3) := by decide +kernel
theorem dM_holds_32 : decode cM_holds 32 = .ok (.if_icmp .lt 5, 3) := by decide +kernel
theorem dM_holds_35 : decode cM_holds 35 = .ok (.iconst 0, 1) := by decide +kernel
theorem dM_holds_36 : decode cM_holds 36 = .ok (.ireturn, 1) := by decide +kernel
theorem dM_holds_37 : decode cM_holds 37 = .ok (.aload_n 0, 1) := by decide +kernel
theorem dM_holds_38 : decode cM_holds 38 = .ok (.invokevirtual 120, 3) := by decide +kernel
theorem dM_holds_41 : decode cM_holds 41 = .ok (.ifCond .ne 5, 3) := by decide +kernel
theorem dM_holds_44 : decode cM_holds 44 = .ok (.iconst 0, 1) := by decide +kernel
theorem dM_holds_45 : decode cM_holds 45 = .ok (.ireturn, 1) := by decide +kernel
theorem dM_holds_46 : decode cM_holds 46 = .ok (.aload_n 0, 1) := by decide +kernel
theorem dM_holds_47 : decode cM_holds 47 = .ok (.invokevirtual 143, 3) := by decide +kernel
theorem dM_holds_50 : decode cM_holds 50 = .ok (.lstore_n 2, 1) := by decide +kernel
theorem dM_holds_51 : decode cM_holds 51 = .ok (.lload_n 2, 1) := by decide +kernel
theorem dM_holds_52 : decode cM_holds 52 = .ok (.iload_n 1, 1) := by decide +kernel
theorem dM_holds_53 : decode cM_holds 53 = .ok (.lshr, 1) := by decide +kernel
theorem dM_holds_54 : decode cM_holds 54 = .ok (.lconst 1, 1) := by decide +kernel
theorem dM_holds_55 : decode cM_holds 55 = .ok (.land, 1) := by decide +kernel
theorem dM_holds_56 : decode cM_holds 56 = .ok (.lconst 1, 1) := by decide +kernel
theorem dM_holds_57 : decode cM_holds 57 = .ok (.lcmp, 1) := by decide +kernel
theorem dM_holds_58 : decode cM_holds 58 = .ok (.ifCond .ne 7, 3) := by decide +kernel
theorem dM_holds_61 : decode cM_holds 61 = .ok (.iconst 1, 1) := by decide +kernel
theorem dM_holds_62 : decode cM_holds 62 = .ok (.goto 4, 3) := by decide +kernel
theorem dM_holds_65 : decode cM_holds 65 = .ok (.iconst 0, 1) := by decide +kernel
theorem dM_holds_66 : decode cM_holds 66 = .ok (.ireturn, 1) := by decide +kernel
theorem dM_count_0 : decode cM_count 0 = .ok (.aload_n 0, 1) := by decide +kernel
theorem dM_count_1 : decode cM_count 1 = .ok (.aload_n 0, 1) := by decide +kernel
theorem dM_count_2 : decode cM_count 2 = .ok (.getfield 98, 3) := by decide +kernel
theorem dM_count_5 : decode cM_count 5 = .ok (.ifCond .eq 7, 3) := by decide +kernel
theorem dM_count_8 : decode cM_count 8 = .ok (.iconst 0, 1) := by decide +kernel
theorem dM_count_9 : decode cM_count 9 = .ok (.goto 4, 3) := by decide +kernel
theorem dM_count_12 : decode cM_count 12 = .ok (.iconst 1, 1) := by decide +kernel
theorem dM_count_13 : decode cM_count 13 = .ok (.putfield 44, 3) := by decide +kernel
theorem dM_count_16 : decode cM_count 16 = .ok (.aload_n 0, 1) := by decide +kernel
theorem dM_count_17 : decode cM_count 17 = .ok (.getfield 98, 3) := by decide +kernel
theorem dM_count_20 : decode cM_count 20 = .ok (.ifCond .eq 11, 3) := by decide +kernel
theorem dM_count_23 : decode cM_count 23 = .ok (.aload_n 0, 1) := by decide +kernel
theorem dM_count_24 : decode cM_count 24 = .ok (.iload_n 1, 1) := by decide +kernel
theorem dM_count_25 : decode cM_count 25 = .ok (.invokevirtual 146, 3) := by decide +kernel
theorem dM_count_28 : decode cM_count 28 = .ok (.ifCond .ne 16, 3) := by decide +kernel
theorem dM_count_31 : decode cM_count 31 = .ok (.aload_n 0, 1) := by decide +kernel
theorem dM_count_32 : decode cM_count 32 = .ok (.getfield 98, 3) := by decide +kernel
theorem dM_count_35 : decode cM_count 35 = .ok (.ifCond .eq 7, 3) := by decide +kernel
theorem dM_count_38 : decode cM_count 38 = .ok (.iconst (-1), 1) := by decide +kernel
theorem dM_count_39 : decode cM_count 39 = .ok (.goto 4, 3) := by decide +kernel
theorem dM_count_42 : decode cM_count 42 = .ok (.iconst 0, 1) := by decide +kernel
theorem dM_count_43 : decode cM_count 43 = .ok (.ireturn, 1) := by decide +kernel
theorem dM_count_44 : decode cM_count 44 = .ok (.aload_n 0, 1) := by decide +kernel
theorem dM_count_45 : decode cM_count 45 = .ok (.iload_n 1, 1) := by decide +kernel
theorem dM_count_46 : decode cM_count 46 = .ok (.invokevirtual 149, 3) := by decide +kernel
theorem dM_count_49 : decode cM_count 49 = .ok (.lstore_n 2, 1) := by decide +kernel
theorem dM_count_50 : decode cM_count 50 = .ok (.iconst 0, 1) := by decide +kernel
theorem dM_count_51 : decode cM_count 51 = .ok (.istore 4, 2) := by decide +kernel
theorem dM_count_53 : decode cM_count 53 = .ok (.iconst 0, 1) := by decide +kernel
theorem dM_count_54 : decode cM_count 54 = .ok (.istore 5, 2) := by decide +kernel
theorem dM_count_56 : decode cM_count 56 = .ok (.iload 5, 2) := by decide +kernel
theorem dM_count_58 : decode cM_count 58 = .ok (.aload_n 0, 1) := by decide +kernel
theorem dM_count_59 : decode cM_count 59 = .ok (.getfield 85, 3) := by decide +kernel
theorem dM_count_62 : decode cM_count 62 = .ok (.if_icmp .ge 21, 3) := by decide +kernel
theorem dM_count_65 : decode cM_count 65 = .ok (.iload 4, 2) := by decide +kernel
theorem dM_count_67 : decode cM_count 67 = .ok (.lload_n 2, 1) := by decide +kernel
theorem dM_count_68 : decode cM_count 68 = .ok (.iload 5, 2) := by decide +kernel
theorem dM_count_70 : decode cM_count 70 = .ok (.lshr, 1) := by decide +kernel
theorem dM_count_71 : decode cM_count 71 = .ok (.l2i, 1) := by decide +kernel
theorem dM_count_72 : decode cM_count 72 = .ok (.iconst 1, 1) := by decide +kernel
theorem dM_count_73 : decode cM_count 73 = .ok (.iand, 1) := by decide +kernel
theorem dM_count_74 : decode cM_count 74 = .ok (.iadd, 1) := by decide +kernel
theorem dM_count_75 : decode cM_count 75 = .ok (.istore 4, 2) := by decide +kernel
theorem dM_count_77 : decode cM_count 77 = .ok (.iinc 5 1, 3) := by decide +kernel
theorem dM_count_80 : decode cM_count 80 = .ok (.goto (-24), 3) := by decide +kernel
theorem dM_count_83 : decode cM_count 83 = .ok (.iload 4, 2) := by decide +kernel
theorem dM_count_85 : decode cM_count 85 = .ok (.ireturn, 1) := by decide +kernel
theorem dM_isSet_0 : decode cM_isSet 0 = .ok (.iload_n 1, 1) := by decide +kernel
theorem dM_isSet_1 : decode cM_isSet 1 = .ok (.ifCond .lt 23, 3) := by decide +kernel
theorem dM_isSet_4 : decode cM_isSet 4 = .ok (.iload_n 1, 1) := by decide +kernel
theorem dM_isSet_5 : decode cM_isSet 5 = .ok (.iconst 4, 1) := by decide +kernel
theorem dM_isSet_6 : decode cM_isSet 6 = .ok (.if_icmp .ge 18, 3) := by decide +kernel
theorem dM_isSet_9 : decode cM_isSet 9 = .ok (.iload_n 1, 1) := by decide +kernel
theorem dM_isSet_10 : decode cM_isSet 10 = .ok (.ifCond .gt 10, 3) := by decide +kernel
theorem dM_isSet_13 : decode cM_isSet 13 = .ok (.aload_n 0, 1) := by decide +kernel
theorem dM_isSet_14 : decode cM_isSet 14 = .ok (.invokevirtual 120, 3) := by decide +kernel
theorem dM_isSet_17 : decode cM_isSet 17 = .ok (.ifCond .eq 7, 3) := by decide +kernel
theorem dM_isSet_20 : decode cM_isSet 20 = .ok (.iconst 1, 1) := by decide +kernel
theorem dM_isSet_21 : decode cM_isSet 21 = .ok (.goto 4, 3) := by decide +kernel
theorem dM_isSet_24 : decode cM_isSet 24 = .ok (.iconst 0, 1) := by decide +kernel
theorem dM_isSet_25 : decode cM_isSet 25 = .ok (.ireturn, 1) := by decide +kernel
theorem dM_set_0 : decode cM_set 0 = .ok (.iload_n 1, 1) := by decide +kernel
theorem dM_set_1 : decode cM_set 1 = .ok (.ifCond .ne 10, 3) := by decide +kernel
theorem dM_set_4 : decode cM_set 4 = .ok (.aload_n 0, 1) := by decide +kernel
theorem dM_set_5 : decode cM_set 5 = .ok (.invokevirtual 143, 3) := by decide +kernel
theorem dM_set_8 : decode cM_set 8 = .ok (.goto 33, 3) := by decide +kernel
theorem dM_set_11 : decode cM_set 11 = .ok (.iload_n 1, 1) := by decide +kernel
theorem dM_set_12 : decode cM_set 12 = .ok (.iconst 1, 1) := by decide +kernel
theorem dM_set_13 : decode cM_set 13 = .ok (.if_icmp .ne 10, 3) := by decide +kernel
theorem dM_set_16 : decode cM_set 16 = .ok (.aload_n 0, 1) := by decide +kernel
theorem dM_set_17 : decode cM_set 17 = .ok (.invokevirtual 117, 3) := by decide +kernel
theorem dM_set_20 : decode cM_set 20 = .ok (.goto 21, 3) := by decide +kernel
theorem dM_set_23 : decode cM_set 23 = .ok (.iload_n 1, 1) := by decide +kernel
theorem dM_set_24 : decode cM_set 24 = .ok (.iconst 2, 1) := by decide +kernel
theorem dM_set_25 : decode cM_set 25 = .ok (.if_icmp .ne 10, 3) := by decide +kernel
theorem dM_set_28 : decode cM_set 28 = .ok (.aload_n 0, 1) := by decide +kernel
theorem dM_set_29 : decode cM_set 29 = .ok (.invokevirtual 106, 3) := by decide +kernel
theorem dM_set_32 : decode cM_set 32 = .ok (.goto 9, 3) := by decide +kernel
theorem dM_set_35 : decode cM_set 35 = .ok (.aload_n 0, 1) := by decide +kernel
theorem dM_set_36 : decode cM_set 36 = .ok (.bipush 64, 2) := by decide +kernel
theorem dM_set_38 : decode cM_set 38 = .ok (.invokevirtual 133, 3) := by decide +kernel
theorem dM_set_41 : decode cM_set 41 = .ok (.lreturn, 1) := by decide +kernel
theorem dM_size_0 : decode cM_size 0 = .ok (.aload_n 0, 1) := by decide +kernel
theorem dM_size_1 : decode cM_size 1 = .ok (.aload_n 0, 1) := by decide +kernel
theorem dM_size_2 : decode cM_size 2 = .ok (.getfield 98, 3) := by decide +kernel
theorem dM_size_5 : decode cM_size 5 = .ok (.ifCond .eq 7, 3) := by decide +kernel
theorem dM_size_8 : decode cM_size 8 = .ok (.iconst 0, 1) := by decide +kernel
theorem dM_size_9 : decode cM_size 9 = .ok (.goto 4, 3) := by decide +kernel
theorem dM_size_12 : decode cM_size 12 = .ok (.iconst 1, 1) := by decide +kernel
theorem dM_size_13 : decode cM_size 13 = .ok (.putfield 44, 3) := by decide +kernel
theorem dM_size_16 : decode cM_size 16 = .ok (.aload_n 0, 1) := by decide +kernel
theorem dM_size_17 : decode cM_size 17 = .ok (.getfield 98, 3) := by decide +kernel
theorem dM_size_20 : decode cM_size 20 = .ok (.ifCond .eq 11, 3) := by decide +kernel
theorem dM_size_23 : decode cM_size 23 = .ok (.aload_n 0, 1) := by decide +kernel
theorem dM_size_24 : decode cM_size 24 = .ok (.iload_n 1, 1) := by decide +kernel
theorem dM_size_25 : decode cM_size 25 = .ok (.invokevirtual 146, 3) := by decide +kernel
theorem dM_size_28 : decode cM_size 28 = .ok (.ifCond .ne 16, 3) := by decide +kernel
theorem dM_size_31 : decode cM_size 31 = .ok (.aload_n 0, 1) := by decide +kernel
theorem dM_size_32 : decode cM_size 32 = .ok (.getfield 98, 3) := by decide +kernel
theorem dM_size_35 : decode cM_size 35 = .ok (.ifCond .eq 7, 3) := by decide +kernel
theorem dM_size_38 : decode cM_size 38 = .ok (.iconst (-1), 1) := by decide +kernel
theorem dM_size_39 : decode cM_size 39 = .ok (.goto 4, 3) := by decide +kernel
theorem dM_size_42 : decode cM_size 42 = .ok (.iconst 0, 1) := by decide +kernel
theorem dM_size_43 : decode cM_size 43 = .ok (.ireturn, 1) := by decide +kernel
theorem dM_size_44 : decode cM_size 44 = .ok (.aload_n 0, 1) := by decide +kernel
theorem dM_size_45 : decode cM_size 45 = .ok (.iload_n 1, 1) := by decide +kernel
theorem dM_size_46 : decode cM_size 46 = .ok (.invokevirtual 149, 3) := by decide +kernel
theorem dM_size_49 : decode cM_size 49 = .ok (.lstore_n 2, 1) := by decide +kernel
theorem dM_size_50 : decode cM_size 50 = .ok (.iconst 0, 1) := by decide +kernel
theorem dM_size_51 : decode cM_size 51 = .ok (.istore 4, 2) := by decide +kernel
theorem dM_size_53 : decode cM_size 53 = .ok (.iconst 0, 1) := by decide +kernel
theorem dM_size_54 : decode cM_size 54 = .ok (.istore 5, 2) := by decide +kernel
theorem dM_size_56 : decode cM_size 56 = .ok (.iload 5, 2) := by decide +kernel
theorem dM_size_58 : decode cM_size 58 = .ok (.aload_n 0, 1) := by decide +kernel
theorem dM_size_59 : decode cM_size 59 = .ok (.getfield 32, 3) := by decide +kernel
theorem dM_size_62 : decode cM_size 62 = .ok (.iconst 2, 1) := by decide +kernel
theorem dM_size_63 : decode cM_size 63 = .ok (.iaload, 1) := by decide +kernel
theorem dM_size_64 : decode cM_size 64 = .ok (.if_icmp .ge 110, 3) := by decide +kernel
theorem dM_size_67 : decode cM_size 67 = .ok (.iconst 0, 1) := by decide +kernel
theorem dM_size_68 : decode cM_size 68 = .ok (.istore 6, 2) := by decide +kernel
theorem dM_size_70 : decode cM_size 70 = .ok (.iload 6, 2) := by decide +kernel
theorem dM_size_72 : decode cM_size 72 = .ok (.iconst 1, 1) := by decide +kernel
theorem dM_size_73 : decode cM_size 73 = .ok (.iload 5, 2) := by decide +kernel
theorem dM_size_75 : decode cM_size 75 = .ok (.ishl, 1) := by decide +kernel
theorem dM_size_76 : decode cM_size 76 = .ok (.if_icmp .ge 92, 3) := by decide +kernel
theorem dM_size_79 : decode cM_size 79 = .ok (.aload_n 0, 1) := by decide +kernel
theorem dM_size_80 : decode cM_size 80 = .ok (.lload_n 2, 1) := by decide +kernel
theorem dM_size_81 : decode cM_size 81 = .ok (.iload 5, 2) := by decide +kernel
theorem dM_size_83 : decode cM_size 83 = .ok (.iload 6, 2) := by decide +kernel
theorem dM_size_85 : decode cM_size 85 = .ok (.invokevirtual 152, 3) := by decide +kernel
theorem dM_size_88 : decode cM_size 88 = .ok (.lstore 7, 2) := by decide +kernel
theorem dM_size_90 : decode cM_size 90 = .ok (.lload 7, 2) := by decide +kernel
theorem dM_size_92 : decode cM_size 92 = .ok (.aload_n 0, 1) := by decide +kernel
theorem dM_size_93 : decode cM_size 93 = .ok (.getfield 85, 3) := by decide +kernel
theorem dM_size_96 : decode cM_size 96 = .ok (.iload 5, 2) := by decide +kernel
theorem dM_size_98 : decode cM_size 98 = .ok (.ishr, 1) := by decide +kernel
theorem dM_size_99 : decode cM_size 99 = .ok (.invokestatic 156, 3) := by decide +kernel
theorem dM_size_102 : decode cM_size 102 = .ok (.istore 9, 2) := by decide +kernel
theorem dM_size_104 : decode cM_size 104 = .ok (.iconst 0, 1) := by decide +kernel
theorem dM_size_105 : decode cM_size 105 = .ok (.istore 10, 2) := by decide +kernel
theorem dM_size_107 : decode cM_size 107 = .ok (.iload 10, 2) := by decide +kernel
theorem dM_size_109 : decode cM_size 109 = .ok (.iload 6, 2) := by decide +kernel
theorem dM_size_111 : decode cM_size 111 = .ok (.if_icmp .ge 36, 3) := by decide +kernel
theorem dM_size_114 : decode cM_size 114 = .ok (.iload 9, 2) := by decide +kernel
theorem dM_size_116 : decode cM_size 116 = .ok (.ifCond .eq 31, 3) := by decide +kernel
theorem dM_size_119 : decode cM_size 119 = .ok (.aload_n 0, 1) := by decide +kernel
theorem dM_size_120 : decode cM_size 120 = .ok (.lload_n 2, 1) := by decide +kernel
theorem dM_size_121 : decode cM_size 121 = .ok (.iload 5, 2) := by decide +kernel
theorem dM_size_123 : decode cM_size 123 = .ok (.iload 10, 2) := by decide +kernel
theorem dM_size_125 : decode cM_size 125 = .ok (.invokevirtual 152, 3) := by decide +kernel
theorem dM_size_128 : decode cM_size 128 = .ok (.lload 7, 2) := by decide +kernel
theorem dM_size_130 : decode cM_size 130 = .ok (.lcmp, 1) := by decide +kernel
theorem dM_size_131 : decode cM_size 131 = .ok (.ifCond .eq 7, 3) := by decide +kernel
theorem dM_size_134 : decode cM_size 134 = .ok (.iconst 1, 1) := by decide +kernel
theorem dM_size_135 : decode cM_size 135 = .ok (.goto 4, 3) := by decide +kernel
theorem dM_size_138 : decode cM_size 138 = .ok (.iconst 0, 1) := by decide +kernel
theorem dM_size_139 : decode cM_size 139 = .ok (.istore 9, 2) := by decide +kernel
theorem dM_size_141 : decode cM_size 141 = .ok (.iinc 10 1, 3) := by decide +kernel
theorem dM_size_144 : decode cM_size 144 = .ok (.goto (-37), 3) := by decide +kernel
theorem dM_size_147 : decode cM_size 147 = .ok (.iload 4, 2) := by decide +kernel
theorem dM_size_149 : decode cM_size 149 = .ok (.iload 9, 2) := by decide +kernel
theorem dM_size_151 : decode cM_size 151 = .ok (.ifCond .eq 7, 3) := by decide +kernel
theorem dM_size_154 : decode cM_size 154 = .ok (.iconst 1, 1) := by decide +kernel
theorem dM_size_155 : decode cM_size 155 = .ok (.goto 4, 3) := by decide +kernel
theorem dM_size_158 : decode cM_size 158 = .ok (.iconst 0, 1) := by decide +kernel
theorem dM_size_159 : decode cM_size 159 = .ok (.iadd, 1) := by decide +kernel
theorem dM_size_160 : decode cM_size 160 = .ok (.istore 4, 2) := by decide +kernel
theorem dM_size_162 : decode cM_size 162 = .ok (.iinc 6 1, 3) := by decide +kernel
theorem dM_size_165 : decode cM_size 165 = .ok (.goto (-95), 3) := by decide +kernel
theorem dM_size_168 : decode cM_size 168 = .ok (.iinc 5 1, 3) := by decide +kernel
theorem dM_size_171 : decode cM_size 171 = .ok (.goto (-115), 3) := by decide +kernel
theorem dM_size_174 : decode cM_size 174 = .ok (.iload 4, 2) := by decide +kernel
theorem dM_size_176 : decode cM_size 176 = .ok (.ireturn, 1) := by decide +kernel
theorem dM_rest_0 : decode cM_rest 0 = .ok (.lconst 0, 1) := by decide +kernel
theorem dM_rest_1 : decode cM_rest 1 = .ok (.lstore 5, 2) := by decide +kernel
theorem dM_rest_3 : decode cM_rest 3 = .ok (.aload_n 0, 1) := by decide +kernel
theorem dM_rest_4 : decode cM_rest 4 = .ok (.getfield 85, 3) := by decide +kernel
theorem dM_rest_7 : decode cM_rest 7 = .ok (.iload_n 3, 1) := by decide +kernel
theorem dM_rest_8 : decode cM_rest 8 = .ok (.ishr, 1) := by decide +kernel
theorem dM_rest_9 : decode cM_rest 9 = .ok (.istore 7, 2) := by decide +kernel
theorem dM_rest_11 : decode cM_rest 11 = .ok (.iconst 0, 1) := by decide +kernel
theorem dM_rest_12 : decode cM_rest 12 = .ok (.istore 8, 2) := by decide +kernel
theorem dM_rest_14 : decode cM_rest 14 = .ok (.iload 8, 2) := by decide +kernel
theorem dM_rest_16 : decode cM_rest 16 = .ok (.iload 7, 2) := by decide +kernel
theorem dM_rest_18 : decode cM_rest 18 = .ok (.if_icmp .ge 28, 3) := by decide +kernel
theorem dM_rest_21 : decode cM_rest 21 = .ok (.lload 5, 2) := by decide +kernel
theorem dM_rest_23 : decode cM_rest 23 = .ok (.lload_n 1, 1) := by decide +kernel
theorem dM_rest_24 : decode cM_rest 24 = .ok (.iload 4, 2) := by decide +kernel
theorem dM_rest_26 : decode cM_rest 26 = .ok (.iload 8, 2) := by decide +kernel
theorem dM_rest_28 : decode cM_rest 28 = .ok (.iload_n 3, 1) := by decide +kernel
theorem dM_rest_29 : decode cM_rest 29 = .ok (.ishl, 1) := by decide +kernel
theorem dM_rest_30 : decode cM_rest 30 = .ok (.iadd, 1) := by decide +kernel
theorem dM_rest_31 : decode cM_rest 31 = .ok (.lshr, 1) := by decide +kernel
theorem dM_rest_32 : decode cM_rest 32 = .ok (.lconst 1, 1) := by decide +kernel
theorem dM_rest_33 : decode cM_rest 33 = .ok (.land, 1) := by decide +kernel
theorem dM_rest_34 : decode cM_rest 34 = .ok (.iload 8, 2) := by decide +kernel
theorem dM_rest_36 : decode cM_rest 36 = .ok (.lshl, 1) := by decide +kernel
theorem dM_rest_37 : decode cM_rest 37 = .ok (.lor, 1) := by decide +kernel
theorem dM_rest_38 : decode cM_rest 38 = .ok (.lstore 5, 2) := by decide +kernel
theorem dM_rest_40 : decode cM_rest 40 = .ok (.iinc 8 1, 3) := by decide +kernel
theorem dM_rest_43 : decode cM_rest 43 = .ok (.goto (-29), 3) := by decide +kernel
theorem dM_rest_46 : decode cM_rest 46 = .ok (.lload 5, 2) := by decide +kernel
theorem dM_rest_48 : decode cM_rest 48 = .ok (.lreturn, 1) := by decide +kernel
theorem dM_hangs_0 : decode cM_hangs 0 = .ok (.iconst 0, 1) := by decide +kernel
theorem dM_hangs_1 : decode cM_hangs 1 = .ok (.istore_n 3, 1) := by decide +kernel
theorem dM_hangs_2 : decode cM_hangs 2 = .ok (.iconst 0, 1) := by decide +kernel
theorem dM_hangs_3 : decode cM_hangs 3 = .ok (.istore 4, 2) := by decide +kernel
theorem dM_hangs_5 : decode cM_hangs 5 = .ok (.iload 4, 2) := by decide +kernel
theorem dM_hangs_7 : decode cM_hangs 7 = .ok (.iload_n 2, 1) := by decide +kernel
theorem dM_hangs_8 : decode cM_hangs 8 = .ok (.if_icmp .ge 37, 3) := by decide +kernel
theorem dM_hangs_11 : decode cM_hangs 11 = .ok (.iload_n 3, 1) := by decide +kernel
theorem dM_hangs_12 : decode cM_hangs 12 = .ok (.ifCond .ne 21, 3) := by decide +kernel
theorem dM_hangs_15 : decode cM_hangs 15 = .ok (.lload_n 0, 1) := by decide +kernel
theorem dM_hangs_16 : decode cM_hangs 16 = .ok (.iload 4, 2) := by decide +kernel
theorem dM_hangs_18 : decode cM_hangs 18 = .ok (.lshr, 1) := by decide +kernel
theorem dM_hangs_19 : decode cM_hangs 19 = .ok (.lconst 1, 1) := by decide +kernel
theorem dM_hangs_20 : decode cM_hangs 20 = .ok (.land, 1) := by decide +kernel
theorem dM_hangs_21 : decode cM_hangs 21 = .ok (.lload_n 0, 1) := by decide +kernel
theorem dM_hangs_22 : decode cM_hangs 22 = .ok (.iload 4, 2) := by decide +kernel
theorem dM_hangs_24 : decode cM_hangs 24 = .ok (.iconst 1, 1) := by decide +kernel
theorem dM_hangs_25 : decode cM_hangs 25 = .ok (.iadd, 1) := by decide +kernel
theorem dM_hangs_26 : decode cM_hangs 26 = .ok (.lshr, 1) := by decide +kernel
theorem dM_hangs_27 : decode cM_hangs 27 = .ok (.lconst 1, 1) := by decide +kernel
theorem dM_hangs_28 : decode cM_hangs 28 = .ok (.land, 1) := by decide +kernel
theorem dM_hangs_29 : decode cM_hangs 29 = .ok (.lcmp, 1) := by decide +kernel
theorem dM_hangs_30 : decode cM_hangs 30 = .ok (.ifCond .eq 7, 3) := by decide +kernel
theorem dM_hangs_33 : decode cM_hangs 33 = .ok (.iconst 1, 1) := by decide +kernel
theorem dM_hangs_34 : decode cM_hangs 34 = .ok (.goto 4, 3) := by decide +kernel
theorem dM_hangs_37 : decode cM_hangs 37 = .ok (.iconst 0, 1) := by decide +kernel
theorem dM_hangs_38 : decode cM_hangs 38 = .ok (.istore_n 3, 1) := by decide +kernel
theorem dM_hangs_39 : decode cM_hangs 39 = .ok (.iinc 4 2, 3) := by decide +kernel
theorem dM_hangs_42 : decode cM_hangs 42 = .ok (.goto (-37), 3) := by decide +kernel
theorem dM_hangs_45 : decode cM_hangs 45 = .ok (.iload_n 3, 1) := by decide +kernel
theorem dM_hangs_46 : decode cM_hangs 46 = .ok (.ireturn, 1) := by decide +kernel
