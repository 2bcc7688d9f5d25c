theorem dX7_init_0 : decode cX7_init 0 = .ok (.aload_n 0, 1) := by decide +kernel
theorem dX7_init_1 : decode cX7_init 1 = .ok (.invokespecial 1, 3) := by decide +kernel
theorem dX7_init_4 : decode cX7_init 4 = .ok (.aload_n 0, 1) := by decide +kernel
theorem dX7_init_5 : decode cX7_init 5 = .ok (.iconst 5, 1) := by decide +kernel
theorem dX7_init_6 : decode cX7_init 6 = .ok (.newarray .int, 2) := by decide +kernel
theorem dX7_init_8 : decode cX7_init 8 = .ok (.putfield 7, 3) := by decide +kernel
theorem dX7_init_11 : decode cX7_init 11 = .ok (.aload_n 0, 1) := by decide +kernel
theorem dX7_init_12 : decode cX7_init 12 = .ok (.bipush 6, 2) := by decide +kernel
theorem dX7_init_14 : decode cX7_init 14 = .ok (.newarray .int, 2) := by decide +kernel
theorem dX7_init_16 : decode cX7_init 16 = .ok (.putfield 13, 3) := by decide +kernel
theorem dX7_init_19 : decode cX7_init 19 = .ok (.aload_n 0, 1) := by decide +kernel
theorem dX7_init_20 : decode cX7_init 20 = .ok (.bipush 24, 2) := by decide +kernel
theorem dX7_init_22 : decode cX7_init 22 = .ok (.newarray .int, 2) := by decide +kernel
theorem dX7_init_24 : decode cX7_init 24 = .ok (.putfield 16, 3) := by decide +kernel
theorem dX7_init_27 : decode cX7_init 27 = .ok (.aload_n 0, 1) := by decide +kernel
theorem dX7_init_28 : decode cX7_init 28 = .ok (.iconst 3, 1) := by decide +kernel
theorem dX7_init_29 : decode cX7_init 29 = .ok (.newarray .int, 2) := by decide +kernel
theorem dX7_init_31 : decode cX7_init 31 = .ok (.putfield 19, 3) := by decide +kernel
theorem dX7_init_34 : decode cX7_init 34 = .ok (.aload_n 0, 1) := by decide +kernel
theorem dX7_init_35 : decode cX7_init 35 = .ok (.iconst 3, 1) := by decide +kernel
theorem dX7_init_36 : decode cX7_init 36 = .ok (.newarray .int, 2) := by decide +kernel
theorem dX7_init_38 : decode cX7_init 38 = .ok (.putfield 22, 3) := by decide +kernel
theorem dX7_init_41 : decode cX7_init 41 = .ok (.aload_n 0, 1) := by decide +kernel
theorem dX7_init_42 : decode cX7_init 42 = .ok (.iconst 3, 1) := by decide +kernel
theorem dX7_init_43 : decode cX7_init 43 = .ok (.putfield 25, 3) := by decide +kernel
theorem dX7_init_46 : decode cX7_init 46 = .ok (.aload_n 0, 1) := by decide +kernel
theorem dX7_init_47 : decode cX7_init 47 = .ok (.bipush 21, 2) := by decide +kernel
theorem dX7_init_49 : decode cX7_init 49 = .ok (.newarray .int, 2) := by decide +kernel
theorem dX7_init_51 : decode cX7_init 51 = .ok (.putfield 29, 3) := by decide +kernel
theorem dX7_init_54 : decode cX7_init 54 = .ok (.aload_n 0, 1) := by decide +kernel
theorem dX7_init_55 : decode cX7_init 55 = .ok (.sipush 210, 3) := by decide +kernel
theorem dX7_init_58 : decode cX7_init 58 = .ok (.newarray .int, 2) := by decide +kernel
theorem dX7_init_60 : decode cX7_init 60 = .ok (.putfield 32, 3) := by decide +kernel
theorem dX7_init_63 : decode cX7_init 63 = .ok (.aload_n 0, 1) := by decide +kernel
theorem dX7_init_64 : decode cX7_init 64 = .ok (.bipush 42, 2) := by decide +kernel
theorem dX7_init_66 : decode cX7_init 66 = .ok (.newarray .int, 2) := by decide +kernel
theorem dX7_init_68 : decode cX7_init 68 = .ok (.putfield 35, 3) := by decide +kernel
theorem dX7_init_71 : decode cX7_init 71 = .ok (.aload_n 0, 1) := by decide +kernel
theorem dX7_init_72 : decode cX7_init 72 = .ok (.iconst 2, 1) := by decide +kernel
theorem dX7_init_73 : decode cX7_init 73 = .ok (.newarray .boolean, 2) := by decide +kernel
theorem dX7_init_75 : decode cX7_init 75 = .ok (.putfield 38, 3) := by decide +kernel
theorem dX7_init_78 : decode cX7_init 78 = .ok (.aload_n 0, 1) := by decide +kernel
theorem dX7_init_79 : decode cX7_init 79 = .ok (.bipush 18, 2) := by decide +kernel
theorem dX7_init_81 : decode cX7_init 81 = .ok (.newarray .int, 2) := by decide +kernel
theorem dX7_init_83 : decode cX7_init 83 = .ok (.putfield 42, 3) := by decide +kernel
theorem dX7_init_86 : decode cX7_init 86 = .ok (.aload_n 0, 1) := by decide +kernel
theorem dX7_init_87 : decode cX7_init 87 = .ok (.sipush 160, 3) := by decide +kernel
theorem dX7_init_90 : decode cX7_init 90 = .ok (.newarray .int, 2) := by decide +kernel
theorem dX7_init_92 : decode cX7_init 92 = .ok (.putfield 45, 3) := by decide +kernel
theorem dX7_init_95 : decode cX7_init 95 = .ok (.aload_n 0, 1) := by decide +kernel
theorem dX7_init_96 : decode cX7_init 96 = .ok (.iconst 5, 1) := by decide +kernel
theorem dX7_init_97 : decode cX7_init 97 = .ok (.newarray .int, 2) := by decide +kernel
theorem dX7_init_99 : decode cX7_init 99 = .ok (.putfield 48, 3) := by decide +kernel
theorem dX7_init_102 : decode cX7_init 102 = .ok (.aload_n 0, 1) := by decide +kernel
theorem dX7_init_103 : decode cX7_init 103 = .ok (.bipush 6, 2) := by decide +kernel
theorem dX7_init_105 : decode cX7_init 105 = .ok (.newarray .int, 2) := by decide +kernel
theorem dX7_init_107 : decode cX7_init 107 = .ok (.putfield 51, 3) := by decide +kernel
theorem dX7_init_110 : decode cX7_init 110 = .ok (.aload_n 0, 1) := by decide +kernel
theorem dX7_init_111 : decode cX7_init 111 = .ok (.bipush 24, 2) := by decide +kernel
theorem dX7_init_113 : decode cX7_init 113 = .ok (.newarray .int, 2) := by decide +kernel
theorem dX7_init_115 : decode cX7_init 115 = .ok (.putfield 54, 3) := by decide +kernel
theorem dX7_init_118 : decode cX7_init 118 = .ok (.aload_n 0, 1) := by decide +kernel
theorem dX7_init_119 : decode cX7_init 119 = .ok (.iconst 3, 1) := by decide +kernel
theorem dX7_init_120 : decode cX7_init 120 = .ok (.newarray .int, 2) := by decide +kernel
theorem dX7_init_122 : decode cX7_init 122 = .ok (.putfield 57, 3) := by decide +kernel
theorem dX7_init_125 : decode cX7_init 125 = .ok (.aload_n 0, 1) := by decide +kernel
theorem dX7_init_126 : decode cX7_init 126 = .ok (.iconst 3, 1) := by decide +kernel
theorem dX7_init_127 : decode cX7_init 127 = .ok (.newarray .int, 2) := by decide +kernel
theorem dX7_init_129 : decode cX7_init 129 = .ok (.putfield 60, 3) := by decide +kernel
theorem dX7_init_132 : decode cX7_init 132 = .ok (.aload_n 0, 1) := by decide +kernel
theorem dX7_init_133 : decode cX7_init 133 = .ok (.bipush 6, 2) := by decide +kernel
theorem dX7_init_135 : decode cX7_init 135 = .ok (.newarray .int, 2) := by decide +kernel
theorem dX7_init_137 : decode cX7_init 137 = .ok (.putfield 63, 3) := by decide +kernel
theorem dX7_init_140 : decode cX7_init 140 = .ok (.aload_n 0, 1) := by decide +kernel
theorem dX7_init_141 : decode cX7_init 141 = .ok (.bipush 6, 2) := by decide +kernel
theorem dX7_init_143 : decode cX7_init 143 = .ok (.newarray .int, 2) := by decide +kernel
theorem dX7_init_145 : decode cX7_init 145 = .ok (.putfield 66, 3) := by decide +kernel
theorem dX7_init_148 : decode cX7_init 148 = .ok (.return_, 1) := by decide +kernel
theorem dX7_in_0 : decode cX7_in 0 = .ok (.lload_n 0, 1) := by decide +kernel
theorem dX7_in_1 : decode cX7_in 1 = .ok (.lload_n 2, 1) := by decide +kernel
theorem dX7_in_2 : decode cX7_in 2 = .ok (.lcmp, 1) := by decide +kernel
theorem dX7_in_3 : decode cX7_in 3 = .ok (.ifCond .lt 14, 3) := by decide +kernel
theorem dX7_in_6 : decode cX7_in 6 = .ok (.lload_n 0, 1) := by decide +kernel
theorem dX7_in_7 : decode cX7_in 7 = .ok (.lload 4, 2) := by decide +kernel
theorem dX7_in_9 : decode cX7_in 9 = .ok (.lcmp, 1) := by decide +kernel
theorem dX7_in_10 : decode cX7_in 10 = .ok (.ifCond .gt 7, 3) := by decide +kernel
theorem dX7_in_13 : decode cX7_in 13 = .ok (.iconst 1, 1) := by decide +kernel
theorem dX7_in_14 : decode cX7_in 14 = .ok (.goto 4, 3) := by decide +kernel
theorem dX7_in_17 : decode cX7_in 17 = .ok (.iconst 0, 1) := by decide +kernel
theorem dX7_in_18 : decode cX7_in 18 = .ok (.ireturn, 1) := by decide +kernel
theorem dX7_has_0 : decode cX7_has 0 = .ok (.iload_n 0, 1) := by decide +kernel
theorem dX7_has_1 : decode cX7_has 1 = .ok (.iload_n 1, 1) := by decide +kernel
theorem dX7_has_2 : decode cX7_has 2 = .ok (.ishr, 1) := by decide +kernel
theorem dX7_has_3 : decode cX7_has 3 = .ok (.iconst 1, 1) := by decide +kernel
theorem dX7_has_4 : decode cX7_has 4 = .ok (.iand, 1) := by decide +kernel
theorem dX7_has_5 : decode cX7_has 5 = .ok (.iconst 1, 1) := by decide +kernel
theorem dX7_has_6 : decode cX7_has 6 = .ok (.if_icmp .ne 7, 3) := by decide +kernel
theorem dX7_has_9 : decode cX7_has 9 = .ok (.iconst 1, 1) := by decide +kernel
theorem dX7_has_10 : decode cX7_has 10 = .ok (.goto 4, 3) := by decide +kernel
theorem dX7_has_13 : decode cX7_has 13 = .ok (.iconst 0, 1) := by decide +kernel
theorem dX7_has_14 : decode cX7_has 14 = .ok (.ireturn, 1) := by decide +kernel
theorem dX7_bits_0 : decode cX7_bits 0 = .ok (.iconst 0, 1) := by decide +kernel
theorem dX7_bits_1 : decode cX7_bits 1 = .ok (.istore_n 1, 1) := by decide +kernel
theorem dX7_bits_2 : decode cX7_bits 2 = .ok (.iload_n 0, 1) := by decide +kernel
theorem dX7_bits_3 : decode cX7_bits 3 = .ok (.istore_n 2, 1) := by decide +kernel
theorem dX7_bits_4 : decode cX7_bits 4 = .ok (.iload_n 2, 1) := by decide +kernel
theorem dX7_bits_5 : decode cX7_bits 5 = .ok (.ifCond .eq 15, 3) := by decide +kernel
theorem dX7_bits_8 : decode cX7_bits 8 = .ok (.iinc 1 1, 3) := by decide +kernel
theorem dX7_bits_11 : decode cX7_bits 11 = .ok (.iload_n 2, 1) := by decide +kernel
theorem dX7_bits_12 : decode cX7_bits 12 = .ok (.iload_n 2, 1) := by decide +kernel
theorem dX7_bits_13 : decode cX7_bits 13 = .ok (.iconst 1, 1) := by decide +kernel
theorem dX7_bits_14 : decode cX7_bits 14 = .ok (.isub, 1) := by decide +kernel
theorem dX7_bits_15 : decode cX7_bits 15 = .ok (.iand, 1) := by decide +kernel
theorem dX7_bits_16 : decode cX7_bits 16 = .ok (.istore_n 2, 1) := by decide +kernel
theorem dX7_bits_17 : decode cX7_bits 17 = .ok (.goto (-13), 3) := by decide +kernel
theorem dX7_bits_20 : decode cX7_bits 20 = .ok (.iload_n 1, 1) := by decide +kernel
theorem dX7_bits_21 : decode cX7_bits 21 = .ok (.ireturn, 1) := by decide +kernel
theorem dX7_lowest_0 : decode cX7_lowest 0 = .ok (.iconst 0, 1) := by decide +kernel
theorem dX7_lowest_1 : decode cX7_lowest 1 = .ok (.istore_n 1, 1) := by decide +kernel
theorem dX7_lowest_2 : decode cX7_lowest 2 = .ok (.iload_n 0, 1) := by decide +kernel
theorem dX7_lowest_3 : decode cX7_lowest 3 = .ok (.iload_n 1, 1) := by decide +kernel
theorem dX7_lowest_4 : decode cX7_lowest 4 = .ok (.invokestatic 69, 3) := by decide +kernel
theorem dX7_lowest_7 : decode cX7_lowest 7 = .ok (.ifCond .ne 9, 3) := by decide +kernel
theorem dX7_lowest_10 : decode cX7_lowest 10 = .ok (.iinc 1 1, 3) := by decide +kernel
theorem dX7_lowest_13 : decode cX7_lowest 13 = .ok (.goto (-11), 3) := by decide +kernel
theorem dX7_lowest_16 : decode cX7_lowest 16 = .ok (.iload_n 1, 1) := by decide +kernel
theorem dX7_lowest_17 : decode cX7_lowest 17 = .ok (.ireturn, 1) := by decide +kernel
theorem dX7_copies_0 : decode cX7_copies 0 = .ok (.iconst 0, 1) := by decide +kernel
theorem dX7_copies_1 : decode cX7_copies 1 = .ok (.istore 5, 2) := by decide +kernel
theorem dX7_copies_3 : decode cX7_copies 3 = .ok (.iload 5, 2) := by decide +kernel
theorem dX7_copies_5 : decode cX7_copies 5 = .ok (.iload 4, 2) := by decide +kernel
theorem dX7_copies_7 : decode cX7_copies 7 = .ok (.if_icmp .ge 21, 3) := by decide +kernel
theorem dX7_copies_10 : decode cX7_copies 10 = .ok (.aload_n 2, 1) := by decide +kernel
theorem dX7_copies_11 : decode cX7_copies 11 = .ok (.iload_n 3, 1) := by decide +kernel
theorem dX7_copies_12 : decode cX7_copies 12 = .ok (.iload 5, 2) := by decide +kernel
theorem dX7_copies_14 : decode cX7_copies 14 = .ok (.iadd, 1) := by decide +kernel
theorem dX7_copies_15 : decode cX7_copies 15 = .ok (.aload_n 0, 1) := by decide +kernel
theorem dX7_copies_16 : decode cX7_copies 16 = .ok (.iload_n 1, 1) := by decide +kernel
theorem dX7_copies_17 : decode cX7_copies 17 = .ok (.iload 5, 2) := by decide +kernel
theorem dX7_copies_19 : decode cX7_copies 19 = .ok (.iadd, 1) := by decide +kernel
theorem dX7_copies_20 : decode cX7_copies 20 = .ok (.iaload, 1) := by decide +kernel
theorem dX7_copies_21 : decode cX7_copies 21 = .ok (.iastore, 1) := by decide +kernel
theorem dX7_copies_22 : decode cX7_copies 22 = .ok (.iinc 5 1, 3) := by decide +kernel
theorem dX7_copies_25 : decode cX7_copies 25 = .ok (.goto (-22), 3) := by decide +kernel
theorem dX7_copies_28 : decode cX7_copies 28 = .ok (.return_, 1) := by decide +kernel
theorem dX7_type_0 : decode cX7_type 0 = .ok (.iload_n 1, 1) := by decide +kernel
theorem dX7_type_1 : decode cX7_type 1 = .ok (.i2l, 1) := by decide +kernel
theorem dX7_type_2 : decode cX7_type 2 = .ok (.lconst 0, 1) := by decide +kernel
theorem dX7_type_3 : decode cX7_type 3 = .ok (.ldc2_w 73, 3) := by decide +kernel
theorem dX7_type_6 : decode cX7_type 6 = .ok (.invokestatic 75, 3) := by decide +kernel
theorem dX7_type_9 : decode cX7_type 9 = .ok (.ifCond .ne 5, 3) := by decide +kernel
theorem dX7_type_12 : decode cX7_type 12 = .ok (.iconst (-1), 1) := by decide +kernel
theorem dX7_type_13 : decode cX7_type 13 = .ok (.ireturn, 1) := by decide +kernel
theorem dX7_type_14 : decode cX7_type 14 = .ok (.aload_n 0, 1) := by decide +kernel
theorem dX7_type_15 : decode cX7_type 15 = .ok (.getfield 79, 3) := by decide +kernel
theorem dX7_type_18 : decode cX7_type 18 = .ok (.sipush 160, 3) := by decide +kernel
theorem dX7_type_21 : decode cX7_type 21 = .ok (.if_icmp .ne 6, 3) := by decide +kernel
theorem dX7_type_24 : decode cX7_type 24 = .ok (.bipush (-3), 2) := by decide +kernel
theorem dX7_type_26 : decode cX7_type 26 = .ok (.ireturn, 1) := by decide +kernel
theorem dX7_type_27 : decode cX7_type 27 = .ok (.aload_n 0, 1) := by decide +kernel
theorem dX7_type_28 : decode cX7_type 28 = .ok (.getfield 45, 3) := by decide +kernel
theorem dX7_type_31 : decode cX7_type 31 = .ok (.aload_n 0, 1) := by decide +kernel
theorem dX7_type_32 : decode cX7_type 32 = .ok (.getfield 79, 3) := by decide +kernel
theorem dX7_type_35 : decode cX7_type 35 = .ok (.iload_n 1, 1) := by decide +kernel
theorem dX7_type_36 : decode cX7_type 36 = .ok (.iastore, 1) := by decide +kernel
theorem dX7_type_37 : decode cX7_type 37 = .ok (.aload_n 0, 1) := by decide +kernel
theorem dX7_type_38 : decode cX7_type 38 = .ok (.dup, 1) := by decide +kernel
theorem dX7_type_39 : decode cX7_type 39 = .ok (.getfield 79, 3) := by decide +kernel
theorem dX7_type_42 : decode cX7_type 42 = .ok (.iconst 1, 1) := by decide +kernel
theorem dX7_type_43 : decode cX7_type 43 = .ok (.iadd, 1) := by decide +kernel
theorem dX7_type_44 : decode cX7_type 44 = .ok (.putfield 79, 3) := by decide +kernel
theorem dX7_type_47 : decode cX7_type 47 = .ok (.aload_n 0, 1) := by decide +kernel
theorem dX7_type_48 : decode cX7_type 48 = .ok (.getfield 79, 3) := by decide +kernel
theorem dX7_type_51 : decode cX7_type 51 = .ok (.ireturn, 1) := by decide +kernel
theorem dX7_clear_0 : decode cX7_clear 0 = .ok (.aload_n 0, 1) := by decide +kernel
theorem dX7_clear_1 : decode cX7_clear 1 = .ok (.getfield 79, 3) := by decide +kernel
theorem dX7_clear_4 : decode cX7_clear 4 = .ok (.istore_n 1, 1) := by decide +kernel
theorem dX7_clear_5 : decode cX7_clear 5 = .ok (.aload_n 0, 1) := by decide +kernel
theorem dX7_clear_6 : decode cX7_clear 6 = .ok (.iconst 0, 1) := by decide +kernel
theorem dX7_clear_7 : decode cX7_clear 7 = .ok (.putfield 79, 3) := by decide +kernel
theorem dX7_clear_10 : decode cX7_clear 10 = .ok (.iload_n 1, 1) := by decide +kernel
theorem dX7_clear_11 : decode cX7_clear 11 = .ok (.ireturn, 1) := by decide +kernel
theorem dX7_here_0 : decode cX7_here 0 = .ok (.aload_n 0, 1) := by decide +kernel
theorem dX7_here_1 : decode cX7_here 1 = .ok (.getfield 82, 3) := by decide +kernel
theorem dX7_here_4 : decode cX7_here 4 = .ok (.aload_n 0, 1) := by decide +kernel
theorem dX7_here_5 : decode cX7_here 5 = .ok (.getfield 79, 3) := by decide +kernel
theorem dX7_here_8 : decode cX7_here 8 = .ok (.if_icmp .ge 15, 3) := by decide +kernel
theorem dX7_here_11 : decode cX7_here 11 = .ok (.aload_n 0, 1) := by decide +kernel
theorem dX7_here_12 : decode cX7_here 12 = .ok (.getfield 45, 3) := by decide +kernel
theorem dX7_here_15 : decode cX7_here 15 = .ok (.aload_n 0, 1) := by decide +kernel
theorem dX7_here_16 : decode cX7_here 16 = .ok (.getfield 82, 3) := by decide +kernel
theorem dX7_here_19 : decode cX7_here 19 = .ok (.iaload, 1) := by decide +kernel
theorem dX7_here_20 : decode cX7_here 20 = .ok (.goto 4, 3) := by decide +kernel
theorem dX7_here_23 : decode cX7_here 23 = .ok (.iconst (-1), 1) := by decide +kernel
theorem dX7_here_24 : decode cX7_here 24 = .ok (.ireturn, 1) := by decide +kernel
theorem dX7_isLetter_0 : decode cX7_isLetter 0 = .ok (.aload_n 0, 1) := by decide +kernel
theorem dX7_isLetter_1 : decode cX7_isLetter 1 = .ok (.invokevirtual 85, 3) := by decide +kernel
theorem dX7_isLetter_4 : decode cX7_isLetter 4 = .ok (.i2l, 1) := by decide +kernel
theorem dX7_isLetter_5 : decode cX7_isLetter 5 = .ok (.ldc2_w 89, 3) := by decide +kernel
theorem dX7_isLetter_8 : decode cX7_isLetter 8 = .ok (.ldc2_w 91, 3) := by decide +kernel
theorem dX7_isLetter_11 : decode cX7_isLetter 11 = .ok (.invokestatic 75, 3) := by decide +kernel
theorem dX7_isLetter_14 : decode cX7_isLetter 14 = .ok (.ireturn, 1) := by decide +kernel
theorem dX7_isFigure_0 : decode cX7_isFigure 0 = .ok (.aload_n 0, 1) := by decide +kernel
theorem dX7_isFigure_1 : decode cX7_isFigure 1 = .ok (.invokevirtual 85, 3) := by decide +kernel
theorem dX7_isFigure_4 : decode cX7_isFigure 4 = .ok (.i2l, 1) := by decide +kernel
theorem dX7_isFigure_5 : decode cX7_isFigure 5 = .ok (.ldc2_w 93, 3) := by decide +kernel
theorem dX7_isFigure_8 : decode cX7_isFigure 8 = .ok (.ldc2_w 95, 3) := by decide +kernel
theorem dX7_isFigure_11 : decode cX7_isFigure 11 = .ok (.invokestatic 75, 3) := by decide +kernel
theorem dX7_isFigure_14 : decode cX7_isFigure 14 = .ok (.ireturn, 1) := by decide +kernel
theorem dX7_step_0 : decode cX7_step 0 = .ok (.aload_n 0, 1) := by decide +kernel
theorem dX7_step_1 : decode cX7_step 1 = .ok (.invokevirtual 85, 3) := by decide +kernel
theorem dX7_step_4 : decode cX7_step 4 = .ok (.bipush 32, 2) := by decide +kernel
theorem dX7_step_6 : decode cX7_step 6 = .ok (.if_icmp .ne 16, 3) := by decide +kernel
theorem dX7_step_9 : decode cX7_step 9 = .ok (.aload_n 0, 1) := by decide +kernel
theorem dX7_step_10 : decode cX7_step 10 = .ok (.dup, 1) := by decide +kernel
theorem dX7_step_11 : decode cX7_step 11 = .ok (.getfield 82, 3) := by decide +kernel
theorem dX7_step_14 : decode cX7_step 14 = .ok (.iconst 1, 1) := by decide +kernel
theorem dX7_step_15 : decode cX7_step 15 = .ok (.iadd, 1) := by decide +kernel
theorem dX7_step_16 : decode cX7_step 16 = .ok (.putfield 82, 3) := by decide +kernel
theorem dX7_step_19 : decode cX7_step 19 = .ok (.goto (-19), 3) := by decide +kernel
theorem dX7_step_22 : decode cX7_step 22 = .ok (.aload_n 0, 1) := by decide +kernel
theorem dX7_step_23 : decode cX7_step 23 = .ok (.aload_n 0, 1) := by decide +kernel
theorem dX7_step_24 : decode cX7_step 24 = .ok (.getfield 82, 3) := by decide +kernel
theorem dX7_step_27 : decode cX7_step 27 = .ok (.putfield 97, 3) := by decide +kernel
theorem dX7_step_30 : decode cX7_step 30 = .ok (.aload_n 0, 1) := by decide +kernel
theorem dX7_step_31 : decode cX7_step 31 = .ok (.iconst 0, 1) := by decide +kernel
theorem dX7_step_32 : decode cX7_step 32 = .ok (.putfield 100, 3) := by decide +kernel
theorem dX7_step_35 : decode cX7_step 35 = .ok (.aload_n 0, 1) := by decide +kernel
theorem dX7_step_36 : decode cX7_step 36 = .ok (.getfield 82, 3) := by decide +kernel
theorem dX7_step_39 : decode cX7_step 39 = .ok (.aload_n 0, 1) := by decide +kernel
theorem dX7_step_40 : decode cX7_step 40 = .ok (.getfield 79, 3) := by decide +kernel
theorem dX7_step_43 : decode cX7_step 43 = .ok (.if_icmp .ne 11, 3) := by decide +kernel
theorem dX7_step_46 : decode cX7_step 46 = .ok (.aload_n 0, 1) := by decide +kernel
theorem dX7_step_47 : decode cX7_step 47 = .ok (.iconst 0, 1) := by decide +kernel
theorem dX7_step_48 : decode cX7_step 48 = .ok (.putfield 103, 3) := by decide +kernel
theorem dX7_step_51 : decode cX7_step 51 = .ok (.goto 77, 3) := by decide +kernel
theorem dX7_step_54 : decode cX7_step 54 = .ok (.aload_n 0, 1) := by decide +kernel
theorem dX7_step_55 : decode cX7_step 55 = .ok (.invokevirtual 106, 3) := by decide +kernel
theorem dX7_step_58 : decode cX7_step 58 = .ok (.ifCond .eq 28, 3) := by decide +kernel
theorem dX7_step_61 : decode cX7_step 61 = .ok (.aload_n 0, 1) := by decide +kernel
theorem dX7_step_62 : decode cX7_step 62 = .ok (.iconst 1, 1) := by decide +kernel
theorem dX7_step_63 : decode cX7_step 63 = .ok (.putfield 103, 3) := by decide +kernel
theorem dX7_step_66 : decode cX7_step 66 = .ok (.aload_n 0, 1) := by decide +kernel
theorem dX7_step_67 : decode cX7_step 67 = .ok (.invokevirtual 106, 3) := by decide +kernel
theorem dX7_step_70 : decode cX7_step 70 = .ok (.ifCond .eq 58, 3) := by decide +kernel
theorem dX7_step_73 : decode cX7_step 73 = .ok (.aload_n 0, 1) := by decide +kernel
theorem dX7_step_74 : decode cX7_step 74 = .ok (.dup, 1) := by decide +kernel
theorem dX7_step_75 : decode cX7_step 75 = .ok (.getfield 82, 3) := by decide +kernel
theorem dX7_step_78 : decode cX7_step 78 = .ok (.iconst 1, 1) := by decide +kernel
theorem dX7_step_79 : decode cX7_step 79 = .ok (.iadd, 1) := by decide +kernel
theorem dX7_step_80 : decode cX7_step 80 = .ok (.putfield 82, 3) := by decide +kernel
theorem dX7_step_83 : decode cX7_step 83 = .ok (.goto (-17), 3) := by decide +kernel
theorem dX7_step_86 : decode cX7_step 86 = .ok (.aload_n 0, 1) := by decide +kernel
theorem dX7_step_87 : decode cX7_step 87 = .ok (.invokevirtual 110, 3) := by decide +kernel
theorem dX7_step_90 : decode cX7_step 90 = .ok (.ifCond .eq 10, 3) := by decide +kernel
theorem dX7_step_93 : decode cX7_step 93 = .ok (.aload_n 0, 1) := by decide +kernel
theorem dX7_step_94 : decode cX7_step 94 = .ok (.invokevirtual 113, 3) := by decide +kernel
theorem dX7_step_97 : decode cX7_step 97 = .ok (.goto 31, 3) := by decide +kernel
theorem dX7_step_100 : decode cX7_step 100 = .ok (.aload_n 0, 1) := by decide +kernel
theorem dX7_step_101 : decode cX7_step 101 = .ok (.aload_n 0, 1) := by decide +kernel
theorem dX7_step_102 : decode cX7_step 102 = .ok (.invokevirtual 85, 3) := by decide +kernel
theorem dX7_step_105 : decode cX7_step 105 = .ok (.bipush 59, 2) := by decide +kernel
theorem dX7_step_107 : decode cX7_step 107 = .ok (.if_icmp .ne 7, 3) := by decide +kernel
theorem dX7_step_110 : decode cX7_step 110 = .ok (.iconst 3, 1) := by decide +kernel
theorem dX7_step_111 : decode cX7_step 111 = .ok (.goto 4, 3) := by decide +kernel
theorem dX7_step_114 : decode cX7_step 114 = .ok (.iconst 4, 1) := by decide +kernel
theorem dX7_step_115 : decode cX7_step 115 = .ok (.putfield 103, 3) := by decide +kernel
theorem dX7_step_118 : decode cX7_step 118 = .ok (.aload_n 0, 1) := by decide +kernel
theorem dX7_step_119 : decode cX7_step 119 = .ok (.dup, 1) := by decide +kernel
theorem dX7_step_120 : decode cX7_step 120 = .ok (.getfield 82, 3) := by decide +kernel
theorem dX7_step_123 : decode cX7_step 123 = .ok (.iconst 1, 1) := by decide +kernel
theorem dX7_step_124 : decode cX7_step 124 = .ok (.iadd, 1) := by decide +kernel
theorem dX7_step_125 : decode cX7_step 125 = .ok (.putfield 82, 3) := by decide +kernel
theorem dX7_step_128 : decode cX7_step 128 = .ok (.return_, 1) := by decide +kernel
theorem dX7_readsFigures_0 : decode cX7_readsFigures 0 = .ok (.aload_n 0, 1) := by decide +kernel
theorem dX7_readsFigures_1 : decode cX7_readsFigures 1 = .ok (.invokevirtual 85, 3) := by decide +kernel
theorem dX7_readsFigures_4 : decode cX7_readsFigures 4 = .ok (.bipush 48, 2) := by decide +kernel
theorem dX7_readsFigures_6 : decode cX7_readsFigures 6 = .ok (.if_icmp .ne 7, 3) := by decide +kernel
theorem dX7_readsFigures_9 : decode cX7_readsFigures 9 = .ok (.iconst 1, 1) := by decide +kernel
theorem dX7_readsFigures_10 : decode cX7_readsFigures 10 = .ok (.goto 4, 3) := by decide +kernel
theorem dX7_readsFigures_13 : decode cX7_readsFigures 13 = .ok (.iconst 0, 1) := by decide +kernel
theorem dX7_readsFigures_14 : decode cX7_readsFigures 14 = .ok (.istore_n 1, 1) := by decide +kernel
theorem dX7_readsFigures_15 : decode cX7_readsFigures 15 = .ok (.aload_n 0, 1) := by decide +kernel
theorem dX7_readsFigures_16 : decode cX7_readsFigures 16 = .ok (.invokevirtual 110, 3) := by decide +kernel
theorem dX7_readsFigures_19 : decode cX7_readsFigures 19 = .ok (.ifCond .eq 51, 3) := by decide +kernel
theorem dX7_readsFigures_22 : decode cX7_readsFigures 22 = .ok (.aload_n 0, 1) := by decide +kernel
theorem dX7_readsFigures_23 : decode cX7_readsFigures 23 = .ok (.aload_n 0, 1) := by decide +kernel
theorem dX7_readsFigures_24 : decode cX7_readsFigures 24 = .ok (.getfield 100, 3) := by decide +kernel
theorem dX7_readsFigures_27 : decode cX7_readsFigures 27 = .ok (.bipush 99, 2) := by decide +kernel
theorem dX7_readsFigures_29 : decode cX7_readsFigures 29 = .ok (.if_icmp .le 10, 3) := by decide +kernel
theorem dX7_readsFigures_32 : decode cX7_readsFigures 32 = .ok (.aload_n 0, 1) := by decide +kernel
theorem dX7_readsFigures_33 : decode cX7_readsFigures 33 = .ok (.getfield 100, 3) := by decide +kernel
theorem dX7_readsFigures_36 : decode cX7_readsFigures 36 = .ok (.goto 18, 3) := by decide +kernel
theorem dX7_readsFigures_39 : decode cX7_readsFigures 39 = .ok (.bipush 10, 2) := by decide +kernel
theorem dX7_readsFigures_41 : decode cX7_readsFigures 41 = .ok (.aload_n 0, 1) := by decide +kernel
theorem dX7_readsFigures_42 : decode cX7_readsFigures 42 = .ok (.getfield 100, 3) := by decide +kernel
theorem dX7_readsFigures_45 : decode cX7_readsFigures 45 = .ok (.imul, 1) := by decide +kernel
theorem dX7_readsFigures_46 : decode cX7_readsFigures 46 = .ok (.aload_n 0, 1) := by decide +kernel
theorem dX7_readsFigures_47 : decode cX7_readsFigures 47 = .ok (.invokevirtual 85, 3) := by decide +kernel
theorem dX7_readsFigures_50 : decode cX7_readsFigures 50 = .ok (.iadd, 1) := by decide +kernel
theorem dX7_readsFigures_51 : decode cX7_readsFigures 51 = .ok (.bipush 48, 2) := by decide +kernel
theorem dX7_readsFigures_53 : decode cX7_readsFigures 53 = .ok (.isub, 1) := by decide +kernel
theorem dX7_readsFigures_54 : decode cX7_readsFigures 54 = .ok (.putfield 100, 3) := by decide +kernel
theorem dX7_readsFigures_57 : decode cX7_readsFigures 57 = .ok (.aload_n 0, 1) := by decide +kernel
theorem dX7_readsFigures_58 : decode cX7_readsFigures 58 = .ok (.dup, 1) := by decide +kernel
theorem dX7_readsFigures_59 : decode cX7_readsFigures 59 = .ok (.getfield 82, 3) := by decide +kernel
theorem dX7_readsFigures_62 : decode cX7_readsFigures 62 = .ok (.iconst 1, 1) := by decide +kernel
theorem dX7_readsFigures_63 : decode cX7_readsFigures 63 = .ok (.iadd, 1) := by decide +kernel
theorem dX7_readsFigures_64 : decode cX7_readsFigures 64 = .ok (.putfield 82, 3) := by decide +kernel
theorem dX7_readsFigures_67 : decode cX7_readsFigures 67 = .ok (.goto (-52), 3) := by decide +kernel
theorem dX7_readsFigures_70 : decode cX7_readsFigures 70 = .ok (.aload_n 0, 1) := by decide +kernel
theorem dX7_readsFigures_71 : decode cX7_readsFigures 71 = .ok (.aload_n 0, 1) := by decide +kernel
theorem dX7_readsFigures_72 : decode cX7_readsFigures 72 = .ok (.getfield 100, 3) := by decide +kernel
theorem dX7_readsFigures_75 : decode cX7_readsFigures 75 = .ok (.bipush 99, 2) := by decide +kernel
theorem dX7_readsFigures_77 : decode cX7_readsFigures 77 = .ok (.if_icmp .gt 20, 3) := by decide +kernel
theorem dX7_readsFigures_80 : decode cX7_readsFigures 80 = .ok (.iload_n 1, 1) := by decide +kernel
theorem dX7_readsFigures_81 : decode cX7_readsFigures 81 = .ok (.ifCond .eq 20, 3) := by decide +kernel
theorem dX7_readsFigures_84 : decode cX7_readsFigures 84 = .ok (.aload_n 0, 1) := by decide +kernel
theorem dX7_readsFigures_85 : decode cX7_readsFigures 85 = .ok (.getfield 82, 3) := by decide +kernel
theorem dX7_readsFigures_88 : decode cX7_readsFigures 88 = .ok (.aload_n 0, 1) := by decide +kernel
theorem dX7_readsFigures_89 : decode cX7_readsFigures 89 = .ok (.getfield 97, 3) := by decide +kernel
theorem dX7_readsFigures_92 : decode cX7_readsFigures 92 = .ok (.isub, 1) := by decide +kernel
theorem dX7_readsFigures_93 : decode cX7_readsFigures 93 = .ok (.iconst 1, 1) := by decide +kernel
theorem dX7_readsFigures_94 : decode cX7_readsFigures 94 = .ok (.if_icmp .le 7, 3) := by decide +kernel
theorem dX7_readsFigures_97 : decode cX7_readsFigures 97 = .ok (.iconst 4, 1) := by decide +kernel
theorem dX7_readsFigures_98 : decode cX7_readsFigures 98 = .ok (.goto 4, 3) := by decide +kernel
theorem dX7_readsFigures_101 : decode cX7_readsFigures 101 = .ok (.iconst 2, 1) := by decide +kernel
theorem dX7_readsFigures_102 : decode cX7_readsFigures 102 = .ok (.putfield 103, 3) := by decide +kernel
theorem dX7_readsFigures_105 : decode cX7_readsFigures 105 = .ok (.return_, 1) := by decide +kernel
theorem dX7_number_0 : decode cX7_number 0 = .ok (.aload_n 0, 1) := by decide +kernel
theorem dX7_number_1 : decode cX7_number 1 = .ok (.invokevirtual 116, 3) := by decide +kernel
theorem dX7_number_4 : decode cX7_number 4 = .ok (.aload_n 0, 1) := by decide +kernel
theorem dX7_number_5 : decode cX7_number 5 = .ok (.getfield 103, 3) := by decide +kernel
theorem dX7_number_8 : decode cX7_number 8 = .ok (.iconst 2, 1) := by decide +kernel
theorem dX7_number_9 : decode cX7_number 9 = .ok (.if_icmp .ne 22, 3) := by decide +kernel
theorem dX7_number_12 : decode cX7_number 12 = .ok (.aload_n 0, 1) := by decide +kernel
theorem dX7_number_13 : decode cX7_number 13 = .ok (.getfield 100, 3) := by decide +kernel
theorem dX7_number_16 : decode cX7_number 16 = .ok (.i2l, 1) := by decide +kernel
theorem dX7_number_17 : decode cX7_number 17 = .ok (.iload_n 1, 1) := by decide +kernel
theorem dX7_number_18 : decode cX7_number 18 = .ok (.i2l, 1) := by decide +kernel
theorem dX7_number_19 : decode cX7_number 19 = .ok (.iload_n 2, 1) := by decide +kernel
theorem dX7_number_20 : decode cX7_number 20 = .ok (.i2l, 1) := by decide +kernel
theorem dX7_number_21 : decode cX7_number 21 = .ok (.invokestatic 75, 3) := by decide +kernel
theorem dX7_number_24 : decode cX7_number 24 = .ok (.ifCond .eq 7, 3) := by decide +kernel
theorem dX7_number_27 : decode cX7_number 27 = .ok (.iconst 1, 1) := by decide +kernel
theorem dX7_number_28 : decode cX7_number 28 = .ok (.goto 4, 3) := by decide +kernel
theorem dX7_number_31 : decode cX7_number 31 = .ok (.iconst 0, 1) := by decide +kernel
theorem dX7_number_32 : decode cX7_number 32 = .ok (.ireturn, 1) := by decide +kernel
theorem dX7_row_0 : decode cX7_row 0 = .ok (.aload_n 0, 1) := by decide +kernel
theorem dX7_row_1 : decode cX7_row 1 = .ok (.invokevirtual 116, 3) := by decide +kernel
theorem dX7_row_4 : decode cX7_row 4 = .ok (.iconst 0, 1) := by decide +kernel
theorem dX7_row_5 : decode cX7_row 5 = .ok (.istore_n 3, 1) := by decide +kernel
theorem dX7_row_6 : decode cX7_row 6 = .ok (.aload_n 0, 1) := by decide +kernel
theorem dX7_row_7 : decode cX7_row 7 = .ok (.getfield 97, 3) := by decide +kernel
theorem dX7_row_10 : decode cX7_row 10 = .ok (.istore 4, 2) := by decide +kernel
theorem dX7_row_12 : decode cX7_row 12 = .ok (.iload 4, 2) := by decide +kernel
theorem dX7_row_14 : decode cX7_row 14 = .ok (.aload_n 0, 1) := by decide +kernel
theorem dX7_row_15 : decode cX7_row 15 = .ok (.getfield 82, 3) := by decide +kernel
theorem dX7_row_18 : decode cX7_row 18 = .ok (.if_icmp .ge 54, 3) := by decide +kernel
theorem dX7_row_21 : decode cX7_row 21 = .ok (.aload_n 0, 1) := by decide +kernel
theorem dX7_row_22 : decode cX7_row 22 = .ok (.getfield 103, 3) := by decide +kernel
theorem dX7_row_25 : decode cX7_row 25 = .ok (.iconst 1, 1) := by decide +kernel
theorem dX7_row_26 : decode cX7_row 26 = .ok (.if_icmp .ne 46, 3) := by decide +kernel
theorem dX7_row_29 : decode cX7_row 29 = .ok (.aload_n 0, 1) := by decide +kernel
theorem dX7_row_30 : decode cX7_row 30 = .ok (.getfield 45, 3) := by decide +kernel
theorem dX7_row_33 : decode cX7_row 33 = .ok (.iload 4, 2) := by decide +kernel
theorem dX7_row_35 : decode cX7_row 35 = .ok (.iaload, 1) := by decide +kernel
theorem dX7_row_36 : decode cX7_row 36 = .ok (.i2l, 1) := by decide +kernel
theorem dX7_row_37 : decode cX7_row 37 = .ok (.ldc2_w 89, 3) := by decide +kernel
theorem dX7_row_40 : decode cX7_row 40 = .ok (.ldc2_w 119, 3) := by decide +kernel
theorem dX7_row_43 : decode cX7_row 43 = .ok (.invokestatic 75, 3) := by decide +kernel
theorem dX7_row_46 : decode cX7_row 46 = .ok (.ifCond .ne 5, 3) := by decide +kernel
theorem dX7_row_49 : decode cX7_row 49 = .ok (.iconst 0, 1) := by decide +kernel
theorem dX7_row_50 : decode cX7_row 50 = .ok (.ireturn, 1) := by decide +kernel
theorem dX7_row_51 : decode cX7_row 51 = .ok (.iload_n 3, 1) := by decide +kernel
theorem dX7_row_52 : decode cX7_row 52 = .ok (.iconst 1, 1) := by decide +kernel
theorem dX7_row_53 : decode cX7_row 53 = .ok (.aload_n 0, 1) := by decide +kernel
theorem dX7_row_54 : decode cX7_row 54 = .ok (.getfield 45, 3) := by decide +kernel
theorem dX7_row_57 : decode cX7_row 57 = .ok (.iload 4, 2) := by decide +kernel
theorem dX7_row_59 : decode cX7_row 59 = .ok (.iaload, 1) := by decide +kernel
theorem dX7_row_60 : decode cX7_row 60 = .ok (.bipush 97, 2) := by decide +kernel
theorem dX7_row_62 : decode cX7_row 62 = .ok (.isub, 1) := by decide +kernel
theorem dX7_row_63 : decode cX7_row 63 = .ok (.ishl, 1) := by decide +kernel
theorem dX7_row_64 : decode cX7_row 64 = .ok (.ior, 1) := by decide +kernel
theorem dX7_row_65 : decode cX7_row 65 = .ok (.istore_n 3, 1) := by decide +kernel
theorem dX7_row_66 : decode cX7_row 66 = .ok (.iinc 4 1, 3) := by decide +kernel
theorem dX7_row_69 : decode cX7_row 69 = .ok (.goto (-57), 3) := by decide +kernel
theorem dX7_row_72 : decode cX7_row 72 = .ok (.aload_n 0, 1) := by decide +kernel
theorem dX7_row_73 : decode cX7_row 73 = .ok (.getfield 103, 3) := by decide +kernel
theorem dX7_row_76 : decode cX7_row 76 = .ok (.iconst 1, 1) := by decide +kernel
theorem dX7_row_77 : decode cX7_row 77 = .ok (.if_icmp .ne 27, 3) := by decide +kernel
theorem dX7_row_80 : decode cX7_row 80 = .ok (.aload_n 0, 1) := by decide +kernel
theorem dX7_row_81 : decode cX7_row 81 = .ok (.getfield 82, 3) := by decide +kernel
theorem dX7_row_84 : decode cX7_row 84 = .ok (.aload_n 0, 1) := by decide +kernel
theorem dX7_row_85 : decode cX7_row 85 = .ok (.getfield 97, 3) := by decide +kernel
theorem dX7_row_88 : decode cX7_row 88 = .ok (.isub, 1) := by decide +kernel
theorem dX7_row_89 : decode cX7_row 89 = .ok (.i2l, 1) := by decide +kernel
theorem dX7_row_90 : decode cX7_row 90 = .ok (.iload_n 1, 1) := by decide +kernel
theorem dX7_row_91 : decode cX7_row 91 = .ok (.i2l, 1) := by decide +kernel
theorem dX7_row_92 : decode cX7_row 92 = .ok (.iload_n 2, 1) := by decide +kernel
theorem dX7_row_93 : decode cX7_row 93 = .ok (.i2l, 1) := by decide +kernel
theorem dX7_row_94 : decode cX7_row 94 = .ok (.invokestatic 75, 3) := by decide +kernel
theorem dX7_row_97 : decode cX7_row 97 = .ok (.ifCond .eq 7, 3) := by decide +kernel
theorem dX7_row_100 : decode cX7_row 100 = .ok (.iload_n 3, 1) := by decide +kernel
theorem dX7_row_101 : decode cX7_row 101 = .ok (.goto 4, 3) := by decide +kernel
theorem dX7_row_104 : decode cX7_row 104 = .ok (.iconst 0, 1) := by decide +kernel
theorem dX7_row_105 : decode cX7_row 105 = .ok (.ireturn, 1) := by decide +kernel
theorem dX7_isLeaf_0 : decode cX7_isLeaf 0 = .ok (.aload_n 0, 1) := by decide +kernel
theorem dX7_isLeaf_1 : decode cX7_isLeaf 1 = .ok (.getfield 121, 3) := by decide +kernel
theorem dX7_isLeaf_4 : decode cX7_isLeaf 4 = .ok (.iconst 5, 1) := by decide +kernel
theorem dX7_isLeaf_5 : decode cX7_isLeaf 5 = .ok (.if_icmp .ne 5, 3) := by decide +kernel
theorem dX7_isLeaf_8 : decode cX7_isLeaf 8 = .ok (.iconst 0, 1) := by decide +kernel
theorem dX7_isLeaf_9 : decode cX7_isLeaf 9 = .ok (.ireturn, 1) := by decide +kernel
theorem dX7_isLeaf_10 : decode cX7_isLeaf 10 = .ok (.aload_n 0, 1) := by decide +kernel
theorem dX7_isLeaf_11 : decode cX7_isLeaf 11 = .ok (.iconst 1, 1) := by decide +kernel
theorem dX7_isLeaf_12 : decode cX7_isLeaf 12 = .ok (.bipush 6, 2) := by decide +kernel
theorem dX7_isLeaf_14 : decode cX7_isLeaf 14 = .ok (.invokevirtual 124, 3) := by decide +kernel
theorem dX7_isLeaf_17 : decode cX7_isLeaf 17 = .ok (.istore_n 1, 1) := by decide +kernel
theorem dX7_isLeaf_18 : decode cX7_isLeaf 18 = .ok (.iload_n 1, 1) := by decide +kernel
theorem dX7_isLeaf_19 : decode cX7_isLeaf 19 = .ok (.ifCond .ne 5, 3) := by decide +kernel
theorem dX7_isLeaf_22 : decode cX7_isLeaf 22 = .ok (.iconst 0, 1) := by decide +kernel
theorem dX7_isLeaf_23 : decode cX7_isLeaf 23 = .ok (.ireturn, 1) := by decide +kernel
theorem dX7_isLeaf_24 : decode cX7_isLeaf 24 = .ok (.aload_n 0, 1) := by decide +kernel
theorem dX7_isLeaf_25 : decode cX7_isLeaf 25 = .ok (.getfield 48, 3) := by decide +kernel
theorem dX7_isLeaf_28 : decode cX7_isLeaf 28 = .ok (.aload_n 0, 1) := by decide +kernel
theorem dX7_isLeaf_29 : decode cX7_isLeaf 29 = .ok (.getfield 121, 3) := by decide +kernel
theorem dX7_isLeaf_32 : decode cX7_isLeaf 32 = .ok (.iload_n 1, 1) := by decide +kernel
theorem dX7_isLeaf_33 : decode cX7_isLeaf 33 = .ok (.iastore, 1) := by decide +kernel
theorem dX7_isLeaf_34 : decode cX7_isLeaf 34 = .ok (.aload_n 0, 1) := by decide +kernel
theorem dX7_isLeaf_35 : decode cX7_isLeaf 35 = .ok (.dup, 1) := by decide +kernel
theorem dX7_isLeaf_36 : decode cX7_isLeaf 36 = .ok (.getfield 121, 3) := by decide +kernel
theorem dX7_isLeaf_39 : decode cX7_isLeaf 39 = .ok (.iconst 1, 1) := by decide +kernel
theorem dX7_isLeaf_40 : decode cX7_isLeaf 40 = .ok (.iadd, 1) := by decide +kernel
theorem dX7_isLeaf_41 : decode cX7_isLeaf 41 = .ok (.putfield 121, 3) := by decide +kernel
theorem dX7_isLeaf_44 : decode cX7_isLeaf 44 = .ok (.iconst 1, 1) := by decide +kernel
theorem dX7_isLeaf_45 : decode cX7_isLeaf 45 = .ok (.ireturn, 1) := by decide +kernel
theorem dX7_isGoer_0 : decode cX7_isGoer 0 = .ok (.aload_n 0, 1) := by decide +kernel
theorem dX7_isGoer_1 : decode cX7_isGoer 1 = .ok (.getfield 128, 3) := by decide +kernel
theorem dX7_isGoer_4 : decode cX7_isGoer 4 = .ok (.bipush 6, 2) := by decide +kernel
theorem dX7_isGoer_6 : decode cX7_isGoer 6 = .ok (.if_icmp .ne 5, 3) := by decide +kernel
theorem dX7_isGoer_9 : decode cX7_isGoer 9 = .ok (.iconst 0, 1) := by decide +kernel
theorem dX7_isGoer_10 : decode cX7_isGoer 10 = .ok (.ireturn, 1) := by decide +kernel
theorem dX7_isGoer_11 : decode cX7_isGoer 11 = .ok (.aload_n 0, 1) := by decide +kernel
theorem dX7_isGoer_12 : decode cX7_isGoer 12 = .ok (.iconst 1, 1) := by decide +kernel
theorem dX7_isGoer_13 : decode cX7_isGoer 13 = .ok (.bipush 6, 2) := by decide +kernel
theorem dX7_isGoer_15 : decode cX7_isGoer 15 = .ok (.invokevirtual 124, 3) := by decide +kernel
theorem dX7_isGoer_18 : decode cX7_isGoer 18 = .ok (.istore_n 1, 1) := by decide +kernel
theorem dX7_isGoer_19 : decode cX7_isGoer 19 = .ok (.iload_n 1, 1) := by decide +kernel
theorem dX7_isGoer_20 : decode cX7_isGoer 20 = .ok (.ifCond .ne 5, 3) := by decide +kernel
theorem dX7_isGoer_23 : decode cX7_isGoer 23 = .ok (.iconst 0, 1) := by decide +kernel
theorem dX7_isGoer_24 : decode cX7_isGoer 24 = .ok (.ireturn, 1) := by decide +kernel
theorem dX7_isGoer_25 : decode cX7_isGoer 25 = .ok (.aload_n 0, 1) := by decide +kernel
theorem dX7_isGoer_26 : decode cX7_isGoer 26 = .ok (.getfield 51, 3) := by decide +kernel
theorem dX7_isGoer_29 : decode cX7_isGoer 29 = .ok (.aload_n 0, 1) := by decide +kernel
theorem dX7_isGoer_30 : decode cX7_isGoer 30 = .ok (.getfield 128, 3) := by decide +kernel
theorem dX7_isGoer_33 : decode cX7_isGoer 33 = .ok (.iload_n 1, 1) := by decide +kernel
theorem dX7_isGoer_34 : decode cX7_isGoer 34 = .ok (.iastore, 1) := by decide +kernel
theorem dX7_isGoer_35 : decode cX7_isGoer 35 = .ok (.aload_n 0, 1) := by decide +kernel
theorem dX7_isGoer_36 : decode cX7_isGoer 36 = .ok (.dup, 1) := by decide +kernel
theorem dX7_isGoer_37 : decode cX7_isGoer 37 = .ok (.getfield 128, 3) := by decide +kernel
theorem dX7_isGoer_40 : decode cX7_isGoer 40 = .ok (.iconst 1, 1) := by decide +kernel
theorem dX7_isGoer_41 : decode cX7_isGoer 41 = .ok (.iadd, 1) := by decide +kernel
theorem dX7_isGoer_42 : decode cX7_isGoer 42 = .ok (.putfield 128, 3) := by decide +kernel
theorem dX7_isGoer_45 : decode cX7_isGoer 45 = .ok (.iconst 1, 1) := by decide +kernel
theorem dX7_isGoer_46 : decode cX7_isGoer 46 = .ok (.ireturn, 1) := by decide +kernel
theorem dX7_isSister_0 : decode cX7_isSister 0 = .ok (.aload_n 0, 1) := by decide +kernel
theorem dX7_isSister_1 : decode cX7_isSister 1 = .ok (.getfield 131, 3) := by decide +kernel
theorem dX7_isSister_4 : decode cX7_isSister 4 = .ok (.iconst 4, 1) := by decide +kernel
theorem dX7_isSister_5 : decode cX7_isSister 5 = .ok (.if_icmp .eq 14, 3) := by decide +kernel
theorem dX7_isSister_8 : decode cX7_isSister 8 = .ok (.aload_n 0, 1) := by decide +kernel
theorem dX7_isSister_9 : decode cX7_isSister 9 = .ok (.bipush 6, 2) := by decide +kernel
theorem dX7_isSister_11 : decode cX7_isSister 11 = .ok (.bipush 6, 2) := by decide +kernel
theorem dX7_isSister_13 : decode cX7_isSister 13 = .ok (.invokevirtual 124, 3) := by decide +kernel
theorem dX7_isSister_16 : decode cX7_isSister 16 = .ok (.ifCond .ne 5, 3) := by decide +kernel
theorem dX7_isSister_19 : decode cX7_isSister 19 = .ok (.iconst 0, 1) := by decide +kernel
theorem dX7_isSister_20 : decode cX7_isSister 20 = .ok (.ireturn, 1) := by decide +kernel
theorem dX7_isSister_21 : decode cX7_isSister 21 = .ok (.iconst 0, 1) := by decide +kernel
theorem dX7_isSister_22 : decode cX7_isSister 22 = .ok (.istore_n 1, 1) := by decide +kernel
theorem dX7_isSister_23 : decode cX7_isSister 23 = .ok (.iload_n 1, 1) := by decide +kernel
theorem dX7_isSister_24 : decode cX7_isSister 24 = .ok (.bipush 6, 2) := by decide +kernel
theorem dX7_isSister_26 : decode cX7_isSister 26 = .ok (.if_icmp .ge 37, 3) := by decide +kernel
theorem dX7_isSister_29 : decode cX7_isSister 29 = .ok (.aload_n 0, 1) := by decide +kernel
theorem dX7_isSister_30 : decode cX7_isSister 30 = .ok (.getfield 54, 3) := by decide +kernel
theorem dX7_isSister_33 : decode cX7_isSister 33 = .ok (.bipush 6, 2) := by decide +kernel
theorem dX7_isSister_35 : decode cX7_isSister 35 = .ok (.aload_n 0, 1) := by decide +kernel
theorem dX7_isSister_36 : decode cX7_isSister 36 = .ok (.getfield 131, 3) := by decide +kernel
theorem dX7_isSister_39 : decode cX7_isSister 39 = .ok (.imul, 1) := by decide +kernel
theorem dX7_isSister_40 : decode cX7_isSister 40 = .ok (.iload_n 1, 1) := by decide +kernel
theorem dX7_isSister_41 : decode cX7_isSister 41 = .ok (.iadd, 1) := by decide +kernel
theorem dX7_isSister_42 : decode cX7_isSister 42 = .ok (.aload_n 0, 1) := by decide +kernel
theorem dX7_isSister_43 : decode cX7_isSister 43 = .ok (.getfield 45, 3) := by decide +kernel
theorem dX7_isSister_46 : decode cX7_isSister 46 = .ok (.aload_n 0, 1) := by decide +kernel
theorem dX7_isSister_47 : decode cX7_isSister 47 = .ok (.getfield 97, 3) := by decide +kernel
theorem dX7_isSister_50 : decode cX7_isSister 50 = .ok (.iload_n 1, 1) := by decide +kernel
theorem dX7_isSister_51 : decode cX7_isSister 51 = .ok (.iadd, 1) := by decide +kernel
theorem dX7_isSister_52 : decode cX7_isSister 52 = .ok (.iaload, 1) := by decide +kernel
theorem dX7_isSister_53 : decode cX7_isSister 53 = .ok (.bipush 97, 2) := by decide +kernel
theorem dX7_isSister_55 : decode cX7_isSister 55 = .ok (.isub, 1) := by decide +kernel
theorem dX7_isSister_56 : decode cX7_isSister 56 = .ok (.iastore, 1) := by decide +kernel
theorem dX7_isSister_57 : decode cX7_isSister 57 = .ok (.iinc 1 1, 3) := by decide +kernel
theorem dX7_isSister_60 : decode cX7_isSister 60 = .ok (.goto (-37), 3) := by decide +kernel
theorem dX7_isSister_63 : decode cX7_isSister 63 = .ok (.aload_n 0, 1) := by decide +kernel
theorem dX7_isSister_64 : decode cX7_isSister 64 = .ok (.dup, 1) := by decide +kernel
theorem dX7_isSister_65 : decode cX7_isSister 65 = .ok (.getfield 131, 3) := by decide +kernel
theorem dX7_isSister_68 : decode cX7_isSister 68 = .ok (.iconst 1, 1) := by decide +kernel
theorem dX7_isSister_69 : decode cX7_isSister 69 = .ok (.iadd, 1) := by decide +kernel
theorem dX7_isSister_70 : decode cX7_isSister 70 = .ok (.putfield 131, 3) := by decide +kernel
theorem dX7_isSister_73 : decode cX7_isSister 73 = .ok (.iconst 1, 1) := by decide +kernel
theorem dX7_isSister_74 : decode cX7_isSister 74 = .ok (.ireturn, 1) := by decide +kernel
theorem dX7_isFriday_0 : decode cX7_isFriday 0 = .ok (.aload_n 0, 1) := by decide +kernel
theorem dX7_isFriday_1 : decode cX7_isFriday 1 = .ok (.getfield 134, 3) := by decide +kernel
theorem dX7_isFriday_4 : decode cX7_isFriday 4 = .ok (.iconst 3, 1) := by decide +kernel
theorem dX7_isFriday_5 : decode cX7_isFriday 5 = .ok (.if_icmp .eq 13, 3) := by decide +kernel
theorem dX7_isFriday_8 : decode cX7_isFriday 8 = .ok (.aload_n 0, 1) := by decide +kernel
theorem dX7_isFriday_9 : decode cX7_isFriday 9 = .ok (.iconst 2, 1) := by decide +kernel
theorem dX7_isFriday_10 : decode cX7_isFriday 10 = .ok (.bipush 12, 2) := by decide +kernel
theorem dX7_isFriday_12 : decode cX7_isFriday 12 = .ok (.invokevirtual 137, 3) := by decide +kernel
theorem dX7_isFriday_15 : decode cX7_isFriday 15 = .ok (.ifCond .ne 5, 3) := by decide +kernel
theorem dX7_isFriday_18 : decode cX7_isFriday 18 = .ok (.iconst 0, 1) := by decide +kernel
theorem dX7_isFriday_19 : decode cX7_isFriday 19 = .ok (.ireturn, 1) := by decide +kernel
theorem dX7_isFriday_20 : decode cX7_isFriday 20 = .ok (.aload_n 0, 1) := by decide +kernel
theorem dX7_isFriday_21 : decode cX7_isFriday 21 = .ok (.getfield 100, 3) := by decide +kernel
theorem dX7_isFriday_24 : decode cX7_isFriday 24 = .ok (.istore_n 1, 1) := by decide +kernel
theorem dX7_isFriday_25 : decode cX7_isFriday 25 = .ok (.aload_n 0, 1) := by decide +kernel
theorem dX7_isFriday_26 : decode cX7_isFriday 26 = .ok (.iconst 0, 1) := by decide +kernel
theorem dX7_isFriday_27 : decode cX7_isFriday 27 = .ok (.iload_n 1, 1) := by decide +kernel
theorem dX7_isFriday_28 : decode cX7_isFriday 28 = .ok (.iconst 1, 1) := by decide +kernel
theorem dX7_isFriday_29 : decode cX7_isFriday 29 = .ok (.isub, 1) := by decide +kernel
theorem dX7_isFriday_30 : decode cX7_isFriday 30 = .ok (.invokevirtual 137, 3) := by decide +kernel
theorem dX7_isFriday_33 : decode cX7_isFriday 33 = .ok (.ifCond .ne 5, 3) := by decide +kernel
theorem dX7_isFriday_36 : decode cX7_isFriday 36 = .ok (.iconst 0, 1) := by decide +kernel
theorem dX7_isFriday_37 : decode cX7_isFriday 37 = .ok (.ireturn, 1) := by decide +kernel
theorem dX7_isFriday_38 : decode cX7_isFriday 38 = .ok (.aload_n 0, 1) := by decide +kernel
theorem dX7_isFriday_39 : decode cX7_isFriday 39 = .ok (.getfield 57, 3) := by decide +kernel
theorem dX7_isFriday_42 : decode cX7_isFriday 42 = .ok (.aload_n 0, 1) := by decide +kernel
theorem dX7_isFriday_43 : decode cX7_isFriday 43 = .ok (.getfield 134, 3) := by decide +kernel
theorem dX7_isFriday_46 : decode cX7_isFriday 46 = .ok (.iload_n 1, 1) := by decide +kernel
theorem dX7_isFriday_47 : decode cX7_isFriday 47 = .ok (.iastore, 1) := by decide +kernel
theorem dX7_isFriday_48 : decode cX7_isFriday 48 = .ok (.aload_n 0, 1) := by decide +kernel
theorem dX7_isFriday_49 : decode cX7_isFriday 49 = .ok (.getfield 60, 3) := by decide +kernel
theorem dX7_isFriday_52 : decode cX7_isFriday 52 = .ok (.aload_n 0, 1) := by decide +kernel
theorem dX7_isFriday_53 : decode cX7_isFriday 53 = .ok (.getfield 134, 3) := by decide +kernel
theorem dX7_isFriday_56 : decode cX7_isFriday 56 = .ok (.aload_n 0, 1) := by decide +kernel
theorem dX7_isFriday_57 : decode cX7_isFriday 57 = .ok (.getfield 100, 3) := by decide +kernel
theorem dX7_isFriday_60 : decode cX7_isFriday 60 = .ok (.iastore, 1) := by decide +kernel
theorem dX7_isFriday_61 : decode cX7_isFriday 61 = .ok (.aload_n 0, 1) := by decide +kernel
theorem dX7_isFriday_62 : decode cX7_isFriday 62 = .ok (.dup, 1) := by decide +kernel
theorem dX7_isFriday_63 : decode cX7_isFriday 63 = .ok (.getfield 134, 3) := by decide +kernel
theorem dX7_isFriday_66 : decode cX7_isFriday 66 = .ok (.iconst 1, 1) := by decide +kernel
theorem dX7_isFriday_67 : decode cX7_isFriday 67 = .ok (.iadd, 1) := by decide +kernel
theorem dX7_isFriday_68 : decode cX7_isFriday 68 = .ok (.putfield 134, 3) := by decide +kernel
theorem dX7_isFriday_71 : decode cX7_isFriday 71 = .ok (.iconst 1, 1) := by decide +kernel
theorem dX7_isFriday_72 : decode cX7_isFriday 72 = .ok (.ireturn, 1) := by decide +kernel
theorem dX7_isLane_0 : decode cX7_isLane 0 = .ok (.aload_n 0, 1) := by decide +kernel
theorem dX7_isLane_1 : decode cX7_isLane 1 = .ok (.getfield 140, 3) := by decide +kernel
theorem dX7_isLane_4 : decode cX7_isLane 4 = .ok (.ifCond .gt 13, 3) := by decide +kernel
theorem dX7_isLane_7 : decode cX7_isLane 7 = .ok (.aload_n 0, 1) := by decide +kernel
theorem dX7_isLane_8 : decode cX7_isLane 8 = .ok (.iconst 1, 1) := by decide +kernel
theorem dX7_isLane_9 : decode cX7_isLane 9 = .ok (.bipush 9, 2) := by decide +kernel
theorem dX7_isLane_11 : decode cX7_isLane 11 = .ok (.invokevirtual 137, 3) := by decide +kernel
theorem dX7_isLane_14 : decode cX7_isLane 14 = .ok (.ifCond .ne 5, 3) := by decide +kernel
theorem dX7_isLane_17 : decode cX7_isLane 17 = .ok (.iconst 0, 1) := by decide +kernel
theorem dX7_isLane_18 : decode cX7_isLane 18 = .ok (.ireturn, 1) := by decide +kernel
theorem dX7_isLane_19 : decode cX7_isLane 19 = .ok (.aload_n 0, 1) := by decide +kernel
theorem dX7_isLane_20 : decode cX7_isLane 20 = .ok (.aload_n 0, 1) := by decide +kernel
theorem dX7_isLane_21 : decode cX7_isLane 21 = .ok (.getfield 100, 3) := by decide +kernel
theorem dX7_isLane_24 : decode cX7_isLane 24 = .ok (.putfield 140, 3) := by decide +kernel
theorem dX7_isLane_27 : decode cX7_isLane 27 = .ok (.iconst 1, 1) := by decide +kernel
theorem dX7_isLane_28 : decode cX7_isLane 28 = .ok (.ireturn, 1) := by decide +kernel
theorem dX7_isItem_0 : decode cX7_isItem 0 = .ok (.aload_n 0, 1) := by decide +kernel
theorem dX7_isItem_1 : decode cX7_isItem 1 = .ok (.getfield 103, 3) := by decide +kernel
theorem dX7_isItem_4 : decode cX7_isItem 4 = .ok (.iconst 1, 1) := by decide +kernel
theorem dX7_isItem_5 : decode cX7_isItem 5 = .ok (.if_icmp .ne 16, 3) := by decide +kernel
theorem dX7_isItem_8 : decode cX7_isItem 8 = .ok (.aload_n 0, 1) := by decide +kernel
theorem dX7_isItem_9 : decode cX7_isItem 9 = .ok (.getfield 82, 3) := by decide +kernel
theorem dX7_isItem_12 : decode cX7_isItem 12 = .ok (.aload_n 0, 1) := by decide +kernel
theorem dX7_isItem_13 : decode cX7_isItem 13 = .ok (.getfield 97, 3) := by decide +kernel
theorem dX7_isItem_16 : decode cX7_isItem 16 = .ok (.isub, 1) := by decide +kernel
theorem dX7_isItem_17 : decode cX7_isItem 17 = .ok (.iconst 1, 1) := by decide +kernel
theorem dX7_isItem_18 : decode cX7_isItem 18 = .ok (.if_icmp .eq 5, 3) := by decide +kernel
theorem dX7_isItem_21 : decode cX7_isItem 21 = .ok (.iconst 0, 1) := by decide +kernel
theorem dX7_isItem_22 : decode cX7_isItem 22 = .ok (.ireturn, 1) := by decide +kernel
theorem dX7_isItem_23 : decode cX7_isItem 23 = .ok (.aload_n 0, 1) := by decide +kernel
theorem dX7_isItem_24 : decode cX7_isItem 24 = .ok (.getfield 45, 3) := by decide +kernel
theorem dX7_isItem_27 : decode cX7_isItem 27 = .ok (.aload_n 0, 1) := by decide +kernel
theorem dX7_isItem_28 : decode cX7_isItem 28 = .ok (.getfield 97, 3) := by decide +kernel
theorem dX7_isItem_31 : decode cX7_isItem 31 = .ok (.iaload, 1) := by decide +kernel
theorem dX7_isItem_32 : decode cX7_isItem 32 = .ok (.lookupswitch 77 #[(103, 57), (107, 67), (110, 72), (118, 52), (121, 62)], 52) := by decide +kernel
theorem dX7_isItem_84 : decode cX7_isItem 84 = .ok (.aload_n 0, 1) := by decide +kernel
theorem dX7_isItem_85 : decode cX7_isItem 85 = .ok (.invokevirtual 143, 3) := by decide +kernel
theorem dX7_isItem_88 : decode cX7_isItem 88 = .ok (.ireturn, 1) := by decide +kernel
theorem dX7_isItem_89 : decode cX7_isItem 89 = .ok (.aload_n 0, 1) := by decide +kernel
theorem dX7_isItem_90 : decode cX7_isItem 90 = .ok (.invokevirtual 146, 3) := by decide +kernel
theorem dX7_isItem_93 : decode cX7_isItem 93 = .ok (.ireturn, 1) := by decide +kernel
theorem dX7_isItem_94 : decode cX7_isItem 94 = .ok (.aload_n 0, 1) := by decide +kernel
theorem dX7_isItem_95 : decode cX7_isItem 95 = .ok (.invokevirtual 149, 3) := by decide +kernel
theorem dX7_isItem_98 : decode cX7_isItem 98 = .ok (.ireturn, 1) := by decide +kernel
theorem dX7_isItem_99 : decode cX7_isItem 99 = .ok (.aload_n 0, 1) := by decide +kernel
theorem dX7_isItem_100 : decode cX7_isItem 100 = .ok (.invokevirtual 152, 3) := by decide +kernel
theorem dX7_isItem_103 : decode cX7_isItem 103 = .ok (.ireturn, 1) := by decide +kernel
theorem dX7_isItem_104 : decode cX7_isItem 104 = .ok (.aload_n 0, 1) := by decide +kernel
theorem dX7_isItem_105 : decode cX7_isItem 105 = .ok (.invokevirtual 155, 3) := by decide +kernel
theorem dX7_isItem_108 : decode cX7_isItem 108 = .ok (.ireturn, 1) := by decide +kernel
theorem dX7_isItem_109 : decode cX7_isItem 109 = .ok (.iconst 0, 1) := by decide +kernel
theorem dX7_isItem_110 : decode cX7_isItem 110 = .ok (.ireturn, 1) := by decide +kernel
theorem dX7_reads_0 : decode cX7_reads 0 = .ok (.aload_n 0, 1) := by decide +kernel
theorem dX7_reads_1 : decode cX7_reads 1 = .ok (.iconst 0, 1) := by decide +kernel
theorem dX7_reads_2 : decode cX7_reads 2 = .ok (.putfield 121, 3) := by decide +kernel
theorem dX7_reads_5 : decode cX7_reads 5 = .ok (.aload_n 0, 1) := by decide +kernel
theorem dX7_reads_6 : decode cX7_reads 6 = .ok (.iconst 0, 1) := by decide +kernel
theorem dX7_reads_7 : decode cX7_reads 7 = .ok (.putfield 128, 3) := by decide +kernel
theorem dX7_reads_10 : decode cX7_reads 10 = .ok (.aload_n 0, 1) := by decide +kernel
theorem dX7_reads_11 : decode cX7_reads 11 = .ok (.iconst 0, 1) := by decide +kernel
theorem dX7_reads_12 : decode cX7_reads 12 = .ok (.putfield 131, 3) := by decide +kernel
theorem dX7_reads_15 : decode cX7_reads 15 = .ok (.aload_n 0, 1) := by decide +kernel
theorem dX7_reads_16 : decode cX7_reads 16 = .ok (.iconst 0, 1) := by decide +kernel
theorem dX7_reads_17 : decode cX7_reads 17 = .ok (.putfield 134, 3) := by decide +kernel
theorem dX7_reads_20 : decode cX7_reads 20 = .ok (.aload_n 0, 1) := by decide +kernel
theorem dX7_reads_21 : decode cX7_reads 21 = .ok (.iconst 0, 1) := by decide +kernel
theorem dX7_reads_22 : decode cX7_reads 22 = .ok (.putfield 140, 3) := by decide +kernel
theorem dX7_reads_25 : decode cX7_reads 25 = .ok (.aload_n 0, 1) := by decide +kernel
theorem dX7_reads_26 : decode cX7_reads 26 = .ok (.iconst 0, 1) := by decide +kernel
theorem dX7_reads_27 : decode cX7_reads 27 = .ok (.putfield 82, 3) := by decide +kernel
theorem dX7_reads_30 : decode cX7_reads 30 = .ok (.iconst 0, 1) := by decide +kernel
theorem dX7_reads_31 : decode cX7_reads 31 = .ok (.istore_n 1, 1) := by decide +kernel
theorem dX7_reads_32 : decode cX7_reads 32 = .ok (.aload_n 0, 1) := by decide +kernel
theorem dX7_reads_33 : decode cX7_reads 33 = .ok (.invokevirtual 116, 3) := by decide +kernel
theorem dX7_reads_36 : decode cX7_reads 36 = .ok (.aload_n 0, 1) := by decide +kernel
theorem dX7_reads_37 : decode cX7_reads 37 = .ok (.getfield 103, 3) := by decide +kernel
theorem dX7_reads_40 : decode cX7_reads 40 = .ok (.ifCond .eq 48, 3) := by decide +kernel
theorem dX7_reads_43 : decode cX7_reads 43 = .ok (.aload_n 0, 1) := by decide +kernel
theorem dX7_reads_44 : decode cX7_reads 44 = .ok (.invokevirtual 158, 3) := by decide +kernel
theorem dX7_reads_47 : decode cX7_reads 47 = .ok (.ifCond .ne 11, 3) := by decide +kernel
theorem dX7_reads_50 : decode cX7_reads 50 = .ok (.bipush (-10), 2) := by decide +kernel
theorem dX7_reads_52 : decode cX7_reads 52 = .ok (.aload_n 0, 1) := by decide +kernel
theorem dX7_reads_53 : decode cX7_reads 53 = .ok (.getfield 97, 3) := by decide +kernel
theorem dX7_reads_56 : decode cX7_reads 56 = .ok (.isub, 1) := by decide +kernel
theorem dX7_reads_57 : decode cX7_reads 57 = .ok (.ireturn, 1) := by decide +kernel
theorem dX7_reads_58 : decode cX7_reads 58 = .ok (.aload_n 0, 1) := by decide +kernel
theorem dX7_reads_59 : decode cX7_reads 59 = .ok (.invokevirtual 116, 3) := by decide +kernel
theorem dX7_reads_62 : decode cX7_reads 62 = .ok (.aload_n 0, 1) := by decide +kernel
theorem dX7_reads_63 : decode cX7_reads 63 = .ok (.getfield 103, 3) := by decide +kernel
theorem dX7_reads_66 : decode cX7_reads 66 = .ok (.iconst 3, 1) := by decide +kernel
theorem dX7_reads_67 : decode cX7_reads 67 = .ok (.if_icmp .eq 11, 3) := by decide +kernel
theorem dX7_reads_70 : decode cX7_reads 70 = .ok (.bipush (-10), 2) := by decide +kernel
theorem dX7_reads_72 : decode cX7_reads 72 = .ok (.aload_n 0, 1) := by decide +kernel
theorem dX7_reads_73 : decode cX7_reads 73 = .ok (.getfield 97, 3) := by decide +kernel
theorem dX7_reads_76 : decode cX7_reads 76 = .ok (.isub, 1) := by decide +kernel
theorem dX7_reads_77 : decode cX7_reads 77 = .ok (.ireturn, 1) := by decide +kernel
theorem dX7_reads_78 : decode cX7_reads 78 = .ok (.iinc 1 1, 3) := by decide +kernel
theorem dX7_reads_81 : decode cX7_reads 81 = .ok (.aload_n 0, 1) := by decide +kernel
theorem dX7_reads_82 : decode cX7_reads 82 = .ok (.invokevirtual 116, 3) := by decide +kernel
theorem dX7_reads_85 : decode cX7_reads 85 = .ok (.goto (-49), 3) := by decide +kernel
theorem dX7_reads_88 : decode cX7_reads 88 = .ok (.iload_n 1, 1) := by decide +kernel
theorem dX7_reads_89 : decode cX7_reads 89 = .ok (.ireturn, 1) := by decide +kernel
theorem dX7_court_0 : decode cX7_court 0 = .ok (.aload_n 0, 1) := by decide +kernel
theorem dX7_court_1 : decode cX7_court 1 = .ok (.invokevirtual 161, 3) := by decide +kernel
theorem dX7_court_4 : decode cX7_court 4 = .ok (.istore_n 1, 1) := by decide +kernel
theorem dX7_court_5 : decode cX7_court 5 = .ok (.iload_n 1, 1) := by decide +kernel
theorem dX7_court_6 : decode cX7_court 6 = .ok (.ifCond .ge 5, 3) := by decide +kernel
theorem dX7_court_9 : decode cX7_court 9 = .ok (.iload_n 1, 1) := by decide +kernel
theorem dX7_court_10 : decode cX7_court 10 = .ok (.ireturn, 1) := by decide +kernel
theorem dX7_court_11 : decode cX7_court 11 = .ok (.aload_n 0, 1) := by decide +kernel
theorem dX7_court_12 : decode cX7_court 12 = .ok (.aload_n 0, 1) := by decide +kernel
theorem dX7_court_13 : decode cX7_court 13 = .ok (.getfield 121, 3) := by decide +kernel
theorem dX7_court_16 : decode cX7_court 16 = .ok (.putfield 164, 3) := by decide +kernel
theorem dX7_court_19 : decode cX7_court 19 = .ok (.aload_n 0, 1) := by decide +kernel
theorem dX7_court_20 : decode cX7_court 20 = .ok (.aload_n 0, 1) := by decide +kernel
theorem dX7_court_21 : decode cX7_court 21 = .ok (.getfield 128, 3) := by decide +kernel
theorem dX7_court_24 : decode cX7_court 24 = .ok (.putfield 167, 3) := by decide +kernel
theorem dX7_court_27 : decode cX7_court 27 = .ok (.aload_n 0, 1) := by decide +kernel
theorem dX7_court_28 : decode cX7_court 28 = .ok (.aload_n 0, 1) := by decide +kernel
theorem dX7_court_29 : decode cX7_court 29 = .ok (.getfield 131, 3) := by decide +kernel
theorem dX7_court_32 : decode cX7_court 32 = .ok (.putfield 170, 3) := by decide +kernel
theorem dX7_court_35 : decode cX7_court 35 = .ok (.aload_n 0, 1) := by decide +kernel
theorem dX7_court_36 : decode cX7_court 36 = .ok (.aload_n 0, 1) := by decide +kernel
theorem dX7_court_37 : decode cX7_court 37 = .ok (.getfield 134, 3) := by decide +kernel
theorem dX7_court_40 : decode cX7_court 40 = .ok (.putfield 173, 3) := by decide +kernel
theorem dX7_court_43 : decode cX7_court 43 = .ok (.aload_n 0, 1) := by decide +kernel
theorem dX7_court_44 : decode cX7_court 44 = .ok (.aload_n 0, 1) := by decide +kernel
theorem dX7_court_45 : decode cX7_court 45 = .ok (.getfield 140, 3) := by decide +kernel
theorem dX7_court_48 : decode cX7_court 48 = .ok (.ifCond .ne 7, 3) := by decide +kernel
theorem dX7_court_51 : decode cX7_court 51 = .ok (.iconst 3, 1) := by decide +kernel
theorem dX7_court_52 : decode cX7_court 52 = .ok (.goto 7, 3) := by decide +kernel
theorem dX7_court_55 : decode cX7_court 55 = .ok (.aload_n 0, 1) := by decide +kernel
theorem dX7_court_56 : decode cX7_court 56 = .ok (.getfield 140, 3) := by decide +kernel
theorem dX7_court_59 : decode cX7_court 59 = .ok (.putfield 25, 3) := by decide +kernel
theorem dX7_court_62 : decode cX7_court 62 = .ok (.aload_n 0, 1) := by decide +kernel
theorem dX7_court_63 : decode cX7_court 63 = .ok (.getfield 48, 3) := by decide +kernel
theorem dX7_court_66 : decode cX7_court 66 = .ok (.iconst 0, 1) := by decide +kernel
theorem dX7_court_67 : decode cX7_court 67 = .ok (.aload_n 0, 1) := by decide +kernel
theorem dX7_court_68 : decode cX7_court 68 = .ok (.getfield 7, 3) := by decide +kernel
theorem dX7_court_71 : decode cX7_court 71 = .ok (.iconst 0, 1) := by decide +kernel
theorem dX7_court_72 : decode cX7_court 72 = .ok (.iconst 5, 1) := by decide +kernel
theorem dX7_court_73 : decode cX7_court 73 = .ok (.invokestatic 176, 3) := by decide +kernel
theorem dX7_court_76 : decode cX7_court 76 = .ok (.aload_n 0, 1) := by decide +kernel
theorem dX7_court_77 : decode cX7_court 77 = .ok (.getfield 51, 3) := by decide +kernel
theorem dX7_court_80 : decode cX7_court 80 = .ok (.iconst 0, 1) := by decide +kernel
theorem dX7_court_81 : decode cX7_court 81 = .ok (.aload_n 0, 1) := by decide +kernel
theorem dX7_court_82 : decode cX7_court 82 = .ok (.getfield 13, 3) := by decide +kernel
theorem dX7_court_85 : decode cX7_court 85 = .ok (.iconst 0, 1) := by decide +kernel
theorem dX7_court_86 : decode cX7_court 86 = .ok (.bipush 6, 2) := by decide +kernel
theorem dX7_court_88 : decode cX7_court 88 = .ok (.invokestatic 176, 3) := by decide +kernel
theorem dX7_court_91 : decode cX7_court 91 = .ok (.aload_n 0, 1) := by decide +kernel
theorem dX7_court_92 : decode cX7_court 92 = .ok (.getfield 54, 3) := by decide +kernel
theorem dX7_court_95 : decode cX7_court 95 = .ok (.iconst 0, 1) := by decide +kernel
theorem dX7_court_96 : decode cX7_court 96 = .ok (.aload_n 0, 1) := by decide +kernel
theorem dX7_court_97 : decode cX7_court 97 = .ok (.getfield 16, 3) := by decide +kernel
theorem dX7_court_100 : decode cX7_court 100 = .ok (.iconst 0, 1) := by decide +kernel
theorem dX7_court_101 : decode cX7_court 101 = .ok (.bipush 24, 2) := by decide +kernel
theorem dX7_court_103 : decode cX7_court 103 = .ok (.invokestatic 176, 3) := by decide +kernel
theorem dX7_court_106 : decode cX7_court 106 = .ok (.aload_n 0, 1) := by decide +kernel
theorem dX7_court_107 : decode cX7_court 107 = .ok (.getfield 57, 3) := by decide +kernel
theorem dX7_court_110 : decode cX7_court 110 = .ok (.iconst 0, 1) := by decide +kernel
theorem dX7_court_111 : decode cX7_court 111 = .ok (.aload_n 0, 1) := by decide +kernel
theorem dX7_court_112 : decode cX7_court 112 = .ok (.getfield 19, 3) := by decide +kernel
theorem dX7_court_115 : decode cX7_court 115 = .ok (.iconst 0, 1) := by decide +kernel
theorem dX7_court_116 : decode cX7_court 116 = .ok (.iconst 3, 1) := by decide +kernel
theorem dX7_court_117 : decode cX7_court 117 = .ok (.invokestatic 176, 3) := by decide +kernel
theorem dX7_court_120 : decode cX7_court 120 = .ok (.aload_n 0, 1) := by decide +kernel
theorem dX7_court_121 : decode cX7_court 121 = .ok (.getfield 60, 3) := by decide +kernel
theorem dX7_court_124 : decode cX7_court 124 = .ok (.iconst 0, 1) := by decide +kernel
theorem dX7_court_125 : decode cX7_court 125 = .ok (.aload_n 0, 1) := by decide +kernel
theorem dX7_court_126 : decode cX7_court 126 = .ok (.getfield 22, 3) := by decide +kernel
theorem dX7_court_129 : decode cX7_court 129 = .ok (.iconst 0, 1) := by decide +kernel
theorem dX7_court_130 : decode cX7_court 130 = .ok (.iconst 3, 1) := by decide +kernel
theorem dX7_court_131 : decode cX7_court 131 = .ok (.invokestatic 176, 3) := by decide +kernel
theorem dX7_court_134 : decode cX7_court 134 = .ok (.iconst 0, 1) := by decide +kernel
theorem dX7_court_135 : decode cX7_court 135 = .ok (.istore_n 2, 1) := by decide +kernel
theorem dX7_court_136 : decode cX7_court 136 = .ok (.iload_n 2, 1) := by decide +kernel
theorem dX7_court_137 : decode cX7_court 137 = .ok (.bipush 21, 2) := by decide +kernel
theorem dX7_court_139 : decode cX7_court 139 = .ok (.if_icmp .ge 16, 3) := by decide +kernel
theorem dX7_court_142 : decode cX7_court 142 = .ok (.aload_n 0, 1) := by decide +kernel
theorem dX7_court_143 : decode cX7_court 143 = .ok (.getfield 29, 3) := by decide +kernel
theorem dX7_court_146 : decode cX7_court 146 = .ok (.iload_n 2, 1) := by decide +kernel
theorem dX7_court_147 : decode cX7_court 147 = .ok (.iconst 0, 1) := by decide +kernel
theorem dX7_court_148 : decode cX7_court 148 = .ok (.iastore, 1) := by decide +kernel
theorem dX7_court_149 : decode cX7_court 149 = .ok (.iinc 2 1, 3) := by decide +kernel
theorem dX7_court_152 : decode cX7_court 152 = .ok (.goto (-16), 3) := by decide +kernel
theorem dX7_court_155 : decode cX7_court 155 = .ok (.aload_n 0, 1) := by decide +kernel
theorem dX7_court_156 : decode cX7_court 156 = .ok (.iconst 0, 1) := by decide +kernel
theorem dX7_court_157 : decode cX7_court 157 = .ok (.putfield 180, 3) := by decide +kernel
theorem dX7_court_160 : decode cX7_court 160 = .ok (.aload_n 0, 1) := by decide +kernel
theorem dX7_court_161 : decode cX7_court 161 = .ok (.iconst 0, 1) := by decide +kernel
theorem dX7_court_162 : decode cX7_court 162 = .ok (.putfield 183, 3) := by decide +kernel
theorem dX7_court_165 : decode cX7_court 165 = .ok (.aload_n 0, 1) := by decide +kernel
theorem dX7_court_166 : decode cX7_court 166 = .ok (.getfield 38, 3) := by decide +kernel
theorem dX7_court_169 : decode cX7_court 169 = .ok (.iconst 0, 1) := by decide +kernel
theorem dX7_court_170 : decode cX7_court 170 = .ok (.iconst 0, 1) := by decide +kernel
theorem dX7_court_171 : decode cX7_court 171 = .ok (.bastore, 1) := by decide +kernel
theorem dX7_court_172 : decode cX7_court 172 = .ok (.aload_n 0, 1) := by decide +kernel
theorem dX7_court_173 : decode cX7_court 173 = .ok (.getfield 38, 3) := by decide +kernel
theorem dX7_court_176 : decode cX7_court 176 = .ok (.iconst 1, 1) := by decide +kernel
theorem dX7_court_177 : decode cX7_court 177 = .ok (.iconst 0, 1) := by decide +kernel
theorem dX7_court_178 : decode cX7_court 178 = .ok (.bastore, 1) := by decide +kernel
theorem dX7_court_179 : decode cX7_court 179 = .ok (.aload_n 0, 1) := by decide +kernel
theorem dX7_court_180 : decode cX7_court 180 = .ok (.iconst 0, 1) := by decide +kernel
theorem dX7_court_181 : decode cX7_court 181 = .ok (.putfield 79, 3) := by decide +kernel
theorem dX7_court_184 : decode cX7_court 184 = .ok (.iload_n 1, 1) := by decide +kernel
theorem dX7_court_185 : decode cX7_court 185 = .ok (.ireturn, 1) := by decide +kernel
theorem dX7_isTheLeaf_0 : decode cX7_isTheLeaf 0 = .ok (.iload_n 1, 1) := by decide +kernel
theorem dX7_isTheLeaf_1 : decode cX7_isTheLeaf 1 = .ok (.i2l, 1) := by decide +kernel
theorem dX7_isTheLeaf_2 : decode cX7_isTheLeaf 2 = .ok (.lconst 0, 1) := by decide +kernel
theorem dX7_isTheLeaf_3 : decode cX7_isTheLeaf 3 = .ok (.aload_n 0, 1) := by decide +kernel
theorem dX7_isTheLeaf_4 : decode cX7_isTheLeaf 4 = .ok (.getfield 164, 3) := by decide +kernel
theorem dX7_isTheLeaf_7 : decode cX7_isTheLeaf 7 = .ok (.iconst 1, 1) := by decide +kernel
theorem dX7_isTheLeaf_8 : decode cX7_isTheLeaf 8 = .ok (.isub, 1) := by decide +kernel
theorem dX7_isTheLeaf_9 : decode cX7_isTheLeaf 9 = .ok (.i2l, 1) := by decide +kernel
theorem dX7_isTheLeaf_10 : decode cX7_isTheLeaf 10 = .ok (.invokestatic 75, 3) := by decide +kernel
theorem dX7_isTheLeaf_13 : decode cX7_isTheLeaf 13 = .ok (.ireturn, 1) := by decide +kernel
theorem dX7_isOne_0 : decode cX7_isOne 0 = .ok (.iload_n 1, 1) := by decide +kernel
theorem dX7_isOne_1 : decode cX7_isOne 1 = .ok (.i2l, 1) := by decide +kernel
theorem dX7_isOne_2 : decode cX7_isOne 2 = .ok (.lconst 0, 1) := by decide +kernel
theorem dX7_isOne_3 : decode cX7_isOne 3 = .ok (.aload_n 0, 1) := by decide +kernel
theorem dX7_isOne_4 : decode cX7_isOne 4 = .ok (.getfield 167, 3) := by decide +kernel
theorem dX7_isOne_7 : decode cX7_isOne 7 = .ok (.iconst 1, 1) := by decide +kernel
theorem dX7_isOne_8 : decode cX7_isOne 8 = .ok (.isub, 1) := by decide +kernel
theorem dX7_isOne_9 : decode cX7_isOne 9 = .ok (.i2l, 1) := by decide +kernel
theorem dX7_isOne_10 : decode cX7_isOne 10 = .ok (.invokestatic 75, 3) := by decide +kernel
theorem dX7_isOne_13 : decode cX7_isOne 13 = .ok (.ireturn, 1) := by decide +kernel
theorem dX7_isTaste_0 : decode cX7_isTaste 0 = .ok (.iload_n 0, 1) := by decide +kernel
theorem dX7_isTaste_1 : decode cX7_isTaste 1 = .ok (.i2l, 1) := by decide +kernel
theorem dX7_isTaste_2 : decode cX7_isTaste 2 = .ok (.lconst 0, 1) := by decide +kernel
theorem dX7_isTaste_3 : decode cX7_isTaste 3 = .ok (.ldc2_w 186, 3) := by decide +kernel
theorem dX7_isTaste_6 : decode cX7_isTaste 6 = .ok (.invokestatic 75, 3) := by decide +kernel
theorem dX7_isTaste_9 : decode cX7_isTaste 9 = .ok (.ireturn, 1) := by decide +kernel
theorem dX7_isBit_0 : decode cX7_isBit 0 = .ok (.iload_n 0, 1) := by decide +kernel
theorem dX7_isBit_1 : decode cX7_isBit 1 = .ok (.i2l, 1) := by decide +kernel
theorem dX7_isBit_2 : decode cX7_isBit 2 = .ok (.lconst 0, 1) := by decide +kernel
theorem dX7_isBit_3 : decode cX7_isBit 3 = .ok (.lconst 1, 1) := by decide +kernel
theorem dX7_isBit_4 : decode cX7_isBit 4 = .ok (.invokestatic 75, 3) := by decide +kernel
theorem dX7_isBit_7 : decode cX7_isBit 7 = .ok (.ireturn, 1) := by decide +kernel
theorem dX7_lets_0 : decode cX7_lets 0 = .ok (.aload_n 0, 1) := by decide +kernel
theorem dX7_lets_1 : decode cX7_lets 1 = .ok (.getfield 7, 3) := by decide +kernel
theorem dX7_lets_4 : decode cX7_lets 4 = .ok (.iload_n 1, 1) := by decide +kernel
theorem dX7_lets_5 : decode cX7_lets 5 = .ok (.iaload, 1) := by decide +kernel
theorem dX7_lets_6 : decode cX7_lets 6 = .ok (.aload_n 0, 1) := by decide +kernel
theorem dX7_lets_7 : decode cX7_lets 7 = .ok (.getfield 13, 3) := by decide +kernel
theorem dX7_lets_10 : decode cX7_lets 10 = .ok (.iload_n 2, 1) := by decide +kernel
theorem dX7_lets_11 : decode cX7_lets 11 = .ok (.iaload, 1) := by decide +kernel
theorem dX7_lets_12 : decode cX7_lets 12 = .ok (.iand, 1) := by decide +kernel
theorem dX7_lets_13 : decode cX7_lets 13 = .ok (.ifCond .eq 7, 3) := by decide +kernel
theorem dX7_lets_16 : decode cX7_lets 16 = .ok (.iconst 1, 1) := by decide +kernel
theorem dX7_lets_17 : decode cX7_lets 17 = .ok (.goto 4, 3) := by decide +kernel
theorem dX7_lets_20 : decode cX7_lets 20 = .ok (.iconst 0, 1) := by decide +kernel
theorem dX7_lets_21 : decode cX7_lets 21 = .ok (.ireturn, 1) := by decide +kernel
theorem dX7_letsBy_0 : decode cX7_letsBy 0 = .ok (.iconst 0, 1) := by decide +kernel
theorem dX7_letsBy_1 : decode cX7_letsBy 1 = .ok (.istore_n 2, 1) := by decide +kernel
theorem dX7_letsBy_2 : decode cX7_letsBy 2 = .ok (.iconst 0, 1) := by decide +kernel
theorem dX7_letsBy_3 : decode cX7_letsBy 3 = .ok (.istore_n 3, 1) := by decide +kernel
theorem dX7_letsBy_4 : decode cX7_letsBy 4 = .ok (.iload_n 3, 1) := by decide +kernel
theorem dX7_letsBy_5 : decode cX7_letsBy 5 = .ok (.aload_n 0, 1) := by decide +kernel
theorem dX7_letsBy_6 : decode cX7_letsBy 6 = .ok (.getfield 167, 3) := by decide +kernel
theorem dX7_letsBy_9 : decode cX7_letsBy 9 = .ok (.if_icmp .ge 28, 3) := by decide +kernel
theorem dX7_letsBy_12 : decode cX7_letsBy 12 = .ok (.iload_n 2, 1) := by decide +kernel
theorem dX7_letsBy_13 : decode cX7_letsBy 13 = .ok (.aload_n 0, 1) := by decide +kernel
theorem dX7_letsBy_14 : decode cX7_letsBy 14 = .ok (.iload_n 1, 1) := by decide +kernel
theorem dX7_letsBy_15 : decode cX7_letsBy 15 = .ok (.iload_n 3, 1) := by decide +kernel
theorem dX7_letsBy_16 : decode cX7_letsBy 16 = .ok (.invokevirtual 188, 3) := by decide +kernel
theorem dX7_letsBy_19 : decode cX7_letsBy 19 = .ok (.ifCond .eq 9, 3) := by decide +kernel
theorem dX7_letsBy_22 : decode cX7_letsBy 22 = .ok (.iconst 1, 1) := by decide +kernel
theorem dX7_letsBy_23 : decode cX7_letsBy 23 = .ok (.iload_n 3, 1) := by decide +kernel
theorem dX7_letsBy_24 : decode cX7_letsBy 24 = .ok (.ishl, 1) := by decide +kernel
theorem dX7_letsBy_25 : decode cX7_letsBy 25 = .ok (.goto 4, 3) := by decide +kernel
theorem dX7_letsBy_28 : decode cX7_letsBy 28 = .ok (.iconst 0, 1) := by decide +kernel
theorem dX7_letsBy_29 : decode cX7_letsBy 29 = .ok (.ior, 1) := by decide +kernel
theorem dX7_letsBy_30 : decode cX7_letsBy 30 = .ok (.istore_n 2, 1) := by decide +kernel
theorem dX7_letsBy_31 : decode cX7_letsBy 31 = .ok (.iinc 3 1, 3) := by decide +kernel
theorem dX7_letsBy_34 : decode cX7_letsBy 34 = .ok (.goto (-30), 3) := by decide +kernel
theorem dX7_letsBy_37 : decode cX7_letsBy 37 = .ok (.iload_n 2, 1) := by decide +kernel
theorem dX7_letsBy_38 : decode cX7_letsBy 38 = .ok (.ireturn, 1) := by decide +kernel
theorem dX7_leavesOf_0 : decode cX7_leavesOf 0 = .ok (.iconst 0, 1) := by decide +kernel
theorem dX7_leavesOf_1 : decode cX7_leavesOf 1 = .ok (.istore_n 2, 1) := by decide +kernel
theorem dX7_leavesOf_2 : decode cX7_leavesOf 2 = .ok (.iconst 0, 1) := by decide +kernel
theorem dX7_leavesOf_3 : decode cX7_leavesOf 3 = .ok (.istore_n 3, 1) := by decide +kernel
theorem dX7_leavesOf_4 : decode cX7_leavesOf 4 = .ok (.iload_n 3, 1) := by decide +kernel
theorem dX7_leavesOf_5 : decode cX7_leavesOf 5 = .ok (.aload_n 0, 1) := by decide +kernel
theorem dX7_leavesOf_6 : decode cX7_leavesOf 6 = .ok (.getfield 164, 3) := by decide +kernel
theorem dX7_leavesOf_9 : decode cX7_leavesOf 9 = .ok (.if_icmp .ge 28, 3) := by decide +kernel
theorem dX7_leavesOf_12 : decode cX7_leavesOf 12 = .ok (.iload_n 2, 1) := by decide +kernel
theorem dX7_leavesOf_13 : decode cX7_leavesOf 13 = .ok (.aload_n 0, 1) := by decide +kernel
theorem dX7_leavesOf_14 : decode cX7_leavesOf 14 = .ok (.iload_n 3, 1) := by decide +kernel
theorem dX7_leavesOf_15 : decode cX7_leavesOf 15 = .ok (.iload_n 1, 1) := by decide +kernel
theorem dX7_leavesOf_16 : decode cX7_leavesOf 16 = .ok (.invokevirtual 188, 3) := by decide +kernel
theorem dX7_leavesOf_19 : decode cX7_leavesOf 19 = .ok (.ifCond .eq 9, 3) := by decide +kernel
theorem dX7_leavesOf_22 : decode cX7_leavesOf 22 = .ok (.iconst 1, 1) := by decide +kernel
theorem dX7_leavesOf_23 : decode cX7_leavesOf 23 = .ok (.iload_n 3, 1) := by decide +kernel
theorem dX7_leavesOf_24 : decode cX7_leavesOf 24 = .ok (.ishl, 1) := by decide +kernel
theorem dX7_leavesOf_25 : decode cX7_leavesOf 25 = .ok (.goto 4, 3) := by decide +kernel
theorem dX7_leavesOf_28 : decode cX7_leavesOf 28 = .ok (.iconst 0, 1) := by decide +kernel
theorem dX7_leavesOf_29 : decode cX7_leavesOf 29 = .ok (.ior, 1) := by decide +kernel
theorem dX7_leavesOf_30 : decode cX7_leavesOf 30 = .ok (.istore_n 2, 1) := by decide +kernel
theorem dX7_leavesOf_31 : decode cX7_leavesOf 31 = .ok (.iinc 3 1, 3) := by decide +kernel
theorem dX7_leavesOf_34 : decode cX7_leavesOf 34 = .ok (.goto (-30), 3) := by decide +kernel
theorem dX7_leavesOf_37 : decode cX7_leavesOf 37 = .ok (.iload_n 2, 1) := by decide +kernel
theorem dX7_leavesOf_38 : decode cX7_leavesOf 38 = .ok (.ireturn, 1) := by decide +kernel
theorem dX7_those_0 : decode cX7_those 0 = .ok (.iconst 0, 1) := by decide +kernel
theorem dX7_those_1 : decode cX7_those 1 = .ok (.istore_n 2, 1) := by decide +kernel
theorem dX7_those_2 : decode cX7_those 2 = .ok (.iconst 0, 1) := by decide +kernel
theorem dX7_those_3 : decode cX7_those 3 = .ok (.istore_n 3, 1) := by decide +kernel
theorem dX7_those_4 : decode cX7_those 4 = .ok (.iload_n 3, 1) := by decide +kernel
theorem dX7_those_5 : decode cX7_those 5 = .ok (.aload_n 0, 1) := by decide +kernel
theorem dX7_those_6 : decode cX7_those 6 = .ok (.getfield 167, 3) := by decide +kernel
theorem dX7_those_9 : decode cX7_those 9 = .ok (.if_icmp .ge 31, 3) := by decide +kernel
theorem dX7_those_12 : decode cX7_those 12 = .ok (.iload_n 2, 1) := by decide +kernel
theorem dX7_those_13 : decode cX7_those 13 = .ok (.aload_n 0, 1) := by decide +kernel
theorem dX7_those_14 : decode cX7_those 14 = .ok (.getfield 29, 3) := by decide +kernel
theorem dX7_those_17 : decode cX7_those 17 = .ok (.iconst 3, 1) := by decide +kernel
theorem dX7_those_18 : decode cX7_those 18 = .ok (.iload_n 3, 1) := by decide +kernel
theorem dX7_those_19 : decode cX7_those 19 = .ok (.iadd, 1) := by decide +kernel
theorem dX7_those_20 : decode cX7_those 20 = .ok (.iaload, 1) := by decide +kernel
theorem dX7_those_21 : decode cX7_those 21 = .ok (.iload_n 1, 1) := by decide +kernel
theorem dX7_those_22 : decode cX7_those 22 = .ok (.if_icmp .ne 9, 3) := by decide +kernel
theorem dX7_those_25 : decode cX7_those 25 = .ok (.iconst 1, 1) := by decide +kernel
theorem dX7_those_26 : decode cX7_those 26 = .ok (.iload_n 3, 1) := by decide +kernel
theorem dX7_those_27 : decode cX7_those 27 = .ok (.ishl, 1) := by decide +kernel
theorem dX7_those_28 : decode cX7_those 28 = .ok (.goto 4, 3) := by decide +kernel
theorem dX7_those_31 : decode cX7_those 31 = .ok (.iconst 0, 1) := by decide +kernel
theorem dX7_those_32 : decode cX7_those 32 = .ok (.ior, 1) := by decide +kernel
theorem dX7_those_33 : decode cX7_those 33 = .ok (.istore_n 2, 1) := by decide +kernel
theorem dX7_those_34 : decode cX7_those 34 = .ok (.iinc 3 1, 3) := by decide +kernel
theorem dX7_those_37 : decode cX7_those 37 = .ok (.goto (-33), 3) := by decide +kernel
theorem dX7_those_40 : decode cX7_those 40 = .ok (.iload_n 2, 1) := by decide +kernel
theorem dX7_those_41 : decode cX7_those 41 = .ok (.ireturn, 1) := by decide +kernel
theorem dX7_cover_0 : decode cX7_cover 0 = .ok (.bipush (-9), 2) := by decide +kernel
theorem dX7_cover_2 : decode cX7_cover 2 = .ok (.istore_n 1, 1) := by decide +kernel
theorem dX7_cover_3 : decode cX7_cover 3 = .ok (.iconst 0, 1) := by decide +kernel
theorem dX7_cover_4 : decode cX7_cover 4 = .ok (.istore_n 2, 1) := by decide +kernel
theorem dX7_cover_5 : decode cX7_cover 5 = .ok (.iload_n 2, 1) := by decide +kernel
theorem dX7_cover_6 : decode cX7_cover 6 = .ok (.iconst 1, 1) := by decide +kernel
theorem dX7_cover_7 : decode cX7_cover 7 = .ok (.aload_n 0, 1) := by decide +kernel
theorem dX7_cover_8 : decode cX7_cover 8 = .ok (.getfield 164, 3) := by decide +kernel
theorem dX7_cover_11 : decode cX7_cover 11 = .ok (.ishl, 1) := by decide +kernel
theorem dX7_cover_12 : decode cX7_cover 12 = .ok (.if_icmp .ge 86, 3) := by decide +kernel
theorem dX7_cover_15 : decode cX7_cover 15 = .ok (.iconst 0, 1) := by decide +kernel
theorem dX7_cover_16 : decode cX7_cover 16 = .ok (.istore_n 3, 1) := by decide +kernel
theorem dX7_cover_17 : decode cX7_cover 17 = .ok (.iconst 0, 1) := by decide +kernel
theorem dX7_cover_18 : decode cX7_cover 18 = .ok (.istore 4, 2) := by decide +kernel
theorem dX7_cover_20 : decode cX7_cover 20 = .ok (.iload 4, 2) := by decide +kernel
theorem dX7_cover_22 : decode cX7_cover 22 = .ok (.aload_n 0, 1) := by decide +kernel
theorem dX7_cover_23 : decode cX7_cover 23 = .ok (.getfield 164, 3) := by decide +kernel
theorem dX7_cover_26 : decode cX7_cover 26 = .ok (.if_icmp .ge 31, 3) := by decide +kernel
theorem dX7_cover_29 : decode cX7_cover 29 = .ok (.iload_n 3, 1) := by decide +kernel
theorem dX7_cover_30 : decode cX7_cover 30 = .ok (.iload_n 2, 1) := by decide +kernel
theorem dX7_cover_31 : decode cX7_cover 31 = .ok (.iload 4, 2) := by decide +kernel
theorem dX7_cover_33 : decode cX7_cover 33 = .ok (.invokestatic 69, 3) := by decide +kernel
theorem dX7_cover_36 : decode cX7_cover 36 = .ok (.ifCond .eq 12, 3) := by decide +kernel
theorem dX7_cover_39 : decode cX7_cover 39 = .ok (.aload_n 0, 1) := by decide +kernel
theorem dX7_cover_40 : decode cX7_cover 40 = .ok (.iload 4, 2) := by decide +kernel
theorem dX7_cover_42 : decode cX7_cover 42 = .ok (.invokevirtual 191, 3) := by decide +kernel
theorem dX7_cover_45 : decode cX7_cover 45 = .ok (.goto 4, 3) := by decide +kernel
theorem dX7_cover_48 : decode cX7_cover 48 = .ok (.iconst 0, 1) := by decide +kernel
theorem dX7_cover_49 : decode cX7_cover 49 = .ok (.ior, 1) := by decide +kernel
theorem dX7_cover_50 : decode cX7_cover 50 = .ok (.istore_n 3, 1) := by decide +kernel
theorem dX7_cover_51 : decode cX7_cover 51 = .ok (.iinc 4 1, 3) := by decide +kernel
theorem dX7_cover_54 : decode cX7_cover 54 = .ok (.goto (-34), 3) := by decide +kernel
theorem dX7_cover_57 : decode cX7_cover 57 = .ok (.iload_n 3, 1) := by decide +kernel
theorem dX7_cover_58 : decode cX7_cover 58 = .ok (.iconst 1, 1) := by decide +kernel
theorem dX7_cover_59 : decode cX7_cover 59 = .ok (.aload_n 0, 1) := by decide +kernel
theorem dX7_cover_60 : decode cX7_cover 60 = .ok (.getfield 167, 3) := by decide +kernel
theorem dX7_cover_63 : decode cX7_cover 63 = .ok (.ishl, 1) := by decide +kernel
theorem dX7_cover_64 : decode cX7_cover 64 = .ok (.iconst 1, 1) := by decide +kernel
theorem dX7_cover_65 : decode cX7_cover 65 = .ok (.isub, 1) := by decide +kernel
theorem dX7_cover_66 : decode cX7_cover 66 = .ok (.if_icmp .ne 24, 3) := by decide +kernel
theorem dX7_cover_69 : decode cX7_cover 69 = .ok (.iload_n 1, 1) := by decide +kernel
theorem dX7_cover_70 : decode cX7_cover 70 = .ok (.bipush (-9), 2) := by decide +kernel
theorem dX7_cover_72 : decode cX7_cover 72 = .ok (.if_icmp .eq 14, 3) := by decide +kernel
theorem dX7_cover_75 : decode cX7_cover 75 = .ok (.iload_n 2, 1) := by decide +kernel
theorem dX7_cover_76 : decode cX7_cover 76 = .ok (.invokestatic 195, 3) := by decide +kernel
theorem dX7_cover_79 : decode cX7_cover 79 = .ok (.iload_n 1, 1) := by decide +kernel
theorem dX7_cover_80 : decode cX7_cover 80 = .ok (.invokestatic 195, 3) := by decide +kernel
theorem dX7_cover_83 : decode cX7_cover 83 = .ok (.if_icmp .ge 7, 3) := by decide +kernel
theorem dX7_cover_86 : decode cX7_cover 86 = .ok (.iload_n 2, 1) := by decide +kernel
theorem dX7_cover_87 : decode cX7_cover 87 = .ok (.goto 4, 3) := by decide +kernel
theorem dX7_cover_90 : decode cX7_cover 90 = .ok (.iload_n 1, 1) := by decide +kernel
theorem dX7_cover_91 : decode cX7_cover 91 = .ok (.istore_n 1, 1) := by decide +kernel
theorem dX7_cover_92 : decode cX7_cover 92 = .ok (.iinc 2 1, 3) := by decide +kernel
theorem dX7_cover_95 : decode cX7_cover 95 = .ok (.goto (-90), 3) := by decide +kernel
theorem dX7_cover_98 : decode cX7_cover 98 = .ok (.iload_n 1, 1) := by decide +kernel
theorem dX7_cover_99 : decode cX7_cover 99 = .ok (.ireturn, 1) := by decide +kernel
theorem dX7_leaf_0 : decode cX7_leaf 0 = .ok (.aload_n 0, 1) := by decide +kernel
theorem dX7_leaf_1 : decode cX7_leaf 1 = .ok (.iload_n 1, 1) := by decide +kernel
theorem dX7_leaf_2 : decode cX7_leaf 2 = .ok (.invokevirtual 198, 3) := by decide +kernel
theorem dX7_leaf_5 : decode cX7_leaf 5 = .ok (.ifCond .eq 10, 3) := by decide +kernel
theorem dX7_leaf_8 : decode cX7_leaf 8 = .ok (.iload_n 2, 1) := by decide +kernel
theorem dX7_leaf_9 : decode cX7_leaf 9 = .ok (.invokestatic 202, 3) := by decide +kernel
theorem dX7_leaf_12 : decode cX7_leaf 12 = .ok (.ifCond .ne 5, 3) := by decide +kernel
theorem dX7_leaf_15 : decode cX7_leaf 15 = .ok (.iconst (-1), 1) := by decide +kernel
theorem dX7_leaf_16 : decode cX7_leaf 16 = .ok (.ireturn, 1) := by decide +kernel
theorem dX7_leaf_17 : decode cX7_leaf 17 = .ok (.iload_n 2, 1) := by decide +kernel
theorem dX7_leaf_18 : decode cX7_leaf 18 = .ok (.ifCond .ne 12, 3) := by decide +kernel
theorem dX7_leaf_21 : decode cX7_leaf 21 = .ok (.aload_n 0, 1) := by decide +kernel
theorem dX7_leaf_22 : decode cX7_leaf 22 = .ok (.getfield 7, 3) := by decide +kernel
theorem dX7_leaf_25 : decode cX7_leaf 25 = .ok (.iload_n 1, 1) := by decide +kernel
theorem dX7_leaf_26 : decode cX7_leaf 26 = .ok (.iaload, 1) := by decide +kernel
theorem dX7_leaf_27 : decode cX7_leaf 27 = .ok (.goto 8, 3) := by decide +kernel
theorem dX7_leaf_30 : decode cX7_leaf 30 = .ok (.aload_n 0, 1) := by decide +kernel
theorem dX7_leaf_31 : decode cX7_leaf 31 = .ok (.iload_n 1, 1) := by decide +kernel
theorem dX7_leaf_32 : decode cX7_leaf 32 = .ok (.invokevirtual 191, 3) := by decide +kernel
theorem dX7_leaf_35 : decode cX7_leaf 35 = .ok (.ireturn, 1) := by decide +kernel
theorem dX7_goer_0 : decode cX7_goer 0 = .ok (.aload_n 0, 1) := by decide +kernel
theorem dX7_goer_1 : decode cX7_goer 1 = .ok (.iload_n 1, 1) := by decide +kernel
theorem dX7_goer_2 : decode cX7_goer 2 = .ok (.invokevirtual 205, 3) := by decide +kernel
theorem dX7_goer_5 : decode cX7_goer 5 = .ok (.ifCond .ne 5, 3) := by decide +kernel
theorem dX7_goer_8 : decode cX7_goer 8 = .ok (.iconst (-1), 1) := by decide +kernel
theorem dX7_goer_9 : decode cX7_goer 9 = .ok (.ireturn, 1) := by decide +kernel
theorem dX7_goer_10 : decode cX7_goer 10 = .ok (.iload_n 2, 1) := by decide +kernel
theorem dX7_goer_11 : decode cX7_goer 11 = .ok (.tableswitch 75 0 4 #[33, 40, 49, 59, 69], 33) := by decide +kernel
theorem dX7_goer_44 : decode cX7_goer 44 = .ok (.aload_n 0, 1) := by decide +kernel
theorem dX7_goer_45 : decode cX7_goer 45 = .ok (.getfield 13, 3) := by decide +kernel
theorem dX7_goer_48 : decode cX7_goer 48 = .ok (.iload_n 1, 1) := by decide +kernel
theorem dX7_goer_49 : decode cX7_goer 49 = .ok (.iaload, 1) := by decide +kernel
theorem dX7_goer_50 : decode cX7_goer 50 = .ok (.ireturn, 1) := by decide +kernel
theorem dX7_goer_51 : decode cX7_goer 51 = .ok (.aload_n 0, 1) := by decide +kernel
theorem dX7_goer_52 : decode cX7_goer 52 = .ok (.getfield 29, 3) := by decide +kernel
theorem dX7_goer_55 : decode cX7_goer 55 = .ok (.iconst 3, 1) := by decide +kernel
theorem dX7_goer_56 : decode cX7_goer 56 = .ok (.iload_n 1, 1) := by decide +kernel
theorem dX7_goer_57 : decode cX7_goer 57 = .ok (.iadd, 1) := by decide +kernel
theorem dX7_goer_58 : decode cX7_goer 58 = .ok (.iaload, 1) := by decide +kernel
theorem dX7_goer_59 : decode cX7_goer 59 = .ok (.ireturn, 1) := by decide +kernel
theorem dX7_goer_60 : decode cX7_goer 60 = .ok (.aload_n 0, 1) := by decide +kernel
theorem dX7_goer_61 : decode cX7_goer 61 = .ok (.getfield 29, 3) := by decide +kernel
theorem dX7_goer_64 : decode cX7_goer 64 = .ok (.bipush 9, 2) := by decide +kernel
theorem dX7_goer_66 : decode cX7_goer 66 = .ok (.iload_n 1, 1) := by decide +kernel
theorem dX7_goer_67 : decode cX7_goer 67 = .ok (.iadd, 1) := by decide +kernel
theorem dX7_goer_68 : decode cX7_goer 68 = .ok (.iaload, 1) := by decide +kernel
theorem dX7_goer_69 : decode cX7_goer 69 = .ok (.ireturn, 1) := by decide +kernel
theorem dX7_goer_70 : decode cX7_goer 70 = .ok (.aload_n 0, 1) := by decide +kernel
theorem dX7_goer_71 : decode cX7_goer 71 = .ok (.getfield 29, 3) := by decide +kernel
theorem dX7_goer_74 : decode cX7_goer 74 = .ok (.bipush 15, 2) := by decide +kernel
theorem dX7_goer_76 : decode cX7_goer 76 = .ok (.iload_n 1, 1) := by decide +kernel
theorem dX7_goer_77 : decode cX7_goer 77 = .ok (.iadd, 1) := by decide +kernel
theorem dX7_goer_78 : decode cX7_goer 78 = .ok (.iaload, 1) := by decide +kernel
theorem dX7_goer_79 : decode cX7_goer 79 = .ok (.ireturn, 1) := by decide +kernel
theorem dX7_goer_80 : decode cX7_goer 80 = .ok (.aload_n 0, 1) := by decide +kernel
theorem dX7_goer_81 : decode cX7_goer 81 = .ok (.iload_n 1, 1) := by decide +kernel
theorem dX7_goer_82 : decode cX7_goer 82 = .ok (.invokevirtual 208, 3) := by decide +kernel
theorem dX7_goer_85 : decode cX7_goer 85 = .ok (.ireturn, 1) := by decide +kernel
theorem dX7_goer_86 : decode cX7_goer 86 = .ok (.iconst (-1), 1) := by decide +kernel
theorem dX7_goer_87 : decode cX7_goer 87 = .ok (.ireturn, 1) := by decide +kernel
theorem dX7_sister_0 : decode cX7_sister 0 = .ok (.iload_n 1, 1) := by decide +kernel
theorem dX7_sister_1 : decode cX7_sister 1 = .ok (.i2l, 1) := by decide +kernel
theorem dX7_sister_2 : decode cX7_sister 2 = .ok (.lconst 0, 1) := by decide +kernel
theorem dX7_sister_3 : decode cX7_sister 3 = .ok (.aload_n 0, 1) := by decide +kernel
theorem dX7_sister_4 : decode cX7_sister 4 = .ok (.getfield 170, 3) := by decide +kernel
theorem dX7_sister_7 : decode cX7_sister 7 = .ok (.iconst 1, 1) := by decide +kernel
theorem dX7_sister_8 : decode cX7_sister 8 = .ok (.isub, 1) := by decide +kernel
theorem dX7_sister_9 : decode cX7_sister 9 = .ok (.i2l, 1) := by decide +kernel
theorem dX7_sister_10 : decode cX7_sister 10 = .ok (.invokestatic 75, 3) := by decide +kernel
theorem dX7_sister_13 : decode cX7_sister 13 = .ok (.ifCond .eq 24, 3) := by decide +kernel
theorem dX7_sister_16 : decode cX7_sister 16 = .ok (.iload_n 2, 1) := by decide +kernel
theorem dX7_sister_17 : decode cX7_sister 17 = .ok (.invokestatic 211, 3) := by decide +kernel
theorem dX7_sister_20 : decode cX7_sister 20 = .ok (.ifCond .eq 17, 3) := by decide +kernel
theorem dX7_sister_23 : decode cX7_sister 23 = .ok (.aload_n 0, 1) := by decide +kernel
theorem dX7_sister_24 : decode cX7_sister 24 = .ok (.getfield 16, 3) := by decide +kernel
theorem dX7_sister_27 : decode cX7_sister 27 = .ok (.bipush 6, 2) := by decide +kernel
theorem dX7_sister_29 : decode cX7_sister 29 = .ok (.iload_n 1, 1) := by decide +kernel
theorem dX7_sister_30 : decode cX7_sister 30 = .ok (.imul, 1) := by decide +kernel
theorem dX7_sister_31 : decode cX7_sister 31 = .ok (.iload_n 2, 1) := by decide +kernel
theorem dX7_sister_32 : decode cX7_sister 32 = .ok (.iadd, 1) := by decide +kernel
theorem dX7_sister_33 : decode cX7_sister 33 = .ok (.iaload, 1) := by decide +kernel
theorem dX7_sister_34 : decode cX7_sister 34 = .ok (.goto 4, 3) := by decide +kernel
theorem dX7_sister_37 : decode cX7_sister 37 = .ok (.iconst (-1), 1) := by decide +kernel
theorem dX7_sister_38 : decode cX7_sister 38 = .ok (.ireturn, 1) := by decide +kernel
theorem dX7_now_0 : decode cX7_now 0 = .ok (.iload_n 1, 1) := by decide +kernel
theorem dX7_now_1 : decode cX7_now 1 = .ok (.tableswitch 72 0 6 #[43, 43, 43, 50, 56, 62, 67], 43) := by decide +kernel
theorem dX7_now_44 : decode cX7_now 44 = .ok (.aload_n 0, 1) := by decide +kernel
theorem dX7_now_45 : decode cX7_now 45 = .ok (.getfield 29, 3) := by decide +kernel
theorem dX7_now_48 : decode cX7_now 48 = .ok (.iload_n 1, 1) := by decide +kernel
theorem dX7_now_49 : decode cX7_now 49 = .ok (.iaload, 1) := by decide +kernel
theorem dX7_now_50 : decode cX7_now 50 = .ok (.ireturn, 1) := by decide +kernel
theorem dX7_now_51 : decode cX7_now 51 = .ok (.aload_n 0, 1) := by decide +kernel
theorem dX7_now_52 : decode cX7_now 52 = .ok (.iconst 1, 1) := by decide +kernel
theorem dX7_now_53 : decode cX7_now 53 = .ok (.invokevirtual 214, 3) := by decide +kernel
theorem dX7_now_56 : decode cX7_now 56 = .ok (.ireturn, 1) := by decide +kernel
theorem dX7_now_57 : decode cX7_now 57 = .ok (.aload_n 0, 1) := by decide +kernel
theorem dX7_now_58 : decode cX7_now 58 = .ok (.iconst 3, 1) := by decide +kernel
theorem dX7_now_59 : decode cX7_now 59 = .ok (.invokevirtual 214, 3) := by decide +kernel
theorem dX7_now_62 : decode cX7_now 62 = .ok (.ireturn, 1) := by decide +kernel
theorem dX7_now_63 : decode cX7_now 63 = .ok (.aload_n 0, 1) := by decide +kernel
theorem dX7_now_64 : decode cX7_now 64 = .ok (.invokevirtual 217, 3) := by decide +kernel
theorem dX7_now_67 : decode cX7_now 67 = .ok (.ireturn, 1) := by decide +kernel
theorem dX7_now_68 : decode cX7_now 68 = .ok (.aload_n 0, 1) := by decide +kernel
theorem dX7_now_69 : decode cX7_now 69 = .ok (.getfield 180, 3) := by decide +kernel
theorem dX7_now_72 : decode cX7_now 72 = .ok (.ireturn, 1) := by decide +kernel
theorem dX7_now_73 : decode cX7_now 73 = .ok (.iconst (-1), 1) := by decide +kernel
theorem dX7_now_74 : decode cX7_now 74 = .ok (.ireturn, 1) := by decide +kernel
theorem dX7_notes_0 : decode cX7_notes 0 = .ok (.aload_n 0, 1) := by decide +kernel
theorem dX7_notes_1 : decode cX7_notes 1 = .ok (.getfield 180, 3) := by decide +kernel
theorem dX7_notes_4 : decode cX7_notes 4 = .ok (.bipush 10, 2) := by decide +kernel
theorem dX7_notes_6 : decode cX7_notes 6 = .ok (.if_icmp .ne 43, 3) := by decide +kernel
theorem dX7_notes_9 : decode cX7_notes 9 = .ok (.iconst 0, 1) := by decide +kernel
theorem dX7_notes_10 : decode cX7_notes 10 = .ok (.istore_n 1, 1) := by decide +kernel
theorem dX7_notes_11 : decode cX7_notes 11 = .ok (.iload_n 1, 1) := by decide +kernel
theorem dX7_notes_12 : decode cX7_notes 12 = .ok (.sipush 189, 3) := by decide +kernel
theorem dX7_notes_15 : decode cX7_notes 15 = .ok (.if_icmp .ge 24, 3) := by decide +kernel
theorem dX7_notes_18 : decode cX7_notes 18 = .ok (.aload_n 0, 1) := by decide +kernel
theorem dX7_notes_19 : decode cX7_notes 19 = .ok (.getfield 32, 3) := by decide +kernel
theorem dX7_notes_22 : decode cX7_notes 22 = .ok (.iload_n 1, 1) := by decide +kernel
theorem dX7_notes_23 : decode cX7_notes 23 = .ok (.aload_n 0, 1) := by decide +kernel
theorem dX7_notes_24 : decode cX7_notes 24 = .ok (.getfield 32, 3) := by decide +kernel
theorem dX7_notes_27 : decode cX7_notes 27 = .ok (.iload_n 1, 1) := by decide +kernel
theorem dX7_notes_28 : decode cX7_notes 28 = .ok (.bipush 21, 2) := by decide +kernel
theorem dX7_notes_30 : decode cX7_notes 30 = .ok (.iadd, 1) := by decide +kernel
theorem dX7_notes_31 : decode cX7_notes 31 = .ok (.iaload, 1) := by decide +kernel
theorem dX7_notes_32 : decode cX7_notes 32 = .ok (.iastore, 1) := by decide +kernel
theorem dX7_notes_33 : decode cX7_notes 33 = .ok (.iinc 1 1, 3) := by decide +kernel
theorem dX7_notes_36 : decode cX7_notes 36 = .ok (.goto (-25), 3) := by decide +kernel
theorem dX7_notes_39 : decode cX7_notes 39 = .ok (.aload_n 0, 1) := by decide +kernel
theorem dX7_notes_40 : decode cX7_notes 40 = .ok (.dup, 1) := by decide +kernel
theorem dX7_notes_41 : decode cX7_notes 41 = .ok (.getfield 180, 3) := by decide +kernel
theorem dX7_notes_44 : decode cX7_notes 44 = .ok (.iconst 1, 1) := by decide +kernel
theorem dX7_notes_45 : decode cX7_notes 45 = .ok (.isub, 1) := by decide +kernel
theorem dX7_notes_46 : decode cX7_notes 46 = .ok (.putfield 180, 3) := by decide +kernel
theorem dX7_notes_49 : decode cX7_notes 49 = .ok (.aload_n 0, 1) := by decide +kernel
theorem dX7_notes_50 : decode cX7_notes 50 = .ok (.getfield 29, 3) := by decide +kernel
theorem dX7_notes_53 : decode cX7_notes 53 = .ok (.iconst 0, 1) := by decide +kernel
theorem dX7_notes_54 : decode cX7_notes 54 = .ok (.aload_n 0, 1) := by decide +kernel
theorem dX7_notes_55 : decode cX7_notes 55 = .ok (.getfield 32, 3) := by decide +kernel
theorem dX7_notes_58 : decode cX7_notes 58 = .ok (.bipush 21, 2) := by decide +kernel
theorem dX7_notes_60 : decode cX7_notes 60 = .ok (.aload_n 0, 1) := by decide +kernel
theorem dX7_notes_61 : decode cX7_notes 61 = .ok (.getfield 180, 3) := by decide +kernel
theorem dX7_notes_64 : decode cX7_notes 64 = .ok (.imul, 1) := by decide +kernel
theorem dX7_notes_65 : decode cX7_notes 65 = .ok (.bipush 21, 2) := by decide +kernel
theorem dX7_notes_67 : decode cX7_notes 67 = .ok (.invokestatic 176, 3) := by decide +kernel
theorem dX7_notes_70 : decode cX7_notes 70 = .ok (.aload_n 0, 1) := by decide +kernel
theorem dX7_notes_71 : decode cX7_notes 71 = .ok (.dup, 1) := by decide +kernel
theorem dX7_notes_72 : decode cX7_notes 72 = .ok (.getfield 180, 3) := by decide +kernel
theorem dX7_notes_75 : decode cX7_notes 75 = .ok (.iconst 1, 1) := by decide +kernel
theorem dX7_notes_76 : decode cX7_notes 76 = .ok (.iadd, 1) := by decide +kernel
theorem dX7_notes_77 : decode cX7_notes 77 = .ok (.putfield 180, 3) := by decide +kernel
theorem dX7_notes_80 : decode cX7_notes 80 = .ok (.return_, 1) := by decide +kernel
theorem dX7_comes_0 : decode cX7_comes 0 = .ok (.aload_n 0, 1) := by decide +kernel
theorem dX7_comes_1 : decode cX7_comes 1 = .ok (.iload_n 1, 1) := by decide +kernel
theorem dX7_comes_2 : decode cX7_comes 2 = .ok (.invokevirtual 205, 3) := by decide +kernel
theorem dX7_comes_5 : decode cX7_comes 5 = .ok (.ifCond .ne 5, 3) := by decide +kernel
theorem dX7_comes_8 : decode cX7_comes 8 = .ok (.iconst (-1), 1) := by decide +kernel
theorem dX7_comes_9 : decode cX7_comes 9 = .ok (.ireturn, 1) := by decide +kernel
theorem dX7_comes_10 : decode cX7_comes 10 = .ok (.aload_n 0, 1) := by decide +kernel
theorem dX7_comes_11 : decode cX7_comes 11 = .ok (.getfield 29, 3) := by decide +kernel
theorem dX7_comes_14 : decode cX7_comes 14 = .ok (.iconst 3, 1) := by decide +kernel
theorem dX7_comes_15 : decode cX7_comes 15 = .ok (.iload_n 1, 1) := by decide +kernel
theorem dX7_comes_16 : decode cX7_comes 16 = .ok (.iadd, 1) := by decide +kernel
theorem dX7_comes_17 : decode cX7_comes 17 = .ok (.iaload, 1) := by decide +kernel
theorem dX7_comes_18 : decode cX7_comes 18 = .ok (.ifCond .eq 6, 3) := by decide +kernel
theorem dX7_comes_21 : decode cX7_comes 21 = .ok (.bipush (-2), 2) := by decide +kernel
theorem dX7_comes_23 : decode cX7_comes 23 = .ok (.ireturn, 1) := by decide +kernel
theorem dX7_comes_24 : decode cX7_comes 24 = .ok (.aload_n 0, 1) := by decide +kernel
theorem dX7_comes_25 : decode cX7_comes 25 = .ok (.invokevirtual 220, 3) := by decide +kernel
theorem dX7_comes_28 : decode cX7_comes 28 = .ok (.aload_n 0, 1) := by decide +kernel
theorem dX7_comes_29 : decode cX7_comes 29 = .ok (.getfield 29, 3) := by decide +kernel
theorem dX7_comes_32 : decode cX7_comes 32 = .ok (.iconst 3, 1) := by decide +kernel
theorem dX7_comes_33 : decode cX7_comes 33 = .ok (.iload_n 1, 1) := by decide +kernel
theorem dX7_comes_34 : decode cX7_comes 34 = .ok (.iadd, 1) := by decide +kernel
theorem dX7_comes_35 : decode cX7_comes 35 = .ok (.iconst 1, 1) := by decide +kernel
theorem dX7_comes_36 : decode cX7_comes 36 = .ok (.iastore, 1) := by decide +kernel
theorem dX7_comes_37 : decode cX7_comes 37 = .ok (.aload_n 0, 1) := by decide +kernel
theorem dX7_comes_38 : decode cX7_comes 38 = .ok (.iconst 1, 1) := by decide +kernel
theorem dX7_comes_39 : decode cX7_comes 39 = .ok (.invokevirtual 214, 3) := by decide +kernel
theorem dX7_comes_42 : decode cX7_comes 42 = .ok (.invokestatic 195, 3) := by decide +kernel
theorem dX7_comes_45 : decode cX7_comes 45 = .ok (.ireturn, 1) := by decide +kernel
theorem dX7_says_0 : decode cX7_says 0 = .ok (.aload_n 0, 1) := by decide +kernel
theorem dX7_says_1 : decode cX7_says 1 = .ok (.iload_n 1, 1) := by decide +kernel
theorem dX7_says_2 : decode cX7_says 2 = .ok (.invokevirtual 205, 3) := by decide +kernel
theorem dX7_says_5 : decode cX7_says 5 = .ok (.ifCond .eq 10, 3) := by decide +kernel
theorem dX7_says_8 : decode cX7_says 8 = .ok (.iload_n 2, 1) := by decide +kernel
theorem dX7_says_9 : decode cX7_says 9 = .ok (.invokestatic 211, 3) := by decide +kernel
theorem dX7_says_12 : decode cX7_says 12 = .ok (.ifCond .ne 5, 3) := by decide +kernel
theorem dX7_says_15 : decode cX7_says 15 = .ok (.iconst (-1), 1) := by decide +kernel
theorem dX7_says_16 : decode cX7_says 16 = .ok (.ireturn, 1) := by decide +kernel
theorem dX7_says_17 : decode cX7_says 17 = .ok (.aload_n 0, 1) := by decide +kernel
theorem dX7_says_18 : decode cX7_says 18 = .ok (.getfield 29, 3) := by decide +kernel
theorem dX7_says_21 : decode cX7_says 21 = .ok (.iconst 3, 1) := by decide +kernel
theorem dX7_says_22 : decode cX7_says 22 = .ok (.iload_n 1, 1) := by decide +kernel
theorem dX7_says_23 : decode cX7_says 23 = .ok (.iadd, 1) := by decide +kernel
theorem dX7_says_24 : decode cX7_says 24 = .ok (.iaload, 1) := by decide +kernel
theorem dX7_says_25 : decode cX7_says 25 = .ok (.iconst 1, 1) := by decide +kernel
theorem dX7_says_26 : decode cX7_says 26 = .ok (.if_icmp .ne 10, 3) := by decide +kernel
