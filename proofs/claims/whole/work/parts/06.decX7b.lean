theorem dX7_says_29 : decode cX7_says 29 = .ok (.aload_n 0, 1) := by decide +kernel
theorem dX7_says_30 : decode cX7_says 30 = .ok (.getfield 164, 3) := by decide +kernel
theorem dX7_says_33 : decode cX7_says 33 = .ok (.ifCond .ne 6, 3) := by decide +kernel
theorem dX7_says_36 : decode cX7_says 36 = .ok (.bipush (-2), 2) := by decide +kernel
theorem dX7_says_38 : decode cX7_says 38 = .ok (.ireturn, 1) := by decide +kernel
theorem dX7_says_39 : decode cX7_says 39 = .ok (.aload_n 0, 1) := by decide +kernel
theorem dX7_says_40 : decode cX7_says 40 = .ok (.invokevirtual 220, 3) := by decide +kernel
theorem dX7_says_43 : decode cX7_says 43 = .ok (.aload_n 0, 1) := by decide +kernel
theorem dX7_says_44 : decode cX7_says 44 = .ok (.getfield 13, 3) := by decide +kernel
theorem dX7_says_47 : decode cX7_says 47 = .ok (.iload_n 1, 1) := by decide +kernel
theorem dX7_says_48 : decode cX7_says 48 = .ok (.iaload, 1) := by decide +kernel
theorem dX7_says_49 : decode cX7_says 49 = .ok (.aload_n 0, 1) := by decide +kernel
theorem dX7_says_50 : decode cX7_says 50 = .ok (.getfield 7, 3) := by decide +kernel
theorem dX7_says_53 : decode cX7_says 53 = .ok (.aload_n 0, 1) := by decide +kernel
theorem dX7_says_54 : decode cX7_says 54 = .ok (.getfield 29, 3) := by decide +kernel
theorem dX7_says_57 : decode cX7_says 57 = .ok (.iconst 1, 1) := by decide +kernel
theorem dX7_says_58 : decode cX7_says 58 = .ok (.iaload, 1) := by decide +kernel
theorem dX7_says_59 : decode cX7_says 59 = .ok (.iaload, 1) := by decide +kernel
theorem dX7_says_60 : decode cX7_says 60 = .ok (.iand, 1) := by decide +kernel
theorem dX7_says_61 : decode cX7_says 61 = .ok (.iload_n 2, 1) := by decide +kernel
theorem dX7_says_62 : decode cX7_says 62 = .ok (.invokestatic 69, 3) := by decide +kernel
theorem dX7_says_65 : decode cX7_says 65 = .ok (.istore_n 3, 1) := by decide +kernel
theorem dX7_says_66 : decode cX7_says 66 = .ok (.aload_n 0, 1) := by decide +kernel
theorem dX7_says_67 : decode cX7_says 67 = .ok (.getfield 29, 3) := by decide +kernel
theorem dX7_says_70 : decode cX7_says 70 = .ok (.iconst 3, 1) := by decide +kernel
theorem dX7_says_71 : decode cX7_says 71 = .ok (.iload_n 1, 1) := by decide +kernel
theorem dX7_says_72 : decode cX7_says 72 = .ok (.iadd, 1) := by decide +kernel
theorem dX7_says_73 : decode cX7_says 73 = .ok (.iload_n 3, 1) := by decide +kernel
theorem dX7_says_74 : decode cX7_says 74 = .ok (.ifCond .eq 7, 3) := by decide +kernel
theorem dX7_says_77 : decode cX7_says 77 = .ok (.iconst 3, 1) := by decide +kernel
theorem dX7_says_78 : decode cX7_says 78 = .ok (.goto 4, 3) := by decide +kernel
theorem dX7_says_81 : decode cX7_says 81 = .ok (.iconst 2, 1) := by decide +kernel
theorem dX7_says_82 : decode cX7_says 82 = .ok (.iastore, 1) := by decide +kernel
theorem dX7_says_83 : decode cX7_says 83 = .ok (.aload_n 0, 1) := by decide +kernel
theorem dX7_says_84 : decode cX7_says 84 = .ok (.getfield 29, 3) := by decide +kernel
theorem dX7_says_87 : decode cX7_says 87 = .ok (.bipush 9, 2) := by decide +kernel
theorem dX7_says_89 : decode cX7_says 89 = .ok (.iload_n 1, 1) := by decide +kernel
theorem dX7_says_90 : decode cX7_says 90 = .ok (.iadd, 1) := by decide +kernel
theorem dX7_says_91 : decode cX7_says 91 = .ok (.iload_n 3, 1) := by decide +kernel
theorem dX7_says_92 : decode cX7_says 92 = .ok (.ifCond .eq 7, 3) := by decide +kernel
theorem dX7_says_95 : decode cX7_says 95 = .ok (.iconst 0, 1) := by decide +kernel
theorem dX7_says_96 : decode cX7_says 96 = .ok (.goto 7, 3) := by decide +kernel
theorem dX7_says_99 : decode cX7_says 99 = .ok (.aload_n 0, 1) := by decide +kernel
theorem dX7_says_100 : decode cX7_says 100 = .ok (.getfield 25, 3) := by decide +kernel
theorem dX7_says_103 : decode cX7_says 103 = .ok (.iastore, 1) := by decide +kernel
theorem dX7_says_104 : decode cX7_says 104 = .ok (.aload_n 0, 1) := by decide +kernel
theorem dX7_says_105 : decode cX7_says 105 = .ok (.getfield 29, 3) := by decide +kernel
theorem dX7_says_108 : decode cX7_says 108 = .ok (.bipush 15, 2) := by decide +kernel
theorem dX7_says_110 : decode cX7_says 110 = .ok (.iload_n 1, 1) := by decide +kernel
theorem dX7_says_111 : decode cX7_says 111 = .ok (.iadd, 1) := by decide +kernel
theorem dX7_says_112 : decode cX7_says 112 = .ok (.dup2, 1) := by decide +kernel
theorem dX7_says_113 : decode cX7_says 113 = .ok (.iaload, 1) := by decide +kernel
theorem dX7_says_114 : decode cX7_says 114 = .ok (.iload_n 3, 1) := by decide +kernel
theorem dX7_says_115 : decode cX7_says 115 = .ok (.ifCond .eq 7, 3) := by decide +kernel
theorem dX7_says_118 : decode cX7_says 118 = .ok (.iconst 0, 1) := by decide +kernel
theorem dX7_says_119 : decode cX7_says 119 = .ok (.goto 4, 3) := by decide +kernel
theorem dX7_says_122 : decode cX7_says 122 = .ok (.iconst 1, 1) := by decide +kernel
theorem dX7_says_123 : decode cX7_says 123 = .ok (.iadd, 1) := by decide +kernel
theorem dX7_says_124 : decode cX7_says 124 = .ok (.iastore, 1) := by decide +kernel
theorem dX7_says_125 : decode cX7_says 125 = .ok (.aload_n 0, 1) := by decide +kernel
theorem dX7_says_126 : decode cX7_says 126 = .ok (.getfield 29, 3) := by decide +kernel
theorem dX7_says_129 : decode cX7_says 129 = .ok (.iconst 1, 1) := by decide +kernel
theorem dX7_says_130 : decode cX7_says 130 = .ok (.aload_n 0, 1) := by decide +kernel
theorem dX7_says_131 : decode cX7_says 131 = .ok (.getfield 29, 3) := by decide +kernel
theorem dX7_says_134 : decode cX7_says 134 = .ok (.iconst 1, 1) := by decide +kernel
theorem dX7_says_135 : decode cX7_says 135 = .ok (.iaload, 1) := by decide +kernel
theorem dX7_says_136 : decode cX7_says 136 = .ok (.iconst 1, 1) := by decide +kernel
theorem dX7_says_137 : decode cX7_says 137 = .ok (.iadd, 1) := by decide +kernel
theorem dX7_says_138 : decode cX7_says 138 = .ok (.aload_n 0, 1) := by decide +kernel
theorem dX7_says_139 : decode cX7_says 139 = .ok (.getfield 164, 3) := by decide +kernel
theorem dX7_says_142 : decode cX7_says 142 = .ok (.irem, 1) := by decide +kernel
theorem dX7_says_143 : decode cX7_says 143 = .ok (.iastore, 1) := by decide +kernel
theorem dX7_says_144 : decode cX7_says 144 = .ok (.aload_n 0, 1) := by decide +kernel
theorem dX7_says_145 : decode cX7_says 145 = .ok (.getfield 29, 3) := by decide +kernel
theorem dX7_says_148 : decode cX7_says 148 = .ok (.iconst 2, 1) := by decide +kernel
theorem dX7_says_149 : decode cX7_says 149 = .ok (.dup2, 1) := by decide +kernel
theorem dX7_says_150 : decode cX7_says 150 = .ok (.iaload, 1) := by decide +kernel
theorem dX7_says_151 : decode cX7_says 151 = .ok (.aload_n 0, 1) := by decide +kernel
theorem dX7_says_152 : decode cX7_says 152 = .ok (.getfield 29, 3) := by decide +kernel
theorem dX7_says_155 : decode cX7_says 155 = .ok (.iconst 2, 1) := by decide +kernel
theorem dX7_says_156 : decode cX7_says 156 = .ok (.iaload, 1) := by decide +kernel
theorem dX7_says_157 : decode cX7_says 157 = .ok (.sipush 999, 3) := by decide +kernel
theorem dX7_says_160 : decode cX7_says 160 = .ok (.if_icmp .ge 7, 3) := by decide +kernel
theorem dX7_says_163 : decode cX7_says 163 = .ok (.iconst 1, 1) := by decide +kernel
theorem dX7_says_164 : decode cX7_says 164 = .ok (.goto 4, 3) := by decide +kernel
theorem dX7_says_167 : decode cX7_says 167 = .ok (.iconst 0, 1) := by decide +kernel
theorem dX7_says_168 : decode cX7_says 168 = .ok (.iadd, 1) := by decide +kernel
theorem dX7_says_169 : decode cX7_says 169 = .ok (.iastore, 1) := by decide +kernel
theorem dX7_says_170 : decode cX7_says 170 = .ok (.iload_n 3, 1) := by decide +kernel
theorem dX7_says_171 : decode cX7_says 171 = .ok (.ifCond .eq 7, 3) := by decide +kernel
theorem dX7_says_174 : decode cX7_says 174 = .ok (.iconst 1, 1) := by decide +kernel
theorem dX7_says_175 : decode cX7_says 175 = .ok (.goto 4, 3) := by decide +kernel
theorem dX7_says_178 : decode cX7_says 178 = .ok (.iconst 0, 1) := by decide +kernel
theorem dX7_says_179 : decode cX7_says 179 = .ok (.ireturn, 1) := by decide +kernel
theorem dX7_minutes_0 : decode cX7_minutes 0 = .ok (.iload_n 1, 1) := by decide +kernel
theorem dX7_minutes_1 : decode cX7_minutes 1 = .ok (.i2l, 1) := by decide +kernel
theorem dX7_minutes_2 : decode cX7_minutes 2 = .ok (.lconst 1, 1) := by decide +kernel
theorem dX7_minutes_3 : decode cX7_minutes 3 = .ok (.ldc2_w 223, 3) := by decide +kernel
theorem dX7_minutes_6 : decode cX7_minutes 6 = .ok (.invokestatic 75, 3) := by decide +kernel
theorem dX7_minutes_9 : decode cX7_minutes 9 = .ok (.ifCond .ne 5, 3) := by decide +kernel
theorem dX7_minutes_12 : decode cX7_minutes 12 = .ok (.iconst (-1), 1) := by decide +kernel
theorem dX7_minutes_13 : decode cX7_minutes 13 = .ok (.ireturn, 1) := by decide +kernel
theorem dX7_minutes_14 : decode cX7_minutes 14 = .ok (.aload_n 0, 1) := by decide +kernel
theorem dX7_minutes_15 : decode cX7_minutes 15 = .ok (.getfield 29, 3) := by decide +kernel
theorem dX7_minutes_18 : decode cX7_minutes 18 = .ok (.iconst 0, 1) := by decide +kernel
theorem dX7_minutes_19 : decode cX7_minutes 19 = .ok (.iaload, 1) := by decide +kernel
theorem dX7_minutes_20 : decode cX7_minutes 20 = .ok (.iload_n 1, 1) := by decide +kernel
theorem dX7_minutes_21 : decode cX7_minutes 21 = .ok (.iadd, 1) := by decide +kernel
theorem dX7_minutes_22 : decode cX7_minutes 22 = .ok (.sipush 999, 3) := by decide +kernel
theorem dX7_minutes_25 : decode cX7_minutes 25 = .ok (.if_icmp .le 6, 3) := by decide +kernel
theorem dX7_minutes_28 : decode cX7_minutes 28 = .ok (.bipush (-2), 2) := by decide +kernel
theorem dX7_minutes_30 : decode cX7_minutes 30 = .ok (.ireturn, 1) := by decide +kernel
theorem dX7_minutes_31 : decode cX7_minutes 31 = .ok (.aload_n 0, 1) := by decide +kernel
theorem dX7_minutes_32 : decode cX7_minutes 32 = .ok (.invokevirtual 220, 3) := by decide +kernel
theorem dX7_minutes_35 : decode cX7_minutes 35 = .ok (.aload_n 0, 1) := by decide +kernel
theorem dX7_minutes_36 : decode cX7_minutes 36 = .ok (.getfield 29, 3) := by decide +kernel
theorem dX7_minutes_39 : decode cX7_minutes 39 = .ok (.iconst 0, 1) := by decide +kernel
theorem dX7_minutes_40 : decode cX7_minutes 40 = .ok (.dup2, 1) := by decide +kernel
theorem dX7_minutes_41 : decode cX7_minutes 41 = .ok (.iaload, 1) := by decide +kernel
theorem dX7_minutes_42 : decode cX7_minutes 42 = .ok (.iload_n 1, 1) := by decide +kernel
theorem dX7_minutes_43 : decode cX7_minutes 43 = .ok (.iadd, 1) := by decide +kernel
theorem dX7_minutes_44 : decode cX7_minutes 44 = .ok (.iastore, 1) := by decide +kernel
theorem dX7_minutes_45 : decode cX7_minutes 45 = .ok (.iconst 0, 1) := by decide +kernel
theorem dX7_minutes_46 : decode cX7_minutes 46 = .ok (.istore_n 2, 1) := by decide +kernel
theorem dX7_minutes_47 : decode cX7_minutes 47 = .ok (.iload_n 2, 1) := by decide +kernel
theorem dX7_minutes_48 : decode cX7_minutes 48 = .ok (.aload_n 0, 1) := by decide +kernel
theorem dX7_minutes_49 : decode cX7_minutes 49 = .ok (.getfield 167, 3) := by decide +kernel
theorem dX7_minutes_52 : decode cX7_minutes 52 = .ok (.if_icmp .ge 83, 3) := by decide +kernel
theorem dX7_minutes_55 : decode cX7_minutes 55 = .ok (.aload_n 0, 1) := by decide +kernel
theorem dX7_minutes_56 : decode cX7_minutes 56 = .ok (.getfield 29, 3) := by decide +kernel
theorem dX7_minutes_59 : decode cX7_minutes 59 = .ok (.iconst 3, 1) := by decide +kernel
theorem dX7_minutes_60 : decode cX7_minutes 60 = .ok (.iload_n 2, 1) := by decide +kernel
theorem dX7_minutes_61 : decode cX7_minutes 61 = .ok (.iadd, 1) := by decide +kernel
theorem dX7_minutes_62 : decode cX7_minutes 62 = .ok (.iaload, 1) := by decide +kernel
theorem dX7_minutes_63 : decode cX7_minutes 63 = .ok (.iconst 2, 1) := by decide +kernel
theorem dX7_minutes_64 : decode cX7_minutes 64 = .ok (.if_icmp .ne 65, 3) := by decide +kernel
theorem dX7_minutes_67 : decode cX7_minutes 67 = .ok (.aload_n 0, 1) := by decide +kernel
theorem dX7_minutes_68 : decode cX7_minutes 68 = .ok (.getfield 29, 3) := by decide +kernel
theorem dX7_minutes_71 : decode cX7_minutes 71 = .ok (.bipush 9, 2) := by decide +kernel
theorem dX7_minutes_73 : decode cX7_minutes 73 = .ok (.iload_n 2, 1) := by decide +kernel
theorem dX7_minutes_74 : decode cX7_minutes 74 = .ok (.iadd, 1) := by decide +kernel
theorem dX7_minutes_75 : decode cX7_minutes 75 = .ok (.aload_n 0, 1) := by decide +kernel
theorem dX7_minutes_76 : decode cX7_minutes 76 = .ok (.getfield 29, 3) := by decide +kernel
theorem dX7_minutes_79 : decode cX7_minutes 79 = .ok (.bipush 9, 2) := by decide +kernel
theorem dX7_minutes_81 : decode cX7_minutes 81 = .ok (.iload_n 2, 1) := by decide +kernel
theorem dX7_minutes_82 : decode cX7_minutes 82 = .ok (.iadd, 1) := by decide +kernel
theorem dX7_minutes_83 : decode cX7_minutes 83 = .ok (.iaload, 1) := by decide +kernel
theorem dX7_minutes_84 : decode cX7_minutes 84 = .ok (.iload_n 1, 1) := by decide +kernel
theorem dX7_minutes_85 : decode cX7_minutes 85 = .ok (.if_icmp .le 17, 3) := by decide +kernel
theorem dX7_minutes_88 : decode cX7_minutes 88 = .ok (.aload_n 0, 1) := by decide +kernel
theorem dX7_minutes_89 : decode cX7_minutes 89 = .ok (.getfield 29, 3) := by decide +kernel
theorem dX7_minutes_92 : decode cX7_minutes 92 = .ok (.bipush 9, 2) := by decide +kernel
theorem dX7_minutes_94 : decode cX7_minutes 94 = .ok (.iload_n 2, 1) := by decide +kernel
theorem dX7_minutes_95 : decode cX7_minutes 95 = .ok (.iadd, 1) := by decide +kernel
theorem dX7_minutes_96 : decode cX7_minutes 96 = .ok (.iaload, 1) := by decide +kernel
theorem dX7_minutes_97 : decode cX7_minutes 97 = .ok (.iload_n 1, 1) := by decide +kernel
theorem dX7_minutes_98 : decode cX7_minutes 98 = .ok (.isub, 1) := by decide +kernel
theorem dX7_minutes_99 : decode cX7_minutes 99 = .ok (.goto 4, 3) := by decide +kernel
theorem dX7_minutes_102 : decode cX7_minutes 102 = .ok (.iconst 0, 1) := by decide +kernel
theorem dX7_minutes_103 : decode cX7_minutes 103 = .ok (.iastore, 1) := by decide +kernel
theorem dX7_minutes_104 : decode cX7_minutes 104 = .ok (.aload_n 0, 1) := by decide +kernel
theorem dX7_minutes_105 : decode cX7_minutes 105 = .ok (.getfield 29, 3) := by decide +kernel
theorem dX7_minutes_108 : decode cX7_minutes 108 = .ok (.iconst 3, 1) := by decide +kernel
theorem dX7_minutes_109 : decode cX7_minutes 109 = .ok (.iload_n 2, 1) := by decide +kernel
theorem dX7_minutes_110 : decode cX7_minutes 110 = .ok (.iadd, 1) := by decide +kernel
theorem dX7_minutes_111 : decode cX7_minutes 111 = .ok (.aload_n 0, 1) := by decide +kernel
theorem dX7_minutes_112 : decode cX7_minutes 112 = .ok (.getfield 29, 3) := by decide +kernel
theorem dX7_minutes_115 : decode cX7_minutes 115 = .ok (.bipush 9, 2) := by decide +kernel
theorem dX7_minutes_117 : decode cX7_minutes 117 = .ok (.iload_n 2, 1) := by decide +kernel
theorem dX7_minutes_118 : decode cX7_minutes 118 = .ok (.iadd, 1) := by decide +kernel
theorem dX7_minutes_119 : decode cX7_minutes 119 = .ok (.iaload, 1) := by decide +kernel
theorem dX7_minutes_120 : decode cX7_minutes 120 = .ok (.ifCond .ne 7, 3) := by decide +kernel
theorem dX7_minutes_123 : decode cX7_minutes 123 = .ok (.iconst 1, 1) := by decide +kernel
theorem dX7_minutes_124 : decode cX7_minutes 124 = .ok (.goto 4, 3) := by decide +kernel
theorem dX7_minutes_127 : decode cX7_minutes 127 = .ok (.iconst 2, 1) := by decide +kernel
theorem dX7_minutes_128 : decode cX7_minutes 128 = .ok (.iastore, 1) := by decide +kernel
theorem dX7_minutes_129 : decode cX7_minutes 129 = .ok (.iinc 2 1, 3) := by decide +kernel
theorem dX7_minutes_132 : decode cX7_minutes 132 = .ok (.goto (-85), 3) := by decide +kernel
theorem dX7_minutes_135 : decode cX7_minutes 135 = .ok (.aload_n 0, 1) := by decide +kernel
theorem dX7_minutes_136 : decode cX7_minutes 136 = .ok (.iconst 1, 1) := by decide +kernel
theorem dX7_minutes_137 : decode cX7_minutes 137 = .ok (.invokevirtual 214, 3) := by decide +kernel
theorem dX7_minutes_140 : decode cX7_minutes 140 = .ok (.invokestatic 195, 3) := by decide +kernel
theorem dX7_minutes_143 : decode cX7_minutes 143 = .ok (.ireturn, 1) := by decide +kernel
theorem dX7_undo_0 : decode cX7_undo 0 = .ok (.aload_n 0, 1) := by decide +kernel
theorem dX7_undo_1 : decode cX7_undo 1 = .ok (.getfield 180, 3) := by decide +kernel
theorem dX7_undo_4 : decode cX7_undo 4 = .ok (.ifCond .ne 6, 3) := by decide +kernel
theorem dX7_undo_7 : decode cX7_undo 7 = .ok (.bipush (-2), 2) := by decide +kernel
theorem dX7_undo_9 : decode cX7_undo 9 = .ok (.ireturn, 1) := by decide +kernel
theorem dX7_undo_10 : decode cX7_undo 10 = .ok (.aload_n 0, 1) := by decide +kernel
theorem dX7_undo_11 : decode cX7_undo 11 = .ok (.dup, 1) := by decide +kernel
theorem dX7_undo_12 : decode cX7_undo 12 = .ok (.getfield 180, 3) := by decide +kernel
theorem dX7_undo_15 : decode cX7_undo 15 = .ok (.iconst 1, 1) := by decide +kernel
theorem dX7_undo_16 : decode cX7_undo 16 = .ok (.isub, 1) := by decide +kernel
theorem dX7_undo_17 : decode cX7_undo 17 = .ok (.putfield 180, 3) := by decide +kernel
theorem dX7_undo_20 : decode cX7_undo 20 = .ok (.aload_n 0, 1) := by decide +kernel
theorem dX7_undo_21 : decode cX7_undo 21 = .ok (.getfield 32, 3) := by decide +kernel
theorem dX7_undo_24 : decode cX7_undo 24 = .ok (.bipush 21, 2) := by decide +kernel
theorem dX7_undo_26 : decode cX7_undo 26 = .ok (.aload_n 0, 1) := by decide +kernel
theorem dX7_undo_27 : decode cX7_undo 27 = .ok (.getfield 180, 3) := by decide +kernel
theorem dX7_undo_30 : decode cX7_undo 30 = .ok (.imul, 1) := by decide +kernel
theorem dX7_undo_31 : decode cX7_undo 31 = .ok (.aload_n 0, 1) := by decide +kernel
theorem dX7_undo_32 : decode cX7_undo 32 = .ok (.getfield 29, 3) := by decide +kernel
theorem dX7_undo_35 : decode cX7_undo 35 = .ok (.iconst 0, 1) := by decide +kernel
theorem dX7_undo_36 : decode cX7_undo 36 = .ok (.bipush 21, 2) := by decide +kernel
theorem dX7_undo_38 : decode cX7_undo 38 = .ok (.invokestatic 176, 3) := by decide +kernel
theorem dX7_undo_41 : decode cX7_undo 41 = .ok (.aload_n 0, 1) := by decide +kernel
theorem dX7_undo_42 : decode cX7_undo 42 = .ok (.getfield 180, 3) := by decide +kernel
theorem dX7_undo_45 : decode cX7_undo 45 = .ok (.ireturn, 1) := by decide +kernel
theorem dX7_fewest_0 : decode cX7_fewest 0 = .ok (.aload_n 0, 1) := by decide +kernel
theorem dX7_fewest_1 : decode cX7_fewest 1 = .ok (.iload_n 1, 1) := by decide +kernel
theorem dX7_fewest_2 : decode cX7_fewest 2 = .ok (.invokevirtual 205, 3) := by decide +kernel
theorem dX7_fewest_5 : decode cX7_fewest 5 = .ok (.ifCond .eq 10, 3) := by decide +kernel
theorem dX7_fewest_8 : decode cX7_fewest 8 = .ok (.iload_n 2, 1) := by decide +kernel
theorem dX7_fewest_9 : decode cX7_fewest 9 = .ok (.invokestatic 202, 3) := by decide +kernel
theorem dX7_fewest_12 : decode cX7_fewest 12 = .ok (.ifCond .ne 5, 3) := by decide +kernel
theorem dX7_fewest_15 : decode cX7_fewest 15 = .ok (.iconst (-1), 1) := by decide +kernel
theorem dX7_fewest_16 : decode cX7_fewest 16 = .ok (.ireturn, 1) := by decide +kernel
theorem dX7_fewest_17 : decode cX7_fewest 17 = .ok (.aload_n 0, 1) := by decide +kernel
theorem dX7_fewest_18 : decode cX7_fewest 18 = .ok (.getfield 29, 3) := by decide +kernel
theorem dX7_fewest_21 : decode cX7_fewest 21 = .ok (.iconst 3, 1) := by decide +kernel
theorem dX7_fewest_22 : decode cX7_fewest 22 = .ok (.iload_n 1, 1) := by decide +kernel
theorem dX7_fewest_23 : decode cX7_fewest 23 = .ok (.iadd, 1) := by decide +kernel
theorem dX7_fewest_24 : decode cX7_fewest 24 = .ok (.iaload, 1) := by decide +kernel
theorem dX7_fewest_25 : decode cX7_fewest 25 = .ok (.iconst 3, 1) := by decide +kernel
theorem dX7_fewest_26 : decode cX7_fewest 26 = .ok (.if_icmp .ne 6, 3) := by decide +kernel
theorem dX7_fewest_29 : decode cX7_fewest 29 = .ok (.bipush (-2), 2) := by decide +kernel
theorem dX7_fewest_31 : decode cX7_fewest 31 = .ok (.ireturn, 1) := by decide +kernel
theorem dX7_fewest_32 : decode cX7_fewest 32 = .ok (.iconst 0, 1) := by decide +kernel
theorem dX7_fewest_33 : decode cX7_fewest 33 = .ok (.istore_n 3, 1) := by decide +kernel
theorem dX7_fewest_34 : decode cX7_fewest 34 = .ok (.iload_n 3, 1) := by decide +kernel
theorem dX7_fewest_35 : decode cX7_fewest 35 = .ok (.aload_n 0, 1) := by decide +kernel
theorem dX7_fewest_36 : decode cX7_fewest 36 = .ok (.getfield 164, 3) := by decide +kernel
theorem dX7_fewest_39 : decode cX7_fewest 39 = .ok (.if_icmp .ge 62, 3) := by decide +kernel
theorem dX7_fewest_42 : decode cX7_fewest 42 = .ok (.aload_n 0, 1) := by decide +kernel
theorem dX7_fewest_43 : decode cX7_fewest 43 = .ok (.getfield 29, 3) := by decide +kernel
theorem dX7_fewest_46 : decode cX7_fewest 46 = .ok (.iconst 1, 1) := by decide +kernel
theorem dX7_fewest_47 : decode cX7_fewest 47 = .ok (.iaload, 1) := by decide +kernel
theorem dX7_fewest_48 : decode cX7_fewest 48 = .ok (.iload_n 3, 1) := by decide +kernel
theorem dX7_fewest_49 : decode cX7_fewest 49 = .ok (.iadd, 1) := by decide +kernel
theorem dX7_fewest_50 : decode cX7_fewest 50 = .ok (.aload_n 0, 1) := by decide +kernel
theorem dX7_fewest_51 : decode cX7_fewest 51 = .ok (.getfield 164, 3) := by decide +kernel
theorem dX7_fewest_54 : decode cX7_fewest 54 = .ok (.irem, 1) := by decide +kernel
theorem dX7_fewest_55 : decode cX7_fewest 55 = .ok (.istore 4, 2) := by decide +kernel
theorem dX7_fewest_57 : decode cX7_fewest 57 = .ok (.aload_n 0, 1) := by decide +kernel
theorem dX7_fewest_58 : decode cX7_fewest 58 = .ok (.iload 4, 2) := by decide +kernel
theorem dX7_fewest_60 : decode cX7_fewest 60 = .ok (.iload_n 1, 1) := by decide +kernel
theorem dX7_fewest_61 : decode cX7_fewest 61 = .ok (.invokevirtual 188, 3) := by decide +kernel
theorem dX7_fewest_64 : decode cX7_fewest 64 = .ok (.ifCond .eq 31, 3) := by decide +kernel
theorem dX7_fewest_67 : decode cX7_fewest 67 = .ok (.iload_n 2, 1) := by decide +kernel
theorem dX7_fewest_68 : decode cX7_fewest 68 = .ok (.ifCond .ne 9, 3) := by decide +kernel
theorem dX7_fewest_71 : decode cX7_fewest 71 = .ok (.iload_n 3, 1) := by decide +kernel
theorem dX7_fewest_72 : decode cX7_fewest 72 = .ok (.iconst 1, 1) := by decide +kernel
theorem dX7_fewest_73 : decode cX7_fewest 73 = .ok (.iadd, 1) := by decide +kernel
theorem dX7_fewest_74 : decode cX7_fewest 74 = .ok (.goto 20, 3) := by decide +kernel
theorem dX7_fewest_77 : decode cX7_fewest 77 = .ok (.aload_n 0, 1) := by decide +kernel
theorem dX7_fewest_78 : decode cX7_fewest 78 = .ok (.getfield 7, 3) := by decide +kernel
theorem dX7_fewest_81 : decode cX7_fewest 81 = .ok (.iload 4, 2) := by decide +kernel
theorem dX7_fewest_83 : decode cX7_fewest 83 = .ok (.iaload, 1) := by decide +kernel
theorem dX7_fewest_84 : decode cX7_fewest 84 = .ok (.aload_n 0, 1) := by decide +kernel
theorem dX7_fewest_85 : decode cX7_fewest 85 = .ok (.getfield 13, 3) := by decide +kernel
theorem dX7_fewest_88 : decode cX7_fewest 88 = .ok (.iload_n 1, 1) := by decide +kernel
theorem dX7_fewest_89 : decode cX7_fewest 89 = .ok (.iaload, 1) := by decide +kernel
theorem dX7_fewest_90 : decode cX7_fewest 90 = .ok (.iand, 1) := by decide +kernel
theorem dX7_fewest_91 : decode cX7_fewest 91 = .ok (.invokestatic 225, 3) := by decide +kernel
theorem dX7_fewest_94 : decode cX7_fewest 94 = .ok (.ireturn, 1) := by decide +kernel
theorem dX7_fewest_95 : decode cX7_fewest 95 = .ok (.iinc 3 1, 3) := by decide +kernel
theorem dX7_fewest_98 : decode cX7_fewest 98 = .ok (.goto (-64), 3) := by decide +kernel
theorem dX7_fewest_101 : decode cX7_fewest 101 = .ok (.bipush (-9), 2) := by decide +kernel
theorem dX7_fewest_103 : decode cX7_fewest 103 = .ok (.ireturn, 1) := by decide +kernel
theorem dX7_nextOrder_0 : decode cX7_nextOrder 0 = .ok (.iload_n 1, 1) := by decide +kernel
theorem dX7_nextOrder_1 : decode cX7_nextOrder 1 = .ok (.iconst 2, 1) := by decide +kernel
theorem dX7_nextOrder_2 : decode cX7_nextOrder 2 = .ok (.isub, 1) := by decide +kernel
theorem dX7_nextOrder_3 : decode cX7_nextOrder 3 = .ok (.istore_n 2, 1) := by decide +kernel
theorem dX7_nextOrder_4 : decode cX7_nextOrder 4 = .ok (.iload_n 2, 1) := by decide +kernel
theorem dX7_nextOrder_5 : decode cX7_nextOrder 5 = .ok (.ifCond .lt 26, 3) := by decide +kernel
theorem dX7_nextOrder_8 : decode cX7_nextOrder 8 = .ok (.aload_n 0, 1) := by decide +kernel
theorem dX7_nextOrder_9 : decode cX7_nextOrder 9 = .ok (.getfield 63, 3) := by decide +kernel
theorem dX7_nextOrder_12 : decode cX7_nextOrder 12 = .ok (.iload_n 2, 1) := by decide +kernel
theorem dX7_nextOrder_13 : decode cX7_nextOrder 13 = .ok (.iaload, 1) := by decide +kernel
theorem dX7_nextOrder_14 : decode cX7_nextOrder 14 = .ok (.aload_n 0, 1) := by decide +kernel
theorem dX7_nextOrder_15 : decode cX7_nextOrder 15 = .ok (.getfield 63, 3) := by decide +kernel
theorem dX7_nextOrder_18 : decode cX7_nextOrder 18 = .ok (.iload_n 2, 1) := by decide +kernel
theorem dX7_nextOrder_19 : decode cX7_nextOrder 19 = .ok (.iconst 1, 1) := by decide +kernel
theorem dX7_nextOrder_20 : decode cX7_nextOrder 20 = .ok (.iadd, 1) := by decide +kernel
theorem dX7_nextOrder_21 : decode cX7_nextOrder 21 = .ok (.iaload, 1) := by decide +kernel
theorem dX7_nextOrder_22 : decode cX7_nextOrder 22 = .ok (.if_icmp .le 9, 3) := by decide +kernel
theorem dX7_nextOrder_25 : decode cX7_nextOrder 25 = .ok (.iinc 2 (-1), 3) := by decide +kernel
theorem dX7_nextOrder_28 : decode cX7_nextOrder 28 = .ok (.goto (-24), 3) := by decide +kernel
theorem dX7_nextOrder_31 : decode cX7_nextOrder 31 = .ok (.iload_n 2, 1) := by decide +kernel
theorem dX7_nextOrder_32 : decode cX7_nextOrder 32 = .ok (.ifCond .ge 5, 3) := by decide +kernel
theorem dX7_nextOrder_35 : decode cX7_nextOrder 35 = .ok (.iconst 0, 1) := by decide +kernel
theorem dX7_nextOrder_36 : decode cX7_nextOrder 36 = .ok (.ireturn, 1) := by decide +kernel
theorem dX7_nextOrder_37 : decode cX7_nextOrder 37 = .ok (.iload_n 1, 1) := by decide +kernel
theorem dX7_nextOrder_38 : decode cX7_nextOrder 38 = .ok (.iconst 1, 1) := by decide +kernel
theorem dX7_nextOrder_39 : decode cX7_nextOrder 39 = .ok (.isub, 1) := by decide +kernel
theorem dX7_nextOrder_40 : decode cX7_nextOrder 40 = .ok (.istore_n 3, 1) := by decide +kernel
theorem dX7_nextOrder_41 : decode cX7_nextOrder 41 = .ok (.aload_n 0, 1) := by decide +kernel
theorem dX7_nextOrder_42 : decode cX7_nextOrder 42 = .ok (.getfield 63, 3) := by decide +kernel
theorem dX7_nextOrder_45 : decode cX7_nextOrder 45 = .ok (.iload_n 3, 1) := by decide +kernel
theorem dX7_nextOrder_46 : decode cX7_nextOrder 46 = .ok (.iaload, 1) := by decide +kernel
theorem dX7_nextOrder_47 : decode cX7_nextOrder 47 = .ok (.aload_n 0, 1) := by decide +kernel
theorem dX7_nextOrder_48 : decode cX7_nextOrder 48 = .ok (.getfield 63, 3) := by decide +kernel
theorem dX7_nextOrder_51 : decode cX7_nextOrder 51 = .ok (.iload_n 2, 1) := by decide +kernel
theorem dX7_nextOrder_52 : decode cX7_nextOrder 52 = .ok (.iaload, 1) := by decide +kernel
theorem dX7_nextOrder_53 : decode cX7_nextOrder 53 = .ok (.if_icmp .ge 9, 3) := by decide +kernel
theorem dX7_nextOrder_56 : decode cX7_nextOrder 56 = .ok (.iinc 3 (-1), 3) := by decide +kernel
theorem dX7_nextOrder_59 : decode cX7_nextOrder 59 = .ok (.goto (-18), 3) := by decide +kernel
theorem dX7_nextOrder_62 : decode cX7_nextOrder 62 = .ok (.aload_n 0, 1) := by decide +kernel
theorem dX7_nextOrder_63 : decode cX7_nextOrder 63 = .ok (.getfield 63, 3) := by decide +kernel
theorem dX7_nextOrder_66 : decode cX7_nextOrder 66 = .ok (.iload_n 2, 1) := by decide +kernel
theorem dX7_nextOrder_67 : decode cX7_nextOrder 67 = .ok (.iaload, 1) := by decide +kernel
theorem dX7_nextOrder_68 : decode cX7_nextOrder 68 = .ok (.istore 4, 2) := by decide +kernel
theorem dX7_nextOrder_70 : decode cX7_nextOrder 70 = .ok (.aload_n 0, 1) := by decide +kernel
theorem dX7_nextOrder_71 : decode cX7_nextOrder 71 = .ok (.getfield 63, 3) := by decide +kernel
theorem dX7_nextOrder_74 : decode cX7_nextOrder 74 = .ok (.iload_n 2, 1) := by decide +kernel
theorem dX7_nextOrder_75 : decode cX7_nextOrder 75 = .ok (.aload_n 0, 1) := by decide +kernel
theorem dX7_nextOrder_76 : decode cX7_nextOrder 76 = .ok (.getfield 63, 3) := by decide +kernel
theorem dX7_nextOrder_79 : decode cX7_nextOrder 79 = .ok (.iload_n 3, 1) := by decide +kernel
theorem dX7_nextOrder_80 : decode cX7_nextOrder 80 = .ok (.iaload, 1) := by decide +kernel
theorem dX7_nextOrder_81 : decode cX7_nextOrder 81 = .ok (.iastore, 1) := by decide +kernel
theorem dX7_nextOrder_82 : decode cX7_nextOrder 82 = .ok (.aload_n 0, 1) := by decide +kernel
theorem dX7_nextOrder_83 : decode cX7_nextOrder 83 = .ok (.getfield 63, 3) := by decide +kernel
theorem dX7_nextOrder_86 : decode cX7_nextOrder 86 = .ok (.iload_n 3, 1) := by decide +kernel
theorem dX7_nextOrder_87 : decode cX7_nextOrder 87 = .ok (.iload 4, 2) := by decide +kernel
theorem dX7_nextOrder_89 : decode cX7_nextOrder 89 = .ok (.iastore, 1) := by decide +kernel
theorem dX7_nextOrder_90 : decode cX7_nextOrder 90 = .ok (.iload_n 2, 1) := by decide +kernel
theorem dX7_nextOrder_91 : decode cX7_nextOrder 91 = .ok (.iconst 1, 1) := by decide +kernel
theorem dX7_nextOrder_92 : decode cX7_nextOrder 92 = .ok (.iadd, 1) := by decide +kernel
theorem dX7_nextOrder_93 : decode cX7_nextOrder 93 = .ok (.istore 5, 2) := by decide +kernel
theorem dX7_nextOrder_95 : decode cX7_nextOrder 95 = .ok (.iload_n 1, 1) := by decide +kernel
theorem dX7_nextOrder_96 : decode cX7_nextOrder 96 = .ok (.iconst 1, 1) := by decide +kernel
theorem dX7_nextOrder_97 : decode cX7_nextOrder 97 = .ok (.isub, 1) := by decide +kernel
theorem dX7_nextOrder_98 : decode cX7_nextOrder 98 = .ok (.istore 6, 2) := by decide +kernel
theorem dX7_nextOrder_100 : decode cX7_nextOrder 100 = .ok (.iload 5, 2) := by decide +kernel
theorem dX7_nextOrder_102 : decode cX7_nextOrder 102 = .ok (.iload 6, 2) := by decide +kernel
theorem dX7_nextOrder_104 : decode cX7_nextOrder 104 = .ok (.if_icmp .ge 44, 3) := by decide +kernel
theorem dX7_nextOrder_107 : decode cX7_nextOrder 107 = .ok (.aload_n 0, 1) := by decide +kernel
theorem dX7_nextOrder_108 : decode cX7_nextOrder 108 = .ok (.getfield 63, 3) := by decide +kernel
theorem dX7_nextOrder_111 : decode cX7_nextOrder 111 = .ok (.iload 5, 2) := by decide +kernel
theorem dX7_nextOrder_113 : decode cX7_nextOrder 113 = .ok (.iaload, 1) := by decide +kernel
theorem dX7_nextOrder_114 : decode cX7_nextOrder 114 = .ok (.istore 4, 2) := by decide +kernel
theorem dX7_nextOrder_116 : decode cX7_nextOrder 116 = .ok (.aload_n 0, 1) := by decide +kernel
theorem dX7_nextOrder_117 : decode cX7_nextOrder 117 = .ok (.getfield 63, 3) := by decide +kernel
theorem dX7_nextOrder_120 : decode cX7_nextOrder 120 = .ok (.iload 5, 2) := by decide +kernel
theorem dX7_nextOrder_122 : decode cX7_nextOrder 122 = .ok (.aload_n 0, 1) := by decide +kernel
theorem dX7_nextOrder_123 : decode cX7_nextOrder 123 = .ok (.getfield 63, 3) := by decide +kernel
theorem dX7_nextOrder_126 : decode cX7_nextOrder 126 = .ok (.iload 6, 2) := by decide +kernel
theorem dX7_nextOrder_128 : decode cX7_nextOrder 128 = .ok (.iaload, 1) := by decide +kernel
theorem dX7_nextOrder_129 : decode cX7_nextOrder 129 = .ok (.iastore, 1) := by decide +kernel
theorem dX7_nextOrder_130 : decode cX7_nextOrder 130 = .ok (.aload_n 0, 1) := by decide +kernel
theorem dX7_nextOrder_131 : decode cX7_nextOrder 131 = .ok (.getfield 63, 3) := by decide +kernel
theorem dX7_nextOrder_134 : decode cX7_nextOrder 134 = .ok (.iload 6, 2) := by decide +kernel
theorem dX7_nextOrder_136 : decode cX7_nextOrder 136 = .ok (.iload 4, 2) := by decide +kernel
theorem dX7_nextOrder_138 : decode cX7_nextOrder 138 = .ok (.iastore, 1) := by decide +kernel
theorem dX7_nextOrder_139 : decode cX7_nextOrder 139 = .ok (.iinc 5 1, 3) := by decide +kernel
theorem dX7_nextOrder_142 : decode cX7_nextOrder 142 = .ok (.iinc 6 (-1), 3) := by decide +kernel
theorem dX7_nextOrder_145 : decode cX7_nextOrder 145 = .ok (.goto (-45), 3) := by decide +kernel
theorem dX7_nextOrder_148 : decode cX7_nextOrder 148 = .ok (.iconst 1, 1) := by decide +kernel
theorem dX7_nextOrder_149 : decode cX7_nextOrder 149 = .ok (.ireturn, 1) := by decide +kernel
theorem dX7_line_0 : decode cX7_line 0 = .ok (.iload_n 1, 1) := by decide +kernel
theorem dX7_line_1 : decode cX7_line 1 = .ok (.i2l, 1) := by decide +kernel
theorem dX7_line_2 : decode cX7_line 2 = .ok (.ldc2_w 228, 3) := by decide +kernel
theorem dX7_line_5 : decode cX7_line 5 = .ok (.ldc2_w 186, 3) := by decide +kernel
theorem dX7_line_8 : decode cX7_line 8 = .ok (.invokestatic 75, 3) := by decide +kernel
theorem dX7_line_11 : decode cX7_line 11 = .ok (.ifCond .ne 5, 3) := by decide +kernel
theorem dX7_line_14 : decode cX7_line 14 = .ok (.iconst (-1), 1) := by decide +kernel
theorem dX7_line_15 : decode cX7_line 15 = .ok (.ireturn, 1) := by decide +kernel
theorem dX7_line_16 : decode cX7_line 16 = .ok (.iconst 0, 1) := by decide +kernel
theorem dX7_line_17 : decode cX7_line 17 = .ok (.istore_n 2, 1) := by decide +kernel
theorem dX7_line_18 : decode cX7_line 18 = .ok (.iconst 0, 1) := by decide +kernel
theorem dX7_line_19 : decode cX7_line 19 = .ok (.istore_n 3, 1) := by decide +kernel
theorem dX7_line_20 : decode cX7_line 20 = .ok (.iload_n 3, 1) := by decide +kernel
theorem dX7_line_21 : decode cX7_line 21 = .ok (.aload_n 0, 1) := by decide +kernel
theorem dX7_line_22 : decode cX7_line 22 = .ok (.getfield 167, 3) := by decide +kernel
theorem dX7_line_25 : decode cX7_line 25 = .ok (.if_icmp .ge 31, 3) := by decide +kernel
theorem dX7_line_28 : decode cX7_line 28 = .ok (.aload_n 0, 1) := by decide +kernel
theorem dX7_line_29 : decode cX7_line 29 = .ok (.getfield 29, 3) := by decide +kernel
theorem dX7_line_32 : decode cX7_line 32 = .ok (.iconst 3, 1) := by decide +kernel
theorem dX7_line_33 : decode cX7_line 33 = .ok (.iload_n 3, 1) := by decide +kernel
theorem dX7_line_34 : decode cX7_line 34 = .ok (.iadd, 1) := by decide +kernel
theorem dX7_line_35 : decode cX7_line 35 = .ok (.iaload, 1) := by decide +kernel
theorem dX7_line_36 : decode cX7_line 36 = .ok (.iconst 1, 1) := by decide +kernel
theorem dX7_line_37 : decode cX7_line 37 = .ok (.if_icmp .ne 13, 3) := by decide +kernel
theorem dX7_line_40 : decode cX7_line 40 = .ok (.aload_n 0, 1) := by decide +kernel
theorem dX7_line_41 : decode cX7_line 41 = .ok (.getfield 63, 3) := by decide +kernel
theorem dX7_line_44 : decode cX7_line 44 = .ok (.iload_n 2, 1) := by decide +kernel
theorem dX7_line_45 : decode cX7_line 45 = .ok (.iload_n 3, 1) := by decide +kernel
theorem dX7_line_46 : decode cX7_line 46 = .ok (.iastore, 1) := by decide +kernel
theorem dX7_line_47 : decode cX7_line 47 = .ok (.iinc 2 1, 3) := by decide +kernel
theorem dX7_line_50 : decode cX7_line 50 = .ok (.iinc 3 1, 3) := by decide +kernel
theorem dX7_line_53 : decode cX7_line 53 = .ok (.goto (-33), 3) := by decide +kernel
theorem dX7_line_56 : decode cX7_line 56 = .ok (.iconst (-1), 1) := by decide +kernel
theorem dX7_line_57 : decode cX7_line 57 = .ok (.istore_n 3, 1) := by decide +kernel
theorem dX7_line_58 : decode cX7_line 58 = .ok (.iconst 1, 1) := by decide +kernel
theorem dX7_line_59 : decode cX7_line 59 = .ok (.istore 4, 2) := by decide +kernel
theorem dX7_line_61 : decode cX7_line 61 = .ok (.iload 4, 2) := by decide +kernel
theorem dX7_line_63 : decode cX7_line 63 = .ok (.ifCond .eq 99, 3) := by decide +kernel
theorem dX7_line_66 : decode cX7_line 66 = .ok (.iconst 0, 1) := by decide +kernel
theorem dX7_line_67 : decode cX7_line 67 = .ok (.istore 5, 2) := by decide +kernel
theorem dX7_line_69 : decode cX7_line 69 = .ok (.iconst 0, 1) := by decide +kernel
theorem dX7_line_70 : decode cX7_line 70 = .ok (.istore 6, 2) := by decide +kernel
theorem dX7_line_72 : decode cX7_line 72 = .ok (.iload 6, 2) := by decide +kernel
theorem dX7_line_74 : decode cX7_line 74 = .ok (.iload_n 2, 1) := by decide +kernel
theorem dX7_line_75 : decode cX7_line 75 = .ok (.if_icmp .ge 54, 3) := by decide +kernel
theorem dX7_line_78 : decode cX7_line 78 = .ok (.aload_n 0, 1) := by decide +kernel
theorem dX7_line_79 : decode cX7_line 79 = .ok (.getfield 164, 3) := by decide +kernel
theorem dX7_line_82 : decode cX7_line 82 = .ok (.ifCond .le 47, 3) := by decide +kernel
theorem dX7_line_85 : decode cX7_line 85 = .ok (.iload 5, 2) := by decide +kernel
theorem dX7_line_87 : decode cX7_line 87 = .ok (.aload_n 0, 1) := by decide +kernel
theorem dX7_line_88 : decode cX7_line 88 = .ok (.aload_n 0, 1) := by decide +kernel
theorem dX7_line_89 : decode cX7_line 89 = .ok (.getfield 29, 3) := by decide +kernel
theorem dX7_line_92 : decode cX7_line 92 = .ok (.iconst 1, 1) := by decide +kernel
theorem dX7_line_93 : decode cX7_line 93 = .ok (.iaload, 1) := by decide +kernel
theorem dX7_line_94 : decode cX7_line 94 = .ok (.iload 6, 2) := by decide +kernel
theorem dX7_line_96 : decode cX7_line 96 = .ok (.iadd, 1) := by decide +kernel
theorem dX7_line_97 : decode cX7_line 97 = .ok (.aload_n 0, 1) := by decide +kernel
theorem dX7_line_98 : decode cX7_line 98 = .ok (.getfield 164, 3) := by decide +kernel
theorem dX7_line_101 : decode cX7_line 101 = .ok (.irem, 1) := by decide +kernel
theorem dX7_line_102 : decode cX7_line 102 = .ok (.aload_n 0, 1) := by decide +kernel
theorem dX7_line_103 : decode cX7_line 103 = .ok (.getfield 63, 3) := by decide +kernel
theorem dX7_line_106 : decode cX7_line 106 = .ok (.iload 6, 2) := by decide +kernel
theorem dX7_line_108 : decode cX7_line 108 = .ok (.iaload, 1) := by decide +kernel
theorem dX7_line_109 : decode cX7_line 109 = .ok (.invokevirtual 188, 3) := by decide +kernel
theorem dX7_line_112 : decode cX7_line 112 = .ok (.ifCond .eq 7, 3) := by decide +kernel
theorem dX7_line_115 : decode cX7_line 115 = .ok (.iconst 1, 1) := by decide +kernel
theorem dX7_line_116 : decode cX7_line 116 = .ok (.goto 4, 3) := by decide +kernel
theorem dX7_line_119 : decode cX7_line 119 = .ok (.iconst 0, 1) := by decide +kernel
theorem dX7_line_120 : decode cX7_line 120 = .ok (.iadd, 1) := by decide +kernel
theorem dX7_line_121 : decode cX7_line 121 = .ok (.istore 5, 2) := by decide +kernel
theorem dX7_line_123 : decode cX7_line 123 = .ok (.iinc 6 1, 3) := by decide +kernel
theorem dX7_line_126 : decode cX7_line 126 = .ok (.goto (-54), 3) := by decide +kernel
theorem dX7_line_129 : decode cX7_line 129 = .ok (.iload 5, 2) := by decide +kernel
theorem dX7_line_131 : decode cX7_line 131 = .ok (.iload_n 3, 1) := by decide +kernel
theorem dX7_line_132 : decode cX7_line 132 = .ok (.if_icmp .le 20, 3) := by decide +kernel
theorem dX7_line_135 : decode cX7_line 135 = .ok (.iload 5, 2) := by decide +kernel
theorem dX7_line_137 : decode cX7_line 137 = .ok (.istore_n 3, 1) := by decide +kernel
theorem dX7_line_138 : decode cX7_line 138 = .ok (.aload_n 0, 1) := by decide +kernel
theorem dX7_line_139 : decode cX7_line 139 = .ok (.getfield 63, 3) := by decide +kernel
theorem dX7_line_142 : decode cX7_line 142 = .ok (.iconst 0, 1) := by decide +kernel
theorem dX7_line_143 : decode cX7_line 143 = .ok (.aload_n 0, 1) := by decide +kernel
theorem dX7_line_144 : decode cX7_line 144 = .ok (.getfield 66, 3) := by decide +kernel
theorem dX7_line_147 : decode cX7_line 147 = .ok (.iconst 0, 1) := by decide +kernel
theorem dX7_line_148 : decode cX7_line 148 = .ok (.iload_n 2, 1) := by decide +kernel
theorem dX7_line_149 : decode cX7_line 149 = .ok (.invokestatic 176, 3) := by decide +kernel
theorem dX7_line_152 : decode cX7_line 152 = .ok (.aload_n 0, 1) := by decide +kernel
theorem dX7_line_153 : decode cX7_line 153 = .ok (.iload_n 2, 1) := by decide +kernel
theorem dX7_line_154 : decode cX7_line 154 = .ok (.invokevirtual 230, 3) := by decide +kernel
theorem dX7_line_157 : decode cX7_line 157 = .ok (.istore 4, 2) := by decide +kernel
theorem dX7_line_159 : decode cX7_line 159 = .ok (.goto (-98), 3) := by decide +kernel
theorem dX7_line_162 : decode cX7_line 162 = .ok (.iload_n 1, 1) := by decide +kernel
theorem dX7_line_163 : decode cX7_line 163 = .ok (.iconst (-1), 1) := by decide +kernel
theorem dX7_line_164 : decode cX7_line 164 = .ok (.if_icmp .ne 7, 3) := by decide +kernel
theorem dX7_line_167 : decode cX7_line 167 = .ok (.iload_n 3, 1) := by decide +kernel
theorem dX7_line_168 : decode cX7_line 168 = .ok (.goto 19, 3) := by decide +kernel
theorem dX7_line_171 : decode cX7_line 171 = .ok (.iload_n 1, 1) := by decide +kernel
theorem dX7_line_172 : decode cX7_line 172 = .ok (.iload_n 2, 1) := by decide +kernel
theorem dX7_line_173 : decode cX7_line 173 = .ok (.if_icmp .ge 12, 3) := by decide +kernel
theorem dX7_line_176 : decode cX7_line 176 = .ok (.aload_n 0, 1) := by decide +kernel
theorem dX7_line_177 : decode cX7_line 177 = .ok (.getfield 66, 3) := by decide +kernel
theorem dX7_line_180 : decode cX7_line 180 = .ok (.iload_n 1, 1) := by decide +kernel
theorem dX7_line_181 : decode cX7_line 181 = .ok (.iaload, 1) := by decide +kernel
theorem dX7_line_182 : decode cX7_line 182 = .ok (.goto 5, 3) := by decide +kernel
theorem dX7_line_185 : decode cX7_line 185 = .ok (.bipush (-9), 2) := by decide +kernel
theorem dX7_line_187 : decode cX7_line 187 = .ok (.ireturn, 1) := by decide +kernel
theorem dX7_sees_0 : decode cX7_sees 0 = .ok (.iload_n 1, 1) := by decide +kernel
theorem dX7_sees_1 : decode cX7_sees 1 = .ok (.invokestatic 211, 3) := by decide +kernel
theorem dX7_sees_4 : decode cX7_sees 4 = .ok (.ifCond .eq 18, 3) := by decide +kernel
theorem dX7_sees_7 : decode cX7_sees 7 = .ok (.aload_n 0, 1) := by decide +kernel
theorem dX7_sees_8 : decode cX7_sees 8 = .ok (.iload_n 2, 1) := by decide +kernel
theorem dX7_sees_9 : decode cX7_sees 9 = .ok (.invokevirtual 198, 3) := by decide +kernel
theorem dX7_sees_12 : decode cX7_sees 12 = .ok (.ifCond .eq 10, 3) := by decide +kernel
theorem dX7_sees_15 : decode cX7_sees 15 = .ok (.iload_n 3, 1) := by decide +kernel
theorem dX7_sees_16 : decode cX7_sees 16 = .ok (.invokestatic 202, 3) := by decide +kernel
theorem dX7_sees_19 : decode cX7_sees 19 = .ok (.ifCond .ne 5, 3) := by decide +kernel
theorem dX7_sees_22 : decode cX7_sees 22 = .ok (.iconst (-1), 1) := by decide +kernel
theorem dX7_sees_23 : decode cX7_sees 23 = .ok (.ireturn, 1) := by decide +kernel
theorem dX7_sees_24 : decode cX7_sees 24 = .ok (.aload_n 0, 1) := by decide +kernel
theorem dX7_sees_25 : decode cX7_sees 25 = .ok (.getfield 183, 3) := by decide +kernel
theorem dX7_sees_28 : decode cX7_sees 28 = .ok (.bipush 6, 2) := by decide +kernel
theorem dX7_sees_30 : decode cX7_sees 30 = .ok (.if_icmp .ne 6, 3) := by decide +kernel
theorem dX7_sees_33 : decode cX7_sees 33 = .ok (.bipush (-3), 2) := by decide +kernel
theorem dX7_sees_35 : decode cX7_sees 35 = .ok (.ireturn, 1) := by decide +kernel
theorem dX7_sees_36 : decode cX7_sees 36 = .ok (.aload_n 0, 1) := by decide +kernel
theorem dX7_sees_37 : decode cX7_sees 37 = .ok (.getfield 42, 3) := by decide +kernel
theorem dX7_sees_40 : decode cX7_sees 40 = .ok (.iconst 3, 1) := by decide +kernel
theorem dX7_sees_41 : decode cX7_sees 41 = .ok (.aload_n 0, 1) := by decide +kernel
theorem dX7_sees_42 : decode cX7_sees 42 = .ok (.getfield 183, 3) := by decide +kernel
theorem dX7_sees_45 : decode cX7_sees 45 = .ok (.imul, 1) := by decide +kernel
theorem dX7_sees_46 : decode cX7_sees 46 = .ok (.iload_n 1, 1) := by decide +kernel
theorem dX7_sees_47 : decode cX7_sees 47 = .ok (.iastore, 1) := by decide +kernel
theorem dX7_sees_48 : decode cX7_sees 48 = .ok (.aload_n 0, 1) := by decide +kernel
theorem dX7_sees_49 : decode cX7_sees 49 = .ok (.getfield 42, 3) := by decide +kernel
theorem dX7_sees_52 : decode cX7_sees 52 = .ok (.iconst 3, 1) := by decide +kernel
theorem dX7_sees_53 : decode cX7_sees 53 = .ok (.aload_n 0, 1) := by decide +kernel
theorem dX7_sees_54 : decode cX7_sees 54 = .ok (.getfield 183, 3) := by decide +kernel
theorem dX7_sees_57 : decode cX7_sees 57 = .ok (.imul, 1) := by decide +kernel
theorem dX7_sees_58 : decode cX7_sees 58 = .ok (.iconst 1, 1) := by decide +kernel
theorem dX7_sees_59 : decode cX7_sees 59 = .ok (.iadd, 1) := by decide +kernel
theorem dX7_sees_60 : decode cX7_sees 60 = .ok (.iload_n 2, 1) := by decide +kernel
theorem dX7_sees_61 : decode cX7_sees 61 = .ok (.iastore, 1) := by decide +kernel
theorem dX7_sees_62 : decode cX7_sees 62 = .ok (.aload_n 0, 1) := by decide +kernel
theorem dX7_sees_63 : decode cX7_sees 63 = .ok (.getfield 42, 3) := by decide +kernel
theorem dX7_sees_66 : decode cX7_sees 66 = .ok (.iconst 3, 1) := by decide +kernel
theorem dX7_sees_67 : decode cX7_sees 67 = .ok (.aload_n 0, 1) := by decide +kernel
theorem dX7_sees_68 : decode cX7_sees 68 = .ok (.getfield 183, 3) := by decide +kernel
theorem dX7_sees_71 : decode cX7_sees 71 = .ok (.imul, 1) := by decide +kernel
theorem dX7_sees_72 : decode cX7_sees 72 = .ok (.iconst 2, 1) := by decide +kernel
theorem dX7_sees_73 : decode cX7_sees 73 = .ok (.iadd, 1) := by decide +kernel
theorem dX7_sees_74 : decode cX7_sees 74 = .ok (.iload_n 3, 1) := by decide +kernel
theorem dX7_sees_75 : decode cX7_sees 75 = .ok (.iastore, 1) := by decide +kernel
theorem dX7_sees_76 : decode cX7_sees 76 = .ok (.aload_n 0, 1) := by decide +kernel
theorem dX7_sees_77 : decode cX7_sees 77 = .ok (.dup, 1) := by decide +kernel
theorem dX7_sees_78 : decode cX7_sees 78 = .ok (.getfield 183, 3) := by decide +kernel
theorem dX7_sees_81 : decode cX7_sees 81 = .ok (.iconst 1, 1) := by decide +kernel
theorem dX7_sees_82 : decode cX7_sees 82 = .ok (.iadd, 1) := by decide +kernel
theorem dX7_sees_83 : decode cX7_sees 83 = .ok (.putfield 183, 3) := by decide +kernel
theorem dX7_sees_86 : decode cX7_sees 86 = .ok (.aload_n 0, 1) := by decide +kernel
theorem dX7_sees_87 : decode cX7_sees 87 = .ok (.getfield 183, 3) := by decide +kernel
theorem dX7_sees_90 : decode cX7_sees 90 = .ok (.ireturn, 1) := by decide +kernel
theorem dX7_forget_0 : decode cX7_forget 0 = .ok (.aload_n 0, 1) := by decide +kernel
theorem dX7_forget_1 : decode cX7_forget 1 = .ok (.getfield 183, 3) := by decide +kernel
theorem dX7_forget_4 : decode cX7_forget 4 = .ok (.istore_n 1, 1) := by decide +kernel
theorem dX7_forget_5 : decode cX7_forget 5 = .ok (.aload_n 0, 1) := by decide +kernel
theorem dX7_forget_6 : decode cX7_forget 6 = .ok (.iconst 0, 1) := by decide +kernel
theorem dX7_forget_7 : decode cX7_forget 7 = .ok (.putfield 183, 3) := by decide +kernel
theorem dX7_forget_10 : decode cX7_forget 10 = .ok (.iload_n 1, 1) := by decide +kernel
theorem dX7_forget_11 : decode cX7_forget 11 = .ok (.ireturn, 1) := by decide +kernel
theorem dX7_canHave_0 : decode cX7_canHave 0 = .ok (.iconst 1, 1) := by decide +kernel
theorem dX7_canHave_1 : decode cX7_canHave 1 = .ok (.istore_n 2, 1) := by decide +kernel
theorem dX7_canHave_2 : decode cX7_canHave 2 = .ok (.iconst 0, 1) := by decide +kernel
theorem dX7_canHave_3 : decode cX7_canHave 3 = .ok (.istore_n 3, 1) := by decide +kernel
theorem dX7_canHave_4 : decode cX7_canHave 4 = .ok (.iload_n 3, 1) := by decide +kernel
theorem dX7_canHave_5 : decode cX7_canHave 5 = .ok (.iconst 3, 1) := by decide +kernel
theorem dX7_canHave_6 : decode cX7_canHave 6 = .ok (.aload_n 0, 1) := by decide +kernel
theorem dX7_canHave_7 : decode cX7_canHave 7 = .ok (.getfield 183, 3) := by decide +kernel
theorem dX7_canHave_10 : decode cX7_canHave 10 = .ok (.imul, 1) := by decide +kernel
theorem dX7_canHave_11 : decode cX7_canHave 11 = .ok (.if_icmp .ge 63, 3) := by decide +kernel
theorem dX7_canHave_14 : decode cX7_canHave 14 = .ok (.iload_n 2, 1) := by decide +kernel
theorem dX7_canHave_15 : decode cX7_canHave 15 = .ok (.ifCond .eq 51, 3) := by decide +kernel
theorem dX7_canHave_18 : decode cX7_canHave 18 = .ok (.iload_n 1, 1) := by decide +kernel
theorem dX7_canHave_19 : decode cX7_canHave 19 = .ok (.aload_n 0, 1) := by decide +kernel
theorem dX7_canHave_20 : decode cX7_canHave 20 = .ok (.getfield 7, 3) := by decide +kernel
theorem dX7_canHave_23 : decode cX7_canHave 23 = .ok (.aload_n 0, 1) := by decide +kernel
theorem dX7_canHave_24 : decode cX7_canHave 24 = .ok (.getfield 42, 3) := by decide +kernel
theorem dX7_canHave_27 : decode cX7_canHave 27 = .ok (.iload_n 3, 1) := by decide +kernel
theorem dX7_canHave_28 : decode cX7_canHave 28 = .ok (.iconst 1, 1) := by decide +kernel
theorem dX7_canHave_29 : decode cX7_canHave 29 = .ok (.iadd, 1) := by decide +kernel
theorem dX7_canHave_30 : decode cX7_canHave 30 = .ok (.iaload, 1) := by decide +kernel
theorem dX7_canHave_31 : decode cX7_canHave 31 = .ok (.iaload, 1) := by decide +kernel
theorem dX7_canHave_32 : decode cX7_canHave 32 = .ok (.iand, 1) := by decide +kernel
theorem dX7_canHave_33 : decode cX7_canHave 33 = .ok (.aload_n 0, 1) := by decide +kernel
theorem dX7_canHave_34 : decode cX7_canHave 34 = .ok (.getfield 42, 3) := by decide +kernel
theorem dX7_canHave_37 : decode cX7_canHave 37 = .ok (.iload_n 3, 1) := by decide +kernel
theorem dX7_canHave_38 : decode cX7_canHave 38 = .ok (.iaload, 1) := by decide +kernel
theorem dX7_canHave_39 : decode cX7_canHave 39 = .ok (.invokestatic 69, 3) := by decide +kernel
theorem dX7_canHave_42 : decode cX7_canHave 42 = .ok (.aload_n 0, 1) := by decide +kernel
theorem dX7_canHave_43 : decode cX7_canHave 43 = .ok (.getfield 42, 3) := by decide +kernel
theorem dX7_canHave_46 : decode cX7_canHave 46 = .ok (.iload_n 3, 1) := by decide +kernel
theorem dX7_canHave_47 : decode cX7_canHave 47 = .ok (.iconst 2, 1) := by decide +kernel
theorem dX7_canHave_48 : decode cX7_canHave 48 = .ok (.iadd, 1) := by decide +kernel
theorem dX7_canHave_49 : decode cX7_canHave 49 = .ok (.iaload, 1) := by decide +kernel
theorem dX7_canHave_50 : decode cX7_canHave 50 = .ok (.iconst 1, 1) := by decide +kernel
theorem dX7_canHave_51 : decode cX7_canHave 51 = .ok (.if_icmp .ne 7, 3) := by decide +kernel
theorem dX7_canHave_54 : decode cX7_canHave 54 = .ok (.iconst 1, 1) := by decide +kernel
theorem dX7_canHave_55 : decode cX7_canHave 55 = .ok (.goto 4, 3) := by decide +kernel
theorem dX7_canHave_58 : decode cX7_canHave 58 = .ok (.iconst 0, 1) := by decide +kernel
theorem dX7_canHave_59 : decode cX7_canHave 59 = .ok (.if_icmp .ne 7, 3) := by decide +kernel
theorem dX7_canHave_62 : decode cX7_canHave 62 = .ok (.iconst 1, 1) := by decide +kernel
theorem dX7_canHave_63 : decode cX7_canHave 63 = .ok (.goto 4, 3) := by decide +kernel
theorem dX7_canHave_66 : decode cX7_canHave 66 = .ok (.iconst 0, 1) := by decide +kernel
theorem dX7_canHave_67 : decode cX7_canHave 67 = .ok (.istore_n 2, 1) := by decide +kernel
theorem dX7_canHave_68 : decode cX7_canHave 68 = .ok (.iinc 3 3, 3) := by decide +kernel
theorem dX7_canHave_71 : decode cX7_canHave 71 = .ok (.goto (-67), 3) := by decide +kernel
theorem dX7_canHave_74 : decode cX7_canHave 74 = .ok (.iload_n 2, 1) := by decide +kernel
theorem dX7_canHave_75 : decode cX7_canHave 75 = .ok (.ireturn, 1) := by decide +kernel
theorem dX7_had_0 : decode cX7_had 0 = .ok (.iload_n 1, 1) := by decide +kernel
theorem dX7_had_1 : decode cX7_had 1 = .ok (.i2l, 1) := by decide +kernel
theorem dX7_had_2 : decode cX7_had 2 = .ok (.lconst 0, 1) := by decide +kernel
theorem dX7_had_3 : decode cX7_had 3 = .ok (.ldc2_w 233, 3) := by decide +kernel
theorem dX7_had_6 : decode cX7_had 6 = .ok (.invokestatic 75, 3) := by decide +kernel
theorem dX7_had_9 : decode cX7_had 9 = .ok (.ifCond .ne 5, 3) := by decide +kernel
theorem dX7_had_12 : decode cX7_had 12 = .ok (.iconst (-1), 1) := by decide +kernel
theorem dX7_had_13 : decode cX7_had 13 = .ok (.ireturn, 1) := by decide +kernel
theorem dX7_had_14 : decode cX7_had 14 = .ok (.iconst 0, 1) := by decide +kernel
theorem dX7_had_15 : decode cX7_had 15 = .ok (.istore_n 2, 1) := by decide +kernel
theorem dX7_had_16 : decode cX7_had 16 = .ok (.bipush 63, 2) := by decide +kernel
theorem dX7_had_18 : decode cX7_had 18 = .ok (.istore_n 3, 1) := by decide +kernel
theorem dX7_had_19 : decode cX7_had 19 = .ok (.iconst 0, 1) := by decide +kernel
theorem dX7_had_20 : decode cX7_had 20 = .ok (.istore 4, 2) := by decide +kernel
theorem dX7_had_22 : decode cX7_had 22 = .ok (.iconst 0, 1) := by decide +kernel
theorem dX7_had_23 : decode cX7_had 23 = .ok (.istore 5, 2) := by decide +kernel
theorem dX7_had_25 : decode cX7_had 25 = .ok (.iload 5, 2) := by decide +kernel
theorem dX7_had_27 : decode cX7_had 27 = .ok (.bipush 64, 2) := by decide +kernel
theorem dX7_had_29 : decode cX7_had 29 = .ok (.if_icmp .ge 33, 3) := by decide +kernel
theorem dX7_had_32 : decode cX7_had 32 = .ok (.aload_n 0, 1) := by decide +kernel
theorem dX7_had_33 : decode cX7_had 33 = .ok (.iload 5, 2) := by decide +kernel
theorem dX7_had_35 : decode cX7_had 35 = .ok (.invokevirtual 235, 3) := by decide +kernel
theorem dX7_had_38 : decode cX7_had 38 = .ok (.ifCond .eq 18, 3) := by decide +kernel
theorem dX7_had_41 : decode cX7_had 41 = .ok (.iinc 2 1, 3) := by decide +kernel
theorem dX7_had_44 : decode cX7_had 44 = .ok (.iload_n 3, 1) := by decide +kernel
theorem dX7_had_45 : decode cX7_had 45 = .ok (.iload 5, 2) := by decide +kernel
theorem dX7_had_47 : decode cX7_had 47 = .ok (.iand, 1) := by decide +kernel
theorem dX7_had_48 : decode cX7_had 48 = .ok (.istore_n 3, 1) := by decide +kernel
theorem dX7_had_49 : decode cX7_had 49 = .ok (.iload 4, 2) := by decide +kernel
theorem dX7_had_51 : decode cX7_had 51 = .ok (.iload 5, 2) := by decide +kernel
theorem dX7_had_53 : decode cX7_had 53 = .ok (.ior, 1) := by decide +kernel
theorem dX7_had_54 : decode cX7_had 54 = .ok (.istore 4, 2) := by decide +kernel
theorem dX7_had_56 : decode cX7_had 56 = .ok (.iinc 5 1, 3) := by decide +kernel
theorem dX7_had_59 : decode cX7_had 59 = .ok (.goto (-34), 3) := by decide +kernel
theorem dX7_had_62 : decode cX7_had 62 = .ok (.iload_n 1, 1) := by decide +kernel
theorem dX7_had_63 : decode cX7_had 63 = .ok (.ifCond .ne 7, 3) := by decide +kernel
theorem dX7_had_66 : decode cX7_had 66 = .ok (.iload_n 2, 1) := by decide +kernel
theorem dX7_had_67 : decode cX7_had 67 = .ok (.goto 23, 3) := by decide +kernel
theorem dX7_had_70 : decode cX7_had 70 = .ok (.iload_n 1, 1) := by decide +kernel
theorem dX7_had_71 : decode cX7_had 71 = .ok (.iconst 2, 1) := by decide +kernel
theorem dX7_had_72 : decode cX7_had 72 = .ok (.if_icmp .ne 8, 3) := by decide +kernel
theorem dX7_had_75 : decode cX7_had 75 = .ok (.iload 4, 2) := by decide +kernel
theorem dX7_had_77 : decode cX7_had 77 = .ok (.goto 13, 3) := by decide +kernel
theorem dX7_had_80 : decode cX7_had 80 = .ok (.iload_n 2, 1) := by decide +kernel
theorem dX7_had_81 : decode cX7_had 81 = .ok (.ifCond .ne 8, 3) := by decide +kernel
theorem dX7_had_84 : decode cX7_had 84 = .ok (.bipush (-9), 2) := by decide +kernel
theorem dX7_had_86 : decode cX7_had 86 = .ok (.goto 4, 3) := by decide +kernel
theorem dX7_had_89 : decode cX7_had 89 = .ok (.iload_n 3, 1) := by decide +kernel
theorem dX7_had_90 : decode cX7_had 90 = .ok (.ireturn, 1) := by decide +kernel
theorem dX7_ask_0 : decode cX7_ask 0 = .ok (.aload_n 0, 1) := by decide +kernel
theorem dX7_ask_1 : decode cX7_ask 1 = .ok (.iload_n 1, 1) := by decide +kernel
theorem dX7_ask_2 : decode cX7_ask 2 = .ok (.invokevirtual 198, 3) := by decide +kernel
theorem dX7_ask_5 : decode cX7_ask 5 = .ok (.ifCond .ne 5, 3) := by decide +kernel
theorem dX7_ask_8 : decode cX7_ask 8 = .ok (.iconst (-1), 1) := by decide +kernel
theorem dX7_ask_9 : decode cX7_ask 9 = .ok (.ireturn, 1) := by decide +kernel
theorem dX7_ask_10 : decode cX7_ask 10 = .ok (.aload_n 0, 1) := by decide +kernel
theorem dX7_ask_11 : decode cX7_ask 11 = .ok (.iconst 0, 1) := by decide +kernel
theorem dX7_ask_12 : decode cX7_ask 12 = .ok (.invokevirtual 238, 3) := by decide +kernel
theorem dX7_ask_15 : decode cX7_ask 15 = .ok (.istore_n 2, 1) := by decide +kernel
theorem dX7_ask_16 : decode cX7_ask 16 = .ok (.bipush 65, 2) := by decide +kernel
theorem dX7_ask_18 : decode cX7_ask 18 = .ok (.istore_n 3, 1) := by decide +kernel
theorem dX7_ask_19 : decode cX7_ask 19 = .ok (.bipush (-9), 2) := by decide +kernel
theorem dX7_ask_21 : decode cX7_ask 21 = .ok (.istore 4, 2) := by decide +kernel
theorem dX7_ask_23 : decode cX7_ask 23 = .ok (.iconst 0, 1) := by decide +kernel
theorem dX7_ask_24 : decode cX7_ask 24 = .ok (.istore 5, 2) := by decide +kernel
theorem dX7_ask_26 : decode cX7_ask 26 = .ok (.iload 5, 2) := by decide +kernel
theorem dX7_ask_28 : decode cX7_ask 28 = .ok (.bipush 6, 2) := by decide +kernel
theorem dX7_ask_30 : decode cX7_ask 30 = .ok (.if_icmp .ge 117, 3) := by decide +kernel
theorem dX7_ask_33 : decode cX7_ask 33 = .ok (.iload_n 2, 1) := by decide +kernel
theorem dX7_ask_34 : decode cX7_ask 34 = .ok (.iconst 1, 1) := by decide +kernel
theorem dX7_ask_35 : decode cX7_ask 35 = .ok (.if_icmp .le 112, 3) := by decide +kernel
theorem dX7_ask_38 : decode cX7_ask 38 = .ok (.iconst 0, 1) := by decide +kernel
theorem dX7_ask_39 : decode cX7_ask 39 = .ok (.istore 6, 2) := by decide +kernel
theorem dX7_ask_41 : decode cX7_ask 41 = .ok (.iconst 0, 1) := by decide +kernel
theorem dX7_ask_42 : decode cX7_ask 42 = .ok (.istore 7, 2) := by decide +kernel
theorem dX7_ask_44 : decode cX7_ask 44 = .ok (.iload 7, 2) := by decide +kernel
theorem dX7_ask_46 : decode cX7_ask 46 = .ok (.bipush 64, 2) := by decide +kernel
theorem dX7_ask_48 : decode cX7_ask 48 = .ok (.if_icmp .ge 45, 3) := by decide +kernel
theorem dX7_ask_51 : decode cX7_ask 51 = .ok (.iload 6, 2) := by decide +kernel
theorem dX7_ask_53 : decode cX7_ask 53 = .ok (.aload_n 0, 1) := by decide +kernel
theorem dX7_ask_54 : decode cX7_ask 54 = .ok (.iload 7, 2) := by decide +kernel
theorem dX7_ask_56 : decode cX7_ask 56 = .ok (.invokevirtual 235, 3) := by decide +kernel
theorem dX7_ask_59 : decode cX7_ask 59 = .ok (.ifCond .eq 24, 3) := by decide +kernel
theorem dX7_ask_62 : decode cX7_ask 62 = .ok (.iload 7, 2) := by decide +kernel
theorem dX7_ask_64 : decode cX7_ask 64 = .ok (.aload_n 0, 1) := by decide +kernel
theorem dX7_ask_65 : decode cX7_ask 65 = .ok (.getfield 7, 3) := by decide +kernel
theorem dX7_ask_68 : decode cX7_ask 68 = .ok (.iload_n 1, 1) := by decide +kernel
theorem dX7_ask_69 : decode cX7_ask 69 = .ok (.iaload, 1) := by decide +kernel
theorem dX7_ask_70 : decode cX7_ask 70 = .ok (.iand, 1) := by decide +kernel
theorem dX7_ask_71 : decode cX7_ask 71 = .ok (.iload 5, 2) := by decide +kernel
theorem dX7_ask_73 : decode cX7_ask 73 = .ok (.invokestatic 69, 3) := by decide +kernel
theorem dX7_ask_76 : decode cX7_ask 76 = .ok (.ifCond .eq 7, 3) := by decide +kernel
theorem dX7_ask_79 : decode cX7_ask 79 = .ok (.iconst 1, 1) := by decide +kernel
theorem dX7_ask_80 : decode cX7_ask 80 = .ok (.goto 4, 3) := by decide +kernel
theorem dX7_ask_83 : decode cX7_ask 83 = .ok (.iconst 0, 1) := by decide +kernel
theorem dX7_ask_84 : decode cX7_ask 84 = .ok (.iadd, 1) := by decide +kernel
theorem dX7_ask_85 : decode cX7_ask 85 = .ok (.istore 6, 2) := by decide +kernel
theorem dX7_ask_87 : decode cX7_ask 87 = .ok (.iinc 7 1, 3) := by decide +kernel
theorem dX7_ask_90 : decode cX7_ask 90 = .ok (.goto (-46), 3) := by decide +kernel
theorem dX7_ask_93 : decode cX7_ask 93 = .ok (.iload 6, 2) := by decide +kernel
theorem dX7_ask_95 : decode cX7_ask 95 = .ok (.iload_n 2, 1) := by decide +kernel
theorem dX7_ask_96 : decode cX7_ask 96 = .ok (.iload 6, 2) := by decide +kernel
theorem dX7_ask_98 : decode cX7_ask 98 = .ok (.isub, 1) := by decide +kernel
theorem dX7_ask_99 : decode cX7_ask 99 = .ok (.if_icmp .le 8, 3) := by decide +kernel
theorem dX7_ask_102 : decode cX7_ask 102 = .ok (.iload 6, 2) := by decide +kernel
theorem dX7_ask_104 : decode cX7_ask 104 = .ok (.goto 7, 3) := by decide +kernel
theorem dX7_ask_107 : decode cX7_ask 107 = .ok (.iload_n 2, 1) := by decide +kernel
theorem dX7_ask_108 : decode cX7_ask 108 = .ok (.iload 6, 2) := by decide +kernel
theorem dX7_ask_110 : decode cX7_ask 110 = .ok (.isub, 1) := by decide +kernel
theorem dX7_ask_111 : decode cX7_ask 111 = .ok (.istore 7, 2) := by decide +kernel
theorem dX7_ask_113 : decode cX7_ask 113 = .ok (.iload 7, 2) := by decide +kernel
theorem dX7_ask_115 : decode cX7_ask 115 = .ok (.iload_n 3, 1) := by decide +kernel
theorem dX7_ask_116 : decode cX7_ask 116 = .ok (.if_icmp .ge 8, 3) := by decide +kernel
theorem dX7_ask_119 : decode cX7_ask 119 = .ok (.iload 5, 2) := by decide +kernel
theorem dX7_ask_121 : decode cX7_ask 121 = .ok (.goto 5, 3) := by decide +kernel
theorem dX7_ask_124 : decode cX7_ask 124 = .ok (.iload 4, 2) := by decide +kernel
theorem dX7_ask_126 : decode cX7_ask 126 = .ok (.istore 4, 2) := by decide +kernel
theorem dX7_ask_128 : decode cX7_ask 128 = .ok (.iload 7, 2) := by decide +kernel
theorem dX7_ask_130 : decode cX7_ask 130 = .ok (.iload_n 3, 1) := by decide +kernel
theorem dX7_ask_131 : decode cX7_ask 131 = .ok (.if_icmp .ge 8, 3) := by decide +kernel
theorem dX7_ask_134 : decode cX7_ask 134 = .ok (.iload 7, 2) := by decide +kernel
theorem dX7_ask_136 : decode cX7_ask 136 = .ok (.goto 4, 3) := by decide +kernel
theorem dX7_ask_139 : decode cX7_ask 139 = .ok (.iload_n 3, 1) := by decide +kernel
theorem dX7_ask_140 : decode cX7_ask 140 = .ok (.istore_n 3, 1) := by decide +kernel
theorem dX7_ask_141 : decode cX7_ask 141 = .ok (.iinc 5 1, 3) := by decide +kernel
theorem dX7_ask_144 : decode cX7_ask 144 = .ok (.goto (-118), 3) := by decide +kernel
theorem dX7_ask_147 : decode cX7_ask 147 = .ok (.iload 4, 2) := by decide +kernel
theorem dX7_ask_149 : decode cX7_ask 149 = .ok (.ireturn, 1) := by decide +kernel
theorem dX7_taleOf_0 : decode cX7_taleOf 0 = .ok (.iload_n 1, 1) := by decide +kernel
theorem dX7_taleOf_1 : decode cX7_taleOf 1 = .ok (.istore_n 3, 1) := by decide +kernel
theorem dX7_taleOf_2 : decode cX7_taleOf 2 = .ok (.iconst 0, 1) := by decide +kernel
theorem dX7_taleOf_3 : decode cX7_taleOf 3 = .ok (.istore 4, 2) := by decide +kernel
theorem dX7_taleOf_5 : decode cX7_taleOf 5 = .ok (.iload 4, 2) := by decide +kernel
theorem dX7_taleOf_7 : decode cX7_taleOf 7 = .ok (.iload_n 2, 1) := by decide +kernel
theorem dX7_taleOf_8 : decode cX7_taleOf 8 = .ok (.if_icmp .ge 27, 3) := by decide +kernel
theorem dX7_taleOf_11 : decode cX7_taleOf 11 = .ok (.aload_n 0, 1) := by decide +kernel
theorem dX7_taleOf_12 : decode cX7_taleOf 12 = .ok (.getfield 16, 3) := by decide +kernel
theorem dX7_taleOf_15 : decode cX7_taleOf 15 = .ok (.bipush 6, 2) := by decide +kernel
theorem dX7_taleOf_17 : decode cX7_taleOf 17 = .ok (.iload 4, 2) := by decide +kernel
theorem dX7_taleOf_19 : decode cX7_taleOf 19 = .ok (.aload_n 0, 1) := by decide +kernel
theorem dX7_taleOf_20 : decode cX7_taleOf 20 = .ok (.getfield 170, 3) := by decide +kernel
theorem dX7_taleOf_23 : decode cX7_taleOf 23 = .ok (.irem, 1) := by decide +kernel
theorem dX7_taleOf_24 : decode cX7_taleOf 24 = .ok (.imul, 1) := by decide +kernel
theorem dX7_taleOf_25 : decode cX7_taleOf 25 = .ok (.iload_n 3, 1) := by decide +kernel
theorem dX7_taleOf_26 : decode cX7_taleOf 26 = .ok (.iadd, 1) := by decide +kernel
theorem dX7_taleOf_27 : decode cX7_taleOf 27 = .ok (.iaload, 1) := by decide +kernel
theorem dX7_taleOf_28 : decode cX7_taleOf 28 = .ok (.istore_n 3, 1) := by decide +kernel
theorem dX7_taleOf_29 : decode cX7_taleOf 29 = .ok (.iinc 4 1, 3) := by decide +kernel
theorem dX7_taleOf_32 : decode cX7_taleOf 32 = .ok (.goto (-27), 3) := by decide +kernel
theorem dX7_taleOf_35 : decode cX7_taleOf 35 = .ok (.iload_n 3, 1) := by decide +kernel
theorem dX7_taleOf_36 : decode cX7_taleOf 36 = .ok (.ireturn, 1) := by decide +kernel
theorem dX7_isTold_0 : decode cX7_isTold 0 = .ok (.iload_n 1, 1) := by decide +kernel
theorem dX7_isTold_1 : decode cX7_isTold 1 = .ok (.ifCond .eq 10, 3) := by decide +kernel
theorem dX7_isTold_4 : decode cX7_isTold 4 = .ok (.aload_n 0, 1) := by decide +kernel
theorem dX7_isTold_5 : decode cX7_isTold 5 = .ok (.getfield 170, 3) := by decide +kernel
theorem dX7_isTold_8 : decode cX7_isTold 8 = .ok (.ifCond .le 7, 3) := by decide +kernel
theorem dX7_isTold_11 : decode cX7_isTold 11 = .ok (.iconst 1, 1) := by decide +kernel
theorem dX7_isTold_12 : decode cX7_isTold 12 = .ok (.goto 4, 3) := by decide +kernel
theorem dX7_isTold_15 : decode cX7_isTold 15 = .ok (.iconst 0, 1) := by decide +kernel
theorem dX7_isTold_16 : decode cX7_isTold 16 = .ok (.ireturn, 1) := by decide +kernel
theorem dX7_tale_0 : decode cX7_tale 0 = .ok (.iload_n 1, 1) := by decide +kernel
theorem dX7_tale_1 : decode cX7_tale 1 = .ok (.invokestatic 211, 3) := by decide +kernel
theorem dX7_tale_4 : decode cX7_tale 4 = .ok (.ifCond .eq 15, 3) := by decide +kernel
theorem dX7_tale_7 : decode cX7_tale 7 = .ok (.iload_n 2, 1) := by decide +kernel
theorem dX7_tale_8 : decode cX7_tale 8 = .ok (.i2l, 1) := by decide +kernel
theorem dX7_tale_9 : decode cX7_tale 9 = .ok (.lconst 0, 1) := by decide +kernel
theorem dX7_tale_10 : decode cX7_tale 10 = .ok (.ldc2_w 241, 3) := by decide +kernel
theorem dX7_tale_13 : decode cX7_tale 13 = .ok (.invokestatic 75, 3) := by decide +kernel
theorem dX7_tale_16 : decode cX7_tale 16 = .ok (.ifCond .ne 5, 3) := by decide +kernel
theorem dX7_tale_19 : decode cX7_tale 19 = .ok (.iconst (-1), 1) := by decide +kernel
theorem dX7_tale_20 : decode cX7_tale 20 = .ok (.ireturn, 1) := by decide +kernel
theorem dX7_tale_21 : decode cX7_tale 21 = .ok (.aload_n 0, 1) := by decide +kernel
theorem dX7_tale_22 : decode cX7_tale 22 = .ok (.iload_n 2, 1) := by decide +kernel
theorem dX7_tale_23 : decode cX7_tale 23 = .ok (.invokevirtual 243, 3) := by decide +kernel
theorem dX7_tale_26 : decode cX7_tale 26 = .ok (.ifCond .eq 12, 3) := by decide +kernel
theorem dX7_tale_29 : decode cX7_tale 29 = .ok (.aload_n 0, 1) := by decide +kernel
theorem dX7_tale_30 : decode cX7_tale 30 = .ok (.iload_n 1, 1) := by decide +kernel
theorem dX7_tale_31 : decode cX7_tale 31 = .ok (.iload_n 2, 1) := by decide +kernel
theorem dX7_tale_32 : decode cX7_tale 32 = .ok (.invokevirtual 246, 3) := by decide +kernel
theorem dX7_tale_35 : decode cX7_tale 35 = .ok (.goto 5, 3) := by decide +kernel
theorem dX7_tale_38 : decode cX7_tale 38 = .ok (.bipush (-9), 2) := by decide +kernel
theorem dX7_tale_40 : decode cX7_tale 40 = .ok (.ireturn, 1) := by decide +kernel
theorem dX7_first_0 : decode cX7_first 0 = .ok (.iload_n 1, 1) := by decide +kernel
theorem dX7_first_1 : decode cX7_first 1 = .ok (.invokestatic 211, 3) := by decide +kernel
theorem dX7_first_4 : decode cX7_first 4 = .ok (.ifCond .eq 15, 3) := by decide +kernel
theorem dX7_first_7 : decode cX7_first 7 = .ok (.iload_n 2, 1) := by decide +kernel
theorem dX7_first_8 : decode cX7_first 8 = .ok (.i2l, 1) := by decide +kernel
theorem dX7_first_9 : decode cX7_first 9 = .ok (.lconst 0, 1) := by decide +kernel
theorem dX7_first_10 : decode cX7_first 10 = .ok (.ldc2_w 241, 3) := by decide +kernel
theorem dX7_first_13 : decode cX7_first 13 = .ok (.invokestatic 75, 3) := by decide +kernel
theorem dX7_first_16 : decode cX7_first 16 = .ok (.ifCond .ne 5, 3) := by decide +kernel
theorem dX7_first_19 : decode cX7_first 19 = .ok (.iconst (-1), 1) := by decide +kernel
theorem dX7_first_20 : decode cX7_first 20 = .ok (.ireturn, 1) := by decide +kernel
theorem dX7_first_21 : decode cX7_first 21 = .ok (.iconst 0, 1) := by decide +kernel
theorem dX7_first_22 : decode cX7_first 22 = .ok (.istore_n 3, 1) := by decide +kernel
theorem dX7_first_23 : decode cX7_first 23 = .ok (.iconst 0, 1) := by decide +kernel
theorem dX7_first_24 : decode cX7_first 24 = .ok (.istore 4, 2) := by decide +kernel
theorem dX7_first_26 : decode cX7_first 26 = .ok (.iload 4, 2) := by decide +kernel
theorem dX7_first_28 : decode cX7_first 28 = .ok (.bipush 6, 2) := by decide +kernel
theorem dX7_first_30 : decode cX7_first 30 = .ok (.if_icmp .ge 39, 3) := by decide +kernel
theorem dX7_first_33 : decode cX7_first 33 = .ok (.aload_n 0, 1) := by decide +kernel
theorem dX7_first_34 : decode cX7_first 34 = .ok (.iload_n 2, 1) := by decide +kernel
theorem dX7_first_35 : decode cX7_first 35 = .ok (.invokevirtual 243, 3) := by decide +kernel
theorem dX7_first_38 : decode cX7_first 38 = .ok (.ifCond .eq 31, 3) := by decide +kernel
theorem dX7_first_41 : decode cX7_first 41 = .ok (.iload_n 3, 1) := by decide +kernel
theorem dX7_first_42 : decode cX7_first 42 = .ok (.aload_n 0, 1) := by decide +kernel
theorem dX7_first_43 : decode cX7_first 43 = .ok (.iload 4, 2) := by decide +kernel
theorem dX7_first_45 : decode cX7_first 45 = .ok (.iload_n 2, 1) := by decide +kernel
theorem dX7_first_46 : decode cX7_first 46 = .ok (.invokevirtual 246, 3) := by decide +kernel
theorem dX7_first_49 : decode cX7_first 49 = .ok (.iload_n 1, 1) := by decide +kernel
theorem dX7_first_50 : decode cX7_first 50 = .ok (.if_icmp .ne 10, 3) := by decide +kernel
theorem dX7_first_53 : decode cX7_first 53 = .ok (.iconst 1, 1) := by decide +kernel
theorem dX7_first_54 : decode cX7_first 54 = .ok (.iload 4, 2) := by decide +kernel
theorem dX7_first_56 : decode cX7_first 56 = .ok (.ishl, 1) := by decide +kernel
theorem dX7_first_57 : decode cX7_first 57 = .ok (.goto 4, 3) := by decide +kernel
theorem dX7_first_60 : decode cX7_first 60 = .ok (.iconst 0, 1) := by decide +kernel
theorem dX7_first_61 : decode cX7_first 61 = .ok (.ior, 1) := by decide +kernel
theorem dX7_first_62 : decode cX7_first 62 = .ok (.istore_n 3, 1) := by decide +kernel
theorem dX7_first_63 : decode cX7_first 63 = .ok (.iinc 4 1, 3) := by decide +kernel
theorem dX7_first_66 : decode cX7_first 66 = .ok (.goto (-40), 3) := by decide +kernel
theorem dX7_first_69 : decode cX7_first 69 = .ok (.iload_n 3, 1) := by decide +kernel
theorem dX7_first_70 : decode cX7_first 70 = .ok (.ireturn, 1) := by decide +kernel
theorem dX7_when_0 : decode cX7_when 0 = .ok (.iload_n 1, 1) := by decide +kernel
theorem dX7_when_1 : decode cX7_when 1 = .ok (.i2l, 1) := by decide +kernel
theorem dX7_when_2 : decode cX7_when 2 = .ok (.lconst 0, 1) := by decide +kernel
theorem dX7_when_3 : decode cX7_when 3 = .ok (.ldc2_w 249, 3) := by decide +kernel
theorem dX7_when_6 : decode cX7_when 6 = .ok (.invokestatic 75, 3) := by decide +kernel
theorem dX7_when_9 : decode cX7_when 9 = .ok (.ifCond .ne 5, 3) := by decide +kernel
theorem dX7_when_12 : decode cX7_when 12 = .ok (.iconst (-1), 1) := by decide +kernel
theorem dX7_when_13 : decode cX7_when 13 = .ok (.ireturn, 1) := by decide +kernel
theorem dX7_when_14 : decode cX7_when 14 = .ok (.iload_n 1, 1) := by decide +kernel
theorem dX7_when_15 : decode cX7_when 15 = .ok (.istore_n 2, 1) := by decide +kernel
theorem dX7_when_16 : decode cX7_when 16 = .ok (.iload_n 2, 1) := by decide +kernel
theorem dX7_when_17 : decode cX7_when 17 = .ok (.iload_n 1, 1) := by decide +kernel
theorem dX7_when_18 : decode cX7_when 18 = .ok (.sipush 1728, 3) := by decide +kernel
theorem dX7_when_21 : decode cX7_when 21 = .ok (.iadd, 1) := by decide +kernel
theorem dX7_when_22 : decode cX7_when 22 = .ok (.if_icmp .ge 64, 3) := by decide +kernel
theorem dX7_when_25 : decode cX7_when 25 = .ok (.iconst 1, 1) := by decide +kernel
theorem dX7_when_26 : decode cX7_when 26 = .ok (.istore_n 3, 1) := by decide +kernel
theorem dX7_when_27 : decode cX7_when 27 = .ok (.iconst 0, 1) := by decide +kernel
theorem dX7_when_28 : decode cX7_when 28 = .ok (.istore 4, 2) := by decide +kernel
theorem dX7_when_30 : decode cX7_when 30 = .ok (.iload 4, 2) := by decide +kernel
theorem dX7_when_32 : decode cX7_when 32 = .ok (.aload_n 0, 1) := by decide +kernel
theorem dX7_when_33 : decode cX7_when 33 = .ok (.getfield 173, 3) := by decide +kernel
theorem dX7_when_36 : decode cX7_when 36 = .ok (.if_icmp .ge 38, 3) := by decide +kernel
theorem dX7_when_39 : decode cX7_when 39 = .ok (.iload_n 3, 1) := by decide +kernel
theorem dX7_when_40 : decode cX7_when 40 = .ok (.ifCond .eq 26, 3) := by decide +kernel
theorem dX7_when_43 : decode cX7_when 43 = .ok (.iload_n 2, 1) := by decide +kernel
theorem dX7_when_44 : decode cX7_when 44 = .ok (.aload_n 0, 1) := by decide +kernel
theorem dX7_when_45 : decode cX7_when 45 = .ok (.getfield 19, 3) := by decide +kernel
theorem dX7_when_48 : decode cX7_when 48 = .ok (.iload 4, 2) := by decide +kernel
theorem dX7_when_50 : decode cX7_when 50 = .ok (.iaload, 1) := by decide +kernel
theorem dX7_when_51 : decode cX7_when 51 = .ok (.irem, 1) := by decide +kernel
theorem dX7_when_52 : decode cX7_when 52 = .ok (.aload_n 0, 1) := by decide +kernel
theorem dX7_when_53 : decode cX7_when 53 = .ok (.getfield 22, 3) := by decide +kernel
theorem dX7_when_56 : decode cX7_when 56 = .ok (.iload 4, 2) := by decide +kernel
theorem dX7_when_58 : decode cX7_when 58 = .ok (.iaload, 1) := by decide +kernel
theorem dX7_when_59 : decode cX7_when 59 = .ok (.if_icmp .ne 7, 3) := by decide +kernel
theorem dX7_when_62 : decode cX7_when 62 = .ok (.iconst 1, 1) := by decide +kernel
theorem dX7_when_63 : decode cX7_when 63 = .ok (.goto 4, 3) := by decide +kernel
theorem dX7_when_66 : decode cX7_when 66 = .ok (.iconst 0, 1) := by decide +kernel
theorem dX7_when_67 : decode cX7_when 67 = .ok (.istore_n 3, 1) := by decide +kernel
theorem dX7_when_68 : decode cX7_when 68 = .ok (.iinc 4 1, 3) := by decide +kernel
theorem dX7_when_71 : decode cX7_when 71 = .ok (.goto (-41), 3) := by decide +kernel
theorem dX7_when_74 : decode cX7_when 74 = .ok (.iload_n 3, 1) := by decide +kernel
theorem dX7_when_75 : decode cX7_when 75 = .ok (.ifCond .eq 5, 3) := by decide +kernel
theorem dX7_when_78 : decode cX7_when 78 = .ok (.iload_n 2, 1) := by decide +kernel
theorem dX7_when_79 : decode cX7_when 79 = .ok (.ireturn, 1) := by decide +kernel
theorem dX7_when_80 : decode cX7_when 80 = .ok (.iinc 2 1, 3) := by decide +kernel
theorem dX7_when_83 : decode cX7_when 83 = .ok (.goto (-67), 3) := by decide +kernel
theorem dX7_when_86 : decode cX7_when 86 = .ok (.bipush (-9), 2) := by decide +kernel
theorem dX7_when_88 : decode cX7_when 88 = .ok (.ireturn, 1) := by decide +kernel
theorem dX7_power_0 : decode cX7_power 0 = .ok (.lconst 1, 1) := by decide +kernel
theorem dX7_power_1 : decode cX7_power 1 = .ok (.lstore_n 3, 1) := by decide +kernel
theorem dX7_power_2 : decode cX7_power 2 = .ok (.iconst 0, 1) := by decide +kernel
theorem dX7_power_3 : decode cX7_power 3 = .ok (.istore 5, 2) := by decide +kernel
theorem dX7_power_5 : decode cX7_power 5 = .ok (.iload 5, 2) := by decide +kernel
theorem dX7_power_7 : decode cX7_power 7 = .ok (.iload_n 2, 1) := by decide +kernel
theorem dX7_power_8 : decode cX7_power 8 = .ok (.if_icmp .ge 13, 3) := by decide +kernel
theorem dX7_power_11 : decode cX7_power 11 = .ok (.lload_n 3, 1) := by decide +kernel
theorem dX7_power_12 : decode cX7_power 12 = .ok (.lload_n 0, 1) := by decide +kernel
theorem dX7_power_13 : decode cX7_power 13 = .ok (.lmul, 1) := by decide +kernel
theorem dX7_power_14 : decode cX7_power 14 = .ok (.lstore_n 3, 1) := by decide +kernel
theorem dX7_power_15 : decode cX7_power 15 = .ok (.iinc 5 1, 3) := by decide +kernel
theorem dX7_power_18 : decode cX7_power 18 = .ok (.goto (-13), 3) := by decide +kernel
theorem dX7_power_21 : decode cX7_power 21 = .ok (.lload_n 3, 1) := by decide +kernel
theorem dX7_power_22 : decode cX7_power 22 = .ok (.lreturn, 1) := by decide +kernel
theorem dX7_odds_0 : decode cX7_odds 0 = .ok (.iload_n 1, 1) := by decide +kernel
theorem dX7_odds_1 : decode cX7_odds 1 = .ok (.i2l, 1) := by decide +kernel
theorem dX7_odds_2 : decode cX7_odds 2 = .ok (.lconst 0, 1) := by decide +kernel
theorem dX7_odds_3 : decode cX7_odds 3 = .ok (.ldc2_w 251, 3) := by decide +kernel
theorem dX7_odds_6 : decode cX7_odds 6 = .ok (.invokestatic 75, 3) := by decide +kernel
theorem dX7_odds_9 : decode cX7_odds 9 = .ok (.ifCond .eq 35, 3) := by decide +kernel
theorem dX7_odds_12 : decode cX7_odds 12 = .ok (.iload_n 2, 1) := by decide +kernel
theorem dX7_odds_13 : decode cX7_odds 13 = .ok (.i2l, 1) := by decide +kernel
theorem dX7_odds_14 : decode cX7_odds 14 = .ok (.lconst 0, 1) := by decide +kernel
theorem dX7_odds_15 : decode cX7_odds 15 = .ok (.ldc2_w 253, 3) := by decide +kernel
theorem dX7_odds_18 : decode cX7_odds 18 = .ok (.invokestatic 75, 3) := by decide +kernel
theorem dX7_odds_21 : decode cX7_odds 21 = .ok (.ifCond .eq 23, 3) := by decide +kernel
theorem dX7_odds_24 : decode cX7_odds 24 = .ok (.iload_n 3, 1) := by decide +kernel
theorem dX7_odds_25 : decode cX7_odds 25 = .ok (.i2l, 1) := by decide +kernel
theorem dX7_odds_26 : decode cX7_odds 26 = .ok (.lconst 0, 1) := by decide +kernel
theorem dX7_odds_27 : decode cX7_odds 27 = .ok (.ldc2_w 253, 3) := by decide +kernel
theorem dX7_odds_30 : decode cX7_odds 30 = .ok (.invokestatic 75, 3) := by decide +kernel
theorem dX7_odds_33 : decode cX7_odds 33 = .ok (.ifCond .eq 11, 3) := by decide +kernel
theorem dX7_odds_36 : decode cX7_odds 36 = .ok (.iload 4, 2) := by decide +kernel
theorem dX7_odds_38 : decode cX7_odds 38 = .ok (.invokestatic 202, 3) := by decide +kernel
theorem dX7_odds_41 : decode cX7_odds 41 = .ok (.ifCond .ne 5, 3) := by decide +kernel
theorem dX7_odds_44 : decode cX7_odds 44 = .ok (.iconst (-1), 1) := by decide +kernel
theorem dX7_odds_45 : decode cX7_odds 45 = .ok (.ireturn, 1) := by decide +kernel
theorem dX7_odds_46 : decode cX7_odds 46 = .ok (.lconst 0, 1) := by decide +kernel
theorem dX7_odds_47 : decode cX7_odds 47 = .ok (.lstore 5, 2) := by decide +kernel
theorem dX7_odds_49 : decode cX7_odds 49 = .ok (.iconst 0, 1) := by decide +kernel
theorem dX7_odds_50 : decode cX7_odds 50 = .ok (.istore 7, 2) := by decide +kernel
theorem dX7_odds_52 : decode cX7_odds 52 = .ok (.iload 7, 2) := by decide +kernel
theorem dX7_odds_54 : decode cX7_odds 54 = .ok (.iconst 1, 1) := by decide +kernel
theorem dX7_odds_55 : decode cX7_odds 55 = .ok (.iload_n 2, 1) := by decide +kernel
theorem dX7_odds_56 : decode cX7_odds 56 = .ok (.ishl, 1) := by decide +kernel
theorem dX7_odds_57 : decode cX7_odds 57 = .ok (.if_icmp .ge 51, 3) := by decide +kernel
theorem dX7_odds_60 : decode cX7_odds 60 = .ok (.iload 7, 2) := by decide +kernel
theorem dX7_odds_62 : decode cX7_odds 62 = .ok (.invokestatic 195, 3) := by decide +kernel
theorem dX7_odds_65 : decode cX7_odds 65 = .ok (.istore 8, 2) := by decide +kernel
theorem dX7_odds_67 : decode cX7_odds 67 = .ok (.lload 5, 2) := by decide +kernel
theorem dX7_odds_69 : decode cX7_odds 69 = .ok (.iload 8, 2) := by decide +kernel
theorem dX7_odds_71 : decode cX7_odds 71 = .ok (.iload_n 3, 1) := by decide +kernel
theorem dX7_odds_72 : decode cX7_odds 72 = .ok (.if_icmp .lt 26, 3) := by decide +kernel
theorem dX7_odds_75 : decode cX7_odds 75 = .ok (.iload_n 1, 1) := by decide +kernel
theorem dX7_odds_76 : decode cX7_odds 76 = .ok (.i2l, 1) := by decide +kernel
theorem dX7_odds_77 : decode cX7_odds 77 = .ok (.iload 8, 2) := by decide +kernel
theorem dX7_odds_79 : decode cX7_odds 79 = .ok (.invokestatic 255, 3) := by decide +kernel
theorem dX7_odds_82 : decode cX7_odds 82 = .ok (.bipush 10, 2) := by decide +kernel
theorem dX7_odds_84 : decode cX7_odds 84 = .ok (.iload_n 1, 1) := by decide +kernel
theorem dX7_odds_85 : decode cX7_odds 85 = .ok (.isub, 1) := by decide +kernel
theorem dX7_odds_86 : decode cX7_odds 86 = .ok (.i2l, 1) := by decide +kernel
theorem dX7_odds_87 : decode cX7_odds 87 = .ok (.iload_n 2, 1) := by decide +kernel
theorem dX7_odds_88 : decode cX7_odds 88 = .ok (.iload 8, 2) := by decide +kernel
theorem dX7_odds_90 : decode cX7_odds 90 = .ok (.isub, 1) := by decide +kernel
theorem dX7_odds_91 : decode cX7_odds 91 = .ok (.invokestatic 255, 3) := by decide +kernel
theorem dX7_odds_94 : decode cX7_odds 94 = .ok (.lmul, 1) := by decide +kernel
theorem dX7_odds_95 : decode cX7_odds 95 = .ok (.goto 4, 3) := by decide +kernel
theorem dX7_odds_98 : decode cX7_odds 98 = .ok (.lconst 0, 1) := by decide +kernel
theorem dX7_odds_99 : decode cX7_odds 99 = .ok (.ladd, 1) := by decide +kernel
theorem dX7_odds_100 : decode cX7_odds 100 = .ok (.lstore 5, 2) := by decide +kernel
theorem dX7_odds_102 : decode cX7_odds 102 = .ok (.iinc 7 1, 3) := by decide +kernel
theorem dX7_odds_105 : decode cX7_odds 105 = .ok (.goto (-53), 3) := by decide +kernel
theorem dX7_odds_108 : decode cX7_odds 108 = .ok (.ldc2_w 251, 3) := by decide +kernel
theorem dX7_odds_111 : decode cX7_odds 111 = .ok (.iload_n 2, 1) := by decide +kernel
theorem dX7_odds_112 : decode cX7_odds 112 = .ok (.invokestatic 255, 3) := by decide +kernel
theorem dX7_odds_115 : decode cX7_odds 115 = .ok (.lstore 7, 2) := by decide +kernel
theorem dX7_odds_117 : decode cX7_odds 117 = .ok (.lload 5, 2) := by decide +kernel
theorem dX7_odds_119 : decode cX7_odds 119 = .ok (.lstore 9, 2) := by decide +kernel
theorem dX7_odds_121 : decode cX7_odds 121 = .ok (.lload 7, 2) := by decide +kernel
theorem dX7_odds_123 : decode cX7_odds 123 = .ok (.lstore 11, 2) := by decide +kernel
theorem dX7_odds_125 : decode cX7_odds 125 = .ok (.lload 11, 2) := by decide +kernel
theorem dX7_odds_127 : decode cX7_odds 127 = .ok (.lconst 0, 1) := by decide +kernel
theorem dX7_odds_128 : decode cX7_odds 128 = .ok (.lcmp, 1) := by decide +kernel
theorem dX7_odds_129 : decode cX7_odds 129 = .ok (.ifCond .eq 21, 3) := by decide +kernel
theorem dX7_odds_132 : decode cX7_odds 132 = .ok (.lload 9, 2) := by decide +kernel
theorem dX7_odds_134 : decode cX7_odds 134 = .ok (.lload 11, 2) := by decide +kernel
theorem dX7_odds_136 : decode cX7_odds 136 = .ok (.lrem, 1) := by decide +kernel
theorem dX7_odds_137 : decode cX7_odds 137 = .ok (.lstore 13, 2) := by decide +kernel
theorem dX7_odds_139 : decode cX7_odds 139 = .ok (.lload 11, 2) := by decide +kernel
theorem dX7_odds_141 : decode cX7_odds 141 = .ok (.lstore 9, 2) := by decide +kernel
theorem dX7_odds_143 : decode cX7_odds 143 = .ok (.lload 13, 2) := by decide +kernel
theorem dX7_odds_145 : decode cX7_odds 145 = .ok (.lstore 11, 2) := by decide +kernel
theorem dX7_odds_147 : decode cX7_odds 147 = .ok (.goto (-22), 3) := by decide +kernel
theorem dX7_odds_150 : decode cX7_odds 150 = .ok (.iload 4, 2) := by decide +kernel
theorem dX7_odds_152 : decode cX7_odds 152 = .ok (.ifCond .ne 8, 3) := by decide +kernel
theorem dX7_odds_155 : decode cX7_odds 155 = .ok (.lload 5, 2) := by decide +kernel
theorem dX7_odds_157 : decode cX7_odds 157 = .ok (.goto 5, 3) := by decide +kernel
theorem dX7_odds_160 : decode cX7_odds 160 = .ok (.lload 7, 2) := by decide +kernel
theorem dX7_odds_162 : decode cX7_odds 162 = .ok (.lload 9, 2) := by decide +kernel
theorem dX7_odds_164 : decode cX7_odds 164 = .ok (.ldiv, 1) := by decide +kernel
theorem dX7_odds_165 : decode cX7_odds 165 = .ok (.l2i, 1) := by decide +kernel
theorem dX7_odds_166 : decode cX7_odds 166 = .ok (.ireturn, 1) := by decide +kernel
theorem dX7_asGoer_0 : decode cX7_asGoer 0 = .ok (.aload_n 0, 1) := by decide +kernel
theorem dX7_asGoer_1 : decode cX7_asGoer 1 = .ok (.dup, 1) := by decide +kernel
theorem dX7_asGoer_2 : decode cX7_asGoer 2 = .ok (.getfield 259, 3) := by decide +kernel
theorem dX7_asGoer_5 : decode cX7_asGoer 5 = .ok (.lconst 1, 1) := by decide +kernel
theorem dX7_asGoer_6 : decode cX7_asGoer 6 = .ok (.ladd, 1) := by decide +kernel
theorem dX7_asGoer_7 : decode cX7_asGoer 7 = .ok (.putfield 259, 3) := by decide +kernel
theorem dX7_asGoer_10 : decode cX7_asGoer 10 = .ok (.aload_n 0, 1) := by decide +kernel
theorem dX7_asGoer_11 : decode cX7_asGoer 11 = .ok (.getfield 13, 3) := by decide +kernel
theorem dX7_asGoer_14 : decode cX7_asGoer 14 = .ok (.iload_n 1, 1) := by decide +kernel
theorem dX7_asGoer_15 : decode cX7_asGoer 15 = .ok (.iaload, 1) := by decide +kernel
theorem dX7_asGoer_16 : decode cX7_asGoer 16 = .ok (.invokestatic 195, 3) := by decide +kernel
theorem dX7_asGoer_19 : decode cX7_asGoer 19 = .ok (.ireturn, 1) := by decide +kernel
theorem dX7_asGent_0 : decode cX7_asGent 0 = .ok (.aload_n 0, 1) := by decide +kernel
theorem dX7_asGent_1 : decode cX7_asGent 1 = .ok (.dup, 1) := by decide +kernel
theorem dX7_asGent_2 : decode cX7_asGent 2 = .ok (.getfield 259, 3) := by decide +kernel
theorem dX7_asGent_5 : decode cX7_asGent 5 = .ok (.ldc2_w 251, 3) := by decide +kernel
theorem dX7_asGent_8 : decode cX7_asGent 8 = .ok (.ladd, 1) := by decide +kernel
theorem dX7_asGent_9 : decode cX7_asGent 9 = .ok (.putfield 259, 3) := by decide +kernel
theorem dX7_asGent_12 : decode cX7_asGent 12 = .ok (.aload_n 0, 1) := by decide +kernel
theorem dX7_asGent_13 : decode cX7_asGent 13 = .ok (.iload_n 1, 1) := by decide +kernel
theorem dX7_asGent_14 : decode cX7_asGent 14 = .ok (.invokevirtual 263, 3) := by decide +kernel
theorem dX7_asGent_17 : decode cX7_asGent 17 = .ok (.aload_n 0, 1) := by decide +kernel
theorem dX7_asGent_18 : decode cX7_asGent 18 = .ok (.getfield 29, 3) := by decide +kernel
theorem dX7_asGent_21 : decode cX7_asGent 21 = .ok (.bipush 15, 2) := by decide +kernel
theorem dX7_asGent_23 : decode cX7_asGent 23 = .ok (.iload_n 1, 1) := by decide +kernel
theorem dX7_asGent_24 : decode cX7_asGent 24 = .ok (.iadd, 1) := by decide +kernel
theorem dX7_asGent_25 : decode cX7_asGent 25 = .ok (.iaload, 1) := by decide +kernel
theorem dX7_asGent_26 : decode cX7_asGent 26 = .ok (.iadd, 1) := by decide +kernel
theorem dX7_asGent_27 : decode cX7_asGent 27 = .ok (.ireturn, 1) := by decide +kernel
theorem dX7_asDoctor_0 : decode cX7_asDoctor 0 = .ok (.aload_n 0, 1) := by decide +kernel
theorem dX7_asDoctor_1 : decode cX7_asDoctor 1 = .ok (.dup, 1) := by decide +kernel
theorem dX7_asDoctor_2 : decode cX7_asDoctor 2 = .ok (.getfield 259, 3) := by decide +kernel
theorem dX7_asDoctor_5 : decode cX7_asDoctor 5 = .ok (.ldc2_w 266, 3) := by decide +kernel
theorem dX7_asDoctor_8 : decode cX7_asDoctor 8 = .ok (.ladd, 1) := by decide +kernel
theorem dX7_asDoctor_9 : decode cX7_asDoctor 9 = .ok (.putfield 259, 3) := by decide +kernel
theorem dX7_asDoctor_12 : decode cX7_asDoctor 12 = .ok (.aload_n 0, 1) := by decide +kernel
theorem dX7_asDoctor_13 : decode cX7_asDoctor 13 = .ok (.iload_n 1, 1) := by decide +kernel
theorem dX7_asDoctor_14 : decode cX7_asDoctor 14 = .ok (.invokevirtual 263, 3) := by decide +kernel
theorem dX7_asDoctor_17 : decode cX7_asDoctor 17 = .ok (.aload_n 0, 1) := by decide +kernel
theorem dX7_asDoctor_18 : decode cX7_asDoctor 18 = .ok (.iload_n 1, 1) := by decide +kernel
theorem dX7_asDoctor_19 : decode cX7_asDoctor 19 = .ok (.invokevirtual 208, 3) := by decide +kernel
theorem dX7_asDoctor_22 : decode cX7_asDoctor 22 = .ok (.invokestatic 195, 3) := by decide +kernel
theorem dX7_asDoctor_25 : decode cX7_asDoctor 25 = .ok (.isub, 1) := by decide +kernel
theorem dX7_asDoctor_26 : decode cX7_asDoctor 26 = .ok (.ireturn, 1) := by decide +kernel
theorem dX7_rate_0 : decode cX7_rate 0 = .ok (.aload_n 0, 1) := by decide +kernel
theorem dX7_rate_1 : decode cX7_rate 1 = .ok (.iload_n 2, 1) := by decide +kernel
theorem dX7_rate_2 : decode cX7_rate 2 = .ok (.invokevirtual 205, 3) := by decide +kernel
theorem dX7_rate_5 : decode cX7_rate 5 = .ok (.ifCond .ne 7, 3) := by decide +kernel
theorem dX7_rate_8 : decode cX7_rate 8 = .ok (.ldc_w 268, 3) := by decide +kernel
theorem dX7_rate_11 : decode cX7_rate 11 = .ok (.ireturn, 1) := by decide +kernel
theorem dX7_rate_12 : decode cX7_rate 12 = .ok (.iload_n 1, 1) := by decide +kernel
theorem dX7_rate_13 : decode cX7_rate 13 = .ok (.tableswitch 122 0 5 #[39, 45, 51, 57, 77, 97], 39) := by decide +kernel
theorem dX7_rate_52 : decode cX7_rate 52 = .ok (.aload_n 0, 1) := by decide +kernel
theorem dX7_rate_53 : decode cX7_rate 53 = .ok (.iload_n 2, 1) := by decide +kernel
theorem dX7_rate_54 : decode cX7_rate 54 = .ok (.invokevirtual 263, 3) := by decide +kernel
theorem dX7_rate_57 : decode cX7_rate 57 = .ok (.ireturn, 1) := by decide +kernel
theorem dX7_rate_58 : decode cX7_rate 58 = .ok (.aload_n 0, 1) := by decide +kernel
theorem dX7_rate_59 : decode cX7_rate 59 = .ok (.iload_n 2, 1) := by decide +kernel
theorem dX7_rate_60 : decode cX7_rate 60 = .ok (.invokevirtual 269, 3) := by decide +kernel
theorem dX7_rate_63 : decode cX7_rate 63 = .ok (.ireturn, 1) := by decide +kernel
theorem dX7_rate_64 : decode cX7_rate 64 = .ok (.aload_n 0, 1) := by decide +kernel
theorem dX7_rate_65 : decode cX7_rate 65 = .ok (.iload_n 2, 1) := by decide +kernel
theorem dX7_rate_66 : decode cX7_rate 66 = .ok (.invokevirtual 272, 3) := by decide +kernel
theorem dX7_rate_69 : decode cX7_rate 69 = .ok (.ireturn, 1) := by decide +kernel
theorem dX7_rate_70 : decode cX7_rate 70 = .ok (.aload_n 0, 1) := by decide +kernel
theorem dX7_rate_71 : decode cX7_rate 71 = .ok (.dup, 1) := by decide +kernel
theorem dX7_rate_72 : decode cX7_rate 72 = .ok (.getfield 259, 3) := by decide +kernel
theorem dX7_rate_75 : decode cX7_rate 75 = .ok (.ldc2_w 275, 3) := by decide +kernel
theorem dX7_rate_78 : decode cX7_rate 78 = .ok (.ladd, 1) := by decide +kernel
theorem dX7_rate_79 : decode cX7_rate 79 = .ok (.putfield 259, 3) := by decide +kernel
theorem dX7_rate_82 : decode cX7_rate 82 = .ok (.iconst 2, 1) := by decide +kernel
theorem dX7_rate_83 : decode cX7_rate 83 = .ok (.aload_n 0, 1) := by decide +kernel
theorem dX7_rate_84 : decode cX7_rate 84 = .ok (.iload_n 2, 1) := by decide +kernel
theorem dX7_rate_85 : decode cX7_rate 85 = .ok (.invokevirtual 269, 3) := by decide +kernel
theorem dX7_rate_88 : decode cX7_rate 88 = .ok (.imul, 1) := by decide +kernel
theorem dX7_rate_89 : decode cX7_rate 89 = .ok (.ireturn, 1) := by decide +kernel
theorem dX7_rate_90 : decode cX7_rate 90 = .ok (.aload_n 0, 1) := by decide +kernel
theorem dX7_rate_91 : decode cX7_rate 91 = .ok (.dup, 1) := by decide +kernel
theorem dX7_rate_92 : decode cX7_rate 92 = .ok (.getfield 259, 3) := by decide +kernel
theorem dX7_rate_95 : decode cX7_rate 95 = .ok (.ldc2_w 277, 3) := by decide +kernel
theorem dX7_rate_98 : decode cX7_rate 98 = .ok (.ladd, 1) := by decide +kernel
theorem dX7_rate_99 : decode cX7_rate 99 = .ok (.putfield 259, 3) := by decide +kernel
theorem dX7_rate_102 : decode cX7_rate 102 = .ok (.aload_n 0, 1) := by decide +kernel
theorem dX7_rate_103 : decode cX7_rate 103 = .ok (.iload_n 2, 1) := by decide +kernel
theorem dX7_rate_104 : decode cX7_rate 104 = .ok (.invokevirtual 272, 3) := by decide +kernel
theorem dX7_rate_107 : decode cX7_rate 107 = .ok (.iload_n 2, 1) := by decide +kernel
theorem dX7_rate_108 : decode cX7_rate 108 = .ok (.iadd, 1) := by decide +kernel
theorem dX7_rate_109 : decode cX7_rate 109 = .ok (.ireturn, 1) := by decide +kernel
theorem dX7_rate_110 : decode cX7_rate 110 = .ok (.aload_n 0, 1) := by decide +kernel
theorem dX7_rate_111 : decode cX7_rate 111 = .ok (.dup, 1) := by decide +kernel
theorem dX7_rate_112 : decode cX7_rate 112 = .ok (.getfield 259, 3) := by decide +kernel
theorem dX7_rate_115 : decode cX7_rate 115 = .ok (.ldc2_w 279, 3) := by decide +kernel
theorem dX7_rate_118 : decode cX7_rate 118 = .ok (.ladd, 1) := by decide +kernel
theorem dX7_rate_119 : decode cX7_rate 119 = .ok (.putfield 259, 3) := by decide +kernel
theorem dX7_rate_122 : decode cX7_rate 122 = .ok (.aload_n 0, 1) := by decide +kernel
theorem dX7_rate_123 : decode cX7_rate 123 = .ok (.iload_n 2, 1) := by decide +kernel
theorem dX7_rate_124 : decode cX7_rate 124 = .ok (.invokevirtual 263, 3) := by decide +kernel
theorem dX7_rate_127 : decode cX7_rate 127 = .ok (.aload_n 0, 1) := by decide +kernel
theorem dX7_rate_128 : decode cX7_rate 128 = .ok (.getfield 29, 3) := by decide +kernel
theorem dX7_rate_131 : decode cX7_rate 131 = .ok (.iconst 2, 1) := by decide +kernel
theorem dX7_rate_132 : decode cX7_rate 132 = .ok (.iaload, 1) := by decide +kernel
theorem dX7_rate_133 : decode cX7_rate 133 = .ok (.iadd, 1) := by decide +kernel
theorem dX7_rate_134 : decode cX7_rate 134 = .ok (.ireturn, 1) := by decide +kernel
theorem dX7_rate_135 : decode cX7_rate 135 = .ok (.ldc_w 268, 3) := by decide +kernel
theorem dX7_rate_138 : decode cX7_rate 138 = .ok (.ireturn, 1) := by decide +kernel
theorem dX7_keep_0 : decode cX7_keep 0 = .ok (.iload_n 1, 1) := by decide +kernel
theorem dX7_keep_1 : decode cX7_keep 1 = .ok (.invokestatic 202, 3) := by decide +kernel
theorem dX7_keep_4 : decode cX7_keep 4 = .ok (.ifCond .ne 5, 3) := by decide +kernel
theorem dX7_keep_7 : decode cX7_keep 7 = .ok (.iconst (-1), 1) := by decide +kernel
theorem dX7_keep_8 : decode cX7_keep 8 = .ok (.ireturn, 1) := by decide +kernel
theorem dX7_keep_9 : decode cX7_keep 9 = .ok (.aload_n 0, 1) := by decide +kernel
theorem dX7_keep_10 : decode cX7_keep 10 = .ok (.getfield 29, 3) := by decide +kernel
theorem dX7_keep_13 : decode cX7_keep 13 = .ok (.iconst 0, 1) := by decide +kernel
theorem dX7_keep_14 : decode cX7_keep 14 = .ok (.aload_n 0, 1) := by decide +kernel
theorem dX7_keep_15 : decode cX7_keep 15 = .ok (.getfield 35, 3) := by decide +kernel
theorem dX7_keep_18 : decode cX7_keep 18 = .ok (.bipush 21, 2) := by decide +kernel
theorem dX7_keep_20 : decode cX7_keep 20 = .ok (.iload_n 1, 1) := by decide +kernel
theorem dX7_keep_21 : decode cX7_keep 21 = .ok (.imul, 1) := by decide +kernel
theorem dX7_keep_22 : decode cX7_keep 22 = .ok (.bipush 21, 2) := by decide +kernel
theorem dX7_keep_24 : decode cX7_keep 24 = .ok (.invokestatic 176, 3) := by decide +kernel
theorem dX7_keep_27 : decode cX7_keep 27 = .ok (.aload_n 0, 1) := by decide +kernel
theorem dX7_keep_28 : decode cX7_keep 28 = .ok (.getfield 38, 3) := by decide +kernel
theorem dX7_keep_31 : decode cX7_keep 31 = .ok (.iload_n 1, 1) := by decide +kernel
theorem dX7_keep_32 : decode cX7_keep 32 = .ok (.iconst 1, 1) := by decide +kernel
theorem dX7_keep_33 : decode cX7_keep 33 = .ok (.bastore, 1) := by decide +kernel
theorem dX7_keep_34 : decode cX7_keep 34 = .ok (.aload_n 0, 1) := by decide +kernel
theorem dX7_keep_35 : decode cX7_keep 35 = .ok (.getfield 29, 3) := by decide +kernel
theorem dX7_keep_38 : decode cX7_keep 38 = .ok (.iconst 0, 1) := by decide +kernel
theorem dX7_keep_39 : decode cX7_keep 39 = .ok (.iaload, 1) := by decide +kernel
theorem dX7_keep_40 : decode cX7_keep 40 = .ok (.ireturn, 1) := by decide +kernel
theorem dX7_back_0 : decode cX7_back 0 = .ok (.iload_n 1, 1) := by decide +kernel
theorem dX7_back_1 : decode cX7_back 1 = .ok (.invokestatic 202, 3) := by decide +kernel
theorem dX7_back_4 : decode cX7_back 4 = .ok (.ifCond .ne 5, 3) := by decide +kernel
theorem dX7_back_7 : decode cX7_back 7 = .ok (.iconst (-1), 1) := by decide +kernel
theorem dX7_back_8 : decode cX7_back 8 = .ok (.ireturn, 1) := by decide +kernel
theorem dX7_back_9 : decode cX7_back 9 = .ok (.aload_n 0, 1) := by decide +kernel
theorem dX7_back_10 : decode cX7_back 10 = .ok (.getfield 38, 3) := by decide +kernel
theorem dX7_back_13 : decode cX7_back 13 = .ok (.iload_n 1, 1) := by decide +kernel
theorem dX7_back_14 : decode cX7_back 14 = .ok (.baload, 1) := by decide +kernel
theorem dX7_back_15 : decode cX7_back 15 = .ok (.ifCond .ne 6, 3) := by decide +kernel
theorem dX7_back_18 : decode cX7_back 18 = .ok (.bipush (-2), 2) := by decide +kernel
theorem dX7_back_20 : decode cX7_back 20 = .ok (.ireturn, 1) := by decide +kernel
theorem dX7_back_21 : decode cX7_back 21 = .ok (.aload_n 0, 1) := by decide +kernel
theorem dX7_back_22 : decode cX7_back 22 = .ok (.getfield 35, 3) := by decide +kernel
theorem dX7_back_25 : decode cX7_back 25 = .ok (.bipush 21, 2) := by decide +kernel
theorem dX7_back_27 : decode cX7_back 27 = .ok (.iload_n 1, 1) := by decide +kernel
theorem dX7_back_28 : decode cX7_back 28 = .ok (.imul, 1) := by decide +kernel
theorem dX7_back_29 : decode cX7_back 29 = .ok (.aload_n 0, 1) := by decide +kernel
theorem dX7_back_30 : decode cX7_back 30 = .ok (.getfield 29, 3) := by decide +kernel
theorem dX7_back_33 : decode cX7_back 33 = .ok (.iconst 0, 1) := by decide +kernel
theorem dX7_back_34 : decode cX7_back 34 = .ok (.bipush 21, 2) := by decide +kernel
theorem dX7_back_36 : decode cX7_back 36 = .ok (.invokestatic 176, 3) := by decide +kernel
theorem dX7_back_39 : decode cX7_back 39 = .ok (.aload_n 0, 1) := by decide +kernel
theorem dX7_back_40 : decode cX7_back 40 = .ok (.iconst 0, 1) := by decide +kernel
theorem dX7_back_41 : decode cX7_back 41 = .ok (.putfield 180, 3) := by decide +kernel
theorem dX7_back_44 : decode cX7_back 44 = .ok (.aload_n 0, 1) := by decide +kernel
theorem dX7_back_45 : decode cX7_back 45 = .ok (.getfield 29, 3) := by decide +kernel
theorem dX7_back_48 : decode cX7_back 48 = .ok (.iconst 0, 1) := by decide +kernel
theorem dX7_back_49 : decode cX7_back 49 = .ok (.iaload, 1) := by decide +kernel
theorem dX7_back_50 : decode cX7_back 50 = .ok (.ireturn, 1) := by decide +kernel
theorem dX7_count_0 : decode cX7_count 0 = .ok (.iload_n 1, 1) := by decide +kernel
theorem dX7_count_1 : decode cX7_count 1 = .ok (.tableswitch 78 0 6 #[43, 48, 53, 58, 63, 68, 73], 43) := by decide +kernel
theorem dX7_count_44 : decode cX7_count 44 = .ok (.aload_n 0, 1) := by decide +kernel
theorem dX7_count_45 : decode cX7_count 45 = .ok (.getfield 164, 3) := by decide +kernel
theorem dX7_count_48 : decode cX7_count 48 = .ok (.ireturn, 1) := by decide +kernel
theorem dX7_count_49 : decode cX7_count 49 = .ok (.aload_n 0, 1) := by decide +kernel
theorem dX7_count_50 : decode cX7_count 50 = .ok (.getfield 167, 3) := by decide +kernel
theorem dX7_count_53 : decode cX7_count 53 = .ok (.ireturn, 1) := by decide +kernel
theorem dX7_count_54 : decode cX7_count 54 = .ok (.aload_n 0, 1) := by decide +kernel
theorem dX7_count_55 : decode cX7_count 55 = .ok (.getfield 170, 3) := by decide +kernel
theorem dX7_count_58 : decode cX7_count 58 = .ok (.ireturn, 1) := by decide +kernel
theorem dX7_count_59 : decode cX7_count 59 = .ok (.aload_n 0, 1) := by decide +kernel
theorem dX7_count_60 : decode cX7_count 60 = .ok (.getfield 173, 3) := by decide +kernel
theorem dX7_count_63 : decode cX7_count 63 = .ok (.ireturn, 1) := by decide +kernel
theorem dX7_count_64 : decode cX7_count 64 = .ok (.aload_n 0, 1) := by decide +kernel
theorem dX7_count_65 : decode cX7_count 65 = .ok (.getfield 25, 3) := by decide +kernel
theorem dX7_count_68 : decode cX7_count 68 = .ok (.ireturn, 1) := by decide +kernel
theorem dX7_count_69 : decode cX7_count 69 = .ok (.aload_n 0, 1) := by decide +kernel
theorem dX7_count_70 : decode cX7_count 70 = .ok (.getfield 183, 3) := by decide +kernel
theorem dX7_count_73 : decode cX7_count 73 = .ok (.ireturn, 1) := by decide +kernel
theorem dX7_count_74 : decode cX7_count 74 = .ok (.aload_n 0, 1) := by decide +kernel
theorem dX7_count_75 : decode cX7_count 75 = .ok (.getfield 79, 3) := by decide +kernel
theorem dX7_count_78 : decode cX7_count 78 = .ok (.ireturn, 1) := by decide +kernel
theorem dX7_count_79 : decode cX7_count 79 = .ok (.iconst (-1), 1) := by decide +kernel
theorem dX7_count_80 : decode cX7_count 80 = .ok (.ireturn, 1) := by decide +kernel
theorem dX7_trace_0 : decode cX7_trace 0 = .ok (.aload_n 0, 1) := by decide +kernel
theorem dX7_trace_1 : decode cX7_trace 1 = .ok (.getfield 259, 3) := by decide +kernel
theorem dX7_trace_4 : decode cX7_trace 4 = .ok (.lreturn, 1) := by decide +kernel
