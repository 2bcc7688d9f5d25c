theorem dX5_init_0 : decode cX5_init 0 = .ok (.aload_n 0, 1) := by decide +kernel
theorem dX5_init_1 : decode cX5_init 1 = .ok (.invokespecial 3, 3) := by decide +kernel
theorem dX5_init_4 : decode cX5_init 4 = .ok (.aload_n 0, 1) := by decide +kernel
theorem dX5_init_5 : decode cX5_init 5 = .ok (.sipush 160, 3) := by decide +kernel
theorem dX5_init_8 : decode cX5_init 8 = .ok (.newarray .int, 2) := by decide +kernel
theorem dX5_init_10 : decode cX5_init 10 = .ok (.putfield 9, 3) := by decide +kernel
theorem dX5_init_13 : decode cX5_init 13 = .ok (.aload_n 0, 1) := by decide +kernel
theorem dX5_init_14 : decode cX5_init 14 = .ok (.iconst 0, 1) := by decide +kernel
theorem dX5_init_15 : decode cX5_init 15 = .ok (.putfield 15, 3) := by decide +kernel
theorem dX5_init_18 : decode cX5_init 18 = .ok (.aload_n 0, 1) := by decide +kernel
theorem dX5_init_19 : decode cX5_init 19 = .ok (.iconst 0, 1) := by decide +kernel
theorem dX5_init_20 : decode cX5_init 20 = .ok (.putfield 19, 3) := by decide +kernel
theorem dX5_init_23 : decode cX5_init 23 = .ok (.aload_n 0, 1) := by decide +kernel
theorem dX5_init_24 : decode cX5_init 24 = .ok (.iconst 0, 1) := by decide +kernel
theorem dX5_init_25 : decode cX5_init 25 = .ok (.putfield 22, 3) := by decide +kernel
theorem dX5_init_28 : decode cX5_init 28 = .ok (.aload_n 0, 1) := by decide +kernel
theorem dX5_init_29 : decode cX5_init 29 = .ok (.iconst 0, 1) := by decide +kernel
theorem dX5_init_30 : decode cX5_init 30 = .ok (.putfield 25, 3) := by decide +kernel
theorem dX5_init_33 : decode cX5_init 33 = .ok (.aload_n 0, 1) := by decide +kernel
theorem dX5_init_34 : decode cX5_init 34 = .ok (.iconst 0, 1) := by decide +kernel
theorem dX5_init_35 : decode cX5_init 35 = .ok (.putfield 28, 3) := by decide +kernel
theorem dX5_init_38 : decode cX5_init 38 = .ok (.return_, 1) := by decide +kernel
theorem dX5_readInto_0 : decode cX5_readInto 0 = .ok (.aload_n 1, 1) := by decide +kernel
theorem dX5_readInto_1 : decode cX5_readInto 1 = .ok (.invokevirtual 32, 3) := by decide +kernel
theorem dX5_readInto_4 : decode cX5_readInto 4 = .ok (.aload_n 0, 1) := by decide +kernel
theorem dX5_readInto_5 : decode cX5_readInto 5 = .ok (.iconst 0, 1) := by decide +kernel
theorem dX5_readInto_6 : decode cX5_readInto 6 = .ok (.putfield 28, 3) := by decide +kernel
theorem dX5_readInto_9 : decode cX5_readInto 9 = .ok (.aload_n 0, 1) := by decide +kernel
theorem dX5_readInto_10 : decode cX5_readInto 10 = .ok (.iconst 0, 1) := by decide +kernel
theorem dX5_readInto_11 : decode cX5_readInto 11 = .ok (.putfield 25, 3) := by decide +kernel
theorem dX5_readInto_14 : decode cX5_readInto 14 = .ok (.aload_n 0, 1) := by decide +kernel
theorem dX5_readInto_15 : decode cX5_readInto 15 = .ok (.invokevirtual 37, 3) := by decide +kernel
theorem dX5_readInto_18 : decode cX5_readInto 18 = .ok (.iconst 0, 1) := by decide +kernel
theorem dX5_readInto_19 : decode cX5_readInto 19 = .ok (.istore_n 2, 1) := by decide +kernel
theorem dX5_readInto_20 : decode cX5_readInto 20 = .ok (.aload_n 0, 1) := by decide +kernel
theorem dX5_readInto_21 : decode cX5_readInto 21 = .ok (.getfield 19, 3) := by decide +kernel
theorem dX5_readInto_24 : decode cX5_readInto 24 = .ok (.ifCond .eq 32, 3) := by decide +kernel
theorem dX5_readInto_27 : decode cX5_readInto 27 = .ok (.iload_n 2, 1) := by decide +kernel
theorem dX5_readInto_28 : decode cX5_readInto 28 = .ok (.sipush 160, 3) := by decide +kernel
theorem dX5_readInto_31 : decode cX5_readInto 31 = .ok (.if_icmp .ge 25, 3) := by decide +kernel
theorem dX5_readInto_34 : decode cX5_readInto 34 = .ok (.aload_n 0, 1) := by decide +kernel
theorem dX5_readInto_35 : decode cX5_readInto 35 = .ok (.aload_n 1, 1) := by decide +kernel
theorem dX5_readInto_36 : decode cX5_readInto 36 = .ok (.invokevirtual 40, 3) := by decide +kernel
theorem dX5_readInto_39 : decode cX5_readInto 39 = .ok (.ifCond .ne 11, 3) := by decide +kernel
theorem dX5_readInto_42 : decode cX5_readInto 42 = .ok (.bipush (-10), 2) := by decide +kernel
theorem dX5_readInto_44 : decode cX5_readInto 44 = .ok (.aload_n 0, 1) := by decide +kernel
theorem dX5_readInto_45 : decode cX5_readInto 45 = .ok (.getfield 22, 3) := by decide +kernel
theorem dX5_readInto_48 : decode cX5_readInto 48 = .ok (.isub, 1) := by decide +kernel
theorem dX5_readInto_49 : decode cX5_readInto 49 = .ok (.ireturn, 1) := by decide +kernel
theorem dX5_readInto_50 : decode cX5_readInto 50 = .ok (.iinc 2 1, 3) := by decide +kernel
theorem dX5_readInto_53 : decode cX5_readInto 53 = .ok (.goto (-33), 3) := by decide +kernel
theorem dX5_readInto_56 : decode cX5_readInto 56 = .ok (.iload_n 2, 1) := by decide +kernel
theorem dX5_readInto_57 : decode cX5_readInto 57 = .ok (.ireturn, 1) := by decide +kernel
theorem dX5_readItem_0 : decode cX5_readItem 0 = .ok (.aload_n 0, 1) := by decide +kernel
theorem dX5_readItem_1 : decode cX5_readItem 1 = .ok (.getfield 19, 3) := by decide +kernel
theorem dX5_readItem_4 : decode cX5_readItem 4 = .ok (.iconst 1, 1) := by decide +kernel
theorem dX5_readItem_5 : decode cX5_readItem 5 = .ok (.if_icmp .ne 16, 3) := by decide +kernel
theorem dX5_readItem_8 : decode cX5_readItem 8 = .ok (.aload_n 0, 1) := by decide +kernel
theorem dX5_readItem_9 : decode cX5_readItem 9 = .ok (.getfield 25, 3) := by decide +kernel
theorem dX5_readItem_12 : decode cX5_readItem 12 = .ok (.aload_n 0, 1) := by decide +kernel
theorem dX5_readItem_13 : decode cX5_readItem 13 = .ok (.getfield 22, 3) := by decide +kernel
theorem dX5_readItem_16 : decode cX5_readItem 16 = .ok (.isub, 1) := by decide +kernel
theorem dX5_readItem_17 : decode cX5_readItem 17 = .ok (.iconst 1, 1) := by decide +kernel
theorem dX5_readItem_18 : decode cX5_readItem 18 = .ok (.if_icmp .eq 5, 3) := by decide +kernel
theorem dX5_readItem_21 : decode cX5_readItem 21 = .ok (.iconst 0, 1) := by decide +kernel
theorem dX5_readItem_22 : decode cX5_readItem 22 = .ok (.ireturn, 1) := by decide +kernel
theorem dX5_readItem_23 : decode cX5_readItem 23 = .ok (.aload_n 0, 1) := by decide +kernel
theorem dX5_readItem_24 : decode cX5_readItem 24 = .ok (.getfield 9, 3) := by decide +kernel
theorem dX5_readItem_27 : decode cX5_readItem 27 = .ok (.aload_n 0, 1) := by decide +kernel
theorem dX5_readItem_28 : decode cX5_readItem 28 = .ok (.getfield 22, 3) := by decide +kernel
theorem dX5_readItem_31 : decode cX5_readItem 31 = .ok (.iaload, 1) := by decide +kernel
theorem dX5_readItem_32 : decode cX5_readItem 32 = .ok (.lookupswitch 97 #[(103, 61), (107, 79), (110, 88), (118, 52), (121, 70)], 52) := by decide +kernel
theorem dX5_readItem_84 : decode cX5_readItem 84 = .ok (.aload_n 0, 1) := by decide +kernel
theorem dX5_readItem_85 : decode cX5_readItem 85 = .ok (.aload_n 1, 1) := by decide +kernel
theorem dX5_readItem_86 : decode cX5_readItem 86 = .ok (.invokevirtual 44, 3) := by decide +kernel
theorem dX5_readItem_89 : decode cX5_readItem 89 = .ok (.istore_n 2, 1) := by decide +kernel
theorem dX5_readItem_90 : decode cX5_readItem 90 = .ok (.goto 41, 3) := by decide +kernel
theorem dX5_readItem_93 : decode cX5_readItem 93 = .ok (.aload_n 0, 1) := by decide +kernel
theorem dX5_readItem_94 : decode cX5_readItem 94 = .ok (.aload_n 1, 1) := by decide +kernel
theorem dX5_readItem_95 : decode cX5_readItem 95 = .ok (.invokevirtual 47, 3) := by decide +kernel
theorem dX5_readItem_98 : decode cX5_readItem 98 = .ok (.istore_n 2, 1) := by decide +kernel
theorem dX5_readItem_99 : decode cX5_readItem 99 = .ok (.goto 32, 3) := by decide +kernel
theorem dX5_readItem_102 : decode cX5_readItem 102 = .ok (.aload_n 0, 1) := by decide +kernel
theorem dX5_readItem_103 : decode cX5_readItem 103 = .ok (.aload_n 1, 1) := by decide +kernel
theorem dX5_readItem_104 : decode cX5_readItem 104 = .ok (.invokevirtual 50, 3) := by decide +kernel
theorem dX5_readItem_107 : decode cX5_readItem 107 = .ok (.istore_n 2, 1) := by decide +kernel
theorem dX5_readItem_108 : decode cX5_readItem 108 = .ok (.goto 23, 3) := by decide +kernel
theorem dX5_readItem_111 : decode cX5_readItem 111 = .ok (.aload_n 0, 1) := by decide +kernel
theorem dX5_readItem_112 : decode cX5_readItem 112 = .ok (.aload_n 1, 1) := by decide +kernel
theorem dX5_readItem_113 : decode cX5_readItem 113 = .ok (.invokevirtual 53, 3) := by decide +kernel
theorem dX5_readItem_116 : decode cX5_readItem 116 = .ok (.istore_n 2, 1) := by decide +kernel
theorem dX5_readItem_117 : decode cX5_readItem 117 = .ok (.goto 14, 3) := by decide +kernel
theorem dX5_readItem_120 : decode cX5_readItem 120 = .ok (.aload_n 0, 1) := by decide +kernel
theorem dX5_readItem_121 : decode cX5_readItem 121 = .ok (.aload_n 1, 1) := by decide +kernel
theorem dX5_readItem_122 : decode cX5_readItem 122 = .ok (.invokevirtual 56, 3) := by decide +kernel
theorem dX5_readItem_125 : decode cX5_readItem 125 = .ok (.istore_n 2, 1) := by decide +kernel
theorem dX5_readItem_126 : decode cX5_readItem 126 = .ok (.goto 5, 3) := by decide +kernel
theorem dX5_readItem_129 : decode cX5_readItem 129 = .ok (.iconst 0, 1) := by decide +kernel
theorem dX5_readItem_130 : decode cX5_readItem 130 = .ok (.istore_n 2, 1) := by decide +kernel
theorem dX5_readItem_131 : decode cX5_readItem 131 = .ok (.iload_n 2, 1) := by decide +kernel
theorem dX5_readItem_132 : decode cX5_readItem 132 = .ok (.ifCond .eq 11, 3) := by decide +kernel
theorem dX5_readItem_135 : decode cX5_readItem 135 = .ok (.aload_n 0, 1) := by decide +kernel
theorem dX5_readItem_136 : decode cX5_readItem 136 = .ok (.getfield 19, 3) := by decide +kernel
theorem dX5_readItem_139 : decode cX5_readItem 139 = .ok (.iconst 3, 1) := by decide +kernel
theorem dX5_readItem_140 : decode cX5_readItem 140 = .ok (.if_icmp .eq 5, 3) := by decide +kernel
theorem dX5_readItem_143 : decode cX5_readItem 143 = .ok (.iconst 0, 1) := by decide +kernel
theorem dX5_readItem_144 : decode cX5_readItem 144 = .ok (.ireturn, 1) := by decide +kernel
theorem dX5_readItem_145 : decode cX5_readItem 145 = .ok (.aload_n 0, 1) := by decide +kernel
theorem dX5_readItem_146 : decode cX5_readItem 146 = .ok (.invokevirtual 37, 3) := by decide +kernel
theorem dX5_readItem_149 : decode cX5_readItem 149 = .ok (.iconst 1, 1) := by decide +kernel
theorem dX5_readItem_150 : decode cX5_readItem 150 = .ok (.ireturn, 1) := by decide +kernel
theorem dX5_readLeaf_0 : decode cX5_readLeaf 0 = .ok (.aload_n 0, 1) := by decide +kernel
theorem dX5_readLeaf_1 : decode cX5_readLeaf 1 = .ok (.aload_n 1, 1) := by decide +kernel
theorem dX5_readLeaf_2 : decode cX5_readLeaf 2 = .ok (.getfield 59, 3) := by decide +kernel
theorem dX5_readLeaf_5 : decode cX5_readLeaf 5 = .ok (.aload_n 1, 1) := by decide +kernel
theorem dX5_readLeaf_6 : decode cX5_readLeaf 6 = .ok (.getfield 62, 3) := by decide +kernel
theorem dX5_readLeaf_9 : decode cX5_readLeaf 9 = .ok (.invokevirtual 65, 3) := by decide +kernel
theorem dX5_readLeaf_12 : decode cX5_readLeaf 12 = .ok (.ifCond .ne 5, 3) := by decide +kernel
theorem dX5_readLeaf_15 : decode cX5_readLeaf 15 = .ok (.iconst 0, 1) := by decide +kernel
theorem dX5_readLeaf_16 : decode cX5_readLeaf 16 = .ok (.ireturn, 1) := by decide +kernel
theorem dX5_readLeaf_17 : decode cX5_readLeaf 17 = .ok (.aload_n 1, 1) := by decide +kernel
theorem dX5_readLeaf_18 : decode cX5_readLeaf 18 = .ok (.dup, 1) := by decide +kernel
theorem dX5_readLeaf_19 : decode cX5_readLeaf 19 = .ok (.getfield 62, 3) := by decide +kernel
theorem dX5_readLeaf_22 : decode cX5_readLeaf 22 = .ok (.iconst 1, 1) := by decide +kernel
theorem dX5_readLeaf_23 : decode cX5_readLeaf 23 = .ok (.iadd, 1) := by decide +kernel
theorem dX5_readLeaf_24 : decode cX5_readLeaf 24 = .ok (.putfield 62, 3) := by decide +kernel
theorem dX5_readLeaf_27 : decode cX5_readLeaf 27 = .ok (.iconst 1, 1) := by decide +kernel
theorem dX5_readLeaf_28 : decode cX5_readLeaf 28 = .ok (.ireturn, 1) := by decide +kernel
theorem dX5_readGoer_0 : decode cX5_readGoer 0 = .ok (.aload_n 0, 1) := by decide +kernel
theorem dX5_readGoer_1 : decode cX5_readGoer 1 = .ok (.aload_n 1, 1) := by decide +kernel
theorem dX5_readGoer_2 : decode cX5_readGoer 2 = .ok (.getfield 69, 3) := by decide +kernel
theorem dX5_readGoer_5 : decode cX5_readGoer 5 = .ok (.aload_n 1, 1) := by decide +kernel
theorem dX5_readGoer_6 : decode cX5_readGoer 6 = .ok (.getfield 72, 3) := by decide +kernel
theorem dX5_readGoer_9 : decode cX5_readGoer 9 = .ok (.invokevirtual 65, 3) := by decide +kernel
theorem dX5_readGoer_12 : decode cX5_readGoer 12 = .ok (.ifCond .ne 5, 3) := by decide +kernel
theorem dX5_readGoer_15 : decode cX5_readGoer 15 = .ok (.iconst 0, 1) := by decide +kernel
theorem dX5_readGoer_16 : decode cX5_readGoer 16 = .ok (.ireturn, 1) := by decide +kernel
theorem dX5_readGoer_17 : decode cX5_readGoer 17 = .ok (.aload_n 1, 1) := by decide +kernel
theorem dX5_readGoer_18 : decode cX5_readGoer 18 = .ok (.dup, 1) := by decide +kernel
theorem dX5_readGoer_19 : decode cX5_readGoer 19 = .ok (.getfield 72, 3) := by decide +kernel
theorem dX5_readGoer_22 : decode cX5_readGoer 22 = .ok (.iconst 1, 1) := by decide +kernel
theorem dX5_readGoer_23 : decode cX5_readGoer 23 = .ok (.iadd, 1) := by decide +kernel
theorem dX5_readGoer_24 : decode cX5_readGoer 24 = .ok (.putfield 72, 3) := by decide +kernel
theorem dX5_readGoer_27 : decode cX5_readGoer 27 = .ok (.iconst 1, 1) := by decide +kernel
theorem dX5_readGoer_28 : decode cX5_readGoer 28 = .ok (.ireturn, 1) := by decide +kernel
theorem dX5_readTastes_0 : decode cX5_readTastes 0 = .ok (.iload_n 2, 1) := by decide +kernel
theorem dX5_readTastes_1 : decode cX5_readTastes 1 = .ok (.aload_n 1, 1) := by decide +kernel
theorem dX5_readTastes_2 : decode cX5_readTastes 2 = .ok (.arraylength, 1) := by decide +kernel
theorem dX5_readTastes_3 : decode cX5_readTastes 3 = .ok (.if_icmp .lt 5, 3) := by decide +kernel
theorem dX5_readTastes_6 : decode cX5_readTastes 6 = .ok (.iconst 0, 1) := by decide +kernel
theorem dX5_readTastes_7 : decode cX5_readTastes 7 = .ok (.ireturn, 1) := by decide +kernel
theorem dX5_readTastes_8 : decode cX5_readTastes 8 = .ok (.aload_n 0, 1) := by decide +kernel
theorem dX5_readTastes_9 : decode cX5_readTastes 9 = .ok (.invokevirtual 37, 3) := by decide +kernel
theorem dX5_readTastes_12 : decode cX5_readTastes 12 = .ok (.aload_n 0, 1) := by decide +kernel
theorem dX5_readTastes_13 : decode cX5_readTastes 13 = .ok (.iconst 1, 1) := by decide +kernel
theorem dX5_readTastes_14 : decode cX5_readTastes 14 = .ok (.invokevirtual 75, 3) := by decide +kernel
theorem dX5_readTastes_17 : decode cX5_readTastes 17 = .ok (.ifCond .ne 5, 3) := by decide +kernel
theorem dX5_readTastes_20 : decode cX5_readTastes 20 = .ok (.iconst 0, 1) := by decide +kernel
theorem dX5_readTastes_21 : decode cX5_readTastes 21 = .ok (.ireturn, 1) := by decide +kernel
theorem dX5_readTastes_22 : decode cX5_readTastes 22 = .ok (.aload_n 1, 1) := by decide +kernel
theorem dX5_readTastes_23 : decode cX5_readTastes 23 = .ok (.iload_n 2, 1) := by decide +kernel
theorem dX5_readTastes_24 : decode cX5_readTastes 24 = .ok (.aload_n 0, 1) := by decide +kernel
theorem dX5_readTastes_25 : decode cX5_readTastes 25 = .ok (.invokevirtual 79, 3) := by decide +kernel
theorem dX5_readTastes_28 : decode cX5_readTastes 28 = .ok (.iastore, 1) := by decide +kernel
theorem dX5_readTastes_29 : decode cX5_readTastes 29 = .ok (.aload_n 0, 1) := by decide +kernel
theorem dX5_readTastes_30 : decode cX5_readTastes 30 = .ok (.invokevirtual 37, 3) := by decide +kernel
theorem dX5_readTastes_33 : decode cX5_readTastes 33 = .ok (.iconst 1, 1) := by decide +kernel
theorem dX5_readTastes_34 : decode cX5_readTastes 34 = .ok (.ireturn, 1) := by decide +kernel
theorem dX5_readSister_0 : decode cX5_readSister 0 = .ok (.aload_n 1, 1) := by decide +kernel
theorem dX5_readSister_1 : decode cX5_readSister 1 = .ok (.getfield 83, 3) := by decide +kernel
theorem dX5_readSister_4 : decode cX5_readSister 4 = .ok (.iconst 4, 1) := by decide +kernel
theorem dX5_readSister_5 : decode cX5_readSister 5 = .ok (.if_icmp .lt 5, 3) := by decide +kernel
theorem dX5_readSister_8 : decode cX5_readSister 8 = .ok (.iconst 0, 1) := by decide +kernel
theorem dX5_readSister_9 : decode cX5_readSister 9 = .ok (.ireturn, 1) := by decide +kernel
theorem dX5_readSister_10 : decode cX5_readSister 10 = .ok (.aload_n 0, 1) := by decide +kernel
theorem dX5_readSister_11 : decode cX5_readSister 11 = .ok (.invokevirtual 37, 3) := by decide +kernel
theorem dX5_readSister_14 : decode cX5_readSister 14 = .ok (.aload_n 0, 1) := by decide +kernel
theorem dX5_readSister_15 : decode cX5_readSister 15 = .ok (.bipush 6, 2) := by decide +kernel
theorem dX5_readSister_17 : decode cX5_readSister 17 = .ok (.invokevirtual 75, 3) := by decide +kernel
theorem dX5_readSister_20 : decode cX5_readSister 20 = .ok (.ifCond .ne 5, 3) := by decide +kernel
theorem dX5_readSister_23 : decode cX5_readSister 23 = .ok (.iconst 0, 1) := by decide +kernel
theorem dX5_readSister_24 : decode cX5_readSister 24 = .ok (.ireturn, 1) := by decide +kernel
theorem dX5_readSister_25 : decode cX5_readSister 25 = .ok (.iconst 0, 1) := by decide +kernel
theorem dX5_readSister_26 : decode cX5_readSister 26 = .ok (.istore_n 2, 1) := by decide +kernel
theorem dX5_readSister_27 : decode cX5_readSister 27 = .ok (.iload_n 2, 1) := by decide +kernel
theorem dX5_readSister_28 : decode cX5_readSister 28 = .ok (.bipush 6, 2) := by decide +kernel
theorem dX5_readSister_30 : decode cX5_readSister 30 = .ok (.if_icmp .ge 37, 3) := by decide +kernel
theorem dX5_readSister_33 : decode cX5_readSister 33 = .ok (.aload_n 1, 1) := by decide +kernel
theorem dX5_readSister_34 : decode cX5_readSister 34 = .ok (.getfield 86, 3) := by decide +kernel
theorem dX5_readSister_37 : decode cX5_readSister 37 = .ok (.aload_n 1, 1) := by decide +kernel
theorem dX5_readSister_38 : decode cX5_readSister 38 = .ok (.getfield 83, 3) := by decide +kernel
theorem dX5_readSister_41 : decode cX5_readSister 41 = .ok (.bipush 6, 2) := by decide +kernel
theorem dX5_readSister_43 : decode cX5_readSister 43 = .ok (.imul, 1) := by decide +kernel
theorem dX5_readSister_44 : decode cX5_readSister 44 = .ok (.iload_n 2, 1) := by decide +kernel
theorem dX5_readSister_45 : decode cX5_readSister 45 = .ok (.iadd, 1) := by decide +kernel
theorem dX5_readSister_46 : decode cX5_readSister 46 = .ok (.aload_n 0, 1) := by decide +kernel
theorem dX5_readSister_47 : decode cX5_readSister 47 = .ok (.getfield 9, 3) := by decide +kernel
theorem dX5_readSister_50 : decode cX5_readSister 50 = .ok (.aload_n 0, 1) := by decide +kernel
theorem dX5_readSister_51 : decode cX5_readSister 51 = .ok (.getfield 22, 3) := by decide +kernel
theorem dX5_readSister_54 : decode cX5_readSister 54 = .ok (.iload_n 2, 1) := by decide +kernel
theorem dX5_readSister_55 : decode cX5_readSister 55 = .ok (.iadd, 1) := by decide +kernel
theorem dX5_readSister_56 : decode cX5_readSister 56 = .ok (.iaload, 1) := by decide +kernel
theorem dX5_readSister_57 : decode cX5_readSister 57 = .ok (.bipush 97, 2) := by decide +kernel
theorem dX5_readSister_59 : decode cX5_readSister 59 = .ok (.isub, 1) := by decide +kernel
theorem dX5_readSister_60 : decode cX5_readSister 60 = .ok (.iastore, 1) := by decide +kernel
theorem dX5_readSister_61 : decode cX5_readSister 61 = .ok (.iinc 2 1, 3) := by decide +kernel
theorem dX5_readSister_64 : decode cX5_readSister 64 = .ok (.goto (-37), 3) := by decide +kernel
theorem dX5_readSister_67 : decode cX5_readSister 67 = .ok (.aload_n 1, 1) := by decide +kernel
theorem dX5_readSister_68 : decode cX5_readSister 68 = .ok (.dup, 1) := by decide +kernel
theorem dX5_readSister_69 : decode cX5_readSister 69 = .ok (.getfield 83, 3) := by decide +kernel
theorem dX5_readSister_72 : decode cX5_readSister 72 = .ok (.iconst 1, 1) := by decide +kernel
theorem dX5_readSister_73 : decode cX5_readSister 73 = .ok (.iadd, 1) := by decide +kernel
theorem dX5_readSister_74 : decode cX5_readSister 74 = .ok (.putfield 83, 3) := by decide +kernel
theorem dX5_readSister_77 : decode cX5_readSister 77 = .ok (.aload_n 0, 1) := by decide +kernel
theorem dX5_readSister_78 : decode cX5_readSister 78 = .ok (.invokevirtual 37, 3) := by decide +kernel
theorem dX5_readSister_81 : decode cX5_readSister 81 = .ok (.iconst 1, 1) := by decide +kernel
theorem dX5_readSister_82 : decode cX5_readSister 82 = .ok (.ireturn, 1) := by decide +kernel
theorem dX5_readFriday_0 : decode cX5_readFriday 0 = .ok (.aload_n 1, 1) := by decide +kernel
theorem dX5_readFriday_1 : decode cX5_readFriday 1 = .ok (.getfield 89, 3) := by decide +kernel
theorem dX5_readFriday_4 : decode cX5_readFriday 4 = .ok (.iconst 3, 1) := by decide +kernel
theorem dX5_readFriday_5 : decode cX5_readFriday 5 = .ok (.if_icmp .lt 5, 3) := by decide +kernel
theorem dX5_readFriday_8 : decode cX5_readFriday 8 = .ok (.iconst 0, 1) := by decide +kernel
theorem dX5_readFriday_9 : decode cX5_readFriday 9 = .ok (.ireturn, 1) := by decide +kernel
theorem dX5_readFriday_10 : decode cX5_readFriday 10 = .ok (.aload_n 0, 1) := by decide +kernel
theorem dX5_readFriday_11 : decode cX5_readFriday 11 = .ok (.invokevirtual 37, 3) := by decide +kernel
theorem dX5_readFriday_14 : decode cX5_readFriday 14 = .ok (.aload_n 0, 1) := by decide +kernel
theorem dX5_readFriday_15 : decode cX5_readFriday 15 = .ok (.iconst 2, 1) := by decide +kernel
theorem dX5_readFriday_16 : decode cX5_readFriday 16 = .ok (.bipush 12, 2) := by decide +kernel
theorem dX5_readFriday_18 : decode cX5_readFriday 18 = .ok (.invokevirtual 92, 3) := by decide +kernel
theorem dX5_readFriday_21 : decode cX5_readFriday 21 = .ok (.ifCond .ne 5, 3) := by decide +kernel
theorem dX5_readFriday_24 : decode cX5_readFriday 24 = .ok (.iconst 0, 1) := by decide +kernel
theorem dX5_readFriday_25 : decode cX5_readFriday 25 = .ok (.ireturn, 1) := by decide +kernel
theorem dX5_readFriday_26 : decode cX5_readFriday 26 = .ok (.aload_n 0, 1) := by decide +kernel
theorem dX5_readFriday_27 : decode cX5_readFriday 27 = .ok (.invokevirtual 96, 3) := by decide +kernel
theorem dX5_readFriday_30 : decode cX5_readFriday 30 = .ok (.istore_n 2, 1) := by decide +kernel
theorem dX5_readFriday_31 : decode cX5_readFriday 31 = .ok (.aload_n 0, 1) := by decide +kernel
theorem dX5_readFriday_32 : decode cX5_readFriday 32 = .ok (.invokevirtual 37, 3) := by decide +kernel
theorem dX5_readFriday_35 : decode cX5_readFriday 35 = .ok (.aload_n 0, 1) := by decide +kernel
theorem dX5_readFriday_36 : decode cX5_readFriday 36 = .ok (.iconst 0, 1) := by decide +kernel
theorem dX5_readFriday_37 : decode cX5_readFriday 37 = .ok (.iload_n 2, 1) := by decide +kernel
theorem dX5_readFriday_38 : decode cX5_readFriday 38 = .ok (.iconst 1, 1) := by decide +kernel
theorem dX5_readFriday_39 : decode cX5_readFriday 39 = .ok (.isub, 1) := by decide +kernel
theorem dX5_readFriday_40 : decode cX5_readFriday 40 = .ok (.invokevirtual 92, 3) := by decide +kernel
theorem dX5_readFriday_43 : decode cX5_readFriday 43 = .ok (.ifCond .ne 5, 3) := by decide +kernel
theorem dX5_readFriday_46 : decode cX5_readFriday 46 = .ok (.iconst 0, 1) := by decide +kernel
theorem dX5_readFriday_47 : decode cX5_readFriday 47 = .ok (.ireturn, 1) := by decide +kernel
theorem dX5_readFriday_48 : decode cX5_readFriday 48 = .ok (.aload_n 1, 1) := by decide +kernel
theorem dX5_readFriday_49 : decode cX5_readFriday 49 = .ok (.getfield 99, 3) := by decide +kernel
theorem dX5_readFriday_52 : decode cX5_readFriday 52 = .ok (.aload_n 1, 1) := by decide +kernel
theorem dX5_readFriday_53 : decode cX5_readFriday 53 = .ok (.getfield 89, 3) := by decide +kernel
theorem dX5_readFriday_56 : decode cX5_readFriday 56 = .ok (.iload_n 2, 1) := by decide +kernel
theorem dX5_readFriday_57 : decode cX5_readFriday 57 = .ok (.iastore, 1) := by decide +kernel
theorem dX5_readFriday_58 : decode cX5_readFriday 58 = .ok (.aload_n 1, 1) := by decide +kernel
theorem dX5_readFriday_59 : decode cX5_readFriday 59 = .ok (.getfield 102, 3) := by decide +kernel
theorem dX5_readFriday_62 : decode cX5_readFriday 62 = .ok (.aload_n 1, 1) := by decide +kernel
theorem dX5_readFriday_63 : decode cX5_readFriday 63 = .ok (.getfield 89, 3) := by decide +kernel
theorem dX5_readFriday_66 : decode cX5_readFriday 66 = .ok (.aload_n 0, 1) := by decide +kernel
theorem dX5_readFriday_67 : decode cX5_readFriday 67 = .ok (.invokevirtual 96, 3) := by decide +kernel
theorem dX5_readFriday_70 : decode cX5_readFriday 70 = .ok (.iastore, 1) := by decide +kernel
theorem dX5_readFriday_71 : decode cX5_readFriday 71 = .ok (.aload_n 1, 1) := by decide +kernel
theorem dX5_readFriday_72 : decode cX5_readFriday 72 = .ok (.dup, 1) := by decide +kernel
theorem dX5_readFriday_73 : decode cX5_readFriday 73 = .ok (.getfield 89, 3) := by decide +kernel
theorem dX5_readFriday_76 : decode cX5_readFriday 76 = .ok (.iconst 1, 1) := by decide +kernel
theorem dX5_readFriday_77 : decode cX5_readFriday 77 = .ok (.iadd, 1) := by decide +kernel
theorem dX5_readFriday_78 : decode cX5_readFriday 78 = .ok (.putfield 89, 3) := by decide +kernel
theorem dX5_readFriday_81 : decode cX5_readFriday 81 = .ok (.aload_n 0, 1) := by decide +kernel
theorem dX5_readFriday_82 : decode cX5_readFriday 82 = .ok (.invokevirtual 37, 3) := by decide +kernel
theorem dX5_readFriday_85 : decode cX5_readFriday 85 = .ok (.iconst 1, 1) := by decide +kernel
theorem dX5_readFriday_86 : decode cX5_readFriday 86 = .ok (.ireturn, 1) := by decide +kernel
theorem dX5_readLane_0 : decode cX5_readLane 0 = .ok (.aload_n 0, 1) := by decide +kernel
theorem dX5_readLane_1 : decode cX5_readLane 1 = .ok (.getfield 28, 3) := by decide +kernel
theorem dX5_readLane_4 : decode cX5_readLane 4 = .ok (.ifCond .eq 5, 3) := by decide +kernel
theorem dX5_readLane_7 : decode cX5_readLane 7 = .ok (.iconst 0, 1) := by decide +kernel
theorem dX5_readLane_8 : decode cX5_readLane 8 = .ok (.ireturn, 1) := by decide +kernel
theorem dX5_readLane_9 : decode cX5_readLane 9 = .ok (.aload_n 0, 1) := by decide +kernel
theorem dX5_readLane_10 : decode cX5_readLane 10 = .ok (.invokevirtual 37, 3) := by decide +kernel
theorem dX5_readLane_13 : decode cX5_readLane 13 = .ok (.aload_n 0, 1) := by decide +kernel
theorem dX5_readLane_14 : decode cX5_readLane 14 = .ok (.iconst 1, 1) := by decide +kernel
theorem dX5_readLane_15 : decode cX5_readLane 15 = .ok (.bipush 9, 2) := by decide +kernel
theorem dX5_readLane_17 : decode cX5_readLane 17 = .ok (.invokevirtual 92, 3) := by decide +kernel
theorem dX5_readLane_20 : decode cX5_readLane 20 = .ok (.ifCond .ne 5, 3) := by decide +kernel
theorem dX5_readLane_23 : decode cX5_readLane 23 = .ok (.iconst 0, 1) := by decide +kernel
theorem dX5_readLane_24 : decode cX5_readLane 24 = .ok (.ireturn, 1) := by decide +kernel
theorem dX5_readLane_25 : decode cX5_readLane 25 = .ok (.aload_n 1, 1) := by decide +kernel
theorem dX5_readLane_26 : decode cX5_readLane 26 = .ok (.aload_n 0, 1) := by decide +kernel
theorem dX5_readLane_27 : decode cX5_readLane 27 = .ok (.invokevirtual 96, 3) := by decide +kernel
theorem dX5_readLane_30 : decode cX5_readLane 30 = .ok (.putfield 105, 3) := by decide +kernel
theorem dX5_readLane_33 : decode cX5_readLane 33 = .ok (.aload_n 0, 1) := by decide +kernel
theorem dX5_readLane_34 : decode cX5_readLane 34 = .ok (.iconst 1, 1) := by decide +kernel
theorem dX5_readLane_35 : decode cX5_readLane 35 = .ok (.putfield 28, 3) := by decide +kernel
theorem dX5_readLane_38 : decode cX5_readLane 38 = .ok (.aload_n 0, 1) := by decide +kernel
theorem dX5_readLane_39 : decode cX5_readLane 39 = .ok (.invokevirtual 37, 3) := by decide +kernel
theorem dX5_readLane_42 : decode cX5_readLane 42 = .ok (.iconst 1, 1) := by decide +kernel
theorem dX5_readLane_43 : decode cX5_readLane 43 = .ok (.ireturn, 1) := by decide +kernel
theorem dX5_isRow_0 : decode cX5_isRow 0 = .ok (.aload_n 0, 1) := by decide +kernel
theorem dX5_isRow_1 : decode cX5_isRow 1 = .ok (.getfield 25, 3) := by decide +kernel
theorem dX5_isRow_4 : decode cX5_isRow 4 = .ok (.aload_n 0, 1) := by decide +kernel
theorem dX5_isRow_5 : decode cX5_isRow 5 = .ok (.getfield 22, 3) := by decide +kernel
theorem dX5_isRow_8 : decode cX5_isRow 8 = .ok (.isub, 1) := by decide +kernel
theorem dX5_isRow_9 : decode cX5_isRow 9 = .ok (.istore_n 2, 1) := by decide +kernel
theorem dX5_isRow_10 : decode cX5_isRow 10 = .ok (.aload_n 0, 1) := by decide +kernel
theorem dX5_isRow_11 : decode cX5_isRow 11 = .ok (.getfield 19, 3) := by decide +kernel
theorem dX5_isRow_14 : decode cX5_isRow 14 = .ok (.iconst 1, 1) := by decide +kernel
theorem dX5_isRow_15 : decode cX5_isRow 15 = .ok (.if_icmp .ne 14, 3) := by decide +kernel
theorem dX5_isRow_18 : decode cX5_isRow 18 = .ok (.iload_n 2, 1) := by decide +kernel
theorem dX5_isRow_19 : decode cX5_isRow 19 = .ok (.iload_n 1, 1) := by decide +kernel
theorem dX5_isRow_20 : decode cX5_isRow 20 = .ok (.if_icmp .lt 9, 3) := by decide +kernel
theorem dX5_isRow_23 : decode cX5_isRow 23 = .ok (.iload_n 2, 1) := by decide +kernel
theorem dX5_isRow_24 : decode cX5_isRow 24 = .ok (.bipush 6, 2) := by decide +kernel
theorem dX5_isRow_26 : decode cX5_isRow 26 = .ok (.if_icmp .le 5, 3) := by decide +kernel
theorem dX5_isRow_29 : decode cX5_isRow 29 = .ok (.iconst 0, 1) := by decide +kernel
theorem dX5_isRow_30 : decode cX5_isRow 30 = .ok (.ireturn, 1) := by decide +kernel
theorem dX5_isRow_31 : decode cX5_isRow 31 = .ok (.aload_n 0, 1) := by decide +kernel
theorem dX5_isRow_32 : decode cX5_isRow 32 = .ok (.getfield 22, 3) := by decide +kernel
theorem dX5_isRow_35 : decode cX5_isRow 35 = .ok (.istore_n 3, 1) := by decide +kernel
theorem dX5_isRow_36 : decode cX5_isRow 36 = .ok (.iload_n 3, 1) := by decide +kernel
theorem dX5_isRow_37 : decode cX5_isRow 37 = .ok (.aload_n 0, 1) := by decide +kernel
theorem dX5_isRow_38 : decode cX5_isRow 38 = .ok (.getfield 25, 3) := by decide +kernel
theorem dX5_isRow_41 : decode cX5_isRow 41 = .ok (.if_icmp .ge 26, 3) := by decide +kernel
theorem dX5_isRow_44 : decode cX5_isRow 44 = .ok (.aload_n 0, 1) := by decide +kernel
theorem dX5_isRow_45 : decode cX5_isRow 45 = .ok (.getfield 9, 3) := by decide +kernel
theorem dX5_isRow_48 : decode cX5_isRow 48 = .ok (.iload_n 3, 1) := by decide +kernel
theorem dX5_isRow_49 : decode cX5_isRow 49 = .ok (.iaload, 1) := by decide +kernel
theorem dX5_isRow_50 : decode cX5_isRow 50 = .ok (.bipush 97, 2) := by decide +kernel
theorem dX5_isRow_52 : decode cX5_isRow 52 = .ok (.isub, 1) := by decide +kernel
theorem dX5_isRow_53 : decode cX5_isRow 53 = .ok (.invokestatic 108, 3) := by decide +kernel
theorem dX5_isRow_56 : decode cX5_isRow 56 = .ok (.ifCond .ne 5, 3) := by decide +kernel
theorem dX5_isRow_59 : decode cX5_isRow 59 = .ok (.iconst 0, 1) := by decide +kernel
theorem dX5_isRow_60 : decode cX5_isRow 60 = .ok (.ireturn, 1) := by decide +kernel
theorem dX5_isRow_61 : decode cX5_isRow 61 = .ok (.iinc 3 1, 3) := by decide +kernel
theorem dX5_isRow_64 : decode cX5_isRow 64 = .ok (.goto (-28), 3) := by decide +kernel
theorem dX5_isRow_67 : decode cX5_isRow 67 = .ok (.iconst 1, 1) := by decide +kernel
theorem dX5_isRow_68 : decode cX5_isRow 68 = .ok (.ireturn, 1) := by decide +kernel
theorem dX5_rowBits_0 : decode cX5_rowBits 0 = .ok (.iconst 0, 1) := by decide +kernel
theorem dX5_rowBits_1 : decode cX5_rowBits 1 = .ok (.istore_n 1, 1) := by decide +kernel
theorem dX5_rowBits_2 : decode cX5_rowBits 2 = .ok (.aload_n 0, 1) := by decide +kernel
theorem dX5_rowBits_3 : decode cX5_rowBits 3 = .ok (.getfield 22, 3) := by decide +kernel
theorem dX5_rowBits_6 : decode cX5_rowBits 6 = .ok (.istore_n 2, 1) := by decide +kernel
theorem dX5_rowBits_7 : decode cX5_rowBits 7 = .ok (.iload_n 2, 1) := by decide +kernel
theorem dX5_rowBits_8 : decode cX5_rowBits 8 = .ok (.aload_n 0, 1) := by decide +kernel
theorem dX5_rowBits_9 : decode cX5_rowBits 9 = .ok (.getfield 25, 3) := by decide +kernel
theorem dX5_rowBits_12 : decode cX5_rowBits 12 = .ok (.if_icmp .ge 23, 3) := by decide +kernel
theorem dX5_rowBits_15 : decode cX5_rowBits 15 = .ok (.iload_n 1, 1) := by decide +kernel
theorem dX5_rowBits_16 : decode cX5_rowBits 16 = .ok (.iconst 1, 1) := by decide +kernel
theorem dX5_rowBits_17 : decode cX5_rowBits 17 = .ok (.aload_n 0, 1) := by decide +kernel
theorem dX5_rowBits_18 : decode cX5_rowBits 18 = .ok (.getfield 9, 3) := by decide +kernel
theorem dX5_rowBits_21 : decode cX5_rowBits 21 = .ok (.iload_n 2, 1) := by decide +kernel
theorem dX5_rowBits_22 : decode cX5_rowBits 22 = .ok (.iaload, 1) := by decide +kernel
theorem dX5_rowBits_23 : decode cX5_rowBits 23 = .ok (.bipush 97, 2) := by decide +kernel
theorem dX5_rowBits_25 : decode cX5_rowBits 25 = .ok (.isub, 1) := by decide +kernel
theorem dX5_rowBits_26 : decode cX5_rowBits 26 = .ok (.ishl, 1) := by decide +kernel
theorem dX5_rowBits_27 : decode cX5_rowBits 27 = .ok (.ior, 1) := by decide +kernel
theorem dX5_rowBits_28 : decode cX5_rowBits 28 = .ok (.istore_n 1, 1) := by decide +kernel
theorem dX5_rowBits_29 : decode cX5_rowBits 29 = .ok (.iinc 2 1, 3) := by decide +kernel
theorem dX5_rowBits_32 : decode cX5_rowBits 32 = .ok (.goto (-25), 3) := by decide +kernel
theorem dX5_rowBits_35 : decode cX5_rowBits 35 = .ok (.iload_n 1, 1) := by decide +kernel
theorem dX5_rowBits_36 : decode cX5_rowBits 36 = .ok (.ireturn, 1) := by decide +kernel
theorem dX5_isNumber_0 : decode cX5_isNumber 0 = .ok (.aload_n 0, 1) := by decide +kernel
theorem dX5_isNumber_1 : decode cX5_isNumber 1 = .ok (.getfield 19, 3) := by decide +kernel
theorem dX5_isNumber_4 : decode cX5_isNumber 4 = .ok (.iconst 2, 1) := by decide +kernel
theorem dX5_isNumber_5 : decode cX5_isNumber 5 = .ok (.if_icmp .ne 23, 3) := by decide +kernel
theorem dX5_isNumber_8 : decode cX5_isNumber 8 = .ok (.aload_n 0, 1) := by decide +kernel
theorem dX5_isNumber_9 : decode cX5_isNumber 9 = .ok (.invokevirtual 96, 3) := by decide +kernel
theorem dX5_isNumber_12 : decode cX5_isNumber 12 = .ok (.iload_n 1, 1) := by decide +kernel
theorem dX5_isNumber_13 : decode cX5_isNumber 13 = .ok (.if_icmp .lt 15, 3) := by decide +kernel
theorem dX5_isNumber_16 : decode cX5_isNumber 16 = .ok (.aload_n 0, 1) := by decide +kernel
theorem dX5_isNumber_17 : decode cX5_isNumber 17 = .ok (.invokevirtual 96, 3) := by decide +kernel
theorem dX5_isNumber_20 : decode cX5_isNumber 20 = .ok (.iload_n 2, 1) := by decide +kernel
theorem dX5_isNumber_21 : decode cX5_isNumber 21 = .ok (.if_icmp .gt 7, 3) := by decide +kernel
theorem dX5_isNumber_24 : decode cX5_isNumber 24 = .ok (.iconst 1, 1) := by decide +kernel
theorem dX5_isNumber_25 : decode cX5_isNumber 25 = .ok (.goto 4, 3) := by decide +kernel
theorem dX5_isNumber_28 : decode cX5_isNumber 28 = .ok (.iconst 0, 1) := by decide +kernel
theorem dX5_isNumber_29 : decode cX5_isNumber 29 = .ok (.ireturn, 1) := by decide +kernel
theorem dX5_number_0 : decode cX5_number 0 = .ok (.iconst 0, 1) := by decide +kernel
theorem dX5_number_1 : decode cX5_number 1 = .ok (.istore_n 1, 1) := by decide +kernel
theorem dX5_number_2 : decode cX5_number 2 = .ok (.aload_n 0, 1) := by decide +kernel
theorem dX5_number_3 : decode cX5_number 3 = .ok (.getfield 22, 3) := by decide +kernel
theorem dX5_number_6 : decode cX5_number 6 = .ok (.istore_n 2, 1) := by decide +kernel
theorem dX5_number_7 : decode cX5_number 7 = .ok (.iload_n 2, 1) := by decide +kernel
theorem dX5_number_8 : decode cX5_number 8 = .ok (.aload_n 0, 1) := by decide +kernel
theorem dX5_number_9 : decode cX5_number 9 = .ok (.getfield 25, 3) := by decide +kernel
theorem dX5_number_12 : decode cX5_number 12 = .ok (.if_icmp .ge 24, 3) := by decide +kernel
theorem dX5_number_15 : decode cX5_number 15 = .ok (.iload_n 1, 1) := by decide +kernel
theorem dX5_number_16 : decode cX5_number 16 = .ok (.bipush 10, 2) := by decide +kernel
theorem dX5_number_18 : decode cX5_number 18 = .ok (.imul, 1) := by decide +kernel
theorem dX5_number_19 : decode cX5_number 19 = .ok (.aload_n 0, 1) := by decide +kernel
theorem dX5_number_20 : decode cX5_number 20 = .ok (.getfield 9, 3) := by decide +kernel
theorem dX5_number_23 : decode cX5_number 23 = .ok (.iload_n 2, 1) := by decide +kernel
theorem dX5_number_24 : decode cX5_number 24 = .ok (.iaload, 1) := by decide +kernel
theorem dX5_number_25 : decode cX5_number 25 = .ok (.iadd, 1) := by decide +kernel
theorem dX5_number_26 : decode cX5_number 26 = .ok (.bipush 48, 2) := by decide +kernel
theorem dX5_number_28 : decode cX5_number 28 = .ok (.isub, 1) := by decide +kernel
theorem dX5_number_29 : decode cX5_number 29 = .ok (.istore_n 1, 1) := by decide +kernel
theorem dX5_number_30 : decode cX5_number 30 = .ok (.iinc 2 1, 3) := by decide +kernel
theorem dX5_number_33 : decode cX5_number 33 = .ok (.goto (-26), 3) := by decide +kernel
theorem dX5_number_36 : decode cX5_number 36 = .ok (.iload_n 1, 1) := by decide +kernel
theorem dX5_number_37 : decode cX5_number 37 = .ok (.ireturn, 1) := by decide +kernel
theorem dX5_step_0 : decode cX5_step 0 = .ok (.aload_n 0, 1) := by decide +kernel
theorem dX5_step_1 : decode cX5_step 1 = .ok (.aload_n 0, 1) := by decide +kernel
theorem dX5_step_2 : decode cX5_step 2 = .ok (.getfield 25, 3) := by decide +kernel
theorem dX5_step_5 : decode cX5_step 5 = .ok (.putfield 22, 3) := by decide +kernel
theorem dX5_step_8 : decode cX5_step 8 = .ok (.aload_n 0, 1) := by decide +kernel
theorem dX5_step_9 : decode cX5_step 9 = .ok (.getfield 22, 3) := by decide +kernel
theorem dX5_step_12 : decode cX5_step 12 = .ok (.aload_n 0, 1) := by decide +kernel
theorem dX5_step_13 : decode cX5_step 13 = .ok (.getfield 15, 3) := by decide +kernel
theorem dX5_step_16 : decode cX5_step 16 = .ok (.if_icmp .ge 30, 3) := by decide +kernel
theorem dX5_step_19 : decode cX5_step 19 = .ok (.aload_n 0, 1) := by decide +kernel
theorem dX5_step_20 : decode cX5_step 20 = .ok (.getfield 9, 3) := by decide +kernel
theorem dX5_step_23 : decode cX5_step 23 = .ok (.aload_n 0, 1) := by decide +kernel
theorem dX5_step_24 : decode cX5_step 24 = .ok (.getfield 22, 3) := by decide +kernel
theorem dX5_step_27 : decode cX5_step 27 = .ok (.iaload, 1) := by decide +kernel
theorem dX5_step_28 : decode cX5_step 28 = .ok (.bipush 32, 2) := by decide +kernel
theorem dX5_step_30 : decode cX5_step 30 = .ok (.if_icmp .ne 16, 3) := by decide +kernel
theorem dX5_step_33 : decode cX5_step 33 = .ok (.aload_n 0, 1) := by decide +kernel
theorem dX5_step_34 : decode cX5_step 34 = .ok (.dup, 1) := by decide +kernel
theorem dX5_step_35 : decode cX5_step 35 = .ok (.getfield 22, 3) := by decide +kernel
theorem dX5_step_38 : decode cX5_step 38 = .ok (.iconst 1, 1) := by decide +kernel
theorem dX5_step_39 : decode cX5_step 39 = .ok (.iadd, 1) := by decide +kernel
theorem dX5_step_40 : decode cX5_step 40 = .ok (.putfield 22, 3) := by decide +kernel
theorem dX5_step_43 : decode cX5_step 43 = .ok (.goto (-35), 3) := by decide +kernel
theorem dX5_step_46 : decode cX5_step 46 = .ok (.aload_n 0, 1) := by decide +kernel
theorem dX5_step_47 : decode cX5_step 47 = .ok (.aload_n 0, 1) := by decide +kernel
theorem dX5_step_48 : decode cX5_step 48 = .ok (.getfield 22, 3) := by decide +kernel
theorem dX5_step_51 : decode cX5_step 51 = .ok (.putfield 25, 3) := by decide +kernel
theorem dX5_step_54 : decode cX5_step 54 = .ok (.aload_n 0, 1) := by decide +kernel
theorem dX5_step_55 : decode cX5_step 55 = .ok (.getfield 22, 3) := by decide +kernel
theorem dX5_step_58 : decode cX5_step 58 = .ok (.aload_n 0, 1) := by decide +kernel
theorem dX5_step_59 : decode cX5_step 59 = .ok (.getfield 15, 3) := by decide +kernel
theorem dX5_step_62 : decode cX5_step 62 = .ok (.if_icmp .lt 11, 3) := by decide +kernel
theorem dX5_step_65 : decode cX5_step 65 = .ok (.aload_n 0, 1) := by decide +kernel
theorem dX5_step_66 : decode cX5_step 66 = .ok (.iconst 0, 1) := by decide +kernel
theorem dX5_step_67 : decode cX5_step 67 = .ok (.putfield 19, 3) := by decide +kernel
theorem dX5_step_70 : decode cX5_step 70 = .ok (.goto 72, 3) := by decide +kernel
theorem dX5_step_73 : decode cX5_step 73 = .ok (.aload_n 0, 1) := by decide +kernel
theorem dX5_step_74 : decode cX5_step 74 = .ok (.aload_n 0, 1) := by decide +kernel
theorem dX5_step_75 : decode cX5_step 75 = .ok (.getfield 22, 3) := by decide +kernel
theorem dX5_step_78 : decode cX5_step 78 = .ok (.invokevirtual 111, 3) := by decide +kernel
theorem dX5_step_81 : decode cX5_step 81 = .ok (.ifCond .eq 10, 3) := by decide +kernel
theorem dX5_step_84 : decode cX5_step 84 = .ok (.aload_n 0, 1) := by decide +kernel
theorem dX5_step_85 : decode cX5_step 85 = .ok (.invokevirtual 114, 3) := by decide +kernel
theorem dX5_step_88 : decode cX5_step 88 = .ok (.goto 54, 3) := by decide +kernel
theorem dX5_step_91 : decode cX5_step 91 = .ok (.aload_n 0, 1) := by decide +kernel
theorem dX5_step_92 : decode cX5_step 92 = .ok (.aload_n 0, 1) := by decide +kernel
theorem dX5_step_93 : decode cX5_step 93 = .ok (.getfield 22, 3) := by decide +kernel
theorem dX5_step_96 : decode cX5_step 96 = .ok (.invokevirtual 117, 3) := by decide +kernel
theorem dX5_step_99 : decode cX5_step 99 = .ok (.ifCond .eq 10, 3) := by decide +kernel
theorem dX5_step_102 : decode cX5_step 102 = .ok (.aload_n 0, 1) := by decide +kernel
theorem dX5_step_103 : decode cX5_step 103 = .ok (.invokevirtual 120, 3) := by decide +kernel
theorem dX5_step_106 : decode cX5_step 106 = .ok (.goto 36, 3) := by decide +kernel
theorem dX5_step_109 : decode cX5_step 109 = .ok (.aload_n 0, 1) := by decide +kernel
theorem dX5_step_110 : decode cX5_step 110 = .ok (.dup, 1) := by decide +kernel
theorem dX5_step_111 : decode cX5_step 111 = .ok (.getfield 25, 3) := by decide +kernel
theorem dX5_step_114 : decode cX5_step 114 = .ok (.iconst 1, 1) := by decide +kernel
theorem dX5_step_115 : decode cX5_step 115 = .ok (.iadd, 1) := by decide +kernel
theorem dX5_step_116 : decode cX5_step 116 = .ok (.putfield 25, 3) := by decide +kernel
theorem dX5_step_119 : decode cX5_step 119 = .ok (.aload_n 0, 1) := by decide +kernel
theorem dX5_step_120 : decode cX5_step 120 = .ok (.aload_n 0, 1) := by decide +kernel
theorem dX5_step_121 : decode cX5_step 121 = .ok (.getfield 9, 3) := by decide +kernel
theorem dX5_step_124 : decode cX5_step 124 = .ok (.aload_n 0, 1) := by decide +kernel
theorem dX5_step_125 : decode cX5_step 125 = .ok (.getfield 22, 3) := by decide +kernel
theorem dX5_step_128 : decode cX5_step 128 = .ok (.iaload, 1) := by decide +kernel
theorem dX5_step_129 : decode cX5_step 129 = .ok (.bipush 59, 2) := by decide +kernel
theorem dX5_step_131 : decode cX5_step 131 = .ok (.if_icmp .ne 7, 3) := by decide +kernel
theorem dX5_step_134 : decode cX5_step 134 = .ok (.iconst 3, 1) := by decide +kernel
theorem dX5_step_135 : decode cX5_step 135 = .ok (.goto 4, 3) := by decide +kernel
theorem dX5_step_138 : decode cX5_step 138 = .ok (.iconst 4, 1) := by decide +kernel
theorem dX5_step_139 : decode cX5_step 139 = .ok (.putfield 19, 3) := by decide +kernel
theorem dX5_step_142 : decode cX5_step 142 = .ok (.return_, 1) := by decide +kernel
theorem dX5_takeWord_0 : decode cX5_takeWord 0 = .ok (.aload_n 0, 1) := by decide +kernel
theorem dX5_takeWord_1 : decode cX5_takeWord 1 = .ok (.getfield 25, 3) := by decide +kernel
theorem dX5_takeWord_4 : decode cX5_takeWord 4 = .ok (.aload_n 0, 1) := by decide +kernel
theorem dX5_takeWord_5 : decode cX5_takeWord 5 = .ok (.getfield 15, 3) := by decide +kernel
theorem dX5_takeWord_8 : decode cX5_takeWord 8 = .ok (.if_icmp .ge 27, 3) := by decide +kernel
theorem dX5_takeWord_11 : decode cX5_takeWord 11 = .ok (.aload_n 0, 1) := by decide +kernel
theorem dX5_takeWord_12 : decode cX5_takeWord 12 = .ok (.aload_n 0, 1) := by decide +kernel
theorem dX5_takeWord_13 : decode cX5_takeWord 13 = .ok (.getfield 25, 3) := by decide +kernel
theorem dX5_takeWord_16 : decode cX5_takeWord 16 = .ok (.invokevirtual 111, 3) := by decide +kernel
theorem dX5_takeWord_19 : decode cX5_takeWord 19 = .ok (.ifCond .eq 16, 3) := by decide +kernel
theorem dX5_takeWord_22 : decode cX5_takeWord 22 = .ok (.aload_n 0, 1) := by decide +kernel
theorem dX5_takeWord_23 : decode cX5_takeWord 23 = .ok (.dup, 1) := by decide +kernel
theorem dX5_takeWord_24 : decode cX5_takeWord 24 = .ok (.getfield 25, 3) := by decide +kernel
theorem dX5_takeWord_27 : decode cX5_takeWord 27 = .ok (.iconst 1, 1) := by decide +kernel
theorem dX5_takeWord_28 : decode cX5_takeWord 28 = .ok (.iadd, 1) := by decide +kernel
theorem dX5_takeWord_29 : decode cX5_takeWord 29 = .ok (.putfield 25, 3) := by decide +kernel
theorem dX5_takeWord_32 : decode cX5_takeWord 32 = .ok (.goto (-32), 3) := by decide +kernel
theorem dX5_takeWord_35 : decode cX5_takeWord 35 = .ok (.aload_n 0, 1) := by decide +kernel
theorem dX5_takeWord_36 : decode cX5_takeWord 36 = .ok (.iconst 1, 1) := by decide +kernel
theorem dX5_takeWord_37 : decode cX5_takeWord 37 = .ok (.putfield 19, 3) := by decide +kernel
theorem dX5_takeWord_40 : decode cX5_takeWord 40 = .ok (.return_, 1) := by decide +kernel
theorem dX5_takeNumber_0 : decode cX5_takeNumber 0 = .ok (.aload_n 0, 1) := by decide +kernel
theorem dX5_takeNumber_1 : decode cX5_takeNumber 1 = .ok (.getfield 25, 3) := by decide +kernel
theorem dX5_takeNumber_4 : decode cX5_takeNumber 4 = .ok (.aload_n 0, 1) := by decide +kernel
theorem dX5_takeNumber_5 : decode cX5_takeNumber 5 = .ok (.getfield 15, 3) := by decide +kernel
theorem dX5_takeNumber_8 : decode cX5_takeNumber 8 = .ok (.if_icmp .ge 27, 3) := by decide +kernel
theorem dX5_takeNumber_11 : decode cX5_takeNumber 11 = .ok (.aload_n 0, 1) := by decide +kernel
theorem dX5_takeNumber_12 : decode cX5_takeNumber 12 = .ok (.aload_n 0, 1) := by decide +kernel
theorem dX5_takeNumber_13 : decode cX5_takeNumber 13 = .ok (.getfield 25, 3) := by decide +kernel
theorem dX5_takeNumber_16 : decode cX5_takeNumber 16 = .ok (.invokevirtual 117, 3) := by decide +kernel
theorem dX5_takeNumber_19 : decode cX5_takeNumber 19 = .ok (.ifCond .eq 16, 3) := by decide +kernel
theorem dX5_takeNumber_22 : decode cX5_takeNumber 22 = .ok (.aload_n 0, 1) := by decide +kernel
theorem dX5_takeNumber_23 : decode cX5_takeNumber 23 = .ok (.dup, 1) := by decide +kernel
theorem dX5_takeNumber_24 : decode cX5_takeNumber 24 = .ok (.getfield 25, 3) := by decide +kernel
theorem dX5_takeNumber_27 : decode cX5_takeNumber 27 = .ok (.iconst 1, 1) := by decide +kernel
theorem dX5_takeNumber_28 : decode cX5_takeNumber 28 = .ok (.iadd, 1) := by decide +kernel
theorem dX5_takeNumber_29 : decode cX5_takeNumber 29 = .ok (.putfield 25, 3) := by decide +kernel
theorem dX5_takeNumber_32 : decode cX5_takeNumber 32 = .ok (.goto (-32), 3) := by decide +kernel
theorem dX5_takeNumber_35 : decode cX5_takeNumber 35 = .ok (.aload_n 0, 1) := by decide +kernel
theorem dX5_takeNumber_36 : decode cX5_takeNumber 36 = .ok (.getfield 9, 3) := by decide +kernel
theorem dX5_takeNumber_39 : decode cX5_takeNumber 39 = .ok (.aload_n 0, 1) := by decide +kernel
theorem dX5_takeNumber_40 : decode cX5_takeNumber 40 = .ok (.getfield 22, 3) := by decide +kernel
theorem dX5_takeNumber_43 : decode cX5_takeNumber 43 = .ok (.iaload, 1) := by decide +kernel
theorem dX5_takeNumber_44 : decode cX5_takeNumber 44 = .ok (.bipush 48, 2) := by decide +kernel
theorem dX5_takeNumber_46 : decode cX5_takeNumber 46 = .ok (.if_icmp .ne 20, 3) := by decide +kernel
theorem dX5_takeNumber_49 : decode cX5_takeNumber 49 = .ok (.aload_n 0, 1) := by decide +kernel
theorem dX5_takeNumber_50 : decode cX5_takeNumber 50 = .ok (.getfield 25, 3) := by decide +kernel
theorem dX5_takeNumber_53 : decode cX5_takeNumber 53 = .ok (.aload_n 0, 1) := by decide +kernel
theorem dX5_takeNumber_54 : decode cX5_takeNumber 54 = .ok (.getfield 22, 3) := by decide +kernel
theorem dX5_takeNumber_57 : decode cX5_takeNumber 57 = .ok (.isub, 1) := by decide +kernel
theorem dX5_takeNumber_58 : decode cX5_takeNumber 58 = .ok (.iconst 1, 1) := by decide +kernel
theorem dX5_takeNumber_59 : decode cX5_takeNumber 59 = .ok (.if_icmp .le 7, 3) := by decide +kernel
theorem dX5_takeNumber_62 : decode cX5_takeNumber 62 = .ok (.iconst 1, 1) := by decide +kernel
theorem dX5_takeNumber_63 : decode cX5_takeNumber 63 = .ok (.goto 4, 3) := by decide +kernel
theorem dX5_takeNumber_66 : decode cX5_takeNumber 66 = .ok (.iconst 0, 1) := by decide +kernel
theorem dX5_takeNumber_67 : decode cX5_takeNumber 67 = .ok (.istore_n 1, 1) := by decide +kernel
theorem dX5_takeNumber_68 : decode cX5_takeNumber 68 = .ok (.aload_n 0, 1) := by decide +kernel
theorem dX5_takeNumber_69 : decode cX5_takeNumber 69 = .ok (.iload_n 1, 1) := by decide +kernel
theorem dX5_takeNumber_70 : decode cX5_takeNumber 70 = .ok (.ifCond .ne 16, 3) := by decide +kernel
theorem dX5_takeNumber_73 : decode cX5_takeNumber 73 = .ok (.aload_n 0, 1) := by decide +kernel
theorem dX5_takeNumber_74 : decode cX5_takeNumber 74 = .ok (.getfield 25, 3) := by decide +kernel
theorem dX5_takeNumber_77 : decode cX5_takeNumber 77 = .ok (.aload_n 0, 1) := by decide +kernel
theorem dX5_takeNumber_78 : decode cX5_takeNumber 78 = .ok (.getfield 22, 3) := by decide +kernel
theorem dX5_takeNumber_81 : decode cX5_takeNumber 81 = .ok (.isub, 1) := by decide +kernel
theorem dX5_takeNumber_82 : decode cX5_takeNumber 82 = .ok (.iconst 2, 1) := by decide +kernel
theorem dX5_takeNumber_83 : decode cX5_takeNumber 83 = .ok (.if_icmp .le 7, 3) := by decide +kernel
theorem dX5_takeNumber_86 : decode cX5_takeNumber 86 = .ok (.iconst 4, 1) := by decide +kernel
theorem dX5_takeNumber_87 : decode cX5_takeNumber 87 = .ok (.goto 4, 3) := by decide +kernel
theorem dX5_takeNumber_90 : decode cX5_takeNumber 90 = .ok (.iconst 2, 1) := by decide +kernel
theorem dX5_takeNumber_91 : decode cX5_takeNumber 91 = .ok (.putfield 19, 3) := by decide +kernel
theorem dX5_takeNumber_94 : decode cX5_takeNumber 94 = .ok (.return_, 1) := by decide +kernel
theorem dX5_isLetter_0 : decode cX5_isLetter 0 = .ok (.aload_n 0, 1) := by decide +kernel
theorem dX5_isLetter_1 : decode cX5_isLetter 1 = .ok (.getfield 9, 3) := by decide +kernel
theorem dX5_isLetter_4 : decode cX5_isLetter 4 = .ok (.iload_n 1, 1) := by decide +kernel
theorem dX5_isLetter_5 : decode cX5_isLetter 5 = .ok (.iaload, 1) := by decide +kernel
theorem dX5_isLetter_6 : decode cX5_isLetter 6 = .ok (.bipush 97, 2) := by decide +kernel
theorem dX5_isLetter_8 : decode cX5_isLetter 8 = .ok (.if_icmp .lt 18, 3) := by decide +kernel
theorem dX5_isLetter_11 : decode cX5_isLetter 11 = .ok (.aload_n 0, 1) := by decide +kernel
theorem dX5_isLetter_12 : decode cX5_isLetter 12 = .ok (.getfield 9, 3) := by decide +kernel
theorem dX5_isLetter_15 : decode cX5_isLetter 15 = .ok (.iload_n 1, 1) := by decide +kernel
theorem dX5_isLetter_16 : decode cX5_isLetter 16 = .ok (.iaload, 1) := by decide +kernel
theorem dX5_isLetter_17 : decode cX5_isLetter 17 = .ok (.bipush 122, 2) := by decide +kernel
theorem dX5_isLetter_19 : decode cX5_isLetter 19 = .ok (.if_icmp .gt 7, 3) := by decide +kernel
theorem dX5_isLetter_22 : decode cX5_isLetter 22 = .ok (.iconst 1, 1) := by decide +kernel
theorem dX5_isLetter_23 : decode cX5_isLetter 23 = .ok (.goto 4, 3) := by decide +kernel
theorem dX5_isLetter_26 : decode cX5_isLetter 26 = .ok (.iconst 0, 1) := by decide +kernel
theorem dX5_isLetter_27 : decode cX5_isLetter 27 = .ok (.ireturn, 1) := by decide +kernel
theorem dX5_isDigit_0 : decode cX5_isDigit 0 = .ok (.aload_n 0, 1) := by decide +kernel
theorem dX5_isDigit_1 : decode cX5_isDigit 1 = .ok (.getfield 9, 3) := by decide +kernel
theorem dX5_isDigit_4 : decode cX5_isDigit 4 = .ok (.iload_n 1, 1) := by decide +kernel
theorem dX5_isDigit_5 : decode cX5_isDigit 5 = .ok (.iaload, 1) := by decide +kernel
theorem dX5_isDigit_6 : decode cX5_isDigit 6 = .ok (.bipush 48, 2) := by decide +kernel
theorem dX5_isDigit_8 : decode cX5_isDigit 8 = .ok (.if_icmp .lt 18, 3) := by decide +kernel
theorem dX5_isDigit_11 : decode cX5_isDigit 11 = .ok (.aload_n 0, 1) := by decide +kernel
theorem dX5_isDigit_12 : decode cX5_isDigit 12 = .ok (.getfield 9, 3) := by decide +kernel
theorem dX5_isDigit_15 : decode cX5_isDigit 15 = .ok (.iload_n 1, 1) := by decide +kernel
theorem dX5_isDigit_16 : decode cX5_isDigit 16 = .ok (.iaload, 1) := by decide +kernel
theorem dX5_isDigit_17 : decode cX5_isDigit 17 = .ok (.bipush 57, 2) := by decide +kernel
theorem dX5_isDigit_19 : decode cX5_isDigit 19 = .ok (.if_icmp .gt 7, 3) := by decide +kernel
theorem dX5_isDigit_22 : decode cX5_isDigit 22 = .ok (.iconst 1, 1) := by decide +kernel
theorem dX5_isDigit_23 : decode cX5_isDigit 23 = .ok (.goto 4, 3) := by decide +kernel
theorem dX5_isDigit_26 : decode cX5_isDigit 26 = .ok (.iconst 0, 1) := by decide +kernel
theorem dX5_isDigit_27 : decode cX5_isDigit 27 = .ok (.ireturn, 1) := by decide +kernel
