theorem dX0_init_0 : decode cX0_init 0 = .ok (.aload_n 0, 1) := by decide +kernel
theorem dX0_init_1 : decode cX0_init 1 = .ok (.invokespecial 3, 3) := by decide +kernel
theorem dX0_init_4 : decode cX0_init 4 = .ok (.aload_n 0, 1) := by decide +kernel
theorem dX0_init_5 : decode cX0_init 5 = .ok (.iconst 5, 1) := by decide +kernel
theorem dX0_init_6 : decode cX0_init 6 = .ok (.newarray .int, 2) := by decide +kernel
theorem dX0_init_8 : decode cX0_init 8 = .ok (.putfield 9, 3) := by decide +kernel
theorem dX0_init_11 : decode cX0_init 11 = .ok (.aload_n 0, 1) := by decide +kernel
theorem dX0_init_12 : decode cX0_init 12 = .ok (.bipush 6, 2) := by decide +kernel
theorem dX0_init_14 : decode cX0_init 14 = .ok (.newarray .int, 2) := by decide +kernel
theorem dX0_init_16 : decode cX0_init 16 = .ok (.putfield 15, 3) := by decide +kernel
theorem dX0_init_19 : decode cX0_init 19 = .ok (.aload_n 0, 1) := by decide +kernel
theorem dX0_init_20 : decode cX0_init 20 = .ok (.bipush 24, 2) := by decide +kernel
theorem dX0_init_22 : decode cX0_init 22 = .ok (.newarray .int, 2) := by decide +kernel
theorem dX0_init_24 : decode cX0_init 24 = .ok (.putfield 18, 3) := by decide +kernel
theorem dX0_init_27 : decode cX0_init 27 = .ok (.aload_n 0, 1) := by decide +kernel
theorem dX0_init_28 : decode cX0_init 28 = .ok (.iconst 3, 1) := by decide +kernel
theorem dX0_init_29 : decode cX0_init 29 = .ok (.newarray .int, 2) := by decide +kernel
theorem dX0_init_31 : decode cX0_init 31 = .ok (.putfield 21, 3) := by decide +kernel
theorem dX0_init_34 : decode cX0_init 34 = .ok (.aload_n 0, 1) := by decide +kernel
theorem dX0_init_35 : decode cX0_init 35 = .ok (.iconst 3, 1) := by decide +kernel
theorem dX0_init_36 : decode cX0_init 36 = .ok (.newarray .int, 2) := by decide +kernel
theorem dX0_init_38 : decode cX0_init 38 = .ok (.putfield 24, 3) := by decide +kernel
theorem dX0_init_41 : decode cX0_init 41 = .ok (.aload_n 0, 1) := by decide +kernel
theorem dX0_init_42 : decode cX0_init 42 = .ok (.iconst 0, 1) := by decide +kernel
theorem dX0_init_43 : decode cX0_init 43 = .ok (.putfield 27, 3) := by decide +kernel
theorem dX0_init_46 : decode cX0_init 46 = .ok (.aload_n 0, 1) := by decide +kernel
theorem dX0_init_47 : decode cX0_init 47 = .ok (.iconst 0, 1) := by decide +kernel
theorem dX0_init_48 : decode cX0_init 48 = .ok (.putfield 31, 3) := by decide +kernel
theorem dX0_init_51 : decode cX0_init 51 = .ok (.aload_n 0, 1) := by decide +kernel
theorem dX0_init_52 : decode cX0_init 52 = .ok (.iconst 0, 1) := by decide +kernel
theorem dX0_init_53 : decode cX0_init 53 = .ok (.putfield 34, 3) := by decide +kernel
theorem dX0_init_56 : decode cX0_init 56 = .ok (.aload_n 0, 1) := by decide +kernel
theorem dX0_init_57 : decode cX0_init 57 = .ok (.iconst 0, 1) := by decide +kernel
theorem dX0_init_58 : decode cX0_init 58 = .ok (.putfield 37, 3) := by decide +kernel
theorem dX0_init_61 : decode cX0_init 61 = .ok (.aload_n 0, 1) := by decide +kernel
theorem dX0_init_62 : decode cX0_init 62 = .ok (.iconst 3, 1) := by decide +kernel
theorem dX0_init_63 : decode cX0_init 63 = .ok (.putfield 40, 3) := by decide +kernel
theorem dX0_init_66 : decode cX0_init 66 = .ok (.return_, 1) := by decide +kernel
theorem dX0_startAnew_0 : decode cX0_startAnew 0 = .ok (.aload_n 0, 1) := by decide +kernel
theorem dX0_startAnew_1 : decode cX0_startAnew 1 = .ok (.iconst 0, 1) := by decide +kernel
theorem dX0_startAnew_2 : decode cX0_startAnew 2 = .ok (.putfield 27, 3) := by decide +kernel
theorem dX0_startAnew_5 : decode cX0_startAnew 5 = .ok (.aload_n 0, 1) := by decide +kernel
theorem dX0_startAnew_6 : decode cX0_startAnew 6 = .ok (.iconst 0, 1) := by decide +kernel
theorem dX0_startAnew_7 : decode cX0_startAnew 7 = .ok (.putfield 31, 3) := by decide +kernel
theorem dX0_startAnew_10 : decode cX0_startAnew 10 = .ok (.aload_n 0, 1) := by decide +kernel
theorem dX0_startAnew_11 : decode cX0_startAnew 11 = .ok (.iconst 0, 1) := by decide +kernel
theorem dX0_startAnew_12 : decode cX0_startAnew 12 = .ok (.putfield 34, 3) := by decide +kernel
theorem dX0_startAnew_15 : decode cX0_startAnew 15 = .ok (.aload_n 0, 1) := by decide +kernel
theorem dX0_startAnew_16 : decode cX0_startAnew 16 = .ok (.iconst 0, 1) := by decide +kernel
theorem dX0_startAnew_17 : decode cX0_startAnew 17 = .ok (.putfield 37, 3) := by decide +kernel
theorem dX0_startAnew_20 : decode cX0_startAnew 20 = .ok (.aload_n 0, 1) := by decide +kernel
theorem dX0_startAnew_21 : decode cX0_startAnew 21 = .ok (.iconst 3, 1) := by decide +kernel
theorem dX0_startAnew_22 : decode cX0_startAnew 22 = .ok (.putfield 40, 3) := by decide +kernel
theorem dX0_startAnew_25 : decode cX0_startAnew 25 = .ok (.return_, 1) := by decide +kernel
theorem dX0_hasLeaf_0 : decode cX0_hasLeaf 0 = .ok (.iload_n 1, 1) := by decide +kernel
theorem dX0_hasLeaf_1 : decode cX0_hasLeaf 1 = .ok (.ifCond .lt 15, 3) := by decide +kernel
theorem dX0_hasLeaf_4 : decode cX0_hasLeaf 4 = .ok (.iload_n 1, 1) := by decide +kernel
theorem dX0_hasLeaf_5 : decode cX0_hasLeaf 5 = .ok (.aload_n 0, 1) := by decide +kernel
theorem dX0_hasLeaf_6 : decode cX0_hasLeaf 6 = .ok (.getfield 27, 3) := by decide +kernel
theorem dX0_hasLeaf_9 : decode cX0_hasLeaf 9 = .ok (.if_icmp .ge 7, 3) := by decide +kernel
theorem dX0_hasLeaf_12 : decode cX0_hasLeaf 12 = .ok (.iconst 1, 1) := by decide +kernel
theorem dX0_hasLeaf_13 : decode cX0_hasLeaf 13 = .ok (.goto 4, 3) := by decide +kernel
theorem dX0_hasLeaf_16 : decode cX0_hasLeaf 16 = .ok (.iconst 0, 1) := by decide +kernel
theorem dX0_hasLeaf_17 : decode cX0_hasLeaf 17 = .ok (.ireturn, 1) := by decide +kernel
theorem dX0_hasGoer_0 : decode cX0_hasGoer 0 = .ok (.iload_n 1, 1) := by decide +kernel
theorem dX0_hasGoer_1 : decode cX0_hasGoer 1 = .ok (.ifCond .lt 15, 3) := by decide +kernel
theorem dX0_hasGoer_4 : decode cX0_hasGoer 4 = .ok (.iload_n 1, 1) := by decide +kernel
theorem dX0_hasGoer_5 : decode cX0_hasGoer 5 = .ok (.aload_n 0, 1) := by decide +kernel
theorem dX0_hasGoer_6 : decode cX0_hasGoer 6 = .ok (.getfield 31, 3) := by decide +kernel
theorem dX0_hasGoer_9 : decode cX0_hasGoer 9 = .ok (.if_icmp .ge 7, 3) := by decide +kernel
theorem dX0_hasGoer_12 : decode cX0_hasGoer 12 = .ok (.iconst 1, 1) := by decide +kernel
theorem dX0_hasGoer_13 : decode cX0_hasGoer 13 = .ok (.goto 4, 3) := by decide +kernel
theorem dX0_hasGoer_16 : decode cX0_hasGoer 16 = .ok (.iconst 0, 1) := by decide +kernel
theorem dX0_hasGoer_17 : decode cX0_hasGoer 17 = .ok (.ireturn, 1) := by decide +kernel
theorem dX0_counts_0 : decode cX0_counts 0 = .ok (.aload_n 0, 1) := by decide +kernel
theorem dX0_counts_1 : decode cX0_counts 1 = .ok (.iload_n 2, 1) := by decide +kernel
theorem dX0_counts_2 : decode cX0_counts 2 = .ok (.invokevirtual 43, 3) := by decide +kernel
theorem dX0_counts_5 : decode cX0_counts 5 = .ok (.ifCond .eq 20, 3) := by decide +kernel
theorem dX0_counts_8 : decode cX0_counts 8 = .ok (.aload_n 0, 1) := by decide +kernel
theorem dX0_counts_9 : decode cX0_counts 9 = .ok (.getfield 9, 3) := by decide +kernel
theorem dX0_counts_12 : decode cX0_counts 12 = .ok (.iload_n 2, 1) := by decide +kernel
theorem dX0_counts_13 : decode cX0_counts 13 = .ok (.iaload, 1) := by decide +kernel
theorem dX0_counts_14 : decode cX0_counts 14 = .ok (.iload_n 1, 1) := by decide +kernel
theorem dX0_counts_15 : decode cX0_counts 15 = .ok (.invokestatic 47, 3) := by decide +kernel
theorem dX0_counts_18 : decode cX0_counts 18 = .ok (.ifCond .eq 7, 3) := by decide +kernel
theorem dX0_counts_21 : decode cX0_counts 21 = .ok (.iconst 1, 1) := by decide +kernel
theorem dX0_counts_22 : decode cX0_counts 22 = .ok (.goto 4, 3) := by decide +kernel
theorem dX0_counts_25 : decode cX0_counts 25 = .ok (.iconst 0, 1) := by decide +kernel
theorem dX0_counts_26 : decode cX0_counts 26 = .ok (.ireturn, 1) := by decide +kernel
theorem dX0_goodTastes_0 : decode cX0_goodTastes 0 = .ok (.aload_n 0, 1) := by decide +kernel
theorem dX0_goodTastes_1 : decode cX0_goodTastes 1 = .ok (.iload_n 1, 1) := by decide +kernel
theorem dX0_goodTastes_2 : decode cX0_goodTastes 2 = .ok (.invokevirtual 43, 3) := by decide +kernel
theorem dX0_goodTastes_5 : decode cX0_goodTastes 5 = .ok (.ifCond .eq 27, 3) := by decide +kernel
theorem dX0_goodTastes_8 : decode cX0_goodTastes 8 = .ok (.aload_n 0, 1) := by decide +kernel
theorem dX0_goodTastes_9 : decode cX0_goodTastes 9 = .ok (.iload_n 2, 1) := by decide +kernel
theorem dX0_goodTastes_10 : decode cX0_goodTastes 10 = .ok (.invokevirtual 51, 3) := by decide +kernel
theorem dX0_goodTastes_13 : decode cX0_goodTastes 13 = .ok (.ifCond .eq 19, 3) := by decide +kernel
theorem dX0_goodTastes_16 : decode cX0_goodTastes 16 = .ok (.aload_n 0, 1) := by decide +kernel
theorem dX0_goodTastes_17 : decode cX0_goodTastes 17 = .ok (.getfield 9, 3) := by decide +kernel
theorem dX0_goodTastes_20 : decode cX0_goodTastes 20 = .ok (.iload_n 1, 1) := by decide +kernel
theorem dX0_goodTastes_21 : decode cX0_goodTastes 21 = .ok (.iaload, 1) := by decide +kernel
theorem dX0_goodTastes_22 : decode cX0_goodTastes 22 = .ok (.aload_n 0, 1) := by decide +kernel
theorem dX0_goodTastes_23 : decode cX0_goodTastes 23 = .ok (.getfield 15, 3) := by decide +kernel
theorem dX0_goodTastes_26 : decode cX0_goodTastes 26 = .ok (.iload_n 2, 1) := by decide +kernel
theorem dX0_goodTastes_27 : decode cX0_goodTastes 27 = .ok (.iaload, 1) := by decide +kernel
theorem dX0_goodTastes_28 : decode cX0_goodTastes 28 = .ok (.iand, 1) := by decide +kernel
theorem dX0_goodTastes_29 : decode cX0_goodTastes 29 = .ok (.goto 4, 3) := by decide +kernel
theorem dX0_goodTastes_32 : decode cX0_goodTastes 32 = .ok (.iconst 0, 1) := by decide +kernel
theorem dX0_goodTastes_33 : decode cX0_goodTastes 33 = .ok (.ireturn, 1) := by decide +kernel
theorem dX0_goersLetBy_0 : decode cX0_goersLetBy 0 = .ok (.iconst 0, 1) := by decide +kernel
theorem dX0_goersLetBy_1 : decode cX0_goersLetBy 1 = .ok (.istore_n 2, 1) := by decide +kernel
theorem dX0_goersLetBy_2 : decode cX0_goersLetBy 2 = .ok (.iconst 0, 1) := by decide +kernel
theorem dX0_goersLetBy_3 : decode cX0_goersLetBy 3 = .ok (.istore_n 3, 1) := by decide +kernel
theorem dX0_goersLetBy_4 : decode cX0_goersLetBy 4 = .ok (.iload_n 3, 1) := by decide +kernel
theorem dX0_goersLetBy_5 : decode cX0_goersLetBy 5 = .ok (.aload_n 0, 1) := by decide +kernel
theorem dX0_goersLetBy_6 : decode cX0_goersLetBy 6 = .ok (.getfield 31, 3) := by decide +kernel
theorem dX0_goersLetBy_9 : decode cX0_goersLetBy 9 = .ok (.if_icmp .ge 24, 3) := by decide +kernel
theorem dX0_goersLetBy_12 : decode cX0_goersLetBy 12 = .ok (.aload_n 0, 1) := by decide +kernel
theorem dX0_goersLetBy_13 : decode cX0_goersLetBy 13 = .ok (.iload_n 1, 1) := by decide +kernel
theorem dX0_goersLetBy_14 : decode cX0_goersLetBy 14 = .ok (.iload_n 3, 1) := by decide +kernel
theorem dX0_goersLetBy_15 : decode cX0_goersLetBy 15 = .ok (.invokevirtual 54, 3) := by decide +kernel
theorem dX0_goersLetBy_18 : decode cX0_goersLetBy 18 = .ok (.ifCond .eq 9, 3) := by decide +kernel
theorem dX0_goersLetBy_21 : decode cX0_goersLetBy 21 = .ok (.iload_n 2, 1) := by decide +kernel
theorem dX0_goersLetBy_22 : decode cX0_goersLetBy 22 = .ok (.iconst 1, 1) := by decide +kernel
theorem dX0_goersLetBy_23 : decode cX0_goersLetBy 23 = .ok (.iload_n 3, 1) := by decide +kernel
theorem dX0_goersLetBy_24 : decode cX0_goersLetBy 24 = .ok (.ishl, 1) := by decide +kernel
theorem dX0_goersLetBy_25 : decode cX0_goersLetBy 25 = .ok (.ior, 1) := by decide +kernel
theorem dX0_goersLetBy_26 : decode cX0_goersLetBy 26 = .ok (.istore_n 2, 1) := by decide +kernel
theorem dX0_goersLetBy_27 : decode cX0_goersLetBy 27 = .ok (.iinc 3 1, 3) := by decide +kernel
theorem dX0_goersLetBy_30 : decode cX0_goersLetBy 30 = .ok (.goto (-26), 3) := by decide +kernel
theorem dX0_goersLetBy_33 : decode cX0_goersLetBy 33 = .ok (.iload_n 2, 1) := by decide +kernel
theorem dX0_goersLetBy_34 : decode cX0_goersLetBy 34 = .ok (.ireturn, 1) := by decide +kernel
theorem dX0_leavesThatLet_0 : decode cX0_leavesThatLet 0 = .ok (.iconst 0, 1) := by decide +kernel
theorem dX0_leavesThatLet_1 : decode cX0_leavesThatLet 1 = .ok (.istore_n 2, 1) := by decide +kernel
theorem dX0_leavesThatLet_2 : decode cX0_leavesThatLet 2 = .ok (.iconst 0, 1) := by decide +kernel
theorem dX0_leavesThatLet_3 : decode cX0_leavesThatLet 3 = .ok (.istore_n 3, 1) := by decide +kernel
theorem dX0_leavesThatLet_4 : decode cX0_leavesThatLet 4 = .ok (.iload_n 3, 1) := by decide +kernel
theorem dX0_leavesThatLet_5 : decode cX0_leavesThatLet 5 = .ok (.aload_n 0, 1) := by decide +kernel
theorem dX0_leavesThatLet_6 : decode cX0_leavesThatLet 6 = .ok (.getfield 27, 3) := by decide +kernel
theorem dX0_leavesThatLet_9 : decode cX0_leavesThatLet 9 = .ok (.if_icmp .ge 24, 3) := by decide +kernel
theorem dX0_leavesThatLet_12 : decode cX0_leavesThatLet 12 = .ok (.aload_n 0, 1) := by decide +kernel
theorem dX0_leavesThatLet_13 : decode cX0_leavesThatLet 13 = .ok (.iload_n 3, 1) := by decide +kernel
theorem dX0_leavesThatLet_14 : decode cX0_leavesThatLet 14 = .ok (.iload_n 1, 1) := by decide +kernel
theorem dX0_leavesThatLet_15 : decode cX0_leavesThatLet 15 = .ok (.invokevirtual 54, 3) := by decide +kernel
theorem dX0_leavesThatLet_18 : decode cX0_leavesThatLet 18 = .ok (.ifCond .eq 9, 3) := by decide +kernel
theorem dX0_leavesThatLet_21 : decode cX0_leavesThatLet 21 = .ok (.iload_n 2, 1) := by decide +kernel
theorem dX0_leavesThatLet_22 : decode cX0_leavesThatLet 22 = .ok (.iconst 1, 1) := by decide +kernel
theorem dX0_leavesThatLet_23 : decode cX0_leavesThatLet 23 = .ok (.iload_n 3, 1) := by decide +kernel
theorem dX0_leavesThatLet_24 : decode cX0_leavesThatLet 24 = .ok (.ishl, 1) := by decide +kernel
theorem dX0_leavesThatLet_25 : decode cX0_leavesThatLet 25 = .ok (.ior, 1) := by decide +kernel
theorem dX0_leavesThatLet_26 : decode cX0_leavesThatLet 26 = .ok (.istore_n 2, 1) := by decide +kernel
theorem dX0_leavesThatLet_27 : decode cX0_leavesThatLet 27 = .ok (.iinc 3 1, 3) := by decide +kernel
theorem dX0_leavesThatLet_30 : decode cX0_leavesThatLet 30 = .ok (.goto (-26), 3) := by decide +kernel
theorem dX0_leavesThatLet_33 : decode cX0_leavesThatLet 33 = .ok (.iload_n 2, 1) := by decide +kernel
theorem dX0_leavesThatLet_34 : decode cX0_leavesThatLet 34 = .ok (.ireturn, 1) := by decide +kernel
theorem dX0_leafBehind_0 : decode cX0_leafBehind 0 = .ok (.aload_n 0, 1) := by decide +kernel
theorem dX0_leafBehind_1 : decode cX0_leafBehind 1 = .ok (.getfield 27, 3) := by decide +kernel
theorem dX0_leafBehind_4 : decode cX0_leafBehind 4 = .ok (.ifCond .ne 7, 3) := by decide +kernel
theorem dX0_leafBehind_7 : decode cX0_leafBehind 7 = .ok (.iconst 0, 1) := by decide +kernel
theorem dX0_leafBehind_8 : decode cX0_leafBehind 8 = .ok (.goto 11, 3) := by decide +kernel
theorem dX0_leafBehind_11 : decode cX0_leafBehind 11 = .ok (.iload_n 1, 1) := by decide +kernel
theorem dX0_leafBehind_12 : decode cX0_leafBehind 12 = .ok (.iload_n 2, 1) := by decide +kernel
theorem dX0_leafBehind_13 : decode cX0_leafBehind 13 = .ok (.iadd, 1) := by decide +kernel
theorem dX0_leafBehind_14 : decode cX0_leafBehind 14 = .ok (.aload_n 0, 1) := by decide +kernel
theorem dX0_leafBehind_15 : decode cX0_leafBehind 15 = .ok (.getfield 27, 3) := by decide +kernel
theorem dX0_leafBehind_18 : decode cX0_leafBehind 18 = .ok (.irem, 1) := by decide +kernel
theorem dX0_leafBehind_19 : decode cX0_leafBehind 19 = .ok (.ireturn, 1) := by decide +kernel
theorem dX0_cover_0 : decode cX0_cover 0 = .ok (.bipush (-9), 2) := by decide +kernel
theorem dX0_cover_2 : decode cX0_cover 2 = .ok (.istore_n 1, 1) := by decide +kernel
theorem dX0_cover_3 : decode cX0_cover 3 = .ok (.aload_n 0, 1) := by decide +kernel
theorem dX0_cover_4 : decode cX0_cover 4 = .ok (.getfield 27, 3) := by decide +kernel
theorem dX0_cover_7 : decode cX0_cover 7 = .ok (.iconst 1, 1) := by decide +kernel
theorem dX0_cover_8 : decode cX0_cover 8 = .ok (.iadd, 1) := by decide +kernel
theorem dX0_cover_9 : decode cX0_cover 9 = .ok (.istore_n 2, 1) := by decide +kernel
theorem dX0_cover_10 : decode cX0_cover 10 = .ok (.iconst 0, 1) := by decide +kernel
theorem dX0_cover_11 : decode cX0_cover 11 = .ok (.istore_n 3, 1) := by decide +kernel
theorem dX0_cover_12 : decode cX0_cover 12 = .ok (.iload_n 3, 1) := by decide +kernel
theorem dX0_cover_13 : decode cX0_cover 13 = .ok (.iconst 1, 1) := by decide +kernel
theorem dX0_cover_14 : decode cX0_cover 14 = .ok (.aload_n 0, 1) := by decide +kernel
theorem dX0_cover_15 : decode cX0_cover 15 = .ok (.getfield 27, 3) := by decide +kernel
theorem dX0_cover_18 : decode cX0_cover 18 = .ok (.ishl, 1) := by decide +kernel
theorem dX0_cover_19 : decode cX0_cover 19 = .ok (.if_icmp .ge 32, 3) := by decide +kernel
theorem dX0_cover_22 : decode cX0_cover 22 = .ok (.iload_n 3, 1) := by decide +kernel
theorem dX0_cover_23 : decode cX0_cover 23 = .ok (.invokestatic 58, 3) := by decide +kernel
theorem dX0_cover_26 : decode cX0_cover 26 = .ok (.iload_n 2, 1) := by decide +kernel
theorem dX0_cover_27 : decode cX0_cover 27 = .ok (.if_icmp .ge 18, 3) := by decide +kernel
theorem dX0_cover_30 : decode cX0_cover 30 = .ok (.aload_n 0, 1) := by decide +kernel
theorem dX0_cover_31 : decode cX0_cover 31 = .ok (.iload_n 3, 1) := by decide +kernel
theorem dX0_cover_32 : decode cX0_cover 32 = .ok (.invokevirtual 64, 3) := by decide +kernel
theorem dX0_cover_35 : decode cX0_cover 35 = .ok (.ifCond .eq 10, 3) := by decide +kernel
theorem dX0_cover_38 : decode cX0_cover 38 = .ok (.iload_n 3, 1) := by decide +kernel
theorem dX0_cover_39 : decode cX0_cover 39 = .ok (.istore_n 1, 1) := by decide +kernel
theorem dX0_cover_40 : decode cX0_cover 40 = .ok (.iload_n 3, 1) := by decide +kernel
theorem dX0_cover_41 : decode cX0_cover 41 = .ok (.invokestatic 58, 3) := by decide +kernel
theorem dX0_cover_44 : decode cX0_cover 44 = .ok (.istore_n 2, 1) := by decide +kernel
theorem dX0_cover_45 : decode cX0_cover 45 = .ok (.iinc 3 1, 3) := by decide +kernel
theorem dX0_cover_48 : decode cX0_cover 48 = .ok (.goto (-36), 3) := by decide +kernel
theorem dX0_cover_51 : decode cX0_cover 51 = .ok (.iload_n 1, 1) := by decide +kernel
theorem dX0_cover_52 : decode cX0_cover 52 = .ok (.ireturn, 1) := by decide +kernel
theorem dX0_coversAll_0 : decode cX0_coversAll 0 = .ok (.iconst 0, 1) := by decide +kernel
theorem dX0_coversAll_1 : decode cX0_coversAll 1 = .ok (.istore_n 2, 1) := by decide +kernel
theorem dX0_coversAll_2 : decode cX0_coversAll 2 = .ok (.iload_n 2, 1) := by decide +kernel
theorem dX0_coversAll_3 : decode cX0_coversAll 3 = .ok (.aload_n 0, 1) := by decide +kernel
theorem dX0_coversAll_4 : decode cX0_coversAll 4 = .ok (.getfield 31, 3) := by decide +kernel
theorem dX0_coversAll_7 : decode cX0_coversAll 7 = .ok (.if_icmp .ge 21, 3) := by decide +kernel
theorem dX0_coversAll_10 : decode cX0_coversAll 10 = .ok (.aload_n 0, 1) := by decide +kernel
theorem dX0_coversAll_11 : decode cX0_coversAll 11 = .ok (.iload_n 2, 1) := by decide +kernel
theorem dX0_coversAll_12 : decode cX0_coversAll 12 = .ok (.invokevirtual 67, 3) := by decide +kernel
theorem dX0_coversAll_15 : decode cX0_coversAll 15 = .ok (.iload_n 1, 1) := by decide +kernel
theorem dX0_coversAll_16 : decode cX0_coversAll 16 = .ok (.iand, 1) := by decide +kernel
theorem dX0_coversAll_17 : decode cX0_coversAll 17 = .ok (.ifCond .ne 5, 3) := by decide +kernel
theorem dX0_coversAll_20 : decode cX0_coversAll 20 = .ok (.iconst 0, 1) := by decide +kernel
theorem dX0_coversAll_21 : decode cX0_coversAll 21 = .ok (.ireturn, 1) := by decide +kernel
theorem dX0_coversAll_22 : decode cX0_coversAll 22 = .ok (.iinc 2 1, 3) := by decide +kernel
theorem dX0_coversAll_25 : decode cX0_coversAll 25 = .ok (.goto (-23), 3) := by decide +kernel
theorem dX0_coversAll_28 : decode cX0_coversAll 28 = .ok (.iconst 1, 1) := by decide +kernel
theorem dX0_coversAll_29 : decode cX0_coversAll 29 = .ok (.ireturn, 1) := by decide +kernel
theorem dX0_changed_0 : decode cX0_changed 0 = .ok (.aload_n 0, 1) := by decide +kernel
theorem dX0_changed_1 : decode cX0_changed 1 = .ok (.getfield 18, 3) := by decide +kernel
theorem dX0_changed_4 : decode cX0_changed 4 = .ok (.iload_n 1, 1) := by decide +kernel
theorem dX0_changed_5 : decode cX0_changed 5 = .ok (.bipush 6, 2) := by decide +kernel
theorem dX0_changed_7 : decode cX0_changed 7 = .ok (.imul, 1) := by decide +kernel
theorem dX0_changed_8 : decode cX0_changed 8 = .ok (.iload_n 2, 1) := by decide +kernel
theorem dX0_changed_9 : decode cX0_changed 9 = .ok (.iadd, 1) := by decide +kernel
theorem dX0_changed_10 : decode cX0_changed 10 = .ok (.iaload, 1) := by decide +kernel
theorem dX0_changed_11 : decode cX0_changed 11 = .ok (.ireturn, 1) := by decide +kernel
theorem dX0_passedOn_0 : decode cX0_passedOn 0 = .ok (.aload_n 0, 1) := by decide +kernel
theorem dX0_passedOn_1 : decode cX0_passedOn 1 = .ok (.getfield 34, 3) := by decide +kernel
theorem dX0_passedOn_4 : decode cX0_passedOn 4 = .ok (.ifCond .ne 14, 3) := by decide +kernel
theorem dX0_passedOn_7 : decode cX0_passedOn 7 = .ok (.iload_n 2, 1) := by decide +kernel
theorem dX0_passedOn_8 : decode cX0_passedOn 8 = .ok (.ifCond .ne 7, 3) := by decide +kernel
theorem dX0_passedOn_11 : decode cX0_passedOn 11 = .ok (.iload_n 1, 1) := by decide +kernel
theorem dX0_passedOn_12 : decode cX0_passedOn 12 = .ok (.goto 5, 3) := by decide +kernel
theorem dX0_passedOn_15 : decode cX0_passedOn 15 = .ok (.bipush (-9), 2) := by decide +kernel
theorem dX0_passedOn_17 : decode cX0_passedOn 17 = .ok (.ireturn, 1) := by decide +kernel
theorem dX0_passedOn_18 : decode cX0_passedOn 18 = .ok (.iload_n 1, 1) := by decide +kernel
theorem dX0_passedOn_19 : decode cX0_passedOn 19 = .ok (.istore_n 3, 1) := by decide +kernel
theorem dX0_passedOn_20 : decode cX0_passedOn 20 = .ok (.iconst 0, 1) := by decide +kernel
theorem dX0_passedOn_21 : decode cX0_passedOn 21 = .ok (.istore 4, 2) := by decide +kernel
theorem dX0_passedOn_23 : decode cX0_passedOn 23 = .ok (.iload 4, 2) := by decide +kernel
theorem dX0_passedOn_25 : decode cX0_passedOn 25 = .ok (.iload_n 2, 1) := by decide +kernel
theorem dX0_passedOn_26 : decode cX0_passedOn 26 = .ok (.if_icmp .ge 22, 3) := by decide +kernel
theorem dX0_passedOn_29 : decode cX0_passedOn 29 = .ok (.aload_n 0, 1) := by decide +kernel
theorem dX0_passedOn_30 : decode cX0_passedOn 30 = .ok (.iload 4, 2) := by decide +kernel
theorem dX0_passedOn_32 : decode cX0_passedOn 32 = .ok (.aload_n 0, 1) := by decide +kernel
theorem dX0_passedOn_33 : decode cX0_passedOn 33 = .ok (.getfield 34, 3) := by decide +kernel
theorem dX0_passedOn_36 : decode cX0_passedOn 36 = .ok (.irem, 1) := by decide +kernel
theorem dX0_passedOn_37 : decode cX0_passedOn 37 = .ok (.iload_n 3, 1) := by decide +kernel
theorem dX0_passedOn_38 : decode cX0_passedOn 38 = .ok (.invokevirtual 70, 3) := by decide +kernel
theorem dX0_passedOn_41 : decode cX0_passedOn 41 = .ok (.istore_n 3, 1) := by decide +kernel
theorem dX0_passedOn_42 : decode cX0_passedOn 42 = .ok (.iinc 4 1, 3) := by decide +kernel
theorem dX0_passedOn_45 : decode cX0_passedOn 45 = .ok (.goto (-22), 3) := by decide +kernel
theorem dX0_passedOn_48 : decode cX0_passedOn 48 = .ok (.iload_n 3, 1) := by decide +kernel
theorem dX0_passedOn_49 : decode cX0_passedOn 49 = .ok (.ireturn, 1) := by decide +kernel
theorem dX0_dayOfAllFridays_0 : decode cX0_dayOfAllFridays 0 = .ok (.iload_n 1, 1) := by decide +kernel
theorem dX0_dayOfAllFridays_1 : decode cX0_dayOfAllFridays 1 = .ok (.istore_n 2, 1) := by decide +kernel
theorem dX0_dayOfAllFridays_2 : decode cX0_dayOfAllFridays 2 = .ok (.iconst 1, 1) := by decide +kernel
theorem dX0_dayOfAllFridays_3 : decode cX0_dayOfAllFridays 3 = .ok (.istore_n 3, 1) := by decide +kernel
theorem dX0_dayOfAllFridays_4 : decode cX0_dayOfAllFridays 4 = .ok (.iconst 0, 1) := by decide +kernel
theorem dX0_dayOfAllFridays_5 : decode cX0_dayOfAllFridays 5 = .ok (.istore 4, 2) := by decide +kernel
theorem dX0_dayOfAllFridays_7 : decode cX0_dayOfAllFridays 7 = .ok (.iload 4, 2) := by decide +kernel
theorem dX0_dayOfAllFridays_9 : decode cX0_dayOfAllFridays 9 = .ok (.aload_n 0, 1) := by decide +kernel
theorem dX0_dayOfAllFridays_10 : decode cX0_dayOfAllFridays 10 = .ok (.getfield 37, 3) := by decide +kernel
theorem dX0_dayOfAllFridays_13 : decode cX0_dayOfAllFridays 13 = .ok (.if_icmp .ge 49, 3) := by decide +kernel
theorem dX0_dayOfAllFridays_16 : decode cX0_dayOfAllFridays 16 = .ok (.aload_n 0, 1) := by decide +kernel
theorem dX0_dayOfAllFridays_17 : decode cX0_dayOfAllFridays 17 = .ok (.iload 4, 2) := by decide +kernel
theorem dX0_dayOfAllFridays_19 : decode cX0_dayOfAllFridays 19 = .ok (.iload_n 2, 1) := by decide +kernel
theorem dX0_dayOfAllFridays_20 : decode cX0_dayOfAllFridays 20 = .ok (.iload_n 3, 1) := by decide +kernel
theorem dX0_dayOfAllFridays_21 : decode cX0_dayOfAllFridays 21 = .ok (.invokevirtual 73, 3) := by decide +kernel
theorem dX0_dayOfAllFridays_24 : decode cX0_dayOfAllFridays 24 = .ok (.istore_n 2, 1) := by decide +kernel
theorem dX0_dayOfAllFridays_25 : decode cX0_dayOfAllFridays 25 = .ok (.iload_n 2, 1) := by decide +kernel
theorem dX0_dayOfAllFridays_26 : decode cX0_dayOfAllFridays 26 = .ok (.bipush (-9), 2) := by decide +kernel
theorem dX0_dayOfAllFridays_28 : decode cX0_dayOfAllFridays 28 = .ok (.if_icmp .ne 6, 3) := by decide +kernel
theorem dX0_dayOfAllFridays_31 : decode cX0_dayOfAllFridays 31 = .ok (.bipush (-9), 2) := by decide +kernel
theorem dX0_dayOfAllFridays_33 : decode cX0_dayOfAllFridays 33 = .ok (.ireturn, 1) := by decide +kernel
theorem dX0_dayOfAllFridays_34 : decode cX0_dayOfAllFridays 34 = .ok (.iload_n 3, 1) := by decide +kernel
theorem dX0_dayOfAllFridays_35 : decode cX0_dayOfAllFridays 35 = .ok (.iload_n 3, 1) := by decide +kernel
theorem dX0_dayOfAllFridays_36 : decode cX0_dayOfAllFridays 36 = .ok (.aload_n 0, 1) := by decide +kernel
theorem dX0_dayOfAllFridays_37 : decode cX0_dayOfAllFridays 37 = .ok (.getfield 21, 3) := by decide +kernel
theorem dX0_dayOfAllFridays_40 : decode cX0_dayOfAllFridays 40 = .ok (.iload 4, 2) := by decide +kernel
theorem dX0_dayOfAllFridays_42 : decode cX0_dayOfAllFridays 42 = .ok (.iaload, 1) := by decide +kernel
theorem dX0_dayOfAllFridays_43 : decode cX0_dayOfAllFridays 43 = .ok (.invokestatic 77, 3) := by decide +kernel
theorem dX0_dayOfAllFridays_46 : decode cX0_dayOfAllFridays 46 = .ok (.idiv, 1) := by decide +kernel
theorem dX0_dayOfAllFridays_47 : decode cX0_dayOfAllFridays 47 = .ok (.aload_n 0, 1) := by decide +kernel
theorem dX0_dayOfAllFridays_48 : decode cX0_dayOfAllFridays 48 = .ok (.getfield 21, 3) := by decide +kernel
theorem dX0_dayOfAllFridays_51 : decode cX0_dayOfAllFridays 51 = .ok (.iload 4, 2) := by decide +kernel
theorem dX0_dayOfAllFridays_53 : decode cX0_dayOfAllFridays 53 = .ok (.iaload, 1) := by decide +kernel
theorem dX0_dayOfAllFridays_54 : decode cX0_dayOfAllFridays 54 = .ok (.imul, 1) := by decide +kernel
theorem dX0_dayOfAllFridays_55 : decode cX0_dayOfAllFridays 55 = .ok (.istore_n 3, 1) := by decide +kernel
theorem dX0_dayOfAllFridays_56 : decode cX0_dayOfAllFridays 56 = .ok (.iinc 4 1, 3) := by decide +kernel
theorem dX0_dayOfAllFridays_59 : decode cX0_dayOfAllFridays 59 = .ok (.goto (-52), 3) := by decide +kernel
theorem dX0_dayOfAllFridays_62 : decode cX0_dayOfAllFridays 62 = .ok (.iload_n 2, 1) := by decide +kernel
theorem dX0_dayOfAllFridays_63 : decode cX0_dayOfAllFridays 63 = .ok (.ireturn, 1) := by decide +kernel
theorem dX0_dayOfFriday_0 : decode cX0_dayOfFriday 0 = .ok (.iconst 1, 1) := by decide +kernel
theorem dX0_dayOfFriday_1 : decode cX0_dayOfFriday 1 = .ok (.aload_n 0, 1) := by decide +kernel
theorem dX0_dayOfFriday_2 : decode cX0_dayOfFriday 2 = .ok (.getfield 21, 3) := by decide +kernel
theorem dX0_dayOfFriday_5 : decode cX0_dayOfFriday 5 = .ok (.iload_n 1, 1) := by decide +kernel
theorem dX0_dayOfFriday_6 : decode cX0_dayOfFriday 6 = .ok (.iaload, 1) := by decide +kernel
theorem dX0_dayOfFriday_7 : decode cX0_dayOfFriday 7 = .ok (.invokestatic 80, 3) := by decide +kernel
theorem dX0_dayOfFriday_10 : decode cX0_dayOfFriday 10 = .ok (.istore 4, 2) := by decide +kernel
theorem dX0_dayOfFriday_12 : decode cX0_dayOfFriday 12 = .ok (.iconst 0, 1) := by decide +kernel
theorem dX0_dayOfFriday_13 : decode cX0_dayOfFriday 13 = .ok (.istore 5, 2) := by decide +kernel
theorem dX0_dayOfFriday_15 : decode cX0_dayOfFriday 15 = .ok (.iload 5, 2) := by decide +kernel
theorem dX0_dayOfFriday_17 : decode cX0_dayOfFriday 17 = .ok (.iload 4, 2) := by decide +kernel
theorem dX0_dayOfFriday_19 : decode cX0_dayOfFriday 19 = .ok (.if_icmp .ge 34, 3) := by decide +kernel
theorem dX0_dayOfFriday_22 : decode cX0_dayOfFriday 22 = .ok (.iload_n 2, 1) := by decide +kernel
theorem dX0_dayOfFriday_23 : decode cX0_dayOfFriday 23 = .ok (.iload 5, 2) := by decide +kernel
theorem dX0_dayOfFriday_25 : decode cX0_dayOfFriday 25 = .ok (.iload_n 3, 1) := by decide +kernel
theorem dX0_dayOfFriday_26 : decode cX0_dayOfFriday 26 = .ok (.imul, 1) := by decide +kernel
theorem dX0_dayOfFriday_27 : decode cX0_dayOfFriday 27 = .ok (.iadd, 1) := by decide +kernel
theorem dX0_dayOfFriday_28 : decode cX0_dayOfFriday 28 = .ok (.istore 6, 2) := by decide +kernel
theorem dX0_dayOfFriday_30 : decode cX0_dayOfFriday 30 = .ok (.iload 6, 2) := by decide +kernel
theorem dX0_dayOfFriday_32 : decode cX0_dayOfFriday 32 = .ok (.iload 4, 2) := by decide +kernel
theorem dX0_dayOfFriday_34 : decode cX0_dayOfFriday 34 = .ok (.irem, 1) := by decide +kernel
theorem dX0_dayOfFriday_35 : decode cX0_dayOfFriday 35 = .ok (.aload_n 0, 1) := by decide +kernel
theorem dX0_dayOfFriday_36 : decode cX0_dayOfFriday 36 = .ok (.getfield 24, 3) := by decide +kernel
theorem dX0_dayOfFriday_39 : decode cX0_dayOfFriday 39 = .ok (.iload_n 1, 1) := by decide +kernel
theorem dX0_dayOfFriday_40 : decode cX0_dayOfFriday 40 = .ok (.iaload, 1) := by decide +kernel
theorem dX0_dayOfFriday_41 : decode cX0_dayOfFriday 41 = .ok (.if_icmp .ne 6, 3) := by decide +kernel
theorem dX0_dayOfFriday_44 : decode cX0_dayOfFriday 44 = .ok (.iload 6, 2) := by decide +kernel
theorem dX0_dayOfFriday_46 : decode cX0_dayOfFriday 46 = .ok (.ireturn, 1) := by decide +kernel
theorem dX0_dayOfFriday_47 : decode cX0_dayOfFriday 47 = .ok (.iinc 5 1, 3) := by decide +kernel
theorem dX0_dayOfFriday_50 : decode cX0_dayOfFriday 50 = .ok (.goto (-35), 3) := by decide +kernel
theorem dX0_dayOfFriday_53 : decode cX0_dayOfFriday 53 = .ok (.bipush (-9), 2) := by decide +kernel
theorem dX0_dayOfFriday_55 : decode cX0_dayOfFriday 55 = .ok (.ireturn, 1) := by decide +kernel
theorem dX1_init_0 : decode cX1_init 0 = .ok (.aload_n 0, 1) := by decide +kernel
theorem dX1_init_1 : decode cX1_init 1 = .ok (.invokespecial 3, 3) := by decide +kernel
theorem dX1_init_4 : decode cX1_init 4 = .ok (.aload_n 0, 1) := by decide +kernel
theorem dX1_init_5 : decode cX1_init 5 = .ok (.bipush 10, 2) := by decide +kernel
theorem dX1_init_7 : decode cX1_init 7 = .ok (.anewarray 9, 3) := by decide +kernel
theorem dX1_init_10 : decode cX1_init 10 = .ok (.putfield 11, 3) := by decide +kernel
theorem dX1_init_13 : decode cX1_init 13 = .ok (.aload_n 0, 1) := by decide +kernel
theorem dX1_init_14 : decode cX1_init 14 = .ok (.iconst 0, 1) := by decide +kernel
theorem dX1_init_15 : decode cX1_init 15 = .ok (.putfield 17, 3) := by decide +kernel
theorem dX1_init_18 : decode cX1_init 18 = .ok (.aload_n 0, 1) := by decide +kernel
theorem dX1_init_19 : decode cX1_init 19 = .ok (.iconst 0, 1) := by decide +kernel
theorem dX1_init_20 : decode cX1_init 20 = .ok (.putfield 21, 3) := by decide +kernel
theorem dX1_init_23 : decode cX1_init 23 = .ok (.iconst 0, 1) := by decide +kernel
theorem dX1_init_24 : decode cX1_init 24 = .ok (.istore_n 1, 1) := by decide +kernel
theorem dX1_init_25 : decode cX1_init 25 = .ok (.iload_n 1, 1) := by decide +kernel
theorem dX1_init_26 : decode cX1_init 26 = .ok (.bipush 10, 2) := by decide +kernel
theorem dX1_init_28 : decode cX1_init 28 = .ok (.if_icmp .ge 22, 3) := by decide +kernel
theorem dX1_init_31 : decode cX1_init 31 = .ok (.aload_n 0, 1) := by decide +kernel
theorem dX1_init_32 : decode cX1_init 32 = .ok (.getfield 11, 3) := by decide +kernel
theorem dX1_init_35 : decode cX1_init 35 = .ok (.iload_n 1, 1) := by decide +kernel
theorem dX1_init_36 : decode cX1_init 36 = .ok (.new 9, 3) := by decide +kernel
theorem dX1_init_39 : decode cX1_init 39 = .ok (.dup, 1) := by decide +kernel
theorem dX1_init_40 : decode cX1_init 40 = .ok (.invokespecial 24, 3) := by decide +kernel
theorem dX1_init_43 : decode cX1_init 43 = .ok (.aastore, 1) := by decide +kernel
theorem dX1_init_44 : decode cX1_init 44 = .ok (.iinc 1 1, 3) := by decide +kernel
theorem dX1_init_47 : decode cX1_init 47 = .ok (.goto (-22), 3) := by decide +kernel
theorem dX1_init_50 : decode cX1_init 50 = .ok (.return_, 1) := by decide +kernel
theorem dX1_remember_0 : decode cX1_remember 0 = .ok (.aload_n 0, 1) := by decide +kernel
theorem dX1_remember_1 : decode cX1_remember 1 = .ok (.getfield 11, 3) := by decide +kernel
theorem dX1_remember_4 : decode cX1_remember 4 = .ok (.aload_n 0, 1) := by decide +kernel
theorem dX1_remember_5 : decode cX1_remember 5 = .ok (.getfield 21, 3) := by decide +kernel
theorem dX1_remember_8 : decode cX1_remember 8 = .ok (.aaload, 1) := by decide +kernel
theorem dX1_remember_9 : decode cX1_remember 9 = .ok (.aload_n 1, 1) := by decide +kernel
theorem dX1_remember_10 : decode cX1_remember 10 = .ok (.invokevirtual 25, 3) := by decide +kernel
theorem dX1_remember_13 : decode cX1_remember 13 = .ok (.aload_n 0, 1) := by decide +kernel
theorem dX1_remember_14 : decode cX1_remember 14 = .ok (.aload_n 0, 1) := by decide +kernel
theorem dX1_remember_15 : decode cX1_remember 15 = .ok (.getfield 21, 3) := by decide +kernel
theorem dX1_remember_18 : decode cX1_remember 18 = .ok (.iconst 1, 1) := by decide +kernel
theorem dX1_remember_19 : decode cX1_remember 19 = .ok (.iadd, 1) := by decide +kernel
theorem dX1_remember_20 : decode cX1_remember 20 = .ok (.bipush 10, 2) := by decide +kernel
theorem dX1_remember_22 : decode cX1_remember 22 = .ok (.irem, 1) := by decide +kernel
theorem dX1_remember_23 : decode cX1_remember 23 = .ok (.putfield 21, 3) := by decide +kernel
theorem dX1_remember_26 : decode cX1_remember 26 = .ok (.aload_n 0, 1) := by decide +kernel
theorem dX1_remember_27 : decode cX1_remember 27 = .ok (.bipush 10, 2) := by decide +kernel
theorem dX1_remember_29 : decode cX1_remember 29 = .ok (.aload_n 0, 1) := by decide +kernel
theorem dX1_remember_30 : decode cX1_remember 30 = .ok (.getfield 17, 3) := by decide +kernel
theorem dX1_remember_33 : decode cX1_remember 33 = .ok (.iconst 1, 1) := by decide +kernel
theorem dX1_remember_34 : decode cX1_remember 34 = .ok (.iadd, 1) := by decide +kernel
theorem dX1_remember_35 : decode cX1_remember 35 = .ok (.invokestatic 29, 3) := by decide +kernel
theorem dX1_remember_38 : decode cX1_remember 38 = .ok (.putfield 17, 3) := by decide +kernel
theorem dX1_remember_41 : decode cX1_remember 41 = .ok (.return_, 1) := by decide +kernel
theorem dX1_recall_0 : decode cX1_recall 0 = .ok (.aload_n 0, 1) := by decide +kernel
theorem dX1_recall_1 : decode cX1_recall 1 = .ok (.aload_n 0, 1) := by decide +kernel
theorem dX1_recall_2 : decode cX1_recall 2 = .ok (.getfield 21, 3) := by decide +kernel
theorem dX1_recall_5 : decode cX1_recall 5 = .ok (.bipush 10, 2) := by decide +kernel
theorem dX1_recall_7 : decode cX1_recall 7 = .ok (.iadd, 1) := by decide +kernel
theorem dX1_recall_8 : decode cX1_recall 8 = .ok (.iconst 1, 1) := by decide +kernel
theorem dX1_recall_9 : decode cX1_recall 9 = .ok (.isub, 1) := by decide +kernel
theorem dX1_recall_10 : decode cX1_recall 10 = .ok (.bipush 10, 2) := by decide +kernel
theorem dX1_recall_12 : decode cX1_recall 12 = .ok (.irem, 1) := by decide +kernel
theorem dX1_recall_13 : decode cX1_recall 13 = .ok (.putfield 21, 3) := by decide +kernel
theorem dX1_recall_16 : decode cX1_recall 16 = .ok (.aload_n 1, 1) := by decide +kernel
theorem dX1_recall_17 : decode cX1_recall 17 = .ok (.aload_n 0, 1) := by decide +kernel
theorem dX1_recall_18 : decode cX1_recall 18 = .ok (.getfield 11, 3) := by decide +kernel
theorem dX1_recall_21 : decode cX1_recall 21 = .ok (.aload_n 0, 1) := by decide +kernel
theorem dX1_recall_22 : decode cX1_recall 22 = .ok (.getfield 21, 3) := by decide +kernel
theorem dX1_recall_25 : decode cX1_recall 25 = .ok (.aaload, 1) := by decide +kernel
theorem dX1_recall_26 : decode cX1_recall 26 = .ok (.invokevirtual 25, 3) := by decide +kernel
theorem dX1_recall_29 : decode cX1_recall 29 = .ok (.aload_n 0, 1) := by decide +kernel
theorem dX1_recall_30 : decode cX1_recall 30 = .ok (.dup, 1) := by decide +kernel
theorem dX1_recall_31 : decode cX1_recall 31 = .ok (.getfield 17, 3) := by decide +kernel
theorem dX1_recall_34 : decode cX1_recall 34 = .ok (.iconst 1, 1) := by decide +kernel
theorem dX1_recall_35 : decode cX1_recall 35 = .ok (.isub, 1) := by decide +kernel
theorem dX1_recall_36 : decode cX1_recall 36 = .ok (.putfield 17, 3) := by decide +kernel
theorem dX1_recall_39 : decode cX1_recall 39 = .ok (.return_, 1) := by decide +kernel
theorem dX2_init_0 : decode cX2_init 0 = .ok (.aload_n 0, 1) := by decide +kernel
theorem dX2_init_1 : decode cX2_init 1 = .ok (.invokespecial 3, 3) := by decide +kernel
theorem dX2_init_4 : decode cX2_init 4 = .ok (.aload_n 0, 1) := by decide +kernel
theorem dX2_init_5 : decode cX2_init 5 = .ok (.bipush 64, 2) := by decide +kernel
theorem dX2_init_7 : decode cX2_init 7 = .ok (.newarray .int, 2) := by decide +kernel
theorem dX2_init_9 : decode cX2_init 9 = .ok (.putfield 9, 3) := by decide +kernel
theorem dX2_init_12 : decode cX2_init 12 = .ok (.return_, 1) := by decide +kernel
theorem dX2_weigh_0 : decode cX2_weigh 0 = .ok (.aload_n 2, 1) := by decide +kernel
theorem dX2_weigh_1 : decode cX2_weigh 1 = .ok (.iconst 1, 1) := by decide +kernel
theorem dX2_weigh_2 : decode cX2_weigh 2 = .ok (.invokevirtual 15, 3) := by decide +kernel
theorem dX2_weigh_5 : decode cX2_weigh 5 = .ok (.istore_n 3, 1) := by decide +kernel
theorem dX2_weigh_6 : decode cX2_weigh 6 = .ok (.iload_n 3, 1) := by decide +kernel
theorem dX2_weigh_7 : decode cX2_weigh 7 = .ok (.istore 4, 2) := by decide +kernel
theorem dX2_weigh_9 : decode cX2_weigh 9 = .ok (.iload 4, 2) := by decide +kernel
theorem dX2_weigh_11 : decode cX2_weigh 11 = .ok (.ifCond .lt 34, 3) := by decide +kernel
theorem dX2_weigh_14 : decode cX2_weigh 14 = .ok (.iload 4, 2) := by decide +kernel
theorem dX2_weigh_16 : decode cX2_weigh 16 = .ok (.iload_n 3, 1) := by decide +kernel
theorem dX2_weigh_17 : decode cX2_weigh 17 = .ok (.iconst (-1), 1) := by decide +kernel
theorem dX2_weigh_18 : decode cX2_weigh 18 = .ok (.ixor, 1) := by decide +kernel
theorem dX2_weigh_19 : decode cX2_weigh 19 = .ok (.iand, 1) := by decide +kernel
theorem dX2_weigh_20 : decode cX2_weigh 20 = .ok (.ifCond .ne 19, 3) := by decide +kernel
theorem dX2_weigh_23 : decode cX2_weigh 23 = .ok (.aload_n 0, 1) := by decide +kernel
theorem dX2_weigh_24 : decode cX2_weigh 24 = .ok (.getfield 9, 3) := by decide +kernel
theorem dX2_weigh_27 : decode cX2_weigh 27 = .ok (.iload 4, 2) := by decide +kernel
theorem dX2_weigh_29 : decode cX2_weigh 29 = .ok (.aload_n 0, 1) := by decide +kernel
theorem dX2_weigh_30 : decode cX2_weigh 30 = .ok (.iload 4, 2) := by decide +kernel
theorem dX2_weigh_32 : decode cX2_weigh 32 = .ok (.iload_n 3, 1) := by decide +kernel
theorem dX2_weigh_33 : decode cX2_weigh 33 = .ok (.aload_n 1, 1) := by decide +kernel
theorem dX2_weigh_34 : decode cX2_weigh 34 = .ok (.aload_n 2, 1) := by decide +kernel
theorem dX2_weigh_35 : decode cX2_weigh 35 = .ok (.invokevirtual 21, 3) := by decide +kernel
theorem dX2_weigh_38 : decode cX2_weigh 38 = .ok (.iastore, 1) := by decide +kernel
theorem dX2_weigh_39 : decode cX2_weigh 39 = .ok (.iinc 4 (-1), 3) := by decide +kernel
theorem dX2_weigh_42 : decode cX2_weigh 42 = .ok (.goto (-33), 3) := by decide +kernel
theorem dX2_weigh_45 : decode cX2_weigh 45 = .ok (.return_, 1) := by decide +kernel
theorem dX2_mostBehind_0 : decode cX2_mostBehind 0 = .ok (.iconst 0, 1) := by decide +kernel
theorem dX2_mostBehind_1 : decode cX2_mostBehind 1 = .ok (.istore 5, 2) := by decide +kernel
theorem dX2_mostBehind_3 : decode cX2_mostBehind 3 = .ok (.iconst 0, 1) := by decide +kernel
theorem dX2_mostBehind_4 : decode cX2_mostBehind 4 = .ok (.istore 6, 2) := by decide +kernel
theorem dX2_mostBehind_6 : decode cX2_mostBehind 6 = .ok (.iload 6, 2) := by decide +kernel
theorem dX2_mostBehind_8 : decode cX2_mostBehind 8 = .ok (.bipush 6, 2) := by decide +kernel
theorem dX2_mostBehind_10 : decode cX2_mostBehind 10 = .ok (.if_icmp .ge 39, 3) := by decide +kernel
theorem dX2_mostBehind_13 : decode cX2_mostBehind 13 = .ok (.iload_n 2, 1) := by decide +kernel
theorem dX2_mostBehind_14 : decode cX2_mostBehind 14 = .ok (.iload_n 1, 1) := by decide +kernel
theorem dX2_mostBehind_15 : decode cX2_mostBehind 15 = .ok (.iconst (-1), 1) := by decide +kernel
theorem dX2_mostBehind_16 : decode cX2_mostBehind 16 = .ok (.ixor, 1) := by decide +kernel
theorem dX2_mostBehind_17 : decode cX2_mostBehind 17 = .ok (.iand, 1) := by decide +kernel
theorem dX2_mostBehind_18 : decode cX2_mostBehind 18 = .ok (.iload 6, 2) := by decide +kernel
theorem dX2_mostBehind_20 : decode cX2_mostBehind 20 = .ok (.invokestatic 25, 3) := by decide +kernel
theorem dX2_mostBehind_23 : decode cX2_mostBehind 23 = .ok (.ifCond .eq 20, 3) := by decide +kernel
theorem dX2_mostBehind_26 : decode cX2_mostBehind 26 = .ok (.iload 5, 2) := by decide +kernel
theorem dX2_mostBehind_28 : decode cX2_mostBehind 28 = .ok (.aload_n 0, 1) := by decide +kernel
theorem dX2_mostBehind_29 : decode cX2_mostBehind 29 = .ok (.iload 6, 2) := by decide +kernel
theorem dX2_mostBehind_31 : decode cX2_mostBehind 31 = .ok (.iload_n 1, 1) := by decide +kernel
theorem dX2_mostBehind_32 : decode cX2_mostBehind 32 = .ok (.aload_n 3, 1) := by decide +kernel
theorem dX2_mostBehind_33 : decode cX2_mostBehind 33 = .ok (.aload 4, 2) := by decide +kernel
theorem dX2_mostBehind_35 : decode cX2_mostBehind 35 = .ok (.invokevirtual 29, 3) := by decide +kernel
theorem dX2_mostBehind_38 : decode cX2_mostBehind 38 = .ok (.invokestatic 32, 3) := by decide +kernel
theorem dX2_mostBehind_41 : decode cX2_mostBehind 41 = .ok (.istore 5, 2) := by decide +kernel
theorem dX2_mostBehind_43 : decode cX2_mostBehind 43 = .ok (.iinc 6 1, 3) := by decide +kernel
theorem dX2_mostBehind_46 : decode cX2_mostBehind 46 = .ok (.goto (-40), 3) := by decide +kernel
theorem dX2_mostBehind_49 : decode cX2_mostBehind 49 = .ok (.iload 5, 2) := by decide +kernel
theorem dX2_mostBehind_51 : decode cX2_mostBehind 51 = .ok (.ireturn, 1) := by decide +kernel
theorem dX2_worth_0 : decode cX2_worth 0 = .ok (.aload_n 3, 1) := by decide +kernel
theorem dX2_worth_1 : decode cX2_worth 1 = .ok (.aload 4, 2) := by decide +kernel
theorem dX2_worth_3 : decode cX2_worth 3 = .ok (.getfield 38, 3) := by decide +kernel
theorem dX2_worth_6 : decode cX2_worth 6 = .ok (.iload_n 2, 1) := by decide +kernel
theorem dX2_worth_7 : decode cX2_worth 7 = .ok (.invokestatic 42, 3) := by decide +kernel
theorem dX2_worth_10 : decode cX2_worth 10 = .ok (.invokevirtual 47, 3) := by decide +kernel
theorem dX2_worth_13 : decode cX2_worth 13 = .ok (.istore 5, 2) := by decide +kernel
theorem dX2_worth_15 : decode cX2_worth 15 = .ok (.aload_n 3, 1) := by decide +kernel
theorem dX2_worth_16 : decode cX2_worth 16 = .ok (.iload 5, 2) := by decide +kernel
theorem dX2_worth_18 : decode cX2_worth 18 = .ok (.iload_n 1, 1) := by decide +kernel
theorem dX2_worth_19 : decode cX2_worth 19 = .ok (.invokevirtual 52, 3) := by decide +kernel
theorem dX2_worth_22 : decode cX2_worth 22 = .ok (.ifCond .eq 7, 3) := by decide +kernel
theorem dX2_worth_25 : decode cX2_worth 25 = .ok (.iconst 1, 1) := by decide +kernel
theorem dX2_worth_26 : decode cX2_worth 26 = .ok (.goto 4, 3) := by decide +kernel
theorem dX2_worth_29 : decode cX2_worth 29 = .ok (.iconst 0, 1) := by decide +kernel
theorem dX2_worth_30 : decode cX2_worth 30 = .ok (.istore 6, 2) := by decide +kernel
theorem dX2_worth_32 : decode cX2_worth 32 = .ok (.iload 6, 2) := by decide +kernel
theorem dX2_worth_34 : decode cX2_worth 34 = .ok (.aload_n 0, 1) := by decide +kernel
theorem dX2_worth_35 : decode cX2_worth 35 = .ok (.getfield 9, 3) := by decide +kernel
theorem dX2_worth_38 : decode cX2_worth 38 = .ok (.iload_n 2, 1) := by decide +kernel
theorem dX2_worth_39 : decode cX2_worth 39 = .ok (.iconst 1, 1) := by decide +kernel
theorem dX2_worth_40 : decode cX2_worth 40 = .ok (.iload_n 1, 1) := by decide +kernel
theorem dX2_worth_41 : decode cX2_worth 41 = .ok (.ishl, 1) := by decide +kernel
theorem dX2_worth_42 : decode cX2_worth 42 = .ok (.ior, 1) := by decide +kernel
theorem dX2_worth_43 : decode cX2_worth 43 = .ok (.iaload, 1) := by decide +kernel
theorem dX2_worth_44 : decode cX2_worth 44 = .ok (.iadd, 1) := by decide +kernel
theorem dX2_worth_45 : decode cX2_worth 45 = .ok (.ireturn, 1) := by decide +kernel
theorem dX2_goerAt_0 : decode cX2_goerAt 0 = .ok (.aload_n 3, 1) := by decide +kernel
theorem dX2_goerAt_1 : decode cX2_goerAt 1 = .ok (.iconst 1, 1) := by decide +kernel
theorem dX2_goerAt_2 : decode cX2_goerAt 2 = .ok (.invokevirtual 15, 3) := by decide +kernel
theorem dX2_goerAt_5 : decode cX2_goerAt 5 = .ok (.istore 4, 2) := by decide +kernel
theorem dX2_goerAt_7 : decode cX2_goerAt 7 = .ok (.iconst 0, 1) := by decide +kernel
theorem dX2_goerAt_8 : decode cX2_goerAt 8 = .ok (.istore 5, 2) := by decide +kernel
theorem dX2_goerAt_10 : decode cX2_goerAt 10 = .ok (.bipush (-9), 2) := by decide +kernel
theorem dX2_goerAt_12 : decode cX2_goerAt 12 = .ok (.istore 6, 2) := by decide +kernel
theorem dX2_goerAt_14 : decode cX2_goerAt 14 = .ok (.iconst 0, 1) := by decide +kernel
theorem dX2_goerAt_15 : decode cX2_goerAt 15 = .ok (.istore 7, 2) := by decide +kernel
theorem dX2_goerAt_17 : decode cX2_goerAt 17 = .ok (.iload 7, 2) := by decide +kernel
theorem dX2_goerAt_19 : decode cX2_goerAt 19 = .ok (.iload_n 1, 1) := by decide +kernel
theorem dX2_goerAt_20 : decode cX2_goerAt 20 = .ok (.if_icmp .gt 40, 3) := by decide +kernel
theorem dX2_goerAt_23 : decode cX2_goerAt 23 = .ok (.aload_n 0, 1) := by decide +kernel
theorem dX2_goerAt_24 : decode cX2_goerAt 24 = .ok (.iload 5, 2) := by decide +kernel
theorem dX2_goerAt_26 : decode cX2_goerAt 26 = .ok (.iload 4, 2) := by decide +kernel
theorem dX2_goerAt_28 : decode cX2_goerAt 28 = .ok (.aload_n 2, 1) := by decide +kernel
theorem dX2_goerAt_29 : decode cX2_goerAt 29 = .ok (.aload_n 3, 1) := by decide +kernel
theorem dX2_goerAt_30 : decode cX2_goerAt 30 = .ok (.invokevirtual 55, 3) := by decide +kernel
theorem dX2_goerAt_33 : decode cX2_goerAt 33 = .ok (.istore 6, 2) := by decide +kernel
theorem dX2_goerAt_35 : decode cX2_goerAt 35 = .ok (.iload 6, 2) := by decide +kernel
theorem dX2_goerAt_37 : decode cX2_goerAt 37 = .ok (.bipush (-9), 2) := by decide +kernel
theorem dX2_goerAt_39 : decode cX2_goerAt 39 = .ok (.if_icmp .ne 6, 3) := by decide +kernel
theorem dX2_goerAt_42 : decode cX2_goerAt 42 = .ok (.bipush (-9), 2) := by decide +kernel
theorem dX2_goerAt_44 : decode cX2_goerAt 44 = .ok (.ireturn, 1) := by decide +kernel
theorem dX2_goerAt_45 : decode cX2_goerAt 45 = .ok (.iload 5, 2) := by decide +kernel
theorem dX2_goerAt_47 : decode cX2_goerAt 47 = .ok (.iconst 1, 1) := by decide +kernel
theorem dX2_goerAt_48 : decode cX2_goerAt 48 = .ok (.iload 6, 2) := by decide +kernel
theorem dX2_goerAt_50 : decode cX2_goerAt 50 = .ok (.ishl, 1) := by decide +kernel
theorem dX2_goerAt_51 : decode cX2_goerAt 51 = .ok (.ior, 1) := by decide +kernel
theorem dX2_goerAt_52 : decode cX2_goerAt 52 = .ok (.istore 5, 2) := by decide +kernel
theorem dX2_goerAt_54 : decode cX2_goerAt 54 = .ok (.iinc 7 1, 3) := by decide +kernel
theorem dX2_goerAt_57 : decode cX2_goerAt 57 = .ok (.goto (-40), 3) := by decide +kernel
theorem dX2_goerAt_60 : decode cX2_goerAt 60 = .ok (.iload 6, 2) := by decide +kernel
theorem dX2_goerAt_62 : decode cX2_goerAt 62 = .ok (.ireturn, 1) := by decide +kernel
theorem dX2_lowestOfBest_0 : decode cX2_lowestOfBest 0 = .ok (.iconst 0, 1) := by decide +kernel
theorem dX2_lowestOfBest_1 : decode cX2_lowestOfBest 1 = .ok (.istore 5, 2) := by decide +kernel
theorem dX2_lowestOfBest_3 : decode cX2_lowestOfBest 3 = .ok (.iload 5, 2) := by decide +kernel
theorem dX2_lowestOfBest_5 : decode cX2_lowestOfBest 5 = .ok (.bipush 6, 2) := by decide +kernel
theorem dX2_lowestOfBest_7 : decode cX2_lowestOfBest 7 = .ok (.if_icmp .ge 44, 3) := by decide +kernel
theorem dX2_lowestOfBest_10 : decode cX2_lowestOfBest 10 = .ok (.iload_n 2, 1) := by decide +kernel
theorem dX2_lowestOfBest_11 : decode cX2_lowestOfBest 11 = .ok (.iload_n 1, 1) := by decide +kernel
theorem dX2_lowestOfBest_12 : decode cX2_lowestOfBest 12 = .ok (.iconst (-1), 1) := by decide +kernel
theorem dX2_lowestOfBest_13 : decode cX2_lowestOfBest 13 = .ok (.ixor, 1) := by decide +kernel
theorem dX2_lowestOfBest_14 : decode cX2_lowestOfBest 14 = .ok (.iand, 1) := by decide +kernel
theorem dX2_lowestOfBest_15 : decode cX2_lowestOfBest 15 = .ok (.iload 5, 2) := by decide +kernel
theorem dX2_lowestOfBest_17 : decode cX2_lowestOfBest 17 = .ok (.invokestatic 25, 3) := by decide +kernel
theorem dX2_lowestOfBest_20 : decode cX2_lowestOfBest 20 = .ok (.ifCond .eq 25, 3) := by decide +kernel
theorem dX2_lowestOfBest_23 : decode cX2_lowestOfBest 23 = .ok (.aload_n 0, 1) := by decide +kernel
theorem dX2_lowestOfBest_24 : decode cX2_lowestOfBest 24 = .ok (.iload 5, 2) := by decide +kernel
theorem dX2_lowestOfBest_26 : decode cX2_lowestOfBest 26 = .ok (.iload_n 1, 1) := by decide +kernel
theorem dX2_lowestOfBest_27 : decode cX2_lowestOfBest 27 = .ok (.aload_n 3, 1) := by decide +kernel
theorem dX2_lowestOfBest_28 : decode cX2_lowestOfBest 28 = .ok (.aload 4, 2) := by decide +kernel
theorem dX2_lowestOfBest_30 : decode cX2_lowestOfBest 30 = .ok (.invokevirtual 29, 3) := by decide +kernel
theorem dX2_lowestOfBest_33 : decode cX2_lowestOfBest 33 = .ok (.aload_n 0, 1) := by decide +kernel
theorem dX2_lowestOfBest_34 : decode cX2_lowestOfBest 34 = .ok (.getfield 9, 3) := by decide +kernel
theorem dX2_lowestOfBest_37 : decode cX2_lowestOfBest 37 = .ok (.iload_n 1, 1) := by decide +kernel
theorem dX2_lowestOfBest_38 : decode cX2_lowestOfBest 38 = .ok (.iaload, 1) := by decide +kernel
theorem dX2_lowestOfBest_39 : decode cX2_lowestOfBest 39 = .ok (.if_icmp .ne 6, 3) := by decide +kernel
theorem dX2_lowestOfBest_42 : decode cX2_lowestOfBest 42 = .ok (.iload 5, 2) := by decide +kernel
theorem dX2_lowestOfBest_44 : decode cX2_lowestOfBest 44 = .ok (.ireturn, 1) := by decide +kernel
theorem dX2_lowestOfBest_45 : decode cX2_lowestOfBest 45 = .ok (.iinc 5 1, 3) := by decide +kernel
theorem dX2_lowestOfBest_48 : decode cX2_lowestOfBest 48 = .ok (.goto (-45), 3) := by decide +kernel
theorem dX2_lowestOfBest_51 : decode cX2_lowestOfBest 51 = .ok (.bipush (-9), 2) := by decide +kernel
theorem dX2_lowestOfBest_53 : decode cX2_lowestOfBest 53 = .ok (.ireturn, 1) := by decide +kernel
theorem dX3_init_0 : decode cX3_init 0 = .ok (.aload_n 0, 1) := by decide +kernel
theorem dX3_init_1 : decode cX3_init 1 = .ok (.invokespecial 3, 3) := by decide +kernel
theorem dX3_init_4 : decode cX3_init 4 = .ok (.aload_n 0, 1) := by decide +kernel
theorem dX3_init_5 : decode cX3_init 5 = .ok (.iconst 0, 1) := by decide +kernel
theorem dX3_init_6 : decode cX3_init 6 = .ok (.putfield 9, 3) := by decide +kernel
theorem dX3_init_9 : decode cX3_init 9 = .ok (.aload_n 0, 1) := by decide +kernel
theorem dX3_init_10 : decode cX3_init 10 = .ok (.iconst 0, 1) := by decide +kernel
theorem dX3_init_11 : decode cX3_init 11 = .ok (.putfield 15, 3) := by decide +kernel
theorem dX3_init_14 : decode cX3_init 14 = .ok (.aload_n 0, 1) := by decide +kernel
theorem dX3_init_15 : decode cX3_init 15 = .ok (.iconst 0, 1) := by decide +kernel
theorem dX3_init_16 : decode cX3_init 16 = .ok (.putfield 18, 3) := by decide +kernel
theorem dX3_init_19 : decode cX3_init 19 = .ok (.aload_n 0, 1) := by decide +kernel
theorem dX3_init_20 : decode cX3_init 20 = .ok (.bipush 6, 2) := by decide +kernel
theorem dX3_init_22 : decode cX3_init 22 = .ok (.newarray .int, 2) := by decide +kernel
theorem dX3_init_24 : decode cX3_init 24 = .ok (.putfield 21, 3) := by decide +kernel
theorem dX3_init_27 : decode cX3_init 27 = .ok (.aload_n 0, 1) := by decide +kernel
theorem dX3_init_28 : decode cX3_init 28 = .ok (.bipush 6, 2) := by decide +kernel
theorem dX3_init_30 : decode cX3_init 30 = .ok (.newarray .int, 2) := by decide +kernel
theorem dX3_init_32 : decode cX3_init 32 = .ok (.putfield 25, 3) := by decide +kernel
theorem dX3_init_35 : decode cX3_init 35 = .ok (.aload_n 0, 1) := by decide +kernel
theorem dX3_init_36 : decode cX3_init 36 = .ok (.bipush 6, 2) := by decide +kernel
theorem dX3_init_38 : decode cX3_init 38 = .ok (.newarray .int, 2) := by decide +kernel
theorem dX3_init_40 : decode cX3_init 40 = .ok (.putfield 28, 3) := by decide +kernel
theorem dX3_init_43 : decode cX3_init 43 = .ok (.return_, 1) := by decide +kernel
theorem dX3_startAnew_0 : decode cX3_startAnew 0 = .ok (.aload_n 0, 1) := by decide +kernel
theorem dX3_startAnew_1 : decode cX3_startAnew 1 = .ok (.iconst 0, 1) := by decide +kernel
theorem dX3_startAnew_2 : decode cX3_startAnew 2 = .ok (.putfield 9, 3) := by decide +kernel
theorem dX3_startAnew_5 : decode cX3_startAnew 5 = .ok (.aload_n 0, 1) := by decide +kernel
theorem dX3_startAnew_6 : decode cX3_startAnew 6 = .ok (.iconst 0, 1) := by decide +kernel
theorem dX3_startAnew_7 : decode cX3_startAnew 7 = .ok (.putfield 15, 3) := by decide +kernel
theorem dX3_startAnew_10 : decode cX3_startAnew 10 = .ok (.aload_n 0, 1) := by decide +kernel
theorem dX3_startAnew_11 : decode cX3_startAnew 11 = .ok (.iconst 0, 1) := by decide +kernel
theorem dX3_startAnew_12 : decode cX3_startAnew 12 = .ok (.putfield 18, 3) := by decide +kernel
theorem dX3_startAnew_15 : decode cX3_startAnew 15 = .ok (.aload_n 0, 1) := by decide +kernel
theorem dX3_startAnew_16 : decode cX3_startAnew 16 = .ok (.getfield 21, 3) := by decide +kernel
theorem dX3_startAnew_19 : decode cX3_startAnew 19 = .ok (.iconst 0, 1) := by decide +kernel
theorem dX3_startAnew_20 : decode cX3_startAnew 20 = .ok (.invokestatic 31, 3) := by decide +kernel
theorem dX3_startAnew_23 : decode cX3_startAnew 23 = .ok (.aload_n 0, 1) := by decide +kernel
theorem dX3_startAnew_24 : decode cX3_startAnew 24 = .ok (.getfield 25, 3) := by decide +kernel
theorem dX3_startAnew_27 : decode cX3_startAnew 27 = .ok (.iconst 0, 1) := by decide +kernel
theorem dX3_startAnew_28 : decode cX3_startAnew 28 = .ok (.invokestatic 31, 3) := by decide +kernel
theorem dX3_startAnew_31 : decode cX3_startAnew 31 = .ok (.aload_n 0, 1) := by decide +kernel
theorem dX3_startAnew_32 : decode cX3_startAnew 32 = .ok (.getfield 28, 3) := by decide +kernel
theorem dX3_startAnew_35 : decode cX3_startAnew 35 = .ok (.iconst 0, 1) := by decide +kernel
theorem dX3_startAnew_36 : decode cX3_startAnew 36 = .ok (.invokestatic 31, 3) := by decide +kernel
theorem dX3_startAnew_39 : decode cX3_startAnew 39 = .ok (.return_, 1) := by decide +kernel
theorem dX3_become_0 : decode cX3_become 0 = .ok (.aload_n 0, 1) := by decide +kernel
theorem dX3_become_1 : decode cX3_become 1 = .ok (.aload_n 1, 1) := by decide +kernel
theorem dX3_become_2 : decode cX3_become 2 = .ok (.getfield 9, 3) := by decide +kernel
theorem dX3_become_5 : decode cX3_become 5 = .ok (.putfield 9, 3) := by decide +kernel
theorem dX3_become_8 : decode cX3_become 8 = .ok (.aload_n 0, 1) := by decide +kernel
theorem dX3_become_9 : decode cX3_become 9 = .ok (.aload_n 1, 1) := by decide +kernel
theorem dX3_become_10 : decode cX3_become 10 = .ok (.getfield 15, 3) := by decide +kernel
theorem dX3_become_13 : decode cX3_become 13 = .ok (.putfield 15, 3) := by decide +kernel
theorem dX3_become_16 : decode cX3_become 16 = .ok (.aload_n 0, 1) := by decide +kernel
theorem dX3_become_17 : decode cX3_become 17 = .ok (.aload_n 1, 1) := by decide +kernel
theorem dX3_become_18 : decode cX3_become 18 = .ok (.getfield 18, 3) := by decide +kernel
theorem dX3_become_21 : decode cX3_become 21 = .ok (.putfield 18, 3) := by decide +kernel
theorem dX3_become_24 : decode cX3_become 24 = .ok (.aload_n 1, 1) := by decide +kernel
theorem dX3_become_25 : decode cX3_become 25 = .ok (.getfield 21, 3) := by decide +kernel
theorem dX3_become_28 : decode cX3_become 28 = .ok (.iconst 0, 1) := by decide +kernel
theorem dX3_become_29 : decode cX3_become 29 = .ok (.aload_n 0, 1) := by decide +kernel
theorem dX3_become_30 : decode cX3_become 30 = .ok (.getfield 21, 3) := by decide +kernel
theorem dX3_become_33 : decode cX3_become 33 = .ok (.iconst 0, 1) := by decide +kernel
theorem dX3_become_34 : decode cX3_become 34 = .ok (.bipush 6, 2) := by decide +kernel
theorem dX3_become_36 : decode cX3_become 36 = .ok (.invokestatic 37, 3) := by decide +kernel
theorem dX3_become_39 : decode cX3_become 39 = .ok (.aload_n 1, 1) := by decide +kernel
theorem dX3_become_40 : decode cX3_become 40 = .ok (.getfield 25, 3) := by decide +kernel
theorem dX3_become_43 : decode cX3_become 43 = .ok (.iconst 0, 1) := by decide +kernel
theorem dX3_become_44 : decode cX3_become 44 = .ok (.aload_n 0, 1) := by decide +kernel
theorem dX3_become_45 : decode cX3_become 45 = .ok (.getfield 25, 3) := by decide +kernel
theorem dX3_become_48 : decode cX3_become 48 = .ok (.iconst 0, 1) := by decide +kernel
theorem dX3_become_49 : decode cX3_become 49 = .ok (.bipush 6, 2) := by decide +kernel
theorem dX3_become_51 : decode cX3_become 51 = .ok (.invokestatic 37, 3) := by decide +kernel
theorem dX3_become_54 : decode cX3_become 54 = .ok (.aload_n 1, 1) := by decide +kernel
theorem dX3_become_55 : decode cX3_become 55 = .ok (.getfield 28, 3) := by decide +kernel
theorem dX3_become_58 : decode cX3_become 58 = .ok (.iconst 0, 1) := by decide +kernel
theorem dX3_become_59 : decode cX3_become 59 = .ok (.aload_n 0, 1) := by decide +kernel
theorem dX3_become_60 : decode cX3_become 60 = .ok (.getfield 28, 3) := by decide +kernel
theorem dX3_become_63 : decode cX3_become 63 = .ok (.iconst 0, 1) := by decide +kernel
theorem dX3_become_64 : decode cX3_become 64 = .ok (.bipush 6, 2) := by decide +kernel
theorem dX3_become_66 : decode cX3_become 66 = .ok (.invokestatic 37, 3) := by decide +kernel
theorem dX3_become_69 : decode cX3_become 69 = .ok (.return_, 1) := by decide +kernel
theorem dX3_whoAre_0 : decode cX3_whoAre 0 = .ok (.iconst 0, 1) := by decide +kernel
theorem dX3_whoAre_1 : decode cX3_whoAre 1 = .ok (.istore_n 2, 1) := by decide +kernel
theorem dX3_whoAre_2 : decode cX3_whoAre 2 = .ok (.iconst 0, 1) := by decide +kernel
theorem dX3_whoAre_3 : decode cX3_whoAre 3 = .ok (.istore_n 3, 1) := by decide +kernel
theorem dX3_whoAre_4 : decode cX3_whoAre 4 = .ok (.iload_n 3, 1) := by decide +kernel
theorem dX3_whoAre_5 : decode cX3_whoAre 5 = .ok (.bipush 6, 2) := by decide +kernel
theorem dX3_whoAre_7 : decode cX3_whoAre 7 = .ok (.if_icmp .ge 25, 3) := by decide +kernel
theorem dX3_whoAre_10 : decode cX3_whoAre 10 = .ok (.aload_n 0, 1) := by decide +kernel
theorem dX3_whoAre_11 : decode cX3_whoAre 11 = .ok (.getfield 21, 3) := by decide +kernel
theorem dX3_whoAre_14 : decode cX3_whoAre 14 = .ok (.iload_n 3, 1) := by decide +kernel
theorem dX3_whoAre_15 : decode cX3_whoAre 15 = .ok (.iaload, 1) := by decide +kernel
theorem dX3_whoAre_16 : decode cX3_whoAre 16 = .ok (.iload_n 1, 1) := by decide +kernel
theorem dX3_whoAre_17 : decode cX3_whoAre 17 = .ok (.if_icmp .ne 9, 3) := by decide +kernel
theorem dX3_whoAre_20 : decode cX3_whoAre 20 = .ok (.iload_n 2, 1) := by decide +kernel
theorem dX3_whoAre_21 : decode cX3_whoAre 21 = .ok (.iconst 1, 1) := by decide +kernel
theorem dX3_whoAre_22 : decode cX3_whoAre 22 = .ok (.iload_n 3, 1) := by decide +kernel
theorem dX3_whoAre_23 : decode cX3_whoAre 23 = .ok (.ishl, 1) := by decide +kernel
theorem dX3_whoAre_24 : decode cX3_whoAre 24 = .ok (.ior, 1) := by decide +kernel
theorem dX3_whoAre_25 : decode cX3_whoAre 25 = .ok (.istore_n 2, 1) := by decide +kernel
theorem dX3_whoAre_26 : decode cX3_whoAre 26 = .ok (.iinc 3 1, 3) := by decide +kernel
theorem dX3_whoAre_29 : decode cX3_whoAre 29 = .ok (.goto (-25), 3) := by decide +kernel
theorem dX3_whoAre_32 : decode cX3_whoAre 32 = .ok (.iload_n 2, 1) := by decide +kernel
theorem dX3_whoAre_33 : decode cX3_whoAre 33 = .ok (.ireturn, 1) := by decide +kernel
theorem dX3_sendRound_0 : decode cX3_sendRound 0 = .ok (.aload_n 0, 1) := by decide +kernel
theorem dX3_sendRound_1 : decode cX3_sendRound 1 = .ok (.getfield 21, 3) := by decide +kernel
theorem dX3_sendRound_4 : decode cX3_sendRound 4 = .ok (.iload_n 1, 1) := by decide +kernel
theorem dX3_sendRound_5 : decode cX3_sendRound 5 = .ok (.iconst 2, 1) := by decide +kernel
theorem dX3_sendRound_6 : decode cX3_sendRound 6 = .ok (.iastore, 1) := by decide +kernel
theorem dX3_sendRound_7 : decode cX3_sendRound 7 = .ok (.aload_n 0, 1) := by decide +kernel
theorem dX3_sendRound_8 : decode cX3_sendRound 8 = .ok (.getfield 25, 3) := by decide +kernel
theorem dX3_sendRound_11 : decode cX3_sendRound 11 = .ok (.iload_n 1, 1) := by decide +kernel
theorem dX3_sendRound_12 : decode cX3_sendRound 12 = .ok (.aload_n 0, 1) := by decide +kernel
theorem dX3_sendRound_13 : decode cX3_sendRound 13 = .ok (.getfield 9, 3) := by decide +kernel
theorem dX3_sendRound_16 : decode cX3_sendRound 16 = .ok (.iload_n 2, 1) := by decide +kernel
theorem dX3_sendRound_17 : decode cX3_sendRound 17 = .ok (.iadd, 1) := by decide +kernel
theorem dX3_sendRound_18 : decode cX3_sendRound 18 = .ok (.iastore, 1) := by decide +kernel
theorem dX3_sendRound_19 : decode cX3_sendRound 19 = .ok (.aload_n 0, 1) := by decide +kernel
theorem dX3_sendRound_20 : decode cX3_sendRound 20 = .ok (.getfield 28, 3) := by decide +kernel
theorem dX3_sendRound_23 : decode cX3_sendRound 23 = .ok (.iload_n 1, 1) := by decide +kernel
theorem dX3_sendRound_24 : decode cX3_sendRound 24 = .ok (.dup2, 1) := by decide +kernel
theorem dX3_sendRound_25 : decode cX3_sendRound 25 = .ok (.iaload, 1) := by decide +kernel
theorem dX3_sendRound_26 : decode cX3_sendRound 26 = .ok (.iconst 1, 1) := by decide +kernel
theorem dX3_sendRound_27 : decode cX3_sendRound 27 = .ok (.iadd, 1) := by decide +kernel
theorem dX3_sendRound_28 : decode cX3_sendRound 28 = .ok (.iastore, 1) := by decide +kernel
theorem dX3_sendRound_29 : decode cX3_sendRound 29 = .ok (.return_, 1) := by decide +kernel
theorem dX3_pass_0 : decode cX3_pass 0 = .ok (.aload_n 0, 1) := by decide +kernel
theorem dX3_pass_1 : decode cX3_pass 1 = .ok (.dup, 1) := by decide +kernel
theorem dX3_pass_2 : decode cX3_pass 2 = .ok (.getfield 9, 3) := by decide +kernel
theorem dX3_pass_5 : decode cX3_pass 5 = .ok (.iload_n 1, 1) := by decide +kernel
theorem dX3_pass_6 : decode cX3_pass 6 = .ok (.iadd, 1) := by decide +kernel
theorem dX3_pass_7 : decode cX3_pass 7 = .ok (.putfield 9, 3) := by decide +kernel
theorem dX3_pass_10 : decode cX3_pass 10 = .ok (.iconst 0, 1) := by decide +kernel
theorem dX3_pass_11 : decode cX3_pass 11 = .ok (.istore_n 2, 1) := by decide +kernel
theorem dX3_pass_12 : decode cX3_pass 12 = .ok (.iload_n 2, 1) := by decide +kernel
theorem dX3_pass_13 : decode cX3_pass 13 = .ok (.bipush 6, 2) := by decide +kernel
theorem dX3_pass_15 : decode cX3_pass 15 = .ok (.if_icmp .ge 39, 3) := by decide +kernel
theorem dX3_pass_18 : decode cX3_pass 18 = .ok (.aload_n 0, 1) := by decide +kernel
theorem dX3_pass_19 : decode cX3_pass 19 = .ok (.getfield 21, 3) := by decide +kernel
theorem dX3_pass_22 : decode cX3_pass 22 = .ok (.iload_n 2, 1) := by decide +kernel
theorem dX3_pass_23 : decode cX3_pass 23 = .ok (.iaload, 1) := by decide +kernel
theorem dX3_pass_24 : decode cX3_pass 24 = .ok (.iconst 2, 1) := by decide +kernel
theorem dX3_pass_25 : decode cX3_pass 25 = .ok (.if_icmp .ne 23, 3) := by decide +kernel
theorem dX3_pass_28 : decode cX3_pass 28 = .ok (.aload_n 0, 1) := by decide +kernel
theorem dX3_pass_29 : decode cX3_pass 29 = .ok (.getfield 25, 3) := by decide +kernel
theorem dX3_pass_32 : decode cX3_pass 32 = .ok (.iload_n 2, 1) := by decide +kernel
theorem dX3_pass_33 : decode cX3_pass 33 = .ok (.iaload, 1) := by decide +kernel
theorem dX3_pass_34 : decode cX3_pass 34 = .ok (.aload_n 0, 1) := by decide +kernel
theorem dX3_pass_35 : decode cX3_pass 35 = .ok (.getfield 9, 3) := by decide +kernel
theorem dX3_pass_38 : decode cX3_pass 38 = .ok (.if_icmp .gt 10, 3) := by decide +kernel
theorem dX3_pass_41 : decode cX3_pass 41 = .ok (.aload_n 0, 1) := by decide +kernel
theorem dX3_pass_42 : decode cX3_pass 42 = .ok (.getfield 21, 3) := by decide +kernel
theorem dX3_pass_45 : decode cX3_pass 45 = .ok (.iload_n 2, 1) := by decide +kernel
theorem dX3_pass_46 : decode cX3_pass 46 = .ok (.iconst 1, 1) := by decide +kernel
theorem dX3_pass_47 : decode cX3_pass 47 = .ok (.iastore, 1) := by decide +kernel
theorem dX3_pass_48 : decode cX3_pass 48 = .ok (.iinc 2 1, 3) := by decide +kernel
theorem dX3_pass_51 : decode cX3_pass 51 = .ok (.goto (-39), 3) := by decide +kernel
theorem dX3_pass_54 : decode cX3_pass 54 = .ok (.return_, 1) := by decide +kernel
theorem dX4_init_0 : decode cX4_init 0 = .ok (.aload_n 0, 1) := by decide +kernel
theorem dX4_init_1 : decode cX4_init 1 = .ok (.invokespecial 3, 3) := by decide +kernel
theorem dX4_init_4 : decode cX4_init 4 = .ok (.aload_n 0, 1) := by decide +kernel
theorem dX4_init_5 : decode cX4_init 5 = .ok (.bipush 6, 2) := by decide +kernel
theorem dX4_init_7 : decode cX4_init 7 = .ok (.newarray .int, 2) := by decide +kernel
theorem dX4_init_9 : decode cX4_init 9 = .ok (.putfield 9, 3) := by decide +kernel
theorem dX4_init_12 : decode cX4_init 12 = .ok (.aload_n 0, 1) := by decide +kernel
theorem dX4_init_13 : decode cX4_init 13 = .ok (.bipush 6, 2) := by decide +kernel
theorem dX4_init_15 : decode cX4_init 15 = .ok (.newarray .int, 2) := by decide +kernel
theorem dX4_init_17 : decode cX4_init 17 = .ok (.putfield 15, 3) := by decide +kernel
theorem dX4_init_20 : decode cX4_init 20 = .ok (.aload_n 0, 1) := by decide +kernel
theorem dX4_init_21 : decode cX4_init 21 = .ok (.bipush 6, 2) := by decide +kernel
theorem dX4_init_23 : decode cX4_init 23 = .ok (.newarray .int, 2) := by decide +kernel
theorem dX4_init_25 : decode cX4_init 25 = .ok (.putfield 18, 3) := by decide +kernel
theorem dX4_init_28 : decode cX4_init 28 = .ok (.aload_n 0, 1) := by decide +kernel
theorem dX4_init_29 : decode cX4_init 29 = .ok (.iconst 0, 1) := by decide +kernel
theorem dX4_init_30 : decode cX4_init 30 = .ok (.putfield 21, 3) := by decide +kernel
theorem dX4_init_33 : decode cX4_init 33 = .ok (.return_, 1) := by decide +kernel
theorem dX4_add_0 : decode cX4_add 0 = .ok (.aload_n 0, 1) := by decide +kernel
theorem dX4_add_1 : decode cX4_add 1 = .ok (.getfield 9, 3) := by decide +kernel
theorem dX4_add_4 : decode cX4_add 4 = .ok (.aload_n 0, 1) := by decide +kernel
theorem dX4_add_5 : decode cX4_add 5 = .ok (.getfield 21, 3) := by decide +kernel
theorem dX4_add_8 : decode cX4_add 8 = .ok (.iload_n 1, 1) := by decide +kernel
theorem dX4_add_9 : decode cX4_add 9 = .ok (.iastore, 1) := by decide +kernel
theorem dX4_add_10 : decode cX4_add 10 = .ok (.aload_n 0, 1) := by decide +kernel
theorem dX4_add_11 : decode cX4_add 11 = .ok (.getfield 15, 3) := by decide +kernel
theorem dX4_add_14 : decode cX4_add 14 = .ok (.aload_n 0, 1) := by decide +kernel
theorem dX4_add_15 : decode cX4_add 15 = .ok (.getfield 21, 3) := by decide +kernel
theorem dX4_add_18 : decode cX4_add 18 = .ok (.iload_n 2, 1) := by decide +kernel
theorem dX4_add_19 : decode cX4_add 19 = .ok (.iastore, 1) := by decide +kernel
theorem dX4_add_20 : decode cX4_add 20 = .ok (.aload_n 0, 1) := by decide +kernel
theorem dX4_add_21 : decode cX4_add 21 = .ok (.getfield 18, 3) := by decide +kernel
theorem dX4_add_24 : decode cX4_add 24 = .ok (.aload_n 0, 1) := by decide +kernel
theorem dX4_add_25 : decode cX4_add 25 = .ok (.getfield 21, 3) := by decide +kernel
theorem dX4_add_28 : decode cX4_add 28 = .ok (.iload_n 3, 1) := by decide +kernel
theorem dX4_add_29 : decode cX4_add 29 = .ok (.iastore, 1) := by decide +kernel
theorem dX4_add_30 : decode cX4_add 30 = .ok (.aload_n 0, 1) := by decide +kernel
theorem dX4_add_31 : decode cX4_add 31 = .ok (.dup, 1) := by decide +kernel
theorem dX4_add_32 : decode cX4_add 32 = .ok (.getfield 21, 3) := by decide +kernel
theorem dX4_add_35 : decode cX4_add 35 = .ok (.iconst 1, 1) := by decide +kernel
theorem dX4_add_36 : decode cX4_add 36 = .ok (.iadd, 1) := by decide +kernel
theorem dX4_add_37 : decode cX4_add 37 = .ok (.putfield 21, 3) := by decide +kernel
theorem dX4_add_40 : decode cX4_add 40 = .ok (.return_, 1) := by decide +kernel
theorem dX4_allows_0 : decode cX4_allows 0 = .ok (.iconst 0, 1) := by decide +kernel
theorem dX4_allows_1 : decode cX4_allows 1 = .ok (.istore_n 3, 1) := by decide +kernel
theorem dX4_allows_2 : decode cX4_allows 2 = .ok (.iload_n 3, 1) := by decide +kernel
theorem dX4_allows_3 : decode cX4_allows 3 = .ok (.aload_n 0, 1) := by decide +kernel
theorem dX4_allows_4 : decode cX4_allows 4 = .ok (.getfield 21, 3) := by decide +kernel
theorem dX4_allows_7 : decode cX4_allows 7 = .ok (.if_icmp .ge 70, 3) := by decide +kernel
theorem dX4_allows_10 : decode cX4_allows 10 = .ok (.iload_n 1, 1) := by decide +kernel
theorem dX4_allows_11 : decode cX4_allows 11 = .ok (.aload_n 0, 1) := by decide +kernel
theorem dX4_allows_12 : decode cX4_allows 12 = .ok (.getfield 9, 3) := by decide +kernel
theorem dX4_allows_15 : decode cX4_allows 15 = .ok (.iload_n 3, 1) := by decide +kernel
theorem dX4_allows_16 : decode cX4_allows 16 = .ok (.iaload, 1) := by decide +kernel
theorem dX4_allows_17 : decode cX4_allows 17 = .ok (.invokestatic 25, 3) := by decide +kernel
theorem dX4_allows_20 : decode cX4_allows 20 = .ok (.ifCond .eq 26, 3) := by decide +kernel
theorem dX4_allows_23 : decode cX4_allows 23 = .ok (.aload_n 2, 1) := by decide +kernel
theorem dX4_allows_24 : decode cX4_allows 24 = .ok (.aload_n 0, 1) := by decide +kernel
theorem dX4_allows_25 : decode cX4_allows 25 = .ok (.getfield 9, 3) := by decide +kernel
theorem dX4_allows_28 : decode cX4_allows 28 = .ok (.iload_n 3, 1) := by decide +kernel
theorem dX4_allows_29 : decode cX4_allows 29 = .ok (.iaload, 1) := by decide +kernel
theorem dX4_allows_30 : decode cX4_allows 30 = .ok (.aload_n 0, 1) := by decide +kernel
theorem dX4_allows_31 : decode cX4_allows 31 = .ok (.getfield 15, 3) := by decide +kernel
theorem dX4_allows_34 : decode cX4_allows 34 = .ok (.iload_n 3, 1) := by decide +kernel
theorem dX4_allows_35 : decode cX4_allows 35 = .ok (.iaload, 1) := by decide +kernel
theorem dX4_allows_36 : decode cX4_allows 36 = .ok (.invokevirtual 29, 3) := by decide +kernel
theorem dX4_allows_39 : decode cX4_allows 39 = .ok (.ifCond .eq 7, 3) := by decide +kernel
theorem dX4_allows_42 : decode cX4_allows 42 = .ok (.iconst 1, 1) := by decide +kernel
theorem dX4_allows_43 : decode cX4_allows 43 = .ok (.goto 4, 3) := by decide +kernel
theorem dX4_allows_46 : decode cX4_allows 46 = .ok (.iconst 0, 1) := by decide +kernel
theorem dX4_allows_47 : decode cX4_allows 47 = .ok (.istore 4, 2) := by decide +kernel
theorem dX4_allows_49 : decode cX4_allows 49 = .ok (.iload 4, 2) := by decide +kernel
theorem dX4_allows_51 : decode cX4_allows 51 = .ok (.aload_n 0, 1) := by decide +kernel
theorem dX4_allows_52 : decode cX4_allows 52 = .ok (.getfield 18, 3) := by decide +kernel
theorem dX4_allows_55 : decode cX4_allows 55 = .ok (.iload_n 3, 1) := by decide +kernel
theorem dX4_allows_56 : decode cX4_allows 56 = .ok (.iaload, 1) := by decide +kernel
theorem dX4_allows_57 : decode cX4_allows 57 = .ok (.iconst 1, 1) := by decide +kernel
theorem dX4_allows_58 : decode cX4_allows 58 = .ok (.if_icmp .ne 7, 3) := by decide +kernel
theorem dX4_allows_61 : decode cX4_allows 61 = .ok (.iconst 1, 1) := by decide +kernel
theorem dX4_allows_62 : decode cX4_allows 62 = .ok (.goto 4, 3) := by decide +kernel
theorem dX4_allows_65 : decode cX4_allows 65 = .ok (.iconst 0, 1) := by decide +kernel
theorem dX4_allows_66 : decode cX4_allows 66 = .ok (.if_icmp .eq 5, 3) := by decide +kernel
theorem dX4_allows_69 : decode cX4_allows 69 = .ok (.iconst 0, 1) := by decide +kernel
theorem dX4_allows_70 : decode cX4_allows 70 = .ok (.ireturn, 1) := by decide +kernel
theorem dX4_allows_71 : decode cX4_allows 71 = .ok (.iinc 3 1, 3) := by decide +kernel
theorem dX4_allows_74 : decode cX4_allows 74 = .ok (.goto (-72), 3) := by decide +kernel
theorem dX4_allows_77 : decode cX4_allows 77 = .ok (.iconst 1, 1) := by decide +kernel
theorem dX4_allows_78 : decode cX4_allows 78 = .ok (.ireturn, 1) := by decide +kernel
