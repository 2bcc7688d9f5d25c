theorem dX6_init_0 : decode cX6_init 0 = .ok (.aload_n 0, 1) := by decide +kernel
theorem dX6_init_1 : decode cX6_init 1 = .ok (.invokespecial 1, 3) := by decide +kernel
theorem dX6_init_4 : decode cX6_init 4 = .ok (.aload_n 0, 1) := by decide +kernel
theorem dX6_init_5 : decode cX6_init 5 = .ok (.new 7, 3) := by decide +kernel
theorem dX6_init_8 : decode cX6_init 8 = .ok (.dup, 1) := by decide +kernel
theorem dX6_init_9 : decode cX6_init 9 = .ok (.invokespecial 9, 3) := by decide +kernel
theorem dX6_init_12 : decode cX6_init 12 = .ok (.putfield 10, 3) := by decide +kernel
theorem dX6_init_15 : decode cX6_init 15 = .ok (.aload_n 0, 1) := by decide +kernel
theorem dX6_init_16 : decode cX6_init 16 = .ok (.new 16, 3) := by decide +kernel
theorem dX6_init_19 : decode cX6_init 19 = .ok (.dup, 1) := by decide +kernel
theorem dX6_init_20 : decode cX6_init 20 = .ok (.invokespecial 18, 3) := by decide +kernel
theorem dX6_init_23 : decode cX6_init 23 = .ok (.putfield 19, 3) := by decide +kernel
theorem dX6_init_26 : decode cX6_init 26 = .ok (.aload_n 0, 1) := by decide +kernel
theorem dX6_init_27 : decode cX6_init 27 = .ok (.new 16, 3) := by decide +kernel
theorem dX6_init_30 : decode cX6_init 30 = .ok (.dup, 1) := by decide +kernel
theorem dX6_init_31 : decode cX6_init 31 = .ok (.invokespecial 18, 3) := by decide +kernel
theorem dX6_init_34 : decode cX6_init 34 = .ok (.putfield 23, 3) := by decide +kernel
theorem dX6_init_37 : decode cX6_init 37 = .ok (.aload_n 0, 1) := by decide +kernel
theorem dX6_init_38 : decode cX6_init 38 = .ok (.new 26, 3) := by decide +kernel
theorem dX6_init_41 : decode cX6_init 41 = .ok (.dup, 1) := by decide +kernel
theorem dX6_init_42 : decode cX6_init 42 = .ok (.invokespecial 28, 3) := by decide +kernel
theorem dX6_init_45 : decode cX6_init 45 = .ok (.putfield 29, 3) := by decide +kernel
theorem dX6_init_48 : decode cX6_init 48 = .ok (.aload_n 0, 1) := by decide +kernel
theorem dX6_init_49 : decode cX6_init 49 = .ok (.new 33, 3) := by decide +kernel
theorem dX6_init_52 : decode cX6_init 52 = .ok (.dup, 1) := by decide +kernel
theorem dX6_init_53 : decode cX6_init 53 = .ok (.invokespecial 35, 3) := by decide +kernel
theorem dX6_init_56 : decode cX6_init 56 = .ok (.putfield 36, 3) := by decide +kernel
theorem dX6_init_59 : decode cX6_init 59 = .ok (.aload_n 0, 1) := by decide +kernel
theorem dX6_init_60 : decode cX6_init 60 = .ok (.iconst 2, 1) := by decide +kernel
theorem dX6_init_61 : decode cX6_init 61 = .ok (.anewarray 26, 3) := by decide +kernel
theorem dX6_init_64 : decode cX6_init 64 = .ok (.putfield 40, 3) := by decide +kernel
theorem dX6_init_67 : decode cX6_init 67 = .ok (.aload_n 0, 1) := by decide +kernel
theorem dX6_init_68 : decode cX6_init 68 = .ok (.iconst 2, 1) := by decide +kernel
theorem dX6_init_69 : decode cX6_init 69 = .ok (.newarray .boolean, 2) := by decide +kernel
theorem dX6_init_71 : decode cX6_init 71 = .ok (.putfield 44, 3) := by decide +kernel
theorem dX6_init_74 : decode cX6_init 74 = .ok (.aload_n 0, 1) := by decide +kernel
theorem dX6_init_75 : decode cX6_init 75 = .ok (.new 48, 3) := by decide +kernel
theorem dX6_init_78 : decode cX6_init 78 = .ok (.dup, 1) := by decide +kernel
theorem dX6_init_79 : decode cX6_init 79 = .ok (.invokespecial 50, 3) := by decide +kernel
theorem dX6_init_82 : decode cX6_init 82 = .ok (.putfield 51, 3) := by decide +kernel
theorem dX6_init_85 : decode cX6_init 85 = .ok (.aload_n 0, 1) := by decide +kernel
theorem dX6_init_86 : decode cX6_init 86 = .ok (.new 55, 3) := by decide +kernel
theorem dX6_init_89 : decode cX6_init 89 = .ok (.dup, 1) := by decide +kernel
theorem dX6_init_90 : decode cX6_init 90 = .ok (.invokespecial 57, 3) := by decide +kernel
theorem dX6_init_93 : decode cX6_init 93 = .ok (.putfield 58, 3) := by decide +kernel
theorem dX6_init_96 : decode cX6_init 96 = .ok (.aload_n 0, 1) := by decide +kernel
theorem dX6_init_97 : decode cX6_init 97 = .ok (.lconst 0, 1) := by decide +kernel
theorem dX6_init_98 : decode cX6_init 98 = .ok (.putfield 62, 3) := by decide +kernel
theorem dX6_init_101 : decode cX6_init 101 = .ok (.iconst 0, 1) := by decide +kernel
theorem dX6_init_102 : decode cX6_init 102 = .ok (.istore_n 1, 1) := by decide +kernel
theorem dX6_init_103 : decode cX6_init 103 = .ok (.iload_n 1, 1) := by decide +kernel
theorem dX6_init_104 : decode cX6_init 104 = .ok (.iconst 2, 1) := by decide +kernel
theorem dX6_init_105 : decode cX6_init 105 = .ok (.if_icmp .ge 22, 3) := by decide +kernel
theorem dX6_init_108 : decode cX6_init 108 = .ok (.aload_n 0, 1) := by decide +kernel
theorem dX6_init_109 : decode cX6_init 109 = .ok (.getfield 40, 3) := by decide +kernel
theorem dX6_init_112 : decode cX6_init 112 = .ok (.iload_n 1, 1) := by decide +kernel
theorem dX6_init_113 : decode cX6_init 113 = .ok (.new 26, 3) := by decide +kernel
theorem dX6_init_116 : decode cX6_init 116 = .ok (.dup, 1) := by decide +kernel
theorem dX6_init_117 : decode cX6_init 117 = .ok (.invokespecial 28, 3) := by decide +kernel
theorem dX6_init_120 : decode cX6_init 120 = .ok (.aastore, 1) := by decide +kernel
theorem dX6_init_121 : decode cX6_init 121 = .ok (.iinc 1 1, 3) := by decide +kernel
theorem dX6_init_124 : decode cX6_init 124 = .ok (.goto (-21), 3) := by decide +kernel
theorem dX6_init_127 : decode cX6_init 127 = .ok (.return_, 1) := by decide +kernel
theorem dX6_type_0 : decode cX6_type 0 = .ok (.iload_n 1, 1) := by decide +kernel
theorem dX6_type_1 : decode cX6_type 1 = .ok (.ifCond .lt 10, 3) := by decide +kernel
theorem dX6_type_4 : decode cX6_type 4 = .ok (.iload_n 1, 1) := by decide +kernel
theorem dX6_type_5 : decode cX6_type 5 = .ok (.sipush 255, 3) := by decide +kernel
theorem dX6_type_8 : decode cX6_type 8 = .ok (.if_icmp .le 5, 3) := by decide +kernel
theorem dX6_type_11 : decode cX6_type 11 = .ok (.iconst (-1), 1) := by decide +kernel
theorem dX6_type_12 : decode cX6_type 12 = .ok (.ireturn, 1) := by decide +kernel
theorem dX6_type_13 : decode cX6_type 13 = .ok (.aload_n 0, 1) := by decide +kernel
theorem dX6_type_14 : decode cX6_type 14 = .ok (.getfield 10, 3) := by decide +kernel
theorem dX6_type_17 : decode cX6_type 17 = .ok (.getfield 66, 3) := by decide +kernel
theorem dX6_type_20 : decode cX6_type 20 = .ok (.sipush 160, 3) := by decide +kernel
theorem dX6_type_23 : decode cX6_type 23 = .ok (.if_icmp .lt 6, 3) := by decide +kernel
theorem dX6_type_26 : decode cX6_type 26 = .ok (.bipush (-3), 2) := by decide +kernel
theorem dX6_type_28 : decode cX6_type 28 = .ok (.ireturn, 1) := by decide +kernel
theorem dX6_type_29 : decode cX6_type 29 = .ok (.aload_n 0, 1) := by decide +kernel
theorem dX6_type_30 : decode cX6_type 30 = .ok (.getfield 10, 3) := by decide +kernel
theorem dX6_type_33 : decode cX6_type 33 = .ok (.getfield 70, 3) := by decide +kernel
theorem dX6_type_36 : decode cX6_type 36 = .ok (.aload_n 0, 1) := by decide +kernel
theorem dX6_type_37 : decode cX6_type 37 = .ok (.getfield 10, 3) := by decide +kernel
theorem dX6_type_40 : decode cX6_type 40 = .ok (.getfield 66, 3) := by decide +kernel
theorem dX6_type_43 : decode cX6_type 43 = .ok (.iload_n 1, 1) := by decide +kernel
theorem dX6_type_44 : decode cX6_type 44 = .ok (.iastore, 1) := by decide +kernel
theorem dX6_type_45 : decode cX6_type 45 = .ok (.aload_n 0, 1) := by decide +kernel
theorem dX6_type_46 : decode cX6_type 46 = .ok (.getfield 10, 3) := by decide +kernel
theorem dX6_type_49 : decode cX6_type 49 = .ok (.dup, 1) := by decide +kernel
theorem dX6_type_50 : decode cX6_type 50 = .ok (.getfield 66, 3) := by decide +kernel
theorem dX6_type_53 : decode cX6_type 53 = .ok (.iconst 1, 1) := by decide +kernel
theorem dX6_type_54 : decode cX6_type 54 = .ok (.iadd, 1) := by decide +kernel
theorem dX6_type_55 : decode cX6_type 55 = .ok (.putfield 66, 3) := by decide +kernel
theorem dX6_type_58 : decode cX6_type 58 = .ok (.aload_n 0, 1) := by decide +kernel
theorem dX6_type_59 : decode cX6_type 59 = .ok (.getfield 10, 3) := by decide +kernel
theorem dX6_type_62 : decode cX6_type 62 = .ok (.getfield 66, 3) := by decide +kernel
theorem dX6_type_65 : decode cX6_type 65 = .ok (.ireturn, 1) := by decide +kernel
theorem dX6_clear_0 : decode cX6_clear 0 = .ok (.aload_n 0, 1) := by decide +kernel
theorem dX6_clear_1 : decode cX6_clear 1 = .ok (.getfield 10, 3) := by decide +kernel
theorem dX6_clear_4 : decode cX6_clear 4 = .ok (.getfield 66, 3) := by decide +kernel
theorem dX6_clear_7 : decode cX6_clear 7 = .ok (.istore_n 1, 1) := by decide +kernel
theorem dX6_clear_8 : decode cX6_clear 8 = .ok (.aload_n 0, 1) := by decide +kernel
theorem dX6_clear_9 : decode cX6_clear 9 = .ok (.getfield 10, 3) := by decide +kernel
theorem dX6_clear_12 : decode cX6_clear 12 = .ok (.iconst 0, 1) := by decide +kernel
theorem dX6_clear_13 : decode cX6_clear 13 = .ok (.putfield 66, 3) := by decide +kernel
theorem dX6_clear_16 : decode cX6_clear 16 = .ok (.iload_n 1, 1) := by decide +kernel
theorem dX6_clear_17 : decode cX6_clear 17 = .ok (.ireturn, 1) := by decide +kernel
theorem dX6_court_0 : decode cX6_court 0 = .ok (.aload_n 0, 1) := by decide +kernel
theorem dX6_court_1 : decode cX6_court 1 = .ok (.getfield 10, 3) := by decide +kernel
theorem dX6_court_4 : decode cX6_court 4 = .ok (.aload_n 0, 1) := by decide +kernel
theorem dX6_court_5 : decode cX6_court 5 = .ok (.getfield 23, 3) := by decide +kernel
theorem dX6_court_8 : decode cX6_court 8 = .ok (.invokevirtual 74, 3) := by decide +kernel
theorem dX6_court_11 : decode cX6_court 11 = .ok (.istore_n 1, 1) := by decide +kernel
theorem dX6_court_12 : decode cX6_court 12 = .ok (.iload_n 1, 1) := by decide +kernel
theorem dX6_court_13 : decode cX6_court 13 = .ok (.ifCond .ge 5, 3) := by decide +kernel
theorem dX6_court_16 : decode cX6_court 16 = .ok (.iload_n 1, 1) := by decide +kernel
theorem dX6_court_17 : decode cX6_court 17 = .ok (.ireturn, 1) := by decide +kernel
theorem dX6_court_18 : decode cX6_court 18 = .ok (.aload_n 0, 1) := by decide +kernel
theorem dX6_court_19 : decode cX6_court 19 = .ok (.getfield 19, 3) := by decide +kernel
theorem dX6_court_22 : decode cX6_court 22 = .ok (.astore_n 2, 1) := by decide +kernel
theorem dX6_court_23 : decode cX6_court 23 = .ok (.aload_n 0, 1) := by decide +kernel
theorem dX6_court_24 : decode cX6_court 24 = .ok (.aload_n 0, 1) := by decide +kernel
theorem dX6_court_25 : decode cX6_court 25 = .ok (.getfield 23, 3) := by decide +kernel
theorem dX6_court_28 : decode cX6_court 28 = .ok (.putfield 19, 3) := by decide +kernel
theorem dX6_court_31 : decode cX6_court 31 = .ok (.aload_n 0, 1) := by decide +kernel
theorem dX6_court_32 : decode cX6_court 32 = .ok (.aload_n 2, 1) := by decide +kernel
theorem dX6_court_33 : decode cX6_court 33 = .ok (.putfield 23, 3) := by decide +kernel
theorem dX6_court_36 : decode cX6_court 36 = .ok (.aload_n 0, 1) := by decide +kernel
theorem dX6_court_37 : decode cX6_court 37 = .ok (.getfield 10, 3) := by decide +kernel
theorem dX6_court_40 : decode cX6_court 40 = .ok (.iconst 0, 1) := by decide +kernel
theorem dX6_court_41 : decode cX6_court 41 = .ok (.putfield 66, 3) := by decide +kernel
theorem dX6_court_44 : decode cX6_court 44 = .ok (.aload_n 0, 1) := by decide +kernel
theorem dX6_court_45 : decode cX6_court 45 = .ok (.getfield 29, 3) := by decide +kernel
theorem dX6_court_48 : decode cX6_court 48 = .ok (.invokevirtual 78, 3) := by decide +kernel
theorem dX6_court_51 : decode cX6_court 51 = .ok (.aload_n 0, 1) := by decide +kernel
theorem dX6_court_52 : decode cX6_court 52 = .ok (.getfield 36, 3) := by decide +kernel
theorem dX6_court_55 : decode cX6_court 55 = .ok (.iconst 0, 1) := by decide +kernel
theorem dX6_court_56 : decode cX6_court 56 = .ok (.putfield 81, 3) := by decide +kernel
theorem dX6_court_59 : decode cX6_court 59 = .ok (.aload_n 0, 1) := by decide +kernel
theorem dX6_court_60 : decode cX6_court 60 = .ok (.getfield 51, 3) := by decide +kernel
theorem dX6_court_63 : decode cX6_court 63 = .ok (.iconst 0, 1) := by decide +kernel
theorem dX6_court_64 : decode cX6_court 64 = .ok (.putfield 84, 3) := by decide +kernel
theorem dX6_court_67 : decode cX6_court 67 = .ok (.iconst 0, 1) := by decide +kernel
theorem dX6_court_68 : decode cX6_court 68 = .ok (.istore_n 3, 1) := by decide +kernel
theorem dX6_court_69 : decode cX6_court 69 = .ok (.iload_n 3, 1) := by decide +kernel
theorem dX6_court_70 : decode cX6_court 70 = .ok (.iconst 2, 1) := by decide +kernel
theorem dX6_court_71 : decode cX6_court 71 = .ok (.if_icmp .ge 16, 3) := by decide +kernel
theorem dX6_court_74 : decode cX6_court 74 = .ok (.aload_n 0, 1) := by decide +kernel
theorem dX6_court_75 : decode cX6_court 75 = .ok (.getfield 44, 3) := by decide +kernel
theorem dX6_court_78 : decode cX6_court 78 = .ok (.iload_n 3, 1) := by decide +kernel
theorem dX6_court_79 : decode cX6_court 79 = .ok (.iconst 0, 1) := by decide +kernel
theorem dX6_court_80 : decode cX6_court 80 = .ok (.bastore, 1) := by decide +kernel
theorem dX6_court_81 : decode cX6_court 81 = .ok (.iinc 3 1, 3) := by decide +kernel
theorem dX6_court_84 : decode cX6_court 84 = .ok (.goto (-15), 3) := by decide +kernel
theorem dX6_court_87 : decode cX6_court 87 = .ok (.iload_n 1, 1) := by decide +kernel
theorem dX6_court_88 : decode cX6_court 88 = .ok (.ireturn, 1) := by decide +kernel
theorem dX6_leaf_0 : decode cX6_leaf 0 = .ok (.aload_n 0, 1) := by decide +kernel
theorem dX6_leaf_1 : decode cX6_leaf 1 = .ok (.getfield 19, 3) := by decide +kernel
theorem dX6_leaf_4 : decode cX6_leaf 4 = .ok (.iload_n 1, 1) := by decide +kernel
theorem dX6_leaf_5 : decode cX6_leaf 5 = .ok (.invokevirtual 87, 3) := by decide +kernel
theorem dX6_leaf_8 : decode cX6_leaf 8 = .ok (.ifCond .ne 5, 3) := by decide +kernel
theorem dX6_leaf_11 : decode cX6_leaf 11 = .ok (.iconst (-1), 1) := by decide +kernel
theorem dX6_leaf_12 : decode cX6_leaf 12 = .ok (.ireturn, 1) := by decide +kernel
theorem dX6_leaf_13 : decode cX6_leaf 13 = .ok (.iload_n 2, 1) := by decide +kernel
theorem dX6_leaf_14 : decode cX6_leaf 14 = .ok (.lookupswitch 45 #[(0, 26), (1, 36)], 26) := by decide +kernel
theorem dX6_leaf_40 : decode cX6_leaf 40 = .ok (.aload_n 0, 1) := by decide +kernel
theorem dX6_leaf_41 : decode cX6_leaf 41 = .ok (.getfield 19, 3) := by decide +kernel
theorem dX6_leaf_44 : decode cX6_leaf 44 = .ok (.getfield 91, 3) := by decide +kernel
theorem dX6_leaf_47 : decode cX6_leaf 47 = .ok (.iload_n 1, 1) := by decide +kernel
theorem dX6_leaf_48 : decode cX6_leaf 48 = .ok (.iaload, 1) := by decide +kernel
theorem dX6_leaf_49 : decode cX6_leaf 49 = .ok (.ireturn, 1) := by decide +kernel
theorem dX6_leaf_50 : decode cX6_leaf 50 = .ok (.aload_n 0, 1) := by decide +kernel
theorem dX6_leaf_51 : decode cX6_leaf 51 = .ok (.getfield 19, 3) := by decide +kernel
theorem dX6_leaf_54 : decode cX6_leaf 54 = .ok (.iload_n 1, 1) := by decide +kernel
theorem dX6_leaf_55 : decode cX6_leaf 55 = .ok (.invokevirtual 94, 3) := by decide +kernel
theorem dX6_leaf_58 : decode cX6_leaf 58 = .ok (.ireturn, 1) := by decide +kernel
theorem dX6_leaf_59 : decode cX6_leaf 59 = .ok (.iconst (-1), 1) := by decide +kernel
theorem dX6_leaf_60 : decode cX6_leaf 60 = .ok (.ireturn, 1) := by decide +kernel
theorem dX6_goer_0 : decode cX6_goer 0 = .ok (.aload_n 0, 1) := by decide +kernel
theorem dX6_goer_1 : decode cX6_goer 1 = .ok (.getfield 19, 3) := by decide +kernel
theorem dX6_goer_4 : decode cX6_goer 4 = .ok (.iload_n 1, 1) := by decide +kernel
theorem dX6_goer_5 : decode cX6_goer 5 = .ok (.invokevirtual 98, 3) := by decide +kernel
theorem dX6_goer_8 : decode cX6_goer 8 = .ok (.ifCond .ne 5, 3) := by decide +kernel
theorem dX6_goer_11 : decode cX6_goer 11 = .ok (.iconst (-1), 1) := by decide +kernel
theorem dX6_goer_12 : decode cX6_goer 12 = .ok (.ireturn, 1) := by decide +kernel
theorem dX6_goer_13 : decode cX6_goer 13 = .ok (.iload_n 2, 1) := by decide +kernel
theorem dX6_goer_14 : decode cX6_goer 14 = .ok (.tableswitch 108 0 4 #[34, 44, 54, 89, 99], 34) := by decide +kernel
theorem dX6_goer_48 : decode cX6_goer 48 = .ok (.aload_n 0, 1) := by decide +kernel
theorem dX6_goer_49 : decode cX6_goer 49 = .ok (.getfield 19, 3) := by decide +kernel
theorem dX6_goer_52 : decode cX6_goer 52 = .ok (.getfield 101, 3) := by decide +kernel
theorem dX6_goer_55 : decode cX6_goer 55 = .ok (.iload_n 1, 1) := by decide +kernel
theorem dX6_goer_56 : decode cX6_goer 56 = .ok (.iaload, 1) := by decide +kernel
theorem dX6_goer_57 : decode cX6_goer 57 = .ok (.ireturn, 1) := by decide +kernel
theorem dX6_goer_58 : decode cX6_goer 58 = .ok (.aload_n 0, 1) := by decide +kernel
theorem dX6_goer_59 : decode cX6_goer 59 = .ok (.getfield 29, 3) := by decide +kernel
theorem dX6_goer_62 : decode cX6_goer 62 = .ok (.getfield 104, 3) := by decide +kernel
theorem dX6_goer_65 : decode cX6_goer 65 = .ok (.iload_n 1, 1) := by decide +kernel
theorem dX6_goer_66 : decode cX6_goer 66 = .ok (.iaload, 1) := by decide +kernel
theorem dX6_goer_67 : decode cX6_goer 67 = .ok (.ireturn, 1) := by decide +kernel
theorem dX6_goer_68 : decode cX6_goer 68 = .ok (.aload_n 0, 1) := by decide +kernel
theorem dX6_goer_69 : decode cX6_goer 69 = .ok (.getfield 29, 3) := by decide +kernel
theorem dX6_goer_72 : decode cX6_goer 72 = .ok (.getfield 104, 3) := by decide +kernel
theorem dX6_goer_75 : decode cX6_goer 75 = .ok (.iload_n 1, 1) := by decide +kernel
theorem dX6_goer_76 : decode cX6_goer 76 = .ok (.iaload, 1) := by decide +kernel
theorem dX6_goer_77 : decode cX6_goer 77 = .ok (.iconst 2, 1) := by decide +kernel
theorem dX6_goer_78 : decode cX6_goer 78 = .ok (.if_icmp .ne 23, 3) := by decide +kernel
theorem dX6_goer_81 : decode cX6_goer 81 = .ok (.aload_n 0, 1) := by decide +kernel
theorem dX6_goer_82 : decode cX6_goer 82 = .ok (.getfield 29, 3) := by decide +kernel
theorem dX6_goer_85 : decode cX6_goer 85 = .ok (.getfield 107, 3) := by decide +kernel
theorem dX6_goer_88 : decode cX6_goer 88 = .ok (.iload_n 1, 1) := by decide +kernel
theorem dX6_goer_89 : decode cX6_goer 89 = .ok (.iaload, 1) := by decide +kernel
theorem dX6_goer_90 : decode cX6_goer 90 = .ok (.aload_n 0, 1) := by decide +kernel
theorem dX6_goer_91 : decode cX6_goer 91 = .ok (.getfield 29, 3) := by decide +kernel
theorem dX6_goer_94 : decode cX6_goer 94 = .ok (.getfield 110, 3) := by decide +kernel
theorem dX6_goer_97 : decode cX6_goer 97 = .ok (.isub, 1) := by decide +kernel
theorem dX6_goer_98 : decode cX6_goer 98 = .ok (.goto 4, 3) := by decide +kernel
theorem dX6_goer_101 : decode cX6_goer 101 = .ok (.iconst 0, 1) := by decide +kernel
theorem dX6_goer_102 : decode cX6_goer 102 = .ok (.ireturn, 1) := by decide +kernel
theorem dX6_goer_103 : decode cX6_goer 103 = .ok (.aload_n 0, 1) := by decide +kernel
theorem dX6_goer_104 : decode cX6_goer 104 = .ok (.getfield 29, 3) := by decide +kernel
theorem dX6_goer_107 : decode cX6_goer 107 = .ok (.getfield 113, 3) := by decide +kernel
theorem dX6_goer_110 : decode cX6_goer 110 = .ok (.iload_n 1, 1) := by decide +kernel
theorem dX6_goer_111 : decode cX6_goer 111 = .ok (.iaload, 1) := by decide +kernel
theorem dX6_goer_112 : decode cX6_goer 112 = .ok (.ireturn, 1) := by decide +kernel
theorem dX6_goer_113 : decode cX6_goer 113 = .ok (.aload_n 0, 1) := by decide +kernel
theorem dX6_goer_114 : decode cX6_goer 114 = .ok (.getfield 19, 3) := by decide +kernel
theorem dX6_goer_117 : decode cX6_goer 117 = .ok (.iload_n 1, 1) := by decide +kernel
theorem dX6_goer_118 : decode cX6_goer 118 = .ok (.invokevirtual 116, 3) := by decide +kernel
theorem dX6_goer_121 : decode cX6_goer 121 = .ok (.ireturn, 1) := by decide +kernel
theorem dX6_goer_122 : decode cX6_goer 122 = .ok (.iconst (-1), 1) := by decide +kernel
theorem dX6_goer_123 : decode cX6_goer 123 = .ok (.ireturn, 1) := by decide +kernel
theorem dX6_sister_0 : decode cX6_sister 0 = .ok (.iload_n 1, 1) := by decide +kernel
theorem dX6_sister_1 : decode cX6_sister 1 = .ok (.ifCond .lt 21, 3) := by decide +kernel
theorem dX6_sister_4 : decode cX6_sister 4 = .ok (.iload_n 1, 1) := by decide +kernel
theorem dX6_sister_5 : decode cX6_sister 5 = .ok (.aload_n 0, 1) := by decide +kernel
theorem dX6_sister_6 : decode cX6_sister 6 = .ok (.getfield 19, 3) := by decide +kernel
theorem dX6_sister_9 : decode cX6_sister 9 = .ok (.getfield 119, 3) := by decide +kernel
theorem dX6_sister_12 : decode cX6_sister 12 = .ok (.if_icmp .ge 10, 3) := by decide +kernel
theorem dX6_sister_15 : decode cX6_sister 15 = .ok (.iload_n 2, 1) := by decide +kernel
theorem dX6_sister_16 : decode cX6_sister 16 = .ok (.invokestatic 122, 3) := by decide +kernel
theorem dX6_sister_19 : decode cX6_sister 19 = .ok (.ifCond .ne 5, 3) := by decide +kernel
theorem dX6_sister_22 : decode cX6_sister 22 = .ok (.iconst (-1), 1) := by decide +kernel
theorem dX6_sister_23 : decode cX6_sister 23 = .ok (.ireturn, 1) := by decide +kernel
theorem dX6_sister_24 : decode cX6_sister 24 = .ok (.aload_n 0, 1) := by decide +kernel
theorem dX6_sister_25 : decode cX6_sister 25 = .ok (.getfield 19, 3) := by decide +kernel
theorem dX6_sister_28 : decode cX6_sister 28 = .ok (.iload_n 1, 1) := by decide +kernel
theorem dX6_sister_29 : decode cX6_sister 29 = .ok (.iload_n 2, 1) := by decide +kernel
theorem dX6_sister_30 : decode cX6_sister 30 = .ok (.invokevirtual 125, 3) := by decide +kernel
theorem dX6_sister_33 : decode cX6_sister 33 = .ok (.ireturn, 1) := by decide +kernel
theorem dX6_now_0 : decode cX6_now 0 = .ok (.iload_n 1, 1) := by decide +kernel
theorem dX6_now_1 : decode cX6_now 1 = .ok (.tableswitch 101 0 6 #[43, 51, 59, 67, 76, 85, 93], 43) := by decide +kernel
theorem dX6_now_44 : decode cX6_now 44 = .ok (.aload_n 0, 1) := by decide +kernel
theorem dX6_now_45 : decode cX6_now 45 = .ok (.getfield 29, 3) := by decide +kernel
theorem dX6_now_48 : decode cX6_now 48 = .ok (.getfield 110, 3) := by decide +kernel
theorem dX6_now_51 : decode cX6_now 51 = .ok (.ireturn, 1) := by decide +kernel
theorem dX6_now_52 : decode cX6_now 52 = .ok (.aload_n 0, 1) := by decide +kernel
theorem dX6_now_53 : decode cX6_now 53 = .ok (.getfield 29, 3) := by decide +kernel
theorem dX6_now_56 : decode cX6_now 56 = .ok (.getfield 129, 3) := by decide +kernel
theorem dX6_now_59 : decode cX6_now 59 = .ok (.ireturn, 1) := by decide +kernel
theorem dX6_now_60 : decode cX6_now 60 = .ok (.aload_n 0, 1) := by decide +kernel
theorem dX6_now_61 : decode cX6_now 61 = .ok (.getfield 29, 3) := by decide +kernel
theorem dX6_now_64 : decode cX6_now 64 = .ok (.getfield 132, 3) := by decide +kernel
theorem dX6_now_67 : decode cX6_now 67 = .ok (.ireturn, 1) := by decide +kernel
theorem dX6_now_68 : decode cX6_now 68 = .ok (.aload_n 0, 1) := by decide +kernel
theorem dX6_now_69 : decode cX6_now 69 = .ok (.getfield 29, 3) := by decide +kernel
theorem dX6_now_72 : decode cX6_now 72 = .ok (.iconst 1, 1) := by decide +kernel
theorem dX6_now_73 : decode cX6_now 73 = .ok (.invokevirtual 135, 3) := by decide +kernel
theorem dX6_now_76 : decode cX6_now 76 = .ok (.ireturn, 1) := by decide +kernel
theorem dX6_now_77 : decode cX6_now 77 = .ok (.aload_n 0, 1) := by decide +kernel
theorem dX6_now_78 : decode cX6_now 78 = .ok (.getfield 29, 3) := by decide +kernel
theorem dX6_now_81 : decode cX6_now 81 = .ok (.iconst 3, 1) := by decide +kernel
theorem dX6_now_82 : decode cX6_now 82 = .ok (.invokevirtual 135, 3) := by decide +kernel
theorem dX6_now_85 : decode cX6_now 85 = .ok (.ireturn, 1) := by decide +kernel
theorem dX6_now_86 : decode cX6_now 86 = .ok (.aload_n 0, 1) := by decide +kernel
theorem dX6_now_87 : decode cX6_now 87 = .ok (.getfield 19, 3) := by decide +kernel
theorem dX6_now_90 : decode cX6_now 90 = .ok (.invokevirtual 138, 3) := by decide +kernel
theorem dX6_now_93 : decode cX6_now 93 = .ok (.ireturn, 1) := by decide +kernel
theorem dX6_now_94 : decode cX6_now 94 = .ok (.aload_n 0, 1) := by decide +kernel
theorem dX6_now_95 : decode cX6_now 95 = .ok (.getfield 36, 3) := by decide +kernel
theorem dX6_now_98 : decode cX6_now 98 = .ok (.getfield 81, 3) := by decide +kernel
theorem dX6_now_101 : decode cX6_now 101 = .ok (.ireturn, 1) := by decide +kernel
theorem dX6_now_102 : decode cX6_now 102 = .ok (.iconst (-1), 1) := by decide +kernel
theorem dX6_now_103 : decode cX6_now 103 = .ok (.ireturn, 1) := by decide +kernel
theorem dX6_comes_0 : decode cX6_comes 0 = .ok (.aload_n 0, 1) := by decide +kernel
theorem dX6_comes_1 : decode cX6_comes 1 = .ok (.getfield 19, 3) := by decide +kernel
theorem dX6_comes_4 : decode cX6_comes 4 = .ok (.iload_n 1, 1) := by decide +kernel
theorem dX6_comes_5 : decode cX6_comes 5 = .ok (.invokevirtual 98, 3) := by decide +kernel
theorem dX6_comes_8 : decode cX6_comes 8 = .ok (.ifCond .ne 5, 3) := by decide +kernel
theorem dX6_comes_11 : decode cX6_comes 11 = .ok (.iconst (-1), 1) := by decide +kernel
theorem dX6_comes_12 : decode cX6_comes 12 = .ok (.ireturn, 1) := by decide +kernel
theorem dX6_comes_13 : decode cX6_comes 13 = .ok (.aload_n 0, 1) := by decide +kernel
theorem dX6_comes_14 : decode cX6_comes 14 = .ok (.getfield 29, 3) := by decide +kernel
theorem dX6_comes_17 : decode cX6_comes 17 = .ok (.getfield 104, 3) := by decide +kernel
theorem dX6_comes_20 : decode cX6_comes 20 = .ok (.iload_n 1, 1) := by decide +kernel
theorem dX6_comes_21 : decode cX6_comes 21 = .ok (.iaload, 1) := by decide +kernel
theorem dX6_comes_22 : decode cX6_comes 22 = .ok (.ifCond .eq 6, 3) := by decide +kernel
theorem dX6_comes_25 : decode cX6_comes 25 = .ok (.bipush (-2), 2) := by decide +kernel
theorem dX6_comes_27 : decode cX6_comes 27 = .ok (.ireturn, 1) := by decide +kernel
theorem dX6_comes_28 : decode cX6_comes 28 = .ok (.aload_n 0, 1) := by decide +kernel
theorem dX6_comes_29 : decode cX6_comes 29 = .ok (.getfield 36, 3) := by decide +kernel
theorem dX6_comes_32 : decode cX6_comes 32 = .ok (.aload_n 0, 1) := by decide +kernel
theorem dX6_comes_33 : decode cX6_comes 33 = .ok (.getfield 29, 3) := by decide +kernel
theorem dX6_comes_36 : decode cX6_comes 36 = .ok (.invokevirtual 142, 3) := by decide +kernel
theorem dX6_comes_39 : decode cX6_comes 39 = .ok (.aload_n 0, 1) := by decide +kernel
theorem dX6_comes_40 : decode cX6_comes 40 = .ok (.getfield 29, 3) := by decide +kernel
theorem dX6_comes_43 : decode cX6_comes 43 = .ok (.getfield 104, 3) := by decide +kernel
theorem dX6_comes_46 : decode cX6_comes 46 = .ok (.iload_n 1, 1) := by decide +kernel
theorem dX6_comes_47 : decode cX6_comes 47 = .ok (.iconst 1, 1) := by decide +kernel
theorem dX6_comes_48 : decode cX6_comes 48 = .ok (.iastore, 1) := by decide +kernel
theorem dX6_comes_49 : decode cX6_comes 49 = .ok (.aload_n 0, 1) := by decide +kernel
theorem dX6_comes_50 : decode cX6_comes 50 = .ok (.getfield 29, 3) := by decide +kernel
theorem dX6_comes_53 : decode cX6_comes 53 = .ok (.iconst 1, 1) := by decide +kernel
theorem dX6_comes_54 : decode cX6_comes 54 = .ok (.invokevirtual 135, 3) := by decide +kernel
theorem dX6_comes_57 : decode cX6_comes 57 = .ok (.invokestatic 146, 3) := by decide +kernel
theorem dX6_comes_60 : decode cX6_comes 60 = .ok (.ireturn, 1) := by decide +kernel
theorem dX6_says_0 : decode cX6_says 0 = .ok (.aload_n 0, 1) := by decide +kernel
theorem dX6_says_1 : decode cX6_says 1 = .ok (.getfield 19, 3) := by decide +kernel
theorem dX6_says_4 : decode cX6_says 4 = .ok (.iload_n 1, 1) := by decide +kernel
theorem dX6_says_5 : decode cX6_says 5 = .ok (.invokevirtual 98, 3) := by decide +kernel
theorem dX6_says_8 : decode cX6_says 8 = .ok (.ifCond .eq 10, 3) := by decide +kernel
theorem dX6_says_11 : decode cX6_says 11 = .ok (.iload_n 2, 1) := by decide +kernel
theorem dX6_says_12 : decode cX6_says 12 = .ok (.invokestatic 122, 3) := by decide +kernel
theorem dX6_says_15 : decode cX6_says 15 = .ok (.ifCond .ne 5, 3) := by decide +kernel
theorem dX6_says_18 : decode cX6_says 18 = .ok (.iconst (-1), 1) := by decide +kernel
theorem dX6_says_19 : decode cX6_says 19 = .ok (.ireturn, 1) := by decide +kernel
theorem dX6_says_20 : decode cX6_says 20 = .ok (.aload_n 0, 1) := by decide +kernel
theorem dX6_says_21 : decode cX6_says 21 = .ok (.getfield 29, 3) := by decide +kernel
theorem dX6_says_24 : decode cX6_says 24 = .ok (.getfield 104, 3) := by decide +kernel
theorem dX6_says_27 : decode cX6_says 27 = .ok (.iload_n 1, 1) := by decide +kernel
theorem dX6_says_28 : decode cX6_says 28 = .ok (.iaload, 1) := by decide +kernel
theorem dX6_says_29 : decode cX6_says 29 = .ok (.iconst 1, 1) := by decide +kernel
theorem dX6_says_30 : decode cX6_says 30 = .ok (.if_icmp .ne 13, 3) := by decide +kernel
theorem dX6_says_33 : decode cX6_says 33 = .ok (.aload_n 0, 1) := by decide +kernel
theorem dX6_says_34 : decode cX6_says 34 = .ok (.getfield 19, 3) := by decide +kernel
theorem dX6_says_37 : decode cX6_says 37 = .ok (.getfield 151, 3) := by decide +kernel
theorem dX6_says_40 : decode cX6_says 40 = .ok (.ifCond .ne 6, 3) := by decide +kernel
theorem dX6_says_43 : decode cX6_says 43 = .ok (.bipush (-2), 2) := by decide +kernel
theorem dX6_says_45 : decode cX6_says 45 = .ok (.ireturn, 1) := by decide +kernel
theorem dX6_says_46 : decode cX6_says 46 = .ok (.aload_n 0, 1) := by decide +kernel
theorem dX6_says_47 : decode cX6_says 47 = .ok (.getfield 36, 3) := by decide +kernel
theorem dX6_says_50 : decode cX6_says 50 = .ok (.aload_n 0, 1) := by decide +kernel
theorem dX6_says_51 : decode cX6_says 51 = .ok (.getfield 29, 3) := by decide +kernel
theorem dX6_says_54 : decode cX6_says 54 = .ok (.invokevirtual 142, 3) := by decide +kernel
theorem dX6_says_57 : decode cX6_says 57 = .ok (.aload_n 0, 1) := by decide +kernel
theorem dX6_says_58 : decode cX6_says 58 = .ok (.getfield 19, 3) := by decide +kernel
theorem dX6_says_61 : decode cX6_says 61 = .ok (.aload_n 0, 1) := by decide +kernel
theorem dX6_says_62 : decode cX6_says 62 = .ok (.getfield 29, 3) := by decide +kernel
theorem dX6_says_65 : decode cX6_says 65 = .ok (.getfield 129, 3) := by decide +kernel
theorem dX6_says_68 : decode cX6_says 68 = .ok (.iload_n 1, 1) := by decide +kernel
theorem dX6_says_69 : decode cX6_says 69 = .ok (.invokevirtual 154, 3) := by decide +kernel
theorem dX6_says_72 : decode cX6_says 72 = .ok (.iload_n 2, 1) := by decide +kernel
theorem dX6_says_73 : decode cX6_says 73 = .ok (.invokestatic 157, 3) := by decide +kernel
theorem dX6_says_76 : decode cX6_says 76 = .ok (.istore_n 3, 1) := by decide +kernel
theorem dX6_says_77 : decode cX6_says 77 = .ok (.iload_n 3, 1) := by decide +kernel
theorem dX6_says_78 : decode cX6_says 78 = .ok (.ifCond .eq 16, 3) := by decide +kernel
theorem dX6_says_81 : decode cX6_says 81 = .ok (.aload_n 0, 1) := by decide +kernel
theorem dX6_says_82 : decode cX6_says 82 = .ok (.getfield 29, 3) := by decide +kernel
theorem dX6_says_85 : decode cX6_says 85 = .ok (.getfield 104, 3) := by decide +kernel
theorem dX6_says_88 : decode cX6_says 88 = .ok (.iload_n 1, 1) := by decide +kernel
theorem dX6_says_89 : decode cX6_says 89 = .ok (.iconst 3, 1) := by decide +kernel
theorem dX6_says_90 : decode cX6_says 90 = .ok (.iastore, 1) := by decide +kernel
theorem dX6_says_91 : decode cX6_says 91 = .ok (.goto 18, 3) := by decide +kernel
theorem dX6_says_94 : decode cX6_says 94 = .ok (.aload_n 0, 1) := by decide +kernel
theorem dX6_says_95 : decode cX6_says 95 = .ok (.getfield 29, 3) := by decide +kernel
theorem dX6_says_98 : decode cX6_says 98 = .ok (.iload_n 1, 1) := by decide +kernel
theorem dX6_says_99 : decode cX6_says 99 = .ok (.aload_n 0, 1) := by decide +kernel
theorem dX6_says_100 : decode cX6_says 100 = .ok (.getfield 19, 3) := by decide +kernel
theorem dX6_says_103 : decode cX6_says 103 = .ok (.getfield 161, 3) := by decide +kernel
theorem dX6_says_106 : decode cX6_says 106 = .ok (.invokevirtual 164, 3) := by decide +kernel
theorem dX6_says_109 : decode cX6_says 109 = .ok (.aload_n 0, 1) := by decide +kernel
theorem dX6_says_110 : decode cX6_says 110 = .ok (.getfield 29, 3) := by decide +kernel
theorem dX6_says_113 : decode cX6_says 113 = .ok (.aload_n 0, 1) := by decide +kernel
theorem dX6_says_114 : decode cX6_says 114 = .ok (.getfield 19, 3) := by decide +kernel
theorem dX6_says_117 : decode cX6_says 117 = .ok (.aload_n 0, 1) := by decide +kernel
theorem dX6_says_118 : decode cX6_says 118 = .ok (.getfield 29, 3) := by decide +kernel
theorem dX6_says_121 : decode cX6_says 121 = .ok (.getfield 129, 3) := by decide +kernel
theorem dX6_says_124 : decode cX6_says 124 = .ok (.iconst 1, 1) := by decide +kernel
theorem dX6_says_125 : decode cX6_says 125 = .ok (.invokevirtual 168, 3) := by decide +kernel
theorem dX6_says_128 : decode cX6_says 128 = .ok (.putfield 129, 3) := by decide +kernel
theorem dX6_says_131 : decode cX6_says 131 = .ok (.aload_n 0, 1) := by decide +kernel
theorem dX6_says_132 : decode cX6_says 132 = .ok (.getfield 29, 3) := by decide +kernel
theorem dX6_says_135 : decode cX6_says 135 = .ok (.sipush 999, 3) := by decide +kernel
theorem dX6_says_138 : decode cX6_says 138 = .ok (.aload_n 0, 1) := by decide +kernel
theorem dX6_says_139 : decode cX6_says 139 = .ok (.getfield 29, 3) := by decide +kernel
theorem dX6_says_142 : decode cX6_says 142 = .ok (.getfield 132, 3) := by decide +kernel
theorem dX6_says_145 : decode cX6_says 145 = .ok (.iconst 1, 1) := by decide +kernel
theorem dX6_says_146 : decode cX6_says 146 = .ok (.iadd, 1) := by decide +kernel
theorem dX6_says_147 : decode cX6_says 147 = .ok (.invokestatic 171, 3) := by decide +kernel
theorem dX6_says_150 : decode cX6_says 150 = .ok (.putfield 132, 3) := by decide +kernel
theorem dX6_says_153 : decode cX6_says 153 = .ok (.iload_n 3, 1) := by decide +kernel
theorem dX6_says_154 : decode cX6_says 154 = .ok (.ifCond .eq 7, 3) := by decide +kernel
theorem dX6_says_157 : decode cX6_says 157 = .ok (.iconst 1, 1) := by decide +kernel
theorem dX6_says_158 : decode cX6_says 158 = .ok (.goto 4, 3) := by decide +kernel
theorem dX6_says_161 : decode cX6_says 161 = .ok (.iconst 0, 1) := by decide +kernel
theorem dX6_says_162 : decode cX6_says 162 = .ok (.ireturn, 1) := by decide +kernel
theorem dX6_minutes_0 : decode cX6_minutes 0 = .ok (.iload_n 1, 1) := by decide +kernel
theorem dX6_minutes_1 : decode cX6_minutes 1 = .ok (.iconst 1, 1) := by decide +kernel
theorem dX6_minutes_2 : decode cX6_minutes 2 = .ok (.if_icmp .lt 9, 3) := by decide +kernel
theorem dX6_minutes_5 : decode cX6_minutes 5 = .ok (.iload_n 1, 1) := by decide +kernel
theorem dX6_minutes_6 : decode cX6_minutes 6 = .ok (.bipush 9, 2) := by decide +kernel
theorem dX6_minutes_8 : decode cX6_minutes 8 = .ok (.if_icmp .le 5, 3) := by decide +kernel
theorem dX6_minutes_11 : decode cX6_minutes 11 = .ok (.iconst (-1), 1) := by decide +kernel
theorem dX6_minutes_12 : decode cX6_minutes 12 = .ok (.ireturn, 1) := by decide +kernel
theorem dX6_minutes_13 : decode cX6_minutes 13 = .ok (.aload_n 0, 1) := by decide +kernel
theorem dX6_minutes_14 : decode cX6_minutes 14 = .ok (.getfield 29, 3) := by decide +kernel
theorem dX6_minutes_17 : decode cX6_minutes 17 = .ok (.getfield 110, 3) := by decide +kernel
theorem dX6_minutes_20 : decode cX6_minutes 20 = .ok (.iload_n 1, 1) := by decide +kernel
theorem dX6_minutes_21 : decode cX6_minutes 21 = .ok (.iadd, 1) := by decide +kernel
theorem dX6_minutes_22 : decode cX6_minutes 22 = .ok (.sipush 999, 3) := by decide +kernel
theorem dX6_minutes_25 : decode cX6_minutes 25 = .ok (.if_icmp .le 6, 3) := by decide +kernel
theorem dX6_minutes_28 : decode cX6_minutes 28 = .ok (.bipush (-2), 2) := by decide +kernel
theorem dX6_minutes_30 : decode cX6_minutes 30 = .ok (.ireturn, 1) := by decide +kernel
theorem dX6_minutes_31 : decode cX6_minutes 31 = .ok (.aload_n 0, 1) := by decide +kernel
theorem dX6_minutes_32 : decode cX6_minutes 32 = .ok (.getfield 36, 3) := by decide +kernel
theorem dX6_minutes_35 : decode cX6_minutes 35 = .ok (.aload_n 0, 1) := by decide +kernel
theorem dX6_minutes_36 : decode cX6_minutes 36 = .ok (.getfield 29, 3) := by decide +kernel
theorem dX6_minutes_39 : decode cX6_minutes 39 = .ok (.invokevirtual 142, 3) := by decide +kernel
theorem dX6_minutes_42 : decode cX6_minutes 42 = .ok (.aload_n 0, 1) := by decide +kernel
theorem dX6_minutes_43 : decode cX6_minutes 43 = .ok (.getfield 29, 3) := by decide +kernel
theorem dX6_minutes_46 : decode cX6_minutes 46 = .ok (.iload_n 1, 1) := by decide +kernel
theorem dX6_minutes_47 : decode cX6_minutes 47 = .ok (.invokevirtual 176, 3) := by decide +kernel
theorem dX6_minutes_50 : decode cX6_minutes 50 = .ok (.aload_n 0, 1) := by decide +kernel
theorem dX6_minutes_51 : decode cX6_minutes 51 = .ok (.getfield 29, 3) := by decide +kernel
theorem dX6_minutes_54 : decode cX6_minutes 54 = .ok (.iconst 1, 1) := by decide +kernel
theorem dX6_minutes_55 : decode cX6_minutes 55 = .ok (.invokevirtual 135, 3) := by decide +kernel
theorem dX6_minutes_58 : decode cX6_minutes 58 = .ok (.invokestatic 146, 3) := by decide +kernel
theorem dX6_minutes_61 : decode cX6_minutes 61 = .ok (.ireturn, 1) := by decide +kernel
theorem dX6_undo_0 : decode cX6_undo 0 = .ok (.aload_n 0, 1) := by decide +kernel
theorem dX6_undo_1 : decode cX6_undo 1 = .ok (.getfield 36, 3) := by decide +kernel
theorem dX6_undo_4 : decode cX6_undo 4 = .ok (.getfield 81, 3) := by decide +kernel
theorem dX6_undo_7 : decode cX6_undo 7 = .ok (.ifCond .ne 6, 3) := by decide +kernel
theorem dX6_undo_10 : decode cX6_undo 10 = .ok (.bipush (-2), 2) := by decide +kernel
theorem dX6_undo_12 : decode cX6_undo 12 = .ok (.ireturn, 1) := by decide +kernel
theorem dX6_undo_13 : decode cX6_undo 13 = .ok (.aload_n 0, 1) := by decide +kernel
theorem dX6_undo_14 : decode cX6_undo 14 = .ok (.getfield 36, 3) := by decide +kernel
theorem dX6_undo_17 : decode cX6_undo 17 = .ok (.aload_n 0, 1) := by decide +kernel
theorem dX6_undo_18 : decode cX6_undo 18 = .ok (.getfield 29, 3) := by decide +kernel
theorem dX6_undo_21 : decode cX6_undo 21 = .ok (.invokevirtual 180, 3) := by decide +kernel
theorem dX6_undo_24 : decode cX6_undo 24 = .ok (.aload_n 0, 1) := by decide +kernel
theorem dX6_undo_25 : decode cX6_undo 25 = .ok (.getfield 36, 3) := by decide +kernel
theorem dX6_undo_28 : decode cX6_undo 28 = .ok (.getfield 81, 3) := by decide +kernel
theorem dX6_undo_31 : decode cX6_undo 31 = .ok (.ireturn, 1) := by decide +kernel
theorem dX6_fewest_0 : decode cX6_fewest 0 = .ok (.aload_n 0, 1) := by decide +kernel
theorem dX6_fewest_1 : decode cX6_fewest 1 = .ok (.getfield 19, 3) := by decide +kernel
theorem dX6_fewest_4 : decode cX6_fewest 4 = .ok (.iload_n 1, 1) := by decide +kernel
theorem dX6_fewest_5 : decode cX6_fewest 5 = .ok (.invokevirtual 98, 3) := by decide +kernel
theorem dX6_fewest_8 : decode cX6_fewest 8 = .ok (.ifCond .eq 12, 3) := by decide +kernel
theorem dX6_fewest_11 : decode cX6_fewest 11 = .ok (.iload_n 2, 1) := by decide +kernel
theorem dX6_fewest_12 : decode cX6_fewest 12 = .ok (.ifCond .lt 8, 3) := by decide +kernel
theorem dX6_fewest_15 : decode cX6_fewest 15 = .ok (.iload_n 2, 1) := by decide +kernel
theorem dX6_fewest_16 : decode cX6_fewest 16 = .ok (.iconst 1, 1) := by decide +kernel
theorem dX6_fewest_17 : decode cX6_fewest 17 = .ok (.if_icmp .le 5, 3) := by decide +kernel
theorem dX6_fewest_20 : decode cX6_fewest 20 = .ok (.iconst (-1), 1) := by decide +kernel
theorem dX6_fewest_21 : decode cX6_fewest 21 = .ok (.ireturn, 1) := by decide +kernel
theorem dX6_fewest_22 : decode cX6_fewest 22 = .ok (.aload_n 0, 1) := by decide +kernel
theorem dX6_fewest_23 : decode cX6_fewest 23 = .ok (.getfield 29, 3) := by decide +kernel
theorem dX6_fewest_26 : decode cX6_fewest 26 = .ok (.getfield 104, 3) := by decide +kernel
theorem dX6_fewest_29 : decode cX6_fewest 29 = .ok (.iload_n 1, 1) := by decide +kernel
theorem dX6_fewest_30 : decode cX6_fewest 30 = .ok (.iaload, 1) := by decide +kernel
theorem dX6_fewest_31 : decode cX6_fewest 31 = .ok (.iconst 3, 1) := by decide +kernel
theorem dX6_fewest_32 : decode cX6_fewest 32 = .ok (.if_icmp .ne 6, 3) := by decide +kernel
theorem dX6_fewest_35 : decode cX6_fewest 35 = .ok (.bipush (-2), 2) := by decide +kernel
theorem dX6_fewest_37 : decode cX6_fewest 37 = .ok (.ireturn, 1) := by decide +kernel
theorem dX6_fewest_38 : decode cX6_fewest 38 = .ok (.iconst 0, 1) := by decide +kernel
theorem dX6_fewest_39 : decode cX6_fewest 39 = .ok (.istore_n 3, 1) := by decide +kernel
theorem dX6_fewest_40 : decode cX6_fewest 40 = .ok (.iload_n 3, 1) := by decide +kernel
theorem dX6_fewest_41 : decode cX6_fewest 41 = .ok (.aload_n 0, 1) := by decide +kernel
theorem dX6_fewest_42 : decode cX6_fewest 42 = .ok (.getfield 19, 3) := by decide +kernel
theorem dX6_fewest_45 : decode cX6_fewest 45 = .ok (.getfield 151, 3) := by decide +kernel
theorem dX6_fewest_48 : decode cX6_fewest 48 = .ok (.if_icmp .ge 55, 3) := by decide +kernel
theorem dX6_fewest_51 : decode cX6_fewest 51 = .ok (.aload_n 0, 1) := by decide +kernel
theorem dX6_fewest_52 : decode cX6_fewest 52 = .ok (.getfield 19, 3) := by decide +kernel
theorem dX6_fewest_55 : decode cX6_fewest 55 = .ok (.aload_n 0, 1) := by decide +kernel
theorem dX6_fewest_56 : decode cX6_fewest 56 = .ok (.getfield 19, 3) := by decide +kernel
theorem dX6_fewest_59 : decode cX6_fewest 59 = .ok (.aload_n 0, 1) := by decide +kernel
theorem dX6_fewest_60 : decode cX6_fewest 60 = .ok (.getfield 29, 3) := by decide +kernel
theorem dX6_fewest_63 : decode cX6_fewest 63 = .ok (.getfield 129, 3) := by decide +kernel
theorem dX6_fewest_66 : decode cX6_fewest 66 = .ok (.iload_n 3, 1) := by decide +kernel
theorem dX6_fewest_67 : decode cX6_fewest 67 = .ok (.invokevirtual 168, 3) := by decide +kernel
theorem dX6_fewest_70 : decode cX6_fewest 70 = .ok (.iload_n 1, 1) := by decide +kernel
theorem dX6_fewest_71 : decode cX6_fewest 71 = .ok (.invokevirtual 154, 3) := by decide +kernel
theorem dX6_fewest_74 : decode cX6_fewest 74 = .ok (.istore 4, 2) := by decide +kernel
theorem dX6_fewest_76 : decode cX6_fewest 76 = .ok (.iload 4, 2) := by decide +kernel
theorem dX6_fewest_78 : decode cX6_fewest 78 = .ok (.ifCond .eq 19, 3) := by decide +kernel
theorem dX6_fewest_81 : decode cX6_fewest 81 = .ok (.iload_n 2, 1) := by decide +kernel
theorem dX6_fewest_82 : decode cX6_fewest 82 = .ok (.ifCond .ne 9, 3) := by decide +kernel
theorem dX6_fewest_85 : decode cX6_fewest 85 = .ok (.iload_n 3, 1) := by decide +kernel
theorem dX6_fewest_86 : decode cX6_fewest 86 = .ok (.iconst 1, 1) := by decide +kernel
theorem dX6_fewest_87 : decode cX6_fewest 87 = .ok (.iadd, 1) := by decide +kernel
theorem dX6_fewest_88 : decode cX6_fewest 88 = .ok (.goto 8, 3) := by decide +kernel
theorem dX6_fewest_91 : decode cX6_fewest 91 = .ok (.iload 4, 2) := by decide +kernel
theorem dX6_fewest_93 : decode cX6_fewest 93 = .ok (.invokestatic 183, 3) := by decide +kernel
theorem dX6_fewest_96 : decode cX6_fewest 96 = .ok (.ireturn, 1) := by decide +kernel
theorem dX6_fewest_97 : decode cX6_fewest 97 = .ok (.iinc 3 1, 3) := by decide +kernel
theorem dX6_fewest_100 : decode cX6_fewest 100 = .ok (.goto (-60), 3) := by decide +kernel
theorem dX6_fewest_103 : decode cX6_fewest 103 = .ok (.bipush (-9), 2) := by decide +kernel
theorem dX6_fewest_105 : decode cX6_fewest 105 = .ok (.ireturn, 1) := by decide +kernel
theorem dX6_line_0 : decode cX6_line 0 = .ok (.iload_n 1, 1) := by decide +kernel
theorem dX6_line_1 : decode cX6_line 1 = .ok (.iconst (-1), 1) := by decide +kernel
theorem dX6_line_2 : decode cX6_line 2 = .ok (.if_icmp .lt 9, 3) := by decide +kernel
theorem dX6_line_5 : decode cX6_line 5 = .ok (.iload_n 1, 1) := by decide +kernel
theorem dX6_line_6 : decode cX6_line 6 = .ok (.bipush 6, 2) := by decide +kernel
theorem dX6_line_8 : decode cX6_line 8 = .ok (.if_icmp .lt 5, 3) := by decide +kernel
theorem dX6_line_11 : decode cX6_line 11 = .ok (.iconst (-1), 1) := by decide +kernel
theorem dX6_line_12 : decode cX6_line 12 = .ok (.ireturn, 1) := by decide +kernel
theorem dX6_line_13 : decode cX6_line 13 = .ok (.aload_n 0, 1) := by decide +kernel
theorem dX6_line_14 : decode cX6_line 14 = .ok (.getfield 58, 3) := by decide +kernel
theorem dX6_line_17 : decode cX6_line 17 = .ok (.aload_n 0, 1) := by decide +kernel
theorem dX6_line_18 : decode cX6_line 18 = .ok (.getfield 19, 3) := by decide +kernel
theorem dX6_line_21 : decode cX6_line 21 = .ok (.aload_n 0, 1) := by decide +kernel
theorem dX6_line_22 : decode cX6_line 22 = .ok (.getfield 29, 3) := by decide +kernel
theorem dX6_line_25 : decode cX6_line 25 = .ok (.invokevirtual 186, 3) := by decide +kernel
theorem dX6_line_28 : decode cX6_line 28 = .ok (.iload_n 1, 1) := by decide +kernel
theorem dX6_line_29 : decode cX6_line 29 = .ok (.iconst (-1), 1) := by decide +kernel
theorem dX6_line_30 : decode cX6_line 30 = .ok (.if_icmp .ne 15, 3) := by decide +kernel
theorem dX6_line_33 : decode cX6_line 33 = .ok (.aload_n 0, 1) := by decide +kernel
theorem dX6_line_34 : decode cX6_line 34 = .ok (.getfield 58, 3) := by decide +kernel
theorem dX6_line_37 : decode cX6_line 37 = .ok (.getfield 190, 3) := by decide +kernel
theorem dX6_line_40 : decode cX6_line 40 = .ok (.iconst 0, 1) := by decide +kernel
theorem dX6_line_41 : decode cX6_line 41 = .ok (.iaload, 1) := by decide +kernel
theorem dX6_line_42 : decode cX6_line 42 = .ok (.goto 19, 3) := by decide +kernel
theorem dX6_line_45 : decode cX6_line 45 = .ok (.aload_n 0, 1) := by decide +kernel
theorem dX6_line_46 : decode cX6_line 46 = .ok (.getfield 58, 3) := by decide +kernel
theorem dX6_line_49 : decode cX6_line 49 = .ok (.iload_n 1, 1) := by decide +kernel
theorem dX6_line_50 : decode cX6_line 50 = .ok (.aload_n 0, 1) := by decide +kernel
theorem dX6_line_51 : decode cX6_line 51 = .ok (.getfield 19, 3) := by decide +kernel
theorem dX6_line_54 : decode cX6_line 54 = .ok (.aload_n 0, 1) := by decide +kernel
theorem dX6_line_55 : decode cX6_line 55 = .ok (.getfield 29, 3) := by decide +kernel
theorem dX6_line_58 : decode cX6_line 58 = .ok (.invokevirtual 193, 3) := by decide +kernel
theorem dX6_line_61 : decode cX6_line 61 = .ok (.ireturn, 1) := by decide +kernel
theorem dX6_sees_0 : decode cX6_sees 0 = .ok (.iload_n 1, 1) := by decide +kernel
theorem dX6_sees_1 : decode cX6_sees 1 = .ok (.invokestatic 122, 3) := by decide +kernel
theorem dX6_sees_4 : decode cX6_sees 4 = .ok (.ifCond .eq 23, 3) := by decide +kernel
theorem dX6_sees_7 : decode cX6_sees 7 = .ok (.aload_n 0, 1) := by decide +kernel
theorem dX6_sees_8 : decode cX6_sees 8 = .ok (.getfield 19, 3) := by decide +kernel
theorem dX6_sees_11 : decode cX6_sees 11 = .ok (.iload_n 2, 1) := by decide +kernel
theorem dX6_sees_12 : decode cX6_sees 12 = .ok (.invokevirtual 87, 3) := by decide +kernel
theorem dX6_sees_15 : decode cX6_sees 15 = .ok (.ifCond .eq 12, 3) := by decide +kernel
theorem dX6_sees_18 : decode cX6_sees 18 = .ok (.iload_n 3, 1) := by decide +kernel
theorem dX6_sees_19 : decode cX6_sees 19 = .ok (.ifCond .lt 8, 3) := by decide +kernel
theorem dX6_sees_22 : decode cX6_sees 22 = .ok (.iload_n 3, 1) := by decide +kernel
theorem dX6_sees_23 : decode cX6_sees 23 = .ok (.iconst 1, 1) := by decide +kernel
theorem dX6_sees_24 : decode cX6_sees 24 = .ok (.if_icmp .le 5, 3) := by decide +kernel
theorem dX6_sees_27 : decode cX6_sees 27 = .ok (.iconst (-1), 1) := by decide +kernel
theorem dX6_sees_28 : decode cX6_sees 28 = .ok (.ireturn, 1) := by decide +kernel
theorem dX6_sees_29 : decode cX6_sees 29 = .ok (.aload_n 0, 1) := by decide +kernel
theorem dX6_sees_30 : decode cX6_sees 30 = .ok (.getfield 51, 3) := by decide +kernel
theorem dX6_sees_33 : decode cX6_sees 33 = .ok (.getfield 84, 3) := by decide +kernel
theorem dX6_sees_36 : decode cX6_sees 36 = .ok (.bipush 6, 2) := by decide +kernel
theorem dX6_sees_38 : decode cX6_sees 38 = .ok (.if_icmp .lt 6, 3) := by decide +kernel
theorem dX6_sees_41 : decode cX6_sees 41 = .ok (.bipush (-3), 2) := by decide +kernel
theorem dX6_sees_43 : decode cX6_sees 43 = .ok (.ireturn, 1) := by decide +kernel
theorem dX6_sees_44 : decode cX6_sees 44 = .ok (.aload_n 0, 1) := by decide +kernel
theorem dX6_sees_45 : decode cX6_sees 45 = .ok (.getfield 51, 3) := by decide +kernel
theorem dX6_sees_48 : decode cX6_sees 48 = .ok (.iload_n 1, 1) := by decide +kernel
theorem dX6_sees_49 : decode cX6_sees 49 = .ok (.iload_n 2, 1) := by decide +kernel
theorem dX6_sees_50 : decode cX6_sees 50 = .ok (.iload_n 3, 1) := by decide +kernel
theorem dX6_sees_51 : decode cX6_sees 51 = .ok (.invokevirtual 197, 3) := by decide +kernel
theorem dX6_sees_54 : decode cX6_sees 54 = .ok (.aload_n 0, 1) := by decide +kernel
theorem dX6_sees_55 : decode cX6_sees 55 = .ok (.getfield 51, 3) := by decide +kernel
theorem dX6_sees_58 : decode cX6_sees 58 = .ok (.getfield 84, 3) := by decide +kernel
theorem dX6_sees_61 : decode cX6_sees 61 = .ok (.ireturn, 1) := by decide +kernel
theorem dX6_forget_0 : decode cX6_forget 0 = .ok (.aload_n 0, 1) := by decide +kernel
theorem dX6_forget_1 : decode cX6_forget 1 = .ok (.getfield 51, 3) := by decide +kernel
theorem dX6_forget_4 : decode cX6_forget 4 = .ok (.getfield 84, 3) := by decide +kernel
theorem dX6_forget_7 : decode cX6_forget 7 = .ok (.istore_n 1, 1) := by decide +kernel
theorem dX6_forget_8 : decode cX6_forget 8 = .ok (.aload_n 0, 1) := by decide +kernel
theorem dX6_forget_9 : decode cX6_forget 9 = .ok (.getfield 51, 3) := by decide +kernel
theorem dX6_forget_12 : decode cX6_forget 12 = .ok (.iconst 0, 1) := by decide +kernel
theorem dX6_forget_13 : decode cX6_forget 13 = .ok (.putfield 84, 3) := by decide +kernel
theorem dX6_forget_16 : decode cX6_forget 16 = .ok (.iload_n 1, 1) := by decide +kernel
theorem dX6_forget_17 : decode cX6_forget 17 = .ok (.ireturn, 1) := by decide +kernel
theorem dX6_had_0 : decode cX6_had 0 = .ok (.iconst 0, 1) := by decide +kernel
theorem dX6_had_1 : decode cX6_had 1 = .ok (.istore_n 2, 1) := by decide +kernel
theorem dX6_had_2 : decode cX6_had 2 = .ok (.bipush 63, 2) := by decide +kernel
theorem dX6_had_4 : decode cX6_had 4 = .ok (.istore_n 3, 1) := by decide +kernel
theorem dX6_had_5 : decode cX6_had 5 = .ok (.iconst 0, 1) := by decide +kernel
theorem dX6_had_6 : decode cX6_had 6 = .ok (.istore 4, 2) := by decide +kernel
theorem dX6_had_8 : decode cX6_had 8 = .ok (.iconst 0, 1) := by decide +kernel
theorem dX6_had_9 : decode cX6_had 9 = .ok (.istore 5, 2) := by decide +kernel
theorem dX6_had_11 : decode cX6_had 11 = .ok (.iload 5, 2) := by decide +kernel
theorem dX6_had_13 : decode cX6_had 13 = .ok (.bipush 64, 2) := by decide +kernel
theorem dX6_had_15 : decode cX6_had 15 = .ok (.if_icmp .ge 40, 3) := by decide +kernel
theorem dX6_had_18 : decode cX6_had 18 = .ok (.aload_n 0, 1) := by decide +kernel
theorem dX6_had_19 : decode cX6_had 19 = .ok (.getfield 51, 3) := by decide +kernel
theorem dX6_had_22 : decode cX6_had 22 = .ok (.iload 5, 2) := by decide +kernel
theorem dX6_had_24 : decode cX6_had 24 = .ok (.aload_n 0, 1) := by decide +kernel
theorem dX6_had_25 : decode cX6_had 25 = .ok (.getfield 19, 3) := by decide +kernel
theorem dX6_had_28 : decode cX6_had 28 = .ok (.invokevirtual 201, 3) := by decide +kernel
theorem dX6_had_31 : decode cX6_had 31 = .ok (.ifCond .eq 18, 3) := by decide +kernel
theorem dX6_had_34 : decode cX6_had 34 = .ok (.iinc 2 1, 3) := by decide +kernel
theorem dX6_had_37 : decode cX6_had 37 = .ok (.iload_n 3, 1) := by decide +kernel
theorem dX6_had_38 : decode cX6_had 38 = .ok (.iload 5, 2) := by decide +kernel
theorem dX6_had_40 : decode cX6_had 40 = .ok (.iand, 1) := by decide +kernel
theorem dX6_had_41 : decode cX6_had 41 = .ok (.istore_n 3, 1) := by decide +kernel
theorem dX6_had_42 : decode cX6_had 42 = .ok (.iload 4, 2) := by decide +kernel
theorem dX6_had_44 : decode cX6_had 44 = .ok (.iload 5, 2) := by decide +kernel
theorem dX6_had_46 : decode cX6_had 46 = .ok (.ior, 1) := by decide +kernel
theorem dX6_had_47 : decode cX6_had 47 = .ok (.istore 4, 2) := by decide +kernel
theorem dX6_had_49 : decode cX6_had 49 = .ok (.iinc 5 1, 3) := by decide +kernel
theorem dX6_had_52 : decode cX6_had 52 = .ok (.goto (-41), 3) := by decide +kernel
theorem dX6_had_55 : decode cX6_had 55 = .ok (.iload_n 1, 1) := by decide +kernel
theorem dX6_had_56 : decode cX6_had 56 = .ok (.tableswitch 44 0 2 #[28, 30, 41], 28) := by decide +kernel
theorem dX6_had_84 : decode cX6_had 84 = .ok (.iload_n 2, 1) := by decide +kernel
theorem dX6_had_85 : decode cX6_had 85 = .ok (.ireturn, 1) := by decide +kernel
theorem dX6_had_86 : decode cX6_had 86 = .ok (.iload_n 2, 1) := by decide +kernel
theorem dX6_had_87 : decode cX6_had 87 = .ok (.ifCond .ne 8, 3) := by decide +kernel
theorem dX6_had_90 : decode cX6_had 90 = .ok (.bipush (-9), 2) := by decide +kernel
theorem dX6_had_92 : decode cX6_had 92 = .ok (.goto 4, 3) := by decide +kernel
theorem dX6_had_95 : decode cX6_had 95 = .ok (.iload_n 3, 1) := by decide +kernel
theorem dX6_had_96 : decode cX6_had 96 = .ok (.ireturn, 1) := by decide +kernel
theorem dX6_had_97 : decode cX6_had 97 = .ok (.iload 4, 2) := by decide +kernel
theorem dX6_had_99 : decode cX6_had 99 = .ok (.ireturn, 1) := by decide +kernel
theorem dX6_had_100 : decode cX6_had 100 = .ok (.iconst (-1), 1) := by decide +kernel
theorem dX6_had_101 : decode cX6_had 101 = .ok (.ireturn, 1) := by decide +kernel
theorem dX6_ask_0 : decode cX6_ask 0 = .ok (.aload_n 0, 1) := by decide +kernel
theorem dX6_ask_1 : decode cX6_ask 1 = .ok (.getfield 19, 3) := by decide +kernel
theorem dX6_ask_4 : decode cX6_ask 4 = .ok (.iload_n 1, 1) := by decide +kernel
theorem dX6_ask_5 : decode cX6_ask 5 = .ok (.invokevirtual 87, 3) := by decide +kernel
theorem dX6_ask_8 : decode cX6_ask 8 = .ok (.ifCond .ne 5, 3) := by decide +kernel
theorem dX6_ask_11 : decode cX6_ask 11 = .ok (.iconst (-1), 1) := by decide +kernel
theorem dX6_ask_12 : decode cX6_ask 12 = .ok (.ireturn, 1) := by decide +kernel
theorem dX6_ask_13 : decode cX6_ask 13 = .ok (.aload_n 0, 1) := by decide +kernel
theorem dX6_ask_14 : decode cX6_ask 14 = .ok (.iconst 0, 1) := by decide +kernel
theorem dX6_ask_15 : decode cX6_ask 15 = .ok (.invokevirtual 205, 3) := by decide +kernel
theorem dX6_ask_18 : decode cX6_ask 18 = .ok (.istore_n 2, 1) := by decide +kernel
theorem dX6_ask_19 : decode cX6_ask 19 = .ok (.iload_n 2, 1) := by decide +kernel
theorem dX6_ask_20 : decode cX6_ask 20 = .ok (.iconst 1, 1) := by decide +kernel
theorem dX6_ask_21 : decode cX6_ask 21 = .ok (.if_icmp .gt 6, 3) := by decide +kernel
theorem dX6_ask_24 : decode cX6_ask 24 = .ok (.bipush (-9), 2) := by decide +kernel
theorem dX6_ask_26 : decode cX6_ask 26 = .ok (.ireturn, 1) := by decide +kernel
theorem dX6_ask_27 : decode cX6_ask 27 = .ok (.iconst 0, 1) := by decide +kernel
theorem dX6_ask_28 : decode cX6_ask 28 = .ok (.istore_n 3, 1) := by decide +kernel
theorem dX6_ask_29 : decode cX6_ask 29 = .ok (.iload_n 2, 1) := by decide +kernel
theorem dX6_ask_30 : decode cX6_ask 30 = .ok (.iconst 1, 1) := by decide +kernel
theorem dX6_ask_31 : decode cX6_ask 31 = .ok (.iadd, 1) := by decide +kernel
theorem dX6_ask_32 : decode cX6_ask 32 = .ok (.istore 4, 2) := by decide +kernel
theorem dX6_ask_34 : decode cX6_ask 34 = .ok (.iconst 0, 1) := by decide +kernel
theorem dX6_ask_35 : decode cX6_ask 35 = .ok (.istore 5, 2) := by decide +kernel
theorem dX6_ask_37 : decode cX6_ask 37 = .ok (.iload 5, 2) := by decide +kernel
theorem dX6_ask_39 : decode cX6_ask 39 = .ok (.bipush 6, 2) := by decide +kernel
theorem dX6_ask_41 : decode cX6_ask 41 = .ok (.if_icmp .ge 43, 3) := by decide +kernel
theorem dX6_ask_44 : decode cX6_ask 44 = .ok (.aload_n 0, 1) := by decide +kernel
theorem dX6_ask_45 : decode cX6_ask 45 = .ok (.iload 5, 2) := by decide +kernel
theorem dX6_ask_47 : decode cX6_ask 47 = .ok (.iload_n 1, 1) := by decide +kernel
theorem dX6_ask_48 : decode cX6_ask 48 = .ok (.invokevirtual 208, 3) := by decide +kernel
theorem dX6_ask_51 : decode cX6_ask 51 = .ok (.istore 6, 2) := by decide +kernel
theorem dX6_ask_53 : decode cX6_ask 53 = .ok (.iload 6, 2) := by decide +kernel
theorem dX6_ask_55 : decode cX6_ask 55 = .ok (.iload_n 2, 1) := by decide +kernel
theorem dX6_ask_56 : decode cX6_ask 56 = .ok (.iload 6, 2) := by decide +kernel
theorem dX6_ask_58 : decode cX6_ask 58 = .ok (.isub, 1) := by decide +kernel
theorem dX6_ask_59 : decode cX6_ask 59 = .ok (.invokestatic 211, 3) := by decide +kernel
theorem dX6_ask_62 : decode cX6_ask 62 = .ok (.istore 7, 2) := by decide +kernel
theorem dX6_ask_64 : decode cX6_ask 64 = .ok (.iload 7, 2) := by decide +kernel
theorem dX6_ask_66 : decode cX6_ask 66 = .ok (.iload 4, 2) := by decide +kernel
theorem dX6_ask_68 : decode cX6_ask 68 = .ok (.if_icmp .ge 10, 3) := by decide +kernel
theorem dX6_ask_71 : decode cX6_ask 71 = .ok (.iload 7, 2) := by decide +kernel
theorem dX6_ask_73 : decode cX6_ask 73 = .ok (.istore 4, 2) := by decide +kernel
theorem dX6_ask_75 : decode cX6_ask 75 = .ok (.iload 5, 2) := by decide +kernel
theorem dX6_ask_77 : decode cX6_ask 77 = .ok (.istore_n 3, 1) := by decide +kernel
theorem dX6_ask_78 : decode cX6_ask 78 = .ok (.iinc 5 1, 3) := by decide +kernel
theorem dX6_ask_81 : decode cX6_ask 81 = .ok (.goto (-44), 3) := by decide +kernel
theorem dX6_ask_84 : decode cX6_ask 84 = .ok (.iload_n 3, 1) := by decide +kernel
theorem dX6_ask_85 : decode cX6_ask 85 = .ok (.ireturn, 1) := by decide +kernel
theorem dX6_setsLetBy_0 : decode cX6_setsLetBy 0 = .ok (.iconst 0, 1) := by decide +kernel
theorem dX6_setsLetBy_1 : decode cX6_setsLetBy 1 = .ok (.istore_n 3, 1) := by decide +kernel
theorem dX6_setsLetBy_2 : decode cX6_setsLetBy 2 = .ok (.iconst 0, 1) := by decide +kernel
theorem dX6_setsLetBy_3 : decode cX6_setsLetBy 3 = .ok (.istore 4, 2) := by decide +kernel
theorem dX6_setsLetBy_5 : decode cX6_setsLetBy 5 = .ok (.iload 4, 2) := by decide +kernel
theorem dX6_setsLetBy_7 : decode cX6_setsLetBy 7 = .ok (.bipush 64, 2) := by decide +kernel
theorem dX6_setsLetBy_9 : decode cX6_setsLetBy 9 = .ok (.if_icmp .ge 49, 3) := by decide +kernel
theorem dX6_setsLetBy_12 : decode cX6_setsLetBy 12 = .ok (.aload_n 0, 1) := by decide +kernel
theorem dX6_setsLetBy_13 : decode cX6_setsLetBy 13 = .ok (.getfield 19, 3) := by decide +kernel
theorem dX6_setsLetBy_16 : decode cX6_setsLetBy 16 = .ok (.iload_n 1, 1) := by decide +kernel
theorem dX6_setsLetBy_17 : decode cX6_setsLetBy 17 = .ok (.iload_n 2, 1) := by decide +kernel
theorem dX6_setsLetBy_18 : decode cX6_setsLetBy 18 = .ok (.invokevirtual 214, 3) := by decide +kernel
theorem dX6_setsLetBy_21 : decode cX6_setsLetBy 21 = .ok (.ifCond .eq 31, 3) := by decide +kernel
theorem dX6_setsLetBy_24 : decode cX6_setsLetBy 24 = .ok (.iload 4, 2) := by decide +kernel
theorem dX6_setsLetBy_26 : decode cX6_setsLetBy 26 = .ok (.iload_n 1, 1) := by decide +kernel
theorem dX6_setsLetBy_27 : decode cX6_setsLetBy 27 = .ok (.invokestatic 157, 3) := by decide +kernel
theorem dX6_setsLetBy_30 : decode cX6_setsLetBy 30 = .ok (.ifCond .eq 22, 3) := by decide +kernel
theorem dX6_setsLetBy_33 : decode cX6_setsLetBy 33 = .ok (.aload_n 0, 1) := by decide +kernel
theorem dX6_setsLetBy_34 : decode cX6_setsLetBy 34 = .ok (.getfield 51, 3) := by decide +kernel
theorem dX6_setsLetBy_37 : decode cX6_setsLetBy 37 = .ok (.iload 4, 2) := by decide +kernel
theorem dX6_setsLetBy_39 : decode cX6_setsLetBy 39 = .ok (.aload_n 0, 1) := by decide +kernel
theorem dX6_setsLetBy_40 : decode cX6_setsLetBy 40 = .ok (.getfield 19, 3) := by decide +kernel
theorem dX6_setsLetBy_43 : decode cX6_setsLetBy 43 = .ok (.invokevirtual 201, 3) := by decide +kernel
theorem dX6_setsLetBy_46 : decode cX6_setsLetBy 46 = .ok (.ifCond .eq 6, 3) := by decide +kernel
theorem dX6_setsLetBy_49 : decode cX6_setsLetBy 49 = .ok (.iinc 3 1, 3) := by decide +kernel
theorem dX6_setsLetBy_52 : decode cX6_setsLetBy 52 = .ok (.iinc 4 1, 3) := by decide +kernel
theorem dX6_setsLetBy_55 : decode cX6_setsLetBy 55 = .ok (.goto (-50), 3) := by decide +kernel
theorem dX6_setsLetBy_58 : decode cX6_setsLetBy 58 = .ok (.iload_n 3, 1) := by decide +kernel
theorem dX6_setsLetBy_59 : decode cX6_setsLetBy 59 = .ok (.ireturn, 1) := by decide +kernel
theorem dX6_tale_0 : decode cX6_tale 0 = .ok (.iload_n 1, 1) := by decide +kernel
theorem dX6_tale_1 : decode cX6_tale 1 = .ok (.invokestatic 122, 3) := by decide +kernel
theorem dX6_tale_4 : decode cX6_tale 4 = .ok (.ifCond .eq 13, 3) := by decide +kernel
theorem dX6_tale_7 : decode cX6_tale 7 = .ok (.iload_n 2, 1) := by decide +kernel
theorem dX6_tale_8 : decode cX6_tale 8 = .ok (.ifCond .lt 9, 3) := by decide +kernel
theorem dX6_tale_11 : decode cX6_tale 11 = .ok (.iload_n 2, 1) := by decide +kernel
theorem dX6_tale_12 : decode cX6_tale 12 = .ok (.bipush 99, 2) := by decide +kernel
theorem dX6_tale_14 : decode cX6_tale 14 = .ok (.if_icmp .le 5, 3) := by decide +kernel
theorem dX6_tale_17 : decode cX6_tale 17 = .ok (.iconst (-1), 1) := by decide +kernel
theorem dX6_tale_18 : decode cX6_tale 18 = .ok (.ireturn, 1) := by decide +kernel
theorem dX6_tale_19 : decode cX6_tale 19 = .ok (.aload_n 0, 1) := by decide +kernel
theorem dX6_tale_20 : decode cX6_tale 20 = .ok (.getfield 19, 3) := by decide +kernel
theorem dX6_tale_23 : decode cX6_tale 23 = .ok (.iload_n 1, 1) := by decide +kernel
theorem dX6_tale_24 : decode cX6_tale 24 = .ok (.iload_n 2, 1) := by decide +kernel
theorem dX6_tale_25 : decode cX6_tale 25 = .ok (.invokevirtual 217, 3) := by decide +kernel
theorem dX6_tale_28 : decode cX6_tale 28 = .ok (.ireturn, 1) := by decide +kernel
theorem dX6_first_0 : decode cX6_first 0 = .ok (.iload_n 1, 1) := by decide +kernel
theorem dX6_first_1 : decode cX6_first 1 = .ok (.invokestatic 122, 3) := by decide +kernel
theorem dX6_first_4 : decode cX6_first 4 = .ok (.ifCond .eq 13, 3) := by decide +kernel
theorem dX6_first_7 : decode cX6_first 7 = .ok (.iload_n 2, 1) := by decide +kernel
theorem dX6_first_8 : decode cX6_first 8 = .ok (.ifCond .lt 9, 3) := by decide +kernel
theorem dX6_first_11 : decode cX6_first 11 = .ok (.iload_n 2, 1) := by decide +kernel
theorem dX6_first_12 : decode cX6_first 12 = .ok (.bipush 99, 2) := by decide +kernel
theorem dX6_first_14 : decode cX6_first 14 = .ok (.if_icmp .le 5, 3) := by decide +kernel
theorem dX6_first_17 : decode cX6_first 17 = .ok (.iconst (-1), 1) := by decide +kernel
theorem dX6_first_18 : decode cX6_first 18 = .ok (.ireturn, 1) := by decide +kernel
theorem dX6_first_19 : decode cX6_first 19 = .ok (.iconst 0, 1) := by decide +kernel
theorem dX6_first_20 : decode cX6_first 20 = .ok (.istore_n 3, 1) := by decide +kernel
theorem dX6_first_21 : decode cX6_first 21 = .ok (.iconst 0, 1) := by decide +kernel
theorem dX6_first_22 : decode cX6_first 22 = .ok (.istore 4, 2) := by decide +kernel
theorem dX6_first_24 : decode cX6_first 24 = .ok (.iload 4, 2) := by decide +kernel
theorem dX6_first_26 : decode cX6_first 26 = .ok (.bipush 6, 2) := by decide +kernel
theorem dX6_first_28 : decode cX6_first 28 = .ok (.if_icmp .ge 30, 3) := by decide +kernel
theorem dX6_first_31 : decode cX6_first 31 = .ok (.aload_n 0, 1) := by decide +kernel
theorem dX6_first_32 : decode cX6_first 32 = .ok (.getfield 19, 3) := by decide +kernel
theorem dX6_first_35 : decode cX6_first 35 = .ok (.iload 4, 2) := by decide +kernel
theorem dX6_first_37 : decode cX6_first 37 = .ok (.iload_n 2, 1) := by decide +kernel
theorem dX6_first_38 : decode cX6_first 38 = .ok (.invokevirtual 217, 3) := by decide +kernel
theorem dX6_first_41 : decode cX6_first 41 = .ok (.iload_n 1, 1) := by decide +kernel
theorem dX6_first_42 : decode cX6_first 42 = .ok (.if_icmp .ne 10, 3) := by decide +kernel
theorem dX6_first_45 : decode cX6_first 45 = .ok (.iload_n 3, 1) := by decide +kernel
theorem dX6_first_46 : decode cX6_first 46 = .ok (.iconst 1, 1) := by decide +kernel
theorem dX6_first_47 : decode cX6_first 47 = .ok (.iload 4, 2) := by decide +kernel
theorem dX6_first_49 : decode cX6_first 49 = .ok (.ishl, 1) := by decide +kernel
theorem dX6_first_50 : decode cX6_first 50 = .ok (.ior, 1) := by decide +kernel
theorem dX6_first_51 : decode cX6_first 51 = .ok (.istore_n 3, 1) := by decide +kernel
theorem dX6_first_52 : decode cX6_first 52 = .ok (.iinc 4 1, 3) := by decide +kernel
theorem dX6_first_55 : decode cX6_first 55 = .ok (.goto (-31), 3) := by decide +kernel
theorem dX6_first_58 : decode cX6_first 58 = .ok (.iload_n 3, 1) := by decide +kernel
theorem dX6_first_59 : decode cX6_first 59 = .ok (.ireturn, 1) := by decide +kernel
theorem dX6_when_0 : decode cX6_when 0 = .ok (.iload_n 1, 1) := by decide +kernel
theorem dX6_when_1 : decode cX6_when 1 = .ok (.ifCond .lt 10, 3) := by decide +kernel
theorem dX6_when_4 : decode cX6_when 4 = .ok (.iload_n 1, 1) := by decide +kernel
theorem dX6_when_5 : decode cX6_when 5 = .ok (.sipush 30000, 3) := by decide +kernel
theorem dX6_when_8 : decode cX6_when 8 = .ok (.if_icmp .le 5, 3) := by decide +kernel
theorem dX6_when_11 : decode cX6_when 11 = .ok (.iconst (-1), 1) := by decide +kernel
theorem dX6_when_12 : decode cX6_when 12 = .ok (.ireturn, 1) := by decide +kernel
theorem dX6_when_13 : decode cX6_when 13 = .ok (.aload_n 0, 1) := by decide +kernel
theorem dX6_when_14 : decode cX6_when 14 = .ok (.getfield 19, 3) := by decide +kernel
theorem dX6_when_17 : decode cX6_when 17 = .ok (.iload_n 1, 1) := by decide +kernel
theorem dX6_when_18 : decode cX6_when 18 = .ok (.invokevirtual 220, 3) := by decide +kernel
theorem dX6_when_21 : decode cX6_when 21 = .ok (.ireturn, 1) := by decide +kernel
theorem dX6_odds_0 : decode cX6_odds 0 = .ok (.iload_n 1, 1) := by decide +kernel
theorem dX6_odds_1 : decode cX6_odds 1 = .ok (.ifCond .lt 40, 3) := by decide +kernel
theorem dX6_odds_4 : decode cX6_odds 4 = .ok (.iload_n 1, 1) := by decide +kernel
theorem dX6_odds_5 : decode cX6_odds 5 = .ok (.bipush 10, 2) := by decide +kernel
theorem dX6_odds_7 : decode cX6_odds 7 = .ok (.if_icmp .gt 34, 3) := by decide +kernel
theorem dX6_odds_10 : decode cX6_odds 10 = .ok (.iload_n 2, 1) := by decide +kernel
theorem dX6_odds_11 : decode cX6_odds 11 = .ok (.ifCond .lt 30, 3) := by decide +kernel
theorem dX6_odds_14 : decode cX6_odds 14 = .ok (.iload_n 2, 1) := by decide +kernel
theorem dX6_odds_15 : decode cX6_odds 15 = .ok (.bipush 6, 2) := by decide +kernel
theorem dX6_odds_17 : decode cX6_odds 17 = .ok (.if_icmp .gt 24, 3) := by decide +kernel
theorem dX6_odds_20 : decode cX6_odds 20 = .ok (.iload_n 3, 1) := by decide +kernel
theorem dX6_odds_21 : decode cX6_odds 21 = .ok (.ifCond .lt 20, 3) := by decide +kernel
theorem dX6_odds_24 : decode cX6_odds 24 = .ok (.iload_n 3, 1) := by decide +kernel
theorem dX6_odds_25 : decode cX6_odds 25 = .ok (.bipush 6, 2) := by decide +kernel
theorem dX6_odds_27 : decode cX6_odds 27 = .ok (.if_icmp .gt 14, 3) := by decide +kernel
theorem dX6_odds_30 : decode cX6_odds 30 = .ok (.iload 4, 2) := by decide +kernel
theorem dX6_odds_32 : decode cX6_odds 32 = .ok (.ifCond .lt 9, 3) := by decide +kernel
theorem dX6_odds_35 : decode cX6_odds 35 = .ok (.iload 4, 2) := by decide +kernel
theorem dX6_odds_37 : decode cX6_odds 37 = .ok (.iconst 1, 1) := by decide +kernel
theorem dX6_odds_38 : decode cX6_odds 38 = .ok (.if_icmp .le 5, 3) := by decide +kernel
theorem dX6_odds_41 : decode cX6_odds 41 = .ok (.iconst (-1), 1) := by decide +kernel
theorem dX6_odds_42 : decode cX6_odds 42 = .ok (.ireturn, 1) := by decide +kernel
theorem dX6_odds_43 : decode cX6_odds 43 = .ok (.iconst 0, 1) := by decide +kernel
theorem dX6_odds_44 : decode cX6_odds 44 = .ok (.istore 5, 2) := by decide +kernel
theorem dX6_odds_46 : decode cX6_odds 46 = .ok (.iload_n 3, 1) := by decide +kernel
theorem dX6_odds_47 : decode cX6_odds 47 = .ok (.istore 6, 2) := by decide +kernel
theorem dX6_odds_49 : decode cX6_odds 49 = .ok (.iload 6, 2) := by decide +kernel
theorem dX6_odds_51 : decode cX6_odds 51 = .ok (.iload_n 2, 1) := by decide +kernel
theorem dX6_odds_52 : decode cX6_odds 52 = .ok (.if_icmp .gt 39, 3) := by decide +kernel
theorem dX6_odds_55 : decode cX6_odds 55 = .ok (.iload 5, 2) := by decide +kernel
theorem dX6_odds_57 : decode cX6_odds 57 = .ok (.iload_n 2, 1) := by decide +kernel
theorem dX6_odds_58 : decode cX6_odds 58 = .ok (.iload 6, 2) := by decide +kernel
theorem dX6_odds_60 : decode cX6_odds 60 = .ok (.invokestatic 223, 3) := by decide +kernel
theorem dX6_odds_63 : decode cX6_odds 63 = .ok (.iload_n 1, 1) := by decide +kernel
theorem dX6_odds_64 : decode cX6_odds 64 = .ok (.iload 6, 2) := by decide +kernel
theorem dX6_odds_66 : decode cX6_odds 66 = .ok (.invokestatic 226, 3) := by decide +kernel
theorem dX6_odds_69 : decode cX6_odds 69 = .ok (.imul, 1) := by decide +kernel
theorem dX6_odds_70 : decode cX6_odds 70 = .ok (.bipush 10, 2) := by decide +kernel
theorem dX6_odds_72 : decode cX6_odds 72 = .ok (.iload_n 1, 1) := by decide +kernel
theorem dX6_odds_73 : decode cX6_odds 73 = .ok (.isub, 1) := by decide +kernel
theorem dX6_odds_74 : decode cX6_odds 74 = .ok (.iload_n 2, 1) := by decide +kernel
theorem dX6_odds_75 : decode cX6_odds 75 = .ok (.iload 6, 2) := by decide +kernel
theorem dX6_odds_77 : decode cX6_odds 77 = .ok (.isub, 1) := by decide +kernel
theorem dX6_odds_78 : decode cX6_odds 78 = .ok (.invokestatic 226, 3) := by decide +kernel
theorem dX6_odds_81 : decode cX6_odds 81 = .ok (.imul, 1) := by decide +kernel
theorem dX6_odds_82 : decode cX6_odds 82 = .ok (.iadd, 1) := by decide +kernel
theorem dX6_odds_83 : decode cX6_odds 83 = .ok (.istore 5, 2) := by decide +kernel
theorem dX6_odds_85 : decode cX6_odds 85 = .ok (.iinc 6 1, 3) := by decide +kernel
theorem dX6_odds_88 : decode cX6_odds 88 = .ok (.goto (-39), 3) := by decide +kernel
theorem dX6_odds_91 : decode cX6_odds 91 = .ok (.bipush 10, 2) := by decide +kernel
theorem dX6_odds_93 : decode cX6_odds 93 = .ok (.iload_n 2, 1) := by decide +kernel
theorem dX6_odds_94 : decode cX6_odds 94 = .ok (.invokestatic 226, 3) := by decide +kernel
theorem dX6_odds_97 : decode cX6_odds 97 = .ok (.istore 6, 2) := by decide +kernel
theorem dX6_odds_99 : decode cX6_odds 99 = .ok (.iload 5, 2) := by decide +kernel
theorem dX6_odds_101 : decode cX6_odds 101 = .ok (.iload 6, 2) := by decide +kernel
theorem dX6_odds_103 : decode cX6_odds 103 = .ok (.invokestatic 229, 3) := by decide +kernel
theorem dX6_odds_106 : decode cX6_odds 106 = .ok (.istore 7, 2) := by decide +kernel
theorem dX6_odds_108 : decode cX6_odds 108 = .ok (.iload 4, 2) := by decide +kernel
theorem dX6_odds_110 : decode cX6_odds 110 = .ok (.ifCond .ne 8, 3) := by decide +kernel
theorem dX6_odds_113 : decode cX6_odds 113 = .ok (.iload 5, 2) := by decide +kernel
theorem dX6_odds_115 : decode cX6_odds 115 = .ok (.goto 5, 3) := by decide +kernel
theorem dX6_odds_118 : decode cX6_odds 118 = .ok (.iload 6, 2) := by decide +kernel
theorem dX6_odds_120 : decode cX6_odds 120 = .ok (.iload 7, 2) := by decide +kernel
theorem dX6_odds_122 : decode cX6_odds 122 = .ok (.idiv, 1) := by decide +kernel
theorem dX6_odds_123 : decode cX6_odds 123 = .ok (.ireturn, 1) := by decide +kernel
theorem dX6_rate_0 : decode cX6_rate 0 = .ok (.aload_n 0, 1) := by decide +kernel
theorem dX6_rate_1 : decode cX6_rate 1 = .ok (.getfield 19, 3) := by decide +kernel
theorem dX6_rate_4 : decode cX6_rate 4 = .ok (.iload_n 2, 1) := by decide +kernel
theorem dX6_rate_5 : decode cX6_rate 5 = .ok (.invokevirtual 98, 3) := by decide +kernel
theorem dX6_rate_8 : decode cX6_rate 8 = .ok (.ifCond .ne 6, 3) := by decide +kernel
theorem dX6_rate_11 : decode cX6_rate 11 = .ok (.ldc 232, 2) := by decide +kernel
theorem dX6_rate_13 : decode cX6_rate 13 = .ok (.ireturn, 1) := by decide +kernel
theorem dX6_rate_14 : decode cX6_rate 14 = .ok (.iload_n 1, 1) := by decide +kernel
theorem dX6_rate_15 : decode cX6_rate 15 = .ok (.tableswitch 73 0 5 #[37, 43, 49, 55, 61, 67], 37) := by decide +kernel
theorem dX6_rate_52 : decode cX6_rate 52 = .ok (.aload_n 0, 1) := by decide +kernel
theorem dX6_rate_53 : decode cX6_rate 53 = .ok (.iload_n 2, 1) := by decide +kernel
theorem dX6_rate_54 : decode cX6_rate 54 = .ok (.invokevirtual 233, 3) := by decide +kernel
theorem dX6_rate_57 : decode cX6_rate 57 = .ok (.ireturn, 1) := by decide +kernel
theorem dX6_rate_58 : decode cX6_rate 58 = .ok (.aload_n 0, 1) := by decide +kernel
theorem dX6_rate_59 : decode cX6_rate 59 = .ok (.iload_n 2, 1) := by decide +kernel
theorem dX6_rate_60 : decode cX6_rate 60 = .ok (.invokevirtual 236, 3) := by decide +kernel
theorem dX6_rate_63 : decode cX6_rate 63 = .ok (.ireturn, 1) := by decide +kernel
theorem dX6_rate_64 : decode cX6_rate 64 = .ok (.aload_n 0, 1) := by decide +kernel
theorem dX6_rate_65 : decode cX6_rate 65 = .ok (.iload_n 2, 1) := by decide +kernel
theorem dX6_rate_66 : decode cX6_rate 66 = .ok (.invokevirtual 239, 3) := by decide +kernel
theorem dX6_rate_69 : decode cX6_rate 69 = .ok (.ireturn, 1) := by decide +kernel
theorem dX6_rate_70 : decode cX6_rate 70 = .ok (.aload_n 0, 1) := by decide +kernel
theorem dX6_rate_71 : decode cX6_rate 71 = .ok (.iload_n 2, 1) := by decide +kernel
theorem dX6_rate_72 : decode cX6_rate 72 = .ok (.invokevirtual 242, 3) := by decide +kernel
theorem dX6_rate_75 : decode cX6_rate 75 = .ok (.ireturn, 1) := by decide +kernel
theorem dX6_rate_76 : decode cX6_rate 76 = .ok (.aload_n 0, 1) := by decide +kernel
theorem dX6_rate_77 : decode cX6_rate 77 = .ok (.iload_n 2, 1) := by decide +kernel
theorem dX6_rate_78 : decode cX6_rate 78 = .ok (.invokevirtual 245, 3) := by decide +kernel
theorem dX6_rate_81 : decode cX6_rate 81 = .ok (.ireturn, 1) := by decide +kernel
theorem dX6_rate_82 : decode cX6_rate 82 = .ok (.aload_n 0, 1) := by decide +kernel
theorem dX6_rate_83 : decode cX6_rate 83 = .ok (.iload_n 2, 1) := by decide +kernel
theorem dX6_rate_84 : decode cX6_rate 84 = .ok (.invokevirtual 248, 3) := by decide +kernel
theorem dX6_rate_87 : decode cX6_rate 87 = .ok (.ireturn, 1) := by decide +kernel
theorem dX6_rate_88 : decode cX6_rate 88 = .ok (.ldc 232, 2) := by decide +kernel
theorem dX6_rate_90 : decode cX6_rate 90 = .ok (.ireturn, 1) := by decide +kernel
theorem dX6_rateAsGoer_0 : decode cX6_rateAsGoer 0 = .ok (.aload_n 0, 1) := by decide +kernel
theorem dX6_rateAsGoer_1 : decode cX6_rateAsGoer 1 = .ok (.dup, 1) := by decide +kernel
theorem dX6_rateAsGoer_2 : decode cX6_rateAsGoer 2 = .ok (.getfield 62, 3) := by decide +kernel
theorem dX6_rateAsGoer_5 : decode cX6_rateAsGoer 5 = .ok (.lconst 1, 1) := by decide +kernel
theorem dX6_rateAsGoer_6 : decode cX6_rateAsGoer 6 = .ok (.ladd, 1) := by decide +kernel
theorem dX6_rateAsGoer_7 : decode cX6_rateAsGoer 7 = .ok (.putfield 62, 3) := by decide +kernel
theorem dX6_rateAsGoer_10 : decode cX6_rateAsGoer 10 = .ok (.aload_n 0, 1) := by decide +kernel
theorem dX6_rateAsGoer_11 : decode cX6_rateAsGoer 11 = .ok (.getfield 19, 3) := by decide +kernel
theorem dX6_rateAsGoer_14 : decode cX6_rateAsGoer 14 = .ok (.getfield 101, 3) := by decide +kernel
theorem dX6_rateAsGoer_17 : decode cX6_rateAsGoer 17 = .ok (.iload_n 1, 1) := by decide +kernel
theorem dX6_rateAsGoer_18 : decode cX6_rateAsGoer 18 = .ok (.iaload, 1) := by decide +kernel
theorem dX6_rateAsGoer_19 : decode cX6_rateAsGoer 19 = .ok (.invokestatic 146, 3) := by decide +kernel
theorem dX6_rateAsGoer_22 : decode cX6_rateAsGoer 22 = .ok (.ireturn, 1) := by decide +kernel
theorem dX6_rateAsGent_0 : decode cX6_rateAsGent 0 = .ok (.aload_n 0, 1) := by decide +kernel
theorem dX6_rateAsGent_1 : decode cX6_rateAsGent 1 = .ok (.dup, 1) := by decide +kernel
theorem dX6_rateAsGent_2 : decode cX6_rateAsGent 2 = .ok (.getfield 62, 3) := by decide +kernel
theorem dX6_rateAsGent_5 : decode cX6_rateAsGent 5 = .ok (.ldc2_w 251, 3) := by decide +kernel
theorem dX6_rateAsGent_8 : decode cX6_rateAsGent 8 = .ok (.ladd, 1) := by decide +kernel
theorem dX6_rateAsGent_9 : decode cX6_rateAsGent 9 = .ok (.putfield 62, 3) := by decide +kernel
theorem dX6_rateAsGent_12 : decode cX6_rateAsGent 12 = .ok (.aload_n 0, 1) := by decide +kernel
theorem dX6_rateAsGent_13 : decode cX6_rateAsGent 13 = .ok (.iload_n 1, 1) := by decide +kernel
theorem dX6_rateAsGent_14 : decode cX6_rateAsGent 14 = .ok (.invokevirtual 233, 3) := by decide +kernel
theorem dX6_rateAsGent_17 : decode cX6_rateAsGent 17 = .ok (.aload_n 0, 1) := by decide +kernel
theorem dX6_rateAsGent_18 : decode cX6_rateAsGent 18 = .ok (.getfield 29, 3) := by decide +kernel
theorem dX6_rateAsGent_21 : decode cX6_rateAsGent 21 = .ok (.getfield 113, 3) := by decide +kernel
theorem dX6_rateAsGent_24 : decode cX6_rateAsGent 24 = .ok (.iload_n 1, 1) := by decide +kernel
theorem dX6_rateAsGent_25 : decode cX6_rateAsGent 25 = .ok (.iaload, 1) := by decide +kernel
theorem dX6_rateAsGent_26 : decode cX6_rateAsGent 26 = .ok (.iadd, 1) := by decide +kernel
theorem dX6_rateAsGent_27 : decode cX6_rateAsGent 27 = .ok (.ireturn, 1) := by decide +kernel
theorem dX6_rateAsDoctor_0 : decode cX6_rateAsDoctor 0 = .ok (.aload_n 0, 1) := by decide +kernel
theorem dX6_rateAsDoctor_1 : decode cX6_rateAsDoctor 1 = .ok (.dup, 1) := by decide +kernel
theorem dX6_rateAsDoctor_2 : decode cX6_rateAsDoctor 2 = .ok (.getfield 62, 3) := by decide +kernel
theorem dX6_rateAsDoctor_5 : decode cX6_rateAsDoctor 5 = .ok (.ldc2_w 253, 3) := by decide +kernel
theorem dX6_rateAsDoctor_8 : decode cX6_rateAsDoctor 8 = .ok (.ladd, 1) := by decide +kernel
theorem dX6_rateAsDoctor_9 : decode cX6_rateAsDoctor 9 = .ok (.putfield 62, 3) := by decide +kernel
theorem dX6_rateAsDoctor_12 : decode cX6_rateAsDoctor 12 = .ok (.aload_n 0, 1) := by decide +kernel
theorem dX6_rateAsDoctor_13 : decode cX6_rateAsDoctor 13 = .ok (.iload_n 1, 1) := by decide +kernel
theorem dX6_rateAsDoctor_14 : decode cX6_rateAsDoctor 14 = .ok (.invokevirtual 233, 3) := by decide +kernel
theorem dX6_rateAsDoctor_17 : decode cX6_rateAsDoctor 17 = .ok (.aload_n 0, 1) := by decide +kernel
theorem dX6_rateAsDoctor_18 : decode cX6_rateAsDoctor 18 = .ok (.getfield 19, 3) := by decide +kernel
theorem dX6_rateAsDoctor_21 : decode cX6_rateAsDoctor 21 = .ok (.iload_n 1, 1) := by decide +kernel
theorem dX6_rateAsDoctor_22 : decode cX6_rateAsDoctor 22 = .ok (.invokevirtual 116, 3) := by decide +kernel
theorem dX6_rateAsDoctor_25 : decode cX6_rateAsDoctor 25 = .ok (.invokestatic 146, 3) := by decide +kernel
theorem dX6_rateAsDoctor_28 : decode cX6_rateAsDoctor 28 = .ok (.isub, 1) := by decide +kernel
theorem dX6_rateAsDoctor_29 : decode cX6_rateAsDoctor 29 = .ok (.ireturn, 1) := by decide +kernel
theorem dX6_rateAsSamples_0 : decode cX6_rateAsSamples 0 = .ok (.aload_n 0, 1) := by decide +kernel
theorem dX6_rateAsSamples_1 : decode cX6_rateAsSamples 1 = .ok (.dup, 1) := by decide +kernel
theorem dX6_rateAsSamples_2 : decode cX6_rateAsSamples 2 = .ok (.getfield 62, 3) := by decide +kernel
theorem dX6_rateAsSamples_5 : decode cX6_rateAsSamples 5 = .ok (.ldc2_w 255, 3) := by decide +kernel
theorem dX6_rateAsSamples_8 : decode cX6_rateAsSamples 8 = .ok (.ladd, 1) := by decide +kernel
theorem dX6_rateAsSamples_9 : decode cX6_rateAsSamples 9 = .ok (.putfield 62, 3) := by decide +kernel
theorem dX6_rateAsSamples_12 : decode cX6_rateAsSamples 12 = .ok (.iconst 2, 1) := by decide +kernel
theorem dX6_rateAsSamples_13 : decode cX6_rateAsSamples 13 = .ok (.aload_n 0, 1) := by decide +kernel
theorem dX6_rateAsSamples_14 : decode cX6_rateAsSamples 14 = .ok (.iload_n 1, 1) := by decide +kernel
theorem dX6_rateAsSamples_15 : decode cX6_rateAsSamples 15 = .ok (.invokevirtual 236, 3) := by decide +kernel
theorem dX6_rateAsSamples_18 : decode cX6_rateAsSamples 18 = .ok (.imul, 1) := by decide +kernel
theorem dX6_rateAsSamples_19 : decode cX6_rateAsSamples 19 = .ok (.ireturn, 1) := by decide +kernel
theorem dX6_rateAsWife_0 : decode cX6_rateAsWife 0 = .ok (.aload_n 0, 1) := by decide +kernel
theorem dX6_rateAsWife_1 : decode cX6_rateAsWife 1 = .ok (.dup, 1) := by decide +kernel
theorem dX6_rateAsWife_2 : decode cX6_rateAsWife 2 = .ok (.getfield 62, 3) := by decide +kernel
theorem dX6_rateAsWife_5 : decode cX6_rateAsWife 5 = .ok (.ldc2_w 257, 3) := by decide +kernel
theorem dX6_rateAsWife_8 : decode cX6_rateAsWife 8 = .ok (.ladd, 1) := by decide +kernel
theorem dX6_rateAsWife_9 : decode cX6_rateAsWife 9 = .ok (.putfield 62, 3) := by decide +kernel
theorem dX6_rateAsWife_12 : decode cX6_rateAsWife 12 = .ok (.aload_n 0, 1) := by decide +kernel
theorem dX6_rateAsWife_13 : decode cX6_rateAsWife 13 = .ok (.iload_n 1, 1) := by decide +kernel
theorem dX6_rateAsWife_14 : decode cX6_rateAsWife 14 = .ok (.invokevirtual 239, 3) := by decide +kernel
theorem dX6_rateAsWife_17 : decode cX6_rateAsWife 17 = .ok (.iload_n 1, 1) := by decide +kernel
theorem dX6_rateAsWife_18 : decode cX6_rateAsWife 18 = .ok (.iadd, 1) := by decide +kernel
theorem dX6_rateAsWife_19 : decode cX6_rateAsWife 19 = .ok (.ireturn, 1) := by decide +kernel
theorem dX6_rateAsTall_0 : decode cX6_rateAsTall 0 = .ok (.aload_n 0, 1) := by decide +kernel
theorem dX6_rateAsTall_1 : decode cX6_rateAsTall 1 = .ok (.dup, 1) := by decide +kernel
theorem dX6_rateAsTall_2 : decode cX6_rateAsTall 2 = .ok (.getfield 62, 3) := by decide +kernel
theorem dX6_rateAsTall_5 : decode cX6_rateAsTall 5 = .ok (.ldc2_w 259, 3) := by decide +kernel
theorem dX6_rateAsTall_8 : decode cX6_rateAsTall 8 = .ok (.ladd, 1) := by decide +kernel
theorem dX6_rateAsTall_9 : decode cX6_rateAsTall 9 = .ok (.putfield 62, 3) := by decide +kernel
theorem dX6_rateAsTall_12 : decode cX6_rateAsTall 12 = .ok (.aload_n 0, 1) := by decide +kernel
theorem dX6_rateAsTall_13 : decode cX6_rateAsTall 13 = .ok (.iload_n 1, 1) := by decide +kernel
theorem dX6_rateAsTall_14 : decode cX6_rateAsTall 14 = .ok (.invokevirtual 233, 3) := by decide +kernel
theorem dX6_rateAsTall_17 : decode cX6_rateAsTall 17 = .ok (.aload_n 0, 1) := by decide +kernel
theorem dX6_rateAsTall_18 : decode cX6_rateAsTall 18 = .ok (.getfield 29, 3) := by decide +kernel
theorem dX6_rateAsTall_21 : decode cX6_rateAsTall 21 = .ok (.getfield 132, 3) := by decide +kernel
theorem dX6_rateAsTall_24 : decode cX6_rateAsTall 24 = .ok (.iadd, 1) := by decide +kernel
theorem dX6_rateAsTall_25 : decode cX6_rateAsTall 25 = .ok (.ireturn, 1) := by decide +kernel
theorem dX6_keep_0 : decode cX6_keep 0 = .ok (.iload_n 1, 1) := by decide +kernel
theorem dX6_keep_1 : decode cX6_keep 1 = .ok (.ifCond .lt 8, 3) := by decide +kernel
theorem dX6_keep_4 : decode cX6_keep 4 = .ok (.iload_n 1, 1) := by decide +kernel
theorem dX6_keep_5 : decode cX6_keep 5 = .ok (.iconst 2, 1) := by decide +kernel
theorem dX6_keep_6 : decode cX6_keep 6 = .ok (.if_icmp .lt 5, 3) := by decide +kernel
theorem dX6_keep_9 : decode cX6_keep 9 = .ok (.iconst (-1), 1) := by decide +kernel
theorem dX6_keep_10 : decode cX6_keep 10 = .ok (.ireturn, 1) := by decide +kernel
theorem dX6_keep_11 : decode cX6_keep 11 = .ok (.aload_n 0, 1) := by decide +kernel
theorem dX6_keep_12 : decode cX6_keep 12 = .ok (.getfield 40, 3) := by decide +kernel
theorem dX6_keep_15 : decode cX6_keep 15 = .ok (.iload_n 1, 1) := by decide +kernel
theorem dX6_keep_16 : decode cX6_keep 16 = .ok (.aaload, 1) := by decide +kernel
theorem dX6_keep_17 : decode cX6_keep 17 = .ok (.aload_n 0, 1) := by decide +kernel
theorem dX6_keep_18 : decode cX6_keep 18 = .ok (.getfield 29, 3) := by decide +kernel
theorem dX6_keep_21 : decode cX6_keep 21 = .ok (.invokevirtual 261, 3) := by decide +kernel
theorem dX6_keep_24 : decode cX6_keep 24 = .ok (.aload_n 0, 1) := by decide +kernel
theorem dX6_keep_25 : decode cX6_keep 25 = .ok (.getfield 44, 3) := by decide +kernel
theorem dX6_keep_28 : decode cX6_keep 28 = .ok (.iload_n 1, 1) := by decide +kernel
theorem dX6_keep_29 : decode cX6_keep 29 = .ok (.iconst 1, 1) := by decide +kernel
theorem dX6_keep_30 : decode cX6_keep 30 = .ok (.bastore, 1) := by decide +kernel
theorem dX6_keep_31 : decode cX6_keep 31 = .ok (.aload_n 0, 1) := by decide +kernel
theorem dX6_keep_32 : decode cX6_keep 32 = .ok (.getfield 29, 3) := by decide +kernel
theorem dX6_keep_35 : decode cX6_keep 35 = .ok (.getfield 110, 3) := by decide +kernel
theorem dX6_keep_38 : decode cX6_keep 38 = .ok (.ireturn, 1) := by decide +kernel
theorem dX6_back_0 : decode cX6_back 0 = .ok (.iload_n 1, 1) := by decide +kernel
theorem dX6_back_1 : decode cX6_back 1 = .ok (.ifCond .lt 8, 3) := by decide +kernel
theorem dX6_back_4 : decode cX6_back 4 = .ok (.iload_n 1, 1) := by decide +kernel
theorem dX6_back_5 : decode cX6_back 5 = .ok (.iconst 2, 1) := by decide +kernel
theorem dX6_back_6 : decode cX6_back 6 = .ok (.if_icmp .lt 5, 3) := by decide +kernel
theorem dX6_back_9 : decode cX6_back 9 = .ok (.iconst (-1), 1) := by decide +kernel
theorem dX6_back_10 : decode cX6_back 10 = .ok (.ireturn, 1) := by decide +kernel
theorem dX6_back_11 : decode cX6_back 11 = .ok (.aload_n 0, 1) := by decide +kernel
theorem dX6_back_12 : decode cX6_back 12 = .ok (.getfield 44, 3) := by decide +kernel
theorem dX6_back_15 : decode cX6_back 15 = .ok (.iload_n 1, 1) := by decide +kernel
theorem dX6_back_16 : decode cX6_back 16 = .ok (.baload, 1) := by decide +kernel
theorem dX6_back_17 : decode cX6_back 17 = .ok (.ifCond .ne 6, 3) := by decide +kernel
theorem dX6_back_20 : decode cX6_back 20 = .ok (.bipush (-2), 2) := by decide +kernel
theorem dX6_back_22 : decode cX6_back 22 = .ok (.ireturn, 1) := by decide +kernel
theorem dX6_back_23 : decode cX6_back 23 = .ok (.aload_n 0, 1) := by decide +kernel
theorem dX6_back_24 : decode cX6_back 24 = .ok (.getfield 29, 3) := by decide +kernel
theorem dX6_back_27 : decode cX6_back 27 = .ok (.aload_n 0, 1) := by decide +kernel
theorem dX6_back_28 : decode cX6_back 28 = .ok (.getfield 40, 3) := by decide +kernel
theorem dX6_back_31 : decode cX6_back 31 = .ok (.iload_n 1, 1) := by decide +kernel
theorem dX6_back_32 : decode cX6_back 32 = .ok (.aaload, 1) := by decide +kernel
theorem dX6_back_33 : decode cX6_back 33 = .ok (.invokevirtual 261, 3) := by decide +kernel
theorem dX6_back_36 : decode cX6_back 36 = .ok (.aload_n 0, 1) := by decide +kernel
theorem dX6_back_37 : decode cX6_back 37 = .ok (.getfield 36, 3) := by decide +kernel
theorem dX6_back_40 : decode cX6_back 40 = .ok (.iconst 0, 1) := by decide +kernel
theorem dX6_back_41 : decode cX6_back 41 = .ok (.putfield 81, 3) := by decide +kernel
theorem dX6_back_44 : decode cX6_back 44 = .ok (.aload_n 0, 1) := by decide +kernel
theorem dX6_back_45 : decode cX6_back 45 = .ok (.getfield 29, 3) := by decide +kernel
theorem dX6_back_48 : decode cX6_back 48 = .ok (.getfield 110, 3) := by decide +kernel
theorem dX6_back_51 : decode cX6_back 51 = .ok (.ireturn, 1) := by decide +kernel
theorem dX6_count_0 : decode cX6_count 0 = .ok (.iload_n 1, 1) := by decide +kernel
theorem dX6_count_1 : decode cX6_count 1 = .ok (.tableswitch 99 0 6 #[43, 51, 59, 67, 75, 83, 91], 43) := by decide +kernel
theorem dX6_count_44 : decode cX6_count 44 = .ok (.aload_n 0, 1) := by decide +kernel
theorem dX6_count_45 : decode cX6_count 45 = .ok (.getfield 19, 3) := by decide +kernel
theorem dX6_count_48 : decode cX6_count 48 = .ok (.getfield 151, 3) := by decide +kernel
theorem dX6_count_51 : decode cX6_count 51 = .ok (.ireturn, 1) := by decide +kernel
theorem dX6_count_52 : decode cX6_count 52 = .ok (.aload_n 0, 1) := by decide +kernel
theorem dX6_count_53 : decode cX6_count 53 = .ok (.getfield 19, 3) := by decide +kernel
theorem dX6_count_56 : decode cX6_count 56 = .ok (.getfield 264, 3) := by decide +kernel
theorem dX6_count_59 : decode cX6_count 59 = .ok (.ireturn, 1) := by decide +kernel
theorem dX6_count_60 : decode cX6_count 60 = .ok (.aload_n 0, 1) := by decide +kernel
theorem dX6_count_61 : decode cX6_count 61 = .ok (.getfield 19, 3) := by decide +kernel
theorem dX6_count_64 : decode cX6_count 64 = .ok (.getfield 119, 3) := by decide +kernel
theorem dX6_count_67 : decode cX6_count 67 = .ok (.ireturn, 1) := by decide +kernel
theorem dX6_count_68 : decode cX6_count 68 = .ok (.aload_n 0, 1) := by decide +kernel
theorem dX6_count_69 : decode cX6_count 69 = .ok (.getfield 19, 3) := by decide +kernel
theorem dX6_count_72 : decode cX6_count 72 = .ok (.getfield 267, 3) := by decide +kernel
theorem dX6_count_75 : decode cX6_count 75 = .ok (.ireturn, 1) := by decide +kernel
theorem dX6_count_76 : decode cX6_count 76 = .ok (.aload_n 0, 1) := by decide +kernel
theorem dX6_count_77 : decode cX6_count 77 = .ok (.getfield 19, 3) := by decide +kernel
theorem dX6_count_80 : decode cX6_count 80 = .ok (.getfield 161, 3) := by decide +kernel
theorem dX6_count_83 : decode cX6_count 83 = .ok (.ireturn, 1) := by decide +kernel
theorem dX6_count_84 : decode cX6_count 84 = .ok (.aload_n 0, 1) := by decide +kernel
theorem dX6_count_85 : decode cX6_count 85 = .ok (.getfield 51, 3) := by decide +kernel
theorem dX6_count_88 : decode cX6_count 88 = .ok (.getfield 84, 3) := by decide +kernel
theorem dX6_count_91 : decode cX6_count 91 = .ok (.ireturn, 1) := by decide +kernel
theorem dX6_count_92 : decode cX6_count 92 = .ok (.aload_n 0, 1) := by decide +kernel
theorem dX6_count_93 : decode cX6_count 93 = .ok (.getfield 10, 3) := by decide +kernel
theorem dX6_count_96 : decode cX6_count 96 = .ok (.getfield 66, 3) := by decide +kernel
theorem dX6_count_99 : decode cX6_count 99 = .ok (.ireturn, 1) := by decide +kernel
theorem dX6_count_100 : decode cX6_count 100 = .ok (.iconst (-1), 1) := by decide +kernel
theorem dX6_count_101 : decode cX6_count 101 = .ok (.ireturn, 1) := by decide +kernel
theorem dX6_trace_0 : decode cX6_trace 0 = .ok (.aload_n 0, 1) := by decide +kernel
theorem dX6_trace_1 : decode cX6_trace 1 = .ok (.getfield 62, 3) := by decide +kernel
theorem dX6_trace_4 : decode cX6_trace 4 = .ok (.lreturn, 1) := by decide +kernel
theorem dX6_isTaste_0 : decode cX6_isTaste 0 = .ok (.iload_n 0, 1) := by decide +kernel
theorem dX6_isTaste_1 : decode cX6_isTaste 1 = .ok (.ifCond .lt 13, 3) := by decide +kernel
theorem dX6_isTaste_4 : decode cX6_isTaste 4 = .ok (.iload_n 0, 1) := by decide +kernel
theorem dX6_isTaste_5 : decode cX6_isTaste 5 = .ok (.bipush 6, 2) := by decide +kernel
theorem dX6_isTaste_7 : decode cX6_isTaste 7 = .ok (.if_icmp .ge 7, 3) := by decide +kernel
theorem dX6_isTaste_10 : decode cX6_isTaste 10 = .ok (.iconst 1, 1) := by decide +kernel
theorem dX6_isTaste_11 : decode cX6_isTaste 11 = .ok (.goto 4, 3) := by decide +kernel
theorem dX6_isTaste_14 : decode cX6_isTaste 14 = .ok (.iconst 0, 1) := by decide +kernel
theorem dX6_isTaste_15 : decode cX6_isTaste 15 = .ok (.ireturn, 1) := by decide +kernel
theorem dX6_hasBit_0 : decode cX6_hasBit 0 = .ok (.iload_n 0, 1) := by decide +kernel
theorem dX6_hasBit_1 : decode cX6_hasBit 1 = .ok (.iload_n 1, 1) := by decide +kernel
theorem dX6_hasBit_2 : decode cX6_hasBit 2 = .ok (.ishr, 1) := by decide +kernel
theorem dX6_hasBit_3 : decode cX6_hasBit 3 = .ok (.iconst 1, 1) := by decide +kernel
theorem dX6_hasBit_4 : decode cX6_hasBit 4 = .ok (.iand, 1) := by decide +kernel
theorem dX6_hasBit_5 : decode cX6_hasBit 5 = .ok (.iconst 1, 1) := by decide +kernel
theorem dX6_hasBit_6 : decode cX6_hasBit 6 = .ok (.if_icmp .ne 7, 3) := by decide +kernel
theorem dX6_hasBit_9 : decode cX6_hasBit 9 = .ok (.iconst 1, 1) := by decide +kernel
theorem dX6_hasBit_10 : decode cX6_hasBit 10 = .ok (.goto 4, 3) := by decide +kernel
theorem dX6_hasBit_13 : decode cX6_hasBit 13 = .ok (.iconst 0, 1) := by decide +kernel
theorem dX6_hasBit_14 : decode cX6_hasBit 14 = .ok (.ireturn, 1) := by decide +kernel
theorem dX6_lowestBit_0 : decode cX6_lowestBit 0 = .ok (.iconst 0, 1) := by decide +kernel
theorem dX6_lowestBit_1 : decode cX6_lowestBit 1 = .ok (.istore_n 1, 1) := by decide +kernel
theorem dX6_lowestBit_2 : decode cX6_lowestBit 2 = .ok (.iload_n 1, 1) := by decide +kernel
theorem dX6_lowestBit_3 : decode cX6_lowestBit 3 = .ok (.bipush 31, 2) := by decide +kernel
theorem dX6_lowestBit_5 : decode cX6_lowestBit 5 = .ok (.if_icmp .ge 19, 3) := by decide +kernel
theorem dX6_lowestBit_8 : decode cX6_lowestBit 8 = .ok (.iload_n 0, 1) := by decide +kernel
theorem dX6_lowestBit_9 : decode cX6_lowestBit 9 = .ok (.iload_n 1, 1) := by decide +kernel
theorem dX6_lowestBit_10 : decode cX6_lowestBit 10 = .ok (.invokestatic 157, 3) := by decide +kernel
theorem dX6_lowestBit_13 : decode cX6_lowestBit 13 = .ok (.ifCond .eq 5, 3) := by decide +kernel
theorem dX6_lowestBit_16 : decode cX6_lowestBit 16 = .ok (.iload_n 1, 1) := by decide +kernel
theorem dX6_lowestBit_17 : decode cX6_lowestBit 17 = .ok (.ireturn, 1) := by decide +kernel
theorem dX6_lowestBit_18 : decode cX6_lowestBit 18 = .ok (.iinc 1 1, 3) := by decide +kernel
theorem dX6_lowestBit_21 : decode cX6_lowestBit 21 = .ok (.goto (-19), 3) := by decide +kernel
theorem dX6_lowestBit_24 : decode cX6_lowestBit 24 = .ok (.bipush (-9), 2) := by decide +kernel
theorem dX6_lowestBit_26 : decode cX6_lowestBit 26 = .ok (.ireturn, 1) := by decide +kernel
theorem dX6_power_0 : decode cX6_power 0 = .ok (.iconst 1, 1) := by decide +kernel
theorem dX6_power_1 : decode cX6_power 1 = .ok (.istore_n 2, 1) := by decide +kernel
theorem dX6_power_2 : decode cX6_power 2 = .ok (.iconst 0, 1) := by decide +kernel
theorem dX6_power_3 : decode cX6_power 3 = .ok (.istore_n 3, 1) := by decide +kernel
theorem dX6_power_4 : decode cX6_power 4 = .ok (.iload_n 3, 1) := by decide +kernel
theorem dX6_power_5 : decode cX6_power 5 = .ok (.iload_n 1, 1) := by decide +kernel
theorem dX6_power_6 : decode cX6_power 6 = .ok (.if_icmp .ge 13, 3) := by decide +kernel
theorem dX6_power_9 : decode cX6_power 9 = .ok (.iload_n 2, 1) := by decide +kernel
theorem dX6_power_10 : decode cX6_power 10 = .ok (.iload_n 0, 1) := by decide +kernel
theorem dX6_power_11 : decode cX6_power 11 = .ok (.imul, 1) := by decide +kernel
theorem dX6_power_12 : decode cX6_power 12 = .ok (.istore_n 2, 1) := by decide +kernel
theorem dX6_power_13 : decode cX6_power 13 = .ok (.iinc 3 1, 3) := by decide +kernel
theorem dX6_power_16 : decode cX6_power 16 = .ok (.goto (-12), 3) := by decide +kernel
theorem dX6_power_19 : decode cX6_power 19 = .ok (.iload_n 2, 1) := by decide +kernel
theorem dX6_power_20 : decode cX6_power 20 = .ok (.ireturn, 1) := by decide +kernel
theorem dX6_choices_0 : decode cX6_choices 0 = .ok (.iconst 1, 1) := by decide +kernel
theorem dX6_choices_1 : decode cX6_choices 1 = .ok (.istore_n 2, 1) := by decide +kernel
theorem dX6_choices_2 : decode cX6_choices 2 = .ok (.iconst 1, 1) := by decide +kernel
theorem dX6_choices_3 : decode cX6_choices 3 = .ok (.istore_n 3, 1) := by decide +kernel
theorem dX6_choices_4 : decode cX6_choices 4 = .ok (.iload_n 3, 1) := by decide +kernel
theorem dX6_choices_5 : decode cX6_choices 5 = .ok (.iload_n 1, 1) := by decide +kernel
theorem dX6_choices_6 : decode cX6_choices 6 = .ok (.if_icmp .gt 19, 3) := by decide +kernel
theorem dX6_choices_9 : decode cX6_choices 9 = .ok (.iload_n 2, 1) := by decide +kernel
theorem dX6_choices_10 : decode cX6_choices 10 = .ok (.iload_n 0, 1) := by decide +kernel
theorem dX6_choices_11 : decode cX6_choices 11 = .ok (.iload_n 3, 1) := by decide +kernel
theorem dX6_choices_12 : decode cX6_choices 12 = .ok (.isub, 1) := by decide +kernel
theorem dX6_choices_13 : decode cX6_choices 13 = .ok (.iconst 1, 1) := by decide +kernel
theorem dX6_choices_14 : decode cX6_choices 14 = .ok (.iadd, 1) := by decide +kernel
theorem dX6_choices_15 : decode cX6_choices 15 = .ok (.imul, 1) := by decide +kernel
theorem dX6_choices_16 : decode cX6_choices 16 = .ok (.iload_n 3, 1) := by decide +kernel
theorem dX6_choices_17 : decode cX6_choices 17 = .ok (.idiv, 1) := by decide +kernel
theorem dX6_choices_18 : decode cX6_choices 18 = .ok (.istore_n 2, 1) := by decide +kernel
theorem dX6_choices_19 : decode cX6_choices 19 = .ok (.iinc 3 1, 3) := by decide +kernel
theorem dX6_choices_22 : decode cX6_choices 22 = .ok (.goto (-18), 3) := by decide +kernel
theorem dX6_choices_25 : decode cX6_choices 25 = .ok (.iload_n 2, 1) := by decide +kernel
theorem dX6_choices_26 : decode cX6_choices 26 = .ok (.ireturn, 1) := by decide +kernel
theorem dX6_greatestDivisor_0 : decode cX6_greatestDivisor 0 = .ok (.iload_n 0, 1) := by decide +kernel
theorem dX6_greatestDivisor_1 : decode cX6_greatestDivisor 1 = .ok (.istore_n 2, 1) := by decide +kernel
theorem dX6_greatestDivisor_2 : decode cX6_greatestDivisor 2 = .ok (.iload_n 1, 1) := by decide +kernel
theorem dX6_greatestDivisor_3 : decode cX6_greatestDivisor 3 = .ok (.istore_n 3, 1) := by decide +kernel
theorem dX6_greatestDivisor_4 : decode cX6_greatestDivisor 4 = .ok (.iconst 0, 1) := by decide +kernel
theorem dX6_greatestDivisor_5 : decode cX6_greatestDivisor 5 = .ok (.istore 4, 2) := by decide +kernel
theorem dX6_greatestDivisor_7 : decode cX6_greatestDivisor 7 = .ok (.iload 4, 2) := by decide +kernel
theorem dX6_greatestDivisor_9 : decode cX6_greatestDivisor 9 = .ok (.bipush 64, 2) := by decide +kernel
theorem dX6_greatestDivisor_11 : decode cX6_greatestDivisor 11 = .ok (.if_icmp .ge 23, 3) := by decide +kernel
theorem dX6_greatestDivisor_14 : decode cX6_greatestDivisor 14 = .ok (.iload_n 3, 1) := by decide +kernel
theorem dX6_greatestDivisor_15 : decode cX6_greatestDivisor 15 = .ok (.ifCond .eq 19, 3) := by decide +kernel
theorem dX6_greatestDivisor_18 : decode cX6_greatestDivisor 18 = .ok (.iload_n 2, 1) := by decide +kernel
theorem dX6_greatestDivisor_19 : decode cX6_greatestDivisor 19 = .ok (.iload_n 3, 1) := by decide +kernel
theorem dX6_greatestDivisor_20 : decode cX6_greatestDivisor 20 = .ok (.irem, 1) := by decide +kernel
theorem dX6_greatestDivisor_21 : decode cX6_greatestDivisor 21 = .ok (.istore 5, 2) := by decide +kernel
theorem dX6_greatestDivisor_23 : decode cX6_greatestDivisor 23 = .ok (.iload_n 3, 1) := by decide +kernel
theorem dX6_greatestDivisor_24 : decode cX6_greatestDivisor 24 = .ok (.istore_n 2, 1) := by decide +kernel
theorem dX6_greatestDivisor_25 : decode cX6_greatestDivisor 25 = .ok (.iload 5, 2) := by decide +kernel
theorem dX6_greatestDivisor_27 : decode cX6_greatestDivisor 27 = .ok (.istore_n 3, 1) := by decide +kernel
theorem dX6_greatestDivisor_28 : decode cX6_greatestDivisor 28 = .ok (.iinc 4 1, 3) := by decide +kernel
theorem dX6_greatestDivisor_31 : decode cX6_greatestDivisor 31 = .ok (.goto (-24), 3) := by decide +kernel
theorem dX6_greatestDivisor_34 : decode cX6_greatestDivisor 34 = .ok (.iconst 1, 1) := by decide +kernel
theorem dX6_greatestDivisor_35 : decode cX6_greatestDivisor 35 = .ok (.iload_n 2, 1) := by decide +kernel
theorem dX6_greatestDivisor_36 : decode cX6_greatestDivisor 36 = .ok (.invokestatic 211, 3) := by decide +kernel
theorem dX6_greatestDivisor_39 : decode cX6_greatestDivisor 39 = .ok (.ireturn, 1) := by decide +kernel
